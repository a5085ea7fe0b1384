theorem dL_cell_0 : decode cL_cell 0 = .ok (.iload_n 1, 1) := by decide +kernel
theorem dL_cell_1 : decode cL_cell 1 = .ok (.aload_n 0, 1) := by decide +kernel
theorem dL_cell_2 : decode cL_cell 2 = .ok (.arraylength, 1) := by decide +kernel
theorem dL_cell_3 : decode cL_cell 3 = .ok (.if_icmp .ge 12, 3) := by decide +kernel
theorem dL_cell_6 : decode cL_cell 6 = .ok (.aload_n 0, 1) := by decide +kernel
theorem dL_cell_7 : decode cL_cell 7 = .ok (.iload_n 1, 1) := by decide +kernel
theorem dL_cell_8 : decode cL_cell 8 = .ok (.iaload, 1) := by decide +kernel
theorem dL_cell_9 : decode cL_cell 9 = .ok (.ldc 7, 2) := by decide +kernel
theorem dL_cell_11 : decode cL_cell 11 = .ok (.iand, 1) := by decide +kernel
theorem dL_cell_12 : decode cL_cell 12 = .ok (.goto 4, 3) := by decide +kernel
theorem dL_cell_15 : decode cL_cell 15 = .ok (.iconst 0, 1) := by decide +kernel
theorem dL_cell_16 : decode cL_cell 16 = .ok (.ireturn, 1) := by decide +kernel
theorem dL_says_0 : decode cL_says 0 = .ok (.iconst 0, 1) := by decide +kernel
theorem dL_says_1 : decode cL_says 1 = .ok (.istore_n 2, 1) := by decide +kernel
theorem dL_says_2 : decode cL_says 2 = .ok (.iload_n 2, 1) := by decide +kernel
theorem dL_says_3 : decode cL_says 3 = .ok (.aload_n 1, 1) := by decide +kernel
theorem dL_says_4 : decode cL_says 4 = .ok (.invokevirtual 8, 3) := by decide +kernel
theorem dL_says_7 : decode cL_says 7 = .ok (.if_icmp .ge 89, 3) := by decide +kernel
theorem dL_says_10 : decode cL_says 10 = .ok (.iconst 5, 1) := by decide +kernel
theorem dL_says_11 : decode cL_says 11 = .ok (.newarray .int, 2) := by decide +kernel
theorem dL_says_13 : decode cL_says 13 = .ok (.astore_n 3, 1) := by decide +kernel
theorem dL_says_14 : decode cL_says 14 = .ok (.iconst 0, 1) := by decide +kernel
theorem dL_says_15 : decode cL_says 15 = .ok (.istore 4, 2) := by decide +kernel
theorem dL_says_17 : decode cL_says 17 = .ok (.iload 4, 2) := by decide +kernel
theorem dL_says_19 : decode cL_says 19 = .ok (.bipush 20, 2) := by decide +kernel
theorem dL_says_21 : decode cL_says 21 = .ok (.if_icmp .ge 49, 3) := by decide +kernel
theorem dL_says_24 : decode cL_says 24 = .ok (.aload_n 3, 1) := by decide +kernel
theorem dL_says_25 : decode cL_says 25 = .ok (.iload 4, 2) := by decide +kernel
theorem dL_says_27 : decode cL_says 27 = .ok (.iconst 4, 1) := by decide +kernel
theorem dL_says_28 : decode cL_says 28 = .ok (.idiv, 1) := by decide +kernel
theorem dL_says_29 : decode cL_says 29 = .ok (.aload_n 3, 1) := by decide +kernel
theorem dL_says_30 : decode cL_says 30 = .ok (.iload 4, 2) := by decide +kernel
theorem dL_says_32 : decode cL_says 32 = .ok (.iconst 4, 1) := by decide +kernel
theorem dL_says_33 : decode cL_says 33 = .ok (.idiv, 1) := by decide +kernel
theorem dL_says_34 : decode cL_says 34 = .ok (.iaload, 1) := by decide +kernel
theorem dL_says_35 : decode cL_says 35 = .ok (.bipush 8, 2) := by decide +kernel
theorem dL_says_37 : decode cL_says 37 = .ok (.ishl, 1) := by decide +kernel
theorem dL_says_38 : decode cL_says 38 = .ok (.iload_n 2, 1) := by decide +kernel
theorem dL_says_39 : decode cL_says 39 = .ok (.iload 4, 2) := by decide +kernel
theorem dL_says_41 : decode cL_says 41 = .ok (.iadd, 1) := by decide +kernel
theorem dL_says_42 : decode cL_says 42 = .ok (.aload_n 1, 1) := by decide +kernel
theorem dL_says_43 : decode cL_says 43 = .ok (.invokevirtual 8, 3) := by decide +kernel
theorem dL_says_46 : decode cL_says 46 = .ok (.if_icmp .ge 14, 3) := by decide +kernel
theorem dL_says_49 : decode cL_says 49 = .ok (.aload_n 1, 1) := by decide +kernel
theorem dL_says_50 : decode cL_says 50 = .ok (.iload_n 2, 1) := by decide +kernel
theorem dL_says_51 : decode cL_says 51 = .ok (.iload 4, 2) := by decide +kernel
theorem dL_says_53 : decode cL_says 53 = .ok (.iadd, 1) := by decide +kernel
theorem dL_says_54 : decode cL_says 54 = .ok (.invokevirtual 14, 3) := by decide +kernel
theorem dL_says_57 : decode cL_says 57 = .ok (.goto 5, 3) := by decide +kernel
theorem dL_says_60 : decode cL_says 60 = .ok (.bipush 32, 2) := by decide +kernel
theorem dL_says_62 : decode cL_says 62 = .ok (.ior, 1) := by decide +kernel
theorem dL_says_63 : decode cL_says 63 = .ok (.iastore, 1) := by decide +kernel
theorem dL_says_64 : decode cL_says 64 = .ok (.iinc 4 1, 3) := by decide +kernel
theorem dL_says_67 : decode cL_says 67 = .ok (.goto (-50), 3) := by decide +kernel
theorem dL_says_70 : decode cL_says 70 = .ok (.aload_n 0, 1) := by decide +kernel
theorem dL_says_71 : decode cL_says 71 = .ok (.aload_n 3, 1) := by decide +kernel
theorem dL_says_72 : decode cL_says 72 = .ok (.iconst 0, 1) := by decide +kernel
theorem dL_says_73 : decode cL_says 73 = .ok (.iaload, 1) := by decide +kernel
theorem dL_says_74 : decode cL_says 74 = .ok (.aload_n 3, 1) := by decide +kernel
theorem dL_says_75 : decode cL_says 75 = .ok (.iconst 1, 1) := by decide +kernel
theorem dL_says_76 : decode cL_says 76 = .ok (.iaload, 1) := by decide +kernel
theorem dL_says_77 : decode cL_says 77 = .ok (.aload_n 3, 1) := by decide +kernel
theorem dL_says_78 : decode cL_says 78 = .ok (.iconst 2, 1) := by decide +kernel
theorem dL_says_79 : decode cL_says 79 = .ok (.iaload, 1) := by decide +kernel
theorem dL_says_80 : decode cL_says 80 = .ok (.aload_n 3, 1) := by decide +kernel
theorem dL_says_81 : decode cL_says 81 = .ok (.iconst 3, 1) := by decide +kernel
theorem dL_says_82 : decode cL_says 82 = .ok (.iaload, 1) := by decide +kernel
theorem dL_says_83 : decode cL_says 83 = .ok (.aload_n 3, 1) := by decide +kernel
theorem dL_says_84 : decode cL_says 84 = .ok (.iconst 4, 1) := by decide +kernel
theorem dL_says_85 : decode cL_says 85 = .ok (.iaload, 1) := by decide +kernel
theorem dL_says_86 : decode cL_says 86 = .ok (.invokevirtual 18, 3) := by decide +kernel
theorem dL_says_89 : decode cL_says 89 = .ok (.pop, 1) := by decide +kernel
theorem dL_says_90 : decode cL_says 90 = .ok (.iinc 2 20, 3) := by decide +kernel
theorem dL_says_93 : decode cL_says 93 = .ok (.goto (-91), 3) := by decide +kernel
theorem dL_says_96 : decode cL_says 96 = .ok (.aload_n 0, 1) := by decide +kernel
theorem dL_says_97 : decode cL_says 97 = .ok (.aload_n 1, 1) := by decide +kernel
theorem dL_says_98 : decode cL_says 98 = .ok (.invokevirtual 8, 3) := by decide +kernel
theorem dL_says_101 : decode cL_says 101 = .ok (.invokevirtual 24, 3) := by decide +kernel
theorem dL_says_104 : decode cL_says 104 = .ok (.pop, 1) := by decide +kernel
theorem dL_says_105 : decode cL_says 105 = .ok (.return_, 1) := by decide +kernel
theorem dL_loaded_0 : decode cL_loaded 0 = .ok (.aload_n 0, 1) := by decide +kernel
theorem dL_loaded_1 : decode cL_loaded 1 = .ok (.invokevirtual 28, 3) := by decide +kernel
theorem dL_loaded_4 : decode cL_loaded 4 = .ok (.ireturn, 1) := by decide +kernel
theorem dL_loaded_5 : decode cL_loaded 5 = .ok (.astore_n 1, 1) := by decide +kernel
theorem dL_loaded_6 : decode cL_loaded 6 = .ok (.bipush (-9), 2) := by decide +kernel
theorem dL_loaded_8 : decode cL_loaded 8 = .ok (.ireturn, 1) := by decide +kernel
theorem dL_document_0 : decode cL_document 0 = .ok (.iconst 1, 1) := by decide +kernel
theorem dL_document_1 : decode cL_document 1 = .ok (.iload_n 0, 1) := by decide +kernel
theorem dL_document_2 : decode cL_document 2 = .ok (.bipush 14, 2) := by decide +kernel
theorem dL_document_4 : decode cL_document 4 = .ok (.irem, 1) := by decide +kernel
theorem dL_document_5 : decode cL_document 5 = .ok (.iadd, 1) := by decide +kernel
theorem dL_document_6 : decode cL_document 6 = .ok (.newarray .int, 2) := by decide +kernel
theorem dL_document_8 : decode cL_document 8 = .ok (.astore_n 2, 1) := by decide +kernel
theorem dL_document_9 : decode cL_document 9 = .ok (.iconst 0, 1) := by decide +kernel
theorem dL_document_10 : decode cL_document 10 = .ok (.istore_n 3, 1) := by decide +kernel
theorem dL_document_11 : decode cL_document 11 = .ok (.iload_n 3, 1) := by decide +kernel
theorem dL_document_12 : decode cL_document 12 = .ok (.aload_n 2, 1) := by decide +kernel
theorem dL_document_13 : decode cL_document 13 = .ok (.arraylength, 1) := by decide +kernel
theorem dL_document_14 : decode cL_document 14 = .ok (.if_icmp .ge 52, 3) := by decide +kernel
theorem dL_document_17 : decode cL_document 17 = .ok (.iload_n 3, 1) := by decide +kernel
theorem dL_document_18 : decode cL_document 18 = .ok (.bipush 7, 2) := by decide +kernel
theorem dL_document_20 : decode cL_document 20 = .ok (.if_icmp .ge 10, 3) := by decide +kernel
theorem dL_document_23 : decode cL_document 23 = .ok (.iload_n 0, 1) := by decide +kernel
theorem dL_document_24 : decode cL_document 24 = .ok (.bipush 16, 2) := by decide +kernel
theorem dL_document_26 : decode cL_document 26 = .ok (.idiv, 1) := by decide +kernel
theorem dL_document_27 : decode cL_document 27 = .ok (.goto 4, 3) := by decide +kernel
theorem dL_document_30 : decode cL_document 30 = .ok (.iload_n 1, 1) := by decide +kernel
theorem dL_document_31 : decode cL_document 31 = .ok (.iconst 1, 1) := by decide +kernel
theorem dL_document_32 : decode cL_document 32 = .ok (.iconst 5, 1) := by decide +kernel
theorem dL_document_33 : decode cL_document 33 = .ok (.iload_n 3, 1) := by decide +kernel
theorem dL_document_34 : decode cL_document 34 = .ok (.bipush 7, 2) := by decide +kernel
theorem dL_document_36 : decode cL_document 36 = .ok (.irem, 1) := by decide +kernel
theorem dL_document_37 : decode cL_document 37 = .ok (.imul, 1) := by decide +kernel
theorem dL_document_38 : decode cL_document 38 = .ok (.iadd, 1) := by decide +kernel
theorem dL_document_39 : decode cL_document 39 = .ok (.idiv, 1) := by decide +kernel
theorem dL_document_40 : decode cL_document 40 = .ok (.iconst 5, 1) := by decide +kernel
theorem dL_document_41 : decode cL_document 41 = .ok (.irem, 1) := by decide +kernel
theorem dL_document_42 : decode cL_document 42 = .ok (.istore 4, 2) := by decide +kernel
theorem dL_document_44 : decode cL_document 44 = .ok (.aload_n 2, 1) := by decide +kernel
theorem dL_document_45 : decode cL_document 45 = .ok (.iload_n 3, 1) := by decide +kernel
theorem dL_document_46 : decode cL_document 46 = .ok (.iload 4, 2) := by decide +kernel
theorem dL_document_48 : decode cL_document 48 = .ok (.iconst 4, 1) := by decide +kernel
theorem dL_document_49 : decode cL_document 49 = .ok (.if_icmp .ne 8, 3) := by decide +kernel
theorem dL_document_52 : decode cL_document 52 = .ok (.bipush 26, 2) := by decide +kernel
theorem dL_document_54 : decode cL_document 54 = .ok (.goto 5, 3) := by decide +kernel
theorem dL_document_57 : decode cL_document 57 = .ok (.iload 4, 2) := by decide +kernel
theorem dL_document_59 : decode cL_document 59 = .ok (.iastore, 1) := by decide +kernel
theorem dL_document_60 : decode cL_document 60 = .ok (.iinc 3 1, 3) := by decide +kernel
theorem dL_document_63 : decode cL_document 63 = .ok (.goto (-52), 3) := by decide +kernel
theorem dL_document_66 : decode cL_document 66 = .ok (.aload_n 2, 1) := by decide +kernel
theorem dL_document_67 : decode cL_document 67 = .ok (.areturn, 1) := by decide +kernel
theorem dL_word_0 : decode cL_word 0 = .ok (.new 33, 3) := by decide +kernel
theorem dL_word_3 : decode cL_word 3 = .ok (.dup, 1) := by decide +kernel
theorem dL_word_4 : decode cL_word 4 = .ok (.invokespecial 35, 3) := by decide +kernel
theorem dL_word_7 : decode cL_word 7 = .ok (.astore_n 1, 1) := by decide +kernel
theorem dL_word_8 : decode cL_word 8 = .ok (.iconst 0, 1) := by decide +kernel
theorem dL_word_9 : decode cL_word 9 = .ok (.istore_n 2, 1) := by decide +kernel
theorem dL_word_10 : decode cL_word 10 = .ok (.iload_n 2, 1) := by decide +kernel
theorem dL_word_11 : decode cL_word 11 = .ok (.aload_n 0, 1) := by decide +kernel
theorem dL_word_12 : decode cL_word 12 = .ok (.arraylength, 1) := by decide +kernel
theorem dL_word_13 : decode cL_word 13 = .ok (.if_icmp .ge 35, 3) := by decide +kernel
theorem dL_word_16 : decode cL_word 16 = .ok (.aload_n 1, 1) := by decide +kernel
theorem dL_word_17 : decode cL_word 17 = .ok (.aload_n 0, 1) := by decide +kernel
theorem dL_word_18 : decode cL_word 18 = .ok (.iload_n 2, 1) := by decide +kernel
theorem dL_word_19 : decode cL_word 19 = .ok (.iaload, 1) := by decide +kernel
theorem dL_word_20 : decode cL_word 20 = .ok (.bipush 26, 2) := by decide +kernel
theorem dL_word_22 : decode cL_word 22 = .ok (.if_icmp .ne 8, 3) := by decide +kernel
theorem dL_word_25 : decode cL_word 25 = .ok (.bipush 95, 2) := by decide +kernel
theorem dL_word_27 : decode cL_word 27 = .ok (.goto 11, 3) := by decide +kernel
theorem dL_word_30 : decode cL_word 30 = .ok (.ldc 36, 2) := by decide +kernel
theorem dL_word_32 : decode cL_word 32 = .ok (.aload_n 0, 1) := by decide +kernel
theorem dL_word_33 : decode cL_word 33 = .ok (.iload_n 2, 1) := by decide +kernel
theorem dL_word_34 : decode cL_word 34 = .ok (.iaload, 1) := by decide +kernel
theorem dL_word_35 : decode cL_word 35 = .ok (.invokevirtual 14, 3) := by decide +kernel
theorem dL_word_38 : decode cL_word 38 = .ok (.invokevirtual 38, 3) := by decide +kernel
theorem dL_word_41 : decode cL_word 41 = .ok (.pop, 1) := by decide +kernel
theorem dL_word_42 : decode cL_word 42 = .ok (.iinc 2 1, 3) := by decide +kernel
theorem dL_word_45 : decode cL_word 45 = .ok (.goto (-35), 3) := by decide +kernel
theorem dL_word_48 : decode cL_word 48 = .ok (.aload_n 1, 1) := by decide +kernel
theorem dL_word_49 : decode cL_word 49 = .ok (.invokevirtual 42, 3) := by decide +kernel
theorem dL_word_52 : decode cL_word 52 = .ok (.areturn, 1) := by decide +kernel
theorem dL_text_0 : decode cL_text 0 = .ok (.aload_n 0, 1) := by decide +kernel
theorem dL_text_1 : decode cL_text 1 = .ok (.iconst 0, 1) := by decide +kernel
theorem dL_text_2 : decode cL_text 2 = .ok (.invokestatic 46, 3) := by decide +kernel
theorem dL_text_5 : decode cL_text 5 = .ok (.istore_n 1, 1) := by decide +kernel
theorem dL_text_6 : decode cL_text 6 = .ok (.iconst 1, 1) := by decide +kernel
theorem dL_text_7 : decode cL_text 7 = .ok (.iload_n 1, 1) := by decide +kernel
theorem dL_text_8 : decode cL_text 8 = .ok (.iconst 3, 1) := by decide +kernel
theorem dL_text_9 : decode cL_text 9 = .ok (.irem, 1) := by decide +kernel
theorem dL_text_10 : decode cL_text 10 = .ok (.iadd, 1) := by decide +kernel
theorem dL_text_11 : decode cL_text 11 = .ok (.istore_n 2, 1) := by decide +kernel
theorem dL_text_12 : decode cL_text 12 = .ok (.iconst 1, 1) := by decide +kernel
theorem dL_text_13 : decode cL_text 13 = .ok (.iload_n 1, 1) := by decide +kernel
theorem dL_text_14 : decode cL_text 14 = .ok (.iconst 4, 1) := by decide +kernel
theorem dL_text_15 : decode cL_text 15 = .ok (.idiv, 1) := by decide +kernel
theorem dL_text_16 : decode cL_text 16 = .ok (.iconst 3, 1) := by decide +kernel
theorem dL_text_17 : decode cL_text 17 = .ok (.irem, 1) := by decide +kernel
theorem dL_text_18 : decode cL_text 18 = .ok (.iadd, 1) := by decide +kernel
theorem dL_text_19 : decode cL_text 19 = .ok (.istore_n 3, 1) := by decide +kernel
theorem dL_text_20 : decode cL_text 20 = .ok (.new 33, 3) := by decide +kernel
theorem dL_text_23 : decode cL_text 23 = .ok (.dup, 1) := by decide +kernel
theorem dL_text_24 : decode cL_text 24 = .ok (.invokespecial 35, 3) := by decide +kernel
theorem dL_text_27 : decode cL_text 27 = .ok (.astore 4, 2) := by decide +kernel
theorem dL_text_29 : decode cL_text 29 = .ok (.iconst 0, 1) := by decide +kernel
theorem dL_text_30 : decode cL_text 30 = .ok (.istore 5, 2) := by decide +kernel
theorem dL_text_32 : decode cL_text 32 = .ok (.iload 5, 2) := by decide +kernel
theorem dL_text_34 : decode cL_text 34 = .ok (.iload_n 2, 1) := by decide +kernel
theorem dL_text_35 : decode cL_text 35 = .ok (.if_icmp .ge 56, 3) := by decide +kernel
theorem dL_text_38 : decode cL_text 38 = .ok (.aload 4, 2) := by decide +kernel
theorem dL_text_40 : decode cL_text 40 = .ok (.ldc 52, 2) := by decide +kernel
theorem dL_text_42 : decode cL_text 42 = .ok (.invokevirtual 54, 3) := by decide +kernel
theorem dL_text_45 : decode cL_text 45 = .ok (.ldc 57, 2) := by decide +kernel
theorem dL_text_47 : decode cL_text 47 = .ok (.iload 5, 2) := by decide +kernel
theorem dL_text_49 : decode cL_text 49 = .ok (.invokevirtual 14, 3) := by decide +kernel
theorem dL_text_52 : decode cL_text 52 = .ok (.invokevirtual 38, 3) := by decide +kernel
theorem dL_text_55 : decode cL_text 55 = .ok (.bipush 32, 2) := by decide +kernel
theorem dL_text_57 : decode cL_text 57 = .ok (.invokevirtual 38, 3) := by decide +kernel
theorem dL_text_60 : decode cL_text 60 = .ok (.ldc 59, 2) := by decide +kernel
theorem dL_text_62 : decode cL_text 62 = .ok (.iload_n 1, 1) := by decide +kernel
theorem dL_text_63 : decode cL_text 63 = .ok (.bipush 16, 2) := by decide +kernel
theorem dL_text_65 : decode cL_text 65 = .ok (.iconst 5, 1) := by decide +kernel
theorem dL_text_66 : decode cL_text 66 = .ok (.iload 5, 2) := by decide +kernel
theorem dL_text_68 : decode cL_text 68 = .ok (.imul, 1) := by decide +kernel
theorem dL_text_69 : decode cL_text 69 = .ok (.iadd, 1) := by decide +kernel
theorem dL_text_70 : decode cL_text 70 = .ok (.idiv, 1) := by decide +kernel
theorem dL_text_71 : decode cL_text 71 = .ok (.iconst 3, 1) := by decide +kernel
theorem dL_text_72 : decode cL_text 72 = .ok (.irem, 1) := by decide +kernel
theorem dL_text_73 : decode cL_text 73 = .ok (.invokevirtual 14, 3) := by decide +kernel
theorem dL_text_76 : decode cL_text 76 = .ok (.invokevirtual 38, 3) := by decide +kernel
theorem dL_text_79 : decode cL_text 79 = .ok (.bipush 59, 2) := by decide +kernel
theorem dL_text_81 : decode cL_text 81 = .ok (.invokevirtual 38, 3) := by decide +kernel
theorem dL_text_84 : decode cL_text 84 = .ok (.pop, 1) := by decide +kernel
theorem dL_text_85 : decode cL_text 85 = .ok (.iinc 5 1, 3) := by decide +kernel
theorem dL_text_88 : decode cL_text 88 = .ok (.goto (-56), 3) := by decide +kernel
theorem dL_text_91 : decode cL_text 91 = .ok (.iconst 0, 1) := by decide +kernel
theorem dL_text_92 : decode cL_text 92 = .ok (.istore 5, 2) := by decide +kernel
theorem dL_text_94 : decode cL_text 94 = .ok (.iload 5, 2) := by decide +kernel
theorem dL_text_96 : decode cL_text 96 = .ok (.iload_n 3, 1) := by decide +kernel
theorem dL_text_97 : decode cL_text 97 = .ok (.if_icmp .ge 51, 3) := by decide +kernel
theorem dL_text_100 : decode cL_text 100 = .ok (.aload 4, 2) := by decide +kernel
theorem dL_text_102 : decode cL_text 102 = .ok (.ldc 61, 2) := by decide +kernel
theorem dL_text_104 : decode cL_text 104 = .ok (.invokevirtual 54, 3) := by decide +kernel
theorem dL_text_107 : decode cL_text 107 = .ok (.aload_n 0, 1) := by decide +kernel
theorem dL_text_108 : decode cL_text 108 = .ok (.iconst 1, 1) := by decide +kernel
theorem dL_text_109 : decode cL_text 109 = .ok (.iconst 2, 1) := by decide +kernel
theorem dL_text_110 : decode cL_text 110 = .ok (.iload 5, 2) := by decide +kernel
theorem dL_text_112 : decode cL_text 112 = .ok (.imul, 1) := by decide +kernel
theorem dL_text_113 : decode cL_text 113 = .ok (.iadd, 1) := by decide +kernel
theorem dL_text_114 : decode cL_text 114 = .ok (.invokestatic 46, 3) := by decide +kernel
theorem dL_text_117 : decode cL_text 117 = .ok (.aload_n 0, 1) := by decide +kernel
theorem dL_text_118 : decode cL_text 118 = .ok (.iconst 2, 1) := by decide +kernel
theorem dL_text_119 : decode cL_text 119 = .ok (.iconst 2, 1) := by decide +kernel
theorem dL_text_120 : decode cL_text 120 = .ok (.iload 5, 2) := by decide +kernel
theorem dL_text_122 : decode cL_text 122 = .ok (.imul, 1) := by decide +kernel
theorem dL_text_123 : decode cL_text 123 = .ok (.iadd, 1) := by decide +kernel
theorem dL_text_124 : decode cL_text 124 = .ok (.invokestatic 46, 3) := by decide +kernel
theorem dL_text_127 : decode cL_text 127 = .ok (.invokestatic 63, 3) := by decide +kernel
theorem dL_text_130 : decode cL_text 130 = .ok (.invokestatic 67, 3) := by decide +kernel
theorem dL_text_133 : decode cL_text 133 = .ok (.invokevirtual 54, 3) := by decide +kernel
theorem dL_text_136 : decode cL_text 136 = .ok (.bipush 59, 2) := by decide +kernel
theorem dL_text_138 : decode cL_text 138 = .ok (.invokevirtual 38, 3) := by decide +kernel
theorem dL_text_141 : decode cL_text 141 = .ok (.pop, 1) := by decide +kernel
theorem dL_text_142 : decode cL_text 142 = .ok (.iinc 5 1, 3) := by decide +kernel
theorem dL_text_145 : decode cL_text 145 = .ok (.goto (-51), 3) := by decide +kernel
theorem dL_text_148 : decode cL_text 148 = .ok (.iload_n 1, 1) := by decide +kernel
theorem dL_text_149 : decode cL_text 149 = .ok (.sipush 512, 3) := by decide +kernel
theorem dL_text_152 : decode cL_text 152 = .ok (.idiv, 1) := by decide +kernel
theorem dL_text_153 : decode cL_text 153 = .ok (.bipush 7, 2) := by decide +kernel
theorem dL_text_155 : decode cL_text 155 = .ok (.irem, 1) := by decide +kernel
theorem dL_text_156 : decode cL_text 156 = .ok (.istore 5, 2) := by decide +kernel
theorem dL_text_158 : decode cL_text 158 = .ok (.iload 5, 2) := by decide +kernel
theorem dL_text_160 : decode cL_text 160 = .ok (.ifCond .le 87, 3) := by decide +kernel
theorem dL_text_163 : decode cL_text 163 = .ok (.aload_n 0, 1) := by decide +kernel
theorem dL_text_164 : decode cL_text 164 = .ok (.bipush 7, 2) := by decide +kernel
theorem dL_text_166 : decode cL_text 166 = .ok (.invokestatic 46, 3) := by decide +kernel
theorem dL_text_169 : decode cL_text 169 = .ok (.iconst 1, 1) := by decide +kernel
theorem dL_text_170 : decode cL_text 170 = .ok (.bipush 11, 2) := by decide +kernel
theorem dL_text_172 : decode cL_text 172 = .ok (.iload 5, 2) := by decide +kernel
theorem dL_text_174 : decode cL_text 174 = .ok (.imul, 1) := by decide +kernel
theorem dL_text_175 : decode cL_text 175 = .ok (.iadd, 1) := by decide +kernel
theorem dL_text_176 : decode cL_text 176 = .ok (.idiv, 1) := by decide +kernel
theorem dL_text_177 : decode cL_text 177 = .ok (.istore 6, 2) := by decide +kernel
theorem dL_text_179 : decode cL_text 179 = .ok (.iload 6, 2) := by decide +kernel
theorem dL_text_181 : decode cL_text 181 = .ok (.bipush 7, 2) := by decide +kernel
theorem dL_text_183 : decode cL_text 183 = .ok (.irem, 1) := by decide +kernel
theorem dL_text_184 : decode cL_text 184 = .ok (.ifCond .ne 14, 3) := by decide +kernel
theorem dL_text_187 : decode cL_text 187 = .ok (.aload 4, 2) := by decide +kernel
theorem dL_text_189 : decode cL_text 189 = .ok (.ldc 71, 2) := by decide +kernel
theorem dL_text_191 : decode cL_text 191 = .ok (.invokevirtual 54, 3) := by decide +kernel
theorem dL_text_194 : decode cL_text 194 = .ok (.pop, 1) := by decide +kernel
theorem dL_text_195 : decode cL_text 195 = .ok (.goto 46, 3) := by decide +kernel
theorem dL_text_198 : decode cL_text 198 = .ok (.aload 4, 2) := by decide +kernel
theorem dL_text_200 : decode cL_text 200 = .ok (.ldc 73, 2) := by decide +kernel
theorem dL_text_202 : decode cL_text 202 = .ok (.invokevirtual 54, 3) := by decide +kernel
theorem dL_text_205 : decode cL_text 205 = .ok (.ldc 57, 2) := by decide +kernel
theorem dL_text_207 : decode cL_text 207 = .ok (.iload 6, 2) := by decide +kernel
theorem dL_text_209 : decode cL_text 209 = .ok (.bipush 8, 2) := by decide +kernel
theorem dL_text_211 : decode cL_text 211 = .ok (.idiv, 1) := by decide +kernel
theorem dL_text_212 : decode cL_text 212 = .ok (.iload_n 2, 1) := by decide +kernel
theorem dL_text_213 : decode cL_text 213 = .ok (.irem, 1) := by decide +kernel
theorem dL_text_214 : decode cL_text 214 = .ok (.invokevirtual 14, 3) := by decide +kernel
theorem dL_text_217 : decode cL_text 217 = .ok (.invokevirtual 38, 3) := by decide +kernel
theorem dL_text_220 : decode cL_text 220 = .ok (.bipush 32, 2) := by decide +kernel
theorem dL_text_222 : decode cL_text 222 = .ok (.invokevirtual 38, 3) := by decide +kernel
theorem dL_text_225 : decode cL_text 225 = .ok (.iload 6, 2) := by decide +kernel
theorem dL_text_227 : decode cL_text 227 = .ok (.bipush 64, 2) := by decide +kernel
theorem dL_text_229 : decode cL_text 229 = .ok (.idiv, 1) := by decide +kernel
theorem dL_text_230 : decode cL_text 230 = .ok (.iload_n 3, 1) := by decide +kernel
theorem dL_text_231 : decode cL_text 231 = .ok (.irem, 1) := by decide +kernel
theorem dL_text_232 : decode cL_text 232 = .ok (.invokevirtual 75, 3) := by decide +kernel
theorem dL_text_235 : decode cL_text 235 = .ok (.bipush 59, 2) := by decide +kernel
theorem dL_text_237 : decode cL_text 237 = .ok (.invokevirtual 38, 3) := by decide +kernel
theorem dL_text_240 : decode cL_text 240 = .ok (.pop, 1) := by decide +kernel
theorem dL_text_241 : decode cL_text 241 = .ok (.iinc 5 (-1), 3) := by decide +kernel
theorem dL_text_244 : decode cL_text 244 = .ok (.goto (-86), 3) := by decide +kernel
theorem dL_text_247 : decode cL_text 247 = .ok (.aload 4, 2) := by decide +kernel
theorem dL_text_249 : decode cL_text 249 = .ok (.invokevirtual 42, 3) := by decide +kernel
theorem dL_text_252 : decode cL_text 252 = .ok (.areturn, 1) := by decide +kernel
theorem dL_acts_0 : decode cL_acts 0 = .ok (.iload_n 1, 1) := by decide +kernel
theorem dL_acts_1 : decode cL_acts 1 = .ok (.bipush 8, 2) := by decide +kernel
theorem dL_acts_3 : decode cL_acts 3 = .ok (.idiv, 1) := by decide +kernel
theorem dL_acts_4 : decode cL_acts 4 = .ok (.istore_n 2, 1) := by decide +kernel
theorem dL_acts_5 : decode cL_acts 5 = .ok (.iload_n 2, 1) := by decide +kernel
theorem dL_acts_6 : decode cL_acts 6 = .ok (.aload_n 0, 1) := by decide +kernel
theorem dL_acts_7 : decode cL_acts 7 = .ok (.invokevirtual 78, 3) := by decide +kernel
theorem dL_acts_10 : decode cL_acts 10 = .ok (.irem, 1) := by decide +kernel
theorem dL_acts_11 : decode cL_acts 11 = .ok (.istore_n 3, 1) := by decide +kernel
theorem dL_acts_12 : decode cL_acts 12 = .ok (.iload_n 3, 1) := by decide +kernel
theorem dL_acts_13 : decode cL_acts 13 = .ok (.iconst 1, 1) := by decide +kernel
theorem dL_acts_14 : decode cL_acts 14 = .ok (.iadd, 1) := by decide +kernel
theorem dL_acts_15 : decode cL_acts 15 = .ok (.aload_n 0, 1) := by decide +kernel
theorem dL_acts_16 : decode cL_acts 16 = .ok (.invokevirtual 78, 3) := by decide +kernel
theorem dL_acts_19 : decode cL_acts 19 = .ok (.irem, 1) := by decide +kernel
theorem dL_acts_20 : decode cL_acts 20 = .ok (.istore 4, 2) := by decide +kernel
theorem dL_acts_22 : decode cL_acts 22 = .ok (.iload_n 2, 1) := by decide +kernel
theorem dL_acts_23 : decode cL_acts 23 = .ok (.bipush 8, 2) := by decide +kernel
theorem dL_acts_25 : decode cL_acts 25 = .ok (.idiv, 1) := by decide +kernel
theorem dL_acts_26 : decode cL_acts 26 = .ok (.aload_n 0, 1) := by decide +kernel
theorem dL_acts_27 : decode cL_acts 27 = .ok (.invokevirtual 81, 3) := by decide +kernel
theorem dL_acts_30 : decode cL_acts 30 = .ok (.irem, 1) := by decide +kernel
theorem dL_acts_31 : decode cL_acts 31 = .ok (.istore 5, 2) := by decide +kernel
theorem dL_acts_33 : decode cL_acts 33 = .ok (.iload_n 1, 1) := by decide +kernel
theorem dL_acts_34 : decode cL_acts 34 = .ok (.bipush 8, 2) := by decide +kernel
theorem dL_acts_36 : decode cL_acts 36 = .ok (.irem, 1) := by decide +kernel
theorem dL_acts_37 : decode cL_acts 37 = .ok (.tableswitch 132 0 5 #[39, 63, 88, 100, 124, 124], 39) := by decide +kernel
theorem dL_acts_76 : decode cL_acts 76 = .ok (.iload_n 2, 1) := by decide +kernel
theorem dL_acts_77 : decode cL_acts 77 = .ok (.bipush 64, 2) := by decide +kernel
theorem dL_acts_79 : decode cL_acts 79 = .ok (.idiv, 1) := by decide +kernel
theorem dL_acts_80 : decode cL_acts 80 = .ok (.iconst 3, 1) := by decide +kernel
theorem dL_acts_81 : decode cL_acts 81 = .ok (.irem, 1) := by decide +kernel
theorem dL_acts_82 : decode cL_acts 82 = .ok (.ifCond .ne 10, 3) := by decide +kernel
theorem dL_acts_85 : decode cL_acts 85 = .ok (.aload_n 0, 1) := by decide +kernel
theorem dL_acts_86 : decode cL_acts 86 = .ok (.invokevirtual 84, 3) := by decide +kernel
theorem dL_acts_89 : decode cL_acts 89 = .ok (.goto 10, 3) := by decide +kernel
theorem dL_acts_92 : decode cL_acts 92 = .ok (.aload_n 0, 1) := by decide +kernel
theorem dL_acts_93 : decode cL_acts 93 = .ok (.iload_n 3, 1) := by decide +kernel
theorem dL_acts_94 : decode cL_acts 94 = .ok (.iload 5, 2) := by decide +kernel
theorem dL_acts_96 : decode cL_acts 96 = .ok (.invokevirtual 87, 3) := by decide +kernel
theorem dL_acts_99 : decode cL_acts 99 = .ok (.ireturn, 1) := by decide +kernel
theorem dL_acts_100 : decode cL_acts 100 = .ok (.iload_n 2, 1) := by decide +kernel
theorem dL_acts_101 : decode cL_acts 101 = .ok (.bipush 64, 2) := by decide +kernel
theorem dL_acts_103 : decode cL_acts 103 = .ok (.idiv, 1) := by decide +kernel
theorem dL_acts_104 : decode cL_acts 104 = .ok (.iconst 4, 1) := by decide +kernel
theorem dL_acts_105 : decode cL_acts 105 = .ok (.irem, 1) := by decide +kernel
theorem dL_acts_106 : decode cL_acts 106 = .ok (.ifCond .ne 11, 3) := by decide +kernel
theorem dL_acts_109 : decode cL_acts 109 = .ok (.aload_n 0, 1) := by decide +kernel
theorem dL_acts_110 : decode cL_acts 110 = .ok (.iload_n 3, 1) := by decide +kernel
theorem dL_acts_111 : decode cL_acts 111 = .ok (.invokevirtual 91, 3) := by decide +kernel
theorem dL_acts_114 : decode cL_acts 114 = .ok (.goto 10, 3) := by decide +kernel
theorem dL_acts_117 : decode cL_acts 117 = .ok (.aload_n 0, 1) := by decide +kernel
theorem dL_acts_118 : decode cL_acts 118 = .ok (.iload_n 3, 1) := by decide +kernel
theorem dL_acts_119 : decode cL_acts 119 = .ok (.iload 5, 2) := by decide +kernel
theorem dL_acts_121 : decode cL_acts 121 = .ok (.invokevirtual 94, 3) := by decide +kernel
theorem dL_acts_124 : decode cL_acts 124 = .ok (.ireturn, 1) := by decide +kernel
theorem dL_acts_125 : decode cL_acts 125 = .ok (.aload_n 0, 1) := by decide +kernel
theorem dL_acts_126 : decode cL_acts 126 = .ok (.iload_n 3, 1) := by decide +kernel
theorem dL_acts_127 : decode cL_acts 127 = .ok (.iload_n 2, 1) := by decide +kernel
theorem dL_acts_128 : decode cL_acts 128 = .ok (.bipush 64, 2) := by decide +kernel
theorem dL_acts_130 : decode cL_acts 130 = .ok (.idiv, 1) := by decide +kernel
theorem dL_acts_131 : decode cL_acts 131 = .ok (.iconst 3, 1) := by decide +kernel
theorem dL_acts_132 : decode cL_acts 132 = .ok (.irem, 1) := by decide +kernel
theorem dL_acts_133 : decode cL_acts 133 = .ok (.invokevirtual 97, 3) := by decide +kernel
theorem dL_acts_136 : decode cL_acts 136 = .ok (.ireturn, 1) := by decide +kernel
theorem dL_acts_137 : decode cL_acts 137 = .ok (.iload_n 3, 1) := by decide +kernel
theorem dL_acts_138 : decode cL_acts 138 = .ok (.iload 4, 2) := by decide +kernel
theorem dL_acts_140 : decode cL_acts 140 = .ok (.if_icmp .ne 13, 3) := by decide +kernel
theorem dL_acts_143 : decode cL_acts 143 = .ok (.aload_n 0, 1) := by decide +kernel
theorem dL_acts_144 : decode cL_acts 144 = .ok (.iload_n 3, 1) := by decide +kernel
theorem dL_acts_145 : decode cL_acts 145 = .ok (.iload 5, 2) := by decide +kernel
theorem dL_acts_147 : decode cL_acts 147 = .ok (.invokevirtual 87, 3) := by decide +kernel
theorem dL_acts_150 : decode cL_acts 150 = .ok (.goto 10, 3) := by decide +kernel
theorem dL_acts_153 : decode cL_acts 153 = .ok (.aload_n 0, 1) := by decide +kernel
theorem dL_acts_154 : decode cL_acts 154 = .ok (.iload_n 3, 1) := by decide +kernel
theorem dL_acts_155 : decode cL_acts 155 = .ok (.iload 4, 2) := by decide +kernel
theorem dL_acts_157 : decode cL_acts 157 = .ok (.invokevirtual 100, 3) := by decide +kernel
theorem dL_acts_160 : decode cL_acts 160 = .ok (.ireturn, 1) := by decide +kernel
theorem dL_acts_161 : decode cL_acts 161 = .ok (.aload_n 0, 1) := by decide +kernel
theorem dL_acts_162 : decode cL_acts 162 = .ok (.iload_n 3, 1) := by decide +kernel
theorem dL_acts_163 : decode cL_acts 163 = .ok (.iload 5, 2) := by decide +kernel
theorem dL_acts_165 : decode cL_acts 165 = .ok (.invokevirtual 94, 3) := by decide +kernel
theorem dL_acts_168 : decode cL_acts 168 = .ok (.ireturn, 1) := by decide +kernel
theorem dL_acts_169 : decode cL_acts 169 = .ok (.aload_n 0, 1) := by decide +kernel
theorem dL_acts_170 : decode cL_acts 170 = .ok (.iload_n 3, 1) := by decide +kernel
theorem dL_acts_171 : decode cL_acts 171 = .ok (.iload 5, 2) := by decide +kernel
theorem dL_acts_173 : decode cL_acts 173 = .ok (.invokevirtual 87, 3) := by decide +kernel
theorem dL_acts_176 : decode cL_acts 176 = .ok (.ireturn, 1) := by decide +kernel
theorem dL_law_0 : decode cL_law 0 = .ok (.new 19, 3) := by decide +kernel
theorem dL_law_3 : decode cL_law 3 = .ok (.dup, 1) := by decide +kernel
theorem dL_law_4 : decode cL_law 4 = .ok (.invokespecial 103, 3) := by decide +kernel
theorem dL_law_7 : decode cL_law 7 = .ok (.astore_n 1, 1) := by decide +kernel
theorem dL_law_8 : decode cL_law 8 = .ok (.aload_n 1, 1) := by decide +kernel
theorem dL_law_9 : decode cL_law 9 = .ok (.aload_n 0, 1) := by decide +kernel
theorem dL_law_10 : decode cL_law 10 = .ok (.invokestatic 104, 3) := by decide +kernel
theorem dL_law_13 : decode cL_law 13 = .ok (.invokestatic 107, 3) := by decide +kernel
theorem dL_law_16 : decode cL_law 16 = .ok (.aload_n 1, 1) := by decide +kernel
theorem dL_law_17 : decode cL_law 17 = .ok (.invokestatic 111, 3) := by decide +kernel
theorem dL_law_20 : decode cL_law 20 = .ok (.aload_n 1, 1) := by decide +kernel
theorem dL_law_21 : decode cL_law 21 = .ok (.invokevirtual 78, 3) := by decide +kernel
theorem dL_law_24 : decode cL_law 24 = .ok (.if_icmp .ne 10, 3) := by decide +kernel
theorem dL_law_27 : decode cL_law 27 = .ok (.aload_n 1, 1) := by decide +kernel
theorem dL_law_28 : decode cL_law 28 = .ok (.invokevirtual 115, 3) := by decide +kernel
theorem dL_law_31 : decode cL_law 31 = .ok (.ifCond .eq 5, 3) := by decide +kernel
theorem dL_law_34 : decode cL_law 34 = .ok (.iconst 0, 1) := by decide +kernel
theorem dL_law_35 : decode cL_law 35 = .ok (.ireturn, 1) := by decide +kernel
theorem dL_law_36 : decode cL_law 36 = .ok (.bipush 8, 2) := by decide +kernel
theorem dL_law_38 : decode cL_law 38 = .ok (.istore_n 2, 1) := by decide +kernel
theorem dL_law_39 : decode cL_law 39 = .ok (.iload_n 2, 1) := by decide +kernel
theorem dL_law_40 : decode cL_law 40 = .ok (.bipush 18, 2) := by decide +kernel
theorem dL_law_42 : decode cL_law 42 = .ok (.if_icmp .ge 49, 3) := by decide +kernel
theorem dL_law_45 : decode cL_law 45 = .ok (.aload_n 1, 1) := by decide +kernel
theorem dL_law_46 : decode cL_law 46 = .ok (.aload_n 0, 1) := by decide +kernel
theorem dL_law_47 : decode cL_law 47 = .ok (.iload_n 2, 1) := by decide +kernel
theorem dL_law_48 : decode cL_law 48 = .ok (.invokestatic 46, 3) := by decide +kernel
theorem dL_law_51 : decode cL_law 51 = .ok (.invokestatic 118, 3) := by decide +kernel
theorem dL_law_54 : decode cL_law 54 = .ok (.ifCond .ne 5, 3) := by decide +kernel
theorem dL_law_57 : decode cL_law 57 = .ok (.iconst 0, 1) := by decide +kernel
theorem dL_law_58 : decode cL_law 58 = .ok (.ireturn, 1) := by decide +kernel
theorem dL_law_59 : decode cL_law 59 = .ok (.iconst 0, 1) := by decide +kernel
theorem dL_law_60 : decode cL_law 60 = .ok (.istore_n 3, 1) := by decide +kernel
theorem dL_law_61 : decode cL_law 61 = .ok (.iload_n 3, 1) := by decide +kernel
theorem dL_law_62 : decode cL_law 62 = .ok (.aload_n 1, 1) := by decide +kernel
theorem dL_law_63 : decode cL_law 63 = .ok (.invokevirtual 78, 3) := by decide +kernel
theorem dL_law_66 : decode cL_law 66 = .ok (.if_icmp .ge 19, 3) := by decide +kernel
theorem dL_law_69 : decode cL_law 69 = .ok (.aload_n 1, 1) := by decide +kernel
theorem dL_law_70 : decode cL_law 70 = .ok (.iload_n 3, 1) := by decide +kernel
theorem dL_law_71 : decode cL_law 71 = .ok (.invokevirtual 122, 3) := by decide +kernel
theorem dL_law_74 : decode cL_law 74 = .ok (.ifCond .eq 5, 3) := by decide +kernel
theorem dL_law_77 : decode cL_law 77 = .ok (.iconst 0, 1) := by decide +kernel
theorem dL_law_78 : decode cL_law 78 = .ok (.ireturn, 1) := by decide +kernel
theorem dL_law_79 : decode cL_law 79 = .ok (.iinc 3 1, 3) := by decide +kernel
theorem dL_law_82 : decode cL_law 82 = .ok (.goto (-21), 3) := by decide +kernel
theorem dL_law_85 : decode cL_law 85 = .ok (.iinc 2 1, 3) := by decide +kernel
theorem dL_law_88 : decode cL_law 88 = .ok (.goto (-49), 3) := by decide +kernel
theorem dL_law_91 : decode cL_law 91 = .ok (.bipush 18, 2) := by decide +kernel
theorem dL_law_93 : decode cL_law 93 = .ok (.istore_n 2, 1) := by decide +kernel
theorem dL_law_94 : decode cL_law 94 = .ok (.iload_n 2, 1) := by decide +kernel
theorem dL_law_95 : decode cL_law 95 = .ok (.bipush 22, 2) := by decide +kernel
theorem dL_law_97 : decode cL_law 97 = .ok (.if_icmp .ge 23, 3) := by decide +kernel
theorem dL_law_100 : decode cL_law 100 = .ok (.aload_n 1, 1) := by decide +kernel
theorem dL_law_101 : decode cL_law 101 = .ok (.aload_n 0, 1) := by decide +kernel
theorem dL_law_102 : decode cL_law 102 = .ok (.iload_n 2, 1) := by decide +kernel
theorem dL_law_103 : decode cL_law 103 = .ok (.invokestatic 46, 3) := by decide +kernel
theorem dL_law_106 : decode cL_law 106 = .ok (.invokestatic 125, 3) := by decide +kernel
theorem dL_law_109 : decode cL_law 109 = .ok (.ifCond .ne 5, 3) := by decide +kernel
theorem dL_law_112 : decode cL_law 112 = .ok (.iconst 0, 1) := by decide +kernel
theorem dL_law_113 : decode cL_law 113 = .ok (.ireturn, 1) := by decide +kernel
theorem dL_law_114 : decode cL_law 114 = .ok (.iinc 2 1, 3) := by decide +kernel
theorem dL_law_117 : decode cL_law 117 = .ok (.goto (-23), 3) := by decide +kernel
theorem dL_law_120 : decode cL_law 120 = .ok (.iconst 1, 1) := by decide +kernel
theorem dL_law_121 : decode cL_law 121 = .ok (.ireturn, 1) := by decide +kernel
theorem dL_counts_0 : decode cL_counts 0 = .ok (.iconst 3, 1) := by decide +kernel
theorem dL_counts_1 : decode cL_counts 1 = .ok (.aload_n 0, 1) := by decide +kernel
theorem dL_counts_2 : decode cL_counts 2 = .ok (.iload_n 2, 1) := by decide +kernel
theorem dL_counts_3 : decode cL_counts 3 = .ok (.invokevirtual 128, 3) := by decide +kernel
theorem dL_counts_6 : decode cL_counts 6 = .ok (.imul, 1) := by decide +kernel
theorem dL_counts_7 : decode cL_counts 7 = .ok (.newarray .int, 2) := by decide +kernel
theorem dL_counts_9 : decode cL_counts 9 = .ok (.astore_n 3, 1) := by decide +kernel
theorem dL_counts_10 : decode cL_counts 10 = .ok (.iconst 0, 1) := by decide +kernel
theorem dL_counts_11 : decode cL_counts 11 = .ok (.istore 4, 2) := by decide +kernel
theorem dL_counts_13 : decode cL_counts 13 = .ok (.iload 4, 2) := by decide +kernel
theorem dL_counts_15 : decode cL_counts 15 = .ok (.aload_n 0, 1) := by decide +kernel
theorem dL_counts_16 : decode cL_counts 16 = .ok (.iload_n 2, 1) := by decide +kernel
theorem dL_counts_17 : decode cL_counts 17 = .ok (.invokevirtual 128, 3) := by decide +kernel
theorem dL_counts_20 : decode cL_counts 20 = .ok (.if_icmp .ge 108, 3) := by decide +kernel
theorem dL_counts_23 : decode cL_counts 23 = .ok (.aload_n 0, 1) := by decide +kernel
theorem dL_counts_24 : decode cL_counts 24 = .ok (.iload_n 2, 1) := by decide +kernel
theorem dL_counts_25 : decode cL_counts 25 = .ok (.iload 4, 2) := by decide +kernel
theorem dL_counts_27 : decode cL_counts 27 = .ok (.invokevirtual 131, 3) := by decide +kernel
theorem dL_counts_30 : decode cL_counts 30 = .ok (.istore 5, 2) := by decide +kernel
theorem dL_counts_32 : decode cL_counts 32 = .ok (.aload_n 3, 1) := by decide +kernel
theorem dL_counts_33 : decode cL_counts 33 = .ok (.iconst 3, 1) := by decide +kernel
theorem dL_counts_34 : decode cL_counts 34 = .ok (.iload 4, 2) := by decide +kernel
theorem dL_counts_36 : decode cL_counts 36 = .ok (.imul, 1) := by decide +kernel
theorem dL_counts_37 : decode cL_counts 37 = .ok (.aload_n 0, 1) := by decide +kernel
theorem dL_counts_38 : decode cL_counts 38 = .ok (.iload_n 1, 1) := by decide +kernel
theorem dL_counts_39 : decode cL_counts 39 = .ok (.iload 5, 2) := by decide +kernel
theorem dL_counts_41 : decode cL_counts 41 = .ok (.invokevirtual 134, 3) := by decide +kernel
theorem dL_counts_44 : decode cL_counts 44 = .ok (.iastore, 1) := by decide +kernel
theorem dL_counts_45 : decode cL_counts 45 = .ok (.aload_n 3, 1) := by decide +kernel
theorem dL_counts_46 : decode cL_counts 46 = .ok (.iconst 3, 1) := by decide +kernel
theorem dL_counts_47 : decode cL_counts 47 = .ok (.iload 4, 2) := by decide +kernel
theorem dL_counts_49 : decode cL_counts 49 = .ok (.imul, 1) := by decide +kernel
theorem dL_counts_50 : decode cL_counts 50 = .ok (.iconst 1, 1) := by decide +kernel
theorem dL_counts_51 : decode cL_counts 51 = .ok (.iadd, 1) := by decide +kernel
theorem dL_counts_52 : decode cL_counts 52 = .ok (.iload 4, 2) := by decide +kernel
theorem dL_counts_54 : decode cL_counts 54 = .ok (.iconst 1, 1) := by decide +kernel
theorem dL_counts_55 : decode cL_counts 55 = .ok (.if_icmp .ge 7, 3) := by decide +kernel
theorem dL_counts_58 : decode cL_counts 58 = .ok (.iconst 0, 1) := by decide +kernel
theorem dL_counts_59 : decode cL_counts 59 = .ok (.goto 19, 3) := by decide +kernel
theorem dL_counts_62 : decode cL_counts 62 = .ok (.aload_n 0, 1) := by decide +kernel
theorem dL_counts_63 : decode cL_counts 63 = .ok (.iload_n 1, 1) := by decide +kernel
theorem dL_counts_64 : decode cL_counts 64 = .ok (.aload_n 0, 1) := by decide +kernel
theorem dL_counts_65 : decode cL_counts 65 = .ok (.iload_n 2, 1) := by decide +kernel
theorem dL_counts_66 : decode cL_counts 66 = .ok (.iload 4, 2) := by decide +kernel
theorem dL_counts_68 : decode cL_counts 68 = .ok (.iconst 1, 1) := by decide +kernel
theorem dL_counts_69 : decode cL_counts 69 = .ok (.isub, 1) := by decide +kernel
theorem dL_counts_70 : decode cL_counts 70 = .ok (.invokevirtual 131, 3) := by decide +kernel
theorem dL_counts_73 : decode cL_counts 73 = .ok (.iload 5, 2) := by decide +kernel
theorem dL_counts_75 : decode cL_counts 75 = .ok (.invokevirtual 137, 3) := by decide +kernel
theorem dL_counts_78 : decode cL_counts 78 = .ok (.iastore, 1) := by decide +kernel
theorem dL_counts_79 : decode cL_counts 79 = .ok (.aload_n 3, 1) := by decide +kernel
theorem dL_counts_80 : decode cL_counts 80 = .ok (.iconst 3, 1) := by decide +kernel
theorem dL_counts_81 : decode cL_counts 81 = .ok (.iload 4, 2) := by decide +kernel
theorem dL_counts_83 : decode cL_counts 83 = .ok (.imul, 1) := by decide +kernel
theorem dL_counts_84 : decode cL_counts 84 = .ok (.iconst 2, 1) := by decide +kernel
theorem dL_counts_85 : decode cL_counts 85 = .ok (.iadd, 1) := by decide +kernel
theorem dL_counts_86 : decode cL_counts 86 = .ok (.iload 4, 2) := by decide +kernel
theorem dL_counts_88 : decode cL_counts 88 = .ok (.iconst 2, 1) := by decide +kernel
theorem dL_counts_89 : decode cL_counts 89 = .ok (.if_icmp .ge 7, 3) := by decide +kernel
theorem dL_counts_92 : decode cL_counts 92 = .ok (.iconst 0, 1) := by decide +kernel
theorem dL_counts_93 : decode cL_counts 93 = .ok (.goto 28, 3) := by decide +kernel
theorem dL_counts_96 : decode cL_counts 96 = .ok (.aload_n 0, 1) := by decide +kernel
theorem dL_counts_97 : decode cL_counts 97 = .ok (.iload_n 1, 1) := by decide +kernel
theorem dL_counts_98 : decode cL_counts 98 = .ok (.aload_n 0, 1) := by decide +kernel
theorem dL_counts_99 : decode cL_counts 99 = .ok (.iload_n 2, 1) := by decide +kernel
theorem dL_counts_100 : decode cL_counts 100 = .ok (.iload 4, 2) := by decide +kernel
theorem dL_counts_102 : decode cL_counts 102 = .ok (.iconst 2, 1) := by decide +kernel
theorem dL_counts_103 : decode cL_counts 103 = .ok (.isub, 1) := by decide +kernel
theorem dL_counts_104 : decode cL_counts 104 = .ok (.invokevirtual 131, 3) := by decide +kernel
theorem dL_counts_107 : decode cL_counts 107 = .ok (.aload_n 0, 1) := by decide +kernel
theorem dL_counts_108 : decode cL_counts 108 = .ok (.iload_n 2, 1) := by decide +kernel
theorem dL_counts_109 : decode cL_counts 109 = .ok (.iload 4, 2) := by decide +kernel
theorem dL_counts_111 : decode cL_counts 111 = .ok (.iconst 1, 1) := by decide +kernel
theorem dL_counts_112 : decode cL_counts 112 = .ok (.isub, 1) := by decide +kernel
theorem dL_counts_113 : decode cL_counts 113 = .ok (.invokevirtual 131, 3) := by decide +kernel
theorem dL_counts_116 : decode cL_counts 116 = .ok (.iload 5, 2) := by decide +kernel
theorem dL_counts_118 : decode cL_counts 118 = .ok (.invokevirtual 141, 3) := by decide +kernel
theorem dL_counts_121 : decode cL_counts 121 = .ok (.iastore, 1) := by decide +kernel
theorem dL_counts_122 : decode cL_counts 122 = .ok (.iinc 4 1, 3) := by decide +kernel
theorem dL_counts_125 : decode cL_counts 125 = .ok (.goto (-112), 3) := by decide +kernel
theorem dL_counts_128 : decode cL_counts 128 = .ok (.aload_n 3, 1) := by decide +kernel
theorem dL_counts_129 : decode cL_counts 129 = .ok (.areturn, 1) := by decide +kernel
theorem dL_times_0 : decode cL_times 0 = .ok (.iconst 0, 1) := by decide +kernel
theorem dL_times_1 : decode cL_times 1 = .ok (.istore 4, 2) := by decide +kernel
theorem dL_times_3 : decode cL_times 3 = .ok (.iload_n 3, 1) := by decide +kernel
theorem dL_times_4 : decode cL_times 4 = .ok (.iconst 1, 1) := by decide +kernel
theorem dL_times_5 : decode cL_times 5 = .ok (.isub, 1) := by decide +kernel
theorem dL_times_6 : decode cL_times 6 = .ok (.istore 5, 2) := by decide +kernel
theorem dL_times_8 : decode cL_times 8 = .ok (.iload 5, 2) := by decide +kernel
theorem dL_times_10 : decode cL_times 10 = .ok (.aload_n 0, 1) := by decide +kernel
theorem dL_times_11 : decode cL_times 11 = .ok (.iload_n 1, 1) := by decide +kernel
theorem dL_times_12 : decode cL_times 12 = .ok (.invokevirtual 128, 3) := by decide +kernel
theorem dL_times_15 : decode cL_times 15 = .ok (.if_icmp .ge 69, 3) := by decide +kernel
theorem dL_times_18 : decode cL_times 18 = .ok (.iconst 1, 1) := by decide +kernel
theorem dL_times_19 : decode cL_times 19 = .ok (.istore 6, 2) := by decide +kernel
theorem dL_times_21 : decode cL_times 21 = .ok (.iconst 0, 1) := by decide +kernel
theorem dL_times_22 : decode cL_times 22 = .ok (.istore 7, 2) := by decide +kernel
theorem dL_times_24 : decode cL_times 24 = .ok (.iload 7, 2) := by decide +kernel
theorem dL_times_26 : decode cL_times 26 = .ok (.iload_n 3, 1) := by decide +kernel
theorem dL_times_27 : decode cL_times 27 = .ok (.if_icmp .ge 43, 3) := by decide +kernel
theorem dL_times_30 : decode cL_times 30 = .ok (.iload 6, 2) := by decide +kernel
theorem dL_times_32 : decode cL_times 32 = .ok (.ifCond .eq 29, 3) := by decide +kernel
theorem dL_times_35 : decode cL_times 35 = .ok (.aload_n 0, 1) := by decide +kernel
theorem dL_times_36 : decode cL_times 36 = .ok (.iload_n 1, 1) := by decide +kernel
theorem dL_times_37 : decode cL_times 37 = .ok (.iload 5, 2) := by decide +kernel
theorem dL_times_39 : decode cL_times 39 = .ok (.iload 7, 2) := by decide +kernel
theorem dL_times_41 : decode cL_times 41 = .ok (.isub, 1) := by decide +kernel
theorem dL_times_42 : decode cL_times 42 = .ok (.invokevirtual 131, 3) := by decide +kernel
theorem dL_times_45 : decode cL_times 45 = .ok (.aload_n 0, 1) := by decide +kernel
theorem dL_times_46 : decode cL_times 46 = .ok (.iload_n 1, 1) := by decide +kernel
theorem dL_times_47 : decode cL_times 47 = .ok (.iload_n 2, 1) := by decide +kernel
theorem dL_times_48 : decode cL_times 48 = .ok (.iload 7, 2) := by decide +kernel
theorem dL_times_50 : decode cL_times 50 = .ok (.isub, 1) := by decide +kernel
theorem dL_times_51 : decode cL_times 51 = .ok (.invokevirtual 131, 3) := by decide +kernel
theorem dL_times_54 : decode cL_times 54 = .ok (.if_icmp .ne 7, 3) := by decide +kernel
theorem dL_times_57 : decode cL_times 57 = .ok (.iconst 1, 1) := by decide +kernel
theorem dL_times_58 : decode cL_times 58 = .ok (.goto 4, 3) := by decide +kernel
theorem dL_times_61 : decode cL_times 61 = .ok (.iconst 0, 1) := by decide +kernel
theorem dL_times_62 : decode cL_times 62 = .ok (.istore 6, 2) := by decide +kernel
theorem dL_times_64 : decode cL_times 64 = .ok (.iinc 7 1, 3) := by decide +kernel
theorem dL_times_67 : decode cL_times 67 = .ok (.goto (-43), 3) := by decide +kernel
theorem dL_times_70 : decode cL_times 70 = .ok (.iload 6, 2) := by decide +kernel
theorem dL_times_72 : decode cL_times 72 = .ok (.ifCond .eq 6, 3) := by decide +kernel
theorem dL_times_75 : decode cL_times 75 = .ok (.iinc 4 1, 3) := by decide +kernel
theorem dL_times_78 : decode cL_times 78 = .ok (.iinc 5 1, 3) := by decide +kernel
theorem dL_times_81 : decode cL_times 81 = .ok (.goto (-73), 3) := by decide +kernel
theorem dL_times_84 : decode cL_times 84 = .ok (.iload 4, 2) := by decide +kernel
theorem dL_times_86 : decode cL_times 86 = .ok (.ireturn, 1) := by decide +kernel
theorem dL_isTold_0 : decode cL_isTold 0 = .ok (.iload_n 1, 1) := by decide +kernel
theorem dL_isTold_1 : decode cL_isTold 1 = .ok (.bipush 8, 2) := by decide +kernel
theorem dL_isTold_3 : decode cL_isTold 3 = .ok (.idiv, 1) := by decide +kernel
theorem dL_isTold_4 : decode cL_isTold 4 = .ok (.istore_n 2, 1) := by decide +kernel
theorem dL_isTold_5 : decode cL_isTold 5 = .ok (.aload_n 0, 1) := by decide +kernel
theorem dL_isTold_6 : decode cL_isTold 6 = .ok (.invokevirtual 78, 3) := by decide +kernel
theorem dL_isTold_9 : decode cL_isTold 9 = .ok (.istore_n 3, 1) := by decide +kernel
theorem dL_isTold_10 : decode cL_isTold 10 = .ok (.iload_n 2, 1) := by decide +kernel
theorem dL_isTold_11 : decode cL_isTold 11 = .ok (.iload_n 3, 1) := by decide +kernel
theorem dL_isTold_12 : decode cL_isTold 12 = .ok (.irem, 1) := by decide +kernel
theorem dL_isTold_13 : decode cL_isTold 13 = .ok (.istore 4, 2) := by decide +kernel
theorem dL_isTold_15 : decode cL_isTold 15 = .ok (.iload 4, 2) := by decide +kernel
theorem dL_isTold_17 : decode cL_isTold 17 = .ok (.iconst 1, 1) := by decide +kernel
theorem dL_isTold_18 : decode cL_isTold 18 = .ok (.iadd, 1) := by decide +kernel
theorem dL_isTold_19 : decode cL_isTold 19 = .ok (.iload_n 3, 1) := by decide +kernel
theorem dL_isTold_20 : decode cL_isTold 20 = .ok (.irem, 1) := by decide +kernel
theorem dL_isTold_21 : decode cL_isTold 21 = .ok (.istore 5, 2) := by decide +kernel
theorem dL_isTold_23 : decode cL_isTold 23 = .ok (.iload_n 2, 1) := by decide +kernel
theorem dL_isTold_24 : decode cL_isTold 24 = .ok (.bipush 8, 2) := by decide +kernel
theorem dL_isTold_26 : decode cL_isTold 26 = .ok (.idiv, 1) := by decide +kernel
theorem dL_isTold_27 : decode cL_isTold 27 = .ok (.aload_n 0, 1) := by decide +kernel
theorem dL_isTold_28 : decode cL_isTold 28 = .ok (.invokevirtual 81, 3) := by decide +kernel
theorem dL_isTold_31 : decode cL_isTold 31 = .ok (.irem, 1) := by decide +kernel
theorem dL_isTold_32 : decode cL_isTold 32 = .ok (.istore 6, 2) := by decide +kernel
theorem dL_isTold_34 : decode cL_isTold 34 = .ok (.iload_n 1, 1) := by decide +kernel
theorem dL_isTold_35 : decode cL_isTold 35 = .ok (.bipush 8, 2) := by decide +kernel
theorem dL_isTold_37 : decode cL_isTold 37 = .ok (.irem, 1) := by decide +kernel
theorem dL_isTold_38 : decode cL_isTold 38 = .ok (.ifCond .ne 16, 3) := by decide +kernel
theorem dL_isTold_41 : decode cL_isTold 41 = .ok (.iload_n 2, 1) := by decide +kernel
theorem dL_isTold_42 : decode cL_isTold 42 = .ok (.bipush 64, 2) := by decide +kernel
theorem dL_isTold_44 : decode cL_isTold 44 = .ok (.idiv, 1) := by decide +kernel
theorem dL_isTold_45 : decode cL_isTold 45 = .ok (.iconst 3, 1) := by decide +kernel
theorem dL_isTold_46 : decode cL_isTold 46 = .ok (.irem, 1) := by decide +kernel
theorem dL_isTold_47 : decode cL_isTold 47 = .ok (.ifCond .ne 7, 3) := by decide +kernel
theorem dL_isTold_50 : decode cL_isTold 50 = .ok (.iconst 1, 1) := by decide +kernel
theorem dL_isTold_51 : decode cL_isTold 51 = .ok (.goto 4, 3) := by decide +kernel
theorem dL_isTold_54 : decode cL_isTold 54 = .ok (.iconst 0, 1) := by decide +kernel
theorem dL_isTold_55 : decode cL_isTold 55 = .ok (.istore 7, 2) := by decide +kernel
theorem dL_isTold_57 : decode cL_isTold 57 = .ok (.iload_n 1, 1) := by decide +kernel
theorem dL_isTold_58 : decode cL_isTold 58 = .ok (.bipush 8, 2) := by decide +kernel
theorem dL_isTold_60 : decode cL_isTold 60 = .ok (.irem, 1) := by decide +kernel
theorem dL_isTold_61 : decode cL_isTold 61 = .ok (.iconst 1, 1) := by decide +kernel
theorem dL_isTold_62 : decode cL_isTold 62 = .ok (.if_icmp .ne 16, 3) := by decide +kernel
theorem dL_isTold_65 : decode cL_isTold 65 = .ok (.iload_n 2, 1) := by decide +kernel
theorem dL_isTold_66 : decode cL_isTold 66 = .ok (.bipush 64, 2) := by decide +kernel
theorem dL_isTold_68 : decode cL_isTold 68 = .ok (.idiv, 1) := by decide +kernel
theorem dL_isTold_69 : decode cL_isTold 69 = .ok (.iconst 4, 1) := by decide +kernel
theorem dL_isTold_70 : decode cL_isTold 70 = .ok (.irem, 1) := by decide +kernel
theorem dL_isTold_71 : decode cL_isTold 71 = .ok (.ifCond .ne 7, 3) := by decide +kernel
theorem dL_isTold_74 : decode cL_isTold 74 = .ok (.iconst 1, 1) := by decide +kernel
theorem dL_isTold_75 : decode cL_isTold 75 = .ok (.goto 4, 3) := by decide +kernel
theorem dL_isTold_78 : decode cL_isTold 78 = .ok (.iconst 0, 1) := by decide +kernel
theorem dL_isTold_79 : decode cL_isTold 79 = .ok (.istore 8, 2) := by decide +kernel
theorem dL_isTold_81 : decode cL_isTold 81 = .ok (.iload_n 1, 1) := by decide +kernel
theorem dL_isTold_82 : decode cL_isTold 82 = .ok (.bipush 8, 2) := by decide +kernel
theorem dL_isTold_84 : decode cL_isTold 84 = .ok (.irem, 1) := by decide +kernel
theorem dL_isTold_85 : decode cL_isTold 85 = .ok (.iconst 2, 1) := by decide +kernel
theorem dL_isTold_86 : decode cL_isTold 86 = .ok (.if_icmp .ne 7, 3) := by decide +kernel
theorem dL_isTold_89 : decode cL_isTold 89 = .ok (.iconst 1, 1) := by decide +kernel
theorem dL_isTold_90 : decode cL_isTold 90 = .ok (.goto 4, 3) := by decide +kernel
theorem dL_isTold_93 : decode cL_isTold 93 = .ok (.iconst 0, 1) := by decide +kernel
theorem dL_isTold_94 : decode cL_isTold 94 = .ok (.istore 9, 2) := by decide +kernel
theorem dL_isTold_96 : decode cL_isTold 96 = .ok (.iload_n 1, 1) := by decide +kernel
theorem dL_isTold_97 : decode cL_isTold 97 = .ok (.bipush 8, 2) := by decide +kernel
theorem dL_isTold_99 : decode cL_isTold 99 = .ok (.irem, 1) := by decide +kernel
theorem dL_isTold_100 : decode cL_isTold 100 = .ok (.iconst 3, 1) := by decide +kernel
theorem dL_isTold_101 : decode cL_isTold 101 = .ok (.if_icmp .ne 14, 3) := by decide +kernel
theorem dL_isTold_104 : decode cL_isTold 104 = .ok (.iload 4, 2) := by decide +kernel
theorem dL_isTold_106 : decode cL_isTold 106 = .ok (.iload 5, 2) := by decide +kernel
theorem dL_isTold_108 : decode cL_isTold 108 = .ok (.if_icmp .eq 7, 3) := by decide +kernel
theorem dL_isTold_111 : decode cL_isTold 111 = .ok (.iconst 1, 1) := by decide +kernel
theorem dL_isTold_112 : decode cL_isTold 112 = .ok (.goto 4, 3) := by decide +kernel
theorem dL_isTold_115 : decode cL_isTold 115 = .ok (.iconst 0, 1) := by decide +kernel
theorem dL_isTold_116 : decode cL_isTold 116 = .ok (.istore 10, 2) := by decide +kernel
theorem dL_isTold_118 : decode cL_isTold 118 = .ok (.iload 7, 2) := by decide +kernel
theorem dL_isTold_120 : decode cL_isTold 120 = .ok (.ifCond .ne 22, 3) := by decide +kernel
theorem dL_isTold_123 : decode cL_isTold 123 = .ok (.iload 8, 2) := by decide +kernel
theorem dL_isTold_125 : decode cL_isTold 125 = .ok (.ifCond .ne 17, 3) := by decide +kernel
theorem dL_isTold_128 : decode cL_isTold 128 = .ok (.iload 9, 2) := by decide +kernel
theorem dL_isTold_130 : decode cL_isTold 130 = .ok (.ifCond .ne 12, 3) := by decide +kernel
theorem dL_isTold_133 : decode cL_isTold 133 = .ok (.iload 10, 2) := by decide +kernel
theorem dL_isTold_135 : decode cL_isTold 135 = .ok (.ifCond .ne 7, 3) := by decide +kernel
theorem dL_isTold_138 : decode cL_isTold 138 = .ok (.iconst 1, 1) := by decide +kernel
theorem dL_isTold_139 : decode cL_isTold 139 = .ok (.goto 4, 3) := by decide +kernel
theorem dL_isTold_142 : decode cL_isTold 142 = .ok (.iconst 0, 1) := by decide +kernel
theorem dL_isTold_143 : decode cL_isTold 143 = .ok (.istore 11, 2) := by decide +kernel
theorem dL_isTold_145 : decode cL_isTold 145 = .ok (.aload_n 0, 1) := by decide +kernel
theorem dL_isTold_146 : decode cL_isTold 146 = .ok (.iload 4, 2) := by decide +kernel
theorem dL_isTold_148 : decode cL_isTold 148 = .ok (.invokevirtual 145, 3) := by decide +kernel
theorem dL_isTold_151 : decode cL_isTold 151 = .ok (.istore 12, 2) := by decide +kernel
theorem dL_isTold_153 : decode cL_isTold 153 = .ok (.aload_n 0, 1) := by decide +kernel
theorem dL_isTold_154 : decode cL_isTold 154 = .ok (.iload 4, 2) := by decide +kernel
theorem dL_isTold_156 : decode cL_isTold 156 = .ok (.iload 6, 2) := by decide +kernel
theorem dL_isTold_158 : decode cL_isTold 158 = .ok (.invokevirtual 148, 3) := by decide +kernel
theorem dL_isTold_161 : decode cL_isTold 161 = .ok (.istore 13, 2) := by decide +kernel
theorem dL_isTold_163 : decode cL_isTold 163 = .ok (.aload_n 0, 1) := by decide +kernel
theorem dL_isTold_164 : decode cL_isTold 164 = .ok (.iload 4, 2) := by decide +kernel
theorem dL_isTold_166 : decode cL_isTold 166 = .ok (.iload 6, 2) := by decide +kernel
theorem dL_isTold_168 : decode cL_isTold 168 = .ok (.invokestatic 151, 3) := by decide +kernel
theorem dL_isTold_171 : decode cL_isTold 171 = .ok (.astore 14, 2) := by decide +kernel
theorem dL_isTold_173 : decode cL_isTold 173 = .ok (.aload_n 0, 1) := by decide +kernel
theorem dL_isTold_174 : decode cL_isTold 174 = .ok (.iload 5, 2) := by decide +kernel
theorem dL_isTold_176 : decode cL_isTold 176 = .ok (.iload 6, 2) := by decide +kernel
theorem dL_isTold_178 : decode cL_isTold 178 = .ok (.invokestatic 151, 3) := by decide +kernel
theorem dL_isTold_181 : decode cL_isTold 181 = .ok (.astore 15, 2) := by decide +kernel
theorem dL_isTold_183 : decode cL_isTold 183 = .ok (.aload_n 0, 1) := by decide +kernel
theorem dL_isTold_184 : decode cL_isTold 184 = .ok (.iload_n 1, 1) := by decide +kernel
theorem dL_isTold_185 : decode cL_isTold 185 = .ok (.invokestatic 155, 3) := by decide +kernel
theorem dL_isTold_188 : decode cL_isTold 188 = .ok (.ifCond .ge 5, 3) := by decide +kernel
theorem dL_isTold_191 : decode cL_isTold 191 = .ok (.iconst 0, 1) := by decide +kernel
theorem dL_isTold_192 : decode cL_isTold 192 = .ok (.ireturn, 1) := by decide +kernel
theorem dL_isTold_193 : decode cL_isTold 193 = .ok (.iload 10, 2) := by decide +kernel
theorem dL_isTold_195 : decode cL_isTold 195 = .ok (.ifCond .eq 8, 3) := by decide +kernel
theorem dL_isTold_198 : decode cL_isTold 198 = .ok (.iload 5, 2) := by decide +kernel
theorem dL_isTold_200 : decode cL_isTold 200 = .ok (.goto 5, 3) := by decide +kernel
theorem dL_isTold_203 : decode cL_isTold 203 = .ok (.iload 4, 2) := by decide +kernel
theorem dL_isTold_205 : decode cL_isTold 205 = .ok (.istore 16, 2) := by decide +kernel
theorem dL_isTold_207 : decode cL_isTold 207 = .ok (.aload_n 0, 1) := by decide +kernel
theorem dL_isTold_208 : decode cL_isTold 208 = .ok (.iload 16, 2) := by decide +kernel
theorem dL_isTold_210 : decode cL_isTold 210 = .ok (.iload 6, 2) := by decide +kernel
theorem dL_isTold_212 : decode cL_isTold 212 = .ok (.invokestatic 151, 3) := by decide +kernel
theorem dL_isTold_215 : decode cL_isTold 215 = .ok (.astore 17, 2) := by decide +kernel
theorem dL_isTold_217 : decode cL_isTold 217 = .ok (.iconst 0, 1) := by decide +kernel
theorem dL_isTold_218 : decode cL_isTold 218 = .ok (.istore 18, 2) := by decide +kernel
theorem dL_isTold_220 : decode cL_isTold 220 = .ok (.iload 18, 2) := by decide +kernel
theorem dL_isTold_222 : decode cL_isTold 222 = .ok (.aload_n 0, 1) := by decide +kernel
theorem dL_isTold_223 : decode cL_isTold 223 = .ok (.iload 6, 2) := by decide +kernel
theorem dL_isTold_225 : decode cL_isTold 225 = .ok (.invokevirtual 128, 3) := by decide +kernel
theorem dL_isTold_228 : decode cL_isTold 228 = .ok (.if_icmp .ge 139, 3) := by decide +kernel
theorem dL_isTold_231 : decode cL_isTold 231 = .ok (.iconst 0, 1) := by decide +kernel
theorem dL_isTold_232 : decode cL_isTold 232 = .ok (.istore 19, 2) := by decide +kernel
theorem dL_isTold_234 : decode cL_isTold 234 = .ok (.iload 19, 2) := by decide +kernel
theorem dL_isTold_236 : decode cL_isTold 236 = .ok (.iconst 3, 1) := by decide +kernel
theorem dL_isTold_237 : decode cL_isTold 237 = .ok (.if_icmp .ge 124, 3) := by decide +kernel
theorem dL_isTold_240 : decode cL_isTold 240 = .ok (.aload 14, 2) := by decide +kernel
theorem dL_isTold_242 : decode cL_isTold 242 = .ok (.iconst 3, 1) := by decide +kernel
theorem dL_isTold_243 : decode cL_isTold 243 = .ok (.iload 18, 2) := by decide +kernel
theorem dL_isTold_245 : decode cL_isTold 245 = .ok (.imul, 1) := by decide +kernel
theorem dL_isTold_246 : decode cL_isTold 246 = .ok (.iload 19, 2) := by decide +kernel
theorem dL_isTold_248 : decode cL_isTold 248 = .ok (.iadd, 1) := by decide +kernel
theorem dL_isTold_249 : decode cL_isTold 249 = .ok (.iaload, 1) := by decide +kernel
theorem dL_isTold_250 : decode cL_isTold 250 = .ok (.istore 20, 2) := by decide +kernel
theorem dL_isTold_252 : decode cL_isTold 252 = .ok (.iload 9, 2) := by decide +kernel
theorem dL_isTold_254 : decode cL_isTold 254 = .ok (.ifCond .eq 8, 3) := by decide +kernel
theorem dL_isTold_257 : decode cL_isTold 257 = .ok (.iload 20, 2) := by decide +kernel
theorem dL_isTold_259 : decode cL_isTold 259 = .ok (.goto 71, 3) := by decide +kernel
theorem dL_isTold_262 : decode cL_isTold 262 = .ok (.iload 7, 2) := by decide +kernel
theorem dL_isTold_264 : decode cL_isTold 264 = .ok (.ifCond .eq 10, 3) := by decide +kernel
theorem dL_isTold_267 : decode cL_isTold 267 = .ok (.iload 20, 2) := by decide +kernel
theorem dL_isTold_269 : decode cL_isTold 269 = .ok (.iconst 2, 1) := by decide +kernel
theorem dL_isTold_270 : decode cL_isTold 270 = .ok (.idiv, 1) := by decide +kernel
theorem dL_isTold_271 : decode cL_isTold 271 = .ok (.goto 59, 3) := by decide +kernel
theorem dL_isTold_274 : decode cL_isTold 274 = .ok (.iload 8, 2) := by decide +kernel
theorem dL_isTold_276 : decode cL_isTold 276 = .ok (.ifCond .eq 7, 3) := by decide +kernel
theorem dL_isTold_279 : decode cL_isTold 279 = .ok (.iconst 0, 1) := by decide +kernel
theorem dL_isTold_280 : decode cL_isTold 280 = .ok (.goto 50, 3) := by decide +kernel
theorem dL_isTold_283 : decode cL_isTold 283 = .ok (.iload 10, 2) := by decide +kernel
theorem dL_isTold_285 : decode cL_isTold 285 = .ok (.ifCond .eq 19, 3) := by decide +kernel
theorem dL_isTold_288 : decode cL_isTold 288 = .ok (.iload 20, 2) := by decide +kernel
theorem dL_isTold_290 : decode cL_isTold 290 = .ok (.aload 15, 2) := by decide +kernel
theorem dL_isTold_292 : decode cL_isTold 292 = .ok (.iconst 3, 1) := by decide +kernel
theorem dL_isTold_293 : decode cL_isTold 293 = .ok (.iload 18, 2) := by decide +kernel
theorem dL_isTold_295 : decode cL_isTold 295 = .ok (.imul, 1) := by decide +kernel
theorem dL_isTold_296 : decode cL_isTold 296 = .ok (.iload 19, 2) := by decide +kernel
theorem dL_isTold_298 : decode cL_isTold 298 = .ok (.iadd, 1) := by decide +kernel
theorem dL_isTold_299 : decode cL_isTold 299 = .ok (.iaload, 1) := by decide +kernel
theorem dL_isTold_300 : decode cL_isTold 300 = .ok (.iadd, 1) := by decide +kernel
theorem dL_isTold_301 : decode cL_isTold 301 = .ok (.goto 29, 3) := by decide +kernel
theorem dL_isTold_304 : decode cL_isTold 304 = .ok (.iload 18, 2) := by decide +kernel
theorem dL_isTold_306 : decode cL_isTold 306 = .ok (.iload 19, 2) := by decide +kernel
theorem dL_isTold_308 : decode cL_isTold 308 = .ok (.if_icmp .ge 7, 3) := by decide +kernel
theorem dL_isTold_311 : decode cL_isTold 311 = .ok (.iconst 0, 1) := by decide +kernel
theorem dL_isTold_312 : decode cL_isTold 312 = .ok (.goto 18, 3) := by decide +kernel
theorem dL_isTold_315 : decode cL_isTold 315 = .ok (.iload 20, 2) := by decide +kernel
theorem dL_isTold_317 : decode cL_isTold 317 = .ok (.aload_n 0, 1) := by decide +kernel
theorem dL_isTold_318 : decode cL_isTold 318 = .ok (.iload 6, 2) := by decide +kernel
theorem dL_isTold_320 : decode cL_isTold 320 = .ok (.iload 18, 2) := by decide +kernel
theorem dL_isTold_322 : decode cL_isTold 322 = .ok (.iload 19, 2) := by decide +kernel
theorem dL_isTold_324 : decode cL_isTold 324 = .ok (.iconst 1, 1) := by decide +kernel
theorem dL_isTold_325 : decode cL_isTold 325 = .ok (.iadd, 1) := by decide +kernel
theorem dL_isTold_326 : decode cL_isTold 326 = .ok (.invokestatic 159, 3) := by decide +kernel
theorem dL_isTold_329 : decode cL_isTold 329 = .ok (.iadd, 1) := by decide +kernel
theorem dL_isTold_330 : decode cL_isTold 330 = .ok (.istore 21, 2) := by decide +kernel
theorem dL_isTold_332 : decode cL_isTold 332 = .ok (.aload 17, 2) := by decide +kernel
theorem dL_isTold_334 : decode cL_isTold 334 = .ok (.iconst 3, 1) := by decide +kernel
theorem dL_isTold_335 : decode cL_isTold 335 = .ok (.iload 18, 2) := by decide +kernel
theorem dL_isTold_337 : decode cL_isTold 337 = .ok (.imul, 1) := by decide +kernel
theorem dL_isTold_338 : decode cL_isTold 338 = .ok (.iload 19, 2) := by decide +kernel
theorem dL_isTold_340 : decode cL_isTold 340 = .ok (.iadd, 1) := by decide +kernel
theorem dL_isTold_341 : decode cL_isTold 341 = .ok (.iaload, 1) := by decide +kernel
theorem dL_isTold_342 : decode cL_isTold 342 = .ok (.sipush 999, 3) := by decide +kernel
theorem dL_isTold_345 : decode cL_isTold 345 = .ok (.iload 21, 2) := by decide +kernel
theorem dL_isTold_347 : decode cL_isTold 347 = .ok (.invokestatic 163, 3) := by decide +kernel
theorem dL_isTold_350 : decode cL_isTold 350 = .ok (.if_icmp .eq 5, 3) := by decide +kernel
theorem dL_isTold_353 : decode cL_isTold 353 = .ok (.iconst 0, 1) := by decide +kernel
theorem dL_isTold_354 : decode cL_isTold 354 = .ok (.ireturn, 1) := by decide +kernel
theorem dL_isTold_355 : decode cL_isTold 355 = .ok (.iinc 19 1, 3) := by decide +kernel
theorem dL_isTold_358 : decode cL_isTold 358 = .ok (.goto (-124), 3) := by decide +kernel
theorem dL_isTold_361 : decode cL_isTold 361 = .ok (.iinc 18 1, 3) := by decide +kernel
theorem dL_isTold_364 : decode cL_isTold 364 = .ok (.goto (-144), 3) := by decide +kernel
theorem dL_isTold_367 : decode cL_isTold 367 = .ok (.iload 11, 2) := by decide +kernel
theorem dL_isTold_369 : decode cL_isTold 369 = .ok (.ifCond .eq 42, 3) := by decide +kernel
theorem dL_isTold_372 : decode cL_isTold 372 = .ok (.aload_n 0, 1) := by decide +kernel
theorem dL_isTold_373 : decode cL_isTold 373 = .ok (.iload 4, 2) := by decide +kernel
theorem dL_isTold_375 : decode cL_isTold 375 = .ok (.invokevirtual 145, 3) := by decide +kernel
theorem dL_isTold_378 : decode cL_isTold 378 = .ok (.iload 12, 2) := by decide +kernel
theorem dL_isTold_380 : decode cL_isTold 380 = .ok (.aload_n 0, 1) := by decide +kernel
theorem dL_isTold_381 : decode cL_isTold 381 = .ok (.iload 6, 2) := by decide +kernel
theorem dL_isTold_383 : decode cL_isTold 383 = .ok (.invokevirtual 128, 3) := by decide +kernel
theorem dL_isTold_386 : decode cL_isTold 386 = .ok (.iadd, 1) := by decide +kernel
theorem dL_isTold_387 : decode cL_isTold 387 = .ok (.if_icmp .ne 22, 3) := by decide +kernel
theorem dL_isTold_390 : decode cL_isTold 390 = .ok (.aload_n 0, 1) := by decide +kernel
theorem dL_isTold_391 : decode cL_isTold 391 = .ok (.iload 4, 2) := by decide +kernel
theorem dL_isTold_393 : decode cL_isTold 393 = .ok (.iload 6, 2) := by decide +kernel
theorem dL_isTold_395 : decode cL_isTold 395 = .ok (.invokevirtual 148, 3) := by decide +kernel
theorem dL_isTold_398 : decode cL_isTold 398 = .ok (.iload 13, 2) := by decide +kernel
theorem dL_isTold_400 : decode cL_isTold 400 = .ok (.iconst 1, 1) := by decide +kernel
theorem dL_isTold_401 : decode cL_isTold 401 = .ok (.iadd, 1) := by decide +kernel
theorem dL_isTold_402 : decode cL_isTold 402 = .ok (.if_icmp .ne 7, 3) := by decide +kernel
theorem dL_isTold_405 : decode cL_isTold 405 = .ok (.iconst 1, 1) := by decide +kernel
theorem dL_isTold_406 : decode cL_isTold 406 = .ok (.goto 4, 3) := by decide +kernel
theorem dL_isTold_409 : decode cL_isTold 409 = .ok (.iconst 0, 1) := by decide +kernel
theorem dL_isTold_410 : decode cL_isTold 410 = .ok (.ireturn, 1) := by decide +kernel
theorem dL_isTold_411 : decode cL_isTold 411 = .ok (.iload 8, 2) := by decide +kernel
theorem dL_isTold_413 : decode cL_isTold 413 = .ok (.ifCond .eq 38, 3) := by decide +kernel
theorem dL_isTold_416 : decode cL_isTold 416 = .ok (.aload_n 0, 1) := by decide +kernel
theorem dL_isTold_417 : decode cL_isTold 417 = .ok (.iload 4, 2) := by decide +kernel
theorem dL_isTold_419 : decode cL_isTold 419 = .ok (.invokevirtual 145, 3) := by decide +kernel
theorem dL_isTold_422 : decode cL_isTold 422 = .ok (.ifCond .ne 27, 3) := by decide +kernel
theorem dL_isTold_425 : decode cL_isTold 425 = .ok (.aload_n 0, 1) := by decide +kernel
theorem dL_isTold_426 : decode cL_isTold 426 = .ok (.iload 4, 2) := by decide +kernel
theorem dL_isTold_428 : decode cL_isTold 428 = .ok (.iload 6, 2) := by decide +kernel
theorem dL_isTold_430 : decode cL_isTold 430 = .ok (.invokevirtual 148, 3) := by decide +kernel
theorem dL_isTold_433 : decode cL_isTold 433 = .ok (.ifCond .ne 16, 3) := by decide +kernel
theorem dL_isTold_436 : decode cL_isTold 436 = .ok (.aload_n 0, 1) := by decide +kernel
theorem dL_isTold_437 : decode cL_isTold 437 = .ok (.iload 4, 2) := by decide +kernel
theorem dL_isTold_439 : decode cL_isTold 439 = .ok (.invokevirtual 168, 3) := by decide +kernel
theorem dL_isTold_442 : decode cL_isTold 442 = .ok (.ifCond .ne 7, 3) := by decide +kernel
theorem dL_isTold_445 : decode cL_isTold 445 = .ok (.iconst 1, 1) := by decide +kernel
theorem dL_isTold_446 : decode cL_isTold 446 = .ok (.goto 4, 3) := by decide +kernel
theorem dL_isTold_449 : decode cL_isTold 449 = .ok (.iconst 0, 1) := by decide +kernel
theorem dL_isTold_450 : decode cL_isTold 450 = .ok (.ireturn, 1) := by decide +kernel
theorem dL_isTold_451 : decode cL_isTold 451 = .ok (.aload_n 0, 1) := by decide +kernel
theorem dL_isTold_452 : decode cL_isTold 452 = .ok (.iload 4, 2) := by decide +kernel
theorem dL_isTold_454 : decode cL_isTold 454 = .ok (.invokevirtual 145, 3) := by decide +kernel
theorem dL_isTold_457 : decode cL_isTold 457 = .ok (.iload 12, 2) := by decide +kernel
theorem dL_isTold_459 : decode cL_isTold 459 = .ok (.if_icmp .ne 7, 3) := by decide +kernel
theorem dL_isTold_462 : decode cL_isTold 462 = .ok (.iconst 1, 1) := by decide +kernel
theorem dL_isTold_463 : decode cL_isTold 463 = .ok (.goto 4, 3) := by decide +kernel
theorem dL_isTold_466 : decode cL_isTold 466 = .ok (.iconst 0, 1) := by decide +kernel
theorem dL_isTold_467 : decode cL_isTold 467 = .ok (.ireturn, 1) := by decide +kernel
theorem dL_count_0 : decode cL_count 0 = .ok (.iload_n 2, 1) := by decide +kernel
theorem dL_count_1 : decode cL_count 1 = .ok (.iconst 2, 1) := by decide +kernel
theorem dL_count_2 : decode cL_count 2 = .ok (.if_icmp .ne 16, 3) := by decide +kernel
theorem dL_count_5 : decode cL_count 5 = .ok (.aload_n 0, 1) := by decide +kernel
theorem dL_count_6 : decode cL_count 6 = .ok (.iload_n 1, 1) := by decide +kernel
theorem dL_count_7 : decode cL_count 7 = .ok (.iload_n 3, 1) := by decide +kernel
theorem dL_count_8 : decode cL_count 8 = .ok (.iload 4, 2) := by decide +kernel
theorem dL_count_10 : decode cL_count 10 = .ok (.iload 5, 2) := by decide +kernel
theorem dL_count_12 : decode cL_count 12 = .ok (.invokevirtual 141, 3) := by decide +kernel
theorem dL_count_15 : decode cL_count 15 = .ok (.goto 27, 3) := by decide +kernel
theorem dL_count_18 : decode cL_count 18 = .ok (.iload_n 2, 1) := by decide +kernel
theorem dL_count_19 : decode cL_count 19 = .ok (.iconst 1, 1) := by decide +kernel
theorem dL_count_20 : decode cL_count 20 = .ok (.if_icmp .ne 15, 3) := by decide +kernel
theorem dL_count_23 : decode cL_count 23 = .ok (.aload_n 0, 1) := by decide +kernel
theorem dL_count_24 : decode cL_count 24 = .ok (.iload_n 1, 1) := by decide +kernel
theorem dL_count_25 : decode cL_count 25 = .ok (.iload 4, 2) := by decide +kernel
theorem dL_count_27 : decode cL_count 27 = .ok (.iload 5, 2) := by decide +kernel
theorem dL_count_29 : decode cL_count 29 = .ok (.invokevirtual 137, 3) := by decide +kernel
theorem dL_count_32 : decode cL_count 32 = .ok (.goto 10, 3) := by decide +kernel
theorem dL_count_35 : decode cL_count 35 = .ok (.aload_n 0, 1) := by decide +kernel
theorem dL_count_36 : decode cL_count 36 = .ok (.iload_n 1, 1) := by decide +kernel
theorem dL_count_37 : decode cL_count 37 = .ok (.iload 5, 2) := by decide +kernel
theorem dL_count_39 : decode cL_count 39 = .ok (.invokevirtual 134, 3) := by decide +kernel
theorem dL_count_42 : decode cL_count 42 = .ok (.ireturn, 1) := by decide +kernel
theorem dL_divisor_0 : decode cL_divisor 0 = .ok (.lload_n 0, 1) := by decide +kernel
theorem dL_divisor_1 : decode cL_divisor 1 = .ok (.lstore 4, 2) := by decide +kernel
theorem dL_divisor_3 : decode cL_divisor 3 = .ok (.lload_n 2, 1) := by decide +kernel
theorem dL_divisor_4 : decode cL_divisor 4 = .ok (.lstore 6, 2) := by decide +kernel
theorem dL_divisor_6 : decode cL_divisor 6 = .ok (.lload 6, 2) := by decide +kernel
theorem dL_divisor_8 : decode cL_divisor 8 = .ok (.lconst 0, 1) := by decide +kernel
theorem dL_divisor_9 : decode cL_divisor 9 = .ok (.lcmp, 1) := by decide +kernel
theorem dL_divisor_10 : decode cL_divisor 10 = .ok (.ifCond .eq 21, 3) := by decide +kernel
theorem dL_divisor_13 : decode cL_divisor 13 = .ok (.lload 4, 2) := by decide +kernel
theorem dL_divisor_15 : decode cL_divisor 15 = .ok (.lload 6, 2) := by decide +kernel
theorem dL_divisor_17 : decode cL_divisor 17 = .ok (.lrem, 1) := by decide +kernel
theorem dL_divisor_18 : decode cL_divisor 18 = .ok (.lstore 8, 2) := by decide +kernel
theorem dL_divisor_20 : decode cL_divisor 20 = .ok (.lload 6, 2) := by decide +kernel
theorem dL_divisor_22 : decode cL_divisor 22 = .ok (.lstore 4, 2) := by decide +kernel
theorem dL_divisor_24 : decode cL_divisor 24 = .ok (.lload 8, 2) := by decide +kernel
theorem dL_divisor_26 : decode cL_divisor 26 = .ok (.lstore 6, 2) := by decide +kernel
theorem dL_divisor_28 : decode cL_divisor 28 = .ok (.goto (-22), 3) := by decide +kernel
theorem dL_divisor_31 : decode cL_divisor 31 = .ok (.lload 4, 2) := by decide +kernel
theorem dL_divisor_33 : decode cL_divisor 33 = .ok (.lreturn, 1) := by decide +kernel
theorem dL_isRanked_0 : decode cL_isRanked 0 = .ok (.iload_n 1, 1) := by decide +kernel
theorem dL_isRanked_1 : decode cL_isRanked 1 = .ok (.aload_n 0, 1) := by decide +kernel
theorem dL_isRanked_2 : decode cL_isRanked 2 = .ok (.invokevirtual 78, 3) := by decide +kernel
theorem dL_isRanked_5 : decode cL_isRanked 5 = .ok (.irem, 1) := by decide +kernel
theorem dL_isRanked_6 : decode cL_isRanked 6 = .ok (.istore_n 2, 1) := by decide +kernel
theorem dL_isRanked_7 : decode cL_isRanked 7 = .ok (.iload_n 1, 1) := by decide +kernel
theorem dL_isRanked_8 : decode cL_isRanked 8 = .ok (.iconst 4, 1) := by decide +kernel
theorem dL_isRanked_9 : decode cL_isRanked 9 = .ok (.idiv, 1) := by decide +kernel
theorem dL_isRanked_10 : decode cL_isRanked 10 = .ok (.bipush 6, 2) := by decide +kernel
theorem dL_isRanked_12 : decode cL_isRanked 12 = .ok (.irem, 1) := by decide +kernel
theorem dL_isRanked_13 : decode cL_isRanked 13 = .ok (.iconst 5, 1) := by decide +kernel
theorem dL_isRanked_14 : decode cL_isRanked 14 = .ok (.if_icmp .ne 7, 3) := by decide +kernel
theorem dL_isRanked_17 : decode cL_isRanked 17 = .ok (.iconst (-1), 1) := by decide +kernel
theorem dL_isRanked_18 : decode cL_isRanked 18 = .ok (.goto 24, 3) := by decide +kernel
theorem dL_isRanked_21 : decode cL_isRanked 21 = .ok (.iload_n 1, 1) := by decide +kernel
theorem dL_isRanked_22 : decode cL_isRanked 22 = .ok (.iconst 4, 1) := by decide +kernel
theorem dL_isRanked_23 : decode cL_isRanked 23 = .ok (.idiv, 1) := by decide +kernel
theorem dL_isRanked_24 : decode cL_isRanked 24 = .ok (.bipush 6, 2) := by decide +kernel
theorem dL_isRanked_26 : decode cL_isRanked 26 = .ok (.irem, 1) := by decide +kernel
theorem dL_isRanked_27 : decode cL_isRanked 27 = .ok (.iconst 4, 1) := by decide +kernel
theorem dL_isRanked_28 : decode cL_isRanked 28 = .ok (.if_icmp .ne 8, 3) := by decide +kernel
theorem dL_isRanked_31 : decode cL_isRanked 31 = .ok (.bipush 26, 2) := by decide +kernel
theorem dL_isRanked_33 : decode cL_isRanked 33 = .ok (.goto 9, 3) := by decide +kernel
theorem dL_isRanked_36 : decode cL_isRanked 36 = .ok (.iload_n 1, 1) := by decide +kernel
theorem dL_isRanked_37 : decode cL_isRanked 37 = .ok (.iconst 4, 1) := by decide +kernel
theorem dL_isRanked_38 : decode cL_isRanked 38 = .ok (.idiv, 1) := by decide +kernel
theorem dL_isRanked_39 : decode cL_isRanked 39 = .ok (.bipush 6, 2) := by decide +kernel
theorem dL_isRanked_41 : decode cL_isRanked 41 = .ok (.irem, 1) := by decide +kernel
theorem dL_isRanked_42 : decode cL_isRanked 42 = .ok (.istore_n 3, 1) := by decide +kernel
theorem dL_isRanked_43 : decode cL_isRanked 43 = .ok (.iload_n 3, 1) := by decide +kernel
theorem dL_isRanked_44 : decode cL_isRanked 44 = .ok (.ifCond .lt 14, 3) := by decide +kernel
theorem dL_isRanked_47 : decode cL_isRanked 47 = .ok (.iload_n 1, 1) := by decide +kernel
theorem dL_isRanked_48 : decode cL_isRanked 48 = .ok (.bipush 32, 2) := by decide +kernel
theorem dL_isRanked_50 : decode cL_isRanked 50 = .ok (.idiv, 1) := by decide +kernel
theorem dL_isRanked_51 : decode cL_isRanked 51 = .ok (.bipush 6, 2) := by decide +kernel
theorem dL_isRanked_53 : decode cL_isRanked 53 = .ok (.irem, 1) := by decide +kernel
theorem dL_isRanked_54 : decode cL_isRanked 54 = .ok (.iconst 5, 1) := by decide +kernel
theorem dL_isRanked_55 : decode cL_isRanked 55 = .ok (.if_icmp .ne 7, 3) := by decide +kernel
theorem dL_isRanked_58 : decode cL_isRanked 58 = .ok (.iconst (-1), 1) := by decide +kernel
theorem dL_isRanked_59 : decode cL_isRanked 59 = .ok (.goto 26, 3) := by decide +kernel
theorem dL_isRanked_62 : decode cL_isRanked 62 = .ok (.iload_n 1, 1) := by decide +kernel
theorem dL_isRanked_63 : decode cL_isRanked 63 = .ok (.bipush 32, 2) := by decide +kernel
theorem dL_isRanked_65 : decode cL_isRanked 65 = .ok (.idiv, 1) := by decide +kernel
theorem dL_isRanked_66 : decode cL_isRanked 66 = .ok (.bipush 6, 2) := by decide +kernel
theorem dL_isRanked_68 : decode cL_isRanked 68 = .ok (.irem, 1) := by decide +kernel
theorem dL_isRanked_69 : decode cL_isRanked 69 = .ok (.iconst 4, 1) := by decide +kernel
theorem dL_isRanked_70 : decode cL_isRanked 70 = .ok (.if_icmp .ne 8, 3) := by decide +kernel
theorem dL_isRanked_73 : decode cL_isRanked 73 = .ok (.bipush 26, 2) := by decide +kernel
theorem dL_isRanked_75 : decode cL_isRanked 75 = .ok (.goto 10, 3) := by decide +kernel
theorem dL_isRanked_78 : decode cL_isRanked 78 = .ok (.iload_n 1, 1) := by decide +kernel
theorem dL_isRanked_79 : decode cL_isRanked 79 = .ok (.bipush 32, 2) := by decide +kernel
theorem dL_isRanked_81 : decode cL_isRanked 81 = .ok (.idiv, 1) := by decide +kernel
theorem dL_isRanked_82 : decode cL_isRanked 82 = .ok (.bipush 6, 2) := by decide +kernel
theorem dL_isRanked_84 : decode cL_isRanked 84 = .ok (.irem, 1) := by decide +kernel
theorem dL_isRanked_85 : decode cL_isRanked 85 = .ok (.istore 4, 2) := by decide +kernel
theorem dL_isRanked_87 : decode cL_isRanked 87 = .ok (.iload 4, 2) := by decide +kernel
theorem dL_isRanked_89 : decode cL_isRanked 89 = .ok (.ifCond .lt 7, 3) := by decide +kernel
theorem dL_isRanked_92 : decode cL_isRanked 92 = .ok (.iconst 2, 1) := by decide +kernel
theorem dL_isRanked_93 : decode cL_isRanked 93 = .ok (.goto 12, 3) := by decide +kernel
theorem dL_isRanked_96 : decode cL_isRanked 96 = .ok (.iload_n 3, 1) := by decide +kernel
theorem dL_isRanked_97 : decode cL_isRanked 97 = .ok (.ifCond .lt 7, 3) := by decide +kernel
theorem dL_isRanked_100 : decode cL_isRanked 100 = .ok (.iconst 1, 1) := by decide +kernel
theorem dL_isRanked_101 : decode cL_isRanked 101 = .ok (.goto 4, 3) := by decide +kernel
theorem dL_isRanked_104 : decode cL_isRanked 104 = .ok (.iconst 0, 1) := by decide +kernel
theorem dL_isRanked_105 : decode cL_isRanked 105 = .ok (.istore 5, 2) := by decide +kernel
theorem dL_isRanked_107 : decode cL_isRanked 107 = .ok (.bipush 27, 2) := by decide +kernel
theorem dL_isRanked_109 : decode cL_isRanked 109 = .ok (.newarray .boolean, 2) := by decide +kernel
theorem dL_isRanked_111 : decode cL_isRanked 111 = .ok (.astore 6, 2) := by decide +kernel
theorem dL_isRanked_113 : decode cL_isRanked 113 = .ok (.iconst 1, 1) := by decide +kernel
theorem dL_isRanked_114 : decode cL_isRanked 114 = .ok (.istore 7, 2) := by decide +kernel
theorem dL_isRanked_116 : decode cL_isRanked 116 = .ok (.iconst 0, 1) := by decide +kernel
theorem dL_isRanked_117 : decode cL_isRanked 117 = .ok (.istore 8, 2) := by decide +kernel
theorem dL_isRanked_119 : decode cL_isRanked 119 = .ok (.iconst 0, 1) := by decide +kernel
theorem dL_isRanked_120 : decode cL_isRanked 120 = .ok (.istore 9, 2) := by decide +kernel
theorem dL_isRanked_122 : decode cL_isRanked 122 = .ok (.iload 5, 2) := by decide +kernel
theorem dL_isRanked_124 : decode cL_isRanked 124 = .ok (.istore 10, 2) := by decide +kernel
theorem dL_isRanked_126 : decode cL_isRanked 126 = .ok (.iload 10, 2) := by decide +kernel
theorem dL_isRanked_128 : decode cL_isRanked 128 = .ok (.ifCond .lt 188, 3) := by decide +kernel
theorem dL_isRanked_131 : decode cL_isRanked 131 = .ok (.iconst 0, 1) := by decide +kernel
theorem dL_isRanked_132 : decode cL_isRanked 132 = .ok (.istore 11, 2) := by decide +kernel
theorem dL_isRanked_134 : decode cL_isRanked 134 = .ok (.iload 11, 2) := by decide +kernel
theorem dL_isRanked_136 : decode cL_isRanked 136 = .ok (.bipush 27, 2) := by decide +kernel
theorem dL_isRanked_138 : decode cL_isRanked 138 = .ok (.if_icmp .ge 172, 3) := by decide +kernel
theorem dL_isRanked_141 : decode cL_isRanked 141 = .ok (.iconst (-1), 1) := by decide +kernel
theorem dL_isRanked_142 : decode cL_isRanked 142 = .ok (.istore 12, 2) := by decide +kernel
theorem dL_isRanked_144 : decode cL_isRanked 144 = .ok (.iconst 0, 1) := by decide +kernel
theorem dL_isRanked_145 : decode cL_isRanked 145 = .ok (.istore 13, 2) := by decide +kernel
theorem dL_isRanked_147 : decode cL_isRanked 147 = .ok (.iload 13, 2) := by decide +kernel
theorem dL_isRanked_149 : decode cL_isRanked 149 = .ok (.bipush 27, 2) := by decide +kernel
theorem dL_isRanked_151 : decode cL_isRanked 151 = .ok (.if_icmp .ge 89, 3) := by decide +kernel
theorem dL_isRanked_154 : decode cL_isRanked 154 = .ok (.aload_n 0, 1) := by decide +kernel
theorem dL_isRanked_155 : decode cL_isRanked 155 = .ok (.iload_n 2, 1) := by decide +kernel
theorem dL_isRanked_156 : decode cL_isRanked 156 = .ok (.iload 10, 2) := by decide +kernel
theorem dL_isRanked_158 : decode cL_isRanked 158 = .ok (.iload 4, 2) := by decide +kernel
theorem dL_isRanked_160 : decode cL_isRanked 160 = .ok (.iload_n 3, 1) := by decide +kernel
theorem dL_isRanked_161 : decode cL_isRanked 161 = .ok (.iload 13, 2) := by decide +kernel
theorem dL_isRanked_163 : decode cL_isRanked 163 = .ok (.invokestatic 171, 3) := by decide +kernel
theorem dL_isRanked_166 : decode cL_isRanked 166 = .ok (.istore 14, 2) := by decide +kernel
theorem dL_isRanked_168 : decode cL_isRanked 168 = .ok (.iload 11, 2) := by decide +kernel
theorem dL_isRanked_170 : decode cL_isRanked 170 = .ok (.ifCond .ne 25, 3) := by decide +kernel
theorem dL_isRanked_173 : decode cL_isRanked 173 = .ok (.iload 10, 2) := by decide +kernel
theorem dL_isRanked_175 : decode cL_isRanked 175 = .ok (.iload 5, 2) := by decide +kernel
theorem dL_isRanked_177 : decode cL_isRanked 177 = .ok (.if_icmp .ne 18, 3) := by decide +kernel
theorem dL_isRanked_180 : decode cL_isRanked 180 = .ok (.iload 8, 2) := by decide +kernel
theorem dL_isRanked_182 : decode cL_isRanked 182 = .ok (.iload 14, 2) := by decide +kernel
theorem dL_isRanked_184 : decode cL_isRanked 184 = .ok (.iadd, 1) := by decide +kernel
theorem dL_isRanked_185 : decode cL_isRanked 185 = .ok (.istore 8, 2) := by decide +kernel
theorem dL_isRanked_187 : decode cL_isRanked 187 = .ok (.iload 14, 2) := by decide +kernel
theorem dL_isRanked_189 : decode cL_isRanked 189 = .ok (.ifCond .le 6, 3) := by decide +kernel
theorem dL_isRanked_192 : decode cL_isRanked 192 = .ok (.iinc 9 1, 3) := by decide +kernel
theorem dL_isRanked_195 : decode cL_isRanked 195 = .ok (.iload 14, 2) := by decide +kernel
theorem dL_isRanked_197 : decode cL_isRanked 197 = .ok (.ifCond .le 37, 3) := by decide +kernel
theorem dL_isRanked_200 : decode cL_isRanked 200 = .ok (.aload 6, 2) := by decide +kernel
theorem dL_isRanked_202 : decode cL_isRanked 202 = .ok (.iload 13, 2) := by decide +kernel
theorem dL_isRanked_204 : decode cL_isRanked 204 = .ok (.baload, 1) := by decide +kernel
theorem dL_isRanked_205 : decode cL_isRanked 205 = .ok (.ifCond .ne 29, 3) := by decide +kernel
theorem dL_isRanked_208 : decode cL_isRanked 208 = .ok (.iload 12, 2) := by decide +kernel
theorem dL_isRanked_210 : decode cL_isRanked 210 = .ok (.ifCond .lt 20, 3) := by decide +kernel
theorem dL_isRanked_213 : decode cL_isRanked 213 = .ok (.iload 14, 2) := by decide +kernel
theorem dL_isRanked_215 : decode cL_isRanked 215 = .ok (.aload_n 0, 1) := by decide +kernel
theorem dL_isRanked_216 : decode cL_isRanked 216 = .ok (.iload_n 2, 1) := by decide +kernel
theorem dL_isRanked_217 : decode cL_isRanked 217 = .ok (.iload 10, 2) := by decide +kernel
theorem dL_isRanked_219 : decode cL_isRanked 219 = .ok (.iload 4, 2) := by decide +kernel
theorem dL_isRanked_221 : decode cL_isRanked 221 = .ok (.iload_n 3, 1) := by decide +kernel
theorem dL_isRanked_222 : decode cL_isRanked 222 = .ok (.iload 12, 2) := by decide +kernel
theorem dL_isRanked_224 : decode cL_isRanked 224 = .ok (.invokestatic 171, 3) := by decide +kernel
theorem dL_isRanked_227 : decode cL_isRanked 227 = .ok (.if_icmp .le 7, 3) := by decide +kernel
theorem dL_isRanked_230 : decode cL_isRanked 230 = .ok (.iload 13, 2) := by decide +kernel
theorem dL_isRanked_232 : decode cL_isRanked 232 = .ok (.istore 12, 2) := by decide +kernel
theorem dL_isRanked_234 : decode cL_isRanked 234 = .ok (.iinc 13 1, 3) := by decide +kernel
theorem dL_isRanked_237 : decode cL_isRanked 237 = .ok (.goto (-90), 3) := by decide +kernel
theorem dL_isRanked_240 : decode cL_isRanked 240 = .ok (.iload 12, 2) := by decide +kernel
theorem dL_isRanked_242 : decode cL_isRanked 242 = .ok (.ifCond .ge 6, 3) := by decide +kernel
theorem dL_isRanked_245 : decode cL_isRanked 245 = .ok (.goto 65, 3) := by decide +kernel
theorem dL_isRanked_248 : decode cL_isRanked 248 = .ok (.aload 6, 2) := by decide +kernel
theorem dL_isRanked_250 : decode cL_isRanked 250 = .ok (.iload 12, 2) := by decide +kernel
theorem dL_isRanked_252 : decode cL_isRanked 252 = .ok (.iconst 1, 1) := by decide +kernel
theorem dL_isRanked_253 : decode cL_isRanked 253 = .ok (.bastore, 1) := by decide +kernel
theorem dL_isRanked_254 : decode cL_isRanked 254 = .ok (.aload_n 0, 1) := by decide +kernel
theorem dL_isRanked_255 : decode cL_isRanked 255 = .ok (.iload_n 2, 1) := by decide +kernel
theorem dL_isRanked_256 : decode cL_isRanked 256 = .ok (.iload 4, 2) := by decide +kernel
theorem dL_isRanked_258 : decode cL_isRanked 258 = .ok (.iload_n 3, 1) := by decide +kernel
theorem dL_isRanked_259 : decode cL_isRanked 259 = .ok (.iload 7, 2) := by decide +kernel
theorem dL_isRanked_261 : decode cL_isRanked 261 = .ok (.invokevirtual 175, 3) := by decide +kernel
theorem dL_isRanked_264 : decode cL_isRanked 264 = .ok (.iload 12, 2) := by decide +kernel
theorem dL_isRanked_266 : decode cL_isRanked 266 = .ok (.if_icmp .ne 33, 3) := by decide +kernel
theorem dL_isRanked_269 : decode cL_isRanked 269 = .ok (.aload_n 0, 1) := by decide +kernel
theorem dL_isRanked_270 : decode cL_isRanked 270 = .ok (.iload_n 2, 1) := by decide +kernel
theorem dL_isRanked_271 : decode cL_isRanked 271 = .ok (.iload 4, 2) := by decide +kernel
theorem dL_isRanked_273 : decode cL_isRanked 273 = .ok (.iload_n 3, 1) := by decide +kernel
theorem dL_isRanked_274 : decode cL_isRanked 274 = .ok (.iload 12, 2) := by decide +kernel
theorem dL_isRanked_276 : decode cL_isRanked 276 = .ok (.invokevirtual 178, 3) := by decide +kernel
theorem dL_isRanked_279 : decode cL_isRanked 279 = .ok (.iload 7, 2) := by decide +kernel
theorem dL_isRanked_281 : decode cL_isRanked 281 = .ok (.if_icmp .ne 18, 3) := by decide +kernel
theorem dL_isRanked_284 : decode cL_isRanked 284 = .ok (.aload_n 0, 1) := by decide +kernel
theorem dL_isRanked_285 : decode cL_isRanked 285 = .ok (.iload_n 2, 1) := by decide +kernel
theorem dL_isRanked_286 : decode cL_isRanked 286 = .ok (.iload 4, 2) := by decide +kernel
theorem dL_isRanked_288 : decode cL_isRanked 288 = .ok (.iload_n 3, 1) := by decide +kernel
theorem dL_isRanked_289 : decode cL_isRanked 289 = .ok (.iload 12, 2) := by decide +kernel
theorem dL_isRanked_291 : decode cL_isRanked 291 = .ok (.invokevirtual 181, 3) := by decide +kernel
theorem dL_isRanked_294 : decode cL_isRanked 294 = .ok (.iload 10, 2) := by decide +kernel
theorem dL_isRanked_296 : decode cL_isRanked 296 = .ok (.if_icmp .eq 5, 3) := by decide +kernel
theorem dL_isRanked_299 : decode cL_isRanked 299 = .ok (.iconst 0, 1) := by decide +kernel
theorem dL_isRanked_300 : decode cL_isRanked 300 = .ok (.ireturn, 1) := by decide +kernel
theorem dL_isRanked_301 : decode cL_isRanked 301 = .ok (.iinc 7 1, 3) := by decide +kernel
theorem dL_isRanked_304 : decode cL_isRanked 304 = .ok (.iinc 11 1, 3) := by decide +kernel
theorem dL_isRanked_307 : decode cL_isRanked 307 = .ok (.goto (-173), 3) := by decide +kernel
theorem dL_isRanked_310 : decode cL_isRanked 310 = .ok (.iinc 10 (-1), 3) := by decide +kernel
theorem dL_isRanked_313 : decode cL_isRanked 313 = .ok (.goto (-187), 3) := by decide +kernel
theorem dL_isRanked_316 : decode cL_isRanked 316 = .ok (.iconst 0, 1) := by decide +kernel
theorem dL_isRanked_317 : decode cL_isRanked 317 = .ok (.istore 10, 2) := by decide +kernel
theorem dL_isRanked_319 : decode cL_isRanked 319 = .ok (.iload 10, 2) := by decide +kernel
theorem dL_isRanked_321 : decode cL_isRanked 321 = .ok (.bipush 27, 2) := by decide +kernel
theorem dL_isRanked_323 : decode cL_isRanked 323 = .ok (.if_icmp .ge 69, 3) := by decide +kernel
theorem dL_isRanked_326 : decode cL_isRanked 326 = .ok (.aload 6, 2) := by decide +kernel
theorem dL_isRanked_328 : decode cL_isRanked 328 = .ok (.iload 10, 2) := by decide +kernel
theorem dL_isRanked_330 : decode cL_isRanked 330 = .ok (.baload, 1) := by decide +kernel
theorem dL_isRanked_331 : decode cL_isRanked 331 = .ok (.ifCond .eq 6, 3) := by decide +kernel
theorem dL_isRanked_334 : decode cL_isRanked 334 = .ok (.goto 52, 3) := by decide +kernel
theorem dL_isRanked_337 : decode cL_isRanked 337 = .ok (.aload_n 0, 1) := by decide +kernel
theorem dL_isRanked_338 : decode cL_isRanked 338 = .ok (.iload_n 2, 1) := by decide +kernel
theorem dL_isRanked_339 : decode cL_isRanked 339 = .ok (.iload 4, 2) := by decide +kernel
theorem dL_isRanked_341 : decode cL_isRanked 341 = .ok (.iload_n 3, 1) := by decide +kernel
theorem dL_isRanked_342 : decode cL_isRanked 342 = .ok (.iload 7, 2) := by decide +kernel
theorem dL_isRanked_344 : decode cL_isRanked 344 = .ok (.invokevirtual 175, 3) := by decide +kernel
theorem dL_isRanked_347 : decode cL_isRanked 347 = .ok (.iload 10, 2) := by decide +kernel
theorem dL_isRanked_349 : decode cL_isRanked 349 = .ok (.if_icmp .ne 32, 3) := by decide +kernel
theorem dL_isRanked_352 : decode cL_isRanked 352 = .ok (.aload_n 0, 1) := by decide +kernel
theorem dL_isRanked_353 : decode cL_isRanked 353 = .ok (.iload_n 2, 1) := by decide +kernel
theorem dL_isRanked_354 : decode cL_isRanked 354 = .ok (.iload 4, 2) := by decide +kernel
theorem dL_isRanked_356 : decode cL_isRanked 356 = .ok (.iload_n 3, 1) := by decide +kernel
theorem dL_isRanked_357 : decode cL_isRanked 357 = .ok (.iload 10, 2) := by decide +kernel
theorem dL_isRanked_359 : decode cL_isRanked 359 = .ok (.invokevirtual 178, 3) := by decide +kernel
theorem dL_isRanked_362 : decode cL_isRanked 362 = .ok (.iload 7, 2) := by decide +kernel
theorem dL_isRanked_364 : decode cL_isRanked 364 = .ok (.if_icmp .ne 17, 3) := by decide +kernel
theorem dL_isRanked_367 : decode cL_isRanked 367 = .ok (.aload_n 0, 1) := by decide +kernel
theorem dL_isRanked_368 : decode cL_isRanked 368 = .ok (.iload_n 2, 1) := by decide +kernel
theorem dL_isRanked_369 : decode cL_isRanked 369 = .ok (.iload 4, 2) := by decide +kernel
theorem dL_isRanked_371 : decode cL_isRanked 371 = .ok (.iload_n 3, 1) := by decide +kernel
theorem dL_isRanked_372 : decode cL_isRanked 372 = .ok (.iload 10, 2) := by decide +kernel
theorem dL_isRanked_374 : decode cL_isRanked 374 = .ok (.invokevirtual 181, 3) := by decide +kernel
theorem dL_isRanked_377 : decode cL_isRanked 377 = .ok (.iconst (-1), 1) := by decide +kernel
theorem dL_isRanked_378 : decode cL_isRanked 378 = .ok (.if_icmp .eq 5, 3) := by decide +kernel
theorem dL_isRanked_381 : decode cL_isRanked 381 = .ok (.iconst 0, 1) := by decide +kernel
theorem dL_isRanked_382 : decode cL_isRanked 382 = .ok (.ireturn, 1) := by decide +kernel
theorem dL_isRanked_383 : decode cL_isRanked 383 = .ok (.iinc 7 1, 3) := by decide +kernel
theorem dL_isRanked_386 : decode cL_isRanked 386 = .ok (.iinc 10 1, 3) := by decide +kernel
theorem dL_isRanked_389 : decode cL_isRanked 389 = .ok (.goto (-70), 3) := by decide +kernel
theorem dL_isRanked_392 : decode cL_isRanked 392 = .ok (.aload_n 0, 1) := by decide +kernel
theorem dL_isRanked_393 : decode cL_isRanked 393 = .ok (.iload_n 2, 1) := by decide +kernel
theorem dL_isRanked_394 : decode cL_isRanked 394 = .ok (.iload 4, 2) := by decide +kernel
theorem dL_isRanked_396 : decode cL_isRanked 396 = .ok (.iload_n 3, 1) := by decide +kernel
theorem dL_isRanked_397 : decode cL_isRanked 397 = .ok (.invokevirtual 184, 3) := by decide +kernel
theorem dL_isRanked_400 : decode cL_isRanked 400 = .ok (.iload 8, 2) := by decide +kernel
theorem dL_isRanked_402 : decode cL_isRanked 402 = .ok (.if_icmp .ne 16, 3) := by decide +kernel
theorem dL_isRanked_405 : decode cL_isRanked 405 = .ok (.aload_n 0, 1) := by decide +kernel
theorem dL_isRanked_406 : decode cL_isRanked 406 = .ok (.iload_n 2, 1) := by decide +kernel
theorem dL_isRanked_407 : decode cL_isRanked 407 = .ok (.iload 4, 2) := by decide +kernel
theorem dL_isRanked_409 : decode cL_isRanked 409 = .ok (.iload_n 3, 1) := by decide +kernel
theorem dL_isRanked_410 : decode cL_isRanked 410 = .ok (.invokevirtual 187, 3) := by decide +kernel
theorem dL_isRanked_413 : decode cL_isRanked 413 = .ok (.iload 9, 2) := by decide +kernel
theorem dL_isRanked_415 : decode cL_isRanked 415 = .ok (.if_icmp .eq 5, 3) := by decide +kernel
theorem dL_isRanked_418 : decode cL_isRanked 418 = .ok (.iconst 0, 1) := by decide +kernel
theorem dL_isRanked_419 : decode cL_isRanked 419 = .ok (.ireturn, 1) := by decide +kernel
theorem dL_isRanked_420 : decode cL_isRanked 420 = .ok (.aload_n 0, 1) := by decide +kernel
theorem dL_isRanked_421 : decode cL_isRanked 421 = .ok (.iload_n 2, 1) := by decide +kernel
theorem dL_isRanked_422 : decode cL_isRanked 422 = .ok (.iload 4, 2) := by decide +kernel
theorem dL_isRanked_424 : decode cL_isRanked 424 = .ok (.iload_n 3, 1) := by decide +kernel
theorem dL_isRanked_425 : decode cL_isRanked 425 = .ok (.iload_n 1, 1) := by decide +kernel
theorem dL_isRanked_426 : decode cL_isRanked 426 = .ok (.sipush 256, 3) := by decide +kernel
theorem dL_isRanked_429 : decode cL_isRanked 429 = .ok (.idiv, 1) := by decide +kernel
theorem dL_isRanked_430 : decode cL_isRanked 430 = .ok (.iconst 5, 1) := by decide +kernel
theorem dL_isRanked_431 : decode cL_isRanked 431 = .ok (.irem, 1) := by decide +kernel
theorem dL_isRanked_432 : decode cL_isRanked 432 = .ok (.invokestatic 190, 3) := by decide +kernel
theorem dL_isRanked_435 : decode cL_isRanked 435 = .ok (.ifCond .eq 26, 3) := by decide +kernel
theorem dL_isRanked_438 : decode cL_isRanked 438 = .ok (.aload_n 0, 1) := by decide +kernel
theorem dL_isRanked_439 : decode cL_isRanked 439 = .ok (.iload_n 2, 1) := by decide +kernel
theorem dL_isRanked_440 : decode cL_isRanked 440 = .ok (.iload 4, 2) := by decide +kernel
theorem dL_isRanked_442 : decode cL_isRanked 442 = .ok (.iload_n 3, 1) := by decide +kernel
theorem dL_isRanked_443 : decode cL_isRanked 443 = .ok (.iload_n 1, 1) := by decide +kernel
theorem dL_isRanked_444 : decode cL_isRanked 444 = .ok (.sipush 2048, 3) := by decide +kernel
theorem dL_isRanked_447 : decode cL_isRanked 447 = .ok (.idiv, 1) := by decide +kernel
theorem dL_isRanked_448 : decode cL_isRanked 448 = .ok (.bipush 27, 2) := by decide +kernel
theorem dL_isRanked_450 : decode cL_isRanked 450 = .ok (.irem, 1) := by decide +kernel
theorem dL_isRanked_451 : decode cL_isRanked 451 = .ok (.invokestatic 190, 3) := by decide +kernel
theorem dL_isRanked_454 : decode cL_isRanked 454 = .ok (.ifCond .eq 7, 3) := by decide +kernel
theorem dL_isRanked_457 : decode cL_isRanked 457 = .ok (.iconst 1, 1) := by decide +kernel
theorem dL_isRanked_458 : decode cL_isRanked 458 = .ok (.goto 4, 3) := by decide +kernel
theorem dL_isRanked_461 : decode cL_isRanked 461 = .ok (.iconst 0, 1) := by decide +kernel
theorem dL_isRanked_462 : decode cL_isRanked 462 = .ok (.ireturn, 1) := by decide +kernel
theorem dL_isFraction_0 : decode cL_isFraction 0 = .ok (.bipush 27, 2) := by decide +kernel
theorem dL_isFraction_2 : decode cL_isFraction 2 = .ok (.newarray .boolean, 2) := by decide +kernel
theorem dL_isFraction_4 : decode cL_isFraction 4 = .ok (.astore 5, 2) := by decide +kernel
theorem dL_isFraction_6 : decode cL_isFraction 6 = .ok (.lconst 1, 1) := by decide +kernel
theorem dL_isFraction_7 : decode cL_isFraction 7 = .ok (.lstore 6, 2) := by decide +kernel
theorem dL_isFraction_9 : decode cL_isFraction 9 = .ok (.lconst 1, 1) := by decide +kernel
theorem dL_isFraction_10 : decode cL_isFraction 10 = .ok (.lstore 8, 2) := by decide +kernel
theorem dL_isFraction_12 : decode cL_isFraction 12 = .ok (.iconst 0, 1) := by decide +kernel
theorem dL_isFraction_13 : decode cL_isFraction 13 = .ok (.istore 10, 2) := by decide +kernel
theorem dL_isFraction_15 : decode cL_isFraction 15 = .ok (.iconst 0, 1) := by decide +kernel
theorem dL_isFraction_16 : decode cL_isFraction 16 = .ok (.istore 11, 2) := by decide +kernel
theorem dL_isFraction_18 : decode cL_isFraction 18 = .ok (.aload_n 0, 1) := by decide +kernel
theorem dL_isFraction_19 : decode cL_isFraction 19 = .ok (.iload_n 1, 1) := by decide +kernel
theorem dL_isFraction_20 : decode cL_isFraction 20 = .ok (.invokevirtual 194, 3) := by decide +kernel
theorem dL_isFraction_23 : decode cL_isFraction 23 = .ok (.istore 12, 2) := by decide +kernel
theorem dL_isFraction_25 : decode cL_isFraction 25 = .ok (.iload_n 2, 1) := by decide +kernel
theorem dL_isFraction_26 : decode cL_isFraction 26 = .ok (.ifCond .lt 7, 3) := by decide +kernel
theorem dL_isFraction_29 : decode cL_isFraction 29 = .ok (.iconst 2, 1) := by decide +kernel
theorem dL_isFraction_30 : decode cL_isFraction 30 = .ok (.goto 12, 3) := by decide +kernel
theorem dL_isFraction_33 : decode cL_isFraction 33 = .ok (.iload_n 3, 1) := by decide +kernel
theorem dL_isFraction_34 : decode cL_isFraction 34 = .ok (.ifCond .lt 7, 3) := by decide +kernel
theorem dL_isFraction_37 : decode cL_isFraction 37 = .ok (.iconst 1, 1) := by decide +kernel
theorem dL_isFraction_38 : decode cL_isFraction 38 = .ok (.goto 4, 3) := by decide +kernel
theorem dL_isFraction_41 : decode cL_isFraction 41 = .ok (.iconst 0, 1) := by decide +kernel
theorem dL_isFraction_42 : decode cL_isFraction 42 = .ok (.istore 13, 2) := by decide +kernel
theorem dL_isFraction_44 : decode cL_isFraction 44 = .ok (.iload 13, 2) := by decide +kernel
theorem dL_isFraction_46 : decode cL_isFraction 46 = .ok (.ifCond .lt 265, 3) := by decide +kernel
theorem dL_isFraction_49 : decode cL_isFraction 49 = .ok (.iload 11, 2) := by decide +kernel
theorem dL_isFraction_51 : decode cL_isFraction 51 = .ok (.ifCond .ne 260, 3) := by decide +kernel
theorem dL_isFraction_54 : decode cL_isFraction 54 = .ok (.iconst 0, 1) := by decide +kernel
theorem dL_isFraction_55 : decode cL_isFraction 55 = .ok (.istore 14, 2) := by decide +kernel
theorem dL_isFraction_57 : decode cL_isFraction 57 = .ok (.iconst 0, 1) := by decide +kernel
theorem dL_isFraction_58 : decode cL_isFraction 58 = .ok (.istore 15, 2) := by decide +kernel
theorem dL_isFraction_60 : decode cL_isFraction 60 = .ok (.iconst 0, 1) := by decide +kernel
theorem dL_isFraction_61 : decode cL_isFraction 61 = .ok (.istore 16, 2) := by decide +kernel
theorem dL_isFraction_63 : decode cL_isFraction 63 = .ok (.iload 16, 2) := by decide +kernel
theorem dL_isFraction_65 : decode cL_isFraction 65 = .ok (.bipush 27, 2) := by decide +kernel
theorem dL_isFraction_67 : decode cL_isFraction 67 = .ok (.if_icmp .ge 48, 3) := by decide +kernel
theorem dL_isFraction_70 : decode cL_isFraction 70 = .ok (.aload_n 0, 1) := by decide +kernel
theorem dL_isFraction_71 : decode cL_isFraction 71 = .ok (.iload_n 1, 1) := by decide +kernel
theorem dL_isFraction_72 : decode cL_isFraction 72 = .ok (.iload 13, 2) := by decide +kernel
theorem dL_isFraction_74 : decode cL_isFraction 74 = .ok (.iload_n 2, 1) := by decide +kernel
theorem dL_isFraction_75 : decode cL_isFraction 75 = .ok (.iload_n 3, 1) := by decide +kernel
theorem dL_isFraction_76 : decode cL_isFraction 76 = .ok (.iload 16, 2) := by decide +kernel
theorem dL_isFraction_78 : decode cL_isFraction 78 = .ok (.invokestatic 171, 3) := by decide +kernel
theorem dL_isFraction_81 : decode cL_isFraction 81 = .ok (.istore 17, 2) := by decide +kernel
theorem dL_isFraction_83 : decode cL_isFraction 83 = .ok (.iload 17, 2) := by decide +kernel
theorem dL_isFraction_85 : decode cL_isFraction 85 = .ok (.ifCond .eq 24, 3) := by decide +kernel
theorem dL_isFraction_88 : decode cL_isFraction 88 = .ok (.aload 5, 2) := by decide +kernel
theorem dL_isFraction_90 : decode cL_isFraction 90 = .ok (.iload 16, 2) := by decide +kernel
theorem dL_isFraction_92 : decode cL_isFraction 92 = .ok (.baload, 1) := by decide +kernel
theorem dL_isFraction_93 : decode cL_isFraction 93 = .ok (.ifCond .eq 6, 3) := by decide +kernel
theorem dL_isFraction_96 : decode cL_isFraction 96 = .ok (.goto 13, 3) := by decide +kernel
theorem dL_isFraction_99 : decode cL_isFraction 99 = .ok (.iload 14, 2) := by decide +kernel
theorem dL_isFraction_101 : decode cL_isFraction 101 = .ok (.iload 17, 2) := by decide +kernel
theorem dL_isFraction_103 : decode cL_isFraction 103 = .ok (.iadd, 1) := by decide +kernel
theorem dL_isFraction_104 : decode cL_isFraction 104 = .ok (.istore 14, 2) := by decide +kernel
theorem dL_isFraction_106 : decode cL_isFraction 106 = .ok (.iinc 15 1, 3) := by decide +kernel
theorem dL_isFraction_109 : decode cL_isFraction 109 = .ok (.iinc 16 1, 3) := by decide +kernel
theorem dL_isFraction_112 : decode cL_isFraction 112 = .ok (.goto (-49), 3) := by decide +kernel
theorem dL_isFraction_115 : decode cL_isFraction 115 = .ok (.aload 5, 2) := by decide +kernel
theorem dL_isFraction_117 : decode cL_isFraction 117 = .ok (.iload 4, 2) := by decide +kernel
theorem dL_isFraction_119 : decode cL_isFraction 119 = .ok (.baload, 1) := by decide +kernel
theorem dL_isFraction_120 : decode cL_isFraction 120 = .ok (.ifCond .eq 7, 3) := by decide +kernel
theorem dL_isFraction_123 : decode cL_isFraction 123 = .ok (.iconst 0, 1) := by decide +kernel
theorem dL_isFraction_124 : decode cL_isFraction 124 = .ok (.goto 14, 3) := by decide +kernel
theorem dL_isFraction_127 : decode cL_isFraction 127 = .ok (.aload_n 0, 1) := by decide +kernel
theorem dL_isFraction_128 : decode cL_isFraction 128 = .ok (.iload_n 1, 1) := by decide +kernel
theorem dL_isFraction_129 : decode cL_isFraction 129 = .ok (.iload 13, 2) := by decide +kernel
theorem dL_isFraction_131 : decode cL_isFraction 131 = .ok (.iload_n 2, 1) := by decide +kernel
theorem dL_isFraction_132 : decode cL_isFraction 132 = .ok (.iload_n 3, 1) := by decide +kernel
theorem dL_isFraction_133 : decode cL_isFraction 133 = .ok (.iload 4, 2) := by decide +kernel
theorem dL_isFraction_135 : decode cL_isFraction 135 = .ok (.invokestatic 171, 3) := by decide +kernel
theorem dL_isFraction_138 : decode cL_isFraction 138 = .ok (.istore 16, 2) := by decide +kernel
theorem dL_isFraction_140 : decode cL_isFraction 140 = .ok (.iload 16, 2) := by decide +kernel
theorem dL_isFraction_142 : decode cL_isFraction 142 = .ok (.ifCond .le 7, 3) := by decide +kernel
theorem dL_isFraction_145 : decode cL_isFraction 145 = .ok (.iconst 1, 1) := by decide +kernel
theorem dL_isFraction_146 : decode cL_isFraction 146 = .ok (.goto 4, 3) := by decide +kernel
theorem dL_isFraction_149 : decode cL_isFraction 149 = .ok (.iconst 0, 1) := by decide +kernel
theorem dL_isFraction_150 : decode cL_isFraction 150 = .ok (.istore 11, 2) := by decide +kernel
theorem dL_isFraction_152 : decode cL_isFraction 152 = .ok (.iload 15, 2) := by decide +kernel
theorem dL_isFraction_154 : decode cL_isFraction 154 = .ok (.ifCond .le 115, 3) := by decide +kernel
theorem dL_isFraction_157 : decode cL_isFraction 157 = .ok (.lload 6, 2) := by decide +kernel
theorem dL_isFraction_159 : decode cL_isFraction 159 = .ok (.iload 12, 2) := by decide +kernel
theorem dL_isFraction_161 : decode cL_isFraction 161 = .ok (.ifCond .ne 18, 3) := by decide +kernel
theorem dL_isFraction_164 : decode cL_isFraction 164 = .ok (.iload 11, 2) := by decide +kernel
theorem dL_isFraction_166 : decode cL_isFraction 166 = .ok (.ifCond .eq 9, 3) := by decide +kernel
theorem dL_isFraction_169 : decode cL_isFraction 169 = .ok (.iload 16, 2) := by decide +kernel
theorem dL_isFraction_171 : decode cL_isFraction 171 = .ok (.i2l, 1) := by decide +kernel
theorem dL_isFraction_172 : decode cL_isFraction 172 = .ok (.goto 48, 3) := by decide +kernel
theorem dL_isFraction_175 : decode cL_isFraction 175 = .ok (.lconst 1, 1) := by decide +kernel
theorem dL_isFraction_176 : decode cL_isFraction 176 = .ok (.goto 44, 3) := by decide +kernel
theorem dL_isFraction_179 : decode cL_isFraction 179 = .ok (.iload 12, 2) := by decide +kernel
theorem dL_isFraction_181 : decode cL_isFraction 181 = .ok (.iconst 1, 1) := by decide +kernel
theorem dL_isFraction_182 : decode cL_isFraction 182 = .ok (.if_icmp .ne 20, 3) := by decide +kernel
theorem dL_isFraction_185 : decode cL_isFraction 185 = .ok (.iload 11, 2) := by decide +kernel
theorem dL_isFraction_187 : decode cL_isFraction 187 = .ok (.ifCond .eq 9, 3) := by decide +kernel
theorem dL_isFraction_190 : decode cL_isFraction 190 = .ok (.iload 16, 2) := by decide +kernel
theorem dL_isFraction_192 : decode cL_isFraction 192 = .ok (.i2l, 1) := by decide +kernel
theorem dL_isFraction_193 : decode cL_isFraction 193 = .ok (.goto 27, 3) := by decide +kernel
theorem dL_isFraction_196 : decode cL_isFraction 196 = .ok (.iload 15, 2) := by decide +kernel
theorem dL_isFraction_198 : decode cL_isFraction 198 = .ok (.i2l, 1) := by decide +kernel
theorem dL_isFraction_199 : decode cL_isFraction 199 = .ok (.goto 21, 3) := by decide +kernel
theorem dL_isFraction_202 : decode cL_isFraction 202 = .ok (.iload 11, 2) := by decide +kernel
theorem dL_isFraction_204 : decode cL_isFraction 204 = .ok (.ifCond .eq 13, 3) := by decide +kernel
theorem dL_isFraction_207 : decode cL_isFraction 207 = .ok (.iconst 2, 1) := by decide +kernel
theorem dL_isFraction_208 : decode cL_isFraction 208 = .ok (.iload 16, 2) := by decide +kernel
theorem dL_isFraction_210 : decode cL_isFraction 210 = .ok (.imul, 1) := by decide +kernel
theorem dL_isFraction_211 : decode cL_isFraction 211 = .ok (.iconst 1, 1) := by decide +kernel
theorem dL_isFraction_212 : decode cL_isFraction 212 = .ok (.isub, 1) := by decide +kernel
theorem dL_isFraction_213 : decode cL_isFraction 213 = .ok (.i2l, 1) := by decide +kernel
theorem dL_isFraction_214 : decode cL_isFraction 214 = .ok (.goto 6, 3) := by decide +kernel
theorem dL_isFraction_217 : decode cL_isFraction 217 = .ok (.iload 15, 2) := by decide +kernel
theorem dL_isFraction_219 : decode cL_isFraction 219 = .ok (.i2l, 1) := by decide +kernel
theorem dL_isFraction_220 : decode cL_isFraction 220 = .ok (.lmul, 1) := by decide +kernel
theorem dL_isFraction_221 : decode cL_isFraction 221 = .ok (.lstore 6, 2) := by decide +kernel
theorem dL_isFraction_223 : decode cL_isFraction 223 = .ok (.lload 8, 2) := by decide +kernel
theorem dL_isFraction_225 : decode cL_isFraction 225 = .ok (.iload 12, 2) := by decide +kernel
theorem dL_isFraction_227 : decode cL_isFraction 227 = .ok (.ifCond .ne 11, 3) := by decide +kernel
theorem dL_isFraction_230 : decode cL_isFraction 230 = .ok (.iload 14, 2) := by decide +kernel
theorem dL_isFraction_232 : decode cL_isFraction 232 = .ok (.iconst 1, 1) := by decide +kernel
theorem dL_isFraction_233 : decode cL_isFraction 233 = .ok (.iadd, 1) := by decide +kernel
theorem dL_isFraction_234 : decode cL_isFraction 234 = .ok (.i2l, 1) := by decide +kernel
theorem dL_isFraction_235 : decode cL_isFraction 235 = .ok (.goto 23, 3) := by decide +kernel
theorem dL_isFraction_238 : decode cL_isFraction 238 = .ok (.iload 12, 2) := by decide +kernel
theorem dL_isFraction_240 : decode cL_isFraction 240 = .ok (.iconst 1, 1) := by decide +kernel
theorem dL_isFraction_241 : decode cL_isFraction 241 = .ok (.if_icmp .ne 12, 3) := by decide +kernel
theorem dL_isFraction_244 : decode cL_isFraction 244 = .ok (.iload 14, 2) := by decide +kernel
theorem dL_isFraction_246 : decode cL_isFraction 246 = .ok (.iload 15, 2) := by decide +kernel
theorem dL_isFraction_248 : decode cL_isFraction 248 = .ok (.iadd, 1) := by decide +kernel
theorem dL_isFraction_249 : decode cL_isFraction 249 = .ok (.i2l, 1) := by decide +kernel
theorem dL_isFraction_250 : decode cL_isFraction 250 = .ok (.goto 8, 3) := by decide +kernel
theorem dL_isFraction_253 : decode cL_isFraction 253 = .ok (.iconst 2, 1) := by decide +kernel
theorem dL_isFraction_254 : decode cL_isFraction 254 = .ok (.iload 14, 2) := by decide +kernel
theorem dL_isFraction_256 : decode cL_isFraction 256 = .ok (.imul, 1) := by decide +kernel
theorem dL_isFraction_257 : decode cL_isFraction 257 = .ok (.i2l, 1) := by decide +kernel
theorem dL_isFraction_258 : decode cL_isFraction 258 = .ok (.lmul, 1) := by decide +kernel
theorem dL_isFraction_259 : decode cL_isFraction 259 = .ok (.lstore 8, 2) := by decide +kernel
theorem dL_isFraction_261 : decode cL_isFraction 261 = .ok (.iload 11, 2) := by decide +kernel
theorem dL_isFraction_263 : decode cL_isFraction 263 = .ok (.ifCond .ne 6, 3) := by decide +kernel
theorem dL_isFraction_266 : decode cL_isFraction 266 = .ok (.iinc 10 1, 3) := by decide +kernel
theorem dL_isFraction_269 : decode cL_isFraction 269 = .ok (.iconst 0, 1) := by decide +kernel
theorem dL_isFraction_270 : decode cL_isFraction 270 = .ok (.istore 17, 2) := by decide +kernel
theorem dL_isFraction_272 : decode cL_isFraction 272 = .ok (.iload 17, 2) := by decide +kernel
theorem dL_isFraction_274 : decode cL_isFraction 274 = .ok (.bipush 27, 2) := by decide +kernel
theorem dL_isFraction_276 : decode cL_isFraction 276 = .ok (.if_icmp .ge 29, 3) := by decide +kernel
theorem dL_isFraction_279 : decode cL_isFraction 279 = .ok (.aload_n 0, 1) := by decide +kernel
theorem dL_isFraction_280 : decode cL_isFraction 280 = .ok (.iload_n 1, 1) := by decide +kernel
theorem dL_isFraction_281 : decode cL_isFraction 281 = .ok (.iload 13, 2) := by decide +kernel
theorem dL_isFraction_283 : decode cL_isFraction 283 = .ok (.iload_n 2, 1) := by decide +kernel
theorem dL_isFraction_284 : decode cL_isFraction 284 = .ok (.iload_n 3, 1) := by decide +kernel
theorem dL_isFraction_285 : decode cL_isFraction 285 = .ok (.iload 17, 2) := by decide +kernel
theorem dL_isFraction_287 : decode cL_isFraction 287 = .ok (.invokestatic 171, 3) := by decide +kernel
theorem dL_isFraction_290 : decode cL_isFraction 290 = .ok (.ifCond .le 9, 3) := by decide +kernel
theorem dL_isFraction_293 : decode cL_isFraction 293 = .ok (.aload 5, 2) := by decide +kernel
theorem dL_isFraction_295 : decode cL_isFraction 295 = .ok (.iload 17, 2) := by decide +kernel
theorem dL_isFraction_297 : decode cL_isFraction 297 = .ok (.iconst 1, 1) := by decide +kernel
theorem dL_isFraction_298 : decode cL_isFraction 298 = .ok (.bastore, 1) := by decide +kernel
theorem dL_isFraction_299 : decode cL_isFraction 299 = .ok (.iinc 17 1, 3) := by decide +kernel
theorem dL_isFraction_302 : decode cL_isFraction 302 = .ok (.goto (-30), 3) := by decide +kernel
theorem dL_isFraction_305 : decode cL_isFraction 305 = .ok (.iinc 13 (-1), 3) := by decide +kernel
theorem dL_isFraction_308 : decode cL_isFraction 308 = .ok (.goto (-264), 3) := by decide +kernel
theorem dL_isFraction_311 : decode cL_isFraction 311 = .ok (.iload 11, 2) := by decide +kernel
theorem dL_isFraction_313 : decode cL_isFraction 313 = .ok (.ifCond .ne 41, 3) := by decide +kernel
theorem dL_isFraction_316 : decode cL_isFraction 316 = .ok (.iconst 0, 1) := by decide +kernel
theorem dL_isFraction_317 : decode cL_isFraction 317 = .ok (.istore 13, 2) := by decide +kernel
theorem dL_isFraction_319 : decode cL_isFraction 319 = .ok (.iconst 0, 1) := by decide +kernel
theorem dL_isFraction_320 : decode cL_isFraction 320 = .ok (.istore 14, 2) := by decide +kernel
theorem dL_isFraction_322 : decode cL_isFraction 322 = .ok (.iload 14, 2) := by decide +kernel
theorem dL_isFraction_324 : decode cL_isFraction 324 = .ok (.bipush 27, 2) := by decide +kernel
theorem dL_isFraction_326 : decode cL_isFraction 326 = .ok (.if_icmp .ge 20, 3) := by decide +kernel
theorem dL_isFraction_329 : decode cL_isFraction 329 = .ok (.aload 5, 2) := by decide +kernel
theorem dL_isFraction_331 : decode cL_isFraction 331 = .ok (.iload 14, 2) := by decide +kernel
theorem dL_isFraction_333 : decode cL_isFraction 333 = .ok (.baload, 1) := by decide +kernel
theorem dL_isFraction_334 : decode cL_isFraction 334 = .ok (.ifCond .ne 6, 3) := by decide +kernel
theorem dL_isFraction_337 : decode cL_isFraction 337 = .ok (.iinc 13 1, 3) := by decide +kernel
theorem dL_isFraction_340 : decode cL_isFraction 340 = .ok (.iinc 14 1, 3) := by decide +kernel
theorem dL_isFraction_343 : decode cL_isFraction 343 = .ok (.goto (-21), 3) := by decide +kernel
theorem dL_isFraction_346 : decode cL_isFraction 346 = .ok (.lload 8, 2) := by decide +kernel
theorem dL_isFraction_348 : decode cL_isFraction 348 = .ok (.iload 13, 2) := by decide +kernel
theorem dL_isFraction_350 : decode cL_isFraction 350 = .ok (.i2l, 1) := by decide +kernel
theorem dL_isFraction_351 : decode cL_isFraction 351 = .ok (.lmul, 1) := by decide +kernel
theorem dL_isFraction_352 : decode cL_isFraction 352 = .ok (.lstore 8, 2) := by decide +kernel
theorem dL_isFraction_354 : decode cL_isFraction 354 = .ok (.lload 6, 2) := by decide +kernel
theorem dL_isFraction_356 : decode cL_isFraction 356 = .ok (.lload 8, 2) := by decide +kernel
theorem dL_isFraction_358 : decode cL_isFraction 358 = .ok (.invokestatic 197, 3) := by decide +kernel
theorem dL_isFraction_361 : decode cL_isFraction 361 = .ok (.lstore 13, 2) := by decide +kernel
theorem dL_isFraction_363 : decode cL_isFraction 363 = .ok (.aload_n 0, 1) := by decide +kernel
theorem dL_isFraction_364 : decode cL_isFraction 364 = .ok (.iload_n 1, 1) := by decide +kernel
theorem dL_isFraction_365 : decode cL_isFraction 365 = .ok (.iload_n 2, 1) := by decide +kernel
theorem dL_isFraction_366 : decode cL_isFraction 366 = .ok (.iload_n 3, 1) := by decide +kernel
theorem dL_isFraction_367 : decode cL_isFraction 367 = .ok (.iload 4, 2) := by decide +kernel
theorem dL_isFraction_369 : decode cL_isFraction 369 = .ok (.invokevirtual 201, 3) := by decide +kernel
theorem dL_isFraction_372 : decode cL_isFraction 372 = .ok (.lstore 15, 2) := by decide +kernel
theorem dL_isFraction_374 : decode cL_isFraction 374 = .ok (.aload_n 0, 1) := by decide +kernel
theorem dL_isFraction_375 : decode cL_isFraction 375 = .ok (.iload_n 1, 1) := by decide +kernel
theorem dL_isFraction_376 : decode cL_isFraction 376 = .ok (.iload_n 2, 1) := by decide +kernel
theorem dL_isFraction_377 : decode cL_isFraction 377 = .ok (.iload_n 3, 1) := by decide +kernel
theorem dL_isFraction_378 : decode cL_isFraction 378 = .ok (.iload 4, 2) := by decide +kernel
theorem dL_isFraction_380 : decode cL_isFraction 380 = .ok (.invokevirtual 205, 3) := by decide +kernel
theorem dL_isFraction_383 : decode cL_isFraction 383 = .ok (.lstore 17, 2) := by decide +kernel
theorem dL_isFraction_385 : decode cL_isFraction 385 = .ok (.iconst 0, 1) := by decide +kernel
theorem dL_isFraction_386 : decode cL_isFraction 386 = .ok (.istore 19, 2) := by decide +kernel
theorem dL_isFraction_388 : decode cL_isFraction 388 = .ok (.lload 15, 2) := by decide +kernel
theorem dL_isFraction_390 : decode cL_isFraction 390 = .ok (.lstore 20, 2) := by decide +kernel
theorem dL_isFraction_392 : decode cL_isFraction 392 = .ok (.lload 20, 2) := by decide +kernel
theorem dL_isFraction_394 : decode cL_isFraction 394 = .ok (.lload 17, 2) := by decide +kernel
theorem dL_isFraction_396 : decode cL_isFraction 396 = .ok (.lcmp, 1) := by decide +kernel
theorem dL_isFraction_397 : decode cL_isFraction 397 = .ok (.ifCond .ge 17, 3) := by decide +kernel
theorem dL_isFraction_400 : decode cL_isFraction 400 = .ok (.iinc 19 1, 3) := by decide +kernel
theorem dL_isFraction_403 : decode cL_isFraction 403 = .ok (.lload 20, 2) := by decide +kernel
theorem dL_isFraction_405 : decode cL_isFraction 405 = .ok (.ldc2_w 208, 3) := by decide +kernel
theorem dL_isFraction_408 : decode cL_isFraction 408 = .ok (.lmul, 1) := by decide +kernel
theorem dL_isFraction_409 : decode cL_isFraction 409 = .ok (.lstore 20, 2) := by decide +kernel
theorem dL_isFraction_411 : decode cL_isFraction 411 = .ok (.goto (-19), 3) := by decide +kernel
theorem dL_isFraction_414 : decode cL_isFraction 414 = .ok (.lload 15, 2) := by decide +kernel
theorem dL_isFraction_416 : decode cL_isFraction 416 = .ok (.lload 6, 2) := by decide +kernel
theorem dL_isFraction_418 : decode cL_isFraction 418 = .ok (.lload 13, 2) := by decide +kernel
theorem dL_isFraction_420 : decode cL_isFraction 420 = .ok (.ldiv, 1) := by decide +kernel
theorem dL_isFraction_421 : decode cL_isFraction 421 = .ok (.lcmp, 1) := by decide +kernel
theorem dL_isFraction_422 : decode cL_isFraction 422 = .ok (.ifCond .ne 66, 3) := by decide +kernel
theorem dL_isFraction_425 : decode cL_isFraction 425 = .ok (.lload 17, 2) := by decide +kernel
theorem dL_isFraction_427 : decode cL_isFraction 427 = .ok (.lload 8, 2) := by decide +kernel
theorem dL_isFraction_429 : decode cL_isFraction 429 = .ok (.lload 13, 2) := by decide +kernel
theorem dL_isFraction_431 : decode cL_isFraction 431 = .ok (.ldiv, 1) := by decide +kernel
theorem dL_isFraction_432 : decode cL_isFraction 432 = .ok (.lcmp, 1) := by decide +kernel
theorem dL_isFraction_433 : decode cL_isFraction 433 = .ok (.ifCond .ne 55, 3) := by decide +kernel
theorem dL_isFraction_436 : decode cL_isFraction 436 = .ok (.aload_n 0, 1) := by decide +kernel
theorem dL_isFraction_437 : decode cL_isFraction 437 = .ok (.iload_n 1, 1) := by decide +kernel
theorem dL_isFraction_438 : decode cL_isFraction 438 = .ok (.iload_n 2, 1) := by decide +kernel
theorem dL_isFraction_439 : decode cL_isFraction 439 = .ok (.iload_n 3, 1) := by decide +kernel
theorem dL_isFraction_440 : decode cL_isFraction 440 = .ok (.iload 4, 2) := by decide +kernel
theorem dL_isFraction_442 : decode cL_isFraction 442 = .ok (.invokevirtual 210, 3) := by decide +kernel
theorem dL_isFraction_445 : decode cL_isFraction 445 = .ok (.iload 10, 2) := by decide +kernel
theorem dL_isFraction_447 : decode cL_isFraction 447 = .ok (.if_icmp .ne 41, 3) := by decide +kernel
theorem dL_isFraction_450 : decode cL_isFraction 450 = .ok (.aload_n 0, 1) := by decide +kernel
theorem dL_isFraction_451 : decode cL_isFraction 451 = .ok (.iload_n 1, 1) := by decide +kernel
theorem dL_isFraction_452 : decode cL_isFraction 452 = .ok (.iload_n 2, 1) := by decide +kernel
theorem dL_isFraction_453 : decode cL_isFraction 453 = .ok (.iload_n 3, 1) := by decide +kernel
theorem dL_isFraction_454 : decode cL_isFraction 454 = .ok (.iload 4, 2) := by decide +kernel
theorem dL_isFraction_456 : decode cL_isFraction 456 = .ok (.invokevirtual 213, 3) := by decide +kernel
theorem dL_isFraction_459 : decode cL_isFraction 459 = .ok (.iload 19, 2) := by decide +kernel
theorem dL_isFraction_461 : decode cL_isFraction 461 = .ok (.if_icmp .ne 27, 3) := by decide +kernel
theorem dL_isFraction_464 : decode cL_isFraction 464 = .ok (.aload_n 0, 1) := by decide +kernel
theorem dL_isFraction_465 : decode cL_isFraction 465 = .ok (.iload_n 1, 1) := by decide +kernel
theorem dL_isFraction_466 : decode cL_isFraction 466 = .ok (.iload_n 2, 1) := by decide +kernel
theorem dL_isFraction_467 : decode cL_isFraction 467 = .ok (.iload_n 3, 1) := by decide +kernel
theorem dL_isFraction_468 : decode cL_isFraction 468 = .ok (.iload 4, 2) := by decide +kernel
theorem dL_isFraction_470 : decode cL_isFraction 470 = .ok (.invokevirtual 216, 3) := by decide +kernel
theorem dL_isFraction_473 : decode cL_isFraction 473 = .ok (.lload 15, 2) := by decide +kernel
theorem dL_isFraction_475 : decode cL_isFraction 475 = .ok (.l2d, 1) := by decide +kernel
theorem dL_isFraction_476 : decode cL_isFraction 476 = .ok (.lload 17, 2) := by decide +kernel
theorem dL_isFraction_478 : decode cL_isFraction 478 = .ok (.l2d, 1) := by decide +kernel
theorem dL_isFraction_479 : decode cL_isFraction 479 = .ok (.ddiv, 1) := by decide +kernel
theorem dL_isFraction_480 : decode cL_isFraction 480 = .ok (.dcmp .l, 1) := by decide +kernel
theorem dL_isFraction_481 : decode cL_isFraction 481 = .ok (.ifCond .ne 7, 3) := by decide +kernel
theorem dL_isFraction_484 : decode cL_isFraction 484 = .ok (.iconst 1, 1) := by decide +kernel
theorem dL_isFraction_485 : decode cL_isFraction 485 = .ok (.goto 4, 3) := by decide +kernel
theorem dL_isFraction_488 : decode cL_isFraction 488 = .ok (.iconst 0, 1) := by decide +kernel
theorem dL_isFraction_489 : decode cL_isFraction 489 = .ok (.ireturn, 1) := by decide +kernel
