theorem dX0_init_0 : decode cX0_init 0 = .ok (.aload_n 0, 1) := by decide +kernel
theorem dX0_init_1 : decode cX0_init 1 = .ok (.invokespecial 3, 3) := by decide +kernel
theorem dX0_init_4 : decode cX0_init 4 = .ok (.aload_n 0, 1) := by decide +kernel
theorem dX0_init_5 : decode cX0_init 5 = .ok (.sipush 500, 3) := by decide +kernel
theorem dX0_init_8 : decode cX0_init 8 = .ok (.newarray .int, 2) := by decide +kernel
theorem dX0_init_10 : decode cX0_init 10 = .ok (.putfield 9, 3) := by decide +kernel
theorem dX0_init_13 : decode cX0_init 13 = .ok (.aload_n 0, 1) := by decide +kernel
theorem dX0_init_14 : decode cX0_init 14 = .ok (.iconst 0, 1) := by decide +kernel
theorem dX0_init_15 : decode cX0_init 15 = .ok (.putfield 15, 3) := by decide +kernel
theorem dX0_init_18 : decode cX0_init 18 = .ok (.return_, 1) := by decide +kernel
theorem dX0_clear_0 : decode cX0_clear 0 = .ok (.aload_n 0, 1) := by decide +kernel
theorem dX0_clear_1 : decode cX0_clear 1 = .ok (.iconst 0, 1) := by decide +kernel
theorem dX0_clear_2 : decode cX0_clear 2 = .ok (.putfield 15, 3) := by decide +kernel
theorem dX0_clear_5 : decode cX0_clear 5 = .ok (.return_, 1) := by decide +kernel
theorem dX0_append_0 : decode cX0_append 0 = .ok (.aload_n 0, 1) := by decide +kernel
theorem dX0_append_1 : decode cX0_append 1 = .ok (.getfield 15, 3) := by decide +kernel
theorem dX0_append_4 : decode cX0_append 4 = .ok (.aload_n 0, 1) := by decide +kernel
theorem dX0_append_5 : decode cX0_append 5 = .ok (.getfield 9, 3) := by decide +kernel
theorem dX0_append_8 : decode cX0_append 8 = .ok (.arraylength, 1) := by decide +kernel
theorem dX0_append_9 : decode cX0_append 9 = .ok (.if_icmp .ge 23, 3) := by decide +kernel
theorem dX0_append_12 : decode cX0_append 12 = .ok (.aload_n 0, 1) := by decide +kernel
theorem dX0_append_13 : decode cX0_append 13 = .ok (.getfield 9, 3) := by decide +kernel
theorem dX0_append_16 : decode cX0_append 16 = .ok (.aload_n 0, 1) := by decide +kernel
theorem dX0_append_17 : decode cX0_append 17 = .ok (.getfield 15, 3) := by decide +kernel
theorem dX0_append_20 : decode cX0_append 20 = .ok (.iload_n 1, 1) := by decide +kernel
theorem dX0_append_21 : decode cX0_append 21 = .ok (.iastore, 1) := by decide +kernel
theorem dX0_append_22 : decode cX0_append 22 = .ok (.aload_n 0, 1) := by decide +kernel
theorem dX0_append_23 : decode cX0_append 23 = .ok (.dup, 1) := by decide +kernel
theorem dX0_append_24 : decode cX0_append 24 = .ok (.getfield 15, 3) := by decide +kernel
theorem dX0_append_27 : decode cX0_append 27 = .ok (.iconst 1, 1) := by decide +kernel
theorem dX0_append_28 : decode cX0_append 28 = .ok (.iadd, 1) := by decide +kernel
theorem dX0_append_29 : decode cX0_append 29 = .ok (.putfield 15, 3) := by decide +kernel
theorem dX0_append_32 : decode cX0_append 32 = .ok (.return_, 1) := by decide +kernel
theorem dX0_appendFour_0 : decode cX0_appendFour 0 = .ok (.aload_n 0, 1) := by decide +kernel
theorem dX0_appendFour_1 : decode cX0_appendFour 1 = .ok (.iload_n 1, 1) := by decide +kernel
theorem dX0_appendFour_2 : decode cX0_appendFour 2 = .ok (.bipush 24, 2) := by decide +kernel
theorem dX0_appendFour_4 : decode cX0_appendFour 4 = .ok (.iushr, 1) := by decide +kernel
theorem dX0_appendFour_5 : decode cX0_appendFour 5 = .ok (.invokevirtual 19, 3) := by decide +kernel
theorem dX0_appendFour_8 : decode cX0_appendFour 8 = .ok (.aload_n 0, 1) := by decide +kernel
theorem dX0_appendFour_9 : decode cX0_appendFour 9 = .ok (.iload_n 1, 1) := by decide +kernel
theorem dX0_appendFour_10 : decode cX0_appendFour 10 = .ok (.bipush 16, 2) := by decide +kernel
theorem dX0_appendFour_12 : decode cX0_appendFour 12 = .ok (.iushr, 1) := by decide +kernel
theorem dX0_appendFour_13 : decode cX0_appendFour 13 = .ok (.sipush 255, 3) := by decide +kernel
theorem dX0_appendFour_16 : decode cX0_appendFour 16 = .ok (.iand, 1) := by decide +kernel
theorem dX0_appendFour_17 : decode cX0_appendFour 17 = .ok (.invokevirtual 19, 3) := by decide +kernel
theorem dX0_appendFour_20 : decode cX0_appendFour 20 = .ok (.aload_n 0, 1) := by decide +kernel
theorem dX0_appendFour_21 : decode cX0_appendFour 21 = .ok (.iload_n 1, 1) := by decide +kernel
theorem dX0_appendFour_22 : decode cX0_appendFour 22 = .ok (.bipush 8, 2) := by decide +kernel
theorem dX0_appendFour_24 : decode cX0_appendFour 24 = .ok (.iushr, 1) := by decide +kernel
theorem dX0_appendFour_25 : decode cX0_appendFour 25 = .ok (.sipush 255, 3) := by decide +kernel
theorem dX0_appendFour_28 : decode cX0_appendFour 28 = .ok (.iand, 1) := by decide +kernel
theorem dX0_appendFour_29 : decode cX0_appendFour 29 = .ok (.invokevirtual 19, 3) := by decide +kernel
theorem dX0_appendFour_32 : decode cX0_appendFour 32 = .ok (.aload_n 0, 1) := by decide +kernel
theorem dX0_appendFour_33 : decode cX0_appendFour 33 = .ok (.iload_n 1, 1) := by decide +kernel
theorem dX0_appendFour_34 : decode cX0_appendFour 34 = .ok (.sipush 255, 3) := by decide +kernel
theorem dX0_appendFour_37 : decode cX0_appendFour 37 = .ok (.iand, 1) := by decide +kernel
theorem dX0_appendFour_38 : decode cX0_appendFour 38 = .ok (.invokevirtual 19, 3) := by decide +kernel
theorem dX0_appendFour_41 : decode cX0_appendFour 41 = .ok (.return_, 1) := by decide +kernel
theorem dX0_at_0 : decode cX0_at 0 = .ok (.iload_n 1, 1) := by decide +kernel
theorem dX0_at_1 : decode cX0_at 1 = .ok (.ifCond .lt 20, 3) := by decide +kernel
theorem dX0_at_4 : decode cX0_at 4 = .ok (.iload_n 1, 1) := by decide +kernel
theorem dX0_at_5 : decode cX0_at 5 = .ok (.aload_n 0, 1) := by decide +kernel
theorem dX0_at_6 : decode cX0_at 6 = .ok (.getfield 15, 3) := by decide +kernel
theorem dX0_at_9 : decode cX0_at 9 = .ok (.if_icmp .ge 12, 3) := by decide +kernel
theorem dX0_at_12 : decode cX0_at 12 = .ok (.aload_n 0, 1) := by decide +kernel
theorem dX0_at_13 : decode cX0_at 13 = .ok (.getfield 9, 3) := by decide +kernel
theorem dX0_at_16 : decode cX0_at 16 = .ok (.iload_n 1, 1) := by decide +kernel
theorem dX0_at_17 : decode cX0_at 17 = .ok (.iaload, 1) := by decide +kernel
theorem dX0_at_18 : decode cX0_at 18 = .ok (.goto 4, 3) := by decide +kernel
theorem dX0_at_21 : decode cX0_at 21 = .ok (.iconst (-1), 1) := by decide +kernel
theorem dX0_at_22 : decode cX0_at 22 = .ok (.ireturn, 1) := by decide +kernel
theorem dX0_isName_0 : decode cX0_isName 0 = .ok (.iload_n 2, 1) := by decide +kernel
theorem dX0_isName_1 : decode cX0_isName 1 = .ok (.iload_n 1, 1) := by decide +kernel
theorem dX0_isName_2 : decode cX0_isName 2 = .ok (.if_icmp .le 14, 3) := by decide +kernel
theorem dX0_isName_5 : decode cX0_isName 5 = .ok (.iload_n 2, 1) := by decide +kernel
theorem dX0_isName_6 : decode cX0_isName 6 = .ok (.iload_n 1, 1) := by decide +kernel
theorem dX0_isName_7 : decode cX0_isName 7 = .ok (.isub, 1) := by decide +kernel
theorem dX0_isName_8 : decode cX0_isName 8 = .ok (.iconst 4, 1) := by decide +kernel
theorem dX0_isName_9 : decode cX0_isName 9 = .ok (.if_icmp .gt 7, 3) := by decide +kernel
theorem dX0_isName_12 : decode cX0_isName 12 = .ok (.iconst 1, 1) := by decide +kernel
theorem dX0_isName_13 : decode cX0_isName 13 = .ok (.goto 4, 3) := by decide +kernel
theorem dX0_isName_16 : decode cX0_isName 16 = .ok (.iconst 0, 1) := by decide +kernel
theorem dX0_isName_17 : decode cX0_isName 17 = .ok (.istore_n 3, 1) := by decide +kernel
theorem dX0_isName_18 : decode cX0_isName 18 = .ok (.iload_n 1, 1) := by decide +kernel
theorem dX0_isName_19 : decode cX0_isName 19 = .ok (.istore 4, 2) := by decide +kernel
theorem dX0_isName_21 : decode cX0_isName 21 = .ok (.iload 4, 2) := by decide +kernel
theorem dX0_isName_23 : decode cX0_isName 23 = .ok (.iload_n 2, 1) := by decide +kernel
theorem dX0_isName_24 : decode cX0_isName 24 = .ok (.if_icmp .ge 23, 3) := by decide +kernel
theorem dX0_isName_27 : decode cX0_isName 27 = .ok (.iload_n 3, 1) := by decide +kernel
theorem dX0_isName_28 : decode cX0_isName 28 = .ok (.ifCond .eq 19, 3) := by decide +kernel
theorem dX0_isName_31 : decode cX0_isName 31 = .ok (.aload_n 0, 1) := by decide +kernel
theorem dX0_isName_32 : decode cX0_isName 32 = .ok (.iload 4, 2) := by decide +kernel
theorem dX0_isName_34 : decode cX0_isName 34 = .ok (.invokevirtual 23, 3) := by decide +kernel
theorem dX0_isName_37 : decode cX0_isName 37 = .ok (.invokestatic 27, 3) := by decide +kernel
theorem dX0_isName_40 : decode cX0_isName 40 = .ok (.istore_n 3, 1) := by decide +kernel
theorem dX0_isName_41 : decode cX0_isName 41 = .ok (.iinc 4 1, 3) := by decide +kernel
theorem dX0_isName_44 : decode cX0_isName 44 = .ok (.goto (-23), 3) := by decide +kernel
theorem dX0_isName_47 : decode cX0_isName 47 = .ok (.iload_n 3, 1) := by decide +kernel
theorem dX0_isName_48 : decode cX0_isName 48 = .ok (.ireturn, 1) := by decide +kernel
theorem dX0_isDocument_0 : decode cX0_isDocument 0 = .ok (.iload_n 2, 1) := by decide +kernel
theorem dX0_isDocument_1 : decode cX0_isDocument 1 = .ok (.iload_n 1, 1) := by decide +kernel
theorem dX0_isDocument_2 : decode cX0_isDocument 2 = .ok (.if_icmp .le 15, 3) := by decide +kernel
theorem dX0_isDocument_5 : decode cX0_isDocument 5 = .ok (.iload_n 2, 1) := by decide +kernel
theorem dX0_isDocument_6 : decode cX0_isDocument 6 = .ok (.iload_n 1, 1) := by decide +kernel
theorem dX0_isDocument_7 : decode cX0_isDocument 7 = .ok (.isub, 1) := by decide +kernel
theorem dX0_isDocument_8 : decode cX0_isDocument 8 = .ok (.bipush 40, 2) := by decide +kernel
theorem dX0_isDocument_10 : decode cX0_isDocument 10 = .ok (.if_icmp .gt 7, 3) := by decide +kernel
theorem dX0_isDocument_13 : decode cX0_isDocument 13 = .ok (.iconst 1, 1) := by decide +kernel
theorem dX0_isDocument_14 : decode cX0_isDocument 14 = .ok (.goto 4, 3) := by decide +kernel
theorem dX0_isDocument_17 : decode cX0_isDocument 17 = .ok (.iconst 0, 1) := by decide +kernel
theorem dX0_isDocument_18 : decode cX0_isDocument 18 = .ok (.istore_n 3, 1) := by decide +kernel
theorem dX0_isDocument_19 : decode cX0_isDocument 19 = .ok (.iload_n 1, 1) := by decide +kernel
theorem dX0_isDocument_20 : decode cX0_isDocument 20 = .ok (.istore 4, 2) := by decide +kernel
theorem dX0_isDocument_22 : decode cX0_isDocument 22 = .ok (.iload 4, 2) := by decide +kernel
theorem dX0_isDocument_24 : decode cX0_isDocument 24 = .ok (.iload_n 2, 1) := by decide +kernel
theorem dX0_isDocument_25 : decode cX0_isDocument 25 = .ok (.if_icmp .ge 42, 3) := by decide +kernel
theorem dX0_isDocument_28 : decode cX0_isDocument 28 = .ok (.iload_n 3, 1) := by decide +kernel
theorem dX0_isDocument_29 : decode cX0_isDocument 29 = .ok (.ifCond .eq 38, 3) := by decide +kernel
theorem dX0_isDocument_32 : decode cX0_isDocument 32 = .ok (.aload_n 0, 1) := by decide +kernel
theorem dX0_isDocument_33 : decode cX0_isDocument 33 = .ok (.iload 4, 2) := by decide +kernel
theorem dX0_isDocument_35 : decode cX0_isDocument 35 = .ok (.invokevirtual 23, 3) := by decide +kernel
theorem dX0_isDocument_38 : decode cX0_isDocument 38 = .ok (.invokestatic 27, 3) := by decide +kernel
theorem dX0_isDocument_41 : decode cX0_isDocument 41 = .ok (.ifCond .ne 14, 3) := by decide +kernel
theorem dX0_isDocument_44 : decode cX0_isDocument 44 = .ok (.aload_n 0, 1) := by decide +kernel
theorem dX0_isDocument_45 : decode cX0_isDocument 45 = .ok (.iload 4, 2) := by decide +kernel
theorem dX0_isDocument_47 : decode cX0_isDocument 47 = .ok (.invokevirtual 23, 3) := by decide +kernel
theorem dX0_isDocument_50 : decode cX0_isDocument 50 = .ok (.bipush 95, 2) := by decide +kernel
theorem dX0_isDocument_52 : decode cX0_isDocument 52 = .ok (.if_icmp .ne 7, 3) := by decide +kernel
theorem dX0_isDocument_55 : decode cX0_isDocument 55 = .ok (.iconst 1, 1) := by decide +kernel
theorem dX0_isDocument_56 : decode cX0_isDocument 56 = .ok (.goto 4, 3) := by decide +kernel
theorem dX0_isDocument_59 : decode cX0_isDocument 59 = .ok (.iconst 0, 1) := by decide +kernel
theorem dX0_isDocument_60 : decode cX0_isDocument 60 = .ok (.istore_n 3, 1) := by decide +kernel
theorem dX0_isDocument_61 : decode cX0_isDocument 61 = .ok (.iinc 4 1, 3) := by decide +kernel
theorem dX0_isDocument_64 : decode cX0_isDocument 64 = .ok (.goto (-42), 3) := by decide +kernel
theorem dX0_isDocument_67 : decode cX0_isDocument 67 = .ok (.iload_n 3, 1) := by decide +kernel
theorem dX0_isDocument_68 : decode cX0_isDocument 68 = .ok (.ireturn, 1) := by decide +kernel
theorem dX1_init_0 : decode cX1_init 0 = .ok (.aload_n 0, 1) := by decide +kernel
theorem dX1_init_1 : decode cX1_init 1 = .ok (.invokespecial 3, 3) := by decide +kernel
theorem dX1_init_4 : decode cX1_init 4 = .ok (.aload_n 0, 1) := by decide +kernel
theorem dX1_init_5 : decode cX1_init 5 = .ok (.lconst 1, 1) := by decide +kernel
theorem dX1_init_6 : decode cX1_init 6 = .ok (.putfield 9, 3) := by decide +kernel
theorem dX1_init_9 : decode cX1_init 9 = .ok (.aload_n 0, 1) := by decide +kernel
theorem dX1_init_10 : decode cX1_init 10 = .ok (.lconst 1, 1) := by decide +kernel
theorem dX1_init_11 : decode cX1_init 11 = .ok (.putfield 15, 3) := by decide +kernel
theorem dX1_init_14 : decode cX1_init 14 = .ok (.aload_n 0, 1) := by decide +kernel
theorem dX1_init_15 : decode cX1_init 15 = .ok (.iconst 0, 1) := by decide +kernel
theorem dX1_init_16 : decode cX1_init 16 = .ok (.putfield 18, 3) := by decide +kernel
theorem dX1_init_19 : decode cX1_init 19 = .ok (.aload_n 0, 1) := by decide +kernel
theorem dX1_init_20 : decode cX1_init 20 = .ok (.iconst 0, 1) := by decide +kernel
theorem dX1_init_21 : decode cX1_init 21 = .ok (.putfield 22, 3) := by decide +kernel
theorem dX1_init_24 : decode cX1_init 24 = .ok (.return_, 1) := by decide +kernel
theorem dX1_find_0 : decode cX1_find 0 = .ok (.aload_n 0, 1) := by decide +kernel
theorem dX1_find_1 : decode cX1_find 1 = .ok (.lconst 1, 1) := by decide +kernel
theorem dX1_find_2 : decode cX1_find 2 = .ok (.putfield 9, 3) := by decide +kernel
theorem dX1_find_5 : decode cX1_find 5 = .ok (.aload_n 0, 1) := by decide +kernel
theorem dX1_find_6 : decode cX1_find 6 = .ok (.lconst 1, 1) := by decide +kernel
theorem dX1_find_7 : decode cX1_find 7 = .ok (.putfield 15, 3) := by decide +kernel
theorem dX1_find_10 : decode cX1_find 10 = .ok (.aload_n 0, 1) := by decide +kernel
theorem dX1_find_11 : decode cX1_find 11 = .ok (.iconst 0, 1) := by decide +kernel
theorem dX1_find_12 : decode cX1_find 12 = .ok (.putfield 18, 3) := by decide +kernel
theorem dX1_find_15 : decode cX1_find 15 = .ok (.aload_n 0, 1) := by decide +kernel
theorem dX1_find_16 : decode cX1_find 16 = .ok (.iconst 0, 1) := by decide +kernel
theorem dX1_find_17 : decode cX1_find 17 = .ok (.putfield 22, 3) := by decide +kernel
theorem dX1_find_20 : decode cX1_find 20 = .ok (.iconst 0, 1) := by decide +kernel
theorem dX1_find_21 : decode cX1_find 21 = .ok (.istore 5, 2) := by decide +kernel
theorem dX1_find_23 : decode cX1_find 23 = .ok (.iload_n 2, 1) := by decide +kernel
theorem dX1_find_24 : decode cX1_find 24 = .ok (.iload_n 3, 1) := by decide +kernel
theorem dX1_find_25 : decode cX1_find 25 = .ok (.invokestatic 25, 3) := by decide +kernel
theorem dX1_find_28 : decode cX1_find 28 = .ok (.istore 6, 2) := by decide +kernel
theorem dX1_find_30 : decode cX1_find 30 = .ok (.iload 6, 2) := by decide +kernel
theorem dX1_find_32 : decode cX1_find 32 = .ok (.ifCond .lt 37, 3) := by decide +kernel
theorem dX1_find_35 : decode cX1_find 35 = .ok (.iload 5, 2) := by decide +kernel
theorem dX1_find_37 : decode cX1_find 37 = .ok (.ifCond .ne 32, 3) := by decide +kernel
theorem dX1_find_40 : decode cX1_find 40 = .ok (.aload_n 0, 1) := by decide +kernel
theorem dX1_find_41 : decode cX1_find 41 = .ok (.aload_n 1, 1) := by decide +kernel
theorem dX1_find_42 : decode cX1_find 42 = .ok (.getfield 29, 3) := by decide +kernel
theorem dX1_find_45 : decode cX1_find 45 = .ok (.aload_n 1, 1) := by decide +kernel
theorem dX1_find_46 : decode cX1_find 46 = .ok (.getfield 35, 3) := by decide +kernel
theorem dX1_find_49 : decode cX1_find 49 = .ok (.iload 6, 2) := by decide +kernel
theorem dX1_find_51 : decode cX1_find 51 = .ok (.iload_n 2, 1) := by decide +kernel
theorem dX1_find_52 : decode cX1_find 52 = .ok (.iload_n 3, 1) := by decide +kernel
theorem dX1_find_53 : decode cX1_find 53 = .ok (.invokestatic 38, 3) := by decide +kernel
theorem dX1_find_56 : decode cX1_find 56 = .ok (.iload 4, 2) := by decide +kernel
theorem dX1_find_58 : decode cX1_find 58 = .ok (.invokevirtual 42, 3) := by decide +kernel
theorem dX1_find_61 : decode cX1_find 61 = .ok (.istore 5, 2) := by decide +kernel
theorem dX1_find_63 : decode cX1_find 63 = .ok (.iinc 6 (-1), 3) := by decide +kernel
theorem dX1_find_66 : decode cX1_find 66 = .ok (.goto (-36), 3) := by decide +kernel
theorem dX1_find_69 : decode cX1_find 69 = .ok (.iload 5, 2) := by decide +kernel
theorem dX1_find_71 : decode cX1_find 71 = .ok (.ifCond .ne 23, 3) := by decide +kernel
theorem dX1_find_74 : decode cX1_find 74 = .ok (.aload_n 0, 1) := by decide +kernel
theorem dX1_find_75 : decode cX1_find 75 = .ok (.dup, 1) := by decide +kernel
theorem dX1_find_76 : decode cX1_find 76 = .ok (.getfield 15, 3) := by decide +kernel
theorem dX1_find_79 : decode cX1_find 79 = .ok (.bipush 27, 2) := by decide +kernel
theorem dX1_find_81 : decode cX1_find 81 = .ok (.aload_n 0, 1) := by decide +kernel
theorem dX1_find_82 : decode cX1_find 82 = .ok (.getfield 22, 3) := by decide +kernel
theorem dX1_find_85 : decode cX1_find 85 = .ok (.invokestatic 46, 3) := by decide +kernel
theorem dX1_find_88 : decode cX1_find 88 = .ok (.isub, 1) := by decide +kernel
theorem dX1_find_89 : decode cX1_find 89 = .ok (.i2l, 1) := by decide +kernel
theorem dX1_find_90 : decode cX1_find 90 = .ok (.lmul, 1) := by decide +kernel
theorem dX1_find_91 : decode cX1_find 91 = .ok (.putfield 15, 3) := by decide +kernel
theorem dX1_find_94 : decode cX1_find 94 = .ok (.aload_n 0, 1) := by decide +kernel
theorem dX1_find_95 : decode cX1_find 95 = .ok (.invokevirtual 52, 3) := by decide +kernel
theorem dX1_find_98 : decode cX1_find 98 = .ok (.return_, 1) := by decide +kernel
theorem dX1_visit_0 : decode cX1_visit 0 = .ok (.iconst 0, 1) := by decide +kernel
theorem dX1_visit_1 : decode cX1_visit 1 = .ok (.istore 5, 2) := by decide +kernel
theorem dX1_visit_3 : decode cX1_visit 3 = .ok (.iconst 0, 1) := by decide +kernel
theorem dX1_visit_4 : decode cX1_visit 4 = .ok (.istore 6, 2) := by decide +kernel
theorem dX1_visit_6 : decode cX1_visit 6 = .ok (.iconst 0, 1) := by decide +kernel
theorem dX1_visit_7 : decode cX1_visit 7 = .ok (.istore 7, 2) := by decide +kernel
theorem dX1_visit_9 : decode cX1_visit 9 = .ok (.aload_n 0, 1) := by decide +kernel
theorem dX1_visit_10 : decode cX1_visit 10 = .ok (.getfield 22, 3) := by decide +kernel
theorem dX1_visit_13 : decode cX1_visit 13 = .ok (.istore 8, 2) := by decide +kernel
theorem dX1_visit_15 : decode cX1_visit 15 = .ok (.aload_n 1, 1) := by decide +kernel
theorem dX1_visit_16 : decode cX1_visit 16 = .ok (.iload_n 3, 1) := by decide +kernel
theorem dX1_visit_17 : decode cX1_visit 17 = .ok (.invokevirtual 55, 3) := by decide +kernel
theorem dX1_visit_20 : decode cX1_visit 20 = .ok (.istore 9, 2) := by decide +kernel
theorem dX1_visit_22 : decode cX1_visit 22 = .ok (.iload 9, 2) := by decide +kernel
theorem dX1_visit_24 : decode cX1_visit 24 = .ok (.aload_n 1, 1) := by decide +kernel
theorem dX1_visit_25 : decode cX1_visit 25 = .ok (.getfield 60, 3) := by decide +kernel
theorem dX1_visit_28 : decode cX1_visit 28 = .ok (.if_icmp .ge 96, 3) := by decide +kernel
theorem dX1_visit_31 : decode cX1_visit 31 = .ok (.aload_n 1, 1) := by decide +kernel
theorem dX1_visit_32 : decode cX1_visit 32 = .ok (.getfield 63, 3) := by decide +kernel
theorem dX1_visit_35 : decode cX1_visit 35 = .ok (.iload 9, 2) := by decide +kernel
theorem dX1_visit_37 : decode cX1_visit 37 = .ok (.iaload, 1) := by decide +kernel
theorem dX1_visit_38 : decode cX1_visit 38 = .ok (.iload_n 3, 1) := by decide +kernel
theorem dX1_visit_39 : decode cX1_visit 39 = .ok (.bipush 27, 2) := by decide +kernel
theorem dX1_visit_41 : decode cX1_visit 41 = .ok (.iadd, 1) := by decide +kernel
theorem dX1_visit_42 : decode cX1_visit 42 = .ok (.if_icmp .ge 82, 3) := by decide +kernel
theorem dX1_visit_45 : decode cX1_visit 45 = .ok (.iconst 1, 1) := by decide +kernel
theorem dX1_visit_46 : decode cX1_visit 46 = .ok (.aload_n 1, 1) := by decide +kernel
theorem dX1_visit_47 : decode cX1_visit 47 = .ok (.getfield 63, 3) := by decide +kernel
theorem dX1_visit_50 : decode cX1_visit 50 = .ok (.iload 9, 2) := by decide +kernel
theorem dX1_visit_52 : decode cX1_visit 52 = .ok (.iaload, 1) := by decide +kernel
theorem dX1_visit_53 : decode cX1_visit 53 = .ok (.iload_n 3, 1) := by decide +kernel
theorem dX1_visit_54 : decode cX1_visit 54 = .ok (.isub, 1) := by decide +kernel
theorem dX1_visit_55 : decode cX1_visit 55 = .ok (.ishl, 1) := by decide +kernel
theorem dX1_visit_56 : decode cX1_visit 56 = .ok (.istore 10, 2) := by decide +kernel
theorem dX1_visit_58 : decode cX1_visit 58 = .ok (.aload_n 0, 1) := by decide +kernel
theorem dX1_visit_59 : decode cX1_visit 59 = .ok (.getfield 22, 3) := by decide +kernel
theorem dX1_visit_62 : decode cX1_visit 62 = .ok (.iload 10, 2) := by decide +kernel
theorem dX1_visit_64 : decode cX1_visit 64 = .ok (.iand, 1) := by decide +kernel
theorem dX1_visit_65 : decode cX1_visit 65 = .ok (.ifCond .ne 53, 3) := by decide +kernel
theorem dX1_visit_68 : decode cX1_visit 68 = .ok (.iload 5, 2) := by decide +kernel
theorem dX1_visit_70 : decode cX1_visit 70 = .ok (.aload_n 1, 1) := by decide +kernel
theorem dX1_visit_71 : decode cX1_visit 71 = .ok (.getfield 67, 3) := by decide +kernel
theorem dX1_visit_74 : decode cX1_visit 74 = .ok (.iload 9, 2) := by decide +kernel
theorem dX1_visit_76 : decode cX1_visit 76 = .ok (.iaload, 1) := by decide +kernel
theorem dX1_visit_77 : decode cX1_visit 77 = .ok (.iadd, 1) := by decide +kernel
theorem dX1_visit_78 : decode cX1_visit 78 = .ok (.istore 5, 2) := by decide +kernel
theorem dX1_visit_80 : decode cX1_visit 80 = .ok (.iinc 6 1, 3) := by decide +kernel
theorem dX1_visit_83 : decode cX1_visit 83 = .ok (.iload 8, 2) := by decide +kernel
theorem dX1_visit_85 : decode cX1_visit 85 = .ok (.iload 10, 2) := by decide +kernel
theorem dX1_visit_87 : decode cX1_visit 87 = .ok (.ior, 1) := by decide +kernel
theorem dX1_visit_88 : decode cX1_visit 88 = .ok (.istore 8, 2) := by decide +kernel
theorem dX1_visit_90 : decode cX1_visit 90 = .ok (.aload_n 1, 1) := by decide +kernel
theorem dX1_visit_91 : decode cX1_visit 91 = .ok (.getfield 63, 3) := by decide +kernel
theorem dX1_visit_94 : decode cX1_visit 94 = .ok (.iload 9, 2) := by decide +kernel
theorem dX1_visit_96 : decode cX1_visit 96 = .ok (.iaload, 1) := by decide +kernel
theorem dX1_visit_97 : decode cX1_visit 97 = .ok (.iload_n 3, 1) := by decide +kernel
theorem dX1_visit_98 : decode cX1_visit 98 = .ok (.isub, 1) := by decide +kernel
theorem dX1_visit_99 : decode cX1_visit 99 = .ok (.iload 4, 2) := by decide +kernel
theorem dX1_visit_101 : decode cX1_visit 101 = .ok (.if_icmp .ne 13, 3) := by decide +kernel
theorem dX1_visit_104 : decode cX1_visit 104 = .ok (.aload_n 1, 1) := by decide +kernel
theorem dX1_visit_105 : decode cX1_visit 105 = .ok (.getfield 67, 3) := by decide +kernel
theorem dX1_visit_108 : decode cX1_visit 108 = .ok (.iload 9, 2) := by decide +kernel
theorem dX1_visit_110 : decode cX1_visit 110 = .ok (.iaload, 1) := by decide +kernel
theorem dX1_visit_111 : decode cX1_visit 111 = .ok (.goto 5, 3) := by decide +kernel
theorem dX1_visit_114 : decode cX1_visit 114 = .ok (.iload 7, 2) := by decide +kernel
theorem dX1_visit_116 : decode cX1_visit 116 = .ok (.istore 7, 2) := by decide +kernel
theorem dX1_visit_118 : decode cX1_visit 118 = .ok (.iinc 9 1, 3) := by decide +kernel
theorem dX1_visit_121 : decode cX1_visit 121 = .ok (.goto (-99), 3) := by decide +kernel
theorem dX1_visit_124 : decode cX1_visit 124 = .ok (.iload 6, 2) := by decide +kernel
theorem dX1_visit_126 : decode cX1_visit 126 = .ok (.ifCond .ne 5, 3) := by decide +kernel
theorem dX1_visit_129 : decode cX1_visit 129 = .ok (.iconst 0, 1) := by decide +kernel
theorem dX1_visit_130 : decode cX1_visit 130 = .ok (.ireturn, 1) := by decide +kernel
theorem dX1_visit_131 : decode cX1_visit 131 = .ok (.aload_n 0, 1) := by decide +kernel
theorem dX1_visit_132 : decode cX1_visit 132 = .ok (.dup, 1) := by decide +kernel
theorem dX1_visit_133 : decode cX1_visit 133 = .ok (.getfield 15, 3) := by decide +kernel
theorem dX1_visit_136 : decode cX1_visit 136 = .ok (.iload_n 2, 1) := by decide +kernel
theorem dX1_visit_137 : decode cX1_visit 137 = .ok (.iload 5, 2) := by decide +kernel
theorem dX1_visit_139 : decode cX1_visit 139 = .ok (.iload 6, 2) := by decide +kernel
theorem dX1_visit_141 : decode cX1_visit 141 = .ok (.invokestatic 70, 3) := by decide +kernel
theorem dX1_visit_144 : decode cX1_visit 144 = .ok (.i2l, 1) := by decide +kernel
theorem dX1_visit_145 : decode cX1_visit 145 = .ok (.lmul, 1) := by decide +kernel
theorem dX1_visit_146 : decode cX1_visit 146 = .ok (.putfield 15, 3) := by decide +kernel
theorem dX1_visit_149 : decode cX1_visit 149 = .ok (.iload 7, 2) := by decide +kernel
theorem dX1_visit_151 : decode cX1_visit 151 = .ok (.ifCond .le 32, 3) := by decide +kernel
theorem dX1_visit_154 : decode cX1_visit 154 = .ok (.aload_n 0, 1) := by decide +kernel
theorem dX1_visit_155 : decode cX1_visit 155 = .ok (.dup, 1) := by decide +kernel
theorem dX1_visit_156 : decode cX1_visit 156 = .ok (.getfield 9, 3) := by decide +kernel
theorem dX1_visit_159 : decode cX1_visit 159 = .ok (.iload_n 2, 1) := by decide +kernel
theorem dX1_visit_160 : decode cX1_visit 160 = .ok (.iconst 2, 1) := by decide +kernel
theorem dX1_visit_161 : decode cX1_visit 161 = .ok (.if_icmp .ne 13, 3) := by decide +kernel
theorem dX1_visit_164 : decode cX1_visit 164 = .ok (.iconst 2, 1) := by decide +kernel
theorem dX1_visit_165 : decode cX1_visit 165 = .ok (.iload 7, 2) := by decide +kernel
theorem dX1_visit_167 : decode cX1_visit 167 = .ok (.imul, 1) := by decide +kernel
theorem dX1_visit_168 : decode cX1_visit 168 = .ok (.iconst 1, 1) := by decide +kernel
theorem dX1_visit_169 : decode cX1_visit 169 = .ok (.isub, 1) := by decide +kernel
theorem dX1_visit_170 : decode cX1_visit 170 = .ok (.i2l, 1) := by decide +kernel
theorem dX1_visit_171 : decode cX1_visit 171 = .ok (.goto 6, 3) := by decide +kernel
theorem dX1_visit_174 : decode cX1_visit 174 = .ok (.iload 7, 2) := by decide +kernel
theorem dX1_visit_176 : decode cX1_visit 176 = .ok (.i2l, 1) := by decide +kernel
theorem dX1_visit_177 : decode cX1_visit 177 = .ok (.lmul, 1) := by decide +kernel
theorem dX1_visit_178 : decode cX1_visit 178 = .ok (.putfield 9, 3) := by decide +kernel
theorem dX1_visit_181 : decode cX1_visit 181 = .ok (.iconst 1, 1) := by decide +kernel
theorem dX1_visit_182 : decode cX1_visit 182 = .ok (.ireturn, 1) := by decide +kernel
theorem dX1_visit_183 : decode cX1_visit 183 = .ok (.aload_n 0, 1) := by decide +kernel
theorem dX1_visit_184 : decode cX1_visit 184 = .ok (.dup, 1) := by decide +kernel
theorem dX1_visit_185 : decode cX1_visit 185 = .ok (.getfield 9, 3) := by decide +kernel
theorem dX1_visit_188 : decode cX1_visit 188 = .ok (.iload_n 2, 1) := by decide +kernel
theorem dX1_visit_189 : decode cX1_visit 189 = .ok (.ifCond .ne 7, 3) := by decide +kernel
theorem dX1_visit_192 : decode cX1_visit 192 = .ok (.lconst 1, 1) := by decide +kernel
theorem dX1_visit_193 : decode cX1_visit 193 = .ok (.goto 6, 3) := by decide +kernel
theorem dX1_visit_196 : decode cX1_visit 196 = .ok (.iload 6, 2) := by decide +kernel
theorem dX1_visit_198 : decode cX1_visit 198 = .ok (.i2l, 1) := by decide +kernel
theorem dX1_visit_199 : decode cX1_visit 199 = .ok (.lmul, 1) := by decide +kernel
theorem dX1_visit_200 : decode cX1_visit 200 = .ok (.putfield 9, 3) := by decide +kernel
theorem dX1_visit_203 : decode cX1_visit 203 = .ok (.aload_n 0, 1) := by decide +kernel
theorem dX1_visit_204 : decode cX1_visit 204 = .ok (.iload 8, 2) := by decide +kernel
theorem dX1_visit_206 : decode cX1_visit 206 = .ok (.putfield 22, 3) := by decide +kernel
theorem dX1_visit_209 : decode cX1_visit 209 = .ok (.aload_n 0, 1) := by decide +kernel
theorem dX1_visit_210 : decode cX1_visit 210 = .ok (.dup, 1) := by decide +kernel
theorem dX1_visit_211 : decode cX1_visit 211 = .ok (.getfield 18, 3) := by decide +kernel
theorem dX1_visit_214 : decode cX1_visit 214 = .ok (.iconst 1, 1) := by decide +kernel
theorem dX1_visit_215 : decode cX1_visit 215 = .ok (.iadd, 1) := by decide +kernel
theorem dX1_visit_216 : decode cX1_visit 216 = .ok (.putfield 18, 3) := by decide +kernel
theorem dX1_visit_219 : decode cX1_visit 219 = .ok (.iconst 0, 1) := by decide +kernel
theorem dX1_visit_220 : decode cX1_visit 220 = .ok (.ireturn, 1) := by decide +kernel
theorem dX1_divisorFor_0 : decode cX1_divisorFor 0 = .ok (.iload_n 0, 1) := by decide +kernel
theorem dX1_divisorFor_1 : decode cX1_divisorFor 1 = .ok (.ifCond .ne 7, 3) := by decide +kernel
theorem dX1_divisorFor_4 : decode cX1_divisorFor 4 = .ok (.iload_n 1, 1) := by decide +kernel
theorem dX1_divisorFor_5 : decode cX1_divisorFor 5 = .ok (.iconst 1, 1) := by decide +kernel
theorem dX1_divisorFor_6 : decode cX1_divisorFor 6 = .ok (.iadd, 1) := by decide +kernel
theorem dX1_divisorFor_7 : decode cX1_divisorFor 7 = .ok (.ireturn, 1) := by decide +kernel
theorem dX1_divisorFor_8 : decode cX1_divisorFor 8 = .ok (.iload_n 0, 1) := by decide +kernel
theorem dX1_divisorFor_9 : decode cX1_divisorFor 9 = .ok (.iconst 1, 1) := by decide +kernel
theorem dX1_divisorFor_10 : decode cX1_divisorFor 10 = .ok (.if_icmp .ne 9, 3) := by decide +kernel
theorem dX1_divisorFor_13 : decode cX1_divisorFor 13 = .ok (.iload_n 1, 1) := by decide +kernel
theorem dX1_divisorFor_14 : decode cX1_divisorFor 14 = .ok (.iload_n 2, 1) := by decide +kernel
theorem dX1_divisorFor_15 : decode cX1_divisorFor 15 = .ok (.iadd, 1) := by decide +kernel
theorem dX1_divisorFor_16 : decode cX1_divisorFor 16 = .ok (.goto 6, 3) := by decide +kernel
theorem dX1_divisorFor_19 : decode cX1_divisorFor 19 = .ok (.iconst 2, 1) := by decide +kernel
theorem dX1_divisorFor_20 : decode cX1_divisorFor 20 = .ok (.iload_n 1, 1) := by decide +kernel
theorem dX1_divisorFor_21 : decode cX1_divisorFor 21 = .ok (.imul, 1) := by decide +kernel
theorem dX1_divisorFor_22 : decode cX1_divisorFor 22 = .ok (.ireturn, 1) := by decide +kernel
theorem dX1_reduce_0 : decode cX1_reduce 0 = .ok (.aload_n 0, 1) := by decide +kernel
theorem dX1_reduce_1 : decode cX1_reduce 1 = .ok (.getfield 15, 3) := by decide +kernel
theorem dX1_reduce_4 : decode cX1_reduce 4 = .ok (.lstore_n 1, 1) := by decide +kernel
theorem dX1_reduce_5 : decode cX1_reduce 5 = .ok (.aload_n 0, 1) := by decide +kernel
theorem dX1_reduce_6 : decode cX1_reduce 6 = .ok (.getfield 9, 3) := by decide +kernel
theorem dX1_reduce_9 : decode cX1_reduce 9 = .ok (.lstore_n 3, 1) := by decide +kernel
theorem dX1_reduce_10 : decode cX1_reduce 10 = .ok (.iconst 0, 1) := by decide +kernel
theorem dX1_reduce_11 : decode cX1_reduce 11 = .ok (.istore 5, 2) := by decide +kernel
theorem dX1_reduce_13 : decode cX1_reduce 13 = .ok (.iload 5, 2) := by decide +kernel
theorem dX1_reduce_15 : decode cX1_reduce 15 = .ok (.sipush 1000, 3) := by decide +kernel
theorem dX1_reduce_18 : decode cX1_reduce 18 = .ok (.if_icmp .ge 25, 3) := by decide +kernel
theorem dX1_reduce_21 : decode cX1_reduce 21 = .ok (.lload_n 3, 1) := by decide +kernel
theorem dX1_reduce_22 : decode cX1_reduce 22 = .ok (.lconst 0, 1) := by decide +kernel
theorem dX1_reduce_23 : decode cX1_reduce 23 = .ok (.lcmp, 1) := by decide +kernel
theorem dX1_reduce_24 : decode cX1_reduce 24 = .ok (.ifCond .eq 19, 3) := by decide +kernel
theorem dX1_reduce_27 : decode cX1_reduce 27 = .ok (.lload_n 1, 1) := by decide +kernel
theorem dX1_reduce_28 : decode cX1_reduce 28 = .ok (.lload_n 3, 1) := by decide +kernel
theorem dX1_reduce_29 : decode cX1_reduce 29 = .ok (.lrem, 1) := by decide +kernel
theorem dX1_reduce_30 : decode cX1_reduce 30 = .ok (.lstore 6, 2) := by decide +kernel
theorem dX1_reduce_32 : decode cX1_reduce 32 = .ok (.lload_n 3, 1) := by decide +kernel
theorem dX1_reduce_33 : decode cX1_reduce 33 = .ok (.lstore_n 1, 1) := by decide +kernel
theorem dX1_reduce_34 : decode cX1_reduce 34 = .ok (.lload 6, 2) := by decide +kernel
theorem dX1_reduce_36 : decode cX1_reduce 36 = .ok (.lstore_n 3, 1) := by decide +kernel
theorem dX1_reduce_37 : decode cX1_reduce 37 = .ok (.iinc 5 1, 3) := by decide +kernel
theorem dX1_reduce_40 : decode cX1_reduce 40 = .ok (.goto (-27), 3) := by decide +kernel
theorem dX1_reduce_43 : decode cX1_reduce 43 = .ok (.lload_n 1, 1) := by decide +kernel
theorem dX1_reduce_44 : decode cX1_reduce 44 = .ok (.lconst 1, 1) := by decide +kernel
theorem dX1_reduce_45 : decode cX1_reduce 45 = .ok (.lcmp, 1) := by decide +kernel
theorem dX1_reduce_46 : decode cX1_reduce 46 = .ok (.ifCond .le 23, 3) := by decide +kernel
theorem dX1_reduce_49 : decode cX1_reduce 49 = .ok (.aload_n 0, 1) := by decide +kernel
theorem dX1_reduce_50 : decode cX1_reduce 50 = .ok (.dup, 1) := by decide +kernel
theorem dX1_reduce_51 : decode cX1_reduce 51 = .ok (.getfield 9, 3) := by decide +kernel
theorem dX1_reduce_54 : decode cX1_reduce 54 = .ok (.lload_n 1, 1) := by decide +kernel
theorem dX1_reduce_55 : decode cX1_reduce 55 = .ok (.ldiv, 1) := by decide +kernel
theorem dX1_reduce_56 : decode cX1_reduce 56 = .ok (.putfield 9, 3) := by decide +kernel
theorem dX1_reduce_59 : decode cX1_reduce 59 = .ok (.aload_n 0, 1) := by decide +kernel
theorem dX1_reduce_60 : decode cX1_reduce 60 = .ok (.dup, 1) := by decide +kernel
theorem dX1_reduce_61 : decode cX1_reduce 61 = .ok (.getfield 15, 3) := by decide +kernel
theorem dX1_reduce_64 : decode cX1_reduce 64 = .ok (.lload_n 1, 1) := by decide +kernel
theorem dX1_reduce_65 : decode cX1_reduce 65 = .ok (.ldiv, 1) := by decide +kernel
theorem dX1_reduce_66 : decode cX1_reduce 66 = .ok (.putfield 15, 3) := by decide +kernel
theorem dX1_reduce_69 : decode cX1_reduce 69 = .ok (.return_, 1) := by decide +kernel
theorem dX1_bits_0 : decode cX1_bits 0 = .ok (.iconst 0, 1) := by decide +kernel
theorem dX1_bits_1 : decode cX1_bits 1 = .ok (.istore_n 1, 1) := by decide +kernel
theorem dX1_bits_2 : decode cX1_bits 2 = .ok (.aload_n 0, 1) := by decide +kernel
theorem dX1_bits_3 : decode cX1_bits 3 = .ok (.getfield 9, 3) := by decide +kernel
theorem dX1_bits_6 : decode cX1_bits 6 = .ok (.lstore_n 2, 1) := by decide +kernel
theorem dX1_bits_7 : decode cX1_bits 7 = .ok (.lload_n 2, 1) := by decide +kernel
theorem dX1_bits_8 : decode cX1_bits 8 = .ok (.aload_n 0, 1) := by decide +kernel
theorem dX1_bits_9 : decode cX1_bits 9 = .ok (.getfield 15, 3) := by decide +kernel
theorem dX1_bits_12 : decode cX1_bits 12 = .ok (.lcmp, 1) := by decide +kernel
theorem dX1_bits_13 : decode cX1_bits 13 = .ok (.ifCond .ge 21, 3) := by decide +kernel
theorem dX1_bits_16 : decode cX1_bits 16 = .ok (.iload_n 1, 1) := by decide +kernel
theorem dX1_bits_17 : decode cX1_bits 17 = .ok (.bipush 62, 2) := by decide +kernel
theorem dX1_bits_19 : decode cX1_bits 19 = .ok (.if_icmp .ge 15, 3) := by decide +kernel
theorem dX1_bits_22 : decode cX1_bits 22 = .ok (.iinc 1 1, 3) := by decide +kernel
theorem dX1_bits_25 : decode cX1_bits 25 = .ok (.lload_n 2, 1) := by decide +kernel
theorem dX1_bits_26 : decode cX1_bits 26 = .ok (.ldc2_w 73, 3) := by decide +kernel
theorem dX1_bits_29 : decode cX1_bits 29 = .ok (.lmul, 1) := by decide +kernel
theorem dX1_bits_30 : decode cX1_bits 30 = .ok (.lstore_n 2, 1) := by decide +kernel
theorem dX1_bits_31 : decode cX1_bits 31 = .ok (.goto (-24), 3) := by decide +kernel
theorem dX1_bits_34 : decode cX1_bits 34 = .ok (.iload_n 1, 1) := by decide +kernel
theorem dX1_bits_35 : decode cX1_bits 35 = .ok (.ireturn, 1) := by decide +kernel
theorem dX2_init_0 : decode cX2_init 0 = .ok (.aload_n 0, 1) := by decide +kernel
theorem dX2_init_1 : decode cX2_init 1 = .ok (.invokespecial 3, 3) := by decide +kernel
theorem dX2_init_4 : decode cX2_init 4 = .ok (.aload_n 0, 1) := by decide +kernel
theorem dX2_init_5 : decode cX2_init 5 = .ok (.sipush 643, 3) := by decide +kernel
theorem dX2_init_8 : decode cX2_init 8 = .ok (.newarray .int, 2) := by decide +kernel
theorem dX2_init_10 : decode cX2_init 10 = .ok (.putfield 9, 3) := by decide +kernel
theorem dX2_init_13 : decode cX2_init 13 = .ok (.aload_n 0, 1) := by decide +kernel
theorem dX2_init_14 : decode cX2_init 14 = .ok (.sipush 643, 3) := by decide +kernel
theorem dX2_init_17 : decode cX2_init 17 = .ok (.newarray .int, 2) := by decide +kernel
theorem dX2_init_19 : decode cX2_init 19 = .ok (.putfield 15, 3) := by decide +kernel
theorem dX2_init_22 : decode cX2_init 22 = .ok (.aload_n 0, 1) := by decide +kernel
theorem dX2_init_23 : decode cX2_init 23 = .ok (.iconst 0, 1) := by decide +kernel
theorem dX2_init_24 : decode cX2_init 24 = .ok (.putfield 18, 3) := by decide +kernel
theorem dX2_init_27 : decode cX2_init 27 = .ok (.return_, 1) := by decide +kernel
theorem dX2_copyFrom_0 : decode cX2_copyFrom 0 = .ok (.aload_n 0, 1) := by decide +kernel
theorem dX2_copyFrom_1 : decode cX2_copyFrom 1 = .ok (.aload_n 1, 1) := by decide +kernel
theorem dX2_copyFrom_2 : decode cX2_copyFrom 2 = .ok (.getfield 18, 3) := by decide +kernel
theorem dX2_copyFrom_5 : decode cX2_copyFrom 5 = .ok (.putfield 18, 3) := by decide +kernel
theorem dX2_copyFrom_8 : decode cX2_copyFrom 8 = .ok (.aload_n 1, 1) := by decide +kernel
theorem dX2_copyFrom_9 : decode cX2_copyFrom 9 = .ok (.getfield 9, 3) := by decide +kernel
theorem dX2_copyFrom_12 : decode cX2_copyFrom 12 = .ok (.iconst 0, 1) := by decide +kernel
theorem dX2_copyFrom_13 : decode cX2_copyFrom 13 = .ok (.aload_n 0, 1) := by decide +kernel
theorem dX2_copyFrom_14 : decode cX2_copyFrom 14 = .ok (.getfield 9, 3) := by decide +kernel
theorem dX2_copyFrom_17 : decode cX2_copyFrom 17 = .ok (.iconst 0, 1) := by decide +kernel
theorem dX2_copyFrom_18 : decode cX2_copyFrom 18 = .ok (.aload_n 0, 1) := by decide +kernel
theorem dX2_copyFrom_19 : decode cX2_copyFrom 19 = .ok (.getfield 18, 3) := by decide +kernel
theorem dX2_copyFrom_22 : decode cX2_copyFrom 22 = .ok (.invokestatic 22, 3) := by decide +kernel
theorem dX2_copyFrom_25 : decode cX2_copyFrom 25 = .ok (.aload_n 1, 1) := by decide +kernel
theorem dX2_copyFrom_26 : decode cX2_copyFrom 26 = .ok (.getfield 15, 3) := by decide +kernel
theorem dX2_copyFrom_29 : decode cX2_copyFrom 29 = .ok (.iconst 0, 1) := by decide +kernel
theorem dX2_copyFrom_30 : decode cX2_copyFrom 30 = .ok (.aload_n 0, 1) := by decide +kernel
theorem dX2_copyFrom_31 : decode cX2_copyFrom 31 = .ok (.getfield 15, 3) := by decide +kernel
theorem dX2_copyFrom_34 : decode cX2_copyFrom 34 = .ok (.iconst 0, 1) := by decide +kernel
theorem dX2_copyFrom_35 : decode cX2_copyFrom 35 = .ok (.aload_n 0, 1) := by decide +kernel
theorem dX2_copyFrom_36 : decode cX2_copyFrom 36 = .ok (.getfield 18, 3) := by decide +kernel
theorem dX2_copyFrom_39 : decode cX2_copyFrom 39 = .ok (.invokestatic 22, 3) := by decide +kernel
theorem dX2_copyFrom_42 : decode cX2_copyFrom 42 = .ok (.return_, 1) := by decide +kernel
theorem dX2_placeOf_0 : decode cX2_placeOf 0 = .ok (.iconst 0, 1) := by decide +kernel
theorem dX2_placeOf_1 : decode cX2_placeOf 1 = .ok (.istore_n 2, 1) := by decide +kernel
theorem dX2_placeOf_2 : decode cX2_placeOf 2 = .ok (.sipush 512, 3) := by decide +kernel
theorem dX2_placeOf_5 : decode cX2_placeOf 5 = .ok (.istore_n 3, 1) := by decide +kernel
theorem dX2_placeOf_6 : decode cX2_placeOf 6 = .ok (.iload_n 3, 1) := by decide +kernel
theorem dX2_placeOf_7 : decode cX2_placeOf 7 = .ok (.ifCond .le 41, 3) := by decide +kernel
theorem dX2_placeOf_10 : decode cX2_placeOf 10 = .ok (.iload_n 2, 1) := by decide +kernel
theorem dX2_placeOf_11 : decode cX2_placeOf 11 = .ok (.iload_n 3, 1) := by decide +kernel
theorem dX2_placeOf_12 : decode cX2_placeOf 12 = .ok (.iadd, 1) := by decide +kernel
theorem dX2_placeOf_13 : decode cX2_placeOf 13 = .ok (.iconst 1, 1) := by decide +kernel
theorem dX2_placeOf_14 : decode cX2_placeOf 14 = .ok (.isub, 1) := by decide +kernel
theorem dX2_placeOf_15 : decode cX2_placeOf 15 = .ok (.istore 4, 2) := by decide +kernel
theorem dX2_placeOf_17 : decode cX2_placeOf 17 = .ok (.iload 4, 2) := by decide +kernel
theorem dX2_placeOf_19 : decode cX2_placeOf 19 = .ok (.aload_n 0, 1) := by decide +kernel
theorem dX2_placeOf_20 : decode cX2_placeOf 20 = .ok (.getfield 18, 3) := by decide +kernel
theorem dX2_placeOf_23 : decode cX2_placeOf 23 = .ok (.if_icmp .ge 18, 3) := by decide +kernel
theorem dX2_placeOf_26 : decode cX2_placeOf 26 = .ok (.aload_n 0, 1) := by decide +kernel
theorem dX2_placeOf_27 : decode cX2_placeOf 27 = .ok (.getfield 9, 3) := by decide +kernel
theorem dX2_placeOf_30 : decode cX2_placeOf 30 = .ok (.iload 4, 2) := by decide +kernel
theorem dX2_placeOf_32 : decode cX2_placeOf 32 = .ok (.iaload, 1) := by decide +kernel
theorem dX2_placeOf_33 : decode cX2_placeOf 33 = .ok (.iload_n 1, 1) := by decide +kernel
theorem dX2_placeOf_34 : decode cX2_placeOf 34 = .ok (.if_icmp .ge 7, 3) := by decide +kernel
theorem dX2_placeOf_37 : decode cX2_placeOf 37 = .ok (.iload_n 2, 1) := by decide +kernel
theorem dX2_placeOf_38 : decode cX2_placeOf 38 = .ok (.iload_n 3, 1) := by decide +kernel
theorem dX2_placeOf_39 : decode cX2_placeOf 39 = .ok (.iadd, 1) := by decide +kernel
theorem dX2_placeOf_40 : decode cX2_placeOf 40 = .ok (.istore_n 2, 1) := by decide +kernel
theorem dX2_placeOf_41 : decode cX2_placeOf 41 = .ok (.iload_n 3, 1) := by decide +kernel
theorem dX2_placeOf_42 : decode cX2_placeOf 42 = .ok (.iconst 2, 1) := by decide +kernel
theorem dX2_placeOf_43 : decode cX2_placeOf 43 = .ok (.idiv, 1) := by decide +kernel
theorem dX2_placeOf_44 : decode cX2_placeOf 44 = .ok (.istore_n 3, 1) := by decide +kernel
theorem dX2_placeOf_45 : decode cX2_placeOf 45 = .ok (.goto (-39), 3) := by decide +kernel
theorem dX2_placeOf_48 : decode cX2_placeOf 48 = .ok (.iload_n 2, 1) := by decide +kernel
theorem dX2_placeOf_49 : decode cX2_placeOf 49 = .ok (.ireturn, 1) := by decide +kernel
theorem dX2_valueOf_0 : decode cX2_valueOf 0 = .ok (.aload_n 0, 1) := by decide +kernel
theorem dX2_valueOf_1 : decode cX2_valueOf 1 = .ok (.iload_n 1, 1) := by decide +kernel
theorem dX2_valueOf_2 : decode cX2_valueOf 2 = .ok (.invokevirtual 28, 3) := by decide +kernel
theorem dX2_valueOf_5 : decode cX2_valueOf 5 = .ok (.istore_n 2, 1) := by decide +kernel
theorem dX2_valueOf_6 : decode cX2_valueOf 6 = .ok (.iload_n 2, 1) := by decide +kernel
theorem dX2_valueOf_7 : decode cX2_valueOf 7 = .ok (.aload_n 0, 1) := by decide +kernel
theorem dX2_valueOf_8 : decode cX2_valueOf 8 = .ok (.getfield 18, 3) := by decide +kernel
theorem dX2_valueOf_11 : decode cX2_valueOf 11 = .ok (.if_icmp .ge 22, 3) := by decide +kernel
theorem dX2_valueOf_14 : decode cX2_valueOf 14 = .ok (.aload_n 0, 1) := by decide +kernel
theorem dX2_valueOf_15 : decode cX2_valueOf 15 = .ok (.getfield 9, 3) := by decide +kernel
theorem dX2_valueOf_18 : decode cX2_valueOf 18 = .ok (.iload_n 2, 1) := by decide +kernel
theorem dX2_valueOf_19 : decode cX2_valueOf 19 = .ok (.iaload, 1) := by decide +kernel
theorem dX2_valueOf_20 : decode cX2_valueOf 20 = .ok (.iload_n 1, 1) := by decide +kernel
theorem dX2_valueOf_21 : decode cX2_valueOf 21 = .ok (.if_icmp .ne 12, 3) := by decide +kernel
theorem dX2_valueOf_24 : decode cX2_valueOf 24 = .ok (.aload_n 0, 1) := by decide +kernel
theorem dX2_valueOf_25 : decode cX2_valueOf 25 = .ok (.getfield 15, 3) := by decide +kernel
theorem dX2_valueOf_28 : decode cX2_valueOf 28 = .ok (.iload_n 2, 1) := by decide +kernel
theorem dX2_valueOf_29 : decode cX2_valueOf 29 = .ok (.iaload, 1) := by decide +kernel
theorem dX2_valueOf_30 : decode cX2_valueOf 30 = .ok (.goto 4, 3) := by decide +kernel
theorem dX2_valueOf_33 : decode cX2_valueOf 33 = .ok (.iconst 0, 1) := by decide +kernel
theorem dX2_valueOf_34 : decode cX2_valueOf 34 = .ok (.ireturn, 1) := by decide +kernel
theorem dX2_add_0 : decode cX2_add 0 = .ok (.aload_n 0, 1) := by decide +kernel
theorem dX2_add_1 : decode cX2_add 1 = .ok (.iload_n 1, 1) := by decide +kernel
theorem dX2_add_2 : decode cX2_add 2 = .ok (.invokevirtual 28, 3) := by decide +kernel
theorem dX2_add_5 : decode cX2_add 5 = .ok (.istore_n 3, 1) := by decide +kernel
theorem dX2_add_6 : decode cX2_add 6 = .ok (.iload_n 3, 1) := by decide +kernel
theorem dX2_add_7 : decode cX2_add 7 = .ok (.aload_n 0, 1) := by decide +kernel
theorem dX2_add_8 : decode cX2_add 8 = .ok (.getfield 18, 3) := by decide +kernel
theorem dX2_add_11 : decode cX2_add 11 = .ok (.if_icmp .ge 36, 3) := by decide +kernel
theorem dX2_add_14 : decode cX2_add 14 = .ok (.aload_n 0, 1) := by decide +kernel
theorem dX2_add_15 : decode cX2_add 15 = .ok (.getfield 9, 3) := by decide +kernel
theorem dX2_add_18 : decode cX2_add 18 = .ok (.iload_n 3, 1) := by decide +kernel
theorem dX2_add_19 : decode cX2_add 19 = .ok (.iaload, 1) := by decide +kernel
theorem dX2_add_20 : decode cX2_add 20 = .ok (.iload_n 1, 1) := by decide +kernel
theorem dX2_add_21 : decode cX2_add 21 = .ok (.if_icmp .ne 26, 3) := by decide +kernel
theorem dX2_add_24 : decode cX2_add 24 = .ok (.aload_n 0, 1) := by decide +kernel
theorem dX2_add_25 : decode cX2_add 25 = .ok (.getfield 15, 3) := by decide +kernel
theorem dX2_add_28 : decode cX2_add 28 = .ok (.iload_n 3, 1) := by decide +kernel
theorem dX2_add_29 : decode cX2_add 29 = .ok (.aload_n 0, 1) := by decide +kernel
theorem dX2_add_30 : decode cX2_add 30 = .ok (.getfield 15, 3) := by decide +kernel
theorem dX2_add_33 : decode cX2_add 33 = .ok (.iload_n 3, 1) := by decide +kernel
theorem dX2_add_34 : decode cX2_add 34 = .ok (.iaload, 1) := by decide +kernel
theorem dX2_add_35 : decode cX2_add 35 = .ok (.iload_n 2, 1) := by decide +kernel
theorem dX2_add_36 : decode cX2_add 36 = .ok (.iadd, 1) := by decide +kernel
theorem dX2_add_37 : decode cX2_add 37 = .ok (.sipush 999, 3) := by decide +kernel
theorem dX2_add_40 : decode cX2_add 40 = .ok (.invokestatic 32, 3) := by decide +kernel
theorem dX2_add_43 : decode cX2_add 43 = .ok (.iastore, 1) := by decide +kernel
theorem dX2_add_44 : decode cX2_add 44 = .ok (.goto 79, 3) := by decide +kernel
theorem dX2_add_47 : decode cX2_add 47 = .ok (.aload_n 0, 1) := by decide +kernel
theorem dX2_add_48 : decode cX2_add 48 = .ok (.getfield 18, 3) := by decide +kernel
theorem dX2_add_51 : decode cX2_add 51 = .ok (.sipush 643, 3) := by decide +kernel
theorem dX2_add_54 : decode cX2_add 54 = .ok (.if_icmp .ge 69, 3) := by decide +kernel
theorem dX2_add_57 : decode cX2_add 57 = .ok (.aload_n 0, 1) := by decide +kernel
theorem dX2_add_58 : decode cX2_add 58 = .ok (.getfield 9, 3) := by decide +kernel
theorem dX2_add_61 : decode cX2_add 61 = .ok (.iload_n 3, 1) := by decide +kernel
theorem dX2_add_62 : decode cX2_add 62 = .ok (.aload_n 0, 1) := by decide +kernel
theorem dX2_add_63 : decode cX2_add 63 = .ok (.getfield 9, 3) := by decide +kernel
theorem dX2_add_66 : decode cX2_add 66 = .ok (.iload_n 3, 1) := by decide +kernel
theorem dX2_add_67 : decode cX2_add 67 = .ok (.iconst 1, 1) := by decide +kernel
theorem dX2_add_68 : decode cX2_add 68 = .ok (.iadd, 1) := by decide +kernel
theorem dX2_add_69 : decode cX2_add 69 = .ok (.aload_n 0, 1) := by decide +kernel
theorem dX2_add_70 : decode cX2_add 70 = .ok (.getfield 18, 3) := by decide +kernel
theorem dX2_add_73 : decode cX2_add 73 = .ok (.iload_n 3, 1) := by decide +kernel
theorem dX2_add_74 : decode cX2_add 74 = .ok (.isub, 1) := by decide +kernel
theorem dX2_add_75 : decode cX2_add 75 = .ok (.invokestatic 22, 3) := by decide +kernel
theorem dX2_add_78 : decode cX2_add 78 = .ok (.aload_n 0, 1) := by decide +kernel
theorem dX2_add_79 : decode cX2_add 79 = .ok (.getfield 15, 3) := by decide +kernel
theorem dX2_add_82 : decode cX2_add 82 = .ok (.iload_n 3, 1) := by decide +kernel
theorem dX2_add_83 : decode cX2_add 83 = .ok (.aload_n 0, 1) := by decide +kernel
theorem dX2_add_84 : decode cX2_add 84 = .ok (.getfield 15, 3) := by decide +kernel
theorem dX2_add_87 : decode cX2_add 87 = .ok (.iload_n 3, 1) := by decide +kernel
theorem dX2_add_88 : decode cX2_add 88 = .ok (.iconst 1, 1) := by decide +kernel
theorem dX2_add_89 : decode cX2_add 89 = .ok (.iadd, 1) := by decide +kernel
theorem dX2_add_90 : decode cX2_add 90 = .ok (.aload_n 0, 1) := by decide +kernel
theorem dX2_add_91 : decode cX2_add 91 = .ok (.getfield 18, 3) := by decide +kernel
theorem dX2_add_94 : decode cX2_add 94 = .ok (.iload_n 3, 1) := by decide +kernel
theorem dX2_add_95 : decode cX2_add 95 = .ok (.isub, 1) := by decide +kernel
theorem dX2_add_96 : decode cX2_add 96 = .ok (.invokestatic 22, 3) := by decide +kernel
theorem dX2_add_99 : decode cX2_add 99 = .ok (.aload_n 0, 1) := by decide +kernel
theorem dX2_add_100 : decode cX2_add 100 = .ok (.getfield 9, 3) := by decide +kernel
theorem dX2_add_103 : decode cX2_add 103 = .ok (.iload_n 3, 1) := by decide +kernel
theorem dX2_add_104 : decode cX2_add 104 = .ok (.iload_n 1, 1) := by decide +kernel
theorem dX2_add_105 : decode cX2_add 105 = .ok (.iastore, 1) := by decide +kernel
theorem dX2_add_106 : decode cX2_add 106 = .ok (.aload_n 0, 1) := by decide +kernel
theorem dX2_add_107 : decode cX2_add 107 = .ok (.getfield 15, 3) := by decide +kernel
theorem dX2_add_110 : decode cX2_add 110 = .ok (.iload_n 3, 1) := by decide +kernel
theorem dX2_add_111 : decode cX2_add 111 = .ok (.iload_n 2, 1) := by decide +kernel
theorem dX2_add_112 : decode cX2_add 112 = .ok (.iastore, 1) := by decide +kernel
theorem dX2_add_113 : decode cX2_add 113 = .ok (.aload_n 0, 1) := by decide +kernel
theorem dX2_add_114 : decode cX2_add 114 = .ok (.dup, 1) := by decide +kernel
theorem dX2_add_115 : decode cX2_add 115 = .ok (.getfield 18, 3) := by decide +kernel
theorem dX2_add_118 : decode cX2_add 118 = .ok (.iconst 1, 1) := by decide +kernel
theorem dX2_add_119 : decode cX2_add 119 = .ok (.iadd, 1) := by decide +kernel
theorem dX2_add_120 : decode cX2_add 120 = .ok (.putfield 18, 3) := by decide +kernel
theorem dX2_add_123 : decode cX2_add 123 = .ok (.return_, 1) := by decide +kernel
theorem dX2_addAll_0 : decode cX2_addAll 0 = .ok (.iconst 0, 1) := by decide +kernel
theorem dX2_addAll_1 : decode cX2_addAll 1 = .ok (.istore_n 2, 1) := by decide +kernel
theorem dX2_addAll_2 : decode cX2_addAll 2 = .ok (.iload_n 2, 1) := by decide +kernel
theorem dX2_addAll_3 : decode cX2_addAll 3 = .ok (.aload_n 1, 1) := by decide +kernel
theorem dX2_addAll_4 : decode cX2_addAll 4 = .ok (.getfield 18, 3) := by decide +kernel
theorem dX2_addAll_7 : decode cX2_addAll 7 = .ok (.if_icmp .ge 25, 3) := by decide +kernel
theorem dX2_addAll_10 : decode cX2_addAll 10 = .ok (.aload_n 0, 1) := by decide +kernel
theorem dX2_addAll_11 : decode cX2_addAll 11 = .ok (.aload_n 1, 1) := by decide +kernel
theorem dX2_addAll_12 : decode cX2_addAll 12 = .ok (.getfield 9, 3) := by decide +kernel
theorem dX2_addAll_15 : decode cX2_addAll 15 = .ok (.iload_n 2, 1) := by decide +kernel
theorem dX2_addAll_16 : decode cX2_addAll 16 = .ok (.iaload, 1) := by decide +kernel
theorem dX2_addAll_17 : decode cX2_addAll 17 = .ok (.aload_n 1, 1) := by decide +kernel
theorem dX2_addAll_18 : decode cX2_addAll 18 = .ok (.getfield 15, 3) := by decide +kernel
theorem dX2_addAll_21 : decode cX2_addAll 21 = .ok (.iload_n 2, 1) := by decide +kernel
theorem dX2_addAll_22 : decode cX2_addAll 22 = .ok (.iaload, 1) := by decide +kernel
theorem dX2_addAll_23 : decode cX2_addAll 23 = .ok (.invokevirtual 38, 3) := by decide +kernel
theorem dX2_addAll_26 : decode cX2_addAll 26 = .ok (.iinc 2 1, 3) := by decide +kernel
theorem dX2_addAll_29 : decode cX2_addAll 29 = .ok (.goto (-27), 3) := by decide +kernel
theorem dX2_addAll_32 : decode cX2_addAll 32 = .ok (.return_, 1) := by decide +kernel
theorem dX2_countPosition_0 : decode cX2_countPosition 0 = .ok (.aload_n 1, 1) := by decide +kernel
theorem dX2_countPosition_1 : decode cX2_countPosition 1 = .ok (.iload_n 2, 1) := by decide +kernel
theorem dX2_countPosition_2 : decode cX2_countPosition 2 = .ok (.iconst 2, 1) := by decide +kernel
theorem dX2_countPosition_3 : decode cX2_countPosition 3 = .ok (.isub, 1) := by decide +kernel
theorem dX2_countPosition_4 : decode cX2_countPosition 4 = .ok (.invokevirtual 42, 3) := by decide +kernel
theorem dX2_countPosition_7 : decode cX2_countPosition 7 = .ok (.istore_n 3, 1) := by decide +kernel
theorem dX2_countPosition_8 : decode cX2_countPosition 8 = .ok (.aload_n 1, 1) := by decide +kernel
theorem dX2_countPosition_9 : decode cX2_countPosition 9 = .ok (.iload_n 2, 1) := by decide +kernel
theorem dX2_countPosition_10 : decode cX2_countPosition 10 = .ok (.iconst 1, 1) := by decide +kernel
theorem dX2_countPosition_11 : decode cX2_countPosition 11 = .ok (.isub, 1) := by decide +kernel
theorem dX2_countPosition_12 : decode cX2_countPosition 12 = .ok (.invokevirtual 42, 3) := by decide +kernel
theorem dX2_countPosition_15 : decode cX2_countPosition 15 = .ok (.istore 4, 2) := by decide +kernel
theorem dX2_countPosition_17 : decode cX2_countPosition 17 = .ok (.iload_n 3, 1) := by decide +kernel
theorem dX2_countPosition_18 : decode cX2_countPosition 18 = .ok (.iload 4, 2) := by decide +kernel
theorem dX2_countPosition_20 : decode cX2_countPosition 20 = .ok (.invokestatic 47, 3) := by decide +kernel
theorem dX2_countPosition_23 : decode cX2_countPosition 23 = .ok (.istore 5, 2) := by decide +kernel
theorem dX2_countPosition_25 : decode cX2_countPosition 25 = .ok (.iload 5, 2) := by decide +kernel
theorem dX2_countPosition_27 : decode cX2_countPosition 27 = .ok (.ifCond .lt 28, 3) := by decide +kernel
theorem dX2_countPosition_30 : decode cX2_countPosition 30 = .ok (.aload_n 0, 1) := by decide +kernel
theorem dX2_countPosition_31 : decode cX2_countPosition 31 = .ok (.iload 5, 2) := by decide +kernel
theorem dX2_countPosition_33 : decode cX2_countPosition 33 = .ok (.iload_n 3, 1) := by decide +kernel
theorem dX2_countPosition_34 : decode cX2_countPosition 34 = .ok (.iload 4, 2) := by decide +kernel
theorem dX2_countPosition_36 : decode cX2_countPosition 36 = .ok (.invokestatic 50, 3) := by decide +kernel
theorem dX2_countPosition_39 : decode cX2_countPosition 39 = .ok (.aload_n 1, 1) := by decide +kernel
theorem dX2_countPosition_40 : decode cX2_countPosition 40 = .ok (.iload_n 2, 1) := by decide +kernel
theorem dX2_countPosition_41 : decode cX2_countPosition 41 = .ok (.invokevirtual 42, 3) := by decide +kernel
theorem dX2_countPosition_44 : decode cX2_countPosition 44 = .ok (.iadd, 1) := by decide +kernel
theorem dX2_countPosition_45 : decode cX2_countPosition 45 = .ok (.iconst 1, 1) := by decide +kernel
theorem dX2_countPosition_46 : decode cX2_countPosition 46 = .ok (.invokevirtual 38, 3) := by decide +kernel
theorem dX2_countPosition_49 : decode cX2_countPosition 49 = .ok (.iinc 5 (-1), 3) := by decide +kernel
theorem dX2_countPosition_52 : decode cX2_countPosition 52 = .ok (.goto (-27), 3) := by decide +kernel
theorem dX2_countPosition_55 : decode cX2_countPosition 55 = .ok (.return_, 1) := by decide +kernel
theorem dX2_countDocument_0 : decode cX2_countDocument 0 = .ok (.iconst 0, 1) := by decide +kernel
theorem dX2_countDocument_1 : decode cX2_countDocument 1 = .ok (.istore_n 2, 1) := by decide +kernel
theorem dX2_countDocument_2 : decode cX2_countDocument 2 = .ok (.iload_n 2, 1) := by decide +kernel
theorem dX2_countDocument_3 : decode cX2_countDocument 3 = .ok (.aload_n 1, 1) := by decide +kernel
theorem dX2_countDocument_4 : decode cX2_countDocument 4 = .ok (.getfield 54, 3) := by decide +kernel
theorem dX2_countDocument_7 : decode cX2_countDocument 7 = .ok (.if_icmp .ge 15, 3) := by decide +kernel
theorem dX2_countDocument_10 : decode cX2_countDocument 10 = .ok (.aload_n 0, 1) := by decide +kernel
theorem dX2_countDocument_11 : decode cX2_countDocument 11 = .ok (.aload_n 1, 1) := by decide +kernel
theorem dX2_countDocument_12 : decode cX2_countDocument 12 = .ok (.iload_n 2, 1) := by decide +kernel
theorem dX2_countDocument_13 : decode cX2_countDocument 13 = .ok (.invokevirtual 57, 3) := by decide +kernel
theorem dX2_countDocument_16 : decode cX2_countDocument 16 = .ok (.iinc 2 1, 3) := by decide +kernel
theorem dX2_countDocument_19 : decode cX2_countDocument 19 = .ok (.goto (-17), 3) := by decide +kernel
theorem dX2_countDocument_22 : decode cX2_countDocument 22 = .ok (.return_, 1) := by decide +kernel
theorem dX2_halve_0 : decode cX2_halve 0 = .ok (.iconst 0, 1) := by decide +kernel
theorem dX2_halve_1 : decode cX2_halve 1 = .ok (.istore_n 1, 1) := by decide +kernel
theorem dX2_halve_2 : decode cX2_halve 2 = .ok (.iconst 0, 1) := by decide +kernel
theorem dX2_halve_3 : decode cX2_halve 3 = .ok (.istore_n 2, 1) := by decide +kernel
theorem dX2_halve_4 : decode cX2_halve 4 = .ok (.iload_n 2, 1) := by decide +kernel
theorem dX2_halve_5 : decode cX2_halve 5 = .ok (.aload_n 0, 1) := by decide +kernel
theorem dX2_halve_6 : decode cX2_halve 6 = .ok (.getfield 18, 3) := by decide +kernel
theorem dX2_halve_9 : decode cX2_halve 9 = .ok (.if_icmp .ge 44, 3) := by decide +kernel
theorem dX2_halve_12 : decode cX2_halve 12 = .ok (.aload_n 0, 1) := by decide +kernel
theorem dX2_halve_13 : decode cX2_halve 13 = .ok (.getfield 15, 3) := by decide +kernel
theorem dX2_halve_16 : decode cX2_halve 16 = .ok (.iload_n 2, 1) := by decide +kernel
theorem dX2_halve_17 : decode cX2_halve 17 = .ok (.iaload, 1) := by decide +kernel
theorem dX2_halve_18 : decode cX2_halve 18 = .ok (.iconst 2, 1) := by decide +kernel
theorem dX2_halve_19 : decode cX2_halve 19 = .ok (.idiv, 1) := by decide +kernel
theorem dX2_halve_20 : decode cX2_halve 20 = .ok (.istore_n 3, 1) := by decide +kernel
theorem dX2_halve_21 : decode cX2_halve 21 = .ok (.iload_n 3, 1) := by decide +kernel
theorem dX2_halve_22 : decode cX2_halve 22 = .ok (.ifCond .le 25, 3) := by decide +kernel
theorem dX2_halve_25 : decode cX2_halve 25 = .ok (.aload_n 0, 1) := by decide +kernel
theorem dX2_halve_26 : decode cX2_halve 26 = .ok (.getfield 9, 3) := by decide +kernel
theorem dX2_halve_29 : decode cX2_halve 29 = .ok (.iload_n 1, 1) := by decide +kernel
theorem dX2_halve_30 : decode cX2_halve 30 = .ok (.aload_n 0, 1) := by decide +kernel
theorem dX2_halve_31 : decode cX2_halve 31 = .ok (.getfield 9, 3) := by decide +kernel
theorem dX2_halve_34 : decode cX2_halve 34 = .ok (.iload_n 2, 1) := by decide +kernel
theorem dX2_halve_35 : decode cX2_halve 35 = .ok (.iaload, 1) := by decide +kernel
theorem dX2_halve_36 : decode cX2_halve 36 = .ok (.iastore, 1) := by decide +kernel
theorem dX2_halve_37 : decode cX2_halve 37 = .ok (.aload_n 0, 1) := by decide +kernel
theorem dX2_halve_38 : decode cX2_halve 38 = .ok (.getfield 15, 3) := by decide +kernel
theorem dX2_halve_41 : decode cX2_halve 41 = .ok (.iload_n 1, 1) := by decide +kernel
theorem dX2_halve_42 : decode cX2_halve 42 = .ok (.iload_n 3, 1) := by decide +kernel
theorem dX2_halve_43 : decode cX2_halve 43 = .ok (.iastore, 1) := by decide +kernel
theorem dX2_halve_44 : decode cX2_halve 44 = .ok (.iinc 1 1, 3) := by decide +kernel
theorem dX2_halve_47 : decode cX2_halve 47 = .ok (.iinc 2 1, 3) := by decide +kernel
theorem dX2_halve_50 : decode cX2_halve 50 = .ok (.goto (-46), 3) := by decide +kernel
theorem dX2_halve_53 : decode cX2_halve 53 = .ok (.aload_n 0, 1) := by decide +kernel
theorem dX2_halve_54 : decode cX2_halve 54 = .ok (.iload_n 1, 1) := by decide +kernel
theorem dX2_halve_55 : decode cX2_halve 55 = .ok (.putfield 18, 3) := by decide +kernel
theorem dX2_halve_58 : decode cX2_halve 58 = .ok (.return_, 1) := by decide +kernel
theorem dX2_symbolsIn_0 : decode cX2_symbolsIn 0 = .ok (.aload_n 0, 1) := by decide +kernel
theorem dX2_symbolsIn_1 : decode cX2_symbolsIn 1 = .ok (.iload_n 1, 1) := by decide +kernel
theorem dX2_symbolsIn_2 : decode cX2_symbolsIn 2 = .ok (.bipush 27, 2) := by decide +kernel
theorem dX2_symbolsIn_4 : decode cX2_symbolsIn 4 = .ok (.iadd, 1) := by decide +kernel
theorem dX2_symbolsIn_5 : decode cX2_symbolsIn 5 = .ok (.invokevirtual 28, 3) := by decide +kernel
theorem dX2_symbolsIn_8 : decode cX2_symbolsIn 8 = .ok (.aload_n 0, 1) := by decide +kernel
theorem dX2_symbolsIn_9 : decode cX2_symbolsIn 9 = .ok (.iload_n 1, 1) := by decide +kernel
theorem dX2_symbolsIn_10 : decode cX2_symbolsIn 10 = .ok (.invokevirtual 28, 3) := by decide +kernel
theorem dX2_symbolsIn_13 : decode cX2_symbolsIn 13 = .ok (.isub, 1) := by decide +kernel
theorem dX2_symbolsIn_14 : decode cX2_symbolsIn 14 = .ok (.ireturn, 1) := by decide +kernel
theorem dX2_sumIn_0 : decode cX2_sumIn 0 = .ok (.iconst 0, 1) := by decide +kernel
theorem dX2_sumIn_1 : decode cX2_sumIn 1 = .ok (.istore_n 2, 1) := by decide +kernel
theorem dX2_sumIn_2 : decode cX2_sumIn 2 = .ok (.aload_n 0, 1) := by decide +kernel
theorem dX2_sumIn_3 : decode cX2_sumIn 3 = .ok (.iload_n 1, 1) := by decide +kernel
theorem dX2_sumIn_4 : decode cX2_sumIn 4 = .ok (.invokevirtual 28, 3) := by decide +kernel
theorem dX2_sumIn_7 : decode cX2_sumIn 7 = .ok (.istore_n 3, 1) := by decide +kernel
theorem dX2_sumIn_8 : decode cX2_sumIn 8 = .ok (.iload_n 3, 1) := by decide +kernel
theorem dX2_sumIn_9 : decode cX2_sumIn 9 = .ok (.aload_n 0, 1) := by decide +kernel
theorem dX2_sumIn_10 : decode cX2_sumIn 10 = .ok (.getfield 18, 3) := by decide +kernel
theorem dX2_sumIn_13 : decode cX2_sumIn 13 = .ok (.if_icmp .ge 31, 3) := by decide +kernel
theorem dX2_sumIn_16 : decode cX2_sumIn 16 = .ok (.aload_n 0, 1) := by decide +kernel
theorem dX2_sumIn_17 : decode cX2_sumIn 17 = .ok (.getfield 9, 3) := by decide +kernel
theorem dX2_sumIn_20 : decode cX2_sumIn 20 = .ok (.iload_n 3, 1) := by decide +kernel
theorem dX2_sumIn_21 : decode cX2_sumIn 21 = .ok (.iaload, 1) := by decide +kernel
theorem dX2_sumIn_22 : decode cX2_sumIn 22 = .ok (.iload_n 1, 1) := by decide +kernel
theorem dX2_sumIn_23 : decode cX2_sumIn 23 = .ok (.bipush 27, 2) := by decide +kernel
theorem dX2_sumIn_25 : decode cX2_sumIn 25 = .ok (.iadd, 1) := by decide +kernel
theorem dX2_sumIn_26 : decode cX2_sumIn 26 = .ok (.if_icmp .ge 18, 3) := by decide +kernel
theorem dX2_sumIn_29 : decode cX2_sumIn 29 = .ok (.iload_n 2, 1) := by decide +kernel
theorem dX2_sumIn_30 : decode cX2_sumIn 30 = .ok (.aload_n 0, 1) := by decide +kernel
theorem dX2_sumIn_31 : decode cX2_sumIn 31 = .ok (.getfield 15, 3) := by decide +kernel
theorem dX2_sumIn_34 : decode cX2_sumIn 34 = .ok (.iload_n 3, 1) := by decide +kernel
theorem dX2_sumIn_35 : decode cX2_sumIn 35 = .ok (.iaload, 1) := by decide +kernel
theorem dX2_sumIn_36 : decode cX2_sumIn 36 = .ok (.iadd, 1) := by decide +kernel
theorem dX2_sumIn_37 : decode cX2_sumIn 37 = .ok (.istore_n 2, 1) := by decide +kernel
theorem dX2_sumIn_38 : decode cX2_sumIn 38 = .ok (.iinc 3 1, 3) := by decide +kernel
theorem dX2_sumIn_41 : decode cX2_sumIn 41 = .ok (.goto (-33), 3) := by decide +kernel
theorem dX2_sumIn_44 : decode cX2_sumIn 44 = .ok (.iload_n 2, 1) := by decide +kernel
theorem dX2_sumIn_45 : decode cX2_sumIn 45 = .ok (.ireturn, 1) := by decide +kernel
theorem dX3_init_0 : decode cX3_init 0 = .ok (.aload_n 0, 1) := by decide +kernel
theorem dX3_init_1 : decode cX3_init 1 = .ok (.invokespecial 3, 3) := by decide +kernel
theorem dX3_init_4 : decode cX3_init 4 = .ok (.aload_n 0, 1) := by decide +kernel
theorem dX3_init_5 : decode cX3_init 5 = .ok (.bipush 40, 2) := by decide +kernel
theorem dX3_init_7 : decode cX3_init 7 = .ok (.newarray .int, 2) := by decide +kernel
theorem dX3_init_9 : decode cX3_init 9 = .ok (.putfield 9, 3) := by decide +kernel
theorem dX3_init_12 : decode cX3_init 12 = .ok (.aload_n 0, 1) := by decide +kernel
theorem dX3_init_13 : decode cX3_init 13 = .ok (.iconst 0, 1) := by decide +kernel
theorem dX3_init_14 : decode cX3_init 14 = .ok (.putfield 15, 3) := by decide +kernel
theorem dX3_init_17 : decode cX3_init 17 = .ok (.aload_n 0, 1) := by decide +kernel
theorem dX3_init_18 : decode cX3_init 18 = .ok (.iconst 0, 1) := by decide +kernel
theorem dX3_init_19 : decode cX3_init 19 = .ok (.putfield 19, 3) := by decide +kernel
theorem dX3_init_22 : decode cX3_init 22 = .ok (.return_, 1) := by decide +kernel
theorem dX3_copyFrom_0 : decode cX3_copyFrom 0 = .ok (.aload_n 1, 1) := by decide +kernel
theorem dX3_copyFrom_1 : decode cX3_copyFrom 1 = .ok (.getfield 9, 3) := by decide +kernel
theorem dX3_copyFrom_4 : decode cX3_copyFrom 4 = .ok (.iconst 0, 1) := by decide +kernel
theorem dX3_copyFrom_5 : decode cX3_copyFrom 5 = .ok (.aload_n 0, 1) := by decide +kernel
theorem dX3_copyFrom_6 : decode cX3_copyFrom 6 = .ok (.getfield 9, 3) := by decide +kernel
theorem dX3_copyFrom_9 : decode cX3_copyFrom 9 = .ok (.iconst 0, 1) := by decide +kernel
theorem dX3_copyFrom_10 : decode cX3_copyFrom 10 = .ok (.bipush 40, 2) := by decide +kernel
theorem dX3_copyFrom_12 : decode cX3_copyFrom 12 = .ok (.invokestatic 22, 3) := by decide +kernel
theorem dX3_copyFrom_15 : decode cX3_copyFrom 15 = .ok (.aload_n 0, 1) := by decide +kernel
theorem dX3_copyFrom_16 : decode cX3_copyFrom 16 = .ok (.aload_n 1, 1) := by decide +kernel
theorem dX3_copyFrom_17 : decode cX3_copyFrom 17 = .ok (.getfield 15, 3) := by decide +kernel
theorem dX3_copyFrom_20 : decode cX3_copyFrom 20 = .ok (.putfield 15, 3) := by decide +kernel
theorem dX3_copyFrom_23 : decode cX3_copyFrom 23 = .ok (.aload_n 0, 1) := by decide +kernel
theorem dX3_copyFrom_24 : decode cX3_copyFrom 24 = .ok (.aload_n 1, 1) := by decide +kernel
theorem dX3_copyFrom_25 : decode cX3_copyFrom 25 = .ok (.getfield 19, 3) := by decide +kernel
theorem dX3_copyFrom_28 : decode cX3_copyFrom 28 = .ok (.putfield 19, 3) := by decide +kernel
theorem dX3_copyFrom_31 : decode cX3_copyFrom 31 = .ok (.return_, 1) := by decide +kernel
theorem dX3_take_0 : decode cX3_take 0 = .ok (.aload_n 0, 1) := by decide +kernel
theorem dX3_take_1 : decode cX3_take 1 = .ok (.iconst 0, 1) := by decide +kernel
theorem dX3_take_2 : decode cX3_take 2 = .ok (.putfield 15, 3) := by decide +kernel
theorem dX3_take_5 : decode cX3_take 5 = .ok (.iload_n 2, 1) := by decide +kernel
theorem dX3_take_6 : decode cX3_take 6 = .ok (.istore 5, 2) := by decide +kernel
theorem dX3_take_8 : decode cX3_take 8 = .ok (.iload 5, 2) := by decide +kernel
theorem dX3_take_10 : decode cX3_take 10 = .ok (.iload_n 3, 1) := by decide +kernel
theorem dX3_take_11 : decode cX3_take 11 = .ok (.if_icmp .ge 63, 3) := by decide +kernel
theorem dX3_take_14 : decode cX3_take 14 = .ok (.aload_n 0, 1) := by decide +kernel
theorem dX3_take_15 : decode cX3_take 15 = .ok (.getfield 15, 3) := by decide +kernel
theorem dX3_take_18 : decode cX3_take 18 = .ok (.bipush 40, 2) := by decide +kernel
theorem dX3_take_20 : decode cX3_take 20 = .ok (.if_icmp .ge 54, 3) := by decide +kernel
theorem dX3_take_23 : decode cX3_take 23 = .ok (.aload_n 1, 1) := by decide +kernel
theorem dX3_take_24 : decode cX3_take 24 = .ok (.iload 5, 2) := by decide +kernel
theorem dX3_take_26 : decode cX3_take 26 = .ok (.invokevirtual 28, 3) := by decide +kernel
theorem dX3_take_29 : decode cX3_take 29 = .ok (.istore 6, 2) := by decide +kernel
theorem dX3_take_31 : decode cX3_take 31 = .ok (.aload_n 0, 1) := by decide +kernel
theorem dX3_take_32 : decode cX3_take 32 = .ok (.getfield 9, 3) := by decide +kernel
theorem dX3_take_35 : decode cX3_take 35 = .ok (.aload_n 0, 1) := by decide +kernel
theorem dX3_take_36 : decode cX3_take 36 = .ok (.getfield 15, 3) := by decide +kernel
theorem dX3_take_39 : decode cX3_take 39 = .ok (.iload 6, 2) := by decide +kernel
theorem dX3_take_41 : decode cX3_take 41 = .ok (.invokestatic 34, 3) := by decide +kernel
theorem dX3_take_44 : decode cX3_take 44 = .ok (.ifCond .eq 11, 3) := by decide +kernel
theorem dX3_take_47 : decode cX3_take 47 = .ok (.iload 6, 2) := by decide +kernel
theorem dX3_take_49 : decode cX3_take 49 = .ok (.bipush 97, 2) := by decide +kernel
theorem dX3_take_51 : decode cX3_take 51 = .ok (.isub, 1) := by decide +kernel
theorem dX3_take_52 : decode cX3_take 52 = .ok (.goto 5, 3) := by decide +kernel
theorem dX3_take_55 : decode cX3_take 55 = .ok (.bipush 26, 2) := by decide +kernel
theorem dX3_take_57 : decode cX3_take 57 = .ok (.iastore, 1) := by decide +kernel
theorem dX3_take_58 : decode cX3_take 58 = .ok (.aload_n 0, 1) := by decide +kernel
theorem dX3_take_59 : decode cX3_take 59 = .ok (.dup, 1) := by decide +kernel
theorem dX3_take_60 : decode cX3_take 60 = .ok (.getfield 15, 3) := by decide +kernel
theorem dX3_take_63 : decode cX3_take 63 = .ok (.iconst 1, 1) := by decide +kernel
theorem dX3_take_64 : decode cX3_take 64 = .ok (.iadd, 1) := by decide +kernel
theorem dX3_take_65 : decode cX3_take 65 = .ok (.putfield 15, 3) := by decide +kernel
theorem dX3_take_68 : decode cX3_take 68 = .ok (.iinc 5 1, 3) := by decide +kernel
theorem dX3_take_71 : decode cX3_take 71 = .ok (.goto (-63), 3) := by decide +kernel
theorem dX3_take_74 : decode cX3_take 74 = .ok (.aload_n 0, 1) := by decide +kernel
theorem dX3_take_75 : decode cX3_take 75 = .ok (.iload 4, 2) := by decide +kernel
theorem dX3_take_77 : decode cX3_take 77 = .ok (.putfield 19, 3) := by decide +kernel
theorem dX3_take_80 : decode cX3_take 80 = .ok (.return_, 1) := by decide +kernel
theorem dX3_symbolAt_0 : decode cX3_symbolAt 0 = .ok (.iload_n 1, 1) := by decide +kernel
theorem dX3_symbolAt_1 : decode cX3_symbolAt 1 = .ok (.ifCond .lt 20, 3) := by decide +kernel
theorem dX3_symbolAt_4 : decode cX3_symbolAt 4 = .ok (.iload_n 1, 1) := by decide +kernel
theorem dX3_symbolAt_5 : decode cX3_symbolAt 5 = .ok (.aload_n 0, 1) := by decide +kernel
theorem dX3_symbolAt_6 : decode cX3_symbolAt 6 = .ok (.getfield 15, 3) := by decide +kernel
theorem dX3_symbolAt_9 : decode cX3_symbolAt 9 = .ok (.if_icmp .ge 12, 3) := by decide +kernel
theorem dX3_symbolAt_12 : decode cX3_symbolAt 12 = .ok (.aload_n 0, 1) := by decide +kernel
theorem dX3_symbolAt_13 : decode cX3_symbolAt 13 = .ok (.getfield 9, 3) := by decide +kernel
theorem dX3_symbolAt_16 : decode cX3_symbolAt 16 = .ok (.iload_n 1, 1) := by decide +kernel
theorem dX3_symbolAt_17 : decode cX3_symbolAt 17 = .ok (.iaload, 1) := by decide +kernel
theorem dX3_symbolAt_18 : decode cX3_symbolAt 18 = .ok (.goto 4, 3) := by decide +kernel
theorem dX3_symbolAt_21 : decode cX3_symbolAt 21 = .ok (.iconst (-1), 1) := by decide +kernel
theorem dX3_symbolAt_22 : decode cX3_symbolAt 22 = .ok (.ireturn, 1) := by decide +kernel
theorem dX4_init_0 : decode cX4_init 0 = .ok (.aload_n 0, 1) := by decide +kernel
theorem dX4_init_1 : decode cX4_init 1 = .ok (.invokespecial 3, 3) := by decide +kernel
theorem dX4_init_4 : decode cX4_init 4 = .ok (.aload_n 0, 1) := by decide +kernel
theorem dX4_init_5 : decode cX4_init 5 = .ok (.iconst 0, 1) := by decide +kernel
theorem dX4_init_6 : decode cX4_init 6 = .ok (.putfield 11, 3) := by decide +kernel
theorem dX4_init_9 : decode cX4_init 9 = .ok (.aload_n 0, 1) := by decide +kernel
theorem dX4_init_10 : decode cX4_init 10 = .ok (.iconst 0, 1) := by decide +kernel
theorem dX4_init_11 : decode cX4_init 11 = .ok (.putfield 15, 3) := by decide +kernel
theorem dX4_init_14 : decode cX4_init 14 = .ok (.aload_n 0, 1) := by decide +kernel
theorem dX4_init_15 : decode cX4_init 15 = .ok (.iconst 0, 1) := by decide +kernel
theorem dX4_init_16 : decode cX4_init 16 = .ok (.putfield 18, 3) := by decide +kernel
theorem dX4_init_19 : decode cX4_init 19 = .ok (.aload_n 0, 1) := by decide +kernel
theorem dX4_init_20 : decode cX4_init 20 = .ok (.iconst 0, 1) := by decide +kernel
theorem dX4_init_21 : decode cX4_init 21 = .ok (.putfield 21, 3) := by decide +kernel
theorem dX4_init_24 : decode cX4_init 24 = .ok (.aload_n 0, 1) := by decide +kernel
theorem dX4_init_25 : decode cX4_init 25 = .ok (.iconst (-1), 1) := by decide +kernel
theorem dX4_init_26 : decode cX4_init 26 = .ok (.putfield 24, 3) := by decide +kernel
theorem dX4_init_29 : decode cX4_init 29 = .ok (.aload_n 0, 1) := by decide +kernel
theorem dX4_init_30 : decode cX4_init 30 = .ok (.aload_n 1, 1) := by decide +kernel
theorem dX4_init_31 : decode cX4_init 31 = .ok (.putfield 27, 3) := by decide +kernel
theorem dX4_init_34 : decode cX4_init 34 = .ok (.aload_n 0, 1) := by decide +kernel
theorem dX4_init_35 : decode cX4_init 35 = .ok (.aload_n 2, 1) := by decide +kernel
theorem dX4_init_36 : decode cX4_init 36 = .ok (.putfield 31, 3) := by decide +kernel
theorem dX4_init_39 : decode cX4_init 39 = .ok (.return_, 1) := by decide +kernel
theorem dX4_parseAll_0 : decode cX4_parseAll 0 = .ok (.iconst 1, 1) := by decide +kernel
theorem dX4_parseAll_1 : decode cX4_parseAll 1 = .ok (.istore_n 1, 1) := by decide +kernel
theorem dX4_parseAll_2 : decode cX4_parseAll 2 = .ok (.aload_n 0, 1) := by decide +kernel
theorem dX4_parseAll_3 : decode cX4_parseAll 3 = .ok (.invokevirtual 35, 3) := by decide +kernel
theorem dX4_parseAll_6 : decode cX4_parseAll 6 = .ok (.iconst 0, 1) := by decide +kernel
theorem dX4_parseAll_7 : decode cX4_parseAll 7 = .ok (.istore_n 2, 1) := by decide +kernel
theorem dX4_parseAll_8 : decode cX4_parseAll 8 = .ok (.iload_n 2, 1) := by decide +kernel
theorem dX4_parseAll_9 : decode cX4_parseAll 9 = .ok (.sipush 500, 3) := by decide +kernel
theorem dX4_parseAll_12 : decode cX4_parseAll 12 = .ok (.if_icmp .gt 94, 3) := by decide +kernel
theorem dX4_parseAll_15 : decode cX4_parseAll 15 = .ok (.iload_n 1, 1) := by decide +kernel
theorem dX4_parseAll_16 : decode cX4_parseAll 16 = .ok (.ifCond .eq 90, 3) := by decide +kernel
theorem dX4_parseAll_19 : decode cX4_parseAll 19 = .ok (.aload_n 0, 1) := by decide +kernel
theorem dX4_parseAll_20 : decode cX4_parseAll 20 = .ok (.getfield 11, 3) := by decide +kernel
theorem dX4_parseAll_23 : decode cX4_parseAll 23 = .ok (.ifCond .eq 83, 3) := by decide +kernel
theorem dX4_parseAll_26 : decode cX4_parseAll 26 = .ok (.aload_n 0, 1) := by decide +kernel
theorem dX4_parseAll_27 : decode cX4_parseAll 27 = .ok (.ldc 38, 2) := by decide +kernel
theorem dX4_parseAll_29 : decode cX4_parseAll 29 = .ok (.invokevirtual 40, 3) := by decide +kernel
theorem dX4_parseAll_32 : decode cX4_parseAll 32 = .ok (.ifCond .eq 11, 3) := by decide +kernel
theorem dX4_parseAll_35 : decode cX4_parseAll 35 = .ok (.aload_n 0, 1) := by decide +kernel
theorem dX4_parseAll_36 : decode cX4_parseAll 36 = .ok (.invokevirtual 44, 3) := by decide +kernel
theorem dX4_parseAll_39 : decode cX4_parseAll 39 = .ok (.istore_n 1, 1) := by decide +kernel
theorem dX4_parseAll_40 : decode cX4_parseAll 40 = .ok (.goto 60, 3) := by decide +kernel
theorem dX4_parseAll_43 : decode cX4_parseAll 43 = .ok (.aload_n 0, 1) := by decide +kernel
theorem dX4_parseAll_44 : decode cX4_parseAll 44 = .ok (.ldc 48, 2) := by decide +kernel
theorem dX4_parseAll_46 : decode cX4_parseAll 46 = .ok (.invokevirtual 40, 3) := by decide +kernel
theorem dX4_parseAll_49 : decode cX4_parseAll 49 = .ok (.ifCond .eq 11, 3) := by decide +kernel
theorem dX4_parseAll_52 : decode cX4_parseAll 52 = .ok (.aload_n 0, 1) := by decide +kernel
theorem dX4_parseAll_53 : decode cX4_parseAll 53 = .ok (.invokevirtual 50, 3) := by decide +kernel
theorem dX4_parseAll_56 : decode cX4_parseAll 56 = .ok (.istore_n 1, 1) := by decide +kernel
theorem dX4_parseAll_57 : decode cX4_parseAll 57 = .ok (.goto 43, 3) := by decide +kernel
theorem dX4_parseAll_60 : decode cX4_parseAll 60 = .ok (.aload_n 0, 1) := by decide +kernel
theorem dX4_parseAll_61 : decode cX4_parseAll 61 = .ok (.ldc 53, 2) := by decide +kernel
theorem dX4_parseAll_63 : decode cX4_parseAll 63 = .ok (.invokevirtual 40, 3) := by decide +kernel
theorem dX4_parseAll_66 : decode cX4_parseAll 66 = .ok (.ifCond .eq 11, 3) := by decide +kernel
theorem dX4_parseAll_69 : decode cX4_parseAll 69 = .ok (.aload_n 0, 1) := by decide +kernel
theorem dX4_parseAll_70 : decode cX4_parseAll 70 = .ok (.invokevirtual 55, 3) := by decide +kernel
theorem dX4_parseAll_73 : decode cX4_parseAll 73 = .ok (.istore_n 1, 1) := by decide +kernel
theorem dX4_parseAll_74 : decode cX4_parseAll 74 = .ok (.goto 26, 3) := by decide +kernel
theorem dX4_parseAll_77 : decode cX4_parseAll 77 = .ok (.aload_n 0, 1) := by decide +kernel
theorem dX4_parseAll_78 : decode cX4_parseAll 78 = .ok (.ldc 58, 2) := by decide +kernel
theorem dX4_parseAll_80 : decode cX4_parseAll 80 = .ok (.invokevirtual 40, 3) := by decide +kernel
theorem dX4_parseAll_83 : decode cX4_parseAll 83 = .ok (.ifCond .eq 11, 3) := by decide +kernel
theorem dX4_parseAll_86 : decode cX4_parseAll 86 = .ok (.aload_n 0, 1) := by decide +kernel
theorem dX4_parseAll_87 : decode cX4_parseAll 87 = .ok (.invokevirtual 60, 3) := by decide +kernel
theorem dX4_parseAll_90 : decode cX4_parseAll 90 = .ok (.istore_n 1, 1) := by decide +kernel
theorem dX4_parseAll_91 : decode cX4_parseAll 91 = .ok (.goto 9, 3) := by decide +kernel
theorem dX4_parseAll_94 : decode cX4_parseAll 94 = .ok (.aload_n 0, 1) := by decide +kernel
theorem dX4_parseAll_95 : decode cX4_parseAll 95 = .ok (.iconst 1, 1) := by decide +kernel
theorem dX4_parseAll_96 : decode cX4_parseAll 96 = .ok (.invokevirtual 63, 3) := by decide +kernel
theorem dX4_parseAll_99 : decode cX4_parseAll 99 = .ok (.istore_n 1, 1) := by decide +kernel
theorem dX4_parseAll_100 : decode cX4_parseAll 100 = .ok (.iinc 2 1, 3) := by decide +kernel
theorem dX4_parseAll_103 : decode cX4_parseAll 103 = .ok (.goto (-95), 3) := by decide +kernel
theorem dX4_parseAll_106 : decode cX4_parseAll 106 = .ok (.iload_n 1, 1) := by decide +kernel
theorem dX4_parseAll_107 : decode cX4_parseAll 107 = .ok (.ireturn, 1) := by decide +kernel
theorem dX4_parseReader_0 : decode cX4_parseReader 0 = .ok (.aload_n 0, 1) := by decide +kernel
theorem dX4_parseReader_1 : decode cX4_parseReader 1 = .ok (.getfield 31, 3) := by decide +kernel
theorem dX4_parseReader_4 : decode cX4_parseReader 4 = .ok (.getfield 67, 3) := by decide +kernel
theorem dX4_parseReader_7 : decode cX4_parseReader 7 = .ok (.iconst 4, 1) := by decide +kernel
theorem dX4_parseReader_8 : decode cX4_parseReader 8 = .ok (.if_icmp .lt 9, 3) := by decide +kernel
theorem dX4_parseReader_11 : decode cX4_parseReader 11 = .ok (.aload_n 0, 1) := by decide +kernel
theorem dX4_parseReader_12 : decode cX4_parseReader 12 = .ok (.iconst 5, 1) := by decide +kernel
theorem dX4_parseReader_13 : decode cX4_parseReader 13 = .ok (.invokevirtual 63, 3) := by decide +kernel
theorem dX4_parseReader_16 : decode cX4_parseReader 16 = .ok (.ireturn, 1) := by decide +kernel
theorem dX4_parseReader_17 : decode cX4_parseReader 17 = .ok (.aload_n 0, 1) := by decide +kernel
theorem dX4_parseReader_18 : decode cX4_parseReader 18 = .ok (.invokevirtual 35, 3) := by decide +kernel
theorem dX4_parseReader_21 : decode cX4_parseReader 21 = .ok (.aload_n 0, 1) := by decide +kernel
theorem dX4_parseReader_22 : decode cX4_parseReader 22 = .ok (.getfield 11, 3) := by decide +kernel
theorem dX4_parseReader_25 : decode cX4_parseReader 25 = .ok (.iconst 1, 1) := by decide +kernel
theorem dX4_parseReader_26 : decode cX4_parseReader 26 = .ok (.if_icmp .eq 9, 3) := by decide +kernel
theorem dX4_parseReader_29 : decode cX4_parseReader 29 = .ok (.aload_n 0, 1) := by decide +kernel
theorem dX4_parseReader_30 : decode cX4_parseReader 30 = .ok (.iconst 1, 1) := by decide +kernel
theorem dX4_parseReader_31 : decode cX4_parseReader 31 = .ok (.invokevirtual 63, 3) := by decide +kernel
theorem dX4_parseReader_34 : decode cX4_parseReader 34 = .ok (.ireturn, 1) := by decide +kernel
theorem dX4_parseReader_35 : decode cX4_parseReader 35 = .ok (.aload_n 0, 1) := by decide +kernel
theorem dX4_parseReader_36 : decode cX4_parseReader 36 = .ok (.getfield 27, 3) := by decide +kernel
theorem dX4_parseReader_39 : decode cX4_parseReader 39 = .ok (.aload_n 0, 1) := by decide +kernel
theorem dX4_parseReader_40 : decode cX4_parseReader 40 = .ok (.getfield 15, 3) := by decide +kernel
theorem dX4_parseReader_43 : decode cX4_parseReader 43 = .ok (.aload_n 0, 1) := by decide +kernel
theorem dX4_parseReader_44 : decode cX4_parseReader 44 = .ok (.getfield 18, 3) := by decide +kernel
theorem dX4_parseReader_47 : decode cX4_parseReader 47 = .ok (.invokevirtual 72, 3) := by decide +kernel
theorem dX4_parseReader_50 : decode cX4_parseReader 50 = .ok (.ifCond .ne 9, 3) := by decide +kernel
theorem dX4_parseReader_53 : decode cX4_parseReader 53 = .ok (.aload_n 0, 1) := by decide +kernel
theorem dX4_parseReader_54 : decode cX4_parseReader 54 = .ok (.iconst 2, 1) := by decide +kernel
theorem dX4_parseReader_55 : decode cX4_parseReader 55 = .ok (.invokevirtual 63, 3) := by decide +kernel
theorem dX4_parseReader_58 : decode cX4_parseReader 58 = .ok (.ireturn, 1) := by decide +kernel
theorem dX4_parseReader_59 : decode cX4_parseReader 59 = .ok (.aload_n 0, 1) := by decide +kernel
theorem dX4_parseReader_60 : decode cX4_parseReader 60 = .ok (.getfield 31, 3) := by decide +kernel
theorem dX4_parseReader_63 : decode cX4_parseReader 63 = .ok (.aload_n 0, 1) := by decide +kernel
theorem dX4_parseReader_64 : decode cX4_parseReader 64 = .ok (.getfield 27, 3) := by decide +kernel
theorem dX4_parseReader_67 : decode cX4_parseReader 67 = .ok (.aload_n 0, 1) := by decide +kernel
theorem dX4_parseReader_68 : decode cX4_parseReader 68 = .ok (.getfield 15, 3) := by decide +kernel
theorem dX4_parseReader_71 : decode cX4_parseReader 71 = .ok (.aload_n 0, 1) := by decide +kernel
theorem dX4_parseReader_72 : decode cX4_parseReader 72 = .ok (.getfield 18, 3) := by decide +kernel
theorem dX4_parseReader_75 : decode cX4_parseReader 75 = .ok (.invokevirtual 78, 3) := by decide +kernel
theorem dX4_parseReader_78 : decode cX4_parseReader 78 = .ok (.ifnull 9, 3) := by decide +kernel
theorem dX4_parseReader_81 : decode cX4_parseReader 81 = .ok (.aload_n 0, 1) := by decide +kernel
theorem dX4_parseReader_82 : decode cX4_parseReader 82 = .ok (.iconst 3, 1) := by decide +kernel
theorem dX4_parseReader_83 : decode cX4_parseReader 83 = .ok (.invokevirtual 63, 3) := by decide +kernel
theorem dX4_parseReader_86 : decode cX4_parseReader 86 = .ok (.ireturn, 1) := by decide +kernel
theorem dX4_parseReader_87 : decode cX4_parseReader 87 = .ok (.aload_n 0, 1) := by decide +kernel
theorem dX4_parseReader_88 : decode cX4_parseReader 88 = .ok (.getfield 15, 3) := by decide +kernel
theorem dX4_parseReader_91 : decode cX4_parseReader 91 = .ok (.istore_n 1, 1) := by decide +kernel
theorem dX4_parseReader_92 : decode cX4_parseReader 92 = .ok (.aload_n 0, 1) := by decide +kernel
theorem dX4_parseReader_93 : decode cX4_parseReader 93 = .ok (.getfield 18, 3) := by decide +kernel
theorem dX4_parseReader_96 : decode cX4_parseReader 96 = .ok (.istore_n 2, 1) := by decide +kernel
theorem dX4_parseReader_97 : decode cX4_parseReader 97 = .ok (.aload_n 0, 1) := by decide +kernel
theorem dX4_parseReader_98 : decode cX4_parseReader 98 = .ok (.invokevirtual 35, 3) := by decide +kernel
theorem dX4_parseReader_101 : decode cX4_parseReader 101 = .ok (.aload_n 0, 1) := by decide +kernel
theorem dX4_parseReader_102 : decode cX4_parseReader 102 = .ok (.invokevirtual 82, 3) := by decide +kernel
theorem dX4_parseReader_105 : decode cX4_parseReader 105 = .ok (.istore_n 3, 1) := by decide +kernel
theorem dX4_parseReader_106 : decode cX4_parseReader 106 = .ok (.iload_n 3, 1) := by decide +kernel
theorem dX4_parseReader_107 : decode cX4_parseReader 107 = .ok (.iconst (-1), 1) := by decide +kernel
theorem dX4_parseReader_108 : decode cX4_parseReader 108 = .ok (.if_icmp .ne 9, 3) := by decide +kernel
theorem dX4_parseReader_111 : decode cX4_parseReader 111 = .ok (.aload_n 0, 1) := by decide +kernel
theorem dX4_parseReader_112 : decode cX4_parseReader 112 = .ok (.iconst 1, 1) := by decide +kernel
theorem dX4_parseReader_113 : decode cX4_parseReader 113 = .ok (.invokevirtual 63, 3) := by decide +kernel
theorem dX4_parseReader_116 : decode cX4_parseReader 116 = .ok (.ireturn, 1) := by decide +kernel
theorem dX4_parseReader_117 : decode cX4_parseReader 117 = .ok (.aload_n 0, 1) := by decide +kernel
theorem dX4_parseReader_118 : decode cX4_parseReader 118 = .ok (.invokevirtual 86, 3) := by decide +kernel
theorem dX4_parseReader_121 : decode cX4_parseReader 121 = .ok (.ifCond .ne 5, 3) := by decide +kernel
theorem dX4_parseReader_124 : decode cX4_parseReader 124 = .ok (.iconst 0, 1) := by decide +kernel
theorem dX4_parseReader_125 : decode cX4_parseReader 125 = .ok (.ireturn, 1) := by decide +kernel
theorem dX4_parseReader_126 : decode cX4_parseReader 126 = .ok (.aload_n 0, 1) := by decide +kernel
theorem dX4_parseReader_127 : decode cX4_parseReader 127 = .ok (.getfield 31, 3) := by decide +kernel
theorem dX4_parseReader_130 : decode cX4_parseReader 130 = .ok (.aload_n 0, 1) := by decide +kernel
theorem dX4_parseReader_131 : decode cX4_parseReader 131 = .ok (.getfield 27, 3) := by decide +kernel
theorem dX4_parseReader_134 : decode cX4_parseReader 134 = .ok (.iload_n 1, 1) := by decide +kernel
theorem dX4_parseReader_135 : decode cX4_parseReader 135 = .ok (.iload_n 2, 1) := by decide +kernel
theorem dX4_parseReader_136 : decode cX4_parseReader 136 = .ok (.iload_n 3, 1) := by decide +kernel
theorem dX4_parseReader_137 : decode cX4_parseReader 137 = .ok (.invokevirtual 89, 3) := by decide +kernel
theorem dX4_parseReader_140 : decode cX4_parseReader 140 = .ok (.iconst 1, 1) := by decide +kernel
theorem dX4_parseReader_141 : decode cX4_parseReader 141 = .ok (.ireturn, 1) := by decide +kernel
theorem dX4_parseDocument_0 : decode cX4_parseDocument 0 = .ok (.aload_n 0, 1) := by decide +kernel
theorem dX4_parseDocument_1 : decode cX4_parseDocument 1 = .ok (.getfield 31, 3) := by decide +kernel
theorem dX4_parseDocument_4 : decode cX4_parseDocument 4 = .ok (.getfield 93, 3) := by decide +kernel
theorem dX4_parseDocument_7 : decode cX4_parseDocument 7 = .ok (.bipush 8, 2) := by decide +kernel
theorem dX4_parseDocument_9 : decode cX4_parseDocument 9 = .ok (.if_icmp .lt 9, 3) := by decide +kernel
theorem dX4_parseDocument_12 : decode cX4_parseDocument 12 = .ok (.aload_n 0, 1) := by decide +kernel
theorem dX4_parseDocument_13 : decode cX4_parseDocument 13 = .ok (.iconst 5, 1) := by decide +kernel
theorem dX4_parseDocument_14 : decode cX4_parseDocument 14 = .ok (.invokevirtual 63, 3) := by decide +kernel
theorem dX4_parseDocument_17 : decode cX4_parseDocument 17 = .ok (.ireturn, 1) := by decide +kernel
theorem dX4_parseDocument_18 : decode cX4_parseDocument 18 = .ok (.aload_n 0, 1) := by decide +kernel
theorem dX4_parseDocument_19 : decode cX4_parseDocument 19 = .ok (.invokevirtual 35, 3) := by decide +kernel
theorem dX4_parseDocument_22 : decode cX4_parseDocument 22 = .ok (.aload_n 0, 1) := by decide +kernel
theorem dX4_parseDocument_23 : decode cX4_parseDocument 23 = .ok (.getfield 11, 3) := by decide +kernel
theorem dX4_parseDocument_26 : decode cX4_parseDocument 26 = .ok (.iconst 1, 1) := by decide +kernel
theorem dX4_parseDocument_27 : decode cX4_parseDocument 27 = .ok (.if_icmp .eq 9, 3) := by decide +kernel
theorem dX4_parseDocument_30 : decode cX4_parseDocument 30 = .ok (.aload_n 0, 1) := by decide +kernel
theorem dX4_parseDocument_31 : decode cX4_parseDocument 31 = .ok (.iconst 1, 1) := by decide +kernel
theorem dX4_parseDocument_32 : decode cX4_parseDocument 32 = .ok (.invokevirtual 63, 3) := by decide +kernel
theorem dX4_parseDocument_35 : decode cX4_parseDocument 35 = .ok (.ireturn, 1) := by decide +kernel
theorem dX4_parseDocument_36 : decode cX4_parseDocument 36 = .ok (.aload_n 0, 1) := by decide +kernel
theorem dX4_parseDocument_37 : decode cX4_parseDocument 37 = .ok (.getfield 27, 3) := by decide +kernel
theorem dX4_parseDocument_40 : decode cX4_parseDocument 40 = .ok (.aload_n 0, 1) := by decide +kernel
theorem dX4_parseDocument_41 : decode cX4_parseDocument 41 = .ok (.getfield 15, 3) := by decide +kernel
theorem dX4_parseDocument_44 : decode cX4_parseDocument 44 = .ok (.aload_n 0, 1) := by decide +kernel
theorem dX4_parseDocument_45 : decode cX4_parseDocument 45 = .ok (.getfield 18, 3) := by decide +kernel
theorem dX4_parseDocument_48 : decode cX4_parseDocument 48 = .ok (.invokevirtual 96, 3) := by decide +kernel
theorem dX4_parseDocument_51 : decode cX4_parseDocument 51 = .ok (.ifCond .ne 9, 3) := by decide +kernel
theorem dX4_parseDocument_54 : decode cX4_parseDocument 54 = .ok (.aload_n 0, 1) := by decide +kernel
theorem dX4_parseDocument_55 : decode cX4_parseDocument 55 = .ok (.iconst 2, 1) := by decide +kernel
theorem dX4_parseDocument_56 : decode cX4_parseDocument 56 = .ok (.invokevirtual 63, 3) := by decide +kernel
theorem dX4_parseDocument_59 : decode cX4_parseDocument 59 = .ok (.ireturn, 1) := by decide +kernel
theorem dX4_parseDocument_60 : decode cX4_parseDocument 60 = .ok (.aload_n 0, 1) := by decide +kernel
theorem dX4_parseDocument_61 : decode cX4_parseDocument 61 = .ok (.getfield 15, 3) := by decide +kernel
theorem dX4_parseDocument_64 : decode cX4_parseDocument 64 = .ok (.istore_n 1, 1) := by decide +kernel
theorem dX4_parseDocument_65 : decode cX4_parseDocument 65 = .ok (.aload_n 0, 1) := by decide +kernel
theorem dX4_parseDocument_66 : decode cX4_parseDocument 66 = .ok (.getfield 18, 3) := by decide +kernel
theorem dX4_parseDocument_69 : decode cX4_parseDocument 69 = .ok (.istore_n 2, 1) := by decide +kernel
theorem dX4_parseDocument_70 : decode cX4_parseDocument 70 = .ok (.aload_n 0, 1) := by decide +kernel
theorem dX4_parseDocument_71 : decode cX4_parseDocument 71 = .ok (.invokevirtual 86, 3) := by decide +kernel
theorem dX4_parseDocument_74 : decode cX4_parseDocument 74 = .ok (.ifCond .ne 5, 3) := by decide +kernel
theorem dX4_parseDocument_77 : decode cX4_parseDocument 77 = .ok (.iconst 0, 1) := by decide +kernel
theorem dX4_parseDocument_78 : decode cX4_parseDocument 78 = .ok (.ireturn, 1) := by decide +kernel
theorem dX4_parseDocument_79 : decode cX4_parseDocument 79 = .ok (.aload_n 0, 1) := by decide +kernel
theorem dX4_parseDocument_80 : decode cX4_parseDocument 80 = .ok (.getfield 31, 3) := by decide +kernel
theorem dX4_parseDocument_83 : decode cX4_parseDocument 83 = .ok (.aload_n 0, 1) := by decide +kernel
theorem dX4_parseDocument_84 : decode cX4_parseDocument 84 = .ok (.getfield 27, 3) := by decide +kernel
theorem dX4_parseDocument_87 : decode cX4_parseDocument 87 = .ok (.iload_n 1, 1) := by decide +kernel
theorem dX4_parseDocument_88 : decode cX4_parseDocument 88 = .ok (.iload_n 2, 1) := by decide +kernel
theorem dX4_parseDocument_89 : decode cX4_parseDocument 89 = .ok (.invokevirtual 99, 3) := by decide +kernel
theorem dX4_parseDocument_92 : decode cX4_parseDocument 92 = .ok (.iconst 1, 1) := by decide +kernel
theorem dX4_parseDocument_93 : decode cX4_parseDocument 93 = .ok (.ireturn, 1) := by decide +kernel
theorem dX4_parseTrain_0 : decode cX4_parseTrain 0 = .ok (.aload_n 0, 1) := by decide +kernel
theorem dX4_parseTrain_1 : decode cX4_parseTrain 1 = .ok (.invokevirtual 35, 3) := by decide +kernel
theorem dX4_parseTrain_4 : decode cX4_parseTrain 4 = .ok (.aload_n 0, 1) := by decide +kernel
theorem dX4_parseTrain_5 : decode cX4_parseTrain 5 = .ok (.getfield 11, 3) := by decide +kernel
theorem dX4_parseTrain_8 : decode cX4_parseTrain 8 = .ok (.iconst 1, 1) := by decide +kernel
theorem dX4_parseTrain_9 : decode cX4_parseTrain 9 = .ok (.if_icmp .eq 9, 3) := by decide +kernel
theorem dX4_parseTrain_12 : decode cX4_parseTrain 12 = .ok (.aload_n 0, 1) := by decide +kernel
theorem dX4_parseTrain_13 : decode cX4_parseTrain 13 = .ok (.iconst 1, 1) := by decide +kernel
theorem dX4_parseTrain_14 : decode cX4_parseTrain 14 = .ok (.invokevirtual 63, 3) := by decide +kernel
theorem dX4_parseTrain_17 : decode cX4_parseTrain 17 = .ok (.ireturn, 1) := by decide +kernel
theorem dX4_parseTrain_18 : decode cX4_parseTrain 18 = .ok (.aload_n 0, 1) := by decide +kernel
theorem dX4_parseTrain_19 : decode cX4_parseTrain 19 = .ok (.getfield 31, 3) := by decide +kernel
theorem dX4_parseTrain_22 : decode cX4_parseTrain 22 = .ok (.aload_n 0, 1) := by decide +kernel
theorem dX4_parseTrain_23 : decode cX4_parseTrain 23 = .ok (.getfield 27, 3) := by decide +kernel
theorem dX4_parseTrain_26 : decode cX4_parseTrain 26 = .ok (.aload_n 0, 1) := by decide +kernel
theorem dX4_parseTrain_27 : decode cX4_parseTrain 27 = .ok (.getfield 15, 3) := by decide +kernel
theorem dX4_parseTrain_30 : decode cX4_parseTrain 30 = .ok (.aload_n 0, 1) := by decide +kernel
theorem dX4_parseTrain_31 : decode cX4_parseTrain 31 = .ok (.getfield 18, 3) := by decide +kernel
theorem dX4_parseTrain_34 : decode cX4_parseTrain 34 = .ok (.invokevirtual 78, 3) := by decide +kernel
theorem dX4_parseTrain_37 : decode cX4_parseTrain 37 = .ok (.astore_n 1, 1) := by decide +kernel
theorem dX4_parseTrain_38 : decode cX4_parseTrain 38 = .ok (.aload_n 1, 1) := by decide +kernel
theorem dX4_parseTrain_39 : decode cX4_parseTrain 39 = .ok (.ifnonnull 9, 3) := by decide +kernel
theorem dX4_parseTrain_42 : decode cX4_parseTrain 42 = .ok (.aload_n 0, 1) := by decide +kernel
theorem dX4_parseTrain_43 : decode cX4_parseTrain 43 = .ok (.iconst 4, 1) := by decide +kernel
theorem dX4_parseTrain_44 : decode cX4_parseTrain 44 = .ok (.invokevirtual 63, 3) := by decide +kernel
theorem dX4_parseTrain_47 : decode cX4_parseTrain 47 = .ok (.ireturn, 1) := by decide +kernel
theorem dX4_parseTrain_48 : decode cX4_parseTrain 48 = .ok (.aload_n 0, 1) := by decide +kernel
theorem dX4_parseTrain_49 : decode cX4_parseTrain 49 = .ok (.invokevirtual 35, 3) := by decide +kernel
theorem dX4_parseTrain_52 : decode cX4_parseTrain 52 = .ok (.aload_n 0, 1) := by decide +kernel
theorem dX4_parseTrain_53 : decode cX4_parseTrain 53 = .ok (.getfield 11, 3) := by decide +kernel
theorem dX4_parseTrain_56 : decode cX4_parseTrain 56 = .ok (.iconst 2, 1) := by decide +kernel
theorem dX4_parseTrain_57 : decode cX4_parseTrain 57 = .ok (.if_icmp .eq 9, 3) := by decide +kernel
theorem dX4_parseTrain_60 : decode cX4_parseTrain 60 = .ok (.aload_n 0, 1) := by decide +kernel
theorem dX4_parseTrain_61 : decode cX4_parseTrain 61 = .ok (.iconst 1, 1) := by decide +kernel
theorem dX4_parseTrain_62 : decode cX4_parseTrain 62 = .ok (.invokevirtual 63, 3) := by decide +kernel
theorem dX4_parseTrain_65 : decode cX4_parseTrain 65 = .ok (.ireturn, 1) := by decide +kernel
theorem dX4_parseTrain_66 : decode cX4_parseTrain 66 = .ok (.aload_n 0, 1) := by decide +kernel
theorem dX4_parseTrain_67 : decode cX4_parseTrain 67 = .ok (.invokevirtual 103, 3) := by decide +kernel
theorem dX4_parseTrain_70 : decode cX4_parseTrain 70 = .ok (.istore_n 2, 1) := by decide +kernel
theorem dX4_parseTrain_71 : decode cX4_parseTrain 71 = .ok (.aload_n 0, 1) := by decide +kernel
theorem dX4_parseTrain_72 : decode cX4_parseTrain 72 = .ok (.getfield 31, 3) := by decide +kernel
theorem dX4_parseTrain_75 : decode cX4_parseTrain 75 = .ok (.iload_n 2, 1) := by decide +kernel
theorem dX4_parseTrain_76 : decode cX4_parseTrain 76 = .ok (.invokevirtual 106, 3) := by decide +kernel
theorem dX4_parseTrain_79 : decode cX4_parseTrain 79 = .ok (.astore_n 3, 1) := by decide +kernel
theorem dX4_parseTrain_80 : decode cX4_parseTrain 80 = .ok (.aload_n 3, 1) := by decide +kernel
theorem dX4_parseTrain_81 : decode cX4_parseTrain 81 = .ok (.ifnonnull 9, 3) := by decide +kernel
theorem dX4_parseTrain_84 : decode cX4_parseTrain 84 = .ok (.aload_n 0, 1) := by decide +kernel
theorem dX4_parseTrain_85 : decode cX4_parseTrain 85 = .ok (.iconst 2, 1) := by decide +kernel
theorem dX4_parseTrain_86 : decode cX4_parseTrain 86 = .ok (.invokevirtual 63, 3) := by decide +kernel
theorem dX4_parseTrain_89 : decode cX4_parseTrain 89 = .ok (.ireturn, 1) := by decide +kernel
theorem dX4_parseTrain_90 : decode cX4_parseTrain 90 = .ok (.aload_n 0, 1) := by decide +kernel
theorem dX4_parseTrain_91 : decode cX4_parseTrain 91 = .ok (.invokevirtual 86, 3) := by decide +kernel
theorem dX4_parseTrain_94 : decode cX4_parseTrain 94 = .ok (.ifCond .ne 5, 3) := by decide +kernel
theorem dX4_parseTrain_97 : decode cX4_parseTrain 97 = .ok (.iconst 0, 1) := by decide +kernel
theorem dX4_parseTrain_98 : decode cX4_parseTrain 98 = .ok (.ireturn, 1) := by decide +kernel
theorem dX4_parseTrain_99 : decode cX4_parseTrain 99 = .ok (.aload_n 1, 1) := by decide +kernel
theorem dX4_parseTrain_100 : decode cX4_parseTrain 100 = .ok (.getfield 110, 3) := by decide +kernel
theorem dX4_parseTrain_103 : decode cX4_parseTrain 103 = .ok (.aload_n 3, 1) := by decide +kernel
theorem dX4_parseTrain_104 : decode cX4_parseTrain 104 = .ok (.invokevirtual 116, 3) := by decide +kernel
theorem dX4_parseTrain_107 : decode cX4_parseTrain 107 = .ok (.aload_n 1, 1) := by decide +kernel
theorem dX4_parseTrain_108 : decode cX4_parseTrain 108 = .ok (.iload_n 2, 1) := by decide +kernel
theorem dX4_parseTrain_109 : decode cX4_parseTrain 109 = .ok (.aload_n 3, 1) := by decide +kernel
theorem dX4_parseTrain_110 : decode cX4_parseTrain 110 = .ok (.getfield 122, 3) := by decide +kernel
theorem dX4_parseTrain_113 : decode cX4_parseTrain 113 = .ok (.invokevirtual 127, 3) := by decide +kernel
theorem dX4_parseTrain_116 : decode cX4_parseTrain 116 = .ok (.iconst 1, 1) := by decide +kernel
theorem dX4_parseTrain_117 : decode cX4_parseTrain 117 = .ok (.ireturn, 1) := by decide +kernel
theorem dX4_parseYear_0 : decode cX4_parseYear 0 = .ok (.aload_n 0, 1) := by decide +kernel
theorem dX4_parseYear_1 : decode cX4_parseYear 1 = .ok (.invokevirtual 86, 3) := by decide +kernel
theorem dX4_parseYear_4 : decode cX4_parseYear 4 = .ok (.ifCond .ne 5, 3) := by decide +kernel
theorem dX4_parseYear_7 : decode cX4_parseYear 7 = .ok (.iconst 0, 1) := by decide +kernel
theorem dX4_parseYear_8 : decode cX4_parseYear 8 = .ok (.ireturn, 1) := by decide +kernel
theorem dX4_parseYear_9 : decode cX4_parseYear 9 = .ok (.aload_n 0, 1) := by decide +kernel
theorem dX4_parseYear_10 : decode cX4_parseYear 10 = .ok (.getfield 31, 3) := by decide +kernel
theorem dX4_parseYear_13 : decode cX4_parseYear 13 = .ok (.invokevirtual 131, 3) := by decide +kernel
theorem dX4_parseYear_16 : decode cX4_parseYear 16 = .ok (.iconst 1, 1) := by decide +kernel
theorem dX4_parseYear_17 : decode cX4_parseYear 17 = .ok (.ireturn, 1) := by decide +kernel
theorem dX4_parseSemicolon_0 : decode cX4_parseSemicolon 0 = .ok (.aload_n 0, 1) := by decide +kernel
theorem dX4_parseSemicolon_1 : decode cX4_parseSemicolon 1 = .ok (.invokevirtual 35, 3) := by decide +kernel
theorem dX4_parseSemicolon_4 : decode cX4_parseSemicolon 4 = .ok (.aload_n 0, 1) := by decide +kernel
theorem dX4_parseSemicolon_5 : decode cX4_parseSemicolon 5 = .ok (.getfield 11, 3) := by decide +kernel
theorem dX4_parseSemicolon_8 : decode cX4_parseSemicolon 8 = .ok (.iconst 3, 1) := by decide +kernel
theorem dX4_parseSemicolon_9 : decode cX4_parseSemicolon 9 = .ok (.if_icmp .ne 19, 3) := by decide +kernel
theorem dX4_parseSemicolon_12 : decode cX4_parseSemicolon 12 = .ok (.aload_n 0, 1) := by decide +kernel
theorem dX4_parseSemicolon_13 : decode cX4_parseSemicolon 13 = .ok (.getfield 27, 3) := by decide +kernel
theorem dX4_parseSemicolon_16 : decode cX4_parseSemicolon 16 = .ok (.aload_n 0, 1) := by decide +kernel
theorem dX4_parseSemicolon_17 : decode cX4_parseSemicolon 17 = .ok (.getfield 15, 3) := by decide +kernel
theorem dX4_parseSemicolon_20 : decode cX4_parseSemicolon 20 = .ok (.invokevirtual 134, 3) := by decide +kernel
theorem dX4_parseSemicolon_23 : decode cX4_parseSemicolon 23 = .ok (.bipush 59, 2) := by decide +kernel
theorem dX4_parseSemicolon_25 : decode cX4_parseSemicolon 25 = .ok (.if_icmp .eq 9, 3) := by decide +kernel
theorem dX4_parseSemicolon_28 : decode cX4_parseSemicolon 28 = .ok (.aload_n 0, 1) := by decide +kernel
theorem dX4_parseSemicolon_29 : decode cX4_parseSemicolon 29 = .ok (.iconst 1, 1) := by decide +kernel
theorem dX4_parseSemicolon_30 : decode cX4_parseSemicolon 30 = .ok (.invokevirtual 63, 3) := by decide +kernel
theorem dX4_parseSemicolon_33 : decode cX4_parseSemicolon 33 = .ok (.ireturn, 1) := by decide +kernel
theorem dX4_parseSemicolon_34 : decode cX4_parseSemicolon 34 = .ok (.aload_n 0, 1) := by decide +kernel
theorem dX4_parseSemicolon_35 : decode cX4_parseSemicolon 35 = .ok (.invokevirtual 35, 3) := by decide +kernel
theorem dX4_parseSemicolon_38 : decode cX4_parseSemicolon 38 = .ok (.iconst 1, 1) := by decide +kernel
theorem dX4_parseSemicolon_39 : decode cX4_parseSemicolon 39 = .ok (.ireturn, 1) := by decide +kernel
theorem dX4_fail_0 : decode cX4_fail 0 = .ok (.aload_n 0, 1) := by decide +kernel
theorem dX4_fail_1 : decode cX4_fail 1 = .ok (.iload_n 1, 1) := by decide +kernel
theorem dX4_fail_2 : decode cX4_fail 2 = .ok (.putfield 21, 3) := by decide +kernel
theorem dX4_fail_5 : decode cX4_fail 5 = .ok (.aload_n 0, 1) := by decide +kernel
theorem dX4_fail_6 : decode cX4_fail 6 = .ok (.aload_n 0, 1) := by decide +kernel
theorem dX4_fail_7 : decode cX4_fail 7 = .ok (.getfield 15, 3) := by decide +kernel
theorem dX4_fail_10 : decode cX4_fail 10 = .ok (.putfield 24, 3) := by decide +kernel
theorem dX4_fail_13 : decode cX4_fail 13 = .ok (.iconst 0, 1) := by decide +kernel
theorem dX4_fail_14 : decode cX4_fail 14 = .ok (.ireturn, 1) := by decide +kernel
theorem dX4_next_0 : decode cX4_next 0 = .ok (.aload_n 0, 1) := by decide +kernel
theorem dX4_next_1 : decode cX4_next 1 = .ok (.getfield 18, 3) := by decide +kernel
theorem dX4_next_4 : decode cX4_next 4 = .ok (.istore_n 1, 1) := by decide +kernel
theorem dX4_next_5 : decode cX4_next 5 = .ok (.iload_n 1, 1) := by decide +kernel
theorem dX4_next_6 : decode cX4_next 6 = .ok (.aload_n 0, 1) := by decide +kernel
theorem dX4_next_7 : decode cX4_next 7 = .ok (.getfield 27, 3) := by decide +kernel
theorem dX4_next_10 : decode cX4_next 10 = .ok (.getfield 138, 3) := by decide +kernel
theorem dX4_next_13 : decode cX4_next 13 = .ok (.if_icmp .ge 23, 3) := by decide +kernel
theorem dX4_next_16 : decode cX4_next 16 = .ok (.aload_n 0, 1) := by decide +kernel
theorem dX4_next_17 : decode cX4_next 17 = .ok (.getfield 27, 3) := by decide +kernel
theorem dX4_next_20 : decode cX4_next 20 = .ok (.iload_n 1, 1) := by decide +kernel
theorem dX4_next_21 : decode cX4_next 21 = .ok (.invokevirtual 134, 3) := by decide +kernel
theorem dX4_next_24 : decode cX4_next 24 = .ok (.invokestatic 139, 3) := by decide +kernel
theorem dX4_next_27 : decode cX4_next 27 = .ok (.ifCond .eq 9, 3) := by decide +kernel
theorem dX4_next_30 : decode cX4_next 30 = .ok (.iinc 1 1, 3) := by decide +kernel
theorem dX4_next_33 : decode cX4_next 33 = .ok (.goto (-28), 3) := by decide +kernel
theorem dX4_next_36 : decode cX4_next 36 = .ok (.aload_n 0, 1) := by decide +kernel
theorem dX4_next_37 : decode cX4_next 37 = .ok (.iload_n 1, 1) := by decide +kernel
theorem dX4_next_38 : decode cX4_next 38 = .ok (.putfield 15, 3) := by decide +kernel
theorem dX4_next_41 : decode cX4_next 41 = .ok (.aload_n 0, 1) := by decide +kernel
theorem dX4_next_42 : decode cX4_next 42 = .ok (.iload_n 1, 1) := by decide +kernel
theorem dX4_next_43 : decode cX4_next 43 = .ok (.aload_n 0, 1) := by decide +kernel
theorem dX4_next_44 : decode cX4_next 44 = .ok (.getfield 27, 3) := by decide +kernel
theorem dX4_next_47 : decode cX4_next 47 = .ok (.getfield 138, 3) := by decide +kernel
theorem dX4_next_50 : decode cX4_next 50 = .ok (.if_icmp .ge 9, 3) := by decide +kernel
theorem dX4_next_53 : decode cX4_next 53 = .ok (.iload_n 1, 1) := by decide +kernel
theorem dX4_next_54 : decode cX4_next 54 = .ok (.iconst 1, 1) := by decide +kernel
theorem dX4_next_55 : decode cX4_next 55 = .ok (.iadd, 1) := by decide +kernel
theorem dX4_next_56 : decode cX4_next 56 = .ok (.goto 4, 3) := by decide +kernel
theorem dX4_next_59 : decode cX4_next 59 = .ok (.iload_n 1, 1) := by decide +kernel
theorem dX4_next_60 : decode cX4_next 60 = .ok (.putfield 18, 3) := by decide +kernel
theorem dX4_next_63 : decode cX4_next 63 = .ok (.aload_n 0, 1) := by decide +kernel
theorem dX4_next_64 : decode cX4_next 64 = .ok (.aload_n 0, 1) := by decide +kernel
theorem dX4_next_65 : decode cX4_next 65 = .ok (.getfield 27, 3) := by decide +kernel
theorem dX4_next_68 : decode cX4_next 68 = .ok (.iload_n 1, 1) := by decide +kernel
theorem dX4_next_69 : decode cX4_next 69 = .ok (.invokevirtual 134, 3) := by decide +kernel
theorem dX4_next_72 : decode cX4_next 72 = .ok (.invokestatic 142, 3) := by decide +kernel
theorem dX4_next_75 : decode cX4_next 75 = .ok (.putfield 11, 3) := by decide +kernel
theorem dX4_next_78 : decode cX4_next 78 = .ok (.aload_n 0, 1) := by decide +kernel
theorem dX4_next_79 : decode cX4_next 79 = .ok (.getfield 11, 3) := by decide +kernel
theorem dX4_next_82 : decode cX4_next 82 = .ok (.iconst 1, 1) := by decide +kernel
theorem dX4_next_83 : decode cX4_next 83 = .ok (.if_icmp .eq 11, 3) := by decide +kernel
theorem dX4_next_86 : decode cX4_next 86 = .ok (.aload_n 0, 1) := by decide +kernel
theorem dX4_next_87 : decode cX4_next 87 = .ok (.getfield 11, 3) := by decide +kernel
theorem dX4_next_90 : decode cX4_next 90 = .ok (.iconst 2, 1) := by decide +kernel
theorem dX4_next_91 : decode cX4_next 91 = .ok (.if_icmp .ne 51, 3) := by decide +kernel
theorem dX4_next_94 : decode cX4_next 94 = .ok (.aload_n 0, 1) := by decide +kernel
theorem dX4_next_95 : decode cX4_next 95 = .ok (.getfield 18, 3) := by decide +kernel
theorem dX4_next_98 : decode cX4_next 98 = .ok (.aload_n 0, 1) := by decide +kernel
theorem dX4_next_99 : decode cX4_next 99 = .ok (.getfield 27, 3) := by decide +kernel
theorem dX4_next_102 : decode cX4_next 102 = .ok (.getfield 138, 3) := by decide +kernel
theorem dX4_next_105 : decode cX4_next 105 = .ok (.if_icmp .ge 37, 3) := by decide +kernel
theorem dX4_next_108 : decode cX4_next 108 = .ok (.aload_n 0, 1) := by decide +kernel
theorem dX4_next_109 : decode cX4_next 109 = .ok (.getfield 27, 3) := by decide +kernel
theorem dX4_next_112 : decode cX4_next 112 = .ok (.aload_n 0, 1) := by decide +kernel
theorem dX4_next_113 : decode cX4_next 113 = .ok (.getfield 18, 3) := by decide +kernel
theorem dX4_next_116 : decode cX4_next 116 = .ok (.invokevirtual 134, 3) := by decide +kernel
theorem dX4_next_119 : decode cX4_next 119 = .ok (.invokestatic 142, 3) := by decide +kernel
theorem dX4_next_122 : decode cX4_next 122 = .ok (.aload_n 0, 1) := by decide +kernel
theorem dX4_next_123 : decode cX4_next 123 = .ok (.getfield 11, 3) := by decide +kernel
theorem dX4_next_126 : decode cX4_next 126 = .ok (.if_icmp .ne 16, 3) := by decide +kernel
theorem dX4_next_129 : decode cX4_next 129 = .ok (.aload_n 0, 1) := by decide +kernel
theorem dX4_next_130 : decode cX4_next 130 = .ok (.dup, 1) := by decide +kernel
theorem dX4_next_131 : decode cX4_next 131 = .ok (.getfield 18, 3) := by decide +kernel
theorem dX4_next_134 : decode cX4_next 134 = .ok (.iconst 1, 1) := by decide +kernel
theorem dX4_next_135 : decode cX4_next 135 = .ok (.iadd, 1) := by decide +kernel
theorem dX4_next_136 : decode cX4_next 136 = .ok (.putfield 18, 3) := by decide +kernel
theorem dX4_next_139 : decode cX4_next 139 = .ok (.goto (-45), 3) := by decide +kernel
theorem dX4_next_142 : decode cX4_next 142 = .ok (.return_, 1) := by decide +kernel
theorem dX4_isBlank_0 : decode cX4_isBlank 0 = .ok (.iload_n 0, 1) := by decide +kernel
theorem dX4_isBlank_1 : decode cX4_isBlank 1 = .ok (.bipush 32, 2) := by decide +kernel
theorem dX4_isBlank_3 : decode cX4_isBlank 3 = .ok (.if_icmp .eq 9, 3) := by decide +kernel
theorem dX4_isBlank_6 : decode cX4_isBlank 6 = .ok (.iload_n 0, 1) := by decide +kernel
theorem dX4_isBlank_7 : decode cX4_isBlank 7 = .ok (.bipush 10, 2) := by decide +kernel
theorem dX4_isBlank_9 : decode cX4_isBlank 9 = .ok (.if_icmp .ne 7, 3) := by decide +kernel
theorem dX4_isBlank_12 : decode cX4_isBlank 12 = .ok (.iconst 1, 1) := by decide +kernel
theorem dX4_isBlank_13 : decode cX4_isBlank 13 = .ok (.goto 4, 3) := by decide +kernel
theorem dX4_isBlank_16 : decode cX4_isBlank 16 = .ok (.iconst 0, 1) := by decide +kernel
theorem dX4_isBlank_17 : decode cX4_isBlank 17 = .ok (.ireturn, 1) := by decide +kernel
theorem dX4_kindOf_0 : decode cX4_kindOf 0 = .ok (.iload_n 0, 1) := by decide +kernel
theorem dX4_kindOf_1 : decode cX4_kindOf 1 = .ok (.iconst (-1), 1) := by decide +kernel
theorem dX4_kindOf_2 : decode cX4_kindOf 2 = .ok (.if_icmp .ne 5, 3) := by decide +kernel
theorem dX4_kindOf_5 : decode cX4_kindOf 5 = .ok (.iconst 0, 1) := by decide +kernel
theorem dX4_kindOf_6 : decode cX4_kindOf 6 = .ok (.ireturn, 1) := by decide +kernel
theorem dX4_kindOf_7 : decode cX4_kindOf 7 = .ok (.iload_n 0, 1) := by decide +kernel
theorem dX4_kindOf_8 : decode cX4_kindOf 8 = .ok (.invokestatic 145, 3) := by decide +kernel
theorem dX4_kindOf_11 : decode cX4_kindOf 11 = .ok (.ifCond .ne 9, 3) := by decide +kernel
theorem dX4_kindOf_14 : decode cX4_kindOf 14 = .ok (.iload_n 0, 1) := by decide +kernel
theorem dX4_kindOf_15 : decode cX4_kindOf 15 = .ok (.bipush 95, 2) := by decide +kernel
theorem dX4_kindOf_17 : decode cX4_kindOf 17 = .ok (.if_icmp .ne 5, 3) := by decide +kernel
theorem dX4_kindOf_20 : decode cX4_kindOf 20 = .ok (.iconst 1, 1) := by decide +kernel
theorem dX4_kindOf_21 : decode cX4_kindOf 21 = .ok (.ireturn, 1) := by decide +kernel
theorem dX4_kindOf_22 : decode cX4_kindOf 22 = .ok (.iload_n 0, 1) := by decide +kernel
theorem dX4_kindOf_23 : decode cX4_kindOf 23 = .ok (.invokestatic 148, 3) := by decide +kernel
theorem dX4_kindOf_26 : decode cX4_kindOf 26 = .ok (.ifCond .eq 7, 3) := by decide +kernel
theorem dX4_kindOf_29 : decode cX4_kindOf 29 = .ok (.iconst 2, 1) := by decide +kernel
theorem dX4_kindOf_30 : decode cX4_kindOf 30 = .ok (.goto 4, 3) := by decide +kernel
theorem dX4_kindOf_33 : decode cX4_kindOf 33 = .ok (.iconst 3, 1) := by decide +kernel
theorem dX4_kindOf_34 : decode cX4_kindOf 34 = .ok (.ireturn, 1) := by decide +kernel
theorem dX4_isWord_0 : decode cX4_isWord 0 = .ok (.aload_n 0, 1) := by decide +kernel
theorem dX4_isWord_1 : decode cX4_isWord 1 = .ok (.getfield 18, 3) := by decide +kernel
theorem dX4_isWord_4 : decode cX4_isWord 4 = .ok (.aload_n 0, 1) := by decide +kernel
theorem dX4_isWord_5 : decode cX4_isWord 5 = .ok (.getfield 15, 3) := by decide +kernel
theorem dX4_isWord_8 : decode cX4_isWord 8 = .ok (.isub, 1) := by decide +kernel
theorem dX4_isWord_9 : decode cX4_isWord 9 = .ok (.aload_n 1, 1) := by decide +kernel
theorem dX4_isWord_10 : decode cX4_isWord 10 = .ok (.invokevirtual 151, 3) := by decide +kernel
theorem dX4_isWord_13 : decode cX4_isWord 13 = .ok (.if_icmp .ne 7, 3) := by decide +kernel
theorem dX4_isWord_16 : decode cX4_isWord 16 = .ok (.iconst 1, 1) := by decide +kernel
theorem dX4_isWord_17 : decode cX4_isWord 17 = .ok (.goto 4, 3) := by decide +kernel
theorem dX4_isWord_20 : decode cX4_isWord 20 = .ok (.iconst 0, 1) := by decide +kernel
theorem dX4_isWord_21 : decode cX4_isWord 21 = .ok (.istore_n 2, 1) := by decide +kernel
theorem dX4_isWord_22 : decode cX4_isWord 22 = .ok (.iconst 0, 1) := by decide +kernel
theorem dX4_isWord_23 : decode cX4_isWord 23 = .ok (.istore_n 3, 1) := by decide +kernel
theorem dX4_isWord_24 : decode cX4_isWord 24 = .ok (.iload_n 3, 1) := by decide +kernel
theorem dX4_isWord_25 : decode cX4_isWord 25 = .ok (.aload_n 1, 1) := by decide +kernel
theorem dX4_isWord_26 : decode cX4_isWord 26 = .ok (.invokevirtual 151, 3) := by decide +kernel
theorem dX4_isWord_29 : decode cX4_isWord 29 = .ok (.if_icmp .ge 40, 3) := by decide +kernel
theorem dX4_isWord_32 : decode cX4_isWord 32 = .ok (.iload_n 2, 1) := by decide +kernel
theorem dX4_isWord_33 : decode cX4_isWord 33 = .ok (.ifCond .eq 36, 3) := by decide +kernel
theorem dX4_isWord_36 : decode cX4_isWord 36 = .ok (.aload_n 0, 1) := by decide +kernel
theorem dX4_isWord_37 : decode cX4_isWord 37 = .ok (.getfield 27, 3) := by decide +kernel
theorem dX4_isWord_40 : decode cX4_isWord 40 = .ok (.aload_n 0, 1) := by decide +kernel
theorem dX4_isWord_41 : decode cX4_isWord 41 = .ok (.getfield 15, 3) := by decide +kernel
theorem dX4_isWord_44 : decode cX4_isWord 44 = .ok (.iload_n 3, 1) := by decide +kernel
theorem dX4_isWord_45 : decode cX4_isWord 45 = .ok (.iadd, 1) := by decide +kernel
theorem dX4_isWord_46 : decode cX4_isWord 46 = .ok (.invokevirtual 134, 3) := by decide +kernel
theorem dX4_isWord_49 : decode cX4_isWord 49 = .ok (.aload_n 1, 1) := by decide +kernel
theorem dX4_isWord_50 : decode cX4_isWord 50 = .ok (.iload_n 3, 1) := by decide +kernel
theorem dX4_isWord_51 : decode cX4_isWord 51 = .ok (.invokevirtual 155, 3) := by decide +kernel
theorem dX4_isWord_54 : decode cX4_isWord 54 = .ok (.if_icmp .ne 7, 3) := by decide +kernel
theorem dX4_isWord_57 : decode cX4_isWord 57 = .ok (.iconst 1, 1) := by decide +kernel
theorem dX4_isWord_58 : decode cX4_isWord 58 = .ok (.goto 4, 3) := by decide +kernel
theorem dX4_isWord_61 : decode cX4_isWord 61 = .ok (.iconst 0, 1) := by decide +kernel
theorem dX4_isWord_62 : decode cX4_isWord 62 = .ok (.istore_n 2, 1) := by decide +kernel
theorem dX4_isWord_63 : decode cX4_isWord 63 = .ok (.iinc 3 1, 3) := by decide +kernel
theorem dX4_isWord_66 : decode cX4_isWord 66 = .ok (.goto (-42), 3) := by decide +kernel
theorem dX4_isWord_69 : decode cX4_isWord 69 = .ok (.iload_n 2, 1) := by decide +kernel
theorem dX4_isWord_70 : decode cX4_isWord 70 = .ok (.ireturn, 1) := by decide +kernel
theorem dX4_methodWord_0 : decode cX4_methodWord 0 = .ok (.aload_n 0, 1) := by decide +kernel
theorem dX4_methodWord_1 : decode cX4_methodWord 1 = .ok (.ldc 159, 2) := by decide +kernel
theorem dX4_methodWord_3 : decode cX4_methodWord 3 = .ok (.invokevirtual 40, 3) := by decide +kernel
theorem dX4_methodWord_6 : decode cX4_methodWord 6 = .ok (.ifCond .eq 5, 3) := by decide +kernel
theorem dX4_methodWord_9 : decode cX4_methodWord 9 = .ok (.iconst 0, 1) := by decide +kernel
theorem dX4_methodWord_10 : decode cX4_methodWord 10 = .ok (.ireturn, 1) := by decide +kernel
theorem dX4_methodWord_11 : decode cX4_methodWord 11 = .ok (.aload_n 0, 1) := by decide +kernel
theorem dX4_methodWord_12 : decode cX4_methodWord 12 = .ok (.ldc 161, 2) := by decide +kernel
theorem dX4_methodWord_14 : decode cX4_methodWord 14 = .ok (.invokevirtual 40, 3) := by decide +kernel
theorem dX4_methodWord_17 : decode cX4_methodWord 17 = .ok (.ifCond .eq 5, 3) := by decide +kernel
theorem dX4_methodWord_20 : decode cX4_methodWord 20 = .ok (.iconst 1, 1) := by decide +kernel
theorem dX4_methodWord_21 : decode cX4_methodWord 21 = .ok (.ireturn, 1) := by decide +kernel
theorem dX4_methodWord_22 : decode cX4_methodWord 22 = .ok (.aload_n 0, 1) := by decide +kernel
theorem dX4_methodWord_23 : decode cX4_methodWord 23 = .ok (.ldc 163, 2) := by decide +kernel
theorem dX4_methodWord_25 : decode cX4_methodWord 25 = .ok (.invokevirtual 40, 3) := by decide +kernel
theorem dX4_methodWord_28 : decode cX4_methodWord 28 = .ok (.ifCond .eq 7, 3) := by decide +kernel
theorem dX4_methodWord_31 : decode cX4_methodWord 31 = .ok (.iconst 2, 1) := by decide +kernel
theorem dX4_methodWord_32 : decode cX4_methodWord 32 = .ok (.goto 4, 3) := by decide +kernel
theorem dX4_methodWord_35 : decode cX4_methodWord 35 = .ok (.iconst (-1), 1) := by decide +kernel
theorem dX4_methodWord_36 : decode cX4_methodWord 36 = .ok (.ireturn, 1) := by decide +kernel
theorem dX4_numberValue_0 : decode cX4_numberValue 0 = .ok (.iconst 0, 1) := by decide +kernel
theorem dX4_numberValue_1 : decode cX4_numberValue 1 = .ok (.istore_n 1, 1) := by decide +kernel
theorem dX4_numberValue_2 : decode cX4_numberValue 2 = .ok (.aload_n 0, 1) := by decide +kernel
theorem dX4_numberValue_3 : decode cX4_numberValue 3 = .ok (.getfield 15, 3) := by decide +kernel
theorem dX4_numberValue_6 : decode cX4_numberValue 6 = .ok (.istore_n 2, 1) := by decide +kernel
theorem dX4_numberValue_7 : decode cX4_numberValue 7 = .ok (.iload_n 2, 1) := by decide +kernel
theorem dX4_numberValue_8 : decode cX4_numberValue 8 = .ok (.aload_n 0, 1) := by decide +kernel
theorem dX4_numberValue_9 : decode cX4_numberValue 9 = .ok (.getfield 18, 3) := by decide +kernel
theorem dX4_numberValue_12 : decode cX4_numberValue 12 = .ok (.if_icmp .ge 22, 3) := by decide +kernel
theorem dX4_numberValue_15 : decode cX4_numberValue 15 = .ok (.iload_n 1, 1) := by decide +kernel
theorem dX4_numberValue_16 : decode cX4_numberValue 16 = .ok (.aload_n 0, 1) := by decide +kernel
theorem dX4_numberValue_17 : decode cX4_numberValue 17 = .ok (.getfield 27, 3) := by decide +kernel
theorem dX4_numberValue_20 : decode cX4_numberValue 20 = .ok (.iload_n 2, 1) := by decide +kernel
theorem dX4_numberValue_21 : decode cX4_numberValue 21 = .ok (.invokevirtual 134, 3) := by decide +kernel
theorem dX4_numberValue_24 : decode cX4_numberValue 24 = .ok (.invokestatic 165, 3) := by decide +kernel
theorem dX4_numberValue_27 : decode cX4_numberValue 27 = .ok (.istore_n 1, 1) := by decide +kernel
theorem dX4_numberValue_28 : decode cX4_numberValue 28 = .ok (.iinc 2 1, 3) := by decide +kernel
theorem dX4_numberValue_31 : decode cX4_numberValue 31 = .ok (.goto (-24), 3) := by decide +kernel
theorem dX4_numberValue_34 : decode cX4_numberValue 34 = .ok (.iload_n 1, 1) := by decide +kernel
theorem dX4_numberValue_35 : decode cX4_numberValue 35 = .ok (.ireturn, 1) := by decide +kernel
theorem dX5_init_0 : decode cX5_init 0 = .ok (.aload_n 0, 1) := by decide +kernel
theorem dX5_init_1 : decode cX5_init 1 = .ok (.invokespecial 3, 3) := by decide +kernel
theorem dX5_init_4 : decode cX5_init 4 = .ok (.aload_n 0, 1) := by decide +kernel
theorem dX5_init_5 : decode cX5_init 5 = .ok (.bipush 27, 2) := by decide +kernel
theorem dX5_init_7 : decode cX5_init 7 = .ok (.newarray .int, 2) := by decide +kernel
theorem dX5_init_9 : decode cX5_init 9 = .ok (.putfield 9, 3) := by decide +kernel
theorem dX5_init_12 : decode cX5_init 12 = .ok (.aload_n 0, 1) := by decide +kernel
theorem dX5_init_13 : decode cX5_init 13 = .ok (.bipush 27, 2) := by decide +kernel
theorem dX5_init_15 : decode cX5_init 15 = .ok (.newarray .int, 2) := by decide +kernel
theorem dX5_init_17 : decode cX5_init 17 = .ok (.putfield 15, 3) := by decide +kernel
theorem dX5_init_20 : decode cX5_init 20 = .ok (.aload_n 0, 1) := by decide +kernel
theorem dX5_init_21 : decode cX5_init 21 = .ok (.iconst 0, 1) := by decide +kernel
theorem dX5_init_22 : decode cX5_init 22 = .ok (.putfield 18, 3) := by decide +kernel
theorem dX5_init_25 : decode cX5_init 25 = .ok (.aload_n 0, 1) := by decide +kernel
theorem dX5_init_26 : decode cX5_init 26 = .ok (.iconst 0, 1) := by decide +kernel
theorem dX5_init_27 : decode cX5_init 27 = .ok (.putfield 22, 3) := by decide +kernel
theorem dX5_init_30 : decode cX5_init 30 = .ok (.return_, 1) := by decide +kernel
theorem dX5_fill_0 : decode cX5_fill 0 = .ok (.aload_n 0, 1) := by decide +kernel
theorem dX5_fill_1 : decode cX5_fill 1 = .ok (.iconst 0, 1) := by decide +kernel
theorem dX5_fill_2 : decode cX5_fill 2 = .ok (.putfield 18, 3) := by decide +kernel
theorem dX5_fill_5 : decode cX5_fill 5 = .ok (.aload_n 0, 1) := by decide +kernel
theorem dX5_fill_6 : decode cX5_fill 6 = .ok (.iconst 0, 1) := by decide +kernel
theorem dX5_fill_7 : decode cX5_fill 7 = .ok (.putfield 22, 3) := by decide +kernel
theorem dX5_fill_10 : decode cX5_fill 10 = .ok (.iload_n 2, 1) := by decide +kernel
theorem dX5_fill_11 : decode cX5_fill 11 = .ok (.iload_n 3, 1) := by decide +kernel
theorem dX5_fill_12 : decode cX5_fill 12 = .ok (.invokestatic 25, 3) := by decide +kernel
theorem dX5_fill_15 : decode cX5_fill 15 = .ok (.istore 4, 2) := by decide +kernel
theorem dX5_fill_17 : decode cX5_fill 17 = .ok (.iload 4, 2) := by decide +kernel
theorem dX5_fill_19 : decode cX5_fill 19 = .ok (.ifCond .lt 21, 3) := by decide +kernel
theorem dX5_fill_22 : decode cX5_fill 22 = .ok (.aload_n 0, 1) := by decide +kernel
theorem dX5_fill_23 : decode cX5_fill 23 = .ok (.aload_n 1, 1) := by decide +kernel
theorem dX5_fill_24 : decode cX5_fill 24 = .ok (.iload 4, 2) := by decide +kernel
theorem dX5_fill_26 : decode cX5_fill 26 = .ok (.iload_n 2, 1) := by decide +kernel
theorem dX5_fill_27 : decode cX5_fill 27 = .ok (.iload_n 3, 1) := by decide +kernel
theorem dX5_fill_28 : decode cX5_fill 28 = .ok (.invokestatic 29, 3) := by decide +kernel
theorem dX5_fill_31 : decode cX5_fill 31 = .ok (.invokevirtual 33, 3) := by decide +kernel
theorem dX5_fill_34 : decode cX5_fill 34 = .ok (.iinc 4 (-1), 3) := by decide +kernel
theorem dX5_fill_37 : decode cX5_fill 37 = .ok (.goto (-20), 3) := by decide +kernel
theorem dX5_fill_40 : decode cX5_fill 40 = .ok (.aload_n 0, 1) := by decide +kernel
theorem dX5_fill_41 : decode cX5_fill 41 = .ok (.getfield 18, 3) := by decide +kernel
theorem dX5_fill_44 : decode cX5_fill 44 = .ok (.istore 4, 2) := by decide +kernel
theorem dX5_fill_46 : decode cX5_fill 46 = .ok (.iconst 0, 1) := by decide +kernel
theorem dX5_fill_47 : decode cX5_fill 47 = .ok (.istore 5, 2) := by decide +kernel
theorem dX5_fill_49 : decode cX5_fill 49 = .ok (.iload 5, 2) := by decide +kernel
theorem dX5_fill_51 : decode cX5_fill 51 = .ok (.bipush 27, 2) := by decide +kernel
theorem dX5_fill_53 : decode cX5_fill 53 = .ok (.if_icmp .ge 18, 3) := by decide +kernel
theorem dX5_fill_56 : decode cX5_fill 56 = .ok (.aload_n 0, 1) := by decide +kernel
theorem dX5_fill_57 : decode cX5_fill 57 = .ok (.iload 4, 2) := by decide +kernel
theorem dX5_fill_59 : decode cX5_fill 59 = .ok (.iload 5, 2) := by decide +kernel
theorem dX5_fill_61 : decode cX5_fill 61 = .ok (.iconst 0, 1) := by decide +kernel
theorem dX5_fill_62 : decode cX5_fill 62 = .ok (.invokevirtual 37, 3) := by decide +kernel
theorem dX5_fill_65 : decode cX5_fill 65 = .ok (.iinc 5 1, 3) := by decide +kernel
theorem dX5_fill_68 : decode cX5_fill 68 = .ok (.goto (-19), 3) := by decide +kernel
theorem dX5_fill_71 : decode cX5_fill 71 = .ok (.return_, 1) := by decide +kernel
theorem dX5_appendOrder_0 : decode cX5_appendOrder 0 = .ok (.aload_n 0, 1) := by decide +kernel
theorem dX5_appendOrder_1 : decode cX5_appendOrder 1 = .ok (.getfield 18, 3) := by decide +kernel
theorem dX5_appendOrder_4 : decode cX5_appendOrder 4 = .ok (.istore_n 3, 1) := by decide +kernel
theorem dX5_appendOrder_5 : decode cX5_appendOrder 5 = .ok (.aload_n 1, 1) := by decide +kernel
theorem dX5_appendOrder_6 : decode cX5_appendOrder 6 = .ok (.iload_n 2, 1) := by decide +kernel
theorem dX5_appendOrder_7 : decode cX5_appendOrder 7 = .ok (.invokevirtual 41, 3) := by decide +kernel
theorem dX5_appendOrder_10 : decode cX5_appendOrder 10 = .ok (.istore 4, 2) := by decide +kernel
theorem dX5_appendOrder_12 : decode cX5_appendOrder 12 = .ok (.iload 4, 2) := by decide +kernel
theorem dX5_appendOrder_14 : decode cX5_appendOrder 14 = .ok (.aload_n 1, 1) := by decide +kernel
theorem dX5_appendOrder_15 : decode cX5_appendOrder 15 = .ok (.getfield 47, 3) := by decide +kernel
theorem dX5_appendOrder_18 : decode cX5_appendOrder 18 = .ok (.if_icmp .ge 44, 3) := by decide +kernel
theorem dX5_appendOrder_21 : decode cX5_appendOrder 21 = .ok (.aload_n 1, 1) := by decide +kernel
theorem dX5_appendOrder_22 : decode cX5_appendOrder 22 = .ok (.getfield 48, 3) := by decide +kernel
theorem dX5_appendOrder_25 : decode cX5_appendOrder 25 = .ok (.iload 4, 2) := by decide +kernel
theorem dX5_appendOrder_27 : decode cX5_appendOrder 27 = .ok (.iaload, 1) := by decide +kernel
theorem dX5_appendOrder_28 : decode cX5_appendOrder 28 = .ok (.iload_n 2, 1) := by decide +kernel
theorem dX5_appendOrder_29 : decode cX5_appendOrder 29 = .ok (.bipush 27, 2) := by decide +kernel
theorem dX5_appendOrder_31 : decode cX5_appendOrder 31 = .ok (.iadd, 1) := by decide +kernel
theorem dX5_appendOrder_32 : decode cX5_appendOrder 32 = .ok (.if_icmp .ge 30, 3) := by decide +kernel
theorem dX5_appendOrder_35 : decode cX5_appendOrder 35 = .ok (.aload_n 0, 1) := by decide +kernel
theorem dX5_appendOrder_36 : decode cX5_appendOrder 36 = .ok (.iload_n 3, 1) := by decide +kernel
theorem dX5_appendOrder_37 : decode cX5_appendOrder 37 = .ok (.aload_n 1, 1) := by decide +kernel
theorem dX5_appendOrder_38 : decode cX5_appendOrder 38 = .ok (.getfield 48, 3) := by decide +kernel
theorem dX5_appendOrder_41 : decode cX5_appendOrder 41 = .ok (.iload 4, 2) := by decide +kernel
theorem dX5_appendOrder_43 : decode cX5_appendOrder 43 = .ok (.iaload, 1) := by decide +kernel
theorem dX5_appendOrder_44 : decode cX5_appendOrder 44 = .ok (.iload_n 2, 1) := by decide +kernel
theorem dX5_appendOrder_45 : decode cX5_appendOrder 45 = .ok (.isub, 1) := by decide +kernel
theorem dX5_appendOrder_46 : decode cX5_appendOrder 46 = .ok (.aload_n 1, 1) := by decide +kernel
theorem dX5_appendOrder_47 : decode cX5_appendOrder 47 = .ok (.getfield 51, 3) := by decide +kernel
theorem dX5_appendOrder_50 : decode cX5_appendOrder 50 = .ok (.iload 4, 2) := by decide +kernel
theorem dX5_appendOrder_52 : decode cX5_appendOrder 52 = .ok (.iaload, 1) := by decide +kernel
theorem dX5_appendOrder_53 : decode cX5_appendOrder 53 = .ok (.invokevirtual 37, 3) := by decide +kernel
theorem dX5_appendOrder_56 : decode cX5_appendOrder 56 = .ok (.iinc 4 1, 3) := by decide +kernel
theorem dX5_appendOrder_59 : decode cX5_appendOrder 59 = .ok (.goto (-47), 3) := by decide +kernel
theorem dX5_appendOrder_62 : decode cX5_appendOrder 62 = .ok (.return_, 1) := by decide +kernel
theorem dX5_insert_0 : decode cX5_insert 0 = .ok (.iconst 1, 1) := by decide +kernel
theorem dX5_insert_1 : decode cX5_insert 1 = .ok (.iload_n 2, 1) := by decide +kernel
theorem dX5_insert_2 : decode cX5_insert 2 = .ok (.ishl, 1) := by decide +kernel
theorem dX5_insert_3 : decode cX5_insert 3 = .ok (.istore 4, 2) := by decide +kernel
theorem dX5_insert_5 : decode cX5_insert 5 = .ok (.aload_n 0, 1) := by decide +kernel
theorem dX5_insert_6 : decode cX5_insert 6 = .ok (.getfield 22, 3) := by decide +kernel
theorem dX5_insert_9 : decode cX5_insert 9 = .ok (.iload 4, 2) := by decide +kernel
theorem dX5_insert_11 : decode cX5_insert 11 = .ok (.iand, 1) := by decide +kernel
theorem dX5_insert_12 : decode cX5_insert 12 = .ok (.ifCond .ne 12, 3) := by decide +kernel
theorem dX5_insert_15 : decode cX5_insert 15 = .ok (.aload_n 0, 1) := by decide +kernel
theorem dX5_insert_16 : decode cX5_insert 16 = .ok (.getfield 18, 3) := by decide +kernel
theorem dX5_insert_19 : decode cX5_insert 19 = .ok (.bipush 27, 2) := by decide +kernel
theorem dX5_insert_21 : decode cX5_insert 21 = .ok (.if_icmp .lt 4, 3) := by decide +kernel
theorem dX5_insert_24 : decode cX5_insert 24 = .ok (.return_, 1) := by decide +kernel
theorem dX5_insert_25 : decode cX5_insert 25 = .ok (.aload_n 0, 1) := by decide +kernel
theorem dX5_insert_26 : decode cX5_insert 26 = .ok (.getfield 18, 3) := by decide +kernel
theorem dX5_insert_29 : decode cX5_insert 29 = .ok (.istore 5, 2) := by decide +kernel
theorem dX5_insert_31 : decode cX5_insert 31 = .ok (.iload 5, 2) := by decide +kernel
theorem dX5_insert_33 : decode cX5_insert 33 = .ok (.iload_n 1, 1) := by decide +kernel
theorem dX5_insert_34 : decode cX5_insert 34 = .ok (.if_icmp .le 54, 3) := by decide +kernel
theorem dX5_insert_37 : decode cX5_insert 37 = .ok (.aload_n 0, 1) := by decide +kernel
theorem dX5_insert_38 : decode cX5_insert 38 = .ok (.getfield 15, 3) := by decide +kernel
theorem dX5_insert_41 : decode cX5_insert 41 = .ok (.iload 5, 2) := by decide +kernel
theorem dX5_insert_43 : decode cX5_insert 43 = .ok (.iconst 1, 1) := by decide +kernel
theorem dX5_insert_44 : decode cX5_insert 44 = .ok (.isub, 1) := by decide +kernel
theorem dX5_insert_45 : decode cX5_insert 45 = .ok (.iaload, 1) := by decide +kernel
theorem dX5_insert_46 : decode cX5_insert 46 = .ok (.iload_n 3, 1) := by decide +kernel
theorem dX5_insert_47 : decode cX5_insert 47 = .ok (.if_icmp .ge 41, 3) := by decide +kernel
theorem dX5_insert_50 : decode cX5_insert 50 = .ok (.aload_n 0, 1) := by decide +kernel
theorem dX5_insert_51 : decode cX5_insert 51 = .ok (.getfield 9, 3) := by decide +kernel
theorem dX5_insert_54 : decode cX5_insert 54 = .ok (.iload 5, 2) := by decide +kernel
theorem dX5_insert_56 : decode cX5_insert 56 = .ok (.aload_n 0, 1) := by decide +kernel
theorem dX5_insert_57 : decode cX5_insert 57 = .ok (.getfield 9, 3) := by decide +kernel
theorem dX5_insert_60 : decode cX5_insert 60 = .ok (.iload 5, 2) := by decide +kernel
theorem dX5_insert_62 : decode cX5_insert 62 = .ok (.iconst 1, 1) := by decide +kernel
theorem dX5_insert_63 : decode cX5_insert 63 = .ok (.isub, 1) := by decide +kernel
theorem dX5_insert_64 : decode cX5_insert 64 = .ok (.iaload, 1) := by decide +kernel
theorem dX5_insert_65 : decode cX5_insert 65 = .ok (.iastore, 1) := by decide +kernel
theorem dX5_insert_66 : decode cX5_insert 66 = .ok (.aload_n 0, 1) := by decide +kernel
theorem dX5_insert_67 : decode cX5_insert 67 = .ok (.getfield 15, 3) := by decide +kernel
theorem dX5_insert_70 : decode cX5_insert 70 = .ok (.iload 5, 2) := by decide +kernel
theorem dX5_insert_72 : decode cX5_insert 72 = .ok (.aload_n 0, 1) := by decide +kernel
theorem dX5_insert_73 : decode cX5_insert 73 = .ok (.getfield 15, 3) := by decide +kernel
theorem dX5_insert_76 : decode cX5_insert 76 = .ok (.iload 5, 2) := by decide +kernel
theorem dX5_insert_78 : decode cX5_insert 78 = .ok (.iconst 1, 1) := by decide +kernel
theorem dX5_insert_79 : decode cX5_insert 79 = .ok (.isub, 1) := by decide +kernel
theorem dX5_insert_80 : decode cX5_insert 80 = .ok (.iaload, 1) := by decide +kernel
theorem dX5_insert_81 : decode cX5_insert 81 = .ok (.iastore, 1) := by decide +kernel
theorem dX5_insert_82 : decode cX5_insert 82 = .ok (.iinc 5 (-1), 3) := by decide +kernel
theorem dX5_insert_85 : decode cX5_insert 85 = .ok (.goto (-54), 3) := by decide +kernel
theorem dX5_insert_88 : decode cX5_insert 88 = .ok (.aload_n 0, 1) := by decide +kernel
theorem dX5_insert_89 : decode cX5_insert 89 = .ok (.getfield 9, 3) := by decide +kernel
theorem dX5_insert_92 : decode cX5_insert 92 = .ok (.iload 5, 2) := by decide +kernel
theorem dX5_insert_94 : decode cX5_insert 94 = .ok (.iload_n 2, 1) := by decide +kernel
theorem dX5_insert_95 : decode cX5_insert 95 = .ok (.iastore, 1) := by decide +kernel
theorem dX5_insert_96 : decode cX5_insert 96 = .ok (.aload_n 0, 1) := by decide +kernel
theorem dX5_insert_97 : decode cX5_insert 97 = .ok (.getfield 15, 3) := by decide +kernel
theorem dX5_insert_100 : decode cX5_insert 100 = .ok (.iload 5, 2) := by decide +kernel
theorem dX5_insert_102 : decode cX5_insert 102 = .ok (.iload_n 3, 1) := by decide +kernel
theorem dX5_insert_103 : decode cX5_insert 103 = .ok (.iastore, 1) := by decide +kernel
theorem dX5_insert_104 : decode cX5_insert 104 = .ok (.aload_n 0, 1) := by decide +kernel
theorem dX5_insert_105 : decode cX5_insert 105 = .ok (.dup, 1) := by decide +kernel
theorem dX5_insert_106 : decode cX5_insert 106 = .ok (.getfield 22, 3) := by decide +kernel
theorem dX5_insert_109 : decode cX5_insert 109 = .ok (.iload 4, 2) := by decide +kernel
theorem dX5_insert_111 : decode cX5_insert 111 = .ok (.ior, 1) := by decide +kernel
theorem dX5_insert_112 : decode cX5_insert 112 = .ok (.putfield 22, 3) := by decide +kernel
theorem dX5_insert_115 : decode cX5_insert 115 = .ok (.aload_n 0, 1) := by decide +kernel
theorem dX5_insert_116 : decode cX5_insert 116 = .ok (.dup, 1) := by decide +kernel
theorem dX5_insert_117 : decode cX5_insert 117 = .ok (.getfield 18, 3) := by decide +kernel
theorem dX5_insert_120 : decode cX5_insert 120 = .ok (.iconst 1, 1) := by decide +kernel
theorem dX5_insert_121 : decode cX5_insert 121 = .ok (.iadd, 1) := by decide +kernel
theorem dX5_insert_122 : decode cX5_insert 122 = .ok (.putfield 18, 3) := by decide +kernel
theorem dX5_insert_125 : decode cX5_insert 125 = .ok (.return_, 1) := by decide +kernel
theorem dX5_guess_0 : decode cX5_guess 0 = .ok (.iload_n 1, 1) := by decide +kernel
theorem dX5_guess_1 : decode cX5_guess 1 = .ok (.iconst 1, 1) := by decide +kernel
theorem dX5_guess_2 : decode cX5_guess 2 = .ok (.if_icmp .lt 22, 3) := by decide +kernel
theorem dX5_guess_5 : decode cX5_guess 5 = .ok (.iload_n 1, 1) := by decide +kernel
theorem dX5_guess_6 : decode cX5_guess 6 = .ok (.aload_n 0, 1) := by decide +kernel
theorem dX5_guess_7 : decode cX5_guess 7 = .ok (.getfield 18, 3) := by decide +kernel
theorem dX5_guess_10 : decode cX5_guess 10 = .ok (.if_icmp .gt 14, 3) := by decide +kernel
theorem dX5_guess_13 : decode cX5_guess 13 = .ok (.aload_n 0, 1) := by decide +kernel
theorem dX5_guess_14 : decode cX5_guess 14 = .ok (.getfield 9, 3) := by decide +kernel
theorem dX5_guess_17 : decode cX5_guess 17 = .ok (.iload_n 1, 1) := by decide +kernel
theorem dX5_guess_18 : decode cX5_guess 18 = .ok (.iconst 1, 1) := by decide +kernel
theorem dX5_guess_19 : decode cX5_guess 19 = .ok (.isub, 1) := by decide +kernel
theorem dX5_guess_20 : decode cX5_guess 20 = .ok (.iaload, 1) := by decide +kernel
theorem dX5_guess_21 : decode cX5_guess 21 = .ok (.goto 4, 3) := by decide +kernel
theorem dX5_guess_24 : decode cX5_guess 24 = .ok (.iconst (-1), 1) := by decide +kernel
theorem dX5_guess_25 : decode cX5_guess 25 = .ok (.ireturn, 1) := by decide +kernel
theorem dX5_guessesUntil_0 : decode cX5_guessesUntil 0 = .ok (.iconst 0, 1) := by decide +kernel
theorem dX5_guessesUntil_1 : decode cX5_guessesUntil 1 = .ok (.istore_n 2, 1) := by decide +kernel
theorem dX5_guessesUntil_2 : decode cX5_guessesUntil 2 = .ok (.iload_n 2, 1) := by decide +kernel
theorem dX5_guessesUntil_3 : decode cX5_guessesUntil 3 = .ok (.aload_n 0, 1) := by decide +kernel
theorem dX5_guessesUntil_4 : decode cX5_guessesUntil 4 = .ok (.getfield 18, 3) := by decide +kernel
theorem dX5_guessesUntil_7 : decode cX5_guessesUntil 7 = .ok (.if_icmp .ge 23, 3) := by decide +kernel
theorem dX5_guessesUntil_10 : decode cX5_guessesUntil 10 = .ok (.aload_n 0, 1) := by decide +kernel
theorem dX5_guessesUntil_11 : decode cX5_guessesUntil 11 = .ok (.getfield 9, 3) := by decide +kernel
theorem dX5_guessesUntil_14 : decode cX5_guessesUntil 14 = .ok (.iload_n 2, 1) := by decide +kernel
theorem dX5_guessesUntil_15 : decode cX5_guessesUntil 15 = .ok (.iaload, 1) := by decide +kernel
theorem dX5_guessesUntil_16 : decode cX5_guessesUntil 16 = .ok (.iload_n 1, 1) := by decide +kernel
theorem dX5_guessesUntil_17 : decode cX5_guessesUntil 17 = .ok (.if_icmp .ne 7, 3) := by decide +kernel
theorem dX5_guessesUntil_20 : decode cX5_guessesUntil 20 = .ok (.iload_n 2, 1) := by decide +kernel
theorem dX5_guessesUntil_21 : decode cX5_guessesUntil 21 = .ok (.iconst 1, 1) := by decide +kernel
theorem dX5_guessesUntil_22 : decode cX5_guessesUntil 22 = .ok (.iadd, 1) := by decide +kernel
theorem dX5_guessesUntil_23 : decode cX5_guessesUntil 23 = .ok (.ireturn, 1) := by decide +kernel
theorem dX5_guessesUntil_24 : decode cX5_guessesUntil 24 = .ok (.iinc 2 1, 3) := by decide +kernel
theorem dX5_guessesUntil_27 : decode cX5_guessesUntil 27 = .ok (.goto (-25), 3) := by decide +kernel
theorem dX5_guessesUntil_30 : decode cX5_guessesUntil 30 = .ok (.aload_n 0, 1) := by decide +kernel
theorem dX5_guessesUntil_31 : decode cX5_guessesUntil 31 = .ok (.getfield 18, 3) := by decide +kernel
theorem dX5_guessesUntil_34 : decode cX5_guessesUntil 34 = .ok (.ireturn, 1) := by decide +kernel
theorem dX6_init_0 : decode cX6_init 0 = .ok (.aload_n 0, 1) := by decide +kernel
theorem dX6_init_1 : decode cX6_init 1 = .ok (.invokespecial 3, 3) := by decide +kernel
theorem dX6_init_4 : decode cX6_init 4 = .ok (.aload_n 0, 1) := by decide +kernel
theorem dX6_init_5 : decode cX6_init 5 = .ok (.iconst 4, 1) := by decide +kernel
theorem dX6_init_6 : decode cX6_init 6 = .ok (.newarray .int, 2) := by decide +kernel
theorem dX6_init_8 : decode cX6_init 8 = .ok (.putfield 9, 3) := by decide +kernel
theorem dX6_init_11 : decode cX6_init 11 = .ok (.aload_n 0, 1) := by decide +kernel
theorem dX6_init_12 : decode cX6_init 12 = .ok (.iconst 0, 1) := by decide +kernel
theorem dX6_init_13 : decode cX6_init 13 = .ok (.putfield 15, 3) := by decide +kernel
theorem dX6_init_16 : decode cX6_init 16 = .ok (.aload_n 0, 1) := by decide +kernel
theorem dX6_init_17 : decode cX6_init 17 = .ok (.iconst 0, 1) := by decide +kernel
theorem dX6_init_18 : decode cX6_init 18 = .ok (.putfield 19, 3) := by decide +kernel
theorem dX6_init_21 : decode cX6_init 21 = .ok (.aload_n 0, 1) := by decide +kernel
theorem dX6_init_22 : decode cX6_init 22 = .ok (.new 22, 3) := by decide +kernel
theorem dX6_init_25 : decode cX6_init 25 = .ok (.dup, 1) := by decide +kernel
theorem dX6_init_26 : decode cX6_init 26 = .ok (.invokespecial 24, 3) := by decide +kernel
theorem dX6_init_29 : decode cX6_init 29 = .ok (.putfield 25, 3) := by decide +kernel
theorem dX6_init_32 : decode cX6_init 32 = .ok (.aload_n 0, 1) := by decide +kernel
theorem dX6_init_33 : decode cX6_init 33 = .ok (.iconst 0, 1) := by decide +kernel
theorem dX6_init_34 : decode cX6_init 34 = .ok (.putfield 29, 3) := by decide +kernel
theorem dX6_init_37 : decode cX6_init 37 = .ok (.aload_n 0, 1) := by decide +kernel
theorem dX6_init_38 : decode cX6_init 38 = .ok (.bipush 8, 2) := by decide +kernel
theorem dX6_init_40 : decode cX6_init 40 = .ok (.newarray .int, 2) := by decide +kernel
theorem dX6_init_42 : decode cX6_init 42 = .ok (.putfield 32, 3) := by decide +kernel
theorem dX6_init_45 : decode cX6_init 45 = .ok (.return_, 1) := by decide +kernel
theorem dX6_copyFrom_0 : decode cX6_copyFrom 0 = .ok (.aload_n 1, 1) := by decide +kernel
theorem dX6_copyFrom_1 : decode cX6_copyFrom 1 = .ok (.getfield 9, 3) := by decide +kernel
theorem dX6_copyFrom_4 : decode cX6_copyFrom 4 = .ok (.iconst 0, 1) := by decide +kernel
theorem dX6_copyFrom_5 : decode cX6_copyFrom 5 = .ok (.aload_n 0, 1) := by decide +kernel
theorem dX6_copyFrom_6 : decode cX6_copyFrom 6 = .ok (.getfield 9, 3) := by decide +kernel
theorem dX6_copyFrom_9 : decode cX6_copyFrom 9 = .ok (.iconst 0, 1) := by decide +kernel
theorem dX6_copyFrom_10 : decode cX6_copyFrom 10 = .ok (.iconst 4, 1) := by decide +kernel
theorem dX6_copyFrom_11 : decode cX6_copyFrom 11 = .ok (.invokestatic 35, 3) := by decide +kernel
theorem dX6_copyFrom_14 : decode cX6_copyFrom 14 = .ok (.aload_n 0, 1) := by decide +kernel
theorem dX6_copyFrom_15 : decode cX6_copyFrom 15 = .ok (.aload_n 1, 1) := by decide +kernel
theorem dX6_copyFrom_16 : decode cX6_copyFrom 16 = .ok (.getfield 15, 3) := by decide +kernel
theorem dX6_copyFrom_19 : decode cX6_copyFrom 19 = .ok (.putfield 15, 3) := by decide +kernel
theorem dX6_copyFrom_22 : decode cX6_copyFrom 22 = .ok (.aload_n 0, 1) := by decide +kernel
theorem dX6_copyFrom_23 : decode cX6_copyFrom 23 = .ok (.aload_n 1, 1) := by decide +kernel
theorem dX6_copyFrom_24 : decode cX6_copyFrom 24 = .ok (.getfield 19, 3) := by decide +kernel
theorem dX6_copyFrom_27 : decode cX6_copyFrom 27 = .ok (.putfield 19, 3) := by decide +kernel
theorem dX6_copyFrom_30 : decode cX6_copyFrom 30 = .ok (.aload_n 0, 1) := by decide +kernel
theorem dX6_copyFrom_31 : decode cX6_copyFrom 31 = .ok (.getfield 25, 3) := by decide +kernel
theorem dX6_copyFrom_34 : decode cX6_copyFrom 34 = .ok (.aload_n 1, 1) := by decide +kernel
theorem dX6_copyFrom_35 : decode cX6_copyFrom 35 = .ok (.getfield 25, 3) := by decide +kernel
theorem dX6_copyFrom_38 : decode cX6_copyFrom 38 = .ok (.invokevirtual 41, 3) := by decide +kernel
theorem dX6_copyFrom_41 : decode cX6_copyFrom 41 = .ok (.aload_n 0, 1) := by decide +kernel
theorem dX6_copyFrom_42 : decode cX6_copyFrom 42 = .ok (.aload_n 1, 1) := by decide +kernel
theorem dX6_copyFrom_43 : decode cX6_copyFrom 43 = .ok (.getfield 29, 3) := by decide +kernel
theorem dX6_copyFrom_46 : decode cX6_copyFrom 46 = .ok (.putfield 29, 3) := by decide +kernel
theorem dX6_copyFrom_49 : decode cX6_copyFrom 49 = .ok (.aload_n 1, 1) := by decide +kernel
theorem dX6_copyFrom_50 : decode cX6_copyFrom 50 = .ok (.getfield 32, 3) := by decide +kernel
theorem dX6_copyFrom_53 : decode cX6_copyFrom 53 = .ok (.iconst 0, 1) := by decide +kernel
theorem dX6_copyFrom_54 : decode cX6_copyFrom 54 = .ok (.aload_n 0, 1) := by decide +kernel
theorem dX6_copyFrom_55 : decode cX6_copyFrom 55 = .ok (.getfield 32, 3) := by decide +kernel
theorem dX6_copyFrom_58 : decode cX6_copyFrom 58 = .ok (.iconst 0, 1) := by decide +kernel
theorem dX6_copyFrom_59 : decode cX6_copyFrom 59 = .ok (.bipush 8, 2) := by decide +kernel
theorem dX6_copyFrom_61 : decode cX6_copyFrom 61 = .ok (.invokestatic 35, 3) := by decide +kernel
theorem dX6_copyFrom_64 : decode cX6_copyFrom 64 = .ok (.return_, 1) := by decide +kernel
theorem dX6_begin_0 : decode cX6_begin 0 = .ok (.aload_n 0, 1) := by decide +kernel
theorem dX6_begin_1 : decode cX6_begin 1 = .ok (.iconst 0, 1) := by decide +kernel
theorem dX6_begin_2 : decode cX6_begin 2 = .ok (.putfield 15, 3) := by decide +kernel
theorem dX6_begin_5 : decode cX6_begin 5 = .ok (.iload_n 2, 1) := by decide +kernel
theorem dX6_begin_6 : decode cX6_begin 6 = .ok (.istore 5, 2) := by decide +kernel
theorem dX6_begin_8 : decode cX6_begin 8 = .ok (.iload 5, 2) := by decide +kernel
theorem dX6_begin_10 : decode cX6_begin 10 = .ok (.iload_n 3, 1) := by decide +kernel
theorem dX6_begin_11 : decode cX6_begin 11 = .ok (.if_icmp .ge 42, 3) := by decide +kernel
theorem dX6_begin_14 : decode cX6_begin 14 = .ok (.aload_n 0, 1) := by decide +kernel
theorem dX6_begin_15 : decode cX6_begin 15 = .ok (.getfield 15, 3) := by decide +kernel
theorem dX6_begin_18 : decode cX6_begin 18 = .ok (.iconst 4, 1) := by decide +kernel
theorem dX6_begin_19 : decode cX6_begin 19 = .ok (.if_icmp .ge 34, 3) := by decide +kernel
theorem dX6_begin_22 : decode cX6_begin 22 = .ok (.aload_n 0, 1) := by decide +kernel
theorem dX6_begin_23 : decode cX6_begin 23 = .ok (.getfield 9, 3) := by decide +kernel
theorem dX6_begin_26 : decode cX6_begin 26 = .ok (.aload_n 0, 1) := by decide +kernel
theorem dX6_begin_27 : decode cX6_begin 27 = .ok (.getfield 15, 3) := by decide +kernel
theorem dX6_begin_30 : decode cX6_begin 30 = .ok (.aload_n 1, 1) := by decide +kernel
theorem dX6_begin_31 : decode cX6_begin 31 = .ok (.iload 5, 2) := by decide +kernel
theorem dX6_begin_33 : decode cX6_begin 33 = .ok (.invokevirtual 45, 3) := by decide +kernel
theorem dX6_begin_36 : decode cX6_begin 36 = .ok (.iastore, 1) := by decide +kernel
theorem dX6_begin_37 : decode cX6_begin 37 = .ok (.aload_n 0, 1) := by decide +kernel
theorem dX6_begin_38 : decode cX6_begin 38 = .ok (.dup, 1) := by decide +kernel
theorem dX6_begin_39 : decode cX6_begin 39 = .ok (.getfield 15, 3) := by decide +kernel
theorem dX6_begin_42 : decode cX6_begin 42 = .ok (.iconst 1, 1) := by decide +kernel
theorem dX6_begin_43 : decode cX6_begin 43 = .ok (.iadd, 1) := by decide +kernel
theorem dX6_begin_44 : decode cX6_begin 44 = .ok (.putfield 15, 3) := by decide +kernel
theorem dX6_begin_47 : decode cX6_begin 47 = .ok (.iinc 5 1, 3) := by decide +kernel
theorem dX6_begin_50 : decode cX6_begin 50 = .ok (.goto (-42), 3) := by decide +kernel
theorem dX6_begin_53 : decode cX6_begin 53 = .ok (.aload_n 0, 1) := by decide +kernel
theorem dX6_begin_54 : decode cX6_begin 54 = .ok (.iload 4, 2) := by decide +kernel
theorem dX6_begin_56 : decode cX6_begin 56 = .ok (.putfield 19, 3) := by decide +kernel
theorem dX6_begin_59 : decode cX6_begin 59 = .ok (.aload_n 0, 1) := by decide +kernel
theorem dX6_begin_60 : decode cX6_begin 60 = .ok (.invokevirtual 51, 3) := by decide +kernel
theorem dX6_begin_63 : decode cX6_begin 63 = .ok (.return_, 1) := by decide +kernel
theorem dX6_clearTrainings_0 : decode cX6_clearTrainings 0 = .ok (.aload_n 0, 1) := by decide +kernel
theorem dX6_clearTrainings_1 : decode cX6_clearTrainings 1 = .ok (.getfield 25, 3) := by decide +kernel
theorem dX6_clearTrainings_4 : decode cX6_clearTrainings 4 = .ok (.iconst 0, 1) := by decide +kernel
theorem dX6_clearTrainings_5 : decode cX6_clearTrainings 5 = .ok (.putfield 54, 3) := by decide +kernel
theorem dX6_clearTrainings_8 : decode cX6_clearTrainings 8 = .ok (.aload_n 0, 1) := by decide +kernel
theorem dX6_clearTrainings_9 : decode cX6_clearTrainings 9 = .ok (.iconst 0, 1) := by decide +kernel
theorem dX6_clearTrainings_10 : decode cX6_clearTrainings 10 = .ok (.putfield 29, 3) := by decide +kernel
theorem dX6_clearTrainings_13 : decode cX6_clearTrainings 13 = .ok (.iconst 0, 1) := by decide +kernel
theorem dX6_clearTrainings_14 : decode cX6_clearTrainings 14 = .ok (.istore_n 1, 1) := by decide +kernel
theorem dX6_clearTrainings_15 : decode cX6_clearTrainings 15 = .ok (.iload_n 1, 1) := by decide +kernel
theorem dX6_clearTrainings_16 : decode cX6_clearTrainings 16 = .ok (.bipush 8, 2) := by decide +kernel
theorem dX6_clearTrainings_18 : decode cX6_clearTrainings 18 = .ok (.if_icmp .ge 16, 3) := by decide +kernel
theorem dX6_clearTrainings_21 : decode cX6_clearTrainings 21 = .ok (.aload_n 0, 1) := by decide +kernel
theorem dX6_clearTrainings_22 : decode cX6_clearTrainings 22 = .ok (.getfield 32, 3) := by decide +kernel
theorem dX6_clearTrainings_25 : decode cX6_clearTrainings 25 = .ok (.iload_n 1, 1) := by decide +kernel
theorem dX6_clearTrainings_26 : decode cX6_clearTrainings 26 = .ok (.iconst 0, 1) := by decide +kernel
theorem dX6_clearTrainings_27 : decode cX6_clearTrainings 27 = .ok (.iastore, 1) := by decide +kernel
theorem dX6_clearTrainings_28 : decode cX6_clearTrainings 28 = .ok (.iinc 1 1, 3) := by decide +kernel
theorem dX6_clearTrainings_31 : decode cX6_clearTrainings 31 = .ok (.goto (-16), 3) := by decide +kernel
theorem dX6_clearTrainings_34 : decode cX6_clearTrainings 34 = .ok (.return_, 1) := by decide +kernel
theorem dX6_nameAt_0 : decode cX6_nameAt 0 = .ok (.iload_n 1, 1) := by decide +kernel
theorem dX6_nameAt_1 : decode cX6_nameAt 1 = .ok (.ifCond .lt 20, 3) := by decide +kernel
theorem dX6_nameAt_4 : decode cX6_nameAt 4 = .ok (.iload_n 1, 1) := by decide +kernel
theorem dX6_nameAt_5 : decode cX6_nameAt 5 = .ok (.aload_n 0, 1) := by decide +kernel
theorem dX6_nameAt_6 : decode cX6_nameAt 6 = .ok (.getfield 15, 3) := by decide +kernel
theorem dX6_nameAt_9 : decode cX6_nameAt 9 = .ok (.if_icmp .ge 12, 3) := by decide +kernel
theorem dX6_nameAt_12 : decode cX6_nameAt 12 = .ok (.aload_n 0, 1) := by decide +kernel
theorem dX6_nameAt_13 : decode cX6_nameAt 13 = .ok (.getfield 9, 3) := by decide +kernel
theorem dX6_nameAt_16 : decode cX6_nameAt 16 = .ok (.iload_n 1, 1) := by decide +kernel
theorem dX6_nameAt_17 : decode cX6_nameAt 17 = .ok (.iaload, 1) := by decide +kernel
theorem dX6_nameAt_18 : decode cX6_nameAt 18 = .ok (.goto 4, 3) := by decide +kernel
theorem dX6_nameAt_21 : decode cX6_nameAt 21 = .ok (.iconst (-1), 1) := by decide +kernel
theorem dX6_nameAt_22 : decode cX6_nameAt 22 = .ok (.ireturn, 1) := by decide +kernel
theorem dX6_isNamed_0 : decode cX6_isNamed 0 = .ok (.iload_n 3, 1) := by decide +kernel
theorem dX6_isNamed_1 : decode cX6_isNamed 1 = .ok (.iload_n 2, 1) := by decide +kernel
theorem dX6_isNamed_2 : decode cX6_isNamed 2 = .ok (.isub, 1) := by decide +kernel
theorem dX6_isNamed_3 : decode cX6_isNamed 3 = .ok (.aload_n 0, 1) := by decide +kernel
theorem dX6_isNamed_4 : decode cX6_isNamed 4 = .ok (.getfield 15, 3) := by decide +kernel
theorem dX6_isNamed_7 : decode cX6_isNamed 7 = .ok (.if_icmp .ne 7, 3) := by decide +kernel
theorem dX6_isNamed_10 : decode cX6_isNamed 10 = .ok (.iconst 1, 1) := by decide +kernel
theorem dX6_isNamed_11 : decode cX6_isNamed 11 = .ok (.goto 4, 3) := by decide +kernel
theorem dX6_isNamed_14 : decode cX6_isNamed 14 = .ok (.iconst 0, 1) := by decide +kernel
theorem dX6_isNamed_15 : decode cX6_isNamed 15 = .ok (.istore 4, 2) := by decide +kernel
theorem dX6_isNamed_17 : decode cX6_isNamed 17 = .ok (.iconst 0, 1) := by decide +kernel
theorem dX6_isNamed_18 : decode cX6_isNamed 18 = .ok (.istore 5, 2) := by decide +kernel
theorem dX6_isNamed_20 : decode cX6_isNamed 20 = .ok (.iload 5, 2) := by decide +kernel
theorem dX6_isNamed_22 : decode cX6_isNamed 22 = .ok (.aload_n 0, 1) := by decide +kernel
theorem dX6_isNamed_23 : decode cX6_isNamed 23 = .ok (.getfield 15, 3) := by decide +kernel
theorem dX6_isNamed_26 : decode cX6_isNamed 26 = .ok (.if_icmp .ge 38, 3) := by decide +kernel
theorem dX6_isNamed_29 : decode cX6_isNamed 29 = .ok (.iload 4, 2) := by decide +kernel
theorem dX6_isNamed_31 : decode cX6_isNamed 31 = .ok (.ifCond .eq 33, 3) := by decide +kernel
theorem dX6_isNamed_34 : decode cX6_isNamed 34 = .ok (.aload_n 0, 1) := by decide +kernel
theorem dX6_isNamed_35 : decode cX6_isNamed 35 = .ok (.iload 5, 2) := by decide +kernel
theorem dX6_isNamed_37 : decode cX6_isNamed 37 = .ok (.invokevirtual 57, 3) := by decide +kernel
theorem dX6_isNamed_40 : decode cX6_isNamed 40 = .ok (.aload_n 1, 1) := by decide +kernel
theorem dX6_isNamed_41 : decode cX6_isNamed 41 = .ok (.iload_n 2, 1) := by decide +kernel
theorem dX6_isNamed_42 : decode cX6_isNamed 42 = .ok (.iload 5, 2) := by decide +kernel
theorem dX6_isNamed_44 : decode cX6_isNamed 44 = .ok (.iadd, 1) := by decide +kernel
theorem dX6_isNamed_45 : decode cX6_isNamed 45 = .ok (.invokevirtual 45, 3) := by decide +kernel
theorem dX6_isNamed_48 : decode cX6_isNamed 48 = .ok (.if_icmp .ne 7, 3) := by decide +kernel
theorem dX6_isNamed_51 : decode cX6_isNamed 51 = .ok (.iconst 1, 1) := by decide +kernel
theorem dX6_isNamed_52 : decode cX6_isNamed 52 = .ok (.goto 4, 3) := by decide +kernel
theorem dX6_isNamed_55 : decode cX6_isNamed 55 = .ok (.iconst 0, 1) := by decide +kernel
theorem dX6_isNamed_56 : decode cX6_isNamed 56 = .ok (.istore 4, 2) := by decide +kernel
theorem dX6_isNamed_58 : decode cX6_isNamed 58 = .ok (.iinc 5 1, 3) := by decide +kernel
theorem dX6_isNamed_61 : decode cX6_isNamed 61 = .ok (.goto (-41), 3) := by decide +kernel
theorem dX6_isNamed_64 : decode cX6_isNamed 64 = .ok (.iload 4, 2) := by decide +kernel
theorem dX6_isNamed_66 : decode cX6_isNamed 66 = .ok (.ireturn, 1) := by decide +kernel
theorem dX6_trainingsOn_0 : decode cX6_trainingsOn 0 = .ok (.iload_n 1, 1) := by decide +kernel
theorem dX6_trainingsOn_1 : decode cX6_trainingsOn 1 = .ok (.ifCond .lt 18, 3) := by decide +kernel
theorem dX6_trainingsOn_4 : decode cX6_trainingsOn 4 = .ok (.iload_n 1, 1) := by decide +kernel
theorem dX6_trainingsOn_5 : decode cX6_trainingsOn 5 = .ok (.bipush 8, 2) := by decide +kernel
theorem dX6_trainingsOn_7 : decode cX6_trainingsOn 7 = .ok (.if_icmp .ge 12, 3) := by decide +kernel
theorem dX6_trainingsOn_10 : decode cX6_trainingsOn 10 = .ok (.aload_n 0, 1) := by decide +kernel
theorem dX6_trainingsOn_11 : decode cX6_trainingsOn 11 = .ok (.getfield 32, 3) := by decide +kernel
theorem dX6_trainingsOn_14 : decode cX6_trainingsOn 14 = .ok (.iload_n 1, 1) := by decide +kernel
theorem dX6_trainingsOn_15 : decode cX6_trainingsOn 15 = .ok (.iaload, 1) := by decide +kernel
theorem dX6_trainingsOn_16 : decode cX6_trainingsOn 16 = .ok (.goto 4, 3) := by decide +kernel
theorem dX6_trainingsOn_19 : decode cX6_trainingsOn 19 = .ok (.iconst 0, 1) := by decide +kernel
theorem dX6_trainingsOn_20 : decode cX6_trainingsOn 20 = .ok (.ireturn, 1) := by decide +kernel
theorem dX6_recordTraining_0 : decode cX6_recordTraining 0 = .ok (.iload_n 1, 1) := by decide +kernel
theorem dX6_recordTraining_1 : decode cX6_recordTraining 1 = .ok (.ifCond .lt 29, 3) := by decide +kernel
theorem dX6_recordTraining_4 : decode cX6_recordTraining 4 = .ok (.iload_n 1, 1) := by decide +kernel
theorem dX6_recordTraining_5 : decode cX6_recordTraining 5 = .ok (.bipush 8, 2) := by decide +kernel
theorem dX6_recordTraining_7 : decode cX6_recordTraining 7 = .ok (.if_icmp .ge 23, 3) := by decide +kernel
theorem dX6_recordTraining_10 : decode cX6_recordTraining 10 = .ok (.aload_n 0, 1) := by decide +kernel
theorem dX6_recordTraining_11 : decode cX6_recordTraining 11 = .ok (.getfield 32, 3) := by decide +kernel
theorem dX6_recordTraining_14 : decode cX6_recordTraining 14 = .ok (.iload_n 1, 1) := by decide +kernel
theorem dX6_recordTraining_15 : decode cX6_recordTraining 15 = .ok (.dup2, 1) := by decide +kernel
theorem dX6_recordTraining_16 : decode cX6_recordTraining 16 = .ok (.iaload, 1) := by decide +kernel
theorem dX6_recordTraining_17 : decode cX6_recordTraining 17 = .ok (.iconst 1, 1) := by decide +kernel
theorem dX6_recordTraining_18 : decode cX6_recordTraining 18 = .ok (.iadd, 1) := by decide +kernel
theorem dX6_recordTraining_19 : decode cX6_recordTraining 19 = .ok (.iastore, 1) := by decide +kernel
theorem dX6_recordTraining_20 : decode cX6_recordTraining 20 = .ok (.aload_n 0, 1) := by decide +kernel
theorem dX6_recordTraining_21 : decode cX6_recordTraining 21 = .ok (.dup, 1) := by decide +kernel
theorem dX6_recordTraining_22 : decode cX6_recordTraining 22 = .ok (.getfield 29, 3) := by decide +kernel
theorem dX6_recordTraining_25 : decode cX6_recordTraining 25 = .ok (.iload_n 2, 1) := by decide +kernel
theorem dX6_recordTraining_26 : decode cX6_recordTraining 26 = .ok (.iadd, 1) := by decide +kernel
theorem dX6_recordTraining_27 : decode cX6_recordTraining 27 = .ok (.putfield 29, 3) := by decide +kernel
theorem dX6_recordTraining_30 : decode cX6_recordTraining 30 = .ok (.return_, 1) := by decide +kernel
theorem dX6_takeIn_0 : decode cX6_takeIn 0 = .ok (.aload_n 0, 1) := by decide +kernel
theorem dX6_takeIn_1 : decode cX6_takeIn 1 = .ok (.getfield 25, 3) := by decide +kernel
theorem dX6_takeIn_4 : decode cX6_takeIn 4 = .ok (.aload_n 1, 1) := by decide +kernel
theorem dX6_takeIn_5 : decode cX6_takeIn 5 = .ok (.getfield 25, 3) := by decide +kernel
theorem dX6_takeIn_8 : decode cX6_takeIn 8 = .ok (.invokevirtual 60, 3) := by decide +kernel
theorem dX6_takeIn_11 : decode cX6_takeIn 11 = .ok (.aload_n 0, 1) := by decide +kernel
theorem dX6_takeIn_12 : decode cX6_takeIn 12 = .ok (.dup, 1) := by decide +kernel
theorem dX6_takeIn_13 : decode cX6_takeIn 13 = .ok (.getfield 29, 3) := by decide +kernel
theorem dX6_takeIn_16 : decode cX6_takeIn 16 = .ok (.aload_n 1, 1) := by decide +kernel
theorem dX6_takeIn_17 : decode cX6_takeIn 17 = .ok (.getfield 29, 3) := by decide +kernel
theorem dX6_takeIn_20 : decode cX6_takeIn 20 = .ok (.iadd, 1) := by decide +kernel
theorem dX6_takeIn_21 : decode cX6_takeIn 21 = .ok (.putfield 29, 3) := by decide +kernel
theorem dX6_takeIn_24 : decode cX6_takeIn 24 = .ok (.iconst 0, 1) := by decide +kernel
theorem dX6_takeIn_25 : decode cX6_takeIn 25 = .ok (.istore_n 2, 1) := by decide +kernel
theorem dX6_takeIn_26 : decode cX6_takeIn 26 = .ok (.iload_n 2, 1) := by decide +kernel
theorem dX6_takeIn_27 : decode cX6_takeIn 27 = .ok (.bipush 8, 2) := by decide +kernel
theorem dX6_takeIn_29 : decode cX6_takeIn 29 = .ok (.if_icmp .ge 24, 3) := by decide +kernel
theorem dX6_takeIn_32 : decode cX6_takeIn 32 = .ok (.aload_n 0, 1) := by decide +kernel
theorem dX6_takeIn_33 : decode cX6_takeIn 33 = .ok (.getfield 32, 3) := by decide +kernel
theorem dX6_takeIn_36 : decode cX6_takeIn 36 = .ok (.iload_n 2, 1) := by decide +kernel
theorem dX6_takeIn_37 : decode cX6_takeIn 37 = .ok (.dup2, 1) := by decide +kernel
theorem dX6_takeIn_38 : decode cX6_takeIn 38 = .ok (.iaload, 1) := by decide +kernel
theorem dX6_takeIn_39 : decode cX6_takeIn 39 = .ok (.aload_n 1, 1) := by decide +kernel
theorem dX6_takeIn_40 : decode cX6_takeIn 40 = .ok (.getfield 32, 3) := by decide +kernel
theorem dX6_takeIn_43 : decode cX6_takeIn 43 = .ok (.iload_n 2, 1) := by decide +kernel
theorem dX6_takeIn_44 : decode cX6_takeIn 44 = .ok (.iaload, 1) := by decide +kernel
theorem dX6_takeIn_45 : decode cX6_takeIn 45 = .ok (.iadd, 1) := by decide +kernel
theorem dX6_takeIn_46 : decode cX6_takeIn 46 = .ok (.iastore, 1) := by decide +kernel
theorem dX6_takeIn_47 : decode cX6_takeIn 47 = .ok (.iinc 2 1, 3) := by decide +kernel
theorem dX6_takeIn_50 : decode cX6_takeIn 50 = .ok (.goto (-24), 3) := by decide +kernel
theorem dX6_takeIn_53 : decode cX6_takeIn 53 = .ok (.return_, 1) := by decide +kernel
theorem dX7_init_0 : decode cX7_init 0 = .ok (.aload_n 0, 1) := by decide +kernel
theorem dX7_init_1 : decode cX7_init 1 = .ok (.invokespecial 3, 3) := by decide +kernel
theorem dX7_init_4 : decode cX7_init 4 = .ok (.aload_n 0, 1) := by decide +kernel
theorem dX7_init_5 : decode cX7_init 5 = .ok (.iconst 4, 1) := by decide +kernel
theorem dX7_init_6 : decode cX7_init 6 = .ok (.anewarray 9, 3) := by decide +kernel
theorem dX7_init_9 : decode cX7_init 9 = .ok (.putfield 11, 3) := by decide +kernel
theorem dX7_init_12 : decode cX7_init 12 = .ok (.aload_n 0, 1) := by decide +kernel
theorem dX7_init_13 : decode cX7_init 13 = .ok (.iconst 0, 1) := by decide +kernel
theorem dX7_init_14 : decode cX7_init 14 = .ok (.putfield 17, 3) := by decide +kernel
theorem dX7_init_17 : decode cX7_init 17 = .ok (.aload_n 0, 1) := by decide +kernel
theorem dX7_init_18 : decode cX7_init 18 = .ok (.bipush 8, 2) := by decide +kernel
theorem dX7_init_20 : decode cX7_init 20 = .ok (.anewarray 21, 3) := by decide +kernel
theorem dX7_init_23 : decode cX7_init 23 = .ok (.putfield 23, 3) := by decide +kernel
theorem dX7_init_26 : decode cX7_init 26 = .ok (.aload_n 0, 1) := by decide +kernel
theorem dX7_init_27 : decode cX7_init 27 = .ok (.iconst 0, 1) := by decide +kernel
theorem dX7_init_28 : decode cX7_init 28 = .ok (.putfield 27, 3) := by decide +kernel
theorem dX7_init_31 : decode cX7_init 31 = .ok (.aload_n 0, 1) := by decide +kernel
theorem dX7_init_32 : decode cX7_init 32 = .ok (.iconst 0, 1) := by decide +kernel
theorem dX7_init_33 : decode cX7_init 33 = .ok (.putfield 30, 3) := by decide +kernel
theorem dX7_init_36 : decode cX7_init 36 = .ok (.iconst 0, 1) := by decide +kernel
theorem dX7_init_37 : decode cX7_init 37 = .ok (.istore_n 1, 1) := by decide +kernel
theorem dX7_init_38 : decode cX7_init 38 = .ok (.iload_n 1, 1) := by decide +kernel
theorem dX7_init_39 : decode cX7_init 39 = .ok (.iconst 4, 1) := by decide +kernel
theorem dX7_init_40 : decode cX7_init 40 = .ok (.if_icmp .ge 22, 3) := by decide +kernel
theorem dX7_init_43 : decode cX7_init 43 = .ok (.aload_n 0, 1) := by decide +kernel
theorem dX7_init_44 : decode cX7_init 44 = .ok (.getfield 11, 3) := by decide +kernel
theorem dX7_init_47 : decode cX7_init 47 = .ok (.iload_n 1, 1) := by decide +kernel
theorem dX7_init_48 : decode cX7_init 48 = .ok (.new 9, 3) := by decide +kernel
theorem dX7_init_51 : decode cX7_init 51 = .ok (.dup, 1) := by decide +kernel
theorem dX7_init_52 : decode cX7_init 52 = .ok (.invokespecial 33, 3) := by decide +kernel
theorem dX7_init_55 : decode cX7_init 55 = .ok (.aastore, 1) := by decide +kernel
theorem dX7_init_56 : decode cX7_init 56 = .ok (.iinc 1 1, 3) := by decide +kernel
theorem dX7_init_59 : decode cX7_init 59 = .ok (.goto (-21), 3) := by decide +kernel
theorem dX7_init_62 : decode cX7_init 62 = .ok (.iconst 0, 1) := by decide +kernel
theorem dX7_init_63 : decode cX7_init 63 = .ok (.istore_n 1, 1) := by decide +kernel
theorem dX7_init_64 : decode cX7_init 64 = .ok (.iload_n 1, 1) := by decide +kernel
theorem dX7_init_65 : decode cX7_init 65 = .ok (.bipush 8, 2) := by decide +kernel
theorem dX7_init_67 : decode cX7_init 67 = .ok (.if_icmp .ge 22, 3) := by decide +kernel
theorem dX7_init_70 : decode cX7_init 70 = .ok (.aload_n 0, 1) := by decide +kernel
theorem dX7_init_71 : decode cX7_init 71 = .ok (.getfield 23, 3) := by decide +kernel
theorem dX7_init_74 : decode cX7_init 74 = .ok (.iload_n 1, 1) := by decide +kernel
theorem dX7_init_75 : decode cX7_init 75 = .ok (.new 21, 3) := by decide +kernel
theorem dX7_init_78 : decode cX7_init 78 = .ok (.dup, 1) := by decide +kernel
theorem dX7_init_79 : decode cX7_init 79 = .ok (.invokespecial 34, 3) := by decide +kernel
theorem dX7_init_82 : decode cX7_init 82 = .ok (.aastore, 1) := by decide +kernel
theorem dX7_init_83 : decode cX7_init 83 = .ok (.iinc 1 1, 3) := by decide +kernel
theorem dX7_init_86 : decode cX7_init 86 = .ok (.goto (-22), 3) := by decide +kernel
theorem dX7_init_89 : decode cX7_init 89 = .ok (.return_, 1) := by decide +kernel
theorem dX7_copyFrom_0 : decode cX7_copyFrom 0 = .ok (.aload_n 0, 1) := by decide +kernel
theorem dX7_copyFrom_1 : decode cX7_copyFrom 1 = .ok (.aload_n 1, 1) := by decide +kernel
theorem dX7_copyFrom_2 : decode cX7_copyFrom 2 = .ok (.getfield 17, 3) := by decide +kernel
theorem dX7_copyFrom_5 : decode cX7_copyFrom 5 = .ok (.putfield 17, 3) := by decide +kernel
theorem dX7_copyFrom_8 : decode cX7_copyFrom 8 = .ok (.iconst 0, 1) := by decide +kernel
theorem dX7_copyFrom_9 : decode cX7_copyFrom 9 = .ok (.istore_n 2, 1) := by decide +kernel
theorem dX7_copyFrom_10 : decode cX7_copyFrom 10 = .ok (.iload_n 2, 1) := by decide +kernel
theorem dX7_copyFrom_11 : decode cX7_copyFrom 11 = .ok (.aload_n 0, 1) := by decide +kernel
theorem dX7_copyFrom_12 : decode cX7_copyFrom 12 = .ok (.getfield 17, 3) := by decide +kernel
theorem dX7_copyFrom_15 : decode cX7_copyFrom 15 = .ok (.if_icmp .ge 29, 3) := by decide +kernel
theorem dX7_copyFrom_18 : decode cX7_copyFrom 18 = .ok (.iload_n 2, 1) := by decide +kernel
theorem dX7_copyFrom_19 : decode cX7_copyFrom 19 = .ok (.iconst 4, 1) := by decide +kernel
theorem dX7_copyFrom_20 : decode cX7_copyFrom 20 = .ok (.if_icmp .ge 24, 3) := by decide +kernel
theorem dX7_copyFrom_23 : decode cX7_copyFrom 23 = .ok (.aload_n 0, 1) := by decide +kernel
theorem dX7_copyFrom_24 : decode cX7_copyFrom 24 = .ok (.getfield 11, 3) := by decide +kernel
theorem dX7_copyFrom_27 : decode cX7_copyFrom 27 = .ok (.iload_n 2, 1) := by decide +kernel
theorem dX7_copyFrom_28 : decode cX7_copyFrom 28 = .ok (.aaload, 1) := by decide +kernel
theorem dX7_copyFrom_29 : decode cX7_copyFrom 29 = .ok (.aload_n 1, 1) := by decide +kernel
theorem dX7_copyFrom_30 : decode cX7_copyFrom 30 = .ok (.getfield 11, 3) := by decide +kernel
theorem dX7_copyFrom_33 : decode cX7_copyFrom 33 = .ok (.iload_n 2, 1) := by decide +kernel
theorem dX7_copyFrom_34 : decode cX7_copyFrom 34 = .ok (.aaload, 1) := by decide +kernel
theorem dX7_copyFrom_35 : decode cX7_copyFrom 35 = .ok (.invokevirtual 35, 3) := by decide +kernel
theorem dX7_copyFrom_38 : decode cX7_copyFrom 38 = .ok (.iinc 2 1, 3) := by decide +kernel
theorem dX7_copyFrom_41 : decode cX7_copyFrom 41 = .ok (.goto (-31), 3) := by decide +kernel
theorem dX7_copyFrom_44 : decode cX7_copyFrom 44 = .ok (.aload_n 0, 1) := by decide +kernel
theorem dX7_copyFrom_45 : decode cX7_copyFrom 45 = .ok (.aload_n 1, 1) := by decide +kernel
theorem dX7_copyFrom_46 : decode cX7_copyFrom 46 = .ok (.getfield 27, 3) := by decide +kernel
theorem dX7_copyFrom_49 : decode cX7_copyFrom 49 = .ok (.putfield 27, 3) := by decide +kernel
theorem dX7_copyFrom_52 : decode cX7_copyFrom 52 = .ok (.iconst 0, 1) := by decide +kernel
theorem dX7_copyFrom_53 : decode cX7_copyFrom 53 = .ok (.istore_n 2, 1) := by decide +kernel
theorem dX7_copyFrom_54 : decode cX7_copyFrom 54 = .ok (.iload_n 2, 1) := by decide +kernel
theorem dX7_copyFrom_55 : decode cX7_copyFrom 55 = .ok (.aload_n 0, 1) := by decide +kernel
theorem dX7_copyFrom_56 : decode cX7_copyFrom 56 = .ok (.getfield 27, 3) := by decide +kernel
theorem dX7_copyFrom_59 : decode cX7_copyFrom 59 = .ok (.if_icmp .ge 30, 3) := by decide +kernel
theorem dX7_copyFrom_62 : decode cX7_copyFrom 62 = .ok (.iload_n 2, 1) := by decide +kernel
theorem dX7_copyFrom_63 : decode cX7_copyFrom 63 = .ok (.bipush 8, 2) := by decide +kernel
theorem dX7_copyFrom_65 : decode cX7_copyFrom 65 = .ok (.if_icmp .ge 24, 3) := by decide +kernel
theorem dX7_copyFrom_68 : decode cX7_copyFrom 68 = .ok (.aload_n 0, 1) := by decide +kernel
theorem dX7_copyFrom_69 : decode cX7_copyFrom 69 = .ok (.getfield 23, 3) := by decide +kernel
theorem dX7_copyFrom_72 : decode cX7_copyFrom 72 = .ok (.iload_n 2, 1) := by decide +kernel
theorem dX7_copyFrom_73 : decode cX7_copyFrom 73 = .ok (.aaload, 1) := by decide +kernel
theorem dX7_copyFrom_74 : decode cX7_copyFrom 74 = .ok (.aload_n 1, 1) := by decide +kernel
theorem dX7_copyFrom_75 : decode cX7_copyFrom 75 = .ok (.getfield 23, 3) := by decide +kernel
theorem dX7_copyFrom_78 : decode cX7_copyFrom 78 = .ok (.iload_n 2, 1) := by decide +kernel
theorem dX7_copyFrom_79 : decode cX7_copyFrom 79 = .ok (.aaload, 1) := by decide +kernel
theorem dX7_copyFrom_80 : decode cX7_copyFrom 80 = .ok (.invokevirtual 39, 3) := by decide +kernel
theorem dX7_copyFrom_83 : decode cX7_copyFrom 83 = .ok (.iinc 2 1, 3) := by decide +kernel
theorem dX7_copyFrom_86 : decode cX7_copyFrom 86 = .ok (.goto (-32), 3) := by decide +kernel
theorem dX7_copyFrom_89 : decode cX7_copyFrom 89 = .ok (.aload_n 0, 1) := by decide +kernel
theorem dX7_copyFrom_90 : decode cX7_copyFrom 90 = .ok (.aload_n 1, 1) := by decide +kernel
theorem dX7_copyFrom_91 : decode cX7_copyFrom 91 = .ok (.getfield 30, 3) := by decide +kernel
theorem dX7_copyFrom_94 : decode cX7_copyFrom 94 = .ok (.putfield 30, 3) := by decide +kernel
theorem dX7_copyFrom_97 : decode cX7_copyFrom 97 = .ok (.return_, 1) := by decide +kernel
theorem dX7_clear_0 : decode cX7_clear 0 = .ok (.aload_n 0, 1) := by decide +kernel
theorem dX7_clear_1 : decode cX7_clear 1 = .ok (.iconst 0, 1) := by decide +kernel
theorem dX7_clear_2 : decode cX7_clear 2 = .ok (.putfield 17, 3) := by decide +kernel
theorem dX7_clear_5 : decode cX7_clear 5 = .ok (.aload_n 0, 1) := by decide +kernel
theorem dX7_clear_6 : decode cX7_clear 6 = .ok (.iconst 0, 1) := by decide +kernel
theorem dX7_clear_7 : decode cX7_clear 7 = .ok (.putfield 27, 3) := by decide +kernel
theorem dX7_clear_10 : decode cX7_clear 10 = .ok (.aload_n 0, 1) := by decide +kernel
theorem dX7_clear_11 : decode cX7_clear 11 = .ok (.iconst 0, 1) := by decide +kernel
theorem dX7_clear_12 : decode cX7_clear 12 = .ok (.putfield 30, 3) := by decide +kernel
theorem dX7_clear_15 : decode cX7_clear 15 = .ok (.return_, 1) := by decide +kernel
theorem dX7_readerNamed_0 : decode cX7_readerNamed 0 = .ok (.iconst 0, 1) := by decide +kernel
theorem dX7_readerNamed_1 : decode cX7_readerNamed 1 = .ok (.istore 4, 2) := by decide +kernel
theorem dX7_readerNamed_3 : decode cX7_readerNamed 3 = .ok (.iload 4, 2) := by decide +kernel
theorem dX7_readerNamed_5 : decode cX7_readerNamed 5 = .ok (.aload_n 0, 1) := by decide +kernel
theorem dX7_readerNamed_6 : decode cX7_readerNamed 6 = .ok (.getfield 17, 3) := by decide +kernel
theorem dX7_readerNamed_9 : decode cX7_readerNamed 9 = .ok (.if_icmp .ge 39, 3) := by decide +kernel
theorem dX7_readerNamed_12 : decode cX7_readerNamed 12 = .ok (.iload 4, 2) := by decide +kernel
theorem dX7_readerNamed_14 : decode cX7_readerNamed 14 = .ok (.iconst 4, 1) := by decide +kernel
theorem dX7_readerNamed_15 : decode cX7_readerNamed 15 = .ok (.if_icmp .ge 33, 3) := by decide +kernel
theorem dX7_readerNamed_18 : decode cX7_readerNamed 18 = .ok (.aload_n 0, 1) := by decide +kernel
theorem dX7_readerNamed_19 : decode cX7_readerNamed 19 = .ok (.getfield 11, 3) := by decide +kernel
theorem dX7_readerNamed_22 : decode cX7_readerNamed 22 = .ok (.iload 4, 2) := by decide +kernel
theorem dX7_readerNamed_24 : decode cX7_readerNamed 24 = .ok (.aaload, 1) := by decide +kernel
theorem dX7_readerNamed_25 : decode cX7_readerNamed 25 = .ok (.aload_n 1, 1) := by decide +kernel
theorem dX7_readerNamed_26 : decode cX7_readerNamed 26 = .ok (.iload_n 2, 1) := by decide +kernel
theorem dX7_readerNamed_27 : decode cX7_readerNamed 27 = .ok (.iload_n 3, 1) := by decide +kernel
theorem dX7_readerNamed_28 : decode cX7_readerNamed 28 = .ok (.invokevirtual 42, 3) := by decide +kernel
theorem dX7_readerNamed_31 : decode cX7_readerNamed 31 = .ok (.ifCond .eq 11, 3) := by decide +kernel
theorem dX7_readerNamed_34 : decode cX7_readerNamed 34 = .ok (.aload_n 0, 1) := by decide +kernel
theorem dX7_readerNamed_35 : decode cX7_readerNamed 35 = .ok (.getfield 11, 3) := by decide +kernel
theorem dX7_readerNamed_38 : decode cX7_readerNamed 38 = .ok (.iload 4, 2) := by decide +kernel
theorem dX7_readerNamed_40 : decode cX7_readerNamed 40 = .ok (.aaload, 1) := by decide +kernel
theorem dX7_readerNamed_41 : decode cX7_readerNamed 41 = .ok (.areturn, 1) := by decide +kernel
theorem dX7_readerNamed_42 : decode cX7_readerNamed 42 = .ok (.iinc 4 1, 3) := by decide +kernel
theorem dX7_readerNamed_45 : decode cX7_readerNamed 45 = .ok (.goto (-42), 3) := by decide +kernel
theorem dX7_readerNamed_48 : decode cX7_readerNamed 48 = .ok (.aconst_null, 1) := by decide +kernel
theorem dX7_readerNamed_49 : decode cX7_readerNamed 49 = .ok (.areturn, 1) := by decide +kernel
theorem dX7_readerAt_0 : decode cX7_readerAt 0 = .ok (.iload_n 1, 1) := by decide +kernel
theorem dX7_readerAt_1 : decode cX7_readerAt 1 = .ok (.ifCond .lt 20, 3) := by decide +kernel
theorem dX7_readerAt_4 : decode cX7_readerAt 4 = .ok (.iload_n 1, 1) := by decide +kernel
theorem dX7_readerAt_5 : decode cX7_readerAt 5 = .ok (.aload_n 0, 1) := by decide +kernel
theorem dX7_readerAt_6 : decode cX7_readerAt 6 = .ok (.getfield 17, 3) := by decide +kernel
theorem dX7_readerAt_9 : decode cX7_readerAt 9 = .ok (.if_icmp .ge 12, 3) := by decide +kernel
theorem dX7_readerAt_12 : decode cX7_readerAt 12 = .ok (.aload_n 0, 1) := by decide +kernel
theorem dX7_readerAt_13 : decode cX7_readerAt 13 = .ok (.getfield 11, 3) := by decide +kernel
theorem dX7_readerAt_16 : decode cX7_readerAt 16 = .ok (.iload_n 1, 1) := by decide +kernel
theorem dX7_readerAt_17 : decode cX7_readerAt 17 = .ok (.aaload, 1) := by decide +kernel
theorem dX7_readerAt_18 : decode cX7_readerAt 18 = .ok (.goto 4, 3) := by decide +kernel
theorem dX7_readerAt_21 : decode cX7_readerAt 21 = .ok (.aconst_null, 1) := by decide +kernel
theorem dX7_readerAt_22 : decode cX7_readerAt 22 = .ok (.areturn, 1) := by decide +kernel
theorem dX7_documentAt_0 : decode cX7_documentAt 0 = .ok (.iload_n 1, 1) := by decide +kernel
theorem dX7_documentAt_1 : decode cX7_documentAt 1 = .ok (.ifCond .lt 20, 3) := by decide +kernel
theorem dX7_documentAt_4 : decode cX7_documentAt 4 = .ok (.iload_n 1, 1) := by decide +kernel
theorem dX7_documentAt_5 : decode cX7_documentAt 5 = .ok (.aload_n 0, 1) := by decide +kernel
theorem dX7_documentAt_6 : decode cX7_documentAt 6 = .ok (.getfield 27, 3) := by decide +kernel
theorem dX7_documentAt_9 : decode cX7_documentAt 9 = .ok (.if_icmp .ge 12, 3) := by decide +kernel
theorem dX7_documentAt_12 : decode cX7_documentAt 12 = .ok (.aload_n 0, 1) := by decide +kernel
theorem dX7_documentAt_13 : decode cX7_documentAt 13 = .ok (.getfield 23, 3) := by decide +kernel
theorem dX7_documentAt_16 : decode cX7_documentAt 16 = .ok (.iload_n 1, 1) := by decide +kernel
theorem dX7_documentAt_17 : decode cX7_documentAt 17 = .ok (.aaload, 1) := by decide +kernel
theorem dX7_documentAt_18 : decode cX7_documentAt 18 = .ok (.goto 4, 3) := by decide +kernel
theorem dX7_documentAt_21 : decode cX7_documentAt 21 = .ok (.aconst_null, 1) := by decide +kernel
theorem dX7_documentAt_22 : decode cX7_documentAt 22 = .ok (.areturn, 1) := by decide +kernel
theorem dX7_putReader_0 : decode cX7_putReader 0 = .ok (.aload_n 0, 1) := by decide +kernel
theorem dX7_putReader_1 : decode cX7_putReader 1 = .ok (.getfield 17, 3) := by decide +kernel
theorem dX7_putReader_4 : decode cX7_putReader 4 = .ok (.iconst 4, 1) := by decide +kernel
theorem dX7_putReader_5 : decode cX7_putReader 5 = .ok (.if_icmp .ge 30, 3) := by decide +kernel
theorem dX7_putReader_8 : decode cX7_putReader 8 = .ok (.aload_n 0, 1) := by decide +kernel
theorem dX7_putReader_9 : decode cX7_putReader 9 = .ok (.getfield 11, 3) := by decide +kernel
theorem dX7_putReader_12 : decode cX7_putReader 12 = .ok (.aload_n 0, 1) := by decide +kernel
theorem dX7_putReader_13 : decode cX7_putReader 13 = .ok (.getfield 17, 3) := by decide +kernel
theorem dX7_putReader_16 : decode cX7_putReader 16 = .ok (.aaload, 1) := by decide +kernel
theorem dX7_putReader_17 : decode cX7_putReader 17 = .ok (.aload_n 1, 1) := by decide +kernel
theorem dX7_putReader_18 : decode cX7_putReader 18 = .ok (.iload_n 2, 1) := by decide +kernel
theorem dX7_putReader_19 : decode cX7_putReader 19 = .ok (.iload_n 3, 1) := by decide +kernel
theorem dX7_putReader_20 : decode cX7_putReader 20 = .ok (.iload 4, 2) := by decide +kernel
theorem dX7_putReader_22 : decode cX7_putReader 22 = .ok (.invokevirtual 46, 3) := by decide +kernel
theorem dX7_putReader_25 : decode cX7_putReader 25 = .ok (.aload_n 0, 1) := by decide +kernel
theorem dX7_putReader_26 : decode cX7_putReader 26 = .ok (.dup, 1) := by decide +kernel
theorem dX7_putReader_27 : decode cX7_putReader 27 = .ok (.getfield 17, 3) := by decide +kernel
theorem dX7_putReader_30 : decode cX7_putReader 30 = .ok (.iconst 1, 1) := by decide +kernel
theorem dX7_putReader_31 : decode cX7_putReader 31 = .ok (.iadd, 1) := by decide +kernel
theorem dX7_putReader_32 : decode cX7_putReader 32 = .ok (.putfield 17, 3) := by decide +kernel
theorem dX7_putReader_35 : decode cX7_putReader 35 = .ok (.return_, 1) := by decide +kernel
theorem dX7_putDocument_0 : decode cX7_putDocument 0 = .ok (.aload_n 0, 1) := by decide +kernel
theorem dX7_putDocument_1 : decode cX7_putDocument 1 = .ok (.getfield 27, 3) := by decide +kernel
theorem dX7_putDocument_4 : decode cX7_putDocument 4 = .ok (.bipush 8, 2) := by decide +kernel
theorem dX7_putDocument_6 : decode cX7_putDocument 6 = .ok (.if_icmp .ge 32, 3) := by decide +kernel
theorem dX7_putDocument_9 : decode cX7_putDocument 9 = .ok (.aload_n 0, 1) := by decide +kernel
theorem dX7_putDocument_10 : decode cX7_putDocument 10 = .ok (.getfield 23, 3) := by decide +kernel
theorem dX7_putDocument_13 : decode cX7_putDocument 13 = .ok (.aload_n 0, 1) := by decide +kernel
theorem dX7_putDocument_14 : decode cX7_putDocument 14 = .ok (.getfield 27, 3) := by decide +kernel
theorem dX7_putDocument_17 : decode cX7_putDocument 17 = .ok (.aaload, 1) := by decide +kernel
theorem dX7_putDocument_18 : decode cX7_putDocument 18 = .ok (.aload_n 1, 1) := by decide +kernel
theorem dX7_putDocument_19 : decode cX7_putDocument 19 = .ok (.iload_n 2, 1) := by decide +kernel
theorem dX7_putDocument_20 : decode cX7_putDocument 20 = .ok (.iload_n 3, 1) := by decide +kernel
theorem dX7_putDocument_21 : decode cX7_putDocument 21 = .ok (.aload_n 0, 1) := by decide +kernel
theorem dX7_putDocument_22 : decode cX7_putDocument 22 = .ok (.getfield 30, 3) := by decide +kernel
theorem dX7_putDocument_25 : decode cX7_putDocument 25 = .ok (.invokevirtual 50, 3) := by decide +kernel
theorem dX7_putDocument_28 : decode cX7_putDocument 28 = .ok (.aload_n 0, 1) := by decide +kernel
theorem dX7_putDocument_29 : decode cX7_putDocument 29 = .ok (.dup, 1) := by decide +kernel
theorem dX7_putDocument_30 : decode cX7_putDocument 30 = .ok (.getfield 27, 3) := by decide +kernel
theorem dX7_putDocument_33 : decode cX7_putDocument 33 = .ok (.iconst 1, 1) := by decide +kernel
theorem dX7_putDocument_34 : decode cX7_putDocument 34 = .ok (.iadd, 1) := by decide +kernel
theorem dX7_putDocument_35 : decode cX7_putDocument 35 = .ok (.putfield 27, 3) := by decide +kernel
theorem dX7_putDocument_38 : decode cX7_putDocument 38 = .ok (.return_, 1) := by decide +kernel
theorem dX7_passYear_0 : decode cX7_passYear 0 = .ok (.iconst 0, 1) := by decide +kernel
theorem dX7_passYear_1 : decode cX7_passYear 1 = .ok (.istore_n 1, 1) := by decide +kernel
theorem dX7_passYear_2 : decode cX7_passYear 2 = .ok (.iload_n 1, 1) := by decide +kernel
theorem dX7_passYear_3 : decode cX7_passYear 3 = .ok (.aload_n 0, 1) := by decide +kernel
theorem dX7_passYear_4 : decode cX7_passYear 4 = .ok (.getfield 17, 3) := by decide +kernel
theorem dX7_passYear_7 : decode cX7_passYear 7 = .ok (.if_icmp .ge 26, 3) := by decide +kernel
theorem dX7_passYear_10 : decode cX7_passYear 10 = .ok (.iload_n 1, 1) := by decide +kernel
theorem dX7_passYear_11 : decode cX7_passYear 11 = .ok (.iconst 4, 1) := by decide +kernel
theorem dX7_passYear_12 : decode cX7_passYear 12 = .ok (.if_icmp .ge 21, 3) := by decide +kernel
theorem dX7_passYear_15 : decode cX7_passYear 15 = .ok (.aload_n 0, 1) := by decide +kernel
theorem dX7_passYear_16 : decode cX7_passYear 16 = .ok (.getfield 11, 3) := by decide +kernel
theorem dX7_passYear_19 : decode cX7_passYear 19 = .ok (.iload_n 1, 1) := by decide +kernel
theorem dX7_passYear_20 : decode cX7_passYear 20 = .ok (.aaload, 1) := by decide +kernel
theorem dX7_passYear_21 : decode cX7_passYear 21 = .ok (.getfield 53, 3) := by decide +kernel
theorem dX7_passYear_24 : decode cX7_passYear 24 = .ok (.invokevirtual 57, 3) := by decide +kernel
theorem dX7_passYear_27 : decode cX7_passYear 27 = .ok (.iinc 1 1, 3) := by decide +kernel
theorem dX7_passYear_30 : decode cX7_passYear 30 = .ok (.goto (-28), 3) := by decide +kernel
theorem dX7_passYear_33 : decode cX7_passYear 33 = .ok (.aload_n 0, 1) := by decide +kernel
theorem dX7_passYear_34 : decode cX7_passYear 34 = .ok (.dup, 1) := by decide +kernel
theorem dX7_passYear_35 : decode cX7_passYear 35 = .ok (.getfield 30, 3) := by decide +kernel
theorem dX7_passYear_38 : decode cX7_passYear 38 = .ok (.iconst 1, 1) := by decide +kernel
theorem dX7_passYear_39 : decode cX7_passYear 39 = .ok (.iadd, 1) := by decide +kernel
theorem dX7_passYear_40 : decode cX7_passYear 40 = .ok (.putfield 30, 3) := by decide +kernel
theorem dX7_passYear_43 : decode cX7_passYear 43 = .ok (.return_, 1) := by decide +kernel
