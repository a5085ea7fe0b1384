theorem dX9_init_0 : decode cX9_init 0 = .ok (.aload_n 0, 1) := by decide +kernel
theorem dX9_init_1 : decode cX9_init 1 = .ok (.invokespecial 1, 3) := by decide +kernel
theorem dX9_init_4 : decode cX9_init 4 = .ok (.aload_n 0, 1) := by decide +kernel
theorem dX9_init_5 : decode cX9_init 5 = .ok (.sipush 5987, 3) := by decide +kernel
theorem dX9_init_8 : decode cX9_init 8 = .ok (.newarray .int, 2) := by decide +kernel
theorem dX9_init_10 : decode cX9_init 10 = .ok (.putfield 7, 3) := by decide +kernel
theorem dX9_init_13 : decode cX9_init 13 = .ok (.aload_n 0, 1) := by decide +kernel
theorem dX9_init_14 : decode cX9_init 14 = .ok (.sipush 5987, 3) := by decide +kernel
theorem dX9_init_17 : decode cX9_init 17 = .ok (.newarray .int, 2) := by decide +kernel
theorem dX9_init_19 : decode cX9_init 19 = .ok (.putfield 13, 3) := by decide +kernel
theorem dX9_init_22 : decode cX9_init 22 = .ok (.aload_n 0, 1) := by decide +kernel
theorem dX9_init_23 : decode cX9_init 23 = .ok (.sipush 5987, 3) := by decide +kernel
theorem dX9_init_26 : decode cX9_init 26 = .ok (.newarray .int, 2) := by decide +kernel
theorem dX9_init_28 : decode cX9_init 28 = .ok (.putfield 16, 3) := by decide +kernel
theorem dX9_init_31 : decode cX9_init 31 = .ok (.aload_n 0, 1) := by decide +kernel
theorem dX9_init_32 : decode cX9_init 32 = .ok (.ldc 19, 2) := by decide +kernel
theorem dX9_init_34 : decode cX9_init 34 = .ok (.newarray .int, 2) := by decide +kernel
theorem dX9_init_36 : decode cX9_init 36 = .ok (.putfield 20, 3) := by decide +kernel
theorem dX9_init_39 : decode cX9_init 39 = .ok (.aload_n 0, 1) := by decide +kernel
theorem dX9_init_40 : decode cX9_init 40 = .ok (.sipush 11974, 3) := by decide +kernel
theorem dX9_init_43 : decode cX9_init 43 = .ok (.newarray .int, 2) := by decide +kernel
theorem dX9_init_45 : decode cX9_init 45 = .ok (.putfield 23, 3) := by decide +kernel
theorem dX9_init_48 : decode cX9_init 48 = .ok (.aload_n 0, 1) := by decide +kernel
theorem dX9_init_49 : decode cX9_init 49 = .ok (.iconst 2, 1) := by decide +kernel
theorem dX9_init_50 : decode cX9_init 50 = .ok (.newarray .boolean, 2) := by decide +kernel
theorem dX9_init_52 : decode cX9_init 52 = .ok (.putfield 26, 3) := by decide +kernel
theorem dX9_init_55 : decode cX9_init 55 = .ok (.aload_n 0, 1) := by decide +kernel
theorem dX9_init_56 : decode cX9_init 56 = .ok (.bipush 81, 2) := by decide +kernel
theorem dX9_init_58 : decode cX9_init 58 = .ok (.newarray .int, 2) := by decide +kernel
theorem dX9_init_60 : decode cX9_init 60 = .ok (.putfield 30, 3) := by decide +kernel
theorem dX9_init_63 : decode cX9_init 63 = .ok (.aload_n 0, 1) := by decide +kernel
theorem dX9_init_64 : decode cX9_init 64 = .ok (.bipush 27, 2) := by decide +kernel
theorem dX9_init_66 : decode cX9_init 66 = .ok (.newarray .int, 2) := by decide +kernel
theorem dX9_init_68 : decode cX9_init 68 = .ok (.putfield 33, 3) := by decide +kernel
theorem dX9_init_71 : decode cX9_init 71 = .ok (.aload_n 0, 1) := by decide +kernel
theorem dX9_init_72 : decode cX9_init 72 = .ok (.bipush 27, 2) := by decide +kernel
theorem dX9_init_74 : decode cX9_init 74 = .ok (.newarray .int, 2) := by decide +kernel
theorem dX9_init_76 : decode cX9_init 76 = .ok (.putfield 36, 3) := by decide +kernel
theorem dX9_init_79 : decode cX9_init 79 = .ok (.aload_n 0, 1) := by decide +kernel
theorem dX9_init_80 : decode cX9_init 80 = .ok (.bipush 27, 2) := by decide +kernel
theorem dX9_init_82 : decode cX9_init 82 = .ok (.newarray .boolean, 2) := by decide +kernel
theorem dX9_init_84 : decode cX9_init 84 = .ok (.putfield 39, 3) := by decide +kernel
theorem dX9_init_87 : decode cX9_init 87 = .ok (.aload_n 0, 1) := by decide +kernel
theorem dX9_init_88 : decode cX9_init 88 = .ok (.sipush 500, 3) := by decide +kernel
theorem dX9_init_91 : decode cX9_init 91 = .ok (.newarray .int, 2) := by decide +kernel
theorem dX9_init_93 : decode cX9_init 93 = .ok (.putfield 42, 3) := by decide +kernel
theorem dX9_init_96 : decode cX9_init 96 = .ok (.aload_n 0, 1) := by decide +kernel
theorem dX9_init_97 : decode cX9_init 97 = .ok (.iconst (-1), 1) := by decide +kernel
theorem dX9_init_98 : decode cX9_init 98 = .ok (.putfield 45, 3) := by decide +kernel
theorem dX9_init_101 : decode cX9_init 101 = .ok (.aload_n 0, 1) := by decide +kernel
theorem dX9_init_102 : decode cX9_init 102 = .ok (.sipush 729, 3) := by decide +kernel
theorem dX9_init_105 : decode cX9_init 105 = .ok (.newarray .boolean, 2) := by decide +kernel
theorem dX9_init_107 : decode cX9_init 107 = .ok (.putfield 49, 3) := by decide +kernel
theorem dX9_init_110 : decode cX9_init 110 = .ok (.aload_n 0, 1) := by decide +kernel
theorem dX9_init_111 : decode cX9_init 111 = .ok (.sipush 200, 3) := by decide +kernel
theorem dX9_init_114 : decode cX9_init 114 = .ok (.newarray .byte, 2) := by decide +kernel
theorem dX9_init_116 : decode cX9_init 116 = .ok (.putfield 52, 3) := by decide +kernel
theorem dX9_init_119 : decode cX9_init 119 = .ok (.aload_n 0, 1) := by decide +kernel
theorem dX9_init_120 : decode cX9_init 120 = .ok (.bipush 40, 2) := by decide +kernel
theorem dX9_init_122 : decode cX9_init 122 = .ok (.newarray .int, 2) := by decide +kernel
theorem dX9_init_124 : decode cX9_init 124 = .ok (.putfield 56, 3) := by decide +kernel
theorem dX9_init_127 : decode cX9_init 127 = .ok (.aload_n 0, 1) := by decide +kernel
theorem dX9_init_128 : decode cX9_init 128 = .ok (.ldc 59, 2) := by decide +kernel
theorem dX9_init_130 : decode cX9_init 130 = .ok (.invokevirtual 61, 3) := by decide +kernel
theorem dX9_init_133 : decode cX9_init 133 = .ok (.aload_n 0, 1) := by decide +kernel
theorem dX9_init_134 : decode cX9_init 134 = .ok (.invokevirtual 65, 3) := by decide +kernel
theorem dX9_init_137 : decode cX9_init 137 = .ok (.aload_n 0, 1) := by decide +kernel
theorem dX9_init_138 : decode cX9_init 138 = .ok (.iconst 0, 1) := by decide +kernel
theorem dX9_init_139 : decode cX9_init 139 = .ok (.putfield 68, 3) := by decide +kernel
theorem dX9_init_142 : decode cX9_init 142 = .ok (.aload_n 0, 1) := by decide +kernel
theorem dX9_init_143 : decode cX9_init 143 = .ok (.getfield 13, 3) := by decide +kernel
theorem dX9_init_146 : decode cX9_init 146 = .ok (.iconst 0, 1) := by decide +kernel
theorem dX9_init_147 : decode cX9_init 147 = .ok (.aload_n 0, 1) := by decide +kernel
theorem dX9_init_148 : decode cX9_init 148 = .ok (.getfield 7, 3) := by decide +kernel
theorem dX9_init_151 : decode cX9_init 151 = .ok (.iconst 0, 1) := by decide +kernel
theorem dX9_init_152 : decode cX9_init 152 = .ok (.invokestatic 71, 3) := by decide +kernel
theorem dX9_init_155 : decode cX9_init 155 = .ok (.return_, 1) := by decide +kernel
theorem dX9_layInput_0 : decode cX9_layInput 0 = .ok (.iconst 0, 1) := by decide +kernel
theorem dX9_layInput_1 : decode cX9_layInput 1 = .ok (.istore_n 2, 1) := by decide +kernel
theorem dX9_layInput_2 : decode cX9_layInput 2 = .ok (.iload_n 2, 1) := by decide +kernel
theorem dX9_layInput_3 : decode cX9_layInput 3 = .ok (.aload_n 1, 1) := by decide +kernel
theorem dX9_layInput_4 : decode cX9_layInput 4 = .ok (.invokevirtual 75, 3) := by decide +kernel
theorem dX9_layInput_7 : decode cX9_layInput 7 = .ok (.if_icmp .ge 20, 3) := by decide +kernel
theorem dX9_layInput_10 : decode cX9_layInput 10 = .ok (.aload_n 0, 1) := by decide +kernel
theorem dX9_layInput_11 : decode cX9_layInput 11 = .ok (.getfield 42, 3) := by decide +kernel
theorem dX9_layInput_14 : decode cX9_layInput 14 = .ok (.iload_n 2, 1) := by decide +kernel
theorem dX9_layInput_15 : decode cX9_layInput 15 = .ok (.aload_n 1, 1) := by decide +kernel
theorem dX9_layInput_16 : decode cX9_layInput 16 = .ok (.iload_n 2, 1) := by decide +kernel
theorem dX9_layInput_17 : decode cX9_layInput 17 = .ok (.invokevirtual 81, 3) := by decide +kernel
theorem dX9_layInput_20 : decode cX9_layInput 20 = .ok (.iastore, 1) := by decide +kernel
theorem dX9_layInput_21 : decode cX9_layInput 21 = .ok (.iinc 2 1, 3) := by decide +kernel
theorem dX9_layInput_24 : decode cX9_layInput 24 = .ok (.goto (-22), 3) := by decide +kernel
theorem dX9_layInput_27 : decode cX9_layInput 27 = .ok (.aload_n 0, 1) := by decide +kernel
theorem dX9_layInput_28 : decode cX9_layInput 28 = .ok (.aload_n 1, 1) := by decide +kernel
theorem dX9_layInput_29 : decode cX9_layInput 29 = .ok (.invokevirtual 75, 3) := by decide +kernel
theorem dX9_layInput_32 : decode cX9_layInput 32 = .ok (.putfield 68, 3) := by decide +kernel
theorem dX9_layInput_35 : decode cX9_layInput 35 = .ok (.return_, 1) := by decide +kernel
theorem dX9_thrown_0 : decode cX9_thrown 0 = .ok (.aload_n 0, 1) := by decide +kernel
theorem dX9_thrown_1 : decode cX9_thrown 1 = .ok (.getfield 85, 3) := by decide +kernel
theorem dX9_thrown_4 : decode cX9_thrown 4 = .ok (.ireturn, 1) := by decide +kernel
theorem dX9_refuses_0 : decode cX9_refuses 0 = .ok (.iload_n 1, 1) := by decide +kernel
theorem dX9_refuses_1 : decode cX9_refuses 1 = .ok (.ifCond .eq 15, 3) := by decide +kernel
theorem dX9_refuses_4 : decode cX9_refuses 4 = .ok (.aload_n 0, 1) := by decide +kernel
theorem dX9_refuses_5 : decode cX9_refuses 5 = .ok (.getfield 85, 3) := by decide +kernel
theorem dX9_refuses_8 : decode cX9_refuses 8 = .ok (.ifCond .ne 8, 3) := by decide +kernel
theorem dX9_refuses_11 : decode cX9_refuses 11 = .ok (.aload_n 0, 1) := by decide +kernel
theorem dX9_refuses_12 : decode cX9_refuses 12 = .ok (.iload_n 2, 1) := by decide +kernel
theorem dX9_refuses_13 : decode cX9_refuses 13 = .ok (.putfield 85, 3) := by decide +kernel
theorem dX9_refuses_16 : decode cX9_refuses 16 = .ok (.aload_n 0, 1) := by decide +kernel
theorem dX9_refuses_17 : decode cX9_refuses 17 = .ok (.getfield 85, 3) := by decide +kernel
theorem dX9_refuses_20 : decode cX9_refuses 20 = .ok (.ifCond .eq 7, 3) := by decide +kernel
theorem dX9_refuses_23 : decode cX9_refuses 23 = .ok (.iconst 1, 1) := by decide +kernel
theorem dX9_refuses_24 : decode cX9_refuses 24 = .ok (.goto 4, 3) := by decide +kernel
theorem dX9_refuses_27 : decode cX9_refuses 27 = .ok (.iconst 0, 1) := by decide +kernel
theorem dX9_refuses_28 : decode cX9_refuses 28 = .ok (.ireturn, 1) := by decide +kernel
theorem dX9_isBetween_0 : decode cX9_isBetween 0 = .ok (.iload_n 0, 1) := by decide +kernel
theorem dX9_isBetween_1 : decode cX9_isBetween 1 = .ok (.iload_n 1, 1) := by decide +kernel
theorem dX9_isBetween_2 : decode cX9_isBetween 2 = .ok (.if_icmp .lt 12, 3) := by decide +kernel
theorem dX9_isBetween_5 : decode cX9_isBetween 5 = .ok (.iload_n 0, 1) := by decide +kernel
theorem dX9_isBetween_6 : decode cX9_isBetween 6 = .ok (.iload_n 2, 1) := by decide +kernel
theorem dX9_isBetween_7 : decode cX9_isBetween 7 = .ok (.if_icmp .gt 7, 3) := by decide +kernel
theorem dX9_isBetween_10 : decode cX9_isBetween 10 = .ok (.iconst 1, 1) := by decide +kernel
theorem dX9_isBetween_11 : decode cX9_isBetween 11 = .ok (.goto 4, 3) := by decide +kernel
theorem dX9_isBetween_14 : decode cX9_isBetween 14 = .ok (.iconst 0, 1) := by decide +kernel
theorem dX9_isBetween_15 : decode cX9_isBetween 15 = .ok (.ireturn, 1) := by decide +kernel
theorem dX9_copyRow_0 : decode cX9_copyRow 0 = .ok (.iconst 0, 1) := by decide +kernel
theorem dX9_copyRow_1 : decode cX9_copyRow 1 = .ok (.istore 4, 2) := by decide +kernel
theorem dX9_copyRow_3 : decode cX9_copyRow 3 = .ok (.iload 4, 2) := by decide +kernel
theorem dX9_copyRow_5 : decode cX9_copyRow 5 = .ok (.sipush 5987, 3) := by decide +kernel
theorem dX9_copyRow_8 : decode cX9_copyRow 8 = .ok (.if_icmp .ge 21, 3) := by decide +kernel
theorem dX9_copyRow_11 : decode cX9_copyRow 11 = .ok (.aload_n 2, 1) := by decide +kernel
theorem dX9_copyRow_12 : decode cX9_copyRow 12 = .ok (.iload_n 3, 1) := by decide +kernel
theorem dX9_copyRow_13 : decode cX9_copyRow 13 = .ok (.iload 4, 2) := by decide +kernel
theorem dX9_copyRow_15 : decode cX9_copyRow 15 = .ok (.iadd, 1) := by decide +kernel
theorem dX9_copyRow_16 : decode cX9_copyRow 16 = .ok (.aload_n 0, 1) := by decide +kernel
theorem dX9_copyRow_17 : decode cX9_copyRow 17 = .ok (.iload_n 1, 1) := by decide +kernel
theorem dX9_copyRow_18 : decode cX9_copyRow 18 = .ok (.iload 4, 2) := by decide +kernel
theorem dX9_copyRow_20 : decode cX9_copyRow 20 = .ok (.iadd, 1) := by decide +kernel
theorem dX9_copyRow_21 : decode cX9_copyRow 21 = .ok (.iaload, 1) := by decide +kernel
theorem dX9_copyRow_22 : decode cX9_copyRow 22 = .ok (.iastore, 1) := by decide +kernel
theorem dX9_copyRow_23 : decode cX9_copyRow 23 = .ok (.iinc 4 1, 3) := by decide +kernel
theorem dX9_copyRow_26 : decode cX9_copyRow 26 = .ok (.goto (-23), 3) := by decide +kernel
theorem dX9_copyRow_29 : decode cX9_copyRow 29 = .ok (.return_, 1) := by decide +kernel
theorem dX9_atDocument_0 : decode cX9_atDocument 0 = .ok (.iconst 3, 1) := by decide +kernel
theorem dX9_atDocument_1 : decode cX9_atDocument 1 = .ok (.bipush 42, 2) := by decide +kernel
theorem dX9_atDocument_3 : decode cX9_atDocument 3 = .ok (.iload_n 0, 1) := by decide +kernel
theorem dX9_atDocument_4 : decode cX9_atDocument 4 = .ok (.imul, 1) := by decide +kernel
theorem dX9_atDocument_5 : decode cX9_atDocument 5 = .ok (.iadd, 1) := by decide +kernel
theorem dX9_atDocument_6 : decode cX9_atDocument 6 = .ok (.ireturn, 1) := by decide +kernel
theorem dX9_atReader_0 : decode cX9_atReader 0 = .ok (.sipush 339, 3) := by decide +kernel
theorem dX9_atReader_3 : decode cX9_atReader 3 = .ok (.sipush 1412, 3) := by decide +kernel
theorem dX9_atReader_6 : decode cX9_atReader 6 = .ok (.iload_n 0, 1) := by decide +kernel
theorem dX9_atReader_7 : decode cX9_atReader 7 = .ok (.imul, 1) := by decide +kernel
theorem dX9_atReader_8 : decode cX9_atReader 8 = .ok (.iadd, 1) := by decide +kernel
theorem dX9_atReader_9 : decode cX9_atReader 9 = .ok (.ireturn, 1) := by decide +kernel
theorem dX9_lengthOf_0 : decode cX9_lengthOf 0 = .ok (.aload_n 0, 1) := by decide +kernel
theorem dX9_lengthOf_1 : decode cX9_lengthOf 1 = .ok (.iload_n 1, 1) := by decide +kernel
theorem dX9_lengthOf_2 : decode cX9_lengthOf 2 = .ok (.invokestatic 88, 3) := by decide +kernel
theorem dX9_lengthOf_5 : decode cX9_lengthOf 5 = .ok (.iconst 0, 1) := by decide +kernel
theorem dX9_lengthOf_6 : decode cX9_lengthOf 6 = .ok (.iadd, 1) := by decide +kernel
theorem dX9_lengthOf_7 : decode cX9_lengthOf 7 = .ok (.iaload, 1) := by decide +kernel
theorem dX9_lengthOf_8 : decode cX9_lengthOf 8 = .ok (.ireturn, 1) := by decide +kernel
theorem dX9_symbolOf_0 : decode cX9_symbolOf 0 = .ok (.iload_n 2, 1) := by decide +kernel
theorem dX9_symbolOf_1 : decode cX9_symbolOf 1 = .ok (.ifCond .ge 7, 3) := by decide +kernel
theorem dX9_symbolOf_4 : decode cX9_symbolOf 4 = .ok (.iconst (-1), 1) := by decide +kernel
theorem dX9_symbolOf_5 : decode cX9_symbolOf 5 = .ok (.goto 13, 3) := by decide +kernel
theorem dX9_symbolOf_8 : decode cX9_symbolOf 8 = .ok (.aload_n 0, 1) := by decide +kernel
theorem dX9_symbolOf_9 : decode cX9_symbolOf 9 = .ok (.iload_n 1, 1) := by decide +kernel
theorem dX9_symbolOf_10 : decode cX9_symbolOf 10 = .ok (.invokestatic 88, 3) := by decide +kernel
theorem dX9_symbolOf_13 : decode cX9_symbolOf 13 = .ok (.iconst 2, 1) := by decide +kernel
theorem dX9_symbolOf_14 : decode cX9_symbolOf 14 = .ok (.iadd, 1) := by decide +kernel
theorem dX9_symbolOf_15 : decode cX9_symbolOf 15 = .ok (.iload_n 2, 1) := by decide +kernel
theorem dX9_symbolOf_16 : decode cX9_symbolOf 16 = .ok (.iadd, 1) := by decide +kernel
theorem dX9_symbolOf_17 : decode cX9_symbolOf 17 = .ok (.iaload, 1) := by decide +kernel
theorem dX9_symbolOf_18 : decode cX9_symbolOf 18 = .ok (.ireturn, 1) := by decide +kernel
theorem dX9_keyOf_0 : decode cX9_keyOf 0 = .ok (.iload_n 0, 1) := by decide +kernel
theorem dX9_keyOf_1 : decode cX9_keyOf 1 = .ok (.iconst (-1), 1) := by decide +kernel
theorem dX9_keyOf_2 : decode cX9_keyOf 2 = .ok (.if_icmp .eq 21, 3) := by decide +kernel
theorem dX9_keyOf_5 : decode cX9_keyOf 5 = .ok (.sipush 756, 3) := by decide +kernel
theorem dX9_keyOf_8 : decode cX9_keyOf 8 = .ok (.iload_n 0, 1) := by decide +kernel
theorem dX9_keyOf_9 : decode cX9_keyOf 9 = .ok (.bipush 27, 2) := by decide +kernel
theorem dX9_keyOf_11 : decode cX9_keyOf 11 = .ok (.imul, 1) := by decide +kernel
theorem dX9_keyOf_12 : decode cX9_keyOf 12 = .ok (.iload_n 1, 1) := by decide +kernel
theorem dX9_keyOf_13 : decode cX9_keyOf 13 = .ok (.iadd, 1) := by decide +kernel
theorem dX9_keyOf_14 : decode cX9_keyOf 14 = .ok (.bipush 27, 2) := by decide +kernel
theorem dX9_keyOf_16 : decode cX9_keyOf 16 = .ok (.imul, 1) := by decide +kernel
theorem dX9_keyOf_17 : decode cX9_keyOf 17 = .ok (.iadd, 1) := by decide +kernel
theorem dX9_keyOf_18 : decode cX9_keyOf 18 = .ok (.iload_n 2, 1) := by decide +kernel
theorem dX9_keyOf_19 : decode cX9_keyOf 19 = .ok (.iadd, 1) := by decide +kernel
theorem dX9_keyOf_20 : decode cX9_keyOf 20 = .ok (.goto 21, 3) := by decide +kernel
theorem dX9_keyOf_23 : decode cX9_keyOf 23 = .ok (.iload_n 1, 1) := by decide +kernel
theorem dX9_keyOf_24 : decode cX9_keyOf 24 = .ok (.iconst (-1), 1) := by decide +kernel
theorem dX9_keyOf_25 : decode cX9_keyOf 25 = .ok (.if_icmp .eq 15, 3) := by decide +kernel
theorem dX9_keyOf_28 : decode cX9_keyOf 28 = .ok (.bipush 27, 2) := by decide +kernel
theorem dX9_keyOf_30 : decode cX9_keyOf 30 = .ok (.iload_n 1, 1) := by decide +kernel
theorem dX9_keyOf_31 : decode cX9_keyOf 31 = .ok (.bipush 27, 2) := by decide +kernel
theorem dX9_keyOf_33 : decode cX9_keyOf 33 = .ok (.imul, 1) := by decide +kernel
theorem dX9_keyOf_34 : decode cX9_keyOf 34 = .ok (.iadd, 1) := by decide +kernel
theorem dX9_keyOf_35 : decode cX9_keyOf 35 = .ok (.iload_n 2, 1) := by decide +kernel
theorem dX9_keyOf_36 : decode cX9_keyOf 36 = .ok (.iadd, 1) := by decide +kernel
theorem dX9_keyOf_37 : decode cX9_keyOf 37 = .ok (.goto 4, 3) := by decide +kernel
theorem dX9_keyOf_40 : decode cX9_keyOf 40 = .ok (.iload_n 2, 1) := by decide +kernel
theorem dX9_keyOf_41 : decode cX9_keyOf 41 = .ok (.ireturn, 1) := by decide +kernel
theorem dX9_entryAt_0 : decode cX9_entryAt 0 = .ok (.iload_n 0, 1) := by decide +kernel
theorem dX9_entryAt_1 : decode cX9_entryAt 1 = .ok (.invokestatic 92, 3) := by decide +kernel
theorem dX9_entryAt_4 : decode cX9_entryAt 4 = .ok (.bipush 12, 2) := by decide +kernel
theorem dX9_entryAt_6 : decode cX9_entryAt 6 = .ok (.iadd, 1) := by decide +kernel
theorem dX9_entryAt_7 : decode cX9_entryAt 7 = .ok (.iconst 2, 1) := by decide +kernel
theorem dX9_entryAt_8 : decode cX9_entryAt 8 = .ok (.iload_n 1, 1) := by decide +kernel
theorem dX9_entryAt_9 : decode cX9_entryAt 9 = .ok (.imul, 1) := by decide +kernel
theorem dX9_entryAt_10 : decode cX9_entryAt 10 = .ok (.iadd, 1) := by decide +kernel
theorem dX9_entryAt_11 : decode cX9_entryAt 11 = .ok (.ireturn, 1) := by decide +kernel
theorem dX9_find_0 : decode cX9_find 0 = .ok (.aload_n 0, 1) := by decide +kernel
theorem dX9_find_1 : decode cX9_find 1 = .ok (.iload_n 1, 1) := by decide +kernel
theorem dX9_find_2 : decode cX9_find 2 = .ok (.invokestatic 92, 3) := by decide +kernel
theorem dX9_find_5 : decode cX9_find 5 = .ok (.bipush 11, 2) := by decide +kernel
theorem dX9_find_7 : decode cX9_find 7 = .ok (.iadd, 1) := by decide +kernel
theorem dX9_find_8 : decode cX9_find 8 = .ok (.iaload, 1) := by decide +kernel
theorem dX9_find_9 : decode cX9_find 9 = .ok (.istore_n 3, 1) := by decide +kernel
theorem dX9_find_10 : decode cX9_find 10 = .ok (.iconst 0, 1) := by decide +kernel
theorem dX9_find_11 : decode cX9_find 11 = .ok (.istore 4, 2) := by decide +kernel
theorem dX9_find_13 : decode cX9_find 13 = .ok (.iload 4, 2) := by decide +kernel
theorem dX9_find_15 : decode cX9_find 15 = .ok (.iload_n 3, 1) := by decide +kernel
theorem dX9_find_16 : decode cX9_find 16 = .ok (.if_icmp .ge 30, 3) := by decide +kernel
theorem dX9_find_19 : decode cX9_find 19 = .ok (.aload_n 0, 1) := by decide +kernel
theorem dX9_find_20 : decode cX9_find 20 = .ok (.iload_n 1, 1) := by decide +kernel
theorem dX9_find_21 : decode cX9_find 21 = .ok (.iload 4, 2) := by decide +kernel
theorem dX9_find_23 : decode cX9_find 23 = .ok (.invokestatic 95, 3) := by decide +kernel
theorem dX9_find_26 : decode cX9_find 26 = .ok (.iaload, 1) := by decide +kernel
theorem dX9_find_27 : decode cX9_find 27 = .ok (.iload_n 2, 1) := by decide +kernel
theorem dX9_find_28 : decode cX9_find 28 = .ok (.if_icmp .ne 12, 3) := by decide +kernel
theorem dX9_find_31 : decode cX9_find 31 = .ok (.iload_n 1, 1) := by decide +kernel
theorem dX9_find_32 : decode cX9_find 32 = .ok (.iload 4, 2) := by decide +kernel
theorem dX9_find_34 : decode cX9_find 34 = .ok (.invokestatic 95, 3) := by decide +kernel
theorem dX9_find_37 : decode cX9_find 37 = .ok (.iconst 1, 1) := by decide +kernel
theorem dX9_find_38 : decode cX9_find 38 = .ok (.iadd, 1) := by decide +kernel
theorem dX9_find_39 : decode cX9_find 39 = .ok (.ireturn, 1) := by decide +kernel
theorem dX9_find_40 : decode cX9_find 40 = .ok (.iinc 4 1, 3) := by decide +kernel
theorem dX9_find_43 : decode cX9_find 43 = .ok (.goto (-30), 3) := by decide +kernel
theorem dX9_find_46 : decode cX9_find 46 = .ok (.iconst (-1), 1) := by decide +kernel
theorem dX9_find_47 : decode cX9_find 47 = .ok (.ireturn, 1) := by decide +kernel
theorem dX9_countOf_0 : decode cX9_countOf 0 = .ok (.aload_n 0, 1) := by decide +kernel
theorem dX9_countOf_1 : decode cX9_countOf 1 = .ok (.iload_n 1, 1) := by decide +kernel
theorem dX9_countOf_2 : decode cX9_countOf 2 = .ok (.iload_n 2, 1) := by decide +kernel
theorem dX9_countOf_3 : decode cX9_countOf 3 = .ok (.invokestatic 99, 3) := by decide +kernel
theorem dX9_countOf_6 : decode cX9_countOf 6 = .ok (.istore_n 3, 1) := by decide +kernel
theorem dX9_countOf_7 : decode cX9_countOf 7 = .ok (.iload_n 3, 1) := by decide +kernel
theorem dX9_countOf_8 : decode cX9_countOf 8 = .ok (.iconst (-1), 1) := by decide +kernel
theorem dX9_countOf_9 : decode cX9_countOf 9 = .ok (.if_icmp .ne 7, 3) := by decide +kernel
theorem dX9_countOf_12 : decode cX9_countOf 12 = .ok (.iconst 0, 1) := by decide +kernel
theorem dX9_countOf_13 : decode cX9_countOf 13 = .ok (.goto 6, 3) := by decide +kernel
theorem dX9_countOf_16 : decode cX9_countOf 16 = .ok (.aload_n 0, 1) := by decide +kernel
theorem dX9_countOf_17 : decode cX9_countOf 17 = .ok (.iload_n 3, 1) := by decide +kernel
theorem dX9_countOf_18 : decode cX9_countOf 18 = .ok (.iaload, 1) := by decide +kernel
theorem dX9_countOf_19 : decode cX9_countOf 19 = .ok (.ireturn, 1) := by decide +kernel
theorem dX9_addTo_0 : decode cX9_addTo 0 = .ok (.aload_n 0, 1) := by decide +kernel
theorem dX9_addTo_1 : decode cX9_addTo 1 = .ok (.iload_n 1, 1) := by decide +kernel
theorem dX9_addTo_2 : decode cX9_addTo 2 = .ok (.iload_n 2, 1) := by decide +kernel
theorem dX9_addTo_3 : decode cX9_addTo 3 = .ok (.invokestatic 99, 3) := by decide +kernel
theorem dX9_addTo_6 : decode cX9_addTo 6 = .ok (.istore 4, 2) := by decide +kernel
theorem dX9_addTo_8 : decode cX9_addTo 8 = .ok (.iload 4, 2) := by decide +kernel
theorem dX9_addTo_10 : decode cX9_addTo 10 = .ok (.iconst (-1), 1) := by decide +kernel
theorem dX9_addTo_11 : decode cX9_addTo 11 = .ok (.if_icmp .ne 49, 3) := by decide +kernel
theorem dX9_addTo_14 : decode cX9_addTo 14 = .ok (.aload_n 0, 1) := by decide +kernel
theorem dX9_addTo_15 : decode cX9_addTo 15 = .ok (.iload_n 1, 1) := by decide +kernel
theorem dX9_addTo_16 : decode cX9_addTo 16 = .ok (.invokestatic 92, 3) := by decide +kernel
theorem dX9_addTo_19 : decode cX9_addTo 19 = .ok (.bipush 11, 2) := by decide +kernel
theorem dX9_addTo_21 : decode cX9_addTo 21 = .ok (.iadd, 1) := by decide +kernel
theorem dX9_addTo_22 : decode cX9_addTo 22 = .ok (.iaload, 1) := by decide +kernel
theorem dX9_addTo_23 : decode cX9_addTo 23 = .ok (.istore 5, 2) := by decide +kernel
theorem dX9_addTo_25 : decode cX9_addTo 25 = .ok (.iload_n 1, 1) := by decide +kernel
theorem dX9_addTo_26 : decode cX9_addTo 26 = .ok (.iload 5, 2) := by decide +kernel
theorem dX9_addTo_28 : decode cX9_addTo 28 = .ok (.invokestatic 95, 3) := by decide +kernel
theorem dX9_addTo_31 : decode cX9_addTo 31 = .ok (.iconst 1, 1) := by decide +kernel
theorem dX9_addTo_32 : decode cX9_addTo 32 = .ok (.iadd, 1) := by decide +kernel
theorem dX9_addTo_33 : decode cX9_addTo 33 = .ok (.istore 4, 2) := by decide +kernel
theorem dX9_addTo_35 : decode cX9_addTo 35 = .ok (.aload_n 0, 1) := by decide +kernel
theorem dX9_addTo_36 : decode cX9_addTo 36 = .ok (.iload 4, 2) := by decide +kernel
theorem dX9_addTo_38 : decode cX9_addTo 38 = .ok (.iconst 1, 1) := by decide +kernel
theorem dX9_addTo_39 : decode cX9_addTo 39 = .ok (.isub, 1) := by decide +kernel
theorem dX9_addTo_40 : decode cX9_addTo 40 = .ok (.iload_n 2, 1) := by decide +kernel
theorem dX9_addTo_41 : decode cX9_addTo 41 = .ok (.iastore, 1) := by decide +kernel
theorem dX9_addTo_42 : decode cX9_addTo 42 = .ok (.aload_n 0, 1) := by decide +kernel
theorem dX9_addTo_43 : decode cX9_addTo 43 = .ok (.iload 4, 2) := by decide +kernel
theorem dX9_addTo_45 : decode cX9_addTo 45 = .ok (.iconst 0, 1) := by decide +kernel
theorem dX9_addTo_46 : decode cX9_addTo 46 = .ok (.iastore, 1) := by decide +kernel
theorem dX9_addTo_47 : decode cX9_addTo 47 = .ok (.aload_n 0, 1) := by decide +kernel
theorem dX9_addTo_48 : decode cX9_addTo 48 = .ok (.iload_n 1, 1) := by decide +kernel
theorem dX9_addTo_49 : decode cX9_addTo 49 = .ok (.invokestatic 92, 3) := by decide +kernel
theorem dX9_addTo_52 : decode cX9_addTo 52 = .ok (.bipush 11, 2) := by decide +kernel
theorem dX9_addTo_54 : decode cX9_addTo 54 = .ok (.iadd, 1) := by decide +kernel
theorem dX9_addTo_55 : decode cX9_addTo 55 = .ok (.dup2, 1) := by decide +kernel
theorem dX9_addTo_56 : decode cX9_addTo 56 = .ok (.iaload, 1) := by decide +kernel
theorem dX9_addTo_57 : decode cX9_addTo 57 = .ok (.iconst 1, 1) := by decide +kernel
theorem dX9_addTo_58 : decode cX9_addTo 58 = .ok (.iadd, 1) := by decide +kernel
theorem dX9_addTo_59 : decode cX9_addTo 59 = .ok (.iastore, 1) := by decide +kernel
theorem dX9_addTo_60 : decode cX9_addTo 60 = .ok (.aload_n 0, 1) := by decide +kernel
theorem dX9_addTo_61 : decode cX9_addTo 61 = .ok (.iload 4, 2) := by decide +kernel
theorem dX9_addTo_63 : decode cX9_addTo 63 = .ok (.aload_n 0, 1) := by decide +kernel
theorem dX9_addTo_64 : decode cX9_addTo 64 = .ok (.iload 4, 2) := by decide +kernel
theorem dX9_addTo_66 : decode cX9_addTo 66 = .ok (.iaload, 1) := by decide +kernel
theorem dX9_addTo_67 : decode cX9_addTo 67 = .ok (.iload_n 3, 1) := by decide +kernel
theorem dX9_addTo_68 : decode cX9_addTo 68 = .ok (.iadd, 1) := by decide +kernel
theorem dX9_addTo_69 : decode cX9_addTo 69 = .ok (.sipush 999, 3) := by decide +kernel
theorem dX9_addTo_72 : decode cX9_addTo 72 = .ok (.if_icmp .le 9, 3) := by decide +kernel
theorem dX9_addTo_75 : decode cX9_addTo 75 = .ok (.sipush 999, 3) := by decide +kernel
theorem dX9_addTo_78 : decode cX9_addTo 78 = .ok (.goto 9, 3) := by decide +kernel
theorem dX9_addTo_81 : decode cX9_addTo 81 = .ok (.aload_n 0, 1) := by decide +kernel
theorem dX9_addTo_82 : decode cX9_addTo 82 = .ok (.iload 4, 2) := by decide +kernel
theorem dX9_addTo_84 : decode cX9_addTo 84 = .ok (.iaload, 1) := by decide +kernel
theorem dX9_addTo_85 : decode cX9_addTo 85 = .ok (.iload_n 3, 1) := by decide +kernel
theorem dX9_addTo_86 : decode cX9_addTo 86 = .ok (.iadd, 1) := by decide +kernel
theorem dX9_addTo_87 : decode cX9_addTo 87 = .ok (.iastore, 1) := by decide +kernel
theorem dX9_addTo_88 : decode cX9_addTo 88 = .ok (.return_, 1) := by decide +kernel
theorem dX9_learnOne_0 : decode cX9_learnOne 0 = .ok (.aload_n 0, 1) := by decide +kernel
theorem dX9_learnOne_1 : decode cX9_learnOne 1 = .ok (.iload_n 2, 1) := by decide +kernel
theorem dX9_learnOne_2 : decode cX9_learnOne 2 = .ok (.iload_n 3, 1) := by decide +kernel
theorem dX9_learnOne_3 : decode cX9_learnOne 3 = .ok (.invokestatic 103, 3) := by decide +kernel
theorem dX9_learnOne_6 : decode cX9_learnOne 6 = .ok (.istore 4, 2) := by decide +kernel
theorem dX9_learnOne_8 : decode cX9_learnOne 8 = .ok (.aload_n 0, 1) := by decide +kernel
theorem dX9_learnOne_9 : decode cX9_learnOne 9 = .ok (.iload_n 2, 1) := by decide +kernel
theorem dX9_learnOne_10 : decode cX9_learnOne 10 = .ok (.iload_n 3, 1) := by decide +kernel
theorem dX9_learnOne_11 : decode cX9_learnOne 11 = .ok (.iconst 1, 1) := by decide +kernel
theorem dX9_learnOne_12 : decode cX9_learnOne 12 = .ok (.isub, 1) := by decide +kernel
theorem dX9_learnOne_13 : decode cX9_learnOne 13 = .ok (.invokestatic 103, 3) := by decide +kernel
theorem dX9_learnOne_16 : decode cX9_learnOne 16 = .ok (.istore 5, 2) := by decide +kernel
theorem dX9_learnOne_18 : decode cX9_learnOne 18 = .ok (.aload_n 0, 1) := by decide +kernel
theorem dX9_learnOne_19 : decode cX9_learnOne 19 = .ok (.iload_n 2, 1) := by decide +kernel
theorem dX9_learnOne_20 : decode cX9_learnOne 20 = .ok (.iload_n 3, 1) := by decide +kernel
theorem dX9_learnOne_21 : decode cX9_learnOne 21 = .ok (.iconst 2, 1) := by decide +kernel
theorem dX9_learnOne_22 : decode cX9_learnOne 22 = .ok (.isub, 1) := by decide +kernel
theorem dX9_learnOne_23 : decode cX9_learnOne 23 = .ok (.invokestatic 103, 3) := by decide +kernel
theorem dX9_learnOne_26 : decode cX9_learnOne 26 = .ok (.istore 6, 2) := by decide +kernel
theorem dX9_learnOne_28 : decode cX9_learnOne 28 = .ok (.aload_n 0, 1) := by decide +kernel
theorem dX9_learnOne_29 : decode cX9_learnOne 29 = .ok (.iload_n 1, 1) := by decide +kernel
theorem dX9_learnOne_30 : decode cX9_learnOne 30 = .ok (.iconst (-1), 1) := by decide +kernel
theorem dX9_learnOne_31 : decode cX9_learnOne 31 = .ok (.iconst (-1), 1) := by decide +kernel
theorem dX9_learnOne_32 : decode cX9_learnOne 32 = .ok (.iload 4, 2) := by decide +kernel
theorem dX9_learnOne_34 : decode cX9_learnOne 34 = .ok (.invokestatic 106, 3) := by decide +kernel
theorem dX9_learnOne_37 : decode cX9_learnOne 37 = .ok (.iconst 1, 1) := by decide +kernel
theorem dX9_learnOne_38 : decode cX9_learnOne 38 = .ok (.invokestatic 110, 3) := by decide +kernel
theorem dX9_learnOne_41 : decode cX9_learnOne 41 = .ok (.iload 5, 2) := by decide +kernel
theorem dX9_learnOne_43 : decode cX9_learnOne 43 = .ok (.iconst (-1), 1) := by decide +kernel
theorem dX9_learnOne_44 : decode cX9_learnOne 44 = .ok (.if_icmp .eq 17, 3) := by decide +kernel
theorem dX9_learnOne_47 : decode cX9_learnOne 47 = .ok (.aload_n 0, 1) := by decide +kernel
theorem dX9_learnOne_48 : decode cX9_learnOne 48 = .ok (.iload_n 1, 1) := by decide +kernel
theorem dX9_learnOne_49 : decode cX9_learnOne 49 = .ok (.iconst (-1), 1) := by decide +kernel
theorem dX9_learnOne_50 : decode cX9_learnOne 50 = .ok (.iload 5, 2) := by decide +kernel
theorem dX9_learnOne_52 : decode cX9_learnOne 52 = .ok (.iload 4, 2) := by decide +kernel
theorem dX9_learnOne_54 : decode cX9_learnOne 54 = .ok (.invokestatic 106, 3) := by decide +kernel
theorem dX9_learnOne_57 : decode cX9_learnOne 57 = .ok (.iconst 1, 1) := by decide +kernel
theorem dX9_learnOne_58 : decode cX9_learnOne 58 = .ok (.invokestatic 110, 3) := by decide +kernel
theorem dX9_learnOne_61 : decode cX9_learnOne 61 = .ok (.iload 6, 2) := by decide +kernel
theorem dX9_learnOne_63 : decode cX9_learnOne 63 = .ok (.iconst (-1), 1) := by decide +kernel
theorem dX9_learnOne_64 : decode cX9_learnOne 64 = .ok (.if_icmp .eq 18, 3) := by decide +kernel
theorem dX9_learnOne_67 : decode cX9_learnOne 67 = .ok (.aload_n 0, 1) := by decide +kernel
theorem dX9_learnOne_68 : decode cX9_learnOne 68 = .ok (.iload_n 1, 1) := by decide +kernel
theorem dX9_learnOne_69 : decode cX9_learnOne 69 = .ok (.iload 6, 2) := by decide +kernel
theorem dX9_learnOne_71 : decode cX9_learnOne 71 = .ok (.iload 5, 2) := by decide +kernel
theorem dX9_learnOne_73 : decode cX9_learnOne 73 = .ok (.iload 4, 2) := by decide +kernel
theorem dX9_learnOne_75 : decode cX9_learnOne 75 = .ok (.invokestatic 106, 3) := by decide +kernel
theorem dX9_learnOne_78 : decode cX9_learnOne 78 = .ok (.iconst 1, 1) := by decide +kernel
theorem dX9_learnOne_79 : decode cX9_learnOne 79 = .ok (.invokestatic 110, 3) := by decide +kernel
theorem dX9_learnOne_82 : decode cX9_learnOne 82 = .ok (.return_, 1) := by decide +kernel
theorem dX9_noteTraining_0 : decode cX9_noteTraining 0 = .ok (.aload_n 0, 1) := by decide +kernel
theorem dX9_noteTraining_1 : decode cX9_noteTraining 1 = .ok (.iload_n 1, 1) := by decide +kernel
theorem dX9_noteTraining_2 : decode cX9_noteTraining 2 = .ok (.invokestatic 92, 3) := by decide +kernel
theorem dX9_noteTraining_5 : decode cX9_noteTraining 5 = .ok (.iconst 3, 1) := by decide +kernel
theorem dX9_noteTraining_6 : decode cX9_noteTraining 6 = .ok (.iadd, 1) := by decide +kernel
theorem dX9_noteTraining_7 : decode cX9_noteTraining 7 = .ok (.iload_n 2, 1) := by decide +kernel
theorem dX9_noteTraining_8 : decode cX9_noteTraining 8 = .ok (.iadd, 1) := by decide +kernel
theorem dX9_noteTraining_9 : decode cX9_noteTraining 9 = .ok (.dup2, 1) := by decide +kernel
theorem dX9_noteTraining_10 : decode cX9_noteTraining 10 = .ok (.iaload, 1) := by decide +kernel
theorem dX9_noteTraining_11 : decode cX9_noteTraining 11 = .ok (.iconst 1, 1) := by decide +kernel
theorem dX9_noteTraining_12 : decode cX9_noteTraining 12 = .ok (.iadd, 1) := by decide +kernel
theorem dX9_noteTraining_13 : decode cX9_noteTraining 13 = .ok (.iastore, 1) := by decide +kernel
theorem dX9_noteTraining_14 : decode cX9_noteTraining 14 = .ok (.aload_n 0, 1) := by decide +kernel
theorem dX9_noteTraining_15 : decode cX9_noteTraining 15 = .ok (.iload_n 1, 1) := by decide +kernel
theorem dX9_noteTraining_16 : decode cX9_noteTraining 16 = .ok (.invokestatic 92, 3) := by decide +kernel
theorem dX9_noteTraining_19 : decode cX9_noteTraining 19 = .ok (.iconst 2, 1) := by decide +kernel
theorem dX9_noteTraining_20 : decode cX9_noteTraining 20 = .ok (.iadd, 1) := by decide +kernel
theorem dX9_noteTraining_21 : decode cX9_noteTraining 21 = .ok (.dup2, 1) := by decide +kernel
theorem dX9_noteTraining_22 : decode cX9_noteTraining 22 = .ok (.iaload, 1) := by decide +kernel
theorem dX9_noteTraining_23 : decode cX9_noteTraining 23 = .ok (.aload_n 0, 1) := by decide +kernel
theorem dX9_noteTraining_24 : decode cX9_noteTraining 24 = .ok (.iload_n 2, 1) := by decide +kernel
theorem dX9_noteTraining_25 : decode cX9_noteTraining 25 = .ok (.invokestatic 114, 3) := by decide +kernel
theorem dX9_noteTraining_28 : decode cX9_noteTraining 28 = .ok (.iadd, 1) := by decide +kernel
theorem dX9_noteTraining_29 : decode cX9_noteTraining 29 = .ok (.iastore, 1) := by decide +kernel
theorem dX9_noteTraining_30 : decode cX9_noteTraining 30 = .ok (.return_, 1) := by decide +kernel
theorem dX9_trainOn_0 : decode cX9_trainOn 0 = .ok (.iconst 0, 1) := by decide +kernel
theorem dX9_trainOn_1 : decode cX9_trainOn 1 = .ok (.istore_n 3, 1) := by decide +kernel
theorem dX9_trainOn_2 : decode cX9_trainOn 2 = .ok (.iload_n 3, 1) := by decide +kernel
theorem dX9_trainOn_3 : decode cX9_trainOn 3 = .ok (.aload_n 0, 1) := by decide +kernel
theorem dX9_trainOn_4 : decode cX9_trainOn 4 = .ok (.iload_n 2, 1) := by decide +kernel
theorem dX9_trainOn_5 : decode cX9_trainOn 5 = .ok (.invokestatic 114, 3) := by decide +kernel
theorem dX9_trainOn_8 : decode cX9_trainOn 8 = .ok (.if_icmp .ge 16, 3) := by decide +kernel
theorem dX9_trainOn_11 : decode cX9_trainOn 11 = .ok (.aload_n 0, 1) := by decide +kernel
theorem dX9_trainOn_12 : decode cX9_trainOn 12 = .ok (.iload_n 1, 1) := by decide +kernel
theorem dX9_trainOn_13 : decode cX9_trainOn 13 = .ok (.iload_n 2, 1) := by decide +kernel
theorem dX9_trainOn_14 : decode cX9_trainOn 14 = .ok (.iload_n 3, 1) := by decide +kernel
theorem dX9_trainOn_15 : decode cX9_trainOn 15 = .ok (.invokestatic 118, 3) := by decide +kernel
theorem dX9_trainOn_18 : decode cX9_trainOn 18 = .ok (.iinc 3 1, 3) := by decide +kernel
theorem dX9_trainOn_21 : decode cX9_trainOn 21 = .ok (.goto (-19), 3) := by decide +kernel
theorem dX9_trainOn_24 : decode cX9_trainOn 24 = .ok (.aload_n 0, 1) := by decide +kernel
theorem dX9_trainOn_25 : decode cX9_trainOn 25 = .ok (.iload_n 1, 1) := by decide +kernel
theorem dX9_trainOn_26 : decode cX9_trainOn 26 = .ok (.iload_n 2, 1) := by decide +kernel
theorem dX9_trainOn_27 : decode cX9_trainOn 27 = .ok (.invokestatic 121, 3) := by decide +kernel
theorem dX9_trainOn_30 : decode cX9_trainOn 30 = .ok (.return_, 1) := by decide +kernel
theorem dX9_passYear_0 : decode cX9_passYear 0 = .ok (.aload_n 0, 1) := by decide +kernel
theorem dX9_passYear_1 : decode cX9_passYear 1 = .ok (.iconst 0, 1) := by decide +kernel
theorem dX9_passYear_2 : decode cX9_passYear 2 = .ok (.dup2, 1) := by decide +kernel
theorem dX9_passYear_3 : decode cX9_passYear 3 = .ok (.iaload, 1) := by decide +kernel
theorem dX9_passYear_4 : decode cX9_passYear 4 = .ok (.iconst 1, 1) := by decide +kernel
theorem dX9_passYear_5 : decode cX9_passYear 5 = .ok (.iadd, 1) := by decide +kernel
theorem dX9_passYear_6 : decode cX9_passYear 6 = .ok (.iastore, 1) := by decide +kernel
theorem dX9_passYear_7 : decode cX9_passYear 7 = .ok (.iconst 0, 1) := by decide +kernel
theorem dX9_passYear_8 : decode cX9_passYear 8 = .ok (.istore_n 1, 1) := by decide +kernel
theorem dX9_passYear_9 : decode cX9_passYear 9 = .ok (.iload_n 1, 1) := by decide +kernel
theorem dX9_passYear_10 : decode cX9_passYear 10 = .ok (.aload_n 0, 1) := by decide +kernel
theorem dX9_passYear_11 : decode cX9_passYear 11 = .ok (.iconst 2, 1) := by decide +kernel
theorem dX9_passYear_12 : decode cX9_passYear 12 = .ok (.iaload, 1) := by decide +kernel
theorem dX9_passYear_13 : decode cX9_passYear 13 = .ok (.if_icmp .ge 43, 3) := by decide +kernel
theorem dX9_passYear_16 : decode cX9_passYear 16 = .ok (.iconst 0, 1) := by decide +kernel
theorem dX9_passYear_17 : decode cX9_passYear 17 = .ok (.istore_n 2, 1) := by decide +kernel
theorem dX9_passYear_18 : decode cX9_passYear 18 = .ok (.iload_n 2, 1) := by decide +kernel
theorem dX9_passYear_19 : decode cX9_passYear 19 = .ok (.aload_n 0, 1) := by decide +kernel
theorem dX9_passYear_20 : decode cX9_passYear 20 = .ok (.iload_n 1, 1) := by decide +kernel
theorem dX9_passYear_21 : decode cX9_passYear 21 = .ok (.invokestatic 92, 3) := by decide +kernel
theorem dX9_passYear_24 : decode cX9_passYear 24 = .ok (.bipush 11, 2) := by decide +kernel
theorem dX9_passYear_26 : decode cX9_passYear 26 = .ok (.iadd, 1) := by decide +kernel
theorem dX9_passYear_27 : decode cX9_passYear 27 = .ok (.iaload, 1) := by decide +kernel
theorem dX9_passYear_28 : decode cX9_passYear 28 = .ok (.if_icmp .ge 22, 3) := by decide +kernel
theorem dX9_passYear_31 : decode cX9_passYear 31 = .ok (.aload_n 0, 1) := by decide +kernel
theorem dX9_passYear_32 : decode cX9_passYear 32 = .ok (.iload_n 1, 1) := by decide +kernel
theorem dX9_passYear_33 : decode cX9_passYear 33 = .ok (.iload_n 2, 1) := by decide +kernel
theorem dX9_passYear_34 : decode cX9_passYear 34 = .ok (.invokestatic 95, 3) := by decide +kernel
theorem dX9_passYear_37 : decode cX9_passYear 37 = .ok (.iconst 1, 1) := by decide +kernel
theorem dX9_passYear_38 : decode cX9_passYear 38 = .ok (.iadd, 1) := by decide +kernel
theorem dX9_passYear_39 : decode cX9_passYear 39 = .ok (.dup2, 1) := by decide +kernel
theorem dX9_passYear_40 : decode cX9_passYear 40 = .ok (.iaload, 1) := by decide +kernel
theorem dX9_passYear_41 : decode cX9_passYear 41 = .ok (.iconst 2, 1) := by decide +kernel
theorem dX9_passYear_42 : decode cX9_passYear 42 = .ok (.idiv, 1) := by decide +kernel
theorem dX9_passYear_43 : decode cX9_passYear 43 = .ok (.iastore, 1) := by decide +kernel
theorem dX9_passYear_44 : decode cX9_passYear 44 = .ok (.iinc 2 1, 3) := by decide +kernel
theorem dX9_passYear_47 : decode cX9_passYear 47 = .ok (.goto (-29), 3) := by decide +kernel
theorem dX9_passYear_50 : decode cX9_passYear 50 = .ok (.iinc 1 1, 3) := by decide +kernel
theorem dX9_passYear_53 : decode cX9_passYear 53 = .ok (.goto (-44), 3) := by decide +kernel
theorem dX9_passYear_56 : decode cX9_passYear 56 = .ok (.return_, 1) := by decide +kernel
theorem dX9_positiveOf_0 : decode cX9_positiveOf 0 = .ok (.iconst 0, 1) := by decide +kernel
theorem dX9_positiveOf_1 : decode cX9_positiveOf 1 = .ok (.istore_n 2, 1) := by decide +kernel
theorem dX9_positiveOf_2 : decode cX9_positiveOf 2 = .ok (.iconst 0, 1) := by decide +kernel
theorem dX9_positiveOf_3 : decode cX9_positiveOf 3 = .ok (.istore_n 3, 1) := by decide +kernel
theorem dX9_positiveOf_4 : decode cX9_positiveOf 4 = .ok (.iload_n 3, 1) := by decide +kernel
theorem dX9_positiveOf_5 : decode cX9_positiveOf 5 = .ok (.aload_n 0, 1) := by decide +kernel
theorem dX9_positiveOf_6 : decode cX9_positiveOf 6 = .ok (.iload_n 1, 1) := by decide +kernel
theorem dX9_positiveOf_7 : decode cX9_positiveOf 7 = .ok (.invokestatic 92, 3) := by decide +kernel
theorem dX9_positiveOf_10 : decode cX9_positiveOf 10 = .ok (.bipush 11, 2) := by decide +kernel
theorem dX9_positiveOf_12 : decode cX9_positiveOf 12 = .ok (.iadd, 1) := by decide +kernel
theorem dX9_positiveOf_13 : decode cX9_positiveOf 13 = .ok (.iaload, 1) := by decide +kernel
theorem dX9_positiveOf_14 : decode cX9_positiveOf 14 = .ok (.if_icmp .ge 29, 3) := by decide +kernel
theorem dX9_positiveOf_17 : decode cX9_positiveOf 17 = .ok (.iload_n 2, 1) := by decide +kernel
theorem dX9_positiveOf_18 : decode cX9_positiveOf 18 = .ok (.aload_n 0, 1) := by decide +kernel
theorem dX9_positiveOf_19 : decode cX9_positiveOf 19 = .ok (.iload_n 1, 1) := by decide +kernel
theorem dX9_positiveOf_20 : decode cX9_positiveOf 20 = .ok (.iload_n 3, 1) := by decide +kernel
theorem dX9_positiveOf_21 : decode cX9_positiveOf 21 = .ok (.invokestatic 95, 3) := by decide +kernel
theorem dX9_positiveOf_24 : decode cX9_positiveOf 24 = .ok (.iconst 1, 1) := by decide +kernel
theorem dX9_positiveOf_25 : decode cX9_positiveOf 25 = .ok (.iadd, 1) := by decide +kernel
theorem dX9_positiveOf_26 : decode cX9_positiveOf 26 = .ok (.iaload, 1) := by decide +kernel
theorem dX9_positiveOf_27 : decode cX9_positiveOf 27 = .ok (.ifCond .le 7, 3) := by decide +kernel
theorem dX9_positiveOf_30 : decode cX9_positiveOf 30 = .ok (.iconst 1, 1) := by decide +kernel
theorem dX9_positiveOf_31 : decode cX9_positiveOf 31 = .ok (.goto 4, 3) := by decide +kernel
theorem dX9_positiveOf_34 : decode cX9_positiveOf 34 = .ok (.iconst 0, 1) := by decide +kernel
theorem dX9_positiveOf_35 : decode cX9_positiveOf 35 = .ok (.iadd, 1) := by decide +kernel
theorem dX9_positiveOf_36 : decode cX9_positiveOf 36 = .ok (.istore_n 2, 1) := by decide +kernel
theorem dX9_positiveOf_37 : decode cX9_positiveOf 37 = .ok (.iinc 3 1, 3) := by decide +kernel
theorem dX9_positiveOf_40 : decode cX9_positiveOf 40 = .ok (.goto (-36), 3) := by decide +kernel
theorem dX9_positiveOf_43 : decode cX9_positiveOf 43 = .ok (.iload_n 2, 1) := by decide +kernel
theorem dX9_positiveOf_44 : decode cX9_positiveOf 44 = .ok (.ireturn, 1) := by decide +kernel
theorem dX9_look_0 : decode cX9_look 0 = .ok (.aload_n 0, 1) := by decide +kernel
theorem dX9_look_1 : decode cX9_look 1 = .ok (.iload_n 3, 1) := by decide +kernel
theorem dX9_look_2 : decode cX9_look 2 = .ok (.iconst (-1), 1) := by decide +kernel
theorem dX9_look_3 : decode cX9_look 3 = .ok (.if_icmp .eq 7, 3) := by decide +kernel
theorem dX9_look_6 : decode cX9_look 6 = .ok (.iconst 3, 1) := by decide +kernel
theorem dX9_look_7 : decode cX9_look 7 = .ok (.goto 14, 3) := by decide +kernel
theorem dX9_look_10 : decode cX9_look 10 = .ok (.iload 4, 2) := by decide +kernel
theorem dX9_look_12 : decode cX9_look 12 = .ok (.iconst (-1), 1) := by decide +kernel
theorem dX9_look_13 : decode cX9_look 13 = .ok (.if_icmp .eq 7, 3) := by decide +kernel
theorem dX9_look_16 : decode cX9_look 16 = .ok (.iconst 2, 1) := by decide +kernel
theorem dX9_look_17 : decode cX9_look 17 = .ok (.goto 4, 3) := by decide +kernel
theorem dX9_look_20 : decode cX9_look 20 = .ok (.iconst 1, 1) := by decide +kernel
theorem dX9_look_21 : decode cX9_look 21 = .ok (.putfield 125, 3) := by decide +kernel
theorem dX9_look_24 : decode cX9_look 24 = .ok (.iconst 0, 1) := by decide +kernel
theorem dX9_look_25 : decode cX9_look 25 = .ok (.istore 5, 2) := by decide +kernel
theorem dX9_look_27 : decode cX9_look 27 = .ok (.iload 5, 2) := by decide +kernel
theorem dX9_look_29 : decode cX9_look 29 = .ok (.bipush 27, 2) := by decide +kernel
theorem dX9_look_31 : decode cX9_look 31 = .ok (.aload_n 0, 1) := by decide +kernel
theorem dX9_look_32 : decode cX9_look 32 = .ok (.getfield 125, 3) := by decide +kernel
theorem dX9_look_35 : decode cX9_look 35 = .ok (.imul, 1) := by decide +kernel
theorem dX9_look_36 : decode cX9_look 36 = .ok (.if_icmp .ge 17, 3) := by decide +kernel
theorem dX9_look_39 : decode cX9_look 39 = .ok (.aload_n 0, 1) := by decide +kernel
theorem dX9_look_40 : decode cX9_look 40 = .ok (.getfield 30, 3) := by decide +kernel
theorem dX9_look_43 : decode cX9_look 43 = .ok (.iload 5, 2) := by decide +kernel
theorem dX9_look_45 : decode cX9_look 45 = .ok (.iconst 0, 1) := by decide +kernel
theorem dX9_look_46 : decode cX9_look 46 = .ok (.iastore, 1) := by decide +kernel
theorem dX9_look_47 : decode cX9_look 47 = .ok (.iinc 5 1, 3) := by decide +kernel
theorem dX9_look_50 : decode cX9_look 50 = .ok (.goto (-23), 3) := by decide +kernel
theorem dX9_look_53 : decode cX9_look 53 = .ok (.iload_n 3, 1) := by decide +kernel
theorem dX9_look_54 : decode cX9_look 54 = .ok (.iconst (-1), 1) := by decide +kernel
theorem dX9_look_55 : decode cX9_look 55 = .ok (.if_icmp .ne 7, 3) := by decide +kernel
theorem dX9_look_58 : decode cX9_look 58 = .ok (.iconst (-1), 1) := by decide +kernel
theorem dX9_look_59 : decode cX9_look 59 = .ok (.goto 10, 3) := by decide +kernel
theorem dX9_look_62 : decode cX9_look 62 = .ok (.iload_n 3, 1) := by decide +kernel
theorem dX9_look_63 : decode cX9_look 63 = .ok (.iload 4, 2) := by decide +kernel
theorem dX9_look_65 : decode cX9_look 65 = .ok (.iconst 0, 1) := by decide +kernel
theorem dX9_look_66 : decode cX9_look 66 = .ok (.invokestatic 106, 3) := by decide +kernel
theorem dX9_look_69 : decode cX9_look 69 = .ok (.istore 5, 2) := by decide +kernel
theorem dX9_look_71 : decode cX9_look 71 = .ok (.iload 4, 2) := by decide +kernel
theorem dX9_look_73 : decode cX9_look 73 = .ok (.iconst (-1), 1) := by decide +kernel
theorem dX9_look_74 : decode cX9_look 74 = .ok (.if_icmp .ne 7, 3) := by decide +kernel
theorem dX9_look_77 : decode cX9_look 77 = .ok (.iconst (-1), 1) := by decide +kernel
theorem dX9_look_78 : decode cX9_look 78 = .ok (.goto 10, 3) := by decide +kernel
theorem dX9_look_81 : decode cX9_look 81 = .ok (.iconst (-1), 1) := by decide +kernel
theorem dX9_look_82 : decode cX9_look 82 = .ok (.iload 4, 2) := by decide +kernel
theorem dX9_look_84 : decode cX9_look 84 = .ok (.iconst 0, 1) := by decide +kernel
theorem dX9_look_85 : decode cX9_look 85 = .ok (.invokestatic 106, 3) := by decide +kernel
theorem dX9_look_88 : decode cX9_look 88 = .ok (.istore 6, 2) := by decide +kernel
theorem dX9_look_90 : decode cX9_look 90 = .ok (.iconst 0, 1) := by decide +kernel
theorem dX9_look_91 : decode cX9_look 91 = .ok (.istore 7, 2) := by decide +kernel
theorem dX9_look_93 : decode cX9_look 93 = .ok (.iload 7, 2) := by decide +kernel
theorem dX9_look_95 : decode cX9_look 95 = .ok (.aload_n 1, 1) := by decide +kernel
theorem dX9_look_96 : decode cX9_look 96 = .ok (.iload_n 2, 1) := by decide +kernel
theorem dX9_look_97 : decode cX9_look 97 = .ok (.invokestatic 92, 3) := by decide +kernel
theorem dX9_look_100 : decode cX9_look 100 = .ok (.bipush 11, 2) := by decide +kernel
theorem dX9_look_102 : decode cX9_look 102 = .ok (.iadd, 1) := by decide +kernel
theorem dX9_look_103 : decode cX9_look 103 = .ok (.iaload, 1) := by decide +kernel
theorem dX9_look_104 : decode cX9_look 104 = .ok (.if_icmp .ge 143, 3) := by decide +kernel
theorem dX9_look_107 : decode cX9_look 107 = .ok (.aload_n 1, 1) := by decide +kernel
theorem dX9_look_108 : decode cX9_look 108 = .ok (.iload_n 2, 1) := by decide +kernel
theorem dX9_look_109 : decode cX9_look 109 = .ok (.iload 7, 2) := by decide +kernel
theorem dX9_look_111 : decode cX9_look 111 = .ok (.invokestatic 95, 3) := by decide +kernel
theorem dX9_look_114 : decode cX9_look 114 = .ok (.iaload, 1) := by decide +kernel
theorem dX9_look_115 : decode cX9_look 115 = .ok (.istore 8, 2) := by decide +kernel
theorem dX9_look_117 : decode cX9_look 117 = .ok (.aload_n 1, 1) := by decide +kernel
theorem dX9_look_118 : decode cX9_look 118 = .ok (.iload_n 2, 1) := by decide +kernel
theorem dX9_look_119 : decode cX9_look 119 = .ok (.iload 7, 2) := by decide +kernel
theorem dX9_look_121 : decode cX9_look 121 = .ok (.invokestatic 95, 3) := by decide +kernel
theorem dX9_look_124 : decode cX9_look 124 = .ok (.iconst 1, 1) := by decide +kernel
theorem dX9_look_125 : decode cX9_look 125 = .ok (.iadd, 1) := by decide +kernel
theorem dX9_look_126 : decode cX9_look 126 = .ok (.iaload, 1) := by decide +kernel
theorem dX9_look_127 : decode cX9_look 127 = .ok (.istore 9, 2) := by decide +kernel
theorem dX9_look_129 : decode cX9_look 129 = .ok (.iload 8, 2) := by decide +kernel
theorem dX9_look_131 : decode cX9_look 131 = .ok (.bipush 27, 2) := by decide +kernel
theorem dX9_look_133 : decode cX9_look 133 = .ok (.if_icmp .ge 25, 3) := by decide +kernel
theorem dX9_look_136 : decode cX9_look 136 = .ok (.aload_n 0, 1) := by decide +kernel
theorem dX9_look_137 : decode cX9_look 137 = .ok (.getfield 30, 3) := by decide +kernel
theorem dX9_look_140 : decode cX9_look 140 = .ok (.bipush 27, 2) := by decide +kernel
theorem dX9_look_142 : decode cX9_look 142 = .ok (.aload_n 0, 1) := by decide +kernel
theorem dX9_look_143 : decode cX9_look 143 = .ok (.getfield 125, 3) := by decide +kernel
theorem dX9_look_146 : decode cX9_look 146 = .ok (.iconst 1, 1) := by decide +kernel
theorem dX9_look_147 : decode cX9_look 147 = .ok (.isub, 1) := by decide +kernel
theorem dX9_look_148 : decode cX9_look 148 = .ok (.imul, 1) := by decide +kernel
theorem dX9_look_149 : decode cX9_look 149 = .ok (.iload 8, 2) := by decide +kernel
theorem dX9_look_151 : decode cX9_look 151 = .ok (.iadd, 1) := by decide +kernel
theorem dX9_look_152 : decode cX9_look 152 = .ok (.iload 9, 2) := by decide +kernel
theorem dX9_look_154 : decode cX9_look 154 = .ok (.iastore, 1) := by decide +kernel
theorem dX9_look_155 : decode cX9_look 155 = .ok (.goto 86, 3) := by decide +kernel
theorem dX9_look_158 : decode cX9_look 158 = .ok (.iload 6, 2) := by decide +kernel
theorem dX9_look_160 : decode cX9_look 160 = .ok (.iconst (-1), 1) := by decide +kernel
theorem dX9_look_161 : decode cX9_look 161 = .ok (.if_icmp .eq 45, 3) := by decide +kernel
theorem dX9_look_164 : decode cX9_look 164 = .ok (.iload 8, 2) := by decide +kernel
theorem dX9_look_166 : decode cX9_look 166 = .ok (.iload 6, 2) := by decide +kernel
theorem dX9_look_168 : decode cX9_look 168 = .ok (.iload 6, 2) := by decide +kernel
theorem dX9_look_170 : decode cX9_look 170 = .ok (.bipush 27, 2) := by decide +kernel
theorem dX9_look_172 : decode cX9_look 172 = .ok (.iadd, 1) := by decide +kernel
theorem dX9_look_173 : decode cX9_look 173 = .ok (.iconst 1, 1) := by decide +kernel
theorem dX9_look_174 : decode cX9_look 174 = .ok (.isub, 1) := by decide +kernel
theorem dX9_look_175 : decode cX9_look 175 = .ok (.invokestatic 128, 3) := by decide +kernel
theorem dX9_look_178 : decode cX9_look 178 = .ok (.ifCond .eq 28, 3) := by decide +kernel
theorem dX9_look_181 : decode cX9_look 181 = .ok (.aload_n 0, 1) := by decide +kernel
theorem dX9_look_182 : decode cX9_look 182 = .ok (.getfield 30, 3) := by decide +kernel
theorem dX9_look_185 : decode cX9_look 185 = .ok (.bipush 27, 2) := by decide +kernel
theorem dX9_look_187 : decode cX9_look 187 = .ok (.aload_n 0, 1) := by decide +kernel
theorem dX9_look_188 : decode cX9_look 188 = .ok (.getfield 125, 3) := by decide +kernel
theorem dX9_look_191 : decode cX9_look 191 = .ok (.iconst 2, 1) := by decide +kernel
theorem dX9_look_192 : decode cX9_look 192 = .ok (.isub, 1) := by decide +kernel
theorem dX9_look_193 : decode cX9_look 193 = .ok (.imul, 1) := by decide +kernel
theorem dX9_look_194 : decode cX9_look 194 = .ok (.iload 8, 2) := by decide +kernel
theorem dX9_look_196 : decode cX9_look 196 = .ok (.iadd, 1) := by decide +kernel
theorem dX9_look_197 : decode cX9_look 197 = .ok (.iload 6, 2) := by decide +kernel
theorem dX9_look_199 : decode cX9_look 199 = .ok (.isub, 1) := by decide +kernel
theorem dX9_look_200 : decode cX9_look 200 = .ok (.iload 9, 2) := by decide +kernel
theorem dX9_look_202 : decode cX9_look 202 = .ok (.iastore, 1) := by decide +kernel
theorem dX9_look_203 : decode cX9_look 203 = .ok (.goto 38, 3) := by decide +kernel
theorem dX9_look_206 : decode cX9_look 206 = .ok (.iload 5, 2) := by decide +kernel
theorem dX9_look_208 : decode cX9_look 208 = .ok (.iconst (-1), 1) := by decide +kernel
theorem dX9_look_209 : decode cX9_look 209 = .ok (.if_icmp .eq 32, 3) := by decide +kernel
theorem dX9_look_212 : decode cX9_look 212 = .ok (.iload 8, 2) := by decide +kernel
theorem dX9_look_214 : decode cX9_look 214 = .ok (.iload 5, 2) := by decide +kernel
theorem dX9_look_216 : decode cX9_look 216 = .ok (.iload 5, 2) := by decide +kernel
theorem dX9_look_218 : decode cX9_look 218 = .ok (.bipush 27, 2) := by decide +kernel
theorem dX9_look_220 : decode cX9_look 220 = .ok (.iadd, 1) := by decide +kernel
theorem dX9_look_221 : decode cX9_look 221 = .ok (.iconst 1, 1) := by decide +kernel
theorem dX9_look_222 : decode cX9_look 222 = .ok (.isub, 1) := by decide +kernel
theorem dX9_look_223 : decode cX9_look 223 = .ok (.invokestatic 128, 3) := by decide +kernel
theorem dX9_look_226 : decode cX9_look 226 = .ok (.ifCond .eq 15, 3) := by decide +kernel
theorem dX9_look_229 : decode cX9_look 229 = .ok (.aload_n 0, 1) := by decide +kernel
theorem dX9_look_230 : decode cX9_look 230 = .ok (.getfield 30, 3) := by decide +kernel
theorem dX9_look_233 : decode cX9_look 233 = .ok (.iload 8, 2) := by decide +kernel
theorem dX9_look_235 : decode cX9_look 235 = .ok (.iload 5, 2) := by decide +kernel
theorem dX9_look_237 : decode cX9_look 237 = .ok (.isub, 1) := by decide +kernel
theorem dX9_look_238 : decode cX9_look 238 = .ok (.iload 9, 2) := by decide +kernel
theorem dX9_look_240 : decode cX9_look 240 = .ok (.iastore, 1) := by decide +kernel
theorem dX9_look_241 : decode cX9_look 241 = .ok (.iinc 7 1, 3) := by decide +kernel
theorem dX9_look_244 : decode cX9_look 244 = .ok (.goto (-151), 3) := by decide +kernel
theorem dX9_look_247 : decode cX9_look 247 = .ok (.return_, 1) := by decide +kernel
theorem dX9_append_0 : decode cX9_append 0 = .ok (.aload_n 0, 1) := by decide +kernel
theorem dX9_append_1 : decode cX9_append 1 = .ok (.getfield 33, 3) := by decide +kernel
theorem dX9_append_4 : decode cX9_append 4 = .ok (.aload_n 0, 1) := by decide +kernel
theorem dX9_append_5 : decode cX9_append 5 = .ok (.getfield 132, 3) := by decide +kernel
theorem dX9_append_8 : decode cX9_append 8 = .ok (.iload_n 1, 1) := by decide +kernel
theorem dX9_append_9 : decode cX9_append 9 = .ok (.iastore, 1) := by decide +kernel
theorem dX9_append_10 : decode cX9_append 10 = .ok (.aload_n 0, 1) := by decide +kernel
theorem dX9_append_11 : decode cX9_append 11 = .ok (.dup, 1) := by decide +kernel
theorem dX9_append_12 : decode cX9_append 12 = .ok (.getfield 132, 3) := by decide +kernel
theorem dX9_append_15 : decode cX9_append 15 = .ok (.iconst 1, 1) := by decide +kernel
theorem dX9_append_16 : decode cX9_append 16 = .ok (.iadd, 1) := by decide +kernel
theorem dX9_append_17 : decode cX9_append 17 = .ok (.putfield 132, 3) := by decide +kernel
theorem dX9_append_20 : decode cX9_append 20 = .ok (.aload_n 0, 1) := by decide +kernel
theorem dX9_append_21 : decode cX9_append 21 = .ok (.getfield 36, 3) := by decide +kernel
theorem dX9_append_24 : decode cX9_append 24 = .ok (.iload_n 1, 1) := by decide +kernel
theorem dX9_append_25 : decode cX9_append 25 = .ok (.aload_n 0, 1) := by decide +kernel
theorem dX9_append_26 : decode cX9_append 26 = .ok (.getfield 132, 3) := by decide +kernel
theorem dX9_append_29 : decode cX9_append 29 = .ok (.iastore, 1) := by decide +kernel
theorem dX9_append_30 : decode cX9_append 30 = .ok (.return_, 1) := by decide +kernel
theorem dX9_bestOf_0 : decode cX9_bestOf 0 = .ok (.iconst (-1), 1) := by decide +kernel
theorem dX9_bestOf_1 : decode cX9_bestOf 1 = .ok (.istore_n 2, 1) := by decide +kernel
theorem dX9_bestOf_2 : decode cX9_bestOf 2 = .ok (.iconst 0, 1) := by decide +kernel
theorem dX9_bestOf_3 : decode cX9_bestOf 3 = .ok (.istore_n 3, 1) := by decide +kernel
theorem dX9_bestOf_4 : decode cX9_bestOf 4 = .ok (.iload_n 3, 1) := by decide +kernel
theorem dX9_bestOf_5 : decode cX9_bestOf 5 = .ok (.bipush 27, 2) := by decide +kernel
theorem dX9_bestOf_7 : decode cX9_bestOf 7 = .ok (.if_icmp .ge 59, 3) := by decide +kernel
theorem dX9_bestOf_10 : decode cX9_bestOf 10 = .ok (.aload_n 0, 1) := by decide +kernel
theorem dX9_bestOf_11 : decode cX9_bestOf 11 = .ok (.getfield 30, 3) := by decide +kernel
theorem dX9_bestOf_14 : decode cX9_bestOf 14 = .ok (.bipush 27, 2) := by decide +kernel
theorem dX9_bestOf_16 : decode cX9_bestOf 16 = .ok (.iload_n 1, 1) := by decide +kernel
theorem dX9_bestOf_17 : decode cX9_bestOf 17 = .ok (.imul, 1) := by decide +kernel
theorem dX9_bestOf_18 : decode cX9_bestOf 18 = .ok (.iload_n 3, 1) := by decide +kernel
theorem dX9_bestOf_19 : decode cX9_bestOf 19 = .ok (.iadd, 1) := by decide +kernel
theorem dX9_bestOf_20 : decode cX9_bestOf 20 = .ok (.iaload, 1) := by decide +kernel
theorem dX9_bestOf_21 : decode cX9_bestOf 21 = .ok (.istore 4, 2) := by decide +kernel
theorem dX9_bestOf_23 : decode cX9_bestOf 23 = .ok (.iload 4, 2) := by decide +kernel
theorem dX9_bestOf_25 : decode cX9_bestOf 25 = .ok (.ifCond .le 35, 3) := by decide +kernel
theorem dX9_bestOf_28 : decode cX9_bestOf 28 = .ok (.aload_n 0, 1) := by decide +kernel
theorem dX9_bestOf_29 : decode cX9_bestOf 29 = .ok (.getfield 36, 3) := by decide +kernel
theorem dX9_bestOf_32 : decode cX9_bestOf 32 = .ok (.iload_n 3, 1) := by decide +kernel
theorem dX9_bestOf_33 : decode cX9_bestOf 33 = .ok (.iaload, 1) := by decide +kernel
theorem dX9_bestOf_34 : decode cX9_bestOf 34 = .ok (.ifCond .ne 26, 3) := by decide +kernel
theorem dX9_bestOf_37 : decode cX9_bestOf 37 = .ok (.iload_n 2, 1) := by decide +kernel
theorem dX9_bestOf_38 : decode cX9_bestOf 38 = .ok (.iconst (-1), 1) := by decide +kernel
theorem dX9_bestOf_39 : decode cX9_bestOf 39 = .ok (.if_icmp .eq 19, 3) := by decide +kernel
theorem dX9_bestOf_42 : decode cX9_bestOf 42 = .ok (.iload 4, 2) := by decide +kernel
theorem dX9_bestOf_44 : decode cX9_bestOf 44 = .ok (.aload_n 0, 1) := by decide +kernel
theorem dX9_bestOf_45 : decode cX9_bestOf 45 = .ok (.getfield 30, 3) := by decide +kernel
theorem dX9_bestOf_48 : decode cX9_bestOf 48 = .ok (.bipush 27, 2) := by decide +kernel
theorem dX9_bestOf_50 : decode cX9_bestOf 50 = .ok (.iload_n 1, 1) := by decide +kernel
theorem dX9_bestOf_51 : decode cX9_bestOf 51 = .ok (.imul, 1) := by decide +kernel
theorem dX9_bestOf_52 : decode cX9_bestOf 52 = .ok (.iload_n 2, 1) := by decide +kernel
theorem dX9_bestOf_53 : decode cX9_bestOf 53 = .ok (.iadd, 1) := by decide +kernel
theorem dX9_bestOf_54 : decode cX9_bestOf 54 = .ok (.iaload, 1) := by decide +kernel
theorem dX9_bestOf_55 : decode cX9_bestOf 55 = .ok (.if_icmp .le 5, 3) := by decide +kernel
theorem dX9_bestOf_58 : decode cX9_bestOf 58 = .ok (.iload_n 3, 1) := by decide +kernel
theorem dX9_bestOf_59 : decode cX9_bestOf 59 = .ok (.istore_n 2, 1) := by decide +kernel
theorem dX9_bestOf_60 : decode cX9_bestOf 60 = .ok (.iinc 3 1, 3) := by decide +kernel
theorem dX9_bestOf_63 : decode cX9_bestOf 63 = .ok (.goto (-59), 3) := by decide +kernel
theorem dX9_bestOf_66 : decode cX9_bestOf 66 = .ok (.iload_n 2, 1) := by decide +kernel
theorem dX9_bestOf_67 : decode cX9_bestOf 67 = .ok (.ireturn, 1) := by decide +kernel
theorem dX9_rankAll_0 : decode cX9_rankAll 0 = .ok (.aload_n 0, 1) := by decide +kernel
theorem dX9_rankAll_1 : decode cX9_rankAll 1 = .ok (.aload_n 1, 1) := by decide +kernel
theorem dX9_rankAll_2 : decode cX9_rankAll 2 = .ok (.iload_n 2, 1) := by decide +kernel
theorem dX9_rankAll_3 : decode cX9_rankAll 3 = .ok (.iload_n 3, 1) := by decide +kernel
theorem dX9_rankAll_4 : decode cX9_rankAll 4 = .ok (.iload 4, 2) := by decide +kernel
theorem dX9_rankAll_6 : decode cX9_rankAll 6 = .ok (.invokevirtual 135, 3) := by decide +kernel
theorem dX9_rankAll_9 : decode cX9_rankAll 9 = .ok (.aload_n 0, 1) := by decide +kernel
theorem dX9_rankAll_10 : decode cX9_rankAll 10 = .ok (.iconst 0, 1) := by decide +kernel
theorem dX9_rankAll_11 : decode cX9_rankAll 11 = .ok (.putfield 132, 3) := by decide +kernel
theorem dX9_rankAll_14 : decode cX9_rankAll 14 = .ok (.iconst 0, 1) := by decide +kernel
theorem dX9_rankAll_15 : decode cX9_rankAll 15 = .ok (.istore 5, 2) := by decide +kernel
theorem dX9_rankAll_17 : decode cX9_rankAll 17 = .ok (.iload 5, 2) := by decide +kernel
theorem dX9_rankAll_19 : decode cX9_rankAll 19 = .ok (.bipush 27, 2) := by decide +kernel
theorem dX9_rankAll_21 : decode cX9_rankAll 21 = .ok (.if_icmp .ge 17, 3) := by decide +kernel
theorem dX9_rankAll_24 : decode cX9_rankAll 24 = .ok (.aload_n 0, 1) := by decide +kernel
theorem dX9_rankAll_25 : decode cX9_rankAll 25 = .ok (.getfield 36, 3) := by decide +kernel
theorem dX9_rankAll_28 : decode cX9_rankAll 28 = .ok (.iload 5, 2) := by decide +kernel
theorem dX9_rankAll_30 : decode cX9_rankAll 30 = .ok (.iconst 0, 1) := by decide +kernel
theorem dX9_rankAll_31 : decode cX9_rankAll 31 = .ok (.iastore, 1) := by decide +kernel
theorem dX9_rankAll_32 : decode cX9_rankAll 32 = .ok (.iinc 5 1, 3) := by decide +kernel
theorem dX9_rankAll_35 : decode cX9_rankAll 35 = .ok (.goto (-18), 3) := by decide +kernel
theorem dX9_rankAll_38 : decode cX9_rankAll 38 = .ok (.iconst 0, 1) := by decide +kernel
theorem dX9_rankAll_39 : decode cX9_rankAll 39 = .ok (.istore 5, 2) := by decide +kernel
theorem dX9_rankAll_41 : decode cX9_rankAll 41 = .ok (.iload 5, 2) := by decide +kernel
theorem dX9_rankAll_43 : decode cX9_rankAll 43 = .ok (.aload_n 0, 1) := by decide +kernel
theorem dX9_rankAll_44 : decode cX9_rankAll 44 = .ok (.getfield 125, 3) := by decide +kernel
theorem dX9_rankAll_47 : decode cX9_rankAll 47 = .ok (.if_icmp .ge 40, 3) := by decide +kernel
theorem dX9_rankAll_50 : decode cX9_rankAll 50 = .ok (.aload_n 0, 1) := by decide +kernel
theorem dX9_rankAll_51 : decode cX9_rankAll 51 = .ok (.iload 5, 2) := by decide +kernel
theorem dX9_rankAll_53 : decode cX9_rankAll 53 = .ok (.invokevirtual 138, 3) := by decide +kernel
theorem dX9_rankAll_56 : decode cX9_rankAll 56 = .ok (.istore 6, 2) := by decide +kernel
theorem dX9_rankAll_58 : decode cX9_rankAll 58 = .ok (.iload 6, 2) := by decide +kernel
theorem dX9_rankAll_60 : decode cX9_rankAll 60 = .ok (.iconst (-1), 1) := by decide +kernel
theorem dX9_rankAll_61 : decode cX9_rankAll 61 = .ok (.if_icmp .eq 20, 3) := by decide +kernel
theorem dX9_rankAll_64 : decode cX9_rankAll 64 = .ok (.aload_n 0, 1) := by decide +kernel
theorem dX9_rankAll_65 : decode cX9_rankAll 65 = .ok (.iload 6, 2) := by decide +kernel
theorem dX9_rankAll_67 : decode cX9_rankAll 67 = .ok (.invokevirtual 141, 3) := by decide +kernel
theorem dX9_rankAll_70 : decode cX9_rankAll 70 = .ok (.aload_n 0, 1) := by decide +kernel
theorem dX9_rankAll_71 : decode cX9_rankAll 71 = .ok (.iload 5, 2) := by decide +kernel
theorem dX9_rankAll_73 : decode cX9_rankAll 73 = .ok (.invokevirtual 138, 3) := by decide +kernel
theorem dX9_rankAll_76 : decode cX9_rankAll 76 = .ok (.istore 6, 2) := by decide +kernel
theorem dX9_rankAll_78 : decode cX9_rankAll 78 = .ok (.goto (-20), 3) := by decide +kernel
theorem dX9_rankAll_81 : decode cX9_rankAll 81 = .ok (.iinc 5 1, 3) := by decide +kernel
theorem dX9_rankAll_84 : decode cX9_rankAll 84 = .ok (.goto (-43), 3) := by decide +kernel
theorem dX9_rankAll_87 : decode cX9_rankAll 87 = .ok (.iconst 0, 1) := by decide +kernel
theorem dX9_rankAll_88 : decode cX9_rankAll 88 = .ok (.istore 5, 2) := by decide +kernel
theorem dX9_rankAll_90 : decode cX9_rankAll 90 = .ok (.iload 5, 2) := by decide +kernel
theorem dX9_rankAll_92 : decode cX9_rankAll 92 = .ok (.bipush 27, 2) := by decide +kernel
theorem dX9_rankAll_94 : decode cX9_rankAll 94 = .ok (.if_icmp .ge 25, 3) := by decide +kernel
theorem dX9_rankAll_97 : decode cX9_rankAll 97 = .ok (.aload_n 0, 1) := by decide +kernel
theorem dX9_rankAll_98 : decode cX9_rankAll 98 = .ok (.getfield 36, 3) := by decide +kernel
theorem dX9_rankAll_101 : decode cX9_rankAll 101 = .ok (.iload 5, 2) := by decide +kernel
theorem dX9_rankAll_103 : decode cX9_rankAll 103 = .ok (.iaload, 1) := by decide +kernel
theorem dX9_rankAll_104 : decode cX9_rankAll 104 = .ok (.ifCond .ne 9, 3) := by decide +kernel
theorem dX9_rankAll_107 : decode cX9_rankAll 107 = .ok (.aload_n 0, 1) := by decide +kernel
theorem dX9_rankAll_108 : decode cX9_rankAll 108 = .ok (.iload 5, 2) := by decide +kernel
theorem dX9_rankAll_110 : decode cX9_rankAll 110 = .ok (.invokevirtual 141, 3) := by decide +kernel
theorem dX9_rankAll_113 : decode cX9_rankAll 113 = .ok (.iinc 5 1, 3) := by decide +kernel
theorem dX9_rankAll_116 : decode cX9_rankAll 116 = .ok (.goto (-26), 3) := by decide +kernel
theorem dX9_rankAll_119 : decode cX9_rankAll 119 = .ok (.return_, 1) := by decide +kernel
theorem dX9_rankIn_0 : decode cX9_rankIn 0 = .ok (.aload_n 0, 1) := by decide +kernel
theorem dX9_rankIn_1 : decode cX9_rankIn 1 = .ok (.aload_n 1, 1) := by decide +kernel
theorem dX9_rankIn_2 : decode cX9_rankIn 2 = .ok (.iload_n 2, 1) := by decide +kernel
theorem dX9_rankIn_3 : decode cX9_rankIn 3 = .ok (.aload_n 1, 1) := by decide +kernel
theorem dX9_rankIn_4 : decode cX9_rankIn 4 = .ok (.iload_n 3, 1) := by decide +kernel
theorem dX9_rankIn_5 : decode cX9_rankIn 5 = .ok (.iload 4, 2) := by decide +kernel
theorem dX9_rankIn_7 : decode cX9_rankIn 7 = .ok (.iconst 2, 1) := by decide +kernel
theorem dX9_rankIn_8 : decode cX9_rankIn 8 = .ok (.isub, 1) := by decide +kernel
theorem dX9_rankIn_9 : decode cX9_rankIn 9 = .ok (.invokestatic 103, 3) := by decide +kernel
theorem dX9_rankIn_12 : decode cX9_rankIn 12 = .ok (.aload_n 1, 1) := by decide +kernel
theorem dX9_rankIn_13 : decode cX9_rankIn 13 = .ok (.iload_n 3, 1) := by decide +kernel
theorem dX9_rankIn_14 : decode cX9_rankIn 14 = .ok (.iload 4, 2) := by decide +kernel
theorem dX9_rankIn_16 : decode cX9_rankIn 16 = .ok (.iconst 1, 1) := by decide +kernel
theorem dX9_rankIn_17 : decode cX9_rankIn 17 = .ok (.isub, 1) := by decide +kernel
theorem dX9_rankIn_18 : decode cX9_rankIn 18 = .ok (.invokestatic 103, 3) := by decide +kernel
theorem dX9_rankIn_21 : decode cX9_rankIn 21 = .ok (.invokevirtual 145, 3) := by decide +kernel
theorem dX9_rankIn_24 : decode cX9_rankIn 24 = .ok (.aload_n 0, 1) := by decide +kernel
theorem dX9_rankIn_25 : decode cX9_rankIn 25 = .ok (.getfield 36, 3) := by decide +kernel
theorem dX9_rankIn_28 : decode cX9_rankIn 28 = .ok (.aload_n 1, 1) := by decide +kernel
theorem dX9_rankIn_29 : decode cX9_rankIn 29 = .ok (.iload_n 3, 1) := by decide +kernel
theorem dX9_rankIn_30 : decode cX9_rankIn 30 = .ok (.iload 4, 2) := by decide +kernel
theorem dX9_rankIn_32 : decode cX9_rankIn 32 = .ok (.invokestatic 103, 3) := by decide +kernel
theorem dX9_rankIn_35 : decode cX9_rankIn 35 = .ok (.iaload, 1) := by decide +kernel
theorem dX9_rankIn_36 : decode cX9_rankIn 36 = .ok (.ireturn, 1) := by decide +kernel
theorem dX9_guesses_0 : decode cX9_guesses 0 = .ok (.iconst 0, 1) := by decide +kernel
theorem dX9_guesses_1 : decode cX9_guesses 1 = .ok (.istore 4, 2) := by decide +kernel
theorem dX9_guesses_3 : decode cX9_guesses 3 = .ok (.iconst 0, 1) := by decide +kernel
theorem dX9_guesses_4 : decode cX9_guesses 4 = .ok (.istore 5, 2) := by decide +kernel
theorem dX9_guesses_6 : decode cX9_guesses 6 = .ok (.iload 5, 2) := by decide +kernel
theorem dX9_guesses_8 : decode cX9_guesses 8 = .ok (.aload_n 1, 1) := by decide +kernel
theorem dX9_guesses_9 : decode cX9_guesses 9 = .ok (.iload_n 3, 1) := by decide +kernel
theorem dX9_guesses_10 : decode cX9_guesses 10 = .ok (.invokestatic 114, 3) := by decide +kernel
theorem dX9_guesses_13 : decode cX9_guesses 13 = .ok (.if_icmp .ge 23, 3) := by decide +kernel
theorem dX9_guesses_16 : decode cX9_guesses 16 = .ok (.iload 4, 2) := by decide +kernel
theorem dX9_guesses_18 : decode cX9_guesses 18 = .ok (.aload_n 0, 1) := by decide +kernel
theorem dX9_guesses_19 : decode cX9_guesses 19 = .ok (.aload_n 1, 1) := by decide +kernel
theorem dX9_guesses_20 : decode cX9_guesses 20 = .ok (.iload_n 2, 1) := by decide +kernel
theorem dX9_guesses_21 : decode cX9_guesses 21 = .ok (.iload_n 3, 1) := by decide +kernel
theorem dX9_guesses_22 : decode cX9_guesses 22 = .ok (.iload 5, 2) := by decide +kernel
theorem dX9_guesses_24 : decode cX9_guesses 24 = .ok (.invokevirtual 148, 3) := by decide +kernel
theorem dX9_guesses_27 : decode cX9_guesses 27 = .ok (.iadd, 1) := by decide +kernel
theorem dX9_guesses_28 : decode cX9_guesses 28 = .ok (.istore 4, 2) := by decide +kernel
theorem dX9_guesses_30 : decode cX9_guesses 30 = .ok (.iinc 5 1, 3) := by decide +kernel
theorem dX9_guesses_33 : decode cX9_guesses 33 = .ok (.goto (-27), 3) := by decide +kernel
theorem dX9_guesses_36 : decode cX9_guesses 36 = .ok (.iload 4, 2) := by decide +kernel
theorem dX9_guesses_38 : decode cX9_guesses 38 = .ok (.ireturn, 1) := by decide +kernel
theorem dX9_found_0 : decode cX9_found 0 = .ok (.aload_n 0, 1) := by decide +kernel
theorem dX9_found_1 : decode cX9_found 1 = .ok (.aload_n 1, 1) := by decide +kernel
theorem dX9_found_2 : decode cX9_found 2 = .ok (.iload_n 2, 1) := by decide +kernel
theorem dX9_found_3 : decode cX9_found 3 = .ok (.iload_n 3, 1) := by decide +kernel
theorem dX9_found_4 : decode cX9_found 4 = .ok (.iload 4, 2) := by decide +kernel
theorem dX9_found_6 : decode cX9_found 6 = .ok (.invokevirtual 135, 3) := by decide +kernel
theorem dX9_found_9 : decode cX9_found 9 = .ok (.iconst 0, 1) := by decide +kernel
theorem dX9_found_10 : decode cX9_found 10 = .ok (.istore 6, 2) := by decide +kernel
theorem dX9_found_12 : decode cX9_found 12 = .ok (.iload 6, 2) := by decide +kernel
theorem dX9_found_14 : decode cX9_found 14 = .ok (.aload_n 0, 1) := by decide +kernel
theorem dX9_found_15 : decode cX9_found 15 = .ok (.getfield 125, 3) := by decide +kernel
theorem dX9_found_18 : decode cX9_found 18 = .ok (.if_icmp .ge 35, 3) := by decide +kernel
theorem dX9_found_21 : decode cX9_found 21 = .ok (.aload_n 0, 1) := by decide +kernel
theorem dX9_found_22 : decode cX9_found 22 = .ok (.getfield 30, 3) := by decide +kernel
theorem dX9_found_25 : decode cX9_found 25 = .ok (.bipush 27, 2) := by decide +kernel
theorem dX9_found_27 : decode cX9_found 27 = .ok (.iload 6, 2) := by decide +kernel
theorem dX9_found_29 : decode cX9_found 29 = .ok (.imul, 1) := by decide +kernel
theorem dX9_found_30 : decode cX9_found 30 = .ok (.iload 5, 2) := by decide +kernel
theorem dX9_found_32 : decode cX9_found 32 = .ok (.iadd, 1) := by decide +kernel
theorem dX9_found_33 : decode cX9_found 33 = .ok (.iaload, 1) := by decide +kernel
theorem dX9_found_34 : decode cX9_found 34 = .ok (.ifCond .le 13, 3) := by decide +kernel
theorem dX9_found_37 : decode cX9_found 37 = .ok (.aload_n 0, 1) := by decide +kernel
theorem dX9_found_38 : decode cX9_found 38 = .ok (.getfield 125, 3) := by decide +kernel
theorem dX9_found_41 : decode cX9_found 41 = .ok (.iconst 1, 1) := by decide +kernel
theorem dX9_found_42 : decode cX9_found 42 = .ok (.isub, 1) := by decide +kernel
theorem dX9_found_43 : decode cX9_found 43 = .ok (.iload 6, 2) := by decide +kernel
theorem dX9_found_45 : decode cX9_found 45 = .ok (.isub, 1) := by decide +kernel
theorem dX9_found_46 : decode cX9_found 46 = .ok (.ireturn, 1) := by decide +kernel
theorem dX9_found_47 : decode cX9_found 47 = .ok (.iinc 6 1, 3) := by decide +kernel
theorem dX9_found_50 : decode cX9_found 50 = .ok (.goto (-38), 3) := by decide +kernel
theorem dX9_found_53 : decode cX9_found 53 = .ok (.iconst (-1), 1) := by decide +kernel
theorem dX9_found_54 : decode cX9_found 54 = .ok (.ireturn, 1) := by decide +kernel
theorem dX9_divisor_0 : decode cX9_divisor 0 = .ok (.lload_n 0, 1) := by decide +kernel
theorem dX9_divisor_1 : decode cX9_divisor 1 = .ok (.lstore 4, 2) := by decide +kernel
theorem dX9_divisor_3 : decode cX9_divisor 3 = .ok (.lload_n 2, 1) := by decide +kernel
theorem dX9_divisor_4 : decode cX9_divisor 4 = .ok (.lstore 6, 2) := by decide +kernel
theorem dX9_divisor_6 : decode cX9_divisor 6 = .ok (.lload 6, 2) := by decide +kernel
theorem dX9_divisor_8 : decode cX9_divisor 8 = .ok (.lconst 0, 1) := by decide +kernel
theorem dX9_divisor_9 : decode cX9_divisor 9 = .ok (.lcmp, 1) := by decide +kernel
theorem dX9_divisor_10 : decode cX9_divisor 10 = .ok (.ifCond .eq 21, 3) := by decide +kernel
theorem dX9_divisor_13 : decode cX9_divisor 13 = .ok (.lload 4, 2) := by decide +kernel
theorem dX9_divisor_15 : decode cX9_divisor 15 = .ok (.lload 6, 2) := by decide +kernel
theorem dX9_divisor_17 : decode cX9_divisor 17 = .ok (.lrem, 1) := by decide +kernel
theorem dX9_divisor_18 : decode cX9_divisor 18 = .ok (.lstore 8, 2) := by decide +kernel
theorem dX9_divisor_20 : decode cX9_divisor 20 = .ok (.lload 6, 2) := by decide +kernel
theorem dX9_divisor_22 : decode cX9_divisor 22 = .ok (.lstore 4, 2) := by decide +kernel
theorem dX9_divisor_24 : decode cX9_divisor 24 = .ok (.lload 8, 2) := by decide +kernel
theorem dX9_divisor_26 : decode cX9_divisor 26 = .ok (.lstore 6, 2) := by decide +kernel
theorem dX9_divisor_28 : decode cX9_divisor 28 = .ok (.goto (-22), 3) := by decide +kernel
theorem dX9_divisor_31 : decode cX9_divisor 31 = .ok (.lload 4, 2) := by decide +kernel
theorem dX9_divisor_33 : decode cX9_divisor 33 = .ok (.lreturn, 1) := by decide +kernel
theorem dX9_times_0 : decode cX9_times 0 = .ok (.aload_n 0, 1) := by decide +kernel
theorem dX9_times_1 : decode cX9_times 1 = .ok (.dup, 1) := by decide +kernel
theorem dX9_times_2 : decode cX9_times 2 = .ok (.getfield 152, 3) := by decide +kernel
theorem dX9_times_5 : decode cX9_times 5 = .ok (.lload_n 1, 1) := by decide +kernel
theorem dX9_times_6 : decode cX9_times 6 = .ok (.lmul, 1) := by decide +kernel
theorem dX9_times_7 : decode cX9_times 7 = .ok (.putfield 152, 3) := by decide +kernel
theorem dX9_times_10 : decode cX9_times 10 = .ok (.aload_n 0, 1) := by decide +kernel
theorem dX9_times_11 : decode cX9_times 11 = .ok (.dup, 1) := by decide +kernel
theorem dX9_times_12 : decode cX9_times 12 = .ok (.getfield 156, 3) := by decide +kernel
theorem dX9_times_15 : decode cX9_times 15 = .ok (.lload_n 3, 1) := by decide +kernel
theorem dX9_times_16 : decode cX9_times 16 = .ok (.lmul, 1) := by decide +kernel
theorem dX9_times_17 : decode cX9_times 17 = .ok (.putfield 156, 3) := by decide +kernel
theorem dX9_times_20 : decode cX9_times 20 = .ok (.aload_n 0, 1) := by decide +kernel
theorem dX9_times_21 : decode cX9_times 21 = .ok (.getfield 152, 3) := by decide +kernel
theorem dX9_times_24 : decode cX9_times 24 = .ok (.aload_n 0, 1) := by decide +kernel
theorem dX9_times_25 : decode cX9_times 25 = .ok (.getfield 156, 3) := by decide +kernel
theorem dX9_times_28 : decode cX9_times 28 = .ok (.invokestatic 159, 3) := by decide +kernel
theorem dX9_times_31 : decode cX9_times 31 = .ok (.lstore 5, 2) := by decide +kernel
theorem dX9_times_33 : decode cX9_times 33 = .ok (.aload_n 0, 1) := by decide +kernel
theorem dX9_times_34 : decode cX9_times 34 = .ok (.dup, 1) := by decide +kernel
theorem dX9_times_35 : decode cX9_times 35 = .ok (.getfield 152, 3) := by decide +kernel
theorem dX9_times_38 : decode cX9_times 38 = .ok (.lload 5, 2) := by decide +kernel
theorem dX9_times_40 : decode cX9_times 40 = .ok (.ldiv, 1) := by decide +kernel
theorem dX9_times_41 : decode cX9_times 41 = .ok (.putfield 152, 3) := by decide +kernel
theorem dX9_times_44 : decode cX9_times 44 = .ok (.aload_n 0, 1) := by decide +kernel
theorem dX9_times_45 : decode cX9_times 45 = .ok (.dup, 1) := by decide +kernel
theorem dX9_times_46 : decode cX9_times 46 = .ok (.getfield 156, 3) := by decide +kernel
theorem dX9_times_49 : decode cX9_times 49 = .ok (.lload 5, 2) := by decide +kernel
theorem dX9_times_51 : decode cX9_times 51 = .ok (.ldiv, 1) := by decide +kernel
theorem dX9_times_52 : decode cX9_times 52 = .ok (.putfield 156, 3) := by decide +kernel
theorem dX9_times_55 : decode cX9_times 55 = .ok (.return_, 1) := by decide +kernel
theorem dX9_isThere_0 : decode cX9_isThere 0 = .ok (.aload_n 0, 1) := by decide +kernel
theorem dX9_isThere_1 : decode cX9_isThere 1 = .ok (.getfield 30, 3) := by decide +kernel
theorem dX9_isThere_4 : decode cX9_isThere 4 = .ok (.bipush 27, 2) := by decide +kernel
theorem dX9_isThere_6 : decode cX9_isThere 6 = .ok (.iload_n 1, 1) := by decide +kernel
theorem dX9_isThere_7 : decode cX9_isThere 7 = .ok (.imul, 1) := by decide +kernel
theorem dX9_isThere_8 : decode cX9_isThere 8 = .ok (.iload_n 2, 1) := by decide +kernel
theorem dX9_isThere_9 : decode cX9_isThere 9 = .ok (.iadd, 1) := by decide +kernel
theorem dX9_isThere_10 : decode cX9_isThere 10 = .ok (.iaload, 1) := by decide +kernel
theorem dX9_isThere_11 : decode cX9_isThere 11 = .ok (.ifCond .le 16, 3) := by decide +kernel
theorem dX9_isThere_14 : decode cX9_isThere 14 = .ok (.aload_n 0, 1) := by decide +kernel
theorem dX9_isThere_15 : decode cX9_isThere 15 = .ok (.getfield 39, 3) := by decide +kernel
theorem dX9_isThere_18 : decode cX9_isThere 18 = .ok (.iload_n 2, 1) := by decide +kernel
theorem dX9_isThere_19 : decode cX9_isThere 19 = .ok (.baload, 1) := by decide +kernel
theorem dX9_isThere_20 : decode cX9_isThere 20 = .ok (.ifCond .ne 7, 3) := by decide +kernel
theorem dX9_isThere_23 : decode cX9_isThere 23 = .ok (.iconst 1, 1) := by decide +kernel
theorem dX9_isThere_24 : decode cX9_isThere 24 = .ok (.goto 4, 3) := by decide +kernel
theorem dX9_isThere_27 : decode cX9_isThere 27 = .ok (.iconst 0, 1) := by decide +kernel
theorem dX9_isThere_28 : decode cX9_isThere 28 = .ok (.ireturn, 1) := by decide +kernel
theorem dX9_sumAt_0 : decode cX9_sumAt 0 = .ok (.iconst 0, 1) := by decide +kernel
theorem dX9_sumAt_1 : decode cX9_sumAt 1 = .ok (.istore_n 2, 1) := by decide +kernel
theorem dX9_sumAt_2 : decode cX9_sumAt 2 = .ok (.iconst 0, 1) := by decide +kernel
theorem dX9_sumAt_3 : decode cX9_sumAt 3 = .ok (.istore_n 3, 1) := by decide +kernel
theorem dX9_sumAt_4 : decode cX9_sumAt 4 = .ok (.iload_n 3, 1) := by decide +kernel
theorem dX9_sumAt_5 : decode cX9_sumAt 5 = .ok (.bipush 27, 2) := by decide +kernel
theorem dX9_sumAt_7 : decode cX9_sumAt 7 = .ok (.if_icmp .ge 36, 3) := by decide +kernel
theorem dX9_sumAt_10 : decode cX9_sumAt 10 = .ok (.iload_n 2, 1) := by decide +kernel
theorem dX9_sumAt_11 : decode cX9_sumAt 11 = .ok (.aload_n 0, 1) := by decide +kernel
theorem dX9_sumAt_12 : decode cX9_sumAt 12 = .ok (.iload_n 1, 1) := by decide +kernel
theorem dX9_sumAt_13 : decode cX9_sumAt 13 = .ok (.iload_n 3, 1) := by decide +kernel
theorem dX9_sumAt_14 : decode cX9_sumAt 14 = .ok (.invokevirtual 163, 3) := by decide +kernel
theorem dX9_sumAt_17 : decode cX9_sumAt 17 = .ok (.ifCond .eq 17, 3) := by decide +kernel
theorem dX9_sumAt_20 : decode cX9_sumAt 20 = .ok (.aload_n 0, 1) := by decide +kernel
theorem dX9_sumAt_21 : decode cX9_sumAt 21 = .ok (.getfield 30, 3) := by decide +kernel
theorem dX9_sumAt_24 : decode cX9_sumAt 24 = .ok (.bipush 27, 2) := by decide +kernel
theorem dX9_sumAt_26 : decode cX9_sumAt 26 = .ok (.iload_n 1, 1) := by decide +kernel
theorem dX9_sumAt_27 : decode cX9_sumAt 27 = .ok (.imul, 1) := by decide +kernel
theorem dX9_sumAt_28 : decode cX9_sumAt 28 = .ok (.iload_n 3, 1) := by decide +kernel
theorem dX9_sumAt_29 : decode cX9_sumAt 29 = .ok (.iadd, 1) := by decide +kernel
theorem dX9_sumAt_30 : decode cX9_sumAt 30 = .ok (.iaload, 1) := by decide +kernel
theorem dX9_sumAt_31 : decode cX9_sumAt 31 = .ok (.goto 4, 3) := by decide +kernel
theorem dX9_sumAt_34 : decode cX9_sumAt 34 = .ok (.iconst 0, 1) := by decide +kernel
theorem dX9_sumAt_35 : decode cX9_sumAt 35 = .ok (.iadd, 1) := by decide +kernel
theorem dX9_sumAt_36 : decode cX9_sumAt 36 = .ok (.istore_n 2, 1) := by decide +kernel
theorem dX9_sumAt_37 : decode cX9_sumAt 37 = .ok (.iinc 3 1, 3) := by decide +kernel
theorem dX9_sumAt_40 : decode cX9_sumAt 40 = .ok (.goto (-36), 3) := by decide +kernel
theorem dX9_sumAt_43 : decode cX9_sumAt 43 = .ok (.iload_n 2, 1) := by decide +kernel
theorem dX9_sumAt_44 : decode cX9_sumAt 44 = .ok (.ireturn, 1) := by decide +kernel
theorem dX9_manyAt_0 : decode cX9_manyAt 0 = .ok (.iconst 0, 1) := by decide +kernel
theorem dX9_manyAt_1 : decode cX9_manyAt 1 = .ok (.istore_n 2, 1) := by decide +kernel
theorem dX9_manyAt_2 : decode cX9_manyAt 2 = .ok (.iconst 0, 1) := by decide +kernel
theorem dX9_manyAt_3 : decode cX9_manyAt 3 = .ok (.istore_n 3, 1) := by decide +kernel
theorem dX9_manyAt_4 : decode cX9_manyAt 4 = .ok (.iload_n 3, 1) := by decide +kernel
theorem dX9_manyAt_5 : decode cX9_manyAt 5 = .ok (.bipush 27, 2) := by decide +kernel
theorem dX9_manyAt_7 : decode cX9_manyAt 7 = .ok (.if_icmp .ge 26, 3) := by decide +kernel
theorem dX9_manyAt_10 : decode cX9_manyAt 10 = .ok (.iload_n 2, 1) := by decide +kernel
theorem dX9_manyAt_11 : decode cX9_manyAt 11 = .ok (.aload_n 0, 1) := by decide +kernel
theorem dX9_manyAt_12 : decode cX9_manyAt 12 = .ok (.iload_n 1, 1) := by decide +kernel
theorem dX9_manyAt_13 : decode cX9_manyAt 13 = .ok (.iload_n 3, 1) := by decide +kernel
theorem dX9_manyAt_14 : decode cX9_manyAt 14 = .ok (.invokevirtual 163, 3) := by decide +kernel
theorem dX9_manyAt_17 : decode cX9_manyAt 17 = .ok (.ifCond .eq 7, 3) := by decide +kernel
theorem dX9_manyAt_20 : decode cX9_manyAt 20 = .ok (.iconst 1, 1) := by decide +kernel
theorem dX9_manyAt_21 : decode cX9_manyAt 21 = .ok (.goto 4, 3) := by decide +kernel
theorem dX9_manyAt_24 : decode cX9_manyAt 24 = .ok (.iconst 0, 1) := by decide +kernel
theorem dX9_manyAt_25 : decode cX9_manyAt 25 = .ok (.iadd, 1) := by decide +kernel
theorem dX9_manyAt_26 : decode cX9_manyAt 26 = .ok (.istore_n 2, 1) := by decide +kernel
theorem dX9_manyAt_27 : decode cX9_manyAt 27 = .ok (.iinc 3 1, 3) := by decide +kernel
theorem dX9_manyAt_30 : decode cX9_manyAt 30 = .ok (.goto (-26), 3) := by decide +kernel
theorem dX9_manyAt_33 : decode cX9_manyAt 33 = .ok (.iload_n 2, 1) := by decide +kernel
theorem dX9_manyAt_34 : decode cX9_manyAt 34 = .ok (.ireturn, 1) := by decide +kernel
theorem dX9_factor_0 : decode cX9_factor 0 = .ok (.iload_n 2, 1) := by decide +kernel
theorem dX9_factor_1 : decode cX9_factor 1 = .ok (.ifCond .ne 7, 3) := by decide +kernel
theorem dX9_factor_4 : decode cX9_factor 4 = .ok (.iconst 1, 1) := by decide +kernel
theorem dX9_factor_5 : decode cX9_factor 5 = .ok (.goto 4, 3) := by decide +kernel
theorem dX9_factor_8 : decode cX9_factor 8 = .ok (.iconst 0, 1) := by decide +kernel
theorem dX9_factor_9 : decode cX9_factor 9 = .ok (.istore 5, 2) := by decide +kernel
theorem dX9_factor_11 : decode cX9_factor 11 = .ok (.iload_n 1, 1) := by decide +kernel
theorem dX9_factor_12 : decode cX9_factor 12 = .ok (.ifCond .ne 25, 3) := by decide +kernel
theorem dX9_factor_15 : decode cX9_factor 15 = .ok (.aload_n 0, 1) := by decide +kernel
theorem dX9_factor_16 : decode cX9_factor 16 = .ok (.iload 5, 2) := by decide +kernel
theorem dX9_factor_18 : decode cX9_factor 18 = .ok (.ifCond .eq 7, 3) := by decide +kernel
theorem dX9_factor_21 : decode cX9_factor 21 = .ok (.lconst 1, 1) := by decide +kernel
theorem dX9_factor_22 : decode cX9_factor 22 = .ok (.goto 5, 3) := by decide +kernel
theorem dX9_factor_25 : decode cX9_factor 25 = .ok (.iload_n 2, 1) := by decide +kernel
theorem dX9_factor_26 : decode cX9_factor 26 = .ok (.i2l, 1) := by decide +kernel
theorem dX9_factor_27 : decode cX9_factor 27 = .ok (.iload_n 3, 1) := by decide +kernel
theorem dX9_factor_28 : decode cX9_factor 28 = .ok (.i2l, 1) := by decide +kernel
theorem dX9_factor_29 : decode cX9_factor 29 = .ok (.lconst 1, 1) := by decide +kernel
theorem dX9_factor_30 : decode cX9_factor 30 = .ok (.ladd, 1) := by decide +kernel
theorem dX9_factor_31 : decode cX9_factor 31 = .ok (.invokevirtual 167, 3) := by decide +kernel
theorem dX9_factor_34 : decode cX9_factor 34 = .ok (.goto 63, 3) := by decide +kernel
theorem dX9_factor_37 : decode cX9_factor 37 = .ok (.iload_n 1, 1) := by decide +kernel
theorem dX9_factor_38 : decode cX9_factor 38 = .ok (.iconst 1, 1) := by decide +kernel
theorem dX9_factor_39 : decode cX9_factor 39 = .ok (.if_icmp .ne 29, 3) := by decide +kernel
theorem dX9_factor_42 : decode cX9_factor 42 = .ok (.aload_n 0, 1) := by decide +kernel
theorem dX9_factor_43 : decode cX9_factor 43 = .ok (.iload 5, 2) := by decide +kernel
theorem dX9_factor_45 : decode cX9_factor 45 = .ok (.ifCond .eq 9, 3) := by decide +kernel
theorem dX9_factor_48 : decode cX9_factor 48 = .ok (.iload 4, 2) := by decide +kernel
theorem dX9_factor_50 : decode cX9_factor 50 = .ok (.i2l, 1) := by decide +kernel
theorem dX9_factor_51 : decode cX9_factor 51 = .ok (.goto 5, 3) := by decide +kernel
theorem dX9_factor_54 : decode cX9_factor 54 = .ok (.iload_n 2, 1) := by decide +kernel
theorem dX9_factor_55 : decode cX9_factor 55 = .ok (.i2l, 1) := by decide +kernel
theorem dX9_factor_56 : decode cX9_factor 56 = .ok (.iload_n 3, 1) := by decide +kernel
theorem dX9_factor_57 : decode cX9_factor 57 = .ok (.i2l, 1) := by decide +kernel
theorem dX9_factor_58 : decode cX9_factor 58 = .ok (.iload 4, 2) := by decide +kernel
theorem dX9_factor_60 : decode cX9_factor 60 = .ok (.i2l, 1) := by decide +kernel
theorem dX9_factor_61 : decode cX9_factor 61 = .ok (.ladd, 1) := by decide +kernel
theorem dX9_factor_62 : decode cX9_factor 62 = .ok (.invokevirtual 167, 3) := by decide +kernel
theorem dX9_factor_65 : decode cX9_factor 65 = .ok (.goto 32, 3) := by decide +kernel
theorem dX9_factor_68 : decode cX9_factor 68 = .ok (.aload_n 0, 1) := by decide +kernel
theorem dX9_factor_69 : decode cX9_factor 69 = .ok (.iload 5, 2) := by decide +kernel
theorem dX9_factor_71 : decode cX9_factor 71 = .ok (.ifCond .eq 9, 3) := by decide +kernel
theorem dX9_factor_74 : decode cX9_factor 74 = .ok (.iload 4, 2) := by decide +kernel
theorem dX9_factor_76 : decode cX9_factor 76 = .ok (.i2l, 1) := by decide +kernel
theorem dX9_factor_77 : decode cX9_factor 77 = .ok (.goto 11, 3) := by decide +kernel
theorem dX9_factor_80 : decode cX9_factor 80 = .ok (.ldc2_w 171, 3) := by decide +kernel
theorem dX9_factor_83 : decode cX9_factor 83 = .ok (.iload_n 2, 1) := by decide +kernel
theorem dX9_factor_84 : decode cX9_factor 84 = .ok (.i2l, 1) := by decide +kernel
theorem dX9_factor_85 : decode cX9_factor 85 = .ok (.lmul, 1) := by decide +kernel
theorem dX9_factor_86 : decode cX9_factor 86 = .ok (.lconst 1, 1) := by decide +kernel
theorem dX9_factor_87 : decode cX9_factor 87 = .ok (.lsub, 1) := by decide +kernel
theorem dX9_factor_88 : decode cX9_factor 88 = .ok (.ldc2_w 171, 3) := by decide +kernel
theorem dX9_factor_91 : decode cX9_factor 91 = .ok (.iload_n 3, 1) := by decide +kernel
theorem dX9_factor_92 : decode cX9_factor 92 = .ok (.i2l, 1) := by decide +kernel
theorem dX9_factor_93 : decode cX9_factor 93 = .ok (.lmul, 1) := by decide +kernel
theorem dX9_factor_94 : decode cX9_factor 94 = .ok (.invokevirtual 167, 3) := by decide +kernel
theorem dX9_factor_97 : decode cX9_factor 97 = .ok (.aload_n 0, 1) := by decide +kernel
theorem dX9_factor_98 : decode cX9_factor 98 = .ok (.dup, 1) := by decide +kernel
theorem dX9_factor_99 : decode cX9_factor 99 = .ok (.getfield 173, 3) := by decide +kernel
theorem dX9_factor_102 : decode cX9_factor 102 = .ok (.iload 5, 2) := by decide +kernel
theorem dX9_factor_104 : decode cX9_factor 104 = .ok (.ifCond .eq 7, 3) := by decide +kernel
theorem dX9_factor_107 : decode cX9_factor 107 = .ok (.iconst 1, 1) := by decide +kernel
theorem dX9_factor_108 : decode cX9_factor 108 = .ok (.goto 4, 3) := by decide +kernel
theorem dX9_factor_111 : decode cX9_factor 111 = .ok (.iconst 0, 1) := by decide +kernel
theorem dX9_factor_112 : decode cX9_factor 112 = .ok (.iadd, 1) := by decide +kernel
theorem dX9_factor_113 : decode cX9_factor 113 = .ok (.putfield 173, 3) := by decide +kernel
theorem dX9_factor_116 : decode cX9_factor 116 = .ok (.return_, 1) := by decide +kernel
theorem dX9_exclude_0 : decode cX9_exclude 0 = .ok (.iconst 0, 1) := by decide +kernel
theorem dX9_exclude_1 : decode cX9_exclude 1 = .ok (.istore_n 2, 1) := by decide +kernel
theorem dX9_exclude_2 : decode cX9_exclude 2 = .ok (.iload_n 2, 1) := by decide +kernel
theorem dX9_exclude_3 : decode cX9_exclude 3 = .ok (.bipush 27, 2) := by decide +kernel
theorem dX9_exclude_5 : decode cX9_exclude 5 = .ok (.if_icmp .ge 43, 3) := by decide +kernel
theorem dX9_exclude_8 : decode cX9_exclude 8 = .ok (.aload_n 0, 1) := by decide +kernel
theorem dX9_exclude_9 : decode cX9_exclude 9 = .ok (.getfield 39, 3) := by decide +kernel
theorem dX9_exclude_12 : decode cX9_exclude 12 = .ok (.iload_n 2, 1) := by decide +kernel
theorem dX9_exclude_13 : decode cX9_exclude 13 = .ok (.aload_n 0, 1) := by decide +kernel
theorem dX9_exclude_14 : decode cX9_exclude 14 = .ok (.getfield 39, 3) := by decide +kernel
theorem dX9_exclude_17 : decode cX9_exclude 17 = .ok (.iload_n 2, 1) := by decide +kernel
theorem dX9_exclude_18 : decode cX9_exclude 18 = .ok (.baload, 1) := by decide +kernel
theorem dX9_exclude_19 : decode cX9_exclude 19 = .ok (.ifCond .ne 17, 3) := by decide +kernel
theorem dX9_exclude_22 : decode cX9_exclude 22 = .ok (.aload_n 0, 1) := by decide +kernel
theorem dX9_exclude_23 : decode cX9_exclude 23 = .ok (.getfield 30, 3) := by decide +kernel
theorem dX9_exclude_26 : decode cX9_exclude 26 = .ok (.bipush 27, 2) := by decide +kernel
theorem dX9_exclude_28 : decode cX9_exclude 28 = .ok (.iload_n 1, 1) := by decide +kernel
theorem dX9_exclude_29 : decode cX9_exclude 29 = .ok (.imul, 1) := by decide +kernel
theorem dX9_exclude_30 : decode cX9_exclude 30 = .ok (.iload_n 2, 1) := by decide +kernel
theorem dX9_exclude_31 : decode cX9_exclude 31 = .ok (.iadd, 1) := by decide +kernel
theorem dX9_exclude_32 : decode cX9_exclude 32 = .ok (.iaload, 1) := by decide +kernel
theorem dX9_exclude_33 : decode cX9_exclude 33 = .ok (.ifCond .le 7, 3) := by decide +kernel
theorem dX9_exclude_36 : decode cX9_exclude 36 = .ok (.iconst 1, 1) := by decide +kernel
theorem dX9_exclude_37 : decode cX9_exclude 37 = .ok (.goto 4, 3) := by decide +kernel
theorem dX9_exclude_40 : decode cX9_exclude 40 = .ok (.iconst 0, 1) := by decide +kernel
theorem dX9_exclude_41 : decode cX9_exclude 41 = .ok (.bastore, 1) := by decide +kernel
theorem dX9_exclude_42 : decode cX9_exclude 42 = .ok (.iinc 2 1, 3) := by decide +kernel
theorem dX9_exclude_45 : decode cX9_exclude 45 = .ok (.goto (-43), 3) := by decide +kernel
theorem dX9_exclude_48 : decode cX9_exclude 48 = .ok (.return_, 1) := by decide +kernel
theorem dX9_reckon_0 : decode cX9_reckon 0 = .ok (.aload_n 0, 1) := by decide +kernel
theorem dX9_reckon_1 : decode cX9_reckon 1 = .ok (.aload_n 0, 1) := by decide +kernel
theorem dX9_reckon_2 : decode cX9_reckon 2 = .ok (.getfield 7, 3) := by decide +kernel
theorem dX9_reckon_5 : decode cX9_reckon 5 = .ok (.iload_n 1, 1) := by decide +kernel
theorem dX9_reckon_6 : decode cX9_reckon 6 = .ok (.iload_n 2, 1) := by decide +kernel
theorem dX9_reckon_7 : decode cX9_reckon 7 = .ok (.iload_n 3, 1) := by decide +kernel
theorem dX9_reckon_8 : decode cX9_reckon 8 = .ok (.invokevirtual 135, 3) := by decide +kernel
theorem dX9_reckon_11 : decode cX9_reckon 11 = .ok (.aload_n 0, 1) := by decide +kernel
theorem dX9_reckon_12 : decode cX9_reckon 12 = .ok (.lconst 1, 1) := by decide +kernel
theorem dX9_reckon_13 : decode cX9_reckon 13 = .ok (.putfield 152, 3) := by decide +kernel
theorem dX9_reckon_16 : decode cX9_reckon 16 = .ok (.aload_n 0, 1) := by decide +kernel
theorem dX9_reckon_17 : decode cX9_reckon 17 = .ok (.lconst 1, 1) := by decide +kernel
theorem dX9_reckon_18 : decode cX9_reckon 18 = .ok (.putfield 156, 3) := by decide +kernel
theorem dX9_reckon_21 : decode cX9_reckon 21 = .ok (.aload_n 0, 1) := by decide +kernel
theorem dX9_reckon_22 : decode cX9_reckon 22 = .ok (.iconst 0, 1) := by decide +kernel
theorem dX9_reckon_23 : decode cX9_reckon 23 = .ok (.putfield 173, 3) := by decide +kernel
theorem dX9_reckon_26 : decode cX9_reckon 26 = .ok (.iconst 0, 1) := by decide +kernel
theorem dX9_reckon_27 : decode cX9_reckon 27 = .ok (.istore 5, 2) := by decide +kernel
theorem dX9_reckon_29 : decode cX9_reckon 29 = .ok (.iload 5, 2) := by decide +kernel
theorem dX9_reckon_31 : decode cX9_reckon 31 = .ok (.bipush 27, 2) := by decide +kernel
theorem dX9_reckon_33 : decode cX9_reckon 33 = .ok (.if_icmp .ge 17, 3) := by decide +kernel
theorem dX9_reckon_36 : decode cX9_reckon 36 = .ok (.aload_n 0, 1) := by decide +kernel
theorem dX9_reckon_37 : decode cX9_reckon 37 = .ok (.getfield 39, 3) := by decide +kernel
theorem dX9_reckon_40 : decode cX9_reckon 40 = .ok (.iload 5, 2) := by decide +kernel
theorem dX9_reckon_42 : decode cX9_reckon 42 = .ok (.iconst 0, 1) := by decide +kernel
theorem dX9_reckon_43 : decode cX9_reckon 43 = .ok (.bastore, 1) := by decide +kernel
theorem dX9_reckon_44 : decode cX9_reckon 44 = .ok (.iinc 5 1, 3) := by decide +kernel
theorem dX9_reckon_47 : decode cX9_reckon 47 = .ok (.goto (-18), 3) := by decide +kernel
theorem dX9_reckon_50 : decode cX9_reckon 50 = .ok (.aload_n 0, 1) := by decide +kernel
theorem dX9_reckon_51 : decode cX9_reckon 51 = .ok (.getfield 7, 3) := by decide +kernel
theorem dX9_reckon_54 : decode cX9_reckon 54 = .ok (.iload_n 1, 1) := by decide +kernel
theorem dX9_reckon_55 : decode cX9_reckon 55 = .ok (.invokestatic 92, 3) := by decide +kernel
theorem dX9_reckon_58 : decode cX9_reckon 58 = .ok (.iconst 1, 1) := by decide +kernel
theorem dX9_reckon_59 : decode cX9_reckon 59 = .ok (.iadd, 1) := by decide +kernel
theorem dX9_reckon_60 : decode cX9_reckon 60 = .ok (.iaload, 1) := by decide +kernel
theorem dX9_reckon_61 : decode cX9_reckon 61 = .ok (.istore 5, 2) := by decide +kernel
theorem dX9_reckon_63 : decode cX9_reckon 63 = .ok (.iconst 0, 1) := by decide +kernel
theorem dX9_reckon_64 : decode cX9_reckon 64 = .ok (.istore 6, 2) := by decide +kernel
theorem dX9_reckon_66 : decode cX9_reckon 66 = .ok (.iconst 0, 1) := by decide +kernel
theorem dX9_reckon_67 : decode cX9_reckon 67 = .ok (.istore 7, 2) := by decide +kernel
theorem dX9_reckon_69 : decode cX9_reckon 69 = .ok (.iload 7, 2) := by decide +kernel
theorem dX9_reckon_71 : decode cX9_reckon 71 = .ok (.aload_n 0, 1) := by decide +kernel
theorem dX9_reckon_72 : decode cX9_reckon 72 = .ok (.getfield 125, 3) := by decide +kernel
theorem dX9_reckon_75 : decode cX9_reckon 75 = .ok (.if_icmp .ge 79, 3) := by decide +kernel
theorem dX9_reckon_78 : decode cX9_reckon 78 = .ok (.iload 6, 2) := by decide +kernel
theorem dX9_reckon_80 : decode cX9_reckon 80 = .ok (.ifCond .ne 74, 3) := by decide +kernel
theorem dX9_reckon_83 : decode cX9_reckon 83 = .ok (.aload_n 0, 1) := by decide +kernel
theorem dX9_reckon_84 : decode cX9_reckon 84 = .ok (.iload 7, 2) := by decide +kernel
theorem dX9_reckon_86 : decode cX9_reckon 86 = .ok (.invokevirtual 176, 3) := by decide +kernel
theorem dX9_reckon_89 : decode cX9_reckon 89 = .ok (.istore 8, 2) := by decide +kernel
theorem dX9_reckon_91 : decode cX9_reckon 91 = .ok (.aload_n 0, 1) := by decide +kernel
theorem dX9_reckon_92 : decode cX9_reckon 92 = .ok (.iload 7, 2) := by decide +kernel
theorem dX9_reckon_94 : decode cX9_reckon 94 = .ok (.iload 4, 2) := by decide +kernel
theorem dX9_reckon_96 : decode cX9_reckon 96 = .ok (.invokevirtual 163, 3) := by decide +kernel
theorem dX9_reckon_99 : decode cX9_reckon 99 = .ok (.istore 6, 2) := by decide +kernel
theorem dX9_reckon_101 : decode cX9_reckon 101 = .ok (.iload 8, 2) := by decide +kernel
theorem dX9_reckon_103 : decode cX9_reckon 103 = .ok (.ifCond .le 39, 3) := by decide +kernel
theorem dX9_reckon_106 : decode cX9_reckon 106 = .ok (.aload_n 0, 1) := by decide +kernel
theorem dX9_reckon_107 : decode cX9_reckon 107 = .ok (.iload 5, 2) := by decide +kernel
theorem dX9_reckon_109 : decode cX9_reckon 109 = .ok (.iload 6, 2) := by decide +kernel
theorem dX9_reckon_111 : decode cX9_reckon 111 = .ok (.ifCond .eq 19, 3) := by decide +kernel
theorem dX9_reckon_114 : decode cX9_reckon 114 = .ok (.aload_n 0, 1) := by decide +kernel
theorem dX9_reckon_115 : decode cX9_reckon 115 = .ok (.getfield 30, 3) := by decide +kernel
theorem dX9_reckon_118 : decode cX9_reckon 118 = .ok (.bipush 27, 2) := by decide +kernel
theorem dX9_reckon_120 : decode cX9_reckon 120 = .ok (.iload 7, 2) := by decide +kernel
theorem dX9_reckon_122 : decode cX9_reckon 122 = .ok (.imul, 1) := by decide +kernel
theorem dX9_reckon_123 : decode cX9_reckon 123 = .ok (.iload 4, 2) := by decide +kernel
theorem dX9_reckon_125 : decode cX9_reckon 125 = .ok (.iadd, 1) := by decide +kernel
theorem dX9_reckon_126 : decode cX9_reckon 126 = .ok (.iaload, 1) := by decide +kernel
theorem dX9_reckon_127 : decode cX9_reckon 127 = .ok (.goto 4, 3) := by decide +kernel
theorem dX9_reckon_130 : decode cX9_reckon 130 = .ok (.iconst 0, 1) := by decide +kernel
theorem dX9_reckon_131 : decode cX9_reckon 131 = .ok (.aload_n 0, 1) := by decide +kernel
theorem dX9_reckon_132 : decode cX9_reckon 132 = .ok (.iload 7, 2) := by decide +kernel
theorem dX9_reckon_134 : decode cX9_reckon 134 = .ok (.invokevirtual 179, 3) := by decide +kernel
theorem dX9_reckon_137 : decode cX9_reckon 137 = .ok (.iload 8, 2) := by decide +kernel
theorem dX9_reckon_139 : decode cX9_reckon 139 = .ok (.invokevirtual 182, 3) := by decide +kernel
theorem dX9_reckon_142 : decode cX9_reckon 142 = .ok (.aload_n 0, 1) := by decide +kernel
theorem dX9_reckon_143 : decode cX9_reckon 143 = .ok (.iload 7, 2) := by decide +kernel
theorem dX9_reckon_145 : decode cX9_reckon 145 = .ok (.invokevirtual 186, 3) := by decide +kernel
theorem dX9_reckon_148 : decode cX9_reckon 148 = .ok (.iinc 7 1, 3) := by decide +kernel
theorem dX9_reckon_151 : decode cX9_reckon 151 = .ok (.goto (-82), 3) := by decide +kernel
theorem dX9_reckon_154 : decode cX9_reckon 154 = .ok (.iload 6, 2) := by decide +kernel
theorem dX9_reckon_156 : decode cX9_reckon 156 = .ok (.ifCond .ne 50, 3) := by decide +kernel
theorem dX9_reckon_159 : decode cX9_reckon 159 = .ok (.iconst 0, 1) := by decide +kernel
theorem dX9_reckon_160 : decode cX9_reckon 160 = .ok (.istore 7, 2) := by decide +kernel
theorem dX9_reckon_162 : decode cX9_reckon 162 = .ok (.iconst 0, 1) := by decide +kernel
theorem dX9_reckon_163 : decode cX9_reckon 163 = .ok (.istore 8, 2) := by decide +kernel
theorem dX9_reckon_165 : decode cX9_reckon 165 = .ok (.iload 8, 2) := by decide +kernel
theorem dX9_reckon_167 : decode cX9_reckon 167 = .ok (.bipush 27, 2) := by decide +kernel
theorem dX9_reckon_169 : decode cX9_reckon 169 = .ok (.if_icmp .ge 29, 3) := by decide +kernel
theorem dX9_reckon_172 : decode cX9_reckon 172 = .ok (.iload 7, 2) := by decide +kernel
theorem dX9_reckon_174 : decode cX9_reckon 174 = .ok (.aload_n 0, 1) := by decide +kernel
theorem dX9_reckon_175 : decode cX9_reckon 175 = .ok (.getfield 39, 3) := by decide +kernel
theorem dX9_reckon_178 : decode cX9_reckon 178 = .ok (.iload 8, 2) := by decide +kernel
theorem dX9_reckon_180 : decode cX9_reckon 180 = .ok (.baload, 1) := by decide +kernel
theorem dX9_reckon_181 : decode cX9_reckon 181 = .ok (.ifCond .eq 7, 3) := by decide +kernel
theorem dX9_reckon_184 : decode cX9_reckon 184 = .ok (.iconst 0, 1) := by decide +kernel
theorem dX9_reckon_185 : decode cX9_reckon 185 = .ok (.goto 4, 3) := by decide +kernel
theorem dX9_reckon_188 : decode cX9_reckon 188 = .ok (.iconst 1, 1) := by decide +kernel
theorem dX9_reckon_189 : decode cX9_reckon 189 = .ok (.iadd, 1) := by decide +kernel
theorem dX9_reckon_190 : decode cX9_reckon 190 = .ok (.istore 7, 2) := by decide +kernel
theorem dX9_reckon_192 : decode cX9_reckon 192 = .ok (.iinc 8 1, 3) := by decide +kernel
theorem dX9_reckon_195 : decode cX9_reckon 195 = .ok (.goto (-30), 3) := by decide +kernel
theorem dX9_reckon_198 : decode cX9_reckon 198 = .ok (.aload_n 0, 1) := by decide +kernel
theorem dX9_reckon_199 : decode cX9_reckon 199 = .ok (.lconst 1, 1) := by decide +kernel
theorem dX9_reckon_200 : decode cX9_reckon 200 = .ok (.iload 7, 2) := by decide +kernel
theorem dX9_reckon_202 : decode cX9_reckon 202 = .ok (.i2l, 1) := by decide +kernel
theorem dX9_reckon_203 : decode cX9_reckon 203 = .ok (.invokevirtual 167, 3) := by decide +kernel
theorem dX9_reckon_206 : decode cX9_reckon 206 = .ok (.return_, 1) := by decide +kernel
theorem dX9_codeBits_0 : decode cX9_codeBits 0 = .ok (.iconst 0, 1) := by decide +kernel
theorem dX9_codeBits_1 : decode cX9_codeBits 1 = .ok (.istore_n 1, 1) := by decide +kernel
theorem dX9_codeBits_2 : decode cX9_codeBits 2 = .ok (.aload_n 0, 1) := by decide +kernel
theorem dX9_codeBits_3 : decode cX9_codeBits 3 = .ok (.getfield 152, 3) := by decide +kernel
theorem dX9_codeBits_6 : decode cX9_codeBits 6 = .ok (.lstore_n 2, 1) := by decide +kernel
theorem dX9_codeBits_7 : decode cX9_codeBits 7 = .ok (.lload_n 2, 1) := by decide +kernel
theorem dX9_codeBits_8 : decode cX9_codeBits 8 = .ok (.aload_n 0, 1) := by decide +kernel
theorem dX9_codeBits_9 : decode cX9_codeBits 9 = .ok (.getfield 156, 3) := by decide +kernel
theorem dX9_codeBits_12 : decode cX9_codeBits 12 = .ok (.lcmp, 1) := by decide +kernel
theorem dX9_codeBits_13 : decode cX9_codeBits 13 = .ok (.ifCond .ge 15, 3) := by decide +kernel
theorem dX9_codeBits_16 : decode cX9_codeBits 16 = .ok (.iinc 1 1, 3) := by decide +kernel
theorem dX9_codeBits_19 : decode cX9_codeBits 19 = .ok (.lload_n 2, 1) := by decide +kernel
theorem dX9_codeBits_20 : decode cX9_codeBits 20 = .ok (.ldc2_w 171, 3) := by decide +kernel
theorem dX9_codeBits_23 : decode cX9_codeBits 23 = .ok (.lmul, 1) := by decide +kernel
theorem dX9_codeBits_24 : decode cX9_codeBits 24 = .ok (.lstore_n 2, 1) := by decide +kernel
theorem dX9_codeBits_25 : decode cX9_codeBits 25 = .ok (.goto (-18), 3) := by decide +kernel
theorem dX9_codeBits_28 : decode cX9_codeBits 28 = .ok (.iload_n 1, 1) := by decide +kernel
theorem dX9_codeBits_29 : decode cX9_codeBits 29 = .ok (.ireturn, 1) := by decide +kernel
theorem dX9_appendWord_0 : decode cX9_appendWord 0 = .ok (.bipush 24, 2) := by decide +kernel
theorem dX9_appendWord_2 : decode cX9_appendWord 2 = .ok (.istore_n 2, 1) := by decide +kernel
theorem dX9_appendWord_3 : decode cX9_appendWord 3 = .ok (.iload_n 2, 1) := by decide +kernel
theorem dX9_appendWord_4 : decode cX9_appendWord 4 = .ok (.ifCond .lt 35, 3) := by decide +kernel
theorem dX9_appendWord_7 : decode cX9_appendWord 7 = .ok (.aload_n 0, 1) := by decide +kernel
theorem dX9_appendWord_8 : decode cX9_appendWord 8 = .ok (.getfield 42, 3) := by decide +kernel
theorem dX9_appendWord_11 : decode cX9_appendWord 11 = .ok (.aload_n 0, 1) := by decide +kernel
theorem dX9_appendWord_12 : decode cX9_appendWord 12 = .ok (.getfield 68, 3) := by decide +kernel
theorem dX9_appendWord_15 : decode cX9_appendWord 15 = .ok (.iload_n 1, 1) := by decide +kernel
theorem dX9_appendWord_16 : decode cX9_appendWord 16 = .ok (.iload_n 2, 1) := by decide +kernel
theorem dX9_appendWord_17 : decode cX9_appendWord 17 = .ok (.ishr, 1) := by decide +kernel
theorem dX9_appendWord_18 : decode cX9_appendWord 18 = .ok (.sipush 255, 3) := by decide +kernel
theorem dX9_appendWord_21 : decode cX9_appendWord 21 = .ok (.iand, 1) := by decide +kernel
theorem dX9_appendWord_22 : decode cX9_appendWord 22 = .ok (.iastore, 1) := by decide +kernel
theorem dX9_appendWord_23 : decode cX9_appendWord 23 = .ok (.aload_n 0, 1) := by decide +kernel
theorem dX9_appendWord_24 : decode cX9_appendWord 24 = .ok (.dup, 1) := by decide +kernel
theorem dX9_appendWord_25 : decode cX9_appendWord 25 = .ok (.getfield 68, 3) := by decide +kernel
theorem dX9_appendWord_28 : decode cX9_appendWord 28 = .ok (.iconst 1, 1) := by decide +kernel
theorem dX9_appendWord_29 : decode cX9_appendWord 29 = .ok (.iadd, 1) := by decide +kernel
theorem dX9_appendWord_30 : decode cX9_appendWord 30 = .ok (.putfield 68, 3) := by decide +kernel
theorem dX9_appendWord_33 : decode cX9_appendWord 33 = .ok (.iinc 2 (-8), 3) := by decide +kernel
theorem dX9_appendWord_36 : decode cX9_appendWord 36 = .ok (.goto (-33), 3) := by decide +kernel
theorem dX9_appendWord_39 : decode cX9_appendWord 39 = .ok (.return_, 1) := by decide +kernel
theorem dX9_appendInput_0 : decode cX9_appendInput 0 = .ok (.aload_n 0, 1) := by decide +kernel
theorem dX9_appendInput_1 : decode cX9_appendInput 1 = .ok (.iconst 0, 1) := by decide +kernel
theorem dX9_appendInput_2 : decode cX9_appendInput 2 = .ok (.putfield 85, 3) := by decide +kernel
theorem dX9_appendInput_5 : decode cX9_appendInput 5 = .ok (.aload_n 0, 1) := by decide +kernel
theorem dX9_appendInput_6 : decode cX9_appendInput 6 = .ok (.aload_n 0, 1) := by decide +kernel
theorem dX9_appendInput_7 : decode cX9_appendInput 7 = .ok (.getfield 68, 3) := by decide +kernel
theorem dX9_appendInput_10 : decode cX9_appendInput 10 = .ok (.bipush 20, 2) := by decide +kernel
theorem dX9_appendInput_12 : decode cX9_appendInput 12 = .ok (.iadd, 1) := by decide +kernel
theorem dX9_appendInput_13 : decode cX9_appendInput 13 = .ok (.sipush 500, 3) := by decide +kernel
theorem dX9_appendInput_16 : decode cX9_appendInput 16 = .ok (.if_icmp .le 7, 3) := by decide +kernel
theorem dX9_appendInput_19 : decode cX9_appendInput 19 = .ok (.iconst 1, 1) := by decide +kernel
theorem dX9_appendInput_20 : decode cX9_appendInput 20 = .ok (.goto 4, 3) := by decide +kernel
theorem dX9_appendInput_23 : decode cX9_appendInput 23 = .ok (.iconst 0, 1) := by decide +kernel
theorem dX9_appendInput_24 : decode cX9_appendInput 24 = .ok (.iconst 1, 1) := by decide +kernel
theorem dX9_appendInput_25 : decode cX9_appendInput 25 = .ok (.invokevirtual 189, 3) := by decide +kernel
theorem dX9_appendInput_28 : decode cX9_appendInput 28 = .ok (.ifCond .eq 5, 3) := by decide +kernel
theorem dX9_appendInput_31 : decode cX9_appendInput 31 = .ok (.iconst 0, 1) := by decide +kernel
theorem dX9_appendInput_32 : decode cX9_appendInput 32 = .ok (.ireturn, 1) := by decide +kernel
theorem dX9_appendInput_33 : decode cX9_appendInput 33 = .ok (.aload_n 0, 1) := by decide +kernel
theorem dX9_appendInput_34 : decode cX9_appendInput 34 = .ok (.iload_n 1, 1) := by decide +kernel
theorem dX9_appendInput_35 : decode cX9_appendInput 35 = .ok (.invokevirtual 193, 3) := by decide +kernel
theorem dX9_appendInput_38 : decode cX9_appendInput 38 = .ok (.aload_n 0, 1) := by decide +kernel
theorem dX9_appendInput_39 : decode cX9_appendInput 39 = .ok (.iload_n 2, 1) := by decide +kernel
theorem dX9_appendInput_40 : decode cX9_appendInput 40 = .ok (.invokevirtual 193, 3) := by decide +kernel
theorem dX9_appendInput_43 : decode cX9_appendInput 43 = .ok (.aload_n 0, 1) := by decide +kernel
theorem dX9_appendInput_44 : decode cX9_appendInput 44 = .ok (.iload_n 3, 1) := by decide +kernel
theorem dX9_appendInput_45 : decode cX9_appendInput 45 = .ok (.invokevirtual 193, 3) := by decide +kernel
theorem dX9_appendInput_48 : decode cX9_appendInput 48 = .ok (.aload_n 0, 1) := by decide +kernel
theorem dX9_appendInput_49 : decode cX9_appendInput 49 = .ok (.iload 4, 2) := by decide +kernel
theorem dX9_appendInput_51 : decode cX9_appendInput 51 = .ok (.invokevirtual 193, 3) := by decide +kernel
theorem dX9_appendInput_54 : decode cX9_appendInput 54 = .ok (.aload_n 0, 1) := by decide +kernel
theorem dX9_appendInput_55 : decode cX9_appendInput 55 = .ok (.iload 5, 2) := by decide +kernel
theorem dX9_appendInput_57 : decode cX9_appendInput 57 = .ok (.invokevirtual 193, 3) := by decide +kernel
theorem dX9_appendInput_60 : decode cX9_appendInput 60 = .ok (.aload_n 0, 1) := by decide +kernel
theorem dX9_appendInput_61 : decode cX9_appendInput 61 = .ok (.getfield 68, 3) := by decide +kernel
theorem dX9_appendInput_64 : decode cX9_appendInput 64 = .ok (.ireturn, 1) := by decide +kernel
theorem dX9_truncateInput_0 : decode cX9_truncateInput 0 = .ok (.aload_n 0, 1) := by decide +kernel
theorem dX9_truncateInput_1 : decode cX9_truncateInput 1 = .ok (.iload_n 1, 1) := by decide +kernel
theorem dX9_truncateInput_2 : decode cX9_truncateInput 2 = .ok (.iconst 0, 1) := by decide +kernel
theorem dX9_truncateInput_3 : decode cX9_truncateInput 3 = .ok (.aload_n 0, 1) := by decide +kernel
theorem dX9_truncateInput_4 : decode cX9_truncateInput 4 = .ok (.getfield 68, 3) := by decide +kernel
theorem dX9_truncateInput_7 : decode cX9_truncateInput 7 = .ok (.invokevirtual 196, 3) := by decide +kernel
theorem dX9_truncateInput_10 : decode cX9_truncateInput 10 = .ok (.ifCond .eq 5, 3) := by decide +kernel
theorem dX9_truncateInput_13 : decode cX9_truncateInput 13 = .ok (.iconst 0, 1) := by decide +kernel
theorem dX9_truncateInput_14 : decode cX9_truncateInput 14 = .ok (.ireturn, 1) := by decide +kernel
theorem dX9_truncateInput_15 : decode cX9_truncateInput 15 = .ok (.aload_n 0, 1) := by decide +kernel
theorem dX9_truncateInput_16 : decode cX9_truncateInput 16 = .ok (.iload_n 1, 1) := by decide +kernel
theorem dX9_truncateInput_17 : decode cX9_truncateInput 17 = .ok (.putfield 68, 3) := by decide +kernel
theorem dX9_truncateInput_20 : decode cX9_truncateInput 20 = .ok (.iload_n 1, 1) := by decide +kernel
theorem dX9_truncateInput_21 : decode cX9_truncateInput 21 = .ok (.ireturn, 1) := by decide +kernel
theorem dX9_errorCode_0 : decode cX9_errorCode 0 = .ok (.aload_n 0, 1) := by decide +kernel
theorem dX9_errorCode_1 : decode cX9_errorCode 1 = .ok (.iconst 0, 1) := by decide +kernel
theorem dX9_errorCode_2 : decode cX9_errorCode 2 = .ok (.putfield 85, 3) := by decide +kernel
theorem dX9_errorCode_5 : decode cX9_errorCode 5 = .ok (.aload_n 0, 1) := by decide +kernel
theorem dX9_errorCode_6 : decode cX9_errorCode 6 = .ok (.getfield 199, 3) := by decide +kernel
theorem dX9_errorCode_9 : decode cX9_errorCode 9 = .ok (.ireturn, 1) := by decide +kernel
theorem dX9_errorPosition_0 : decode cX9_errorPosition 0 = .ok (.aload_n 0, 1) := by decide +kernel
theorem dX9_errorPosition_1 : decode cX9_errorPosition 1 = .ok (.iconst 0, 1) := by decide +kernel
theorem dX9_errorPosition_2 : decode cX9_errorPosition 2 = .ok (.putfield 85, 3) := by decide +kernel
theorem dX9_errorPosition_5 : decode cX9_errorPosition 5 = .ok (.aload_n 0, 1) := by decide +kernel
theorem dX9_errorPosition_6 : decode cX9_errorPosition 6 = .ok (.getfield 45, 3) := by decide +kernel
theorem dX9_errorPosition_9 : decode cX9_errorPosition 9 = .ok (.ireturn, 1) := by decide +kernel
theorem dX9_byteAt_0 : decode cX9_byteAt 0 = .ok (.iload_n 1, 1) := by decide +kernel
theorem dX9_byteAt_1 : decode cX9_byteAt 1 = .ok (.aload_n 0, 1) := by decide +kernel
theorem dX9_byteAt_2 : decode cX9_byteAt 2 = .ok (.getfield 68, 3) := by decide +kernel
theorem dX9_byteAt_5 : decode cX9_byteAt 5 = .ok (.if_icmp .ge 12, 3) := by decide +kernel
theorem dX9_byteAt_8 : decode cX9_byteAt 8 = .ok (.aload_n 0, 1) := by decide +kernel
theorem dX9_byteAt_9 : decode cX9_byteAt 9 = .ok (.getfield 42, 3) := by decide +kernel
theorem dX9_byteAt_12 : decode cX9_byteAt 12 = .ok (.iload_n 1, 1) := by decide +kernel
theorem dX9_byteAt_13 : decode cX9_byteAt 13 = .ok (.iaload, 1) := by decide +kernel
theorem dX9_byteAt_14 : decode cX9_byteAt 14 = .ok (.goto 4, 3) := by decide +kernel
theorem dX9_byteAt_17 : decode cX9_byteAt 17 = .ok (.iconst (-1), 1) := by decide +kernel
theorem dX9_byteAt_18 : decode cX9_byteAt 18 = .ok (.ireturn, 1) := by decide +kernel
theorem dX9_isLetter_0 : decode cX9_isLetter 0 = .ok (.iload_n 0, 1) := by decide +kernel
theorem dX9_isLetter_1 : decode cX9_isLetter 1 = .ok (.bipush 97, 2) := by decide +kernel
theorem dX9_isLetter_3 : decode cX9_isLetter 3 = .ok (.bipush 122, 2) := by decide +kernel
theorem dX9_isLetter_5 : decode cX9_isLetter 5 = .ok (.invokestatic 128, 3) := by decide +kernel
theorem dX9_isLetter_8 : decode cX9_isLetter 8 = .ok (.ireturn, 1) := by decide +kernel
theorem dX9_isSymbolByte_0 : decode cX9_isSymbolByte 0 = .ok (.iload_n 0, 1) := by decide +kernel
theorem dX9_isSymbolByte_1 : decode cX9_isSymbolByte 1 = .ok (.invokestatic 202, 3) := by decide +kernel
theorem dX9_isSymbolByte_4 : decode cX9_isSymbolByte 4 = .ok (.ifCond .ne 9, 3) := by decide +kernel
theorem dX9_isSymbolByte_7 : decode cX9_isSymbolByte 7 = .ok (.iload_n 0, 1) := by decide +kernel
theorem dX9_isSymbolByte_8 : decode cX9_isSymbolByte 8 = .ok (.bipush 95, 2) := by decide +kernel
theorem dX9_isSymbolByte_10 : decode cX9_isSymbolByte 10 = .ok (.if_icmp .ne 7, 3) := by decide +kernel
theorem dX9_isSymbolByte_13 : decode cX9_isSymbolByte 13 = .ok (.iconst 1, 1) := by decide +kernel
theorem dX9_isSymbolByte_14 : decode cX9_isSymbolByte 14 = .ok (.goto 4, 3) := by decide +kernel
theorem dX9_isSymbolByte_17 : decode cX9_isSymbolByte 17 = .ok (.iconst 0, 1) := by decide +kernel
theorem dX9_isSymbolByte_18 : decode cX9_isSymbolByte 18 = .ok (.ireturn, 1) := by decide +kernel
theorem dX9_advance_0 : decode cX9_advance 0 = .ok (.aload_n 0, 1) := by decide +kernel
theorem dX9_advance_1 : decode cX9_advance 1 = .ok (.aload_n 0, 1) := by decide +kernel
theorem dX9_advance_2 : decode cX9_advance 2 = .ok (.getfield 206, 3) := by decide +kernel
theorem dX9_advance_5 : decode cX9_advance 5 = .ok (.invokevirtual 209, 3) := by decide +kernel
theorem dX9_advance_8 : decode cX9_advance 8 = .ok (.bipush 32, 2) := by decide +kernel
theorem dX9_advance_10 : decode cX9_advance 10 = .ok (.if_icmp .eq 16, 3) := by decide +kernel
theorem dX9_advance_13 : decode cX9_advance 13 = .ok (.aload_n 0, 1) := by decide +kernel
theorem dX9_advance_14 : decode cX9_advance 14 = .ok (.aload_n 0, 1) := by decide +kernel
theorem dX9_advance_15 : decode cX9_advance 15 = .ok (.getfield 206, 3) := by decide +kernel
theorem dX9_advance_18 : decode cX9_advance 18 = .ok (.invokevirtual 209, 3) := by decide +kernel
theorem dX9_advance_21 : decode cX9_advance 21 = .ok (.bipush 10, 2) := by decide +kernel
theorem dX9_advance_23 : decode cX9_advance 23 = .ok (.if_icmp .ne 16, 3) := by decide +kernel
theorem dX9_advance_26 : decode cX9_advance 26 = .ok (.aload_n 0, 1) := by decide +kernel
theorem dX9_advance_27 : decode cX9_advance 27 = .ok (.dup, 1) := by decide +kernel
theorem dX9_advance_28 : decode cX9_advance 28 = .ok (.getfield 206, 3) := by decide +kernel
theorem dX9_advance_31 : decode cX9_advance 31 = .ok (.iconst 1, 1) := by decide +kernel
theorem dX9_advance_32 : decode cX9_advance 32 = .ok (.iadd, 1) := by decide +kernel
theorem dX9_advance_33 : decode cX9_advance 33 = .ok (.putfield 206, 3) := by decide +kernel
theorem dX9_advance_36 : decode cX9_advance 36 = .ok (.goto (-36), 3) := by decide +kernel
theorem dX9_advance_39 : decode cX9_advance 39 = .ok (.aload_n 0, 1) := by decide +kernel
theorem dX9_advance_40 : decode cX9_advance 40 = .ok (.aload_n 0, 1) := by decide +kernel
theorem dX9_advance_41 : decode cX9_advance 41 = .ok (.getfield 206, 3) := by decide +kernel
theorem dX9_advance_44 : decode cX9_advance 44 = .ok (.putfield 212, 3) := by decide +kernel
theorem dX9_advance_47 : decode cX9_advance 47 = .ok (.aload_n 0, 1) := by decide +kernel
theorem dX9_advance_48 : decode cX9_advance 48 = .ok (.iconst 0, 1) := by decide +kernel
theorem dX9_advance_49 : decode cX9_advance 49 = .ok (.putfield 215, 3) := by decide +kernel
theorem dX9_advance_52 : decode cX9_advance 52 = .ok (.aload_n 0, 1) := by decide +kernel
theorem dX9_advance_53 : decode cX9_advance 53 = .ok (.iconst 0, 1) := by decide +kernel
theorem dX9_advance_54 : decode cX9_advance 54 = .ok (.putfield 218, 3) := by decide +kernel
theorem dX9_advance_57 : decode cX9_advance 57 = .ok (.aload_n 0, 1) := by decide +kernel
theorem dX9_advance_58 : decode cX9_advance 58 = .ok (.aload_n 0, 1) := by decide +kernel
theorem dX9_advance_59 : decode cX9_advance 59 = .ok (.getfield 206, 3) := by decide +kernel
theorem dX9_advance_62 : decode cX9_advance 62 = .ok (.invokevirtual 209, 3) := by decide +kernel
theorem dX9_advance_65 : decode cX9_advance 65 = .ok (.istore_n 1, 1) := by decide +kernel
theorem dX9_advance_66 : decode cX9_advance 66 = .ok (.iload_n 1, 1) := by decide +kernel
theorem dX9_advance_67 : decode cX9_advance 67 = .ok (.iconst (-1), 1) := by decide +kernel
theorem dX9_advance_68 : decode cX9_advance 68 = .ok (.if_icmp .ne 11, 3) := by decide +kernel
theorem dX9_advance_71 : decode cX9_advance 71 = .ok (.aload_n 0, 1) := by decide +kernel
theorem dX9_advance_72 : decode cX9_advance 72 = .ok (.iconst 0, 1) := by decide +kernel
theorem dX9_advance_73 : decode cX9_advance 73 = .ok (.putfield 221, 3) := by decide +kernel
theorem dX9_advance_76 : decode cX9_advance 76 = .ok (.goto 153, 3) := by decide +kernel
theorem dX9_advance_79 : decode cX9_advance 79 = .ok (.iload_n 1, 1) := by decide +kernel
theorem dX9_advance_80 : decode cX9_advance 80 = .ok (.invokestatic 224, 3) := by decide +kernel
theorem dX9_advance_83 : decode cX9_advance 83 = .ok (.ifCond .eq 45, 3) := by decide +kernel
theorem dX9_advance_86 : decode cX9_advance 86 = .ok (.aload_n 0, 1) := by decide +kernel
theorem dX9_advance_87 : decode cX9_advance 87 = .ok (.iconst 3, 1) := by decide +kernel
theorem dX9_advance_88 : decode cX9_advance 88 = .ok (.putfield 221, 3) := by decide +kernel
theorem dX9_advance_91 : decode cX9_advance 91 = .ok (.aload_n 0, 1) := by decide +kernel
theorem dX9_advance_92 : decode cX9_advance 92 = .ok (.aload_n 0, 1) := by decide +kernel
theorem dX9_advance_93 : decode cX9_advance 93 = .ok (.getfield 206, 3) := by decide +kernel
theorem dX9_advance_96 : decode cX9_advance 96 = .ok (.invokevirtual 209, 3) := by decide +kernel
theorem dX9_advance_99 : decode cX9_advance 99 = .ok (.invokestatic 224, 3) := by decide +kernel
theorem dX9_advance_102 : decode cX9_advance 102 = .ok (.ifCond .eq 127, 3) := by decide +kernel
theorem dX9_advance_105 : decode cX9_advance 105 = .ok (.aload_n 0, 1) := by decide +kernel
theorem dX9_advance_106 : decode cX9_advance 106 = .ok (.dup, 1) := by decide +kernel
theorem dX9_advance_107 : decode cX9_advance 107 = .ok (.getfield 215, 3) := by decide +kernel
theorem dX9_advance_110 : decode cX9_advance 110 = .ok (.iconst 1, 1) := by decide +kernel
theorem dX9_advance_111 : decode cX9_advance 111 = .ok (.iadd, 1) := by decide +kernel
theorem dX9_advance_112 : decode cX9_advance 112 = .ok (.putfield 215, 3) := by decide +kernel
theorem dX9_advance_115 : decode cX9_advance 115 = .ok (.aload_n 0, 1) := by decide +kernel
theorem dX9_advance_116 : decode cX9_advance 116 = .ok (.dup, 1) := by decide +kernel
theorem dX9_advance_117 : decode cX9_advance 117 = .ok (.getfield 206, 3) := by decide +kernel
theorem dX9_advance_120 : decode cX9_advance 120 = .ok (.iconst 1, 1) := by decide +kernel
theorem dX9_advance_121 : decode cX9_advance 121 = .ok (.iadd, 1) := by decide +kernel
theorem dX9_advance_122 : decode cX9_advance 122 = .ok (.putfield 206, 3) := by decide +kernel
theorem dX9_advance_125 : decode cX9_advance 125 = .ok (.goto (-34), 3) := by decide +kernel
theorem dX9_advance_128 : decode cX9_advance 128 = .ok (.iload_n 1, 1) := by decide +kernel
theorem dX9_advance_129 : decode cX9_advance 129 = .ok (.bipush 48, 2) := by decide +kernel
theorem dX9_advance_131 : decode cX9_advance 131 = .ok (.bipush 57, 2) := by decide +kernel
theorem dX9_advance_133 : decode cX9_advance 133 = .ok (.invokestatic 128, 3) := by decide +kernel
theorem dX9_advance_136 : decode cX9_advance 136 = .ok (.ifCond .eq 78, 3) := by decide +kernel
theorem dX9_advance_139 : decode cX9_advance 139 = .ok (.aload_n 0, 1) := by decide +kernel
theorem dX9_advance_140 : decode cX9_advance 140 = .ok (.iconst 2, 1) := by decide +kernel
theorem dX9_advance_141 : decode cX9_advance 141 = .ok (.putfield 221, 3) := by decide +kernel
theorem dX9_advance_144 : decode cX9_advance 144 = .ok (.aload_n 0, 1) := by decide +kernel
theorem dX9_advance_145 : decode cX9_advance 145 = .ok (.aload_n 0, 1) := by decide +kernel
theorem dX9_advance_146 : decode cX9_advance 146 = .ok (.getfield 206, 3) := by decide +kernel
theorem dX9_advance_149 : decode cX9_advance 149 = .ok (.invokevirtual 209, 3) := by decide +kernel
theorem dX9_advance_152 : decode cX9_advance 152 = .ok (.bipush 48, 2) := by decide +kernel
theorem dX9_advance_154 : decode cX9_advance 154 = .ok (.bipush 57, 2) := by decide +kernel
theorem dX9_advance_156 : decode cX9_advance 156 = .ok (.invokestatic 128, 3) := by decide +kernel
theorem dX9_advance_159 : decode cX9_advance 159 = .ok (.ifCond .eq 70, 3) := by decide +kernel
theorem dX9_advance_162 : decode cX9_advance 162 = .ok (.aload_n 0, 1) := by decide +kernel
theorem dX9_advance_163 : decode cX9_advance 163 = .ok (.aload_n 0, 1) := by decide +kernel
theorem dX9_advance_164 : decode cX9_advance 164 = .ok (.getfield 218, 3) := by decide +kernel
theorem dX9_advance_167 : decode cX9_advance 167 = .ok (.ldc 227, 2) := by decide +kernel
theorem dX9_advance_169 : decode cX9_advance 169 = .ok (.if_icmp .le 10, 3) := by decide +kernel
theorem dX9_advance_172 : decode cX9_advance 172 = .ok (.aload_n 0, 1) := by decide +kernel
theorem dX9_advance_173 : decode cX9_advance 173 = .ok (.getfield 218, 3) := by decide +kernel
theorem dX9_advance_176 : decode cX9_advance 176 = .ok (.goto 22, 3) := by decide +kernel
theorem dX9_advance_179 : decode cX9_advance 179 = .ok (.bipush 10, 2) := by decide +kernel
theorem dX9_advance_181 : decode cX9_advance 181 = .ok (.aload_n 0, 1) := by decide +kernel
theorem dX9_advance_182 : decode cX9_advance 182 = .ok (.getfield 218, 3) := by decide +kernel
theorem dX9_advance_185 : decode cX9_advance 185 = .ok (.imul, 1) := by decide +kernel
theorem dX9_advance_186 : decode cX9_advance 186 = .ok (.aload_n 0, 1) := by decide +kernel
theorem dX9_advance_187 : decode cX9_advance 187 = .ok (.aload_n 0, 1) := by decide +kernel
theorem dX9_advance_188 : decode cX9_advance 188 = .ok (.getfield 206, 3) := by decide +kernel
theorem dX9_advance_191 : decode cX9_advance 191 = .ok (.invokevirtual 209, 3) := by decide +kernel
theorem dX9_advance_194 : decode cX9_advance 194 = .ok (.iadd, 1) := by decide +kernel
theorem dX9_advance_195 : decode cX9_advance 195 = .ok (.bipush 48, 2) := by decide +kernel
theorem dX9_advance_197 : decode cX9_advance 197 = .ok (.isub, 1) := by decide +kernel
theorem dX9_advance_198 : decode cX9_advance 198 = .ok (.putfield 218, 3) := by decide +kernel
theorem dX9_advance_201 : decode cX9_advance 201 = .ok (.aload_n 0, 1) := by decide +kernel
theorem dX9_advance_202 : decode cX9_advance 202 = .ok (.dup, 1) := by decide +kernel
theorem dX9_advance_203 : decode cX9_advance 203 = .ok (.getfield 206, 3) := by decide +kernel
theorem dX9_advance_206 : decode cX9_advance 206 = .ok (.iconst 1, 1) := by decide +kernel
theorem dX9_advance_207 : decode cX9_advance 207 = .ok (.iadd, 1) := by decide +kernel
theorem dX9_advance_208 : decode cX9_advance 208 = .ok (.putfield 206, 3) := by decide +kernel
theorem dX9_advance_211 : decode cX9_advance 211 = .ok (.goto (-67), 3) := by decide +kernel
theorem dX9_advance_214 : decode cX9_advance 214 = .ok (.aload_n 0, 1) := by decide +kernel
theorem dX9_advance_215 : decode cX9_advance 215 = .ok (.iconst 1, 1) := by decide +kernel
theorem dX9_advance_216 : decode cX9_advance 216 = .ok (.putfield 221, 3) := by decide +kernel
theorem dX9_advance_219 : decode cX9_advance 219 = .ok (.aload_n 0, 1) := by decide +kernel
theorem dX9_advance_220 : decode cX9_advance 220 = .ok (.dup, 1) := by decide +kernel
theorem dX9_advance_221 : decode cX9_advance 221 = .ok (.getfield 206, 3) := by decide +kernel
theorem dX9_advance_224 : decode cX9_advance 224 = .ok (.iconst 1, 1) := by decide +kernel
theorem dX9_advance_225 : decode cX9_advance 225 = .ok (.iadd, 1) := by decide +kernel
theorem dX9_advance_226 : decode cX9_advance 226 = .ok (.putfield 206, 3) := by decide +kernel
theorem dX9_advance_229 : decode cX9_advance 229 = .ok (.return_, 1) := by decide +kernel
theorem dX9_is_0 : decode cX9_is 0 = .ok (.aload_n 0, 1) := by decide +kernel
theorem dX9_is_1 : decode cX9_is 1 = .ok (.getfield 221, 3) := by decide +kernel
theorem dX9_is_4 : decode cX9_is 4 = .ok (.iconst 3, 1) := by decide +kernel
theorem dX9_is_5 : decode cX9_is 5 = .ok (.if_icmp .ne 14, 3) := by decide +kernel
theorem dX9_is_8 : decode cX9_is 8 = .ok (.aload_n 0, 1) := by decide +kernel
theorem dX9_is_9 : decode cX9_is 9 = .ok (.getfield 215, 3) := by decide +kernel
theorem dX9_is_12 : decode cX9_is 12 = .ok (.aload_n 1, 1) := by decide +kernel
theorem dX9_is_13 : decode cX9_is 13 = .ok (.invokevirtual 75, 3) := by decide +kernel
theorem dX9_is_16 : decode cX9_is 16 = .ok (.if_icmp .eq 5, 3) := by decide +kernel
theorem dX9_is_19 : decode cX9_is 19 = .ok (.iconst 0, 1) := by decide +kernel
theorem dX9_is_20 : decode cX9_is 20 = .ok (.ireturn, 1) := by decide +kernel
theorem dX9_is_21 : decode cX9_is 21 = .ok (.iconst 0, 1) := by decide +kernel
theorem dX9_is_22 : decode cX9_is 22 = .ok (.istore_n 2, 1) := by decide +kernel
theorem dX9_is_23 : decode cX9_is 23 = .ok (.iload_n 2, 1) := by decide +kernel
theorem dX9_is_24 : decode cX9_is 24 = .ok (.aload_n 0, 1) := by decide +kernel
theorem dX9_is_25 : decode cX9_is 25 = .ok (.getfield 215, 3) := by decide +kernel
theorem dX9_is_28 : decode cX9_is 28 = .ok (.if_icmp .ge 30, 3) := by decide +kernel
theorem dX9_is_31 : decode cX9_is 31 = .ok (.aload_n 0, 1) := by decide +kernel
theorem dX9_is_32 : decode cX9_is 32 = .ok (.getfield 42, 3) := by decide +kernel
theorem dX9_is_35 : decode cX9_is 35 = .ok (.aload_n 0, 1) := by decide +kernel
theorem dX9_is_36 : decode cX9_is 36 = .ok (.getfield 212, 3) := by decide +kernel
theorem dX9_is_39 : decode cX9_is 39 = .ok (.iload_n 2, 1) := by decide +kernel
theorem dX9_is_40 : decode cX9_is 40 = .ok (.iadd, 1) := by decide +kernel
theorem dX9_is_41 : decode cX9_is 41 = .ok (.iaload, 1) := by decide +kernel
theorem dX9_is_42 : decode cX9_is 42 = .ok (.aload_n 1, 1) := by decide +kernel
theorem dX9_is_43 : decode cX9_is 43 = .ok (.iload_n 2, 1) := by decide +kernel
theorem dX9_is_44 : decode cX9_is 44 = .ok (.invokevirtual 81, 3) := by decide +kernel
theorem dX9_is_47 : decode cX9_is 47 = .ok (.if_icmp .eq 5, 3) := by decide +kernel
theorem dX9_is_50 : decode cX9_is 50 = .ok (.iconst 0, 1) := by decide +kernel
theorem dX9_is_51 : decode cX9_is 51 = .ok (.ireturn, 1) := by decide +kernel
theorem dX9_is_52 : decode cX9_is 52 = .ok (.iinc 2 1, 3) := by decide +kernel
theorem dX9_is_55 : decode cX9_is 55 = .ok (.goto (-32), 3) := by decide +kernel
theorem dX9_is_58 : decode cX9_is 58 = .ok (.iconst 1, 1) := by decide +kernel
theorem dX9_is_59 : decode cX9_is 59 = .ok (.ireturn, 1) := by decide +kernel
theorem dX9_check_0 : decode cX9_check 0 = .ok (.aload_n 0, 1) := by decide +kernel
theorem dX9_check_1 : decode cX9_check 1 = .ok (.getfield 199, 3) := by decide +kernel
theorem dX9_check_4 : decode cX9_check 4 = .ok (.ifCond .ne 20, 3) := by decide +kernel
theorem dX9_check_7 : decode cX9_check 7 = .ok (.iload_n 1, 1) := by decide +kernel
theorem dX9_check_8 : decode cX9_check 8 = .ok (.ifCond .ne 16, 3) := by decide +kernel
theorem dX9_check_11 : decode cX9_check 11 = .ok (.aload_n 0, 1) := by decide +kernel
theorem dX9_check_12 : decode cX9_check 12 = .ok (.iload_n 2, 1) := by decide +kernel
theorem dX9_check_13 : decode cX9_check 13 = .ok (.putfield 199, 3) := by decide +kernel
theorem dX9_check_16 : decode cX9_check 16 = .ok (.aload_n 0, 1) := by decide +kernel
theorem dX9_check_17 : decode cX9_check 17 = .ok (.aload_n 0, 1) := by decide +kernel
theorem dX9_check_18 : decode cX9_check 18 = .ok (.getfield 212, 3) := by decide +kernel
theorem dX9_check_21 : decode cX9_check 21 = .ok (.putfield 45, 3) := by decide +kernel
theorem dX9_check_24 : decode cX9_check 24 = .ok (.aload_n 0, 1) := by decide +kernel
theorem dX9_check_25 : decode cX9_check 25 = .ok (.getfield 199, 3) := by decide +kernel
theorem dX9_check_28 : decode cX9_check 28 = .ok (.ifCond .ne 7, 3) := by decide +kernel
theorem dX9_check_31 : decode cX9_check 31 = .ok (.iconst 1, 1) := by decide +kernel
theorem dX9_check_32 : decode cX9_check 32 = .ok (.goto 4, 3) := by decide +kernel
theorem dX9_check_35 : decode cX9_check 35 = .ok (.iconst 0, 1) := by decide +kernel
theorem dX9_check_36 : decode cX9_check 36 = .ok (.ireturn, 1) := by decide +kernel
theorem dX9_next_0 : decode cX9_next 0 = .ok (.aload_n 0, 1) := by decide +kernel
theorem dX9_next_1 : decode cX9_next 1 = .ok (.getfield 199, 3) := by decide +kernel
theorem dX9_next_4 : decode cX9_next 4 = .ok (.ifCond .ne 7, 3) := by decide +kernel
theorem dX9_next_7 : decode cX9_next 7 = .ok (.aload_n 0, 1) := by decide +kernel
theorem dX9_next_8 : decode cX9_next 8 = .ok (.invokevirtual 228, 3) := by decide +kernel
theorem dX9_next_11 : decode cX9_next 11 = .ok (.return_, 1) := by decide +kernel
theorem dX9_finish_0 : decode cX9_finish 0 = .ok (.aload_n 0, 1) := by decide +kernel
theorem dX9_finish_1 : decode cX9_finish 1 = .ok (.aload_n 0, 1) := by decide +kernel
theorem dX9_finish_2 : decode cX9_finish 2 = .ok (.getfield 221, 3) := by decide +kernel
theorem dX9_finish_5 : decode cX9_finish 5 = .ok (.iconst 1, 1) := by decide +kernel
theorem dX9_finish_6 : decode cX9_finish 6 = .ok (.if_icmp .ne 21, 3) := by decide +kernel
theorem dX9_finish_9 : decode cX9_finish 9 = .ok (.aload_n 0, 1) := by decide +kernel
theorem dX9_finish_10 : decode cX9_finish 10 = .ok (.getfield 42, 3) := by decide +kernel
theorem dX9_finish_13 : decode cX9_finish 13 = .ok (.aload_n 0, 1) := by decide +kernel
theorem dX9_finish_14 : decode cX9_finish 14 = .ok (.getfield 212, 3) := by decide +kernel
theorem dX9_finish_17 : decode cX9_finish 17 = .ok (.iaload, 1) := by decide +kernel
theorem dX9_finish_18 : decode cX9_finish 18 = .ok (.bipush 59, 2) := by decide +kernel
theorem dX9_finish_20 : decode cX9_finish 20 = .ok (.if_icmp .ne 7, 3) := by decide +kernel
theorem dX9_finish_23 : decode cX9_finish 23 = .ok (.iconst 1, 1) := by decide +kernel
theorem dX9_finish_24 : decode cX9_finish 24 = .ok (.goto 4, 3) := by decide +kernel
theorem dX9_finish_27 : decode cX9_finish 27 = .ok (.iconst 0, 1) := by decide +kernel
theorem dX9_finish_28 : decode cX9_finish 28 = .ok (.iconst 1, 1) := by decide +kernel
theorem dX9_finish_29 : decode cX9_finish 29 = .ok (.invokevirtual 231, 3) := by decide +kernel
theorem dX9_finish_32 : decode cX9_finish 32 = .ok (.pop, 1) := by decide +kernel
theorem dX9_finish_33 : decode cX9_finish 33 = .ok (.aload_n 0, 1) := by decide +kernel
theorem dX9_finish_34 : decode cX9_finish 34 = .ok (.invokevirtual 234, 3) := by decide +kernel
theorem dX9_finish_37 : decode cX9_finish 37 = .ok (.return_, 1) := by decide +kernel
theorem dX9_nameFrom_0 : decode cX9_nameFrom 0 = .ok (.iload_n 2, 1) := by decide +kernel
theorem dX9_nameFrom_1 : decode cX9_nameFrom 1 = .ok (.iconst 1, 1) := by decide +kernel
theorem dX9_nameFrom_2 : decode cX9_nameFrom 2 = .ok (.iconst 4, 1) := by decide +kernel
theorem dX9_nameFrom_3 : decode cX9_nameFrom 3 = .ok (.invokestatic 128, 3) := by decide +kernel
theorem dX9_nameFrom_6 : decode cX9_nameFrom 6 = .ok (.ifCond .ne 5, 3) := by decide +kernel
theorem dX9_nameFrom_9 : decode cX9_nameFrom 9 = .ok (.iconst (-1), 1) := by decide +kernel
theorem dX9_nameFrom_10 : decode cX9_nameFrom 10 = .ok (.ireturn, 1) := by decide +kernel
theorem dX9_nameFrom_11 : decode cX9_nameFrom 11 = .ok (.iconst 0, 1) := by decide +kernel
theorem dX9_nameFrom_12 : decode cX9_nameFrom 12 = .ok (.istore_n 3, 1) := by decide +kernel
theorem dX9_nameFrom_13 : decode cX9_nameFrom 13 = .ok (.iconst 0, 1) := by decide +kernel
theorem dX9_nameFrom_14 : decode cX9_nameFrom 14 = .ok (.istore 4, 2) := by decide +kernel
theorem dX9_nameFrom_16 : decode cX9_nameFrom 16 = .ok (.iload 4, 2) := by decide +kernel
theorem dX9_nameFrom_18 : decode cX9_nameFrom 18 = .ok (.iconst 4, 1) := by decide +kernel
theorem dX9_nameFrom_19 : decode cX9_nameFrom 19 = .ok (.if_icmp .ge 60, 3) := by decide +kernel
theorem dX9_nameFrom_22 : decode cX9_nameFrom 22 = .ok (.iload 4, 2) := by decide +kernel
theorem dX9_nameFrom_24 : decode cX9_nameFrom 24 = .ok (.iload_n 2, 1) := by decide +kernel
theorem dX9_nameFrom_25 : decode cX9_nameFrom 25 = .ok (.if_icmp .ge 20, 3) := by decide +kernel
theorem dX9_nameFrom_28 : decode cX9_nameFrom 28 = .ok (.aload_n 0, 1) := by decide +kernel
theorem dX9_nameFrom_29 : decode cX9_nameFrom 29 = .ok (.getfield 42, 3) := by decide +kernel
theorem dX9_nameFrom_32 : decode cX9_nameFrom 32 = .ok (.iload_n 1, 1) := by decide +kernel
theorem dX9_nameFrom_33 : decode cX9_nameFrom 33 = .ok (.iload 4, 2) := by decide +kernel
theorem dX9_nameFrom_35 : decode cX9_nameFrom 35 = .ok (.iadd, 1) := by decide +kernel
theorem dX9_nameFrom_36 : decode cX9_nameFrom 36 = .ok (.iaload, 1) := by decide +kernel
theorem dX9_nameFrom_37 : decode cX9_nameFrom 37 = .ok (.invokestatic 202, 3) := by decide +kernel
theorem dX9_nameFrom_40 : decode cX9_nameFrom 40 = .ok (.ifCond .ne 5, 3) := by decide +kernel
theorem dX9_nameFrom_43 : decode cX9_nameFrom 43 = .ok (.iconst (-1), 1) := by decide +kernel
theorem dX9_nameFrom_44 : decode cX9_nameFrom 44 = .ok (.ireturn, 1) := by decide +kernel
theorem dX9_nameFrom_45 : decode cX9_nameFrom 45 = .ok (.iload_n 3, 1) := by decide +kernel
theorem dX9_nameFrom_46 : decode cX9_nameFrom 46 = .ok (.bipush 27, 2) := by decide +kernel
theorem dX9_nameFrom_48 : decode cX9_nameFrom 48 = .ok (.imul, 1) := by decide +kernel
theorem dX9_nameFrom_49 : decode cX9_nameFrom 49 = .ok (.iload 4, 2) := by decide +kernel
theorem dX9_nameFrom_51 : decode cX9_nameFrom 51 = .ok (.iload_n 2, 1) := by decide +kernel
theorem dX9_nameFrom_52 : decode cX9_nameFrom 52 = .ok (.if_icmp .ge 18, 3) := by decide +kernel
theorem dX9_nameFrom_55 : decode cX9_nameFrom 55 = .ok (.aload_n 0, 1) := by decide +kernel
theorem dX9_nameFrom_56 : decode cX9_nameFrom 56 = .ok (.getfield 42, 3) := by decide +kernel
theorem dX9_nameFrom_59 : decode cX9_nameFrom 59 = .ok (.iload_n 1, 1) := by decide +kernel
theorem dX9_nameFrom_60 : decode cX9_nameFrom 60 = .ok (.iload 4, 2) := by decide +kernel
theorem dX9_nameFrom_62 : decode cX9_nameFrom 62 = .ok (.iadd, 1) := by decide +kernel
theorem dX9_nameFrom_63 : decode cX9_nameFrom 63 = .ok (.iaload, 1) := by decide +kernel
theorem dX9_nameFrom_64 : decode cX9_nameFrom 64 = .ok (.bipush 96, 2) := by decide +kernel
theorem dX9_nameFrom_66 : decode cX9_nameFrom 66 = .ok (.isub, 1) := by decide +kernel
theorem dX9_nameFrom_67 : decode cX9_nameFrom 67 = .ok (.goto 4, 3) := by decide +kernel
theorem dX9_nameFrom_70 : decode cX9_nameFrom 70 = .ok (.iconst 0, 1) := by decide +kernel
theorem dX9_nameFrom_71 : decode cX9_nameFrom 71 = .ok (.iadd, 1) := by decide +kernel
theorem dX9_nameFrom_72 : decode cX9_nameFrom 72 = .ok (.istore_n 3, 1) := by decide +kernel
theorem dX9_nameFrom_73 : decode cX9_nameFrom 73 = .ok (.iinc 4 1, 3) := by decide +kernel
theorem dX9_nameFrom_76 : decode cX9_nameFrom 76 = .ok (.goto (-60), 3) := by decide +kernel
theorem dX9_nameFrom_79 : decode cX9_nameFrom 79 = .ok (.iload_n 3, 1) := by decide +kernel
theorem dX9_nameFrom_80 : decode cX9_nameFrom 80 = .ok (.ireturn, 1) := by decide +kernel
theorem dX9_named_0 : decode cX9_named 0 = .ok (.iconst 0, 1) := by decide +kernel
theorem dX9_named_1 : decode cX9_named 1 = .ok (.istore_n 2, 1) := by decide +kernel
theorem dX9_named_2 : decode cX9_named 2 = .ok (.iload_n 2, 1) := by decide +kernel
theorem dX9_named_3 : decode cX9_named 3 = .ok (.aload_n 0, 1) := by decide +kernel
theorem dX9_named_4 : decode cX9_named 4 = .ok (.iconst 2, 1) := by decide +kernel
theorem dX9_named_5 : decode cX9_named 5 = .ok (.iaload, 1) := by decide +kernel
theorem dX9_named_6 : decode cX9_named 6 = .ok (.if_icmp .ge 23, 3) := by decide +kernel
theorem dX9_named_9 : decode cX9_named 9 = .ok (.aload_n 0, 1) := by decide +kernel
theorem dX9_named_10 : decode cX9_named 10 = .ok (.iload_n 2, 1) := by decide +kernel
theorem dX9_named_11 : decode cX9_named 11 = .ok (.invokestatic 92, 3) := by decide +kernel
theorem dX9_named_14 : decode cX9_named 14 = .ok (.iconst 0, 1) := by decide +kernel
theorem dX9_named_15 : decode cX9_named 15 = .ok (.iadd, 1) := by decide +kernel
theorem dX9_named_16 : decode cX9_named 16 = .ok (.iaload, 1) := by decide +kernel
theorem dX9_named_17 : decode cX9_named 17 = .ok (.iload_n 1, 1) := by decide +kernel
theorem dX9_named_18 : decode cX9_named 18 = .ok (.if_icmp .ne 5, 3) := by decide +kernel
theorem dX9_named_21 : decode cX9_named 21 = .ok (.iload_n 2, 1) := by decide +kernel
theorem dX9_named_22 : decode cX9_named 22 = .ok (.ireturn, 1) := by decide +kernel
theorem dX9_named_23 : decode cX9_named 23 = .ok (.iinc 2 1, 3) := by decide +kernel
theorem dX9_named_26 : decode cX9_named 26 = .ok (.goto (-24), 3) := by decide +kernel
theorem dX9_named_29 : decode cX9_named 29 = .ok (.iconst (-1), 1) := by decide +kernel
theorem dX9_named_30 : decode cX9_named 30 = .ok (.ireturn, 1) := by decide +kernel
theorem dX9_layReader_0 : decode cX9_layReader 0 = .ok (.aload_n 0, 1) := by decide +kernel
theorem dX9_layReader_1 : decode cX9_layReader 1 = .ok (.iconst 2, 1) := by decide +kernel
theorem dX9_layReader_2 : decode cX9_layReader 2 = .ok (.iaload, 1) := by decide +kernel
theorem dX9_layReader_3 : decode cX9_layReader 3 = .ok (.invokestatic 92, 3) := by decide +kernel
theorem dX9_layReader_6 : decode cX9_layReader 6 = .ok (.istore_n 3, 1) := by decide +kernel
theorem dX9_layReader_7 : decode cX9_layReader 7 = .ok (.iconst 0, 1) := by decide +kernel
theorem dX9_layReader_8 : decode cX9_layReader 8 = .ok (.istore 4, 2) := by decide +kernel
theorem dX9_layReader_10 : decode cX9_layReader 10 = .ok (.iload 4, 2) := by decide +kernel
theorem dX9_layReader_12 : decode cX9_layReader 12 = .ok (.sipush 1412, 3) := by decide +kernel
theorem dX9_layReader_15 : decode cX9_layReader 15 = .ok (.if_icmp .ge 16, 3) := by decide +kernel
theorem dX9_layReader_18 : decode cX9_layReader 18 = .ok (.aload_n 0, 1) := by decide +kernel
theorem dX9_layReader_19 : decode cX9_layReader 19 = .ok (.iload_n 3, 1) := by decide +kernel
theorem dX9_layReader_20 : decode cX9_layReader 20 = .ok (.iload 4, 2) := by decide +kernel
theorem dX9_layReader_22 : decode cX9_layReader 22 = .ok (.iadd, 1) := by decide +kernel
theorem dX9_layReader_23 : decode cX9_layReader 23 = .ok (.iconst 0, 1) := by decide +kernel
theorem dX9_layReader_24 : decode cX9_layReader 24 = .ok (.iastore, 1) := by decide +kernel
theorem dX9_layReader_25 : decode cX9_layReader 25 = .ok (.iinc 4 1, 3) := by decide +kernel
theorem dX9_layReader_28 : decode cX9_layReader 28 = .ok (.goto (-18), 3) := by decide +kernel
theorem dX9_layReader_31 : decode cX9_layReader 31 = .ok (.aload_n 0, 1) := by decide +kernel
theorem dX9_layReader_32 : decode cX9_layReader 32 = .ok (.iload_n 3, 1) := by decide +kernel
theorem dX9_layReader_33 : decode cX9_layReader 33 = .ok (.iconst 0, 1) := by decide +kernel
theorem dX9_layReader_34 : decode cX9_layReader 34 = .ok (.iadd, 1) := by decide +kernel
theorem dX9_layReader_35 : decode cX9_layReader 35 = .ok (.iload_n 1, 1) := by decide +kernel
theorem dX9_layReader_36 : decode cX9_layReader 36 = .ok (.iastore, 1) := by decide +kernel
theorem dX9_layReader_37 : decode cX9_layReader 37 = .ok (.aload_n 0, 1) := by decide +kernel
theorem dX9_layReader_38 : decode cX9_layReader 38 = .ok (.iload_n 3, 1) := by decide +kernel
theorem dX9_layReader_39 : decode cX9_layReader 39 = .ok (.iconst 1, 1) := by decide +kernel
theorem dX9_layReader_40 : decode cX9_layReader 40 = .ok (.iadd, 1) := by decide +kernel
theorem dX9_layReader_41 : decode cX9_layReader 41 = .ok (.iload_n 2, 1) := by decide +kernel
theorem dX9_layReader_42 : decode cX9_layReader 42 = .ok (.iastore, 1) := by decide +kernel
theorem dX9_layReader_43 : decode cX9_layReader 43 = .ok (.aload_n 0, 1) := by decide +kernel
theorem dX9_layReader_44 : decode cX9_layReader 44 = .ok (.iconst 2, 1) := by decide +kernel
theorem dX9_layReader_45 : decode cX9_layReader 45 = .ok (.dup2, 1) := by decide +kernel
theorem dX9_layReader_46 : decode cX9_layReader 46 = .ok (.iaload, 1) := by decide +kernel
theorem dX9_layReader_47 : decode cX9_layReader 47 = .ok (.iconst 1, 1) := by decide +kernel
theorem dX9_layReader_48 : decode cX9_layReader 48 = .ok (.iadd, 1) := by decide +kernel
theorem dX9_layReader_49 : decode cX9_layReader 49 = .ok (.iastore, 1) := by decide +kernel
theorem dX9_layReader_50 : decode cX9_layReader 50 = .ok (.aload_n 0, 1) := by decide +kernel
theorem dX9_layReader_51 : decode cX9_layReader 51 = .ok (.iconst 2, 1) := by decide +kernel
theorem dX9_layReader_52 : decode cX9_layReader 52 = .ok (.iaload, 1) := by decide +kernel
theorem dX9_layReader_53 : decode cX9_layReader 53 = .ok (.iconst 1, 1) := by decide +kernel
theorem dX9_layReader_54 : decode cX9_layReader 54 = .ok (.isub, 1) := by decide +kernel
theorem dX9_layReader_55 : decode cX9_layReader 55 = .ok (.ireturn, 1) := by decide +kernel
theorem dX9_layDocument_0 : decode cX9_layDocument 0 = .ok (.aload_n 1, 1) := by decide +kernel
theorem dX9_layDocument_1 : decode cX9_layDocument 1 = .ok (.iconst 1, 1) := by decide +kernel
theorem dX9_layDocument_2 : decode cX9_layDocument 2 = .ok (.iaload, 1) := by decide +kernel
theorem dX9_layDocument_3 : decode cX9_layDocument 3 = .ok (.invokestatic 88, 3) := by decide +kernel
theorem dX9_layDocument_6 : decode cX9_layDocument 6 = .ok (.istore 4, 2) := by decide +kernel
theorem dX9_layDocument_8 : decode cX9_layDocument 8 = .ok (.aload_n 1, 1) := by decide +kernel
theorem dX9_layDocument_9 : decode cX9_layDocument 9 = .ok (.iload 4, 2) := by decide +kernel
theorem dX9_layDocument_11 : decode cX9_layDocument 11 = .ok (.iconst 0, 1) := by decide +kernel
theorem dX9_layDocument_12 : decode cX9_layDocument 12 = .ok (.iadd, 1) := by decide +kernel
theorem dX9_layDocument_13 : decode cX9_layDocument 13 = .ok (.iload_n 3, 1) := by decide +kernel
theorem dX9_layDocument_14 : decode cX9_layDocument 14 = .ok (.iastore, 1) := by decide +kernel
theorem dX9_layDocument_15 : decode cX9_layDocument 15 = .ok (.aload_n 1, 1) := by decide +kernel
theorem dX9_layDocument_16 : decode cX9_layDocument 16 = .ok (.iload 4, 2) := by decide +kernel
theorem dX9_layDocument_18 : decode cX9_layDocument 18 = .ok (.iconst 1, 1) := by decide +kernel
theorem dX9_layDocument_19 : decode cX9_layDocument 19 = .ok (.iadd, 1) := by decide +kernel
theorem dX9_layDocument_20 : decode cX9_layDocument 20 = .ok (.aload_n 1, 1) := by decide +kernel
theorem dX9_layDocument_21 : decode cX9_layDocument 21 = .ok (.iconst 0, 1) := by decide +kernel
theorem dX9_layDocument_22 : decode cX9_layDocument 22 = .ok (.iaload, 1) := by decide +kernel
theorem dX9_layDocument_23 : decode cX9_layDocument 23 = .ok (.iastore, 1) := by decide +kernel
theorem dX9_layDocument_24 : decode cX9_layDocument 24 = .ok (.iconst 0, 1) := by decide +kernel
theorem dX9_layDocument_25 : decode cX9_layDocument 25 = .ok (.istore 5, 2) := by decide +kernel
theorem dX9_layDocument_27 : decode cX9_layDocument 27 = .ok (.iload 5, 2) := by decide +kernel
theorem dX9_layDocument_29 : decode cX9_layDocument 29 = .ok (.iload_n 3, 1) := by decide +kernel
theorem dX9_layDocument_30 : decode cX9_layDocument 30 = .ok (.if_icmp .ge 50, 3) := by decide +kernel
theorem dX9_layDocument_33 : decode cX9_layDocument 33 = .ok (.aload_n 1, 1) := by decide +kernel
theorem dX9_layDocument_34 : decode cX9_layDocument 34 = .ok (.iload 4, 2) := by decide +kernel
theorem dX9_layDocument_36 : decode cX9_layDocument 36 = .ok (.iconst 2, 1) := by decide +kernel
theorem dX9_layDocument_37 : decode cX9_layDocument 37 = .ok (.iadd, 1) := by decide +kernel
theorem dX9_layDocument_38 : decode cX9_layDocument 38 = .ok (.iload 5, 2) := by decide +kernel
theorem dX9_layDocument_40 : decode cX9_layDocument 40 = .ok (.iadd, 1) := by decide +kernel
theorem dX9_layDocument_41 : decode cX9_layDocument 41 = .ok (.aload_n 0, 1) := by decide +kernel
theorem dX9_layDocument_42 : decode cX9_layDocument 42 = .ok (.getfield 42, 3) := by decide +kernel
theorem dX9_layDocument_45 : decode cX9_layDocument 45 = .ok (.iload_n 2, 1) := by decide +kernel
theorem dX9_layDocument_46 : decode cX9_layDocument 46 = .ok (.iload 5, 2) := by decide +kernel
theorem dX9_layDocument_48 : decode cX9_layDocument 48 = .ok (.iadd, 1) := by decide +kernel
theorem dX9_layDocument_49 : decode cX9_layDocument 49 = .ok (.iaload, 1) := by decide +kernel
theorem dX9_layDocument_50 : decode cX9_layDocument 50 = .ok (.invokestatic 202, 3) := by decide +kernel
theorem dX9_layDocument_53 : decode cX9_layDocument 53 = .ok (.ifCond .eq 18, 3) := by decide +kernel
theorem dX9_layDocument_56 : decode cX9_layDocument 56 = .ok (.aload_n 0, 1) := by decide +kernel
theorem dX9_layDocument_57 : decode cX9_layDocument 57 = .ok (.getfield 42, 3) := by decide +kernel
theorem dX9_layDocument_60 : decode cX9_layDocument 60 = .ok (.iload_n 2, 1) := by decide +kernel
theorem dX9_layDocument_61 : decode cX9_layDocument 61 = .ok (.iload 5, 2) := by decide +kernel
theorem dX9_layDocument_63 : decode cX9_layDocument 63 = .ok (.iadd, 1) := by decide +kernel
theorem dX9_layDocument_64 : decode cX9_layDocument 64 = .ok (.iaload, 1) := by decide +kernel
theorem dX9_layDocument_65 : decode cX9_layDocument 65 = .ok (.bipush 97, 2) := by decide +kernel
theorem dX9_layDocument_67 : decode cX9_layDocument 67 = .ok (.isub, 1) := by decide +kernel
theorem dX9_layDocument_68 : decode cX9_layDocument 68 = .ok (.goto 5, 3) := by decide +kernel
theorem dX9_layDocument_71 : decode cX9_layDocument 71 = .ok (.bipush 26, 2) := by decide +kernel
theorem dX9_layDocument_73 : decode cX9_layDocument 73 = .ok (.iastore, 1) := by decide +kernel
theorem dX9_layDocument_74 : decode cX9_layDocument 74 = .ok (.iinc 5 1, 3) := by decide +kernel
theorem dX9_layDocument_77 : decode cX9_layDocument 77 = .ok (.goto (-50), 3) := by decide +kernel
theorem dX9_layDocument_80 : decode cX9_layDocument 80 = .ok (.aload_n 1, 1) := by decide +kernel
theorem dX9_layDocument_81 : decode cX9_layDocument 81 = .ok (.iconst 1, 1) := by decide +kernel
theorem dX9_layDocument_82 : decode cX9_layDocument 82 = .ok (.dup2, 1) := by decide +kernel
theorem dX9_layDocument_83 : decode cX9_layDocument 83 = .ok (.iaload, 1) := by decide +kernel
theorem dX9_layDocument_84 : decode cX9_layDocument 84 = .ok (.iconst 1, 1) := by decide +kernel
theorem dX9_layDocument_85 : decode cX9_layDocument 85 = .ok (.iadd, 1) := by decide +kernel
theorem dX9_layDocument_86 : decode cX9_layDocument 86 = .ok (.iastore, 1) := by decide +kernel
theorem dX9_layDocument_87 : decode cX9_layDocument 87 = .ok (.aload_n 1, 1) := by decide +kernel
theorem dX9_layDocument_88 : decode cX9_layDocument 88 = .ok (.iconst 1, 1) := by decide +kernel
theorem dX9_layDocument_89 : decode cX9_layDocument 89 = .ok (.iaload, 1) := by decide +kernel
theorem dX9_layDocument_90 : decode cX9_layDocument 90 = .ok (.iconst 1, 1) := by decide +kernel
theorem dX9_layDocument_91 : decode cX9_layDocument 91 = .ok (.isub, 1) := by decide +kernel
theorem dX9_layDocument_92 : decode cX9_layDocument 92 = .ok (.ireturn, 1) := by decide +kernel
theorem dX9_readReader_0 : decode cX9_readReader 0 = .ok (.aload_n 0, 1) := by decide +kernel
theorem dX9_readReader_1 : decode cX9_readReader 1 = .ok (.aload_n 0, 1) := by decide +kernel
theorem dX9_readReader_2 : decode cX9_readReader 2 = .ok (.getfield 13, 3) := by decide +kernel
theorem dX9_readReader_5 : decode cX9_readReader 5 = .ok (.iconst 2, 1) := by decide +kernel
theorem dX9_readReader_6 : decode cX9_readReader 6 = .ok (.iaload, 1) := by decide +kernel
theorem dX9_readReader_7 : decode cX9_readReader 7 = .ok (.iconst 4, 1) := by decide +kernel
theorem dX9_readReader_8 : decode cX9_readReader 8 = .ok (.if_icmp .ge 7, 3) := by decide +kernel
theorem dX9_readReader_11 : decode cX9_readReader 11 = .ok (.iconst 1, 1) := by decide +kernel
theorem dX9_readReader_12 : decode cX9_readReader 12 = .ok (.goto 4, 3) := by decide +kernel
theorem dX9_readReader_15 : decode cX9_readReader 15 = .ok (.iconst 0, 1) := by decide +kernel
theorem dX9_readReader_16 : decode cX9_readReader 16 = .ok (.iconst 5, 1) := by decide +kernel
theorem dX9_readReader_17 : decode cX9_readReader 17 = .ok (.invokevirtual 231, 3) := by decide +kernel
theorem dX9_readReader_20 : decode cX9_readReader 20 = .ok (.pop, 1) := by decide +kernel
theorem dX9_readReader_21 : decode cX9_readReader 21 = .ok (.aload_n 0, 1) := by decide +kernel
theorem dX9_readReader_22 : decode cX9_readReader 22 = .ok (.invokevirtual 234, 3) := by decide +kernel
theorem dX9_readReader_25 : decode cX9_readReader 25 = .ok (.aload_n 0, 1) := by decide +kernel
theorem dX9_readReader_26 : decode cX9_readReader 26 = .ok (.aload_n 0, 1) := by decide +kernel
theorem dX9_readReader_27 : decode cX9_readReader 27 = .ok (.getfield 221, 3) := by decide +kernel
theorem dX9_readReader_30 : decode cX9_readReader 30 = .ok (.iconst 3, 1) := by decide +kernel
theorem dX9_readReader_31 : decode cX9_readReader 31 = .ok (.if_icmp .ne 7, 3) := by decide +kernel
theorem dX9_readReader_34 : decode cX9_readReader 34 = .ok (.iconst 1, 1) := by decide +kernel
theorem dX9_readReader_35 : decode cX9_readReader 35 = .ok (.goto 4, 3) := by decide +kernel
theorem dX9_readReader_38 : decode cX9_readReader 38 = .ok (.iconst 0, 1) := by decide +kernel
theorem dX9_readReader_39 : decode cX9_readReader 39 = .ok (.iconst 1, 1) := by decide +kernel
theorem dX9_readReader_40 : decode cX9_readReader 40 = .ok (.invokevirtual 231, 3) := by decide +kernel
theorem dX9_readReader_43 : decode cX9_readReader 43 = .ok (.pop, 1) := by decide +kernel
theorem dX9_readReader_44 : decode cX9_readReader 44 = .ok (.aload_n 0, 1) := by decide +kernel
theorem dX9_readReader_45 : decode cX9_readReader 45 = .ok (.getfield 199, 3) := by decide +kernel
theorem dX9_readReader_48 : decode cX9_readReader 48 = .ok (.ifCond .ne 18, 3) := by decide +kernel
theorem dX9_readReader_51 : decode cX9_readReader 51 = .ok (.aload_n 0, 1) := by decide +kernel
theorem dX9_readReader_52 : decode cX9_readReader 52 = .ok (.aload_n 0, 1) := by decide +kernel
theorem dX9_readReader_53 : decode cX9_readReader 53 = .ok (.getfield 212, 3) := by decide +kernel
theorem dX9_readReader_56 : decode cX9_readReader 56 = .ok (.aload_n 0, 1) := by decide +kernel
theorem dX9_readReader_57 : decode cX9_readReader 57 = .ok (.getfield 215, 3) := by decide +kernel
theorem dX9_readReader_60 : decode cX9_readReader 60 = .ok (.invokevirtual 237, 3) := by decide +kernel
theorem dX9_readReader_63 : decode cX9_readReader 63 = .ok (.goto 4, 3) := by decide +kernel
theorem dX9_readReader_66 : decode cX9_readReader 66 = .ok (.iconst (-1), 1) := by decide +kernel
theorem dX9_readReader_67 : decode cX9_readReader 67 = .ok (.istore_n 1, 1) := by decide +kernel
theorem dX9_readReader_68 : decode cX9_readReader 68 = .ok (.aload_n 0, 1) := by decide +kernel
theorem dX9_readReader_69 : decode cX9_readReader 69 = .ok (.iload_n 1, 1) := by decide +kernel
theorem dX9_readReader_70 : decode cX9_readReader 70 = .ok (.iconst (-1), 1) := by decide +kernel
theorem dX9_readReader_71 : decode cX9_readReader 71 = .ok (.if_icmp .eq 7, 3) := by decide +kernel
theorem dX9_readReader_74 : decode cX9_readReader 74 = .ok (.iconst 1, 1) := by decide +kernel
theorem dX9_readReader_75 : decode cX9_readReader 75 = .ok (.goto 4, 3) := by decide +kernel
theorem dX9_readReader_78 : decode cX9_readReader 78 = .ok (.iconst 0, 1) := by decide +kernel
theorem dX9_readReader_79 : decode cX9_readReader 79 = .ok (.iconst 2, 1) := by decide +kernel
theorem dX9_readReader_80 : decode cX9_readReader 80 = .ok (.invokevirtual 231, 3) := by decide +kernel
theorem dX9_readReader_83 : decode cX9_readReader 83 = .ok (.pop, 1) := by decide +kernel
theorem dX9_readReader_84 : decode cX9_readReader 84 = .ok (.aload_n 0, 1) := by decide +kernel
theorem dX9_readReader_85 : decode cX9_readReader 85 = .ok (.aload_n 0, 1) := by decide +kernel
theorem dX9_readReader_86 : decode cX9_readReader 86 = .ok (.getfield 199, 3) := by decide +kernel
theorem dX9_readReader_89 : decode cX9_readReader 89 = .ok (.ifCond .ne 15, 3) := by decide +kernel
theorem dX9_readReader_92 : decode cX9_readReader 92 = .ok (.aload_n 0, 1) := by decide +kernel
theorem dX9_readReader_93 : decode cX9_readReader 93 = .ok (.getfield 13, 3) := by decide +kernel
theorem dX9_readReader_96 : decode cX9_readReader 96 = .ok (.iload_n 1, 1) := by decide +kernel
theorem dX9_readReader_97 : decode cX9_readReader 97 = .ok (.invokestatic 240, 3) := by decide +kernel
theorem dX9_readReader_100 : decode cX9_readReader 100 = .ok (.iconst (-1), 1) := by decide +kernel
theorem dX9_readReader_101 : decode cX9_readReader 101 = .ok (.if_icmp .ne 7, 3) := by decide +kernel
theorem dX9_readReader_104 : decode cX9_readReader 104 = .ok (.iconst 1, 1) := by decide +kernel
theorem dX9_readReader_105 : decode cX9_readReader 105 = .ok (.goto 4, 3) := by decide +kernel
theorem dX9_readReader_108 : decode cX9_readReader 108 = .ok (.iconst 0, 1) := by decide +kernel
theorem dX9_readReader_109 : decode cX9_readReader 109 = .ok (.iconst 3, 1) := by decide +kernel
theorem dX9_readReader_110 : decode cX9_readReader 110 = .ok (.invokevirtual 231, 3) := by decide +kernel
theorem dX9_readReader_113 : decode cX9_readReader 113 = .ok (.pop, 1) := by decide +kernel
theorem dX9_readReader_114 : decode cX9_readReader 114 = .ok (.aload_n 0, 1) := by decide +kernel
theorem dX9_readReader_115 : decode cX9_readReader 115 = .ok (.invokevirtual 234, 3) := by decide +kernel
theorem dX9_readReader_118 : decode cX9_readReader 118 = .ok (.aload_n 0, 1) := by decide +kernel
theorem dX9_readReader_119 : decode cX9_readReader 119 = .ok (.ldc 243, 2) := by decide +kernel
theorem dX9_readReader_121 : decode cX9_readReader 121 = .ok (.invokevirtual 245, 3) := by decide +kernel
theorem dX9_readReader_124 : decode cX9_readReader 124 = .ok (.ifCond .eq 7, 3) := by decide +kernel
theorem dX9_readReader_127 : decode cX9_readReader 127 = .ok (.iconst 0, 1) := by decide +kernel
theorem dX9_readReader_128 : decode cX9_readReader 128 = .ok (.goto 30, 3) := by decide +kernel
theorem dX9_readReader_131 : decode cX9_readReader 131 = .ok (.aload_n 0, 1) := by decide +kernel
theorem dX9_readReader_132 : decode cX9_readReader 132 = .ok (.ldc 249, 2) := by decide +kernel
theorem dX9_readReader_134 : decode cX9_readReader 134 = .ok (.invokevirtual 245, 3) := by decide +kernel
theorem dX9_readReader_137 : decode cX9_readReader 137 = .ok (.ifCond .eq 7, 3) := by decide +kernel
theorem dX9_readReader_140 : decode cX9_readReader 140 = .ok (.iconst 1, 1) := by decide +kernel
theorem dX9_readReader_141 : decode cX9_readReader 141 = .ok (.goto 17, 3) := by decide +kernel
theorem dX9_readReader_144 : decode cX9_readReader 144 = .ok (.aload_n 0, 1) := by decide +kernel
theorem dX9_readReader_145 : decode cX9_readReader 145 = .ok (.ldc 251, 2) := by decide +kernel
theorem dX9_readReader_147 : decode cX9_readReader 147 = .ok (.invokevirtual 245, 3) := by decide +kernel
theorem dX9_readReader_150 : decode cX9_readReader 150 = .ok (.ifCond .eq 7, 3) := by decide +kernel
theorem dX9_readReader_153 : decode cX9_readReader 153 = .ok (.iconst 2, 1) := by decide +kernel
theorem dX9_readReader_154 : decode cX9_readReader 154 = .ok (.goto 4, 3) := by decide +kernel
theorem dX9_readReader_157 : decode cX9_readReader 157 = .ok (.iconst (-1), 1) := by decide +kernel
theorem dX9_readReader_158 : decode cX9_readReader 158 = .ok (.istore_n 2, 1) := by decide +kernel
theorem dX9_readReader_159 : decode cX9_readReader 159 = .ok (.aload_n 0, 1) := by decide +kernel
theorem dX9_readReader_160 : decode cX9_readReader 160 = .ok (.iload_n 2, 1) := by decide +kernel
theorem dX9_readReader_161 : decode cX9_readReader 161 = .ok (.iconst (-1), 1) := by decide +kernel
theorem dX9_readReader_162 : decode cX9_readReader 162 = .ok (.if_icmp .eq 7, 3) := by decide +kernel
theorem dX9_readReader_165 : decode cX9_readReader 165 = .ok (.iconst 1, 1) := by decide +kernel
theorem dX9_readReader_166 : decode cX9_readReader 166 = .ok (.goto 4, 3) := by decide +kernel
theorem dX9_readReader_169 : decode cX9_readReader 169 = .ok (.iconst 0, 1) := by decide +kernel
theorem dX9_readReader_170 : decode cX9_readReader 170 = .ok (.iconst 1, 1) := by decide +kernel
theorem dX9_readReader_171 : decode cX9_readReader 171 = .ok (.invokevirtual 231, 3) := by decide +kernel
theorem dX9_readReader_174 : decode cX9_readReader 174 = .ok (.pop, 1) := by decide +kernel
theorem dX9_readReader_175 : decode cX9_readReader 175 = .ok (.aload_n 0, 1) := by decide +kernel
theorem dX9_readReader_176 : decode cX9_readReader 176 = .ok (.invokevirtual 234, 3) := by decide +kernel
theorem dX9_readReader_179 : decode cX9_readReader 179 = .ok (.aload_n 0, 1) := by decide +kernel
theorem dX9_readReader_180 : decode cX9_readReader 180 = .ok (.invokevirtual 253, 3) := by decide +kernel
theorem dX9_readReader_183 : decode cX9_readReader 183 = .ok (.aload_n 0, 1) := by decide +kernel
theorem dX9_readReader_184 : decode cX9_readReader 184 = .ok (.getfield 199, 3) := by decide +kernel
theorem dX9_readReader_187 : decode cX9_readReader 187 = .ok (.ifCond .ne 20, 3) := by decide +kernel
theorem dX9_readReader_190 : decode cX9_readReader 190 = .ok (.aload_n 0, 1) := by decide +kernel
theorem dX9_readReader_191 : decode cX9_readReader 191 = .ok (.getfield 13, 3) := by decide +kernel
theorem dX9_readReader_194 : decode cX9_readReader 194 = .ok (.iload_n 1, 1) := by decide +kernel
theorem dX9_readReader_195 : decode cX9_readReader 195 = .ok (.iload_n 2, 1) := by decide +kernel
theorem dX9_readReader_196 : decode cX9_readReader 196 = .ok (.invokestatic 256, 3) := by decide +kernel
theorem dX9_readReader_199 : decode cX9_readReader 199 = .ok (.ifCond .ge 8, 3) := by decide +kernel
theorem dX9_readReader_202 : decode cX9_readReader 202 = .ok (.aload_n 0, 1) := by decide +kernel
theorem dX9_readReader_203 : decode cX9_readReader 203 = .ok (.iconst 1, 1) := by decide +kernel
theorem dX9_readReader_204 : decode cX9_readReader 204 = .ok (.putfield 199, 3) := by decide +kernel
theorem dX9_readReader_207 : decode cX9_readReader 207 = .ok (.return_, 1) := by decide +kernel
theorem dX9_readDocument_0 : decode cX9_readDocument 0 = .ok (.aload_n 0, 1) := by decide +kernel
theorem dX9_readDocument_1 : decode cX9_readDocument 1 = .ok (.aload_n 0, 1) := by decide +kernel
theorem dX9_readDocument_2 : decode cX9_readDocument 2 = .ok (.getfield 13, 3) := by decide +kernel
theorem dX9_readDocument_5 : decode cX9_readDocument 5 = .ok (.iconst 1, 1) := by decide +kernel
theorem dX9_readDocument_6 : decode cX9_readDocument 6 = .ok (.iaload, 1) := by decide +kernel
theorem dX9_readDocument_7 : decode cX9_readDocument 7 = .ok (.bipush 8, 2) := by decide +kernel
theorem dX9_readDocument_9 : decode cX9_readDocument 9 = .ok (.if_icmp .ge 7, 3) := by decide +kernel
theorem dX9_readDocument_12 : decode cX9_readDocument 12 = .ok (.iconst 1, 1) := by decide +kernel
theorem dX9_readDocument_13 : decode cX9_readDocument 13 = .ok (.goto 4, 3) := by decide +kernel
theorem dX9_readDocument_16 : decode cX9_readDocument 16 = .ok (.iconst 0, 1) := by decide +kernel
theorem dX9_readDocument_17 : decode cX9_readDocument 17 = .ok (.iconst 5, 1) := by decide +kernel
theorem dX9_readDocument_18 : decode cX9_readDocument 18 = .ok (.invokevirtual 231, 3) := by decide +kernel
theorem dX9_readDocument_21 : decode cX9_readDocument 21 = .ok (.pop, 1) := by decide +kernel
theorem dX9_readDocument_22 : decode cX9_readDocument 22 = .ok (.aload_n 0, 1) := by decide +kernel
theorem dX9_readDocument_23 : decode cX9_readDocument 23 = .ok (.invokevirtual 234, 3) := by decide +kernel
theorem dX9_readDocument_26 : decode cX9_readDocument 26 = .ok (.aload_n 0, 1) := by decide +kernel
theorem dX9_readDocument_27 : decode cX9_readDocument 27 = .ok (.aload_n 0, 1) := by decide +kernel
theorem dX9_readDocument_28 : decode cX9_readDocument 28 = .ok (.getfield 221, 3) := by decide +kernel
theorem dX9_readDocument_31 : decode cX9_readDocument 31 = .ok (.iconst 3, 1) := by decide +kernel
theorem dX9_readDocument_32 : decode cX9_readDocument 32 = .ok (.if_icmp .ne 7, 3) := by decide +kernel
theorem dX9_readDocument_35 : decode cX9_readDocument 35 = .ok (.iconst 1, 1) := by decide +kernel
theorem dX9_readDocument_36 : decode cX9_readDocument 36 = .ok (.goto 4, 3) := by decide +kernel
theorem dX9_readDocument_39 : decode cX9_readDocument 39 = .ok (.iconst 0, 1) := by decide +kernel
theorem dX9_readDocument_40 : decode cX9_readDocument 40 = .ok (.iconst 1, 1) := by decide +kernel
theorem dX9_readDocument_41 : decode cX9_readDocument 41 = .ok (.invokevirtual 231, 3) := by decide +kernel
theorem dX9_readDocument_44 : decode cX9_readDocument 44 = .ok (.pop, 1) := by decide +kernel
theorem dX9_readDocument_45 : decode cX9_readDocument 45 = .ok (.aload_n 0, 1) := by decide +kernel
theorem dX9_readDocument_46 : decode cX9_readDocument 46 = .ok (.aload_n 0, 1) := by decide +kernel
theorem dX9_readDocument_47 : decode cX9_readDocument 47 = .ok (.getfield 215, 3) := by decide +kernel
theorem dX9_readDocument_50 : decode cX9_readDocument 50 = .ok (.bipush 40, 2) := by decide +kernel
theorem dX9_readDocument_52 : decode cX9_readDocument 52 = .ok (.if_icmp .gt 7, 3) := by decide +kernel
theorem dX9_readDocument_55 : decode cX9_readDocument 55 = .ok (.iconst 1, 1) := by decide +kernel
theorem dX9_readDocument_56 : decode cX9_readDocument 56 = .ok (.goto 4, 3) := by decide +kernel
theorem dX9_readDocument_59 : decode cX9_readDocument 59 = .ok (.iconst 0, 1) := by decide +kernel
theorem dX9_readDocument_60 : decode cX9_readDocument 60 = .ok (.iconst 2, 1) := by decide +kernel
theorem dX9_readDocument_61 : decode cX9_readDocument 61 = .ok (.invokevirtual 231, 3) := by decide +kernel
theorem dX9_readDocument_64 : decode cX9_readDocument 64 = .ok (.pop, 1) := by decide +kernel
theorem dX9_readDocument_65 : decode cX9_readDocument 65 = .ok (.aload_n 0, 1) := by decide +kernel
theorem dX9_readDocument_66 : decode cX9_readDocument 66 = .ok (.getfield 212, 3) := by decide +kernel
theorem dX9_readDocument_69 : decode cX9_readDocument 69 = .ok (.istore_n 1, 1) := by decide +kernel
theorem dX9_readDocument_70 : decode cX9_readDocument 70 = .ok (.aload_n 0, 1) := by decide +kernel
theorem dX9_readDocument_71 : decode cX9_readDocument 71 = .ok (.getfield 215, 3) := by decide +kernel
theorem dX9_readDocument_74 : decode cX9_readDocument 74 = .ok (.istore_n 2, 1) := by decide +kernel
theorem dX9_readDocument_75 : decode cX9_readDocument 75 = .ok (.aload_n 0, 1) := by decide +kernel
theorem dX9_readDocument_76 : decode cX9_readDocument 76 = .ok (.invokevirtual 234, 3) := by decide +kernel
theorem dX9_readDocument_79 : decode cX9_readDocument 79 = .ok (.aload_n 0, 1) := by decide +kernel
theorem dX9_readDocument_80 : decode cX9_readDocument 80 = .ok (.invokevirtual 253, 3) := by decide +kernel
theorem dX9_readDocument_83 : decode cX9_readDocument 83 = .ok (.aload_n 0, 1) := by decide +kernel
theorem dX9_readDocument_84 : decode cX9_readDocument 84 = .ok (.getfield 199, 3) := by decide +kernel
theorem dX9_readDocument_87 : decode cX9_readDocument 87 = .ok (.ifCond .ne 21, 3) := by decide +kernel
theorem dX9_readDocument_90 : decode cX9_readDocument 90 = .ok (.aload_n 0, 1) := by decide +kernel
theorem dX9_readDocument_91 : decode cX9_readDocument 91 = .ok (.aload_n 0, 1) := by decide +kernel
theorem dX9_readDocument_92 : decode cX9_readDocument 92 = .ok (.getfield 13, 3) := by decide +kernel
theorem dX9_readDocument_95 : decode cX9_readDocument 95 = .ok (.iload_n 1, 1) := by decide +kernel
theorem dX9_readDocument_96 : decode cX9_readDocument 96 = .ok (.iload_n 2, 1) := by decide +kernel
theorem dX9_readDocument_97 : decode cX9_readDocument 97 = .ok (.invokevirtual 259, 3) := by decide +kernel
theorem dX9_readDocument_100 : decode cX9_readDocument 100 = .ok (.ifCond .ge 8, 3) := by decide +kernel
theorem dX9_readDocument_103 : decode cX9_readDocument 103 = .ok (.aload_n 0, 1) := by decide +kernel
theorem dX9_readDocument_104 : decode cX9_readDocument 104 = .ok (.iconst 1, 1) := by decide +kernel
theorem dX9_readDocument_105 : decode cX9_readDocument 105 = .ok (.putfield 199, 3) := by decide +kernel
theorem dX9_readDocument_108 : decode cX9_readDocument 108 = .ok (.return_, 1) := by decide +kernel
theorem dX9_readTrain_0 : decode cX9_readTrain 0 = .ok (.aload_n 0, 1) := by decide +kernel
theorem dX9_readTrain_1 : decode cX9_readTrain 1 = .ok (.invokevirtual 234, 3) := by decide +kernel
theorem dX9_readTrain_4 : decode cX9_readTrain 4 = .ok (.aload_n 0, 1) := by decide +kernel
theorem dX9_readTrain_5 : decode cX9_readTrain 5 = .ok (.aload_n 0, 1) := by decide +kernel
theorem dX9_readTrain_6 : decode cX9_readTrain 6 = .ok (.getfield 221, 3) := by decide +kernel
theorem dX9_readTrain_9 : decode cX9_readTrain 9 = .ok (.iconst 3, 1) := by decide +kernel
theorem dX9_readTrain_10 : decode cX9_readTrain 10 = .ok (.if_icmp .ne 7, 3) := by decide +kernel
theorem dX9_readTrain_13 : decode cX9_readTrain 13 = .ok (.iconst 1, 1) := by decide +kernel
theorem dX9_readTrain_14 : decode cX9_readTrain 14 = .ok (.goto 4, 3) := by decide +kernel
theorem dX9_readTrain_17 : decode cX9_readTrain 17 = .ok (.iconst 0, 1) := by decide +kernel
theorem dX9_readTrain_18 : decode cX9_readTrain 18 = .ok (.iconst 1, 1) := by decide +kernel
theorem dX9_readTrain_19 : decode cX9_readTrain 19 = .ok (.invokevirtual 231, 3) := by decide +kernel
theorem dX9_readTrain_22 : decode cX9_readTrain 22 = .ok (.pop, 1) := by decide +kernel
theorem dX9_readTrain_23 : decode cX9_readTrain 23 = .ok (.aload_n 0, 1) := by decide +kernel
theorem dX9_readTrain_24 : decode cX9_readTrain 24 = .ok (.getfield 199, 3) := by decide +kernel
theorem dX9_readTrain_27 : decode cX9_readTrain 27 = .ok (.ifCond .ne 18, 3) := by decide +kernel
theorem dX9_readTrain_30 : decode cX9_readTrain 30 = .ok (.aload_n 0, 1) := by decide +kernel
theorem dX9_readTrain_31 : decode cX9_readTrain 31 = .ok (.aload_n 0, 1) := by decide +kernel
theorem dX9_readTrain_32 : decode cX9_readTrain 32 = .ok (.getfield 212, 3) := by decide +kernel
theorem dX9_readTrain_35 : decode cX9_readTrain 35 = .ok (.aload_n 0, 1) := by decide +kernel
theorem dX9_readTrain_36 : decode cX9_readTrain 36 = .ok (.getfield 215, 3) := by decide +kernel
theorem dX9_readTrain_39 : decode cX9_readTrain 39 = .ok (.invokevirtual 237, 3) := by decide +kernel
theorem dX9_readTrain_42 : decode cX9_readTrain 42 = .ok (.goto 4, 3) := by decide +kernel
theorem dX9_readTrain_45 : decode cX9_readTrain 45 = .ok (.iconst (-1), 1) := by decide +kernel
theorem dX9_readTrain_46 : decode cX9_readTrain 46 = .ok (.istore_n 1, 1) := by decide +kernel
theorem dX9_readTrain_47 : decode cX9_readTrain 47 = .ok (.iload_n 1, 1) := by decide +kernel
theorem dX9_readTrain_48 : decode cX9_readTrain 48 = .ok (.iconst (-1), 1) := by decide +kernel
theorem dX9_readTrain_49 : decode cX9_readTrain 49 = .ok (.if_icmp .ne 7, 3) := by decide +kernel
theorem dX9_readTrain_52 : decode cX9_readTrain 52 = .ok (.iconst (-1), 1) := by decide +kernel
theorem dX9_readTrain_53 : decode cX9_readTrain 53 = .ok (.goto 11, 3) := by decide +kernel
theorem dX9_readTrain_56 : decode cX9_readTrain 56 = .ok (.aload_n 0, 1) := by decide +kernel
theorem dX9_readTrain_57 : decode cX9_readTrain 57 = .ok (.getfield 13, 3) := by decide +kernel
theorem dX9_readTrain_60 : decode cX9_readTrain 60 = .ok (.iload_n 1, 1) := by decide +kernel
theorem dX9_readTrain_61 : decode cX9_readTrain 61 = .ok (.invokestatic 240, 3) := by decide +kernel
theorem dX9_readTrain_64 : decode cX9_readTrain 64 = .ok (.istore_n 2, 1) := by decide +kernel
theorem dX9_readTrain_65 : decode cX9_readTrain 65 = .ok (.aload_n 0, 1) := by decide +kernel
theorem dX9_readTrain_66 : decode cX9_readTrain 66 = .ok (.iload_n 2, 1) := by decide +kernel
theorem dX9_readTrain_67 : decode cX9_readTrain 67 = .ok (.iconst (-1), 1) := by decide +kernel
theorem dX9_readTrain_68 : decode cX9_readTrain 68 = .ok (.if_icmp .eq 7, 3) := by decide +kernel
theorem dX9_readTrain_71 : decode cX9_readTrain 71 = .ok (.iconst 1, 1) := by decide +kernel
theorem dX9_readTrain_72 : decode cX9_readTrain 72 = .ok (.goto 4, 3) := by decide +kernel
theorem dX9_readTrain_75 : decode cX9_readTrain 75 = .ok (.iconst 0, 1) := by decide +kernel
theorem dX9_readTrain_76 : decode cX9_readTrain 76 = .ok (.iconst 4, 1) := by decide +kernel
theorem dX9_readTrain_77 : decode cX9_readTrain 77 = .ok (.invokevirtual 231, 3) := by decide +kernel
theorem dX9_readTrain_80 : decode cX9_readTrain 80 = .ok (.pop, 1) := by decide +kernel
theorem dX9_readTrain_81 : decode cX9_readTrain 81 = .ok (.aload_n 0, 1) := by decide +kernel
theorem dX9_readTrain_82 : decode cX9_readTrain 82 = .ok (.invokevirtual 234, 3) := by decide +kernel
theorem dX9_readTrain_85 : decode cX9_readTrain 85 = .ok (.aload_n 0, 1) := by decide +kernel
theorem dX9_readTrain_86 : decode cX9_readTrain 86 = .ok (.aload_n 0, 1) := by decide +kernel
theorem dX9_readTrain_87 : decode cX9_readTrain 87 = .ok (.getfield 221, 3) := by decide +kernel
theorem dX9_readTrain_90 : decode cX9_readTrain 90 = .ok (.iconst 2, 1) := by decide +kernel
theorem dX9_readTrain_91 : decode cX9_readTrain 91 = .ok (.if_icmp .ne 7, 3) := by decide +kernel
theorem dX9_readTrain_94 : decode cX9_readTrain 94 = .ok (.iconst 1, 1) := by decide +kernel
theorem dX9_readTrain_95 : decode cX9_readTrain 95 = .ok (.goto 4, 3) := by decide +kernel
theorem dX9_readTrain_98 : decode cX9_readTrain 98 = .ok (.iconst 0, 1) := by decide +kernel
theorem dX9_readTrain_99 : decode cX9_readTrain 99 = .ok (.iconst 1, 1) := by decide +kernel
theorem dX9_readTrain_100 : decode cX9_readTrain 100 = .ok (.invokevirtual 231, 3) := by decide +kernel
theorem dX9_readTrain_103 : decode cX9_readTrain 103 = .ok (.pop, 1) := by decide +kernel
theorem dX9_readTrain_104 : decode cX9_readTrain 104 = .ok (.aload_n 0, 1) := by decide +kernel
theorem dX9_readTrain_105 : decode cX9_readTrain 105 = .ok (.aload_n 0, 1) := by decide +kernel
theorem dX9_readTrain_106 : decode cX9_readTrain 106 = .ok (.getfield 218, 3) := by decide +kernel
theorem dX9_readTrain_109 : decode cX9_readTrain 109 = .ok (.aload_n 0, 1) := by decide +kernel
theorem dX9_readTrain_110 : decode cX9_readTrain 110 = .ok (.getfield 13, 3) := by decide +kernel
theorem dX9_readTrain_113 : decode cX9_readTrain 113 = .ok (.iconst 1, 1) := by decide +kernel
theorem dX9_readTrain_114 : decode cX9_readTrain 114 = .ok (.iaload, 1) := by decide +kernel
theorem dX9_readTrain_115 : decode cX9_readTrain 115 = .ok (.if_icmp .ge 7, 3) := by decide +kernel
theorem dX9_readTrain_118 : decode cX9_readTrain 118 = .ok (.iconst 1, 1) := by decide +kernel
theorem dX9_readTrain_119 : decode cX9_readTrain 119 = .ok (.goto 4, 3) := by decide +kernel
theorem dX9_readTrain_122 : decode cX9_readTrain 122 = .ok (.iconst 0, 1) := by decide +kernel
theorem dX9_readTrain_123 : decode cX9_readTrain 123 = .ok (.iconst 2, 1) := by decide +kernel
theorem dX9_readTrain_124 : decode cX9_readTrain 124 = .ok (.invokevirtual 231, 3) := by decide +kernel
theorem dX9_readTrain_127 : decode cX9_readTrain 127 = .ok (.pop, 1) := by decide +kernel
theorem dX9_readTrain_128 : decode cX9_readTrain 128 = .ok (.aload_n 0, 1) := by decide +kernel
theorem dX9_readTrain_129 : decode cX9_readTrain 129 = .ok (.getfield 218, 3) := by decide +kernel
theorem dX9_readTrain_132 : decode cX9_readTrain 132 = .ok (.istore_n 3, 1) := by decide +kernel
theorem dX9_readTrain_133 : decode cX9_readTrain 133 = .ok (.aload_n 0, 1) := by decide +kernel
theorem dX9_readTrain_134 : decode cX9_readTrain 134 = .ok (.invokevirtual 234, 3) := by decide +kernel
theorem dX9_readTrain_137 : decode cX9_readTrain 137 = .ok (.aload_n 0, 1) := by decide +kernel
theorem dX9_readTrain_138 : decode cX9_readTrain 138 = .ok (.invokevirtual 253, 3) := by decide +kernel
theorem dX9_readTrain_141 : decode cX9_readTrain 141 = .ok (.aload_n 0, 1) := by decide +kernel
theorem dX9_readTrain_142 : decode cX9_readTrain 142 = .ok (.getfield 199, 3) := by decide +kernel
theorem dX9_readTrain_145 : decode cX9_readTrain 145 = .ok (.ifCond .ne 12, 3) := by decide +kernel
theorem dX9_readTrain_148 : decode cX9_readTrain 148 = .ok (.aload_n 0, 1) := by decide +kernel
theorem dX9_readTrain_149 : decode cX9_readTrain 149 = .ok (.getfield 13, 3) := by decide +kernel
theorem dX9_readTrain_152 : decode cX9_readTrain 152 = .ok (.iload_n 2, 1) := by decide +kernel
theorem dX9_readTrain_153 : decode cX9_readTrain 153 = .ok (.iload_n 3, 1) := by decide +kernel
theorem dX9_readTrain_154 : decode cX9_readTrain 154 = .ok (.invokestatic 262, 3) := by decide +kernel
theorem dX9_readTrain_157 : decode cX9_readTrain 157 = .ok (.return_, 1) := by decide +kernel
theorem dX9_read_0 : decode cX9_read 0 = .ok (.aload_n 0, 1) := by decide +kernel
theorem dX9_read_1 : decode cX9_read 1 = .ok (.iconst 0, 1) := by decide +kernel
theorem dX9_read_2 : decode cX9_read 2 = .ok (.putfield 199, 3) := by decide +kernel
theorem dX9_read_5 : decode cX9_read 5 = .ok (.aload_n 0, 1) := by decide +kernel
theorem dX9_read_6 : decode cX9_read 6 = .ok (.iconst (-1), 1) := by decide +kernel
theorem dX9_read_7 : decode cX9_read 7 = .ok (.putfield 45, 3) := by decide +kernel
theorem dX9_read_10 : decode cX9_read 10 = .ok (.aload_n 0, 1) := by decide +kernel
theorem dX9_read_11 : decode cX9_read 11 = .ok (.iconst 0, 1) := by decide +kernel
theorem dX9_read_12 : decode cX9_read 12 = .ok (.putfield 206, 3) := by decide +kernel
theorem dX9_read_15 : decode cX9_read 15 = .ok (.iconst 0, 1) := by decide +kernel
theorem dX9_read_16 : decode cX9_read 16 = .ok (.istore_n 1, 1) := by decide +kernel
theorem dX9_read_17 : decode cX9_read 17 = .ok (.iload_n 1, 1) := by decide +kernel
theorem dX9_read_18 : decode cX9_read 18 = .ok (.sipush 5987, 3) := by decide +kernel
theorem dX9_read_21 : decode cX9_read 21 = .ok (.if_icmp .ge 16, 3) := by decide +kernel
theorem dX9_read_24 : decode cX9_read 24 = .ok (.aload_n 0, 1) := by decide +kernel
theorem dX9_read_25 : decode cX9_read 25 = .ok (.getfield 13, 3) := by decide +kernel
theorem dX9_read_28 : decode cX9_read 28 = .ok (.iload_n 1, 1) := by decide +kernel
theorem dX9_read_29 : decode cX9_read 29 = .ok (.iconst 0, 1) := by decide +kernel
theorem dX9_read_30 : decode cX9_read 30 = .ok (.iastore, 1) := by decide +kernel
theorem dX9_read_31 : decode cX9_read 31 = .ok (.iinc 1 1, 3) := by decide +kernel
theorem dX9_read_34 : decode cX9_read 34 = .ok (.goto (-17), 3) := by decide +kernel
theorem dX9_read_37 : decode cX9_read 37 = .ok (.aload_n 0, 1) := by decide +kernel
theorem dX9_read_38 : decode cX9_read 38 = .ok (.invokevirtual 228, 3) := by decide +kernel
theorem dX9_read_41 : decode cX9_read 41 = .ok (.aload_n 0, 1) := by decide +kernel
theorem dX9_read_42 : decode cX9_read 42 = .ok (.getfield 199, 3) := by decide +kernel
theorem dX9_read_45 : decode cX9_read 45 = .ok (.ifCond .ne 99, 3) := by decide +kernel
theorem dX9_read_48 : decode cX9_read 48 = .ok (.aload_n 0, 1) := by decide +kernel
theorem dX9_read_49 : decode cX9_read 49 = .ok (.getfield 221, 3) := by decide +kernel
theorem dX9_read_52 : decode cX9_read 52 = .ok (.ifCond .eq 92, 3) := by decide +kernel
theorem dX9_read_55 : decode cX9_read 55 = .ok (.aload_n 0, 1) := by decide +kernel
theorem dX9_read_56 : decode cX9_read 56 = .ok (.ldc_w 265, 3) := by decide +kernel
theorem dX9_read_59 : decode cX9_read 59 = .ok (.invokevirtual 245, 3) := by decide +kernel
theorem dX9_read_62 : decode cX9_read 62 = .ok (.ifCond .eq 10, 3) := by decide +kernel
theorem dX9_read_65 : decode cX9_read 65 = .ok (.aload_n 0, 1) := by decide +kernel
theorem dX9_read_66 : decode cX9_read 66 = .ok (.invokevirtual 267, 3) := by decide +kernel
theorem dX9_read_69 : decode cX9_read 69 = .ok (.goto (-28), 3) := by decide +kernel
theorem dX9_read_72 : decode cX9_read 72 = .ok (.aload_n 0, 1) := by decide +kernel
theorem dX9_read_73 : decode cX9_read 73 = .ok (.ldc_w 270, 3) := by decide +kernel
theorem dX9_read_76 : decode cX9_read 76 = .ok (.invokevirtual 245, 3) := by decide +kernel
theorem dX9_read_79 : decode cX9_read 79 = .ok (.ifCond .eq 10, 3) := by decide +kernel
theorem dX9_read_82 : decode cX9_read 82 = .ok (.aload_n 0, 1) := by decide +kernel
theorem dX9_read_83 : decode cX9_read 83 = .ok (.invokevirtual 272, 3) := by decide +kernel
theorem dX9_read_86 : decode cX9_read 86 = .ok (.goto (-45), 3) := by decide +kernel
theorem dX9_read_89 : decode cX9_read 89 = .ok (.aload_n 0, 1) := by decide +kernel
theorem dX9_read_90 : decode cX9_read 90 = .ok (.ldc_w 275, 3) := by decide +kernel
theorem dX9_read_93 : decode cX9_read 93 = .ok (.invokevirtual 245, 3) := by decide +kernel
theorem dX9_read_96 : decode cX9_read 96 = .ok (.ifCond .eq 10, 3) := by decide +kernel
theorem dX9_read_99 : decode cX9_read 99 = .ok (.aload_n 0, 1) := by decide +kernel
theorem dX9_read_100 : decode cX9_read 100 = .ok (.invokevirtual 277, 3) := by decide +kernel
theorem dX9_read_103 : decode cX9_read 103 = .ok (.goto (-62), 3) := by decide +kernel
theorem dX9_read_106 : decode cX9_read 106 = .ok (.aload_n 0, 1) := by decide +kernel
theorem dX9_read_107 : decode cX9_read 107 = .ok (.aload_n 0, 1) := by decide +kernel
theorem dX9_read_108 : decode cX9_read 108 = .ok (.ldc_w 280, 3) := by decide +kernel
theorem dX9_read_111 : decode cX9_read 111 = .ok (.invokevirtual 245, 3) := by decide +kernel
theorem dX9_read_114 : decode cX9_read 114 = .ok (.iconst 1, 1) := by decide +kernel
theorem dX9_read_115 : decode cX9_read 115 = .ok (.invokevirtual 231, 3) := by decide +kernel
theorem dX9_read_118 : decode cX9_read 118 = .ok (.pop, 1) := by decide +kernel
theorem dX9_read_119 : decode cX9_read 119 = .ok (.aload_n 0, 1) := by decide +kernel
theorem dX9_read_120 : decode cX9_read 120 = .ok (.invokevirtual 234, 3) := by decide +kernel
theorem dX9_read_123 : decode cX9_read 123 = .ok (.aload_n 0, 1) := by decide +kernel
theorem dX9_read_124 : decode cX9_read 124 = .ok (.invokevirtual 253, 3) := by decide +kernel
theorem dX9_read_127 : decode cX9_read 127 = .ok (.aload_n 0, 1) := by decide +kernel
theorem dX9_read_128 : decode cX9_read 128 = .ok (.getfield 199, 3) := by decide +kernel
theorem dX9_read_131 : decode cX9_read 131 = .ok (.ifCond .ne (-90), 3) := by decide +kernel
theorem dX9_read_134 : decode cX9_read 134 = .ok (.aload_n 0, 1) := by decide +kernel
theorem dX9_read_135 : decode cX9_read 135 = .ok (.getfield 13, 3) := by decide +kernel
theorem dX9_read_138 : decode cX9_read 138 = .ok (.invokestatic 282, 3) := by decide +kernel
theorem dX9_read_141 : decode cX9_read 141 = .ok (.goto (-100), 3) := by decide +kernel
theorem dX9_read_144 : decode cX9_read 144 = .ok (.return_, 1) := by decide +kernel
theorem dX9_load_0 : decode cX9_load 0 = .ok (.aload_n 0, 1) := by decide +kernel
theorem dX9_load_1 : decode cX9_load 1 = .ok (.iconst 0, 1) := by decide +kernel
theorem dX9_load_2 : decode cX9_load 2 = .ok (.putfield 85, 3) := by decide +kernel
theorem dX9_load_5 : decode cX9_load 5 = .ok (.aload_n 0, 1) := by decide +kernel
theorem dX9_load_6 : decode cX9_load 6 = .ok (.invokevirtual 65, 3) := by decide +kernel
theorem dX9_load_9 : decode cX9_load 9 = .ok (.aload_n 0, 1) := by decide +kernel
theorem dX9_load_10 : decode cX9_load 10 = .ok (.iconst 0, 1) := by decide +kernel
theorem dX9_load_11 : decode cX9_load 11 = .ok (.putfield 68, 3) := by decide +kernel
theorem dX9_load_14 : decode cX9_load 14 = .ok (.aload_n 0, 1) := by decide +kernel
theorem dX9_load_15 : decode cX9_load 15 = .ok (.aload_n 0, 1) := by decide +kernel
theorem dX9_load_16 : decode cX9_load 16 = .ok (.getfield 199, 3) := by decide +kernel
theorem dX9_load_19 : decode cX9_load 19 = .ok (.ifCond .eq 7, 3) := by decide +kernel
theorem dX9_load_22 : decode cX9_load 22 = .ok (.iconst 1, 1) := by decide +kernel
theorem dX9_load_23 : decode cX9_load 23 = .ok (.goto 4, 3) := by decide +kernel
theorem dX9_load_26 : decode cX9_load 26 = .ok (.iconst 0, 1) := by decide +kernel
theorem dX9_load_27 : decode cX9_load 27 = .ok (.iconst 1, 1) := by decide +kernel
theorem dX9_load_28 : decode cX9_load 28 = .ok (.invokevirtual 189, 3) := by decide +kernel
theorem dX9_load_31 : decode cX9_load 31 = .ok (.ifCond .eq 5, 3) := by decide +kernel
theorem dX9_load_34 : decode cX9_load 34 = .ok (.iconst 0, 1) := by decide +kernel
theorem dX9_load_35 : decode cX9_load 35 = .ok (.ireturn, 1) := by decide +kernel
theorem dX9_load_36 : decode cX9_load 36 = .ok (.aload_n 0, 1) := by decide +kernel
theorem dX9_load_37 : decode cX9_load 37 = .ok (.invokevirtual 286, 3) := by decide +kernel
theorem dX9_load_40 : decode cX9_load 40 = .ok (.aload_n 0, 1) := by decide +kernel
theorem dX9_load_41 : decode cX9_load 41 = .ok (.getfield 13, 3) := by decide +kernel
theorem dX9_load_44 : decode cX9_load 44 = .ok (.iconst 0, 1) := by decide +kernel
theorem dX9_load_45 : decode cX9_load 45 = .ok (.aload_n 0, 1) := by decide +kernel
theorem dX9_load_46 : decode cX9_load 46 = .ok (.getfield 7, 3) := by decide +kernel
theorem dX9_load_49 : decode cX9_load 49 = .ok (.iconst 0, 1) := by decide +kernel
theorem dX9_load_50 : decode cX9_load 50 = .ok (.invokestatic 71, 3) := by decide +kernel
theorem dX9_load_53 : decode cX9_load 53 = .ok (.aload_n 0, 1) := by decide +kernel
theorem dX9_load_54 : decode cX9_load 54 = .ok (.getfield 7, 3) := by decide +kernel
theorem dX9_load_57 : decode cX9_load 57 = .ok (.iconst 2, 1) := by decide +kernel
theorem dX9_load_58 : decode cX9_load 58 = .ok (.iaload, 1) := by decide +kernel
theorem dX9_load_59 : decode cX9_load 59 = .ok (.ireturn, 1) := by decide +kernel
theorem dX9_remember_0 : decode cX9_remember 0 = .ok (.aload_n 0, 1) := by decide +kernel
theorem dX9_remember_1 : decode cX9_remember 1 = .ok (.getfield 289, 3) := by decide +kernel
theorem dX9_remember_4 : decode cX9_remember 4 = .ok (.bipush 8, 2) := by decide +kernel
theorem dX9_remember_6 : decode cX9_remember 6 = .ok (.if_icmp .ne 26, 3) := by decide +kernel
theorem dX9_remember_9 : decode cX9_remember 9 = .ok (.aload_n 0, 1) := by decide +kernel
theorem dX9_remember_10 : decode cX9_remember 10 = .ok (.aload_n 0, 1) := by decide +kernel
theorem dX9_remember_11 : decode cX9_remember 11 = .ok (.getfield 292, 3) := by decide +kernel
theorem dX9_remember_14 : decode cX9_remember 14 = .ok (.iconst 1, 1) := by decide +kernel
theorem dX9_remember_15 : decode cX9_remember 15 = .ok (.iadd, 1) := by decide +kernel
theorem dX9_remember_16 : decode cX9_remember 16 = .ok (.bipush 8, 2) := by decide +kernel
theorem dX9_remember_18 : decode cX9_remember 18 = .ok (.irem, 1) := by decide +kernel
theorem dX9_remember_19 : decode cX9_remember 19 = .ok (.putfield 292, 3) := by decide +kernel
theorem dX9_remember_22 : decode cX9_remember 22 = .ok (.aload_n 0, 1) := by decide +kernel
theorem dX9_remember_23 : decode cX9_remember 23 = .ok (.dup, 1) := by decide +kernel
theorem dX9_remember_24 : decode cX9_remember 24 = .ok (.getfield 289, 3) := by decide +kernel
theorem dX9_remember_27 : decode cX9_remember 27 = .ok (.iconst 1, 1) := by decide +kernel
theorem dX9_remember_28 : decode cX9_remember 28 = .ok (.isub, 1) := by decide +kernel
theorem dX9_remember_29 : decode cX9_remember 29 = .ok (.putfield 289, 3) := by decide +kernel
theorem dX9_remember_32 : decode cX9_remember 32 = .ok (.aload_n 0, 1) := by decide +kernel
theorem dX9_remember_33 : decode cX9_remember 33 = .ok (.getfield 7, 3) := by decide +kernel
theorem dX9_remember_36 : decode cX9_remember 36 = .ok (.iconst 0, 1) := by decide +kernel
theorem dX9_remember_37 : decode cX9_remember 37 = .ok (.aload_n 0, 1) := by decide +kernel
theorem dX9_remember_38 : decode cX9_remember 38 = .ok (.getfield 20, 3) := by decide +kernel
theorem dX9_remember_41 : decode cX9_remember 41 = .ok (.sipush 5987, 3) := by decide +kernel
theorem dX9_remember_44 : decode cX9_remember 44 = .ok (.aload_n 0, 1) := by decide +kernel
theorem dX9_remember_45 : decode cX9_remember 45 = .ok (.getfield 292, 3) := by decide +kernel
theorem dX9_remember_48 : decode cX9_remember 48 = .ok (.aload_n 0, 1) := by decide +kernel
theorem dX9_remember_49 : decode cX9_remember 49 = .ok (.getfield 289, 3) := by decide +kernel
theorem dX9_remember_52 : decode cX9_remember 52 = .ok (.iadd, 1) := by decide +kernel
theorem dX9_remember_53 : decode cX9_remember 53 = .ok (.bipush 8, 2) := by decide +kernel
theorem dX9_remember_55 : decode cX9_remember 55 = .ok (.irem, 1) := by decide +kernel
theorem dX9_remember_56 : decode cX9_remember 56 = .ok (.imul, 1) := by decide +kernel
theorem dX9_remember_57 : decode cX9_remember 57 = .ok (.invokestatic 71, 3) := by decide +kernel
theorem dX9_remember_60 : decode cX9_remember 60 = .ok (.aload_n 0, 1) := by decide +kernel
theorem dX9_remember_61 : decode cX9_remember 61 = .ok (.dup, 1) := by decide +kernel
theorem dX9_remember_62 : decode cX9_remember 62 = .ok (.getfield 289, 3) := by decide +kernel
theorem dX9_remember_65 : decode cX9_remember 65 = .ok (.iconst 1, 1) := by decide +kernel
theorem dX9_remember_66 : decode cX9_remember 66 = .ok (.iadd, 1) := by decide +kernel
theorem dX9_remember_67 : decode cX9_remember 67 = .ok (.putfield 289, 3) := by decide +kernel
theorem dX9_remember_70 : decode cX9_remember 70 = .ok (.return_, 1) := by decide +kernel
theorem dX9_undo_0 : decode cX9_undo 0 = .ok (.aload_n 0, 1) := by decide +kernel
theorem dX9_undo_1 : decode cX9_undo 1 = .ok (.iconst 0, 1) := by decide +kernel
theorem dX9_undo_2 : decode cX9_undo 2 = .ok (.putfield 85, 3) := by decide +kernel
theorem dX9_undo_5 : decode cX9_undo 5 = .ok (.aload_n 0, 1) := by decide +kernel
theorem dX9_undo_6 : decode cX9_undo 6 = .ok (.aload_n 0, 1) := by decide +kernel
theorem dX9_undo_7 : decode cX9_undo 7 = .ok (.getfield 289, 3) := by decide +kernel
theorem dX9_undo_10 : decode cX9_undo 10 = .ok (.ifCond .ne 7, 3) := by decide +kernel
theorem dX9_undo_13 : decode cX9_undo 13 = .ok (.iconst 1, 1) := by decide +kernel
theorem dX9_undo_14 : decode cX9_undo 14 = .ok (.goto 4, 3) := by decide +kernel
theorem dX9_undo_17 : decode cX9_undo 17 = .ok (.iconst 0, 1) := by decide +kernel
theorem dX9_undo_18 : decode cX9_undo 18 = .ok (.iconst 1, 1) := by decide +kernel
theorem dX9_undo_19 : decode cX9_undo 19 = .ok (.invokevirtual 189, 3) := by decide +kernel
theorem dX9_undo_22 : decode cX9_undo 22 = .ok (.ifCond .eq 5, 3) := by decide +kernel
theorem dX9_undo_25 : decode cX9_undo 25 = .ok (.iconst 0, 1) := by decide +kernel
theorem dX9_undo_26 : decode cX9_undo 26 = .ok (.ireturn, 1) := by decide +kernel
theorem dX9_undo_27 : decode cX9_undo 27 = .ok (.aload_n 0, 1) := by decide +kernel
theorem dX9_undo_28 : decode cX9_undo 28 = .ok (.dup, 1) := by decide +kernel
theorem dX9_undo_29 : decode cX9_undo 29 = .ok (.getfield 289, 3) := by decide +kernel
theorem dX9_undo_32 : decode cX9_undo 32 = .ok (.iconst 1, 1) := by decide +kernel
theorem dX9_undo_33 : decode cX9_undo 33 = .ok (.isub, 1) := by decide +kernel
theorem dX9_undo_34 : decode cX9_undo 34 = .ok (.putfield 289, 3) := by decide +kernel
theorem dX9_undo_37 : decode cX9_undo 37 = .ok (.aload_n 0, 1) := by decide +kernel
theorem dX9_undo_38 : decode cX9_undo 38 = .ok (.getfield 20, 3) := by decide +kernel
theorem dX9_undo_41 : decode cX9_undo 41 = .ok (.sipush 5987, 3) := by decide +kernel
theorem dX9_undo_44 : decode cX9_undo 44 = .ok (.aload_n 0, 1) := by decide +kernel
theorem dX9_undo_45 : decode cX9_undo 45 = .ok (.getfield 292, 3) := by decide +kernel
theorem dX9_undo_48 : decode cX9_undo 48 = .ok (.aload_n 0, 1) := by decide +kernel
theorem dX9_undo_49 : decode cX9_undo 49 = .ok (.getfield 289, 3) := by decide +kernel
theorem dX9_undo_52 : decode cX9_undo 52 = .ok (.iadd, 1) := by decide +kernel
theorem dX9_undo_53 : decode cX9_undo 53 = .ok (.bipush 8, 2) := by decide +kernel
theorem dX9_undo_55 : decode cX9_undo 55 = .ok (.irem, 1) := by decide +kernel
theorem dX9_undo_56 : decode cX9_undo 56 = .ok (.imul, 1) := by decide +kernel
theorem dX9_undo_57 : decode cX9_undo 57 = .ok (.aload_n 0, 1) := by decide +kernel
theorem dX9_undo_58 : decode cX9_undo 58 = .ok (.getfield 7, 3) := by decide +kernel
theorem dX9_undo_61 : decode cX9_undo 61 = .ok (.iconst 0, 1) := by decide +kernel
theorem dX9_undo_62 : decode cX9_undo 62 = .ok (.invokestatic 71, 3) := by decide +kernel
theorem dX9_undo_65 : decode cX9_undo 65 = .ok (.aload_n 0, 1) := by decide +kernel
theorem dX9_undo_66 : decode cX9_undo 66 = .ok (.getfield 289, 3) := by decide +kernel
theorem dX9_undo_69 : decode cX9_undo 69 = .ok (.ireturn, 1) := by decide +kernel
theorem dX9_undoDepth_0 : decode cX9_undoDepth 0 = .ok (.aload_n 0, 1) := by decide +kernel
theorem dX9_undoDepth_1 : decode cX9_undoDepth 1 = .ok (.iconst 0, 1) := by decide +kernel
theorem dX9_undoDepth_2 : decode cX9_undoDepth 2 = .ok (.putfield 85, 3) := by decide +kernel
theorem dX9_undoDepth_5 : decode cX9_undoDepth 5 = .ok (.aload_n 0, 1) := by decide +kernel
theorem dX9_undoDepth_6 : decode cX9_undoDepth 6 = .ok (.getfield 289, 3) := by decide +kernel
theorem dX9_undoDepth_9 : decode cX9_undoDepth 9 = .ok (.ireturn, 1) := by decide +kernel
theorem dX9_noNumber_0 : decode cX9_noNumber 0 = .ok (.aload_n 0, 1) := by decide +kernel
theorem dX9_noNumber_1 : decode cX9_noNumber 1 = .ok (.iconst 0, 1) := by decide +kernel
theorem dX9_noNumber_2 : decode cX9_noNumber 2 = .ok (.putfield 85, 3) := by decide +kernel
theorem dX9_noNumber_5 : decode cX9_noNumber 5 = .ok (.aload_n 0, 1) := by decide +kernel
theorem dX9_noNumber_6 : decode cX9_noNumber 6 = .ok (.iload_n 1, 1) := by decide +kernel
theorem dX9_noNumber_7 : decode cX9_noNumber 7 = .ok (.iload_n 2, 1) := by decide +kernel
theorem dX9_noNumber_8 : decode cX9_noNumber 8 = .ok (.iload_n 3, 1) := by decide +kernel
theorem dX9_noNumber_9 : decode cX9_noNumber 9 = .ok (.invokestatic 128, 3) := by decide +kernel
theorem dX9_noNumber_12 : decode cX9_noNumber 12 = .ok (.ifCond .ne 7, 3) := by decide +kernel
theorem dX9_noNumber_15 : decode cX9_noNumber 15 = .ok (.iconst 1, 1) := by decide +kernel
theorem dX9_noNumber_16 : decode cX9_noNumber 16 = .ok (.goto 4, 3) := by decide +kernel
theorem dX9_noNumber_19 : decode cX9_noNumber 19 = .ok (.iconst 0, 1) := by decide +kernel
theorem dX9_noNumber_20 : decode cX9_noNumber 20 = .ok (.iconst 1, 1) := by decide +kernel
theorem dX9_noNumber_21 : decode cX9_noNumber 21 = .ok (.invokevirtual 189, 3) := by decide +kernel
theorem dX9_noNumber_24 : decode cX9_noNumber 24 = .ok (.ireturn, 1) := by decide +kernel
theorem dX9_noReader_0 : decode cX9_noReader 0 = .ok (.aload_n 0, 1) := by decide +kernel
theorem dX9_noReader_1 : decode cX9_noReader 1 = .ok (.iload_n 1, 1) := by decide +kernel
theorem dX9_noReader_2 : decode cX9_noReader 2 = .ok (.iconst 0, 1) := by decide +kernel
theorem dX9_noReader_3 : decode cX9_noReader 3 = .ok (.aload_n 0, 1) := by decide +kernel
theorem dX9_noReader_4 : decode cX9_noReader 4 = .ok (.getfield 7, 3) := by decide +kernel
theorem dX9_noReader_7 : decode cX9_noReader 7 = .ok (.iconst 2, 1) := by decide +kernel
theorem dX9_noReader_8 : decode cX9_noReader 8 = .ok (.iaload, 1) := by decide +kernel
theorem dX9_noReader_9 : decode cX9_noReader 9 = .ok (.iconst 1, 1) := by decide +kernel
theorem dX9_noReader_10 : decode cX9_noReader 10 = .ok (.isub, 1) := by decide +kernel
theorem dX9_noReader_11 : decode cX9_noReader 11 = .ok (.invokevirtual 196, 3) := by decide +kernel
theorem dX9_noReader_14 : decode cX9_noReader 14 = .ok (.ireturn, 1) := by decide +kernel
theorem dX9_noDocument_0 : decode cX9_noDocument 0 = .ok (.aload_n 0, 1) := by decide +kernel
theorem dX9_noDocument_1 : decode cX9_noDocument 1 = .ok (.iload_n 1, 1) := by decide +kernel
theorem dX9_noDocument_2 : decode cX9_noDocument 2 = .ok (.iconst 0, 1) := by decide +kernel
theorem dX9_noDocument_3 : decode cX9_noDocument 3 = .ok (.aload_n 0, 1) := by decide +kernel
theorem dX9_noDocument_4 : decode cX9_noDocument 4 = .ok (.getfield 7, 3) := by decide +kernel
theorem dX9_noDocument_7 : decode cX9_noDocument 7 = .ok (.iconst 1, 1) := by decide +kernel
theorem dX9_noDocument_8 : decode cX9_noDocument 8 = .ok (.iaload, 1) := by decide +kernel
theorem dX9_noDocument_9 : decode cX9_noDocument 9 = .ok (.iconst 1, 1) := by decide +kernel
theorem dX9_noDocument_10 : decode cX9_noDocument 10 = .ok (.isub, 1) := by decide +kernel
theorem dX9_noDocument_11 : decode cX9_noDocument 11 = .ok (.invokevirtual 196, 3) := by decide +kernel
theorem dX9_noDocument_14 : decode cX9_noDocument 14 = .ok (.ireturn, 1) := by decide +kernel
theorem dX9_noBoth_0 : decode cX9_noBoth 0 = .ok (.aload_n 0, 1) := by decide +kernel
theorem dX9_noBoth_1 : decode cX9_noBoth 1 = .ok (.iload_n 1, 1) := by decide +kernel
theorem dX9_noBoth_2 : decode cX9_noBoth 2 = .ok (.invokevirtual 295, 3) := by decide +kernel
theorem dX9_noBoth_5 : decode cX9_noBoth 5 = .ok (.ifCond .ne 11, 3) := by decide +kernel
theorem dX9_noBoth_8 : decode cX9_noBoth 8 = .ok (.aload_n 0, 1) := by decide +kernel
theorem dX9_noBoth_9 : decode cX9_noBoth 9 = .ok (.iload_n 2, 1) := by decide +kernel
theorem dX9_noBoth_10 : decode cX9_noBoth 10 = .ok (.invokevirtual 298, 3) := by decide +kernel
theorem dX9_noBoth_13 : decode cX9_noBoth 13 = .ok (.ifCond .eq 7, 3) := by decide +kernel
theorem dX9_noBoth_16 : decode cX9_noBoth 16 = .ok (.iconst 1, 1) := by decide +kernel
theorem dX9_noBoth_17 : decode cX9_noBoth 17 = .ok (.goto 4, 3) := by decide +kernel
theorem dX9_noBoth_20 : decode cX9_noBoth 20 = .ok (.iconst 0, 1) := by decide +kernel
theorem dX9_noBoth_21 : decode cX9_noBoth 21 = .ok (.ireturn, 1) := by decide +kernel
theorem dX9_out_0 : decode cX9_out 0 = .ok (.aload_n 0, 1) := by decide +kernel
theorem dX9_out_1 : decode cX9_out 1 = .ok (.iload_n 1, 1) := by decide +kernel
theorem dX9_out_2 : decode cX9_out 2 = .ok (.iload_n 2, 1) := by decide +kernel
theorem dX9_out_3 : decode cX9_out 3 = .ok (.iload_n 3, 1) := by decide +kernel
theorem dX9_out_4 : decode cX9_out 4 = .ok (.invokestatic 128, 3) := by decide +kernel
theorem dX9_out_7 : decode cX9_out 7 = .ok (.ifCond .ne 7, 3) := by decide +kernel
theorem dX9_out_10 : decode cX9_out 10 = .ok (.iconst 1, 1) := by decide +kernel
theorem dX9_out_11 : decode cX9_out 11 = .ok (.goto 4, 3) := by decide +kernel
theorem dX9_out_14 : decode cX9_out 14 = .ok (.iconst 0, 1) := by decide +kernel
theorem dX9_out_15 : decode cX9_out 15 = .ok (.iconst 2, 1) := by decide +kernel
theorem dX9_out_16 : decode cX9_out 16 = .ok (.invokevirtual 189, 3) := by decide +kernel
theorem dX9_out_19 : decode cX9_out 19 = .ok (.ireturn, 1) := by decide +kernel
theorem dX9_noSymbol_0 : decode cX9_noSymbol 0 = .ok (.aload_n 0, 1) := by decide +kernel
theorem dX9_noSymbol_1 : decode cX9_noSymbol 1 = .ok (.iload_n 1, 1) := by decide +kernel
theorem dX9_noSymbol_2 : decode cX9_noSymbol 2 = .ok (.iconst 0, 1) := by decide +kernel
theorem dX9_noSymbol_3 : decode cX9_noSymbol 3 = .ok (.bipush 26, 2) := by decide +kernel
theorem dX9_noSymbol_5 : decode cX9_noSymbol 5 = .ok (.invokevirtual 301, 3) := by decide +kernel
theorem dX9_noSymbol_8 : decode cX9_noSymbol 8 = .ok (.ireturn, 1) := by decide +kernel
theorem dX9_noContext_0 : decode cX9_noContext 0 = .ok (.aload_n 0, 1) := by decide +kernel
theorem dX9_noContext_1 : decode cX9_noContext 1 = .ok (.iload_n 1, 1) := by decide +kernel
theorem dX9_noContext_2 : decode cX9_noContext 2 = .ok (.invokevirtual 295, 3) := by decide +kernel
theorem dX9_noContext_5 : decode cX9_noContext 5 = .ok (.ifCond .ne 48, 3) := by decide +kernel
theorem dX9_noContext_8 : decode cX9_noContext 8 = .ok (.aload_n 0, 1) := by decide +kernel
theorem dX9_noContext_9 : decode cX9_noContext 9 = .ok (.iload_n 2, 1) := by decide +kernel
theorem dX9_noContext_10 : decode cX9_noContext 10 = .ok (.iconst (-1), 1) := by decide +kernel
theorem dX9_noContext_11 : decode cX9_noContext 11 = .ok (.bipush 26, 2) := by decide +kernel
theorem dX9_noContext_13 : decode cX9_noContext 13 = .ok (.invokevirtual 301, 3) := by decide +kernel
theorem dX9_noContext_16 : decode cX9_noContext 16 = .ok (.ifCond .ne 37, 3) := by decide +kernel
theorem dX9_noContext_19 : decode cX9_noContext 19 = .ok (.aload_n 0, 1) := by decide +kernel
theorem dX9_noContext_20 : decode cX9_noContext 20 = .ok (.iload_n 3, 1) := by decide +kernel
theorem dX9_noContext_21 : decode cX9_noContext 21 = .ok (.iconst (-1), 1) := by decide +kernel
theorem dX9_noContext_22 : decode cX9_noContext 22 = .ok (.bipush 26, 2) := by decide +kernel
theorem dX9_noContext_24 : decode cX9_noContext 24 = .ok (.invokevirtual 301, 3) := by decide +kernel
theorem dX9_noContext_27 : decode cX9_noContext 27 = .ok (.ifCond .ne 26, 3) := by decide +kernel
theorem dX9_noContext_30 : decode cX9_noContext 30 = .ok (.aload_n 0, 1) := by decide +kernel
theorem dX9_noContext_31 : decode cX9_noContext 31 = .ok (.iload_n 3, 1) := by decide +kernel
theorem dX9_noContext_32 : decode cX9_noContext 32 = .ok (.iconst (-1), 1) := by decide +kernel
theorem dX9_noContext_33 : decode cX9_noContext 33 = .ok (.if_icmp .ne 12, 3) := by decide +kernel
theorem dX9_noContext_36 : decode cX9_noContext 36 = .ok (.iload_n 2, 1) := by decide +kernel
theorem dX9_noContext_37 : decode cX9_noContext 37 = .ok (.iconst (-1), 1) := by decide +kernel
theorem dX9_noContext_38 : decode cX9_noContext 38 = .ok (.if_icmp .eq 7, 3) := by decide +kernel
theorem dX9_noContext_41 : decode cX9_noContext 41 = .ok (.iconst 1, 1) := by decide +kernel
theorem dX9_noContext_42 : decode cX9_noContext 42 = .ok (.goto 4, 3) := by decide +kernel
theorem dX9_noContext_45 : decode cX9_noContext 45 = .ok (.iconst 0, 1) := by decide +kernel
theorem dX9_noContext_46 : decode cX9_noContext 46 = .ok (.iconst 2, 1) := by decide +kernel
theorem dX9_noContext_47 : decode cX9_noContext 47 = .ok (.invokevirtual 189, 3) := by decide +kernel
theorem dX9_noContext_50 : decode cX9_noContext 50 = .ok (.ifCond .eq 7, 3) := by decide +kernel
theorem dX9_noContext_53 : decode cX9_noContext 53 = .ok (.iconst 1, 1) := by decide +kernel
theorem dX9_noContext_54 : decode cX9_noContext 54 = .ok (.goto 4, 3) := by decide +kernel
theorem dX9_noContext_57 : decode cX9_noContext 57 = .ok (.iconst 0, 1) := by decide +kernel
theorem dX9_noContext_58 : decode cX9_noContext 58 = .ok (.ireturn, 1) := by decide +kernel
theorem dX9_noQuestion_0 : decode cX9_noQuestion 0 = .ok (.aload_n 0, 1) := by decide +kernel
theorem dX9_noQuestion_1 : decode cX9_noQuestion 1 = .ok (.iload_n 1, 1) := by decide +kernel
theorem dX9_noQuestion_2 : decode cX9_noQuestion 2 = .ok (.iload_n 2, 1) := by decide +kernel
theorem dX9_noQuestion_3 : decode cX9_noQuestion 3 = .ok (.iload_n 3, 1) := by decide +kernel
theorem dX9_noQuestion_4 : decode cX9_noQuestion 4 = .ok (.invokevirtual 304, 3) := by decide +kernel
theorem dX9_noQuestion_7 : decode cX9_noQuestion 7 = .ok (.ifCond .ne 12, 3) := by decide +kernel
theorem dX9_noQuestion_10 : decode cX9_noQuestion 10 = .ok (.aload_n 0, 1) := by decide +kernel
theorem dX9_noQuestion_11 : decode cX9_noQuestion 11 = .ok (.iload 4, 2) := by decide +kernel
theorem dX9_noQuestion_13 : decode cX9_noQuestion 13 = .ok (.invokevirtual 307, 3) := by decide +kernel
theorem dX9_noQuestion_16 : decode cX9_noQuestion 16 = .ok (.ifCond .eq 7, 3) := by decide +kernel
theorem dX9_noQuestion_19 : decode cX9_noQuestion 19 = .ok (.iconst 1, 1) := by decide +kernel
theorem dX9_noQuestion_20 : decode cX9_noQuestion 20 = .ok (.goto 4, 3) := by decide +kernel
theorem dX9_noQuestion_23 : decode cX9_noQuestion 23 = .ok (.iconst 0, 1) := by decide +kernel
theorem dX9_noQuestion_24 : decode cX9_noQuestion 24 = .ok (.ireturn, 1) := by decide +kernel
theorem dX9_year_0 : decode cX9_year 0 = .ok (.aload_n 0, 1) := by decide +kernel
theorem dX9_year_1 : decode cX9_year 1 = .ok (.iconst 0, 1) := by decide +kernel
theorem dX9_year_2 : decode cX9_year 2 = .ok (.putfield 85, 3) := by decide +kernel
theorem dX9_year_5 : decode cX9_year 5 = .ok (.aload_n 0, 1) := by decide +kernel
theorem dX9_year_6 : decode cX9_year 6 = .ok (.getfield 7, 3) := by decide +kernel
theorem dX9_year_9 : decode cX9_year 9 = .ok (.iconst 0, 1) := by decide +kernel
theorem dX9_year_10 : decode cX9_year 10 = .ok (.iaload, 1) := by decide +kernel
theorem dX9_year_11 : decode cX9_year 11 = .ok (.ireturn, 1) := by decide +kernel
theorem dX9_readerCount_0 : decode cX9_readerCount 0 = .ok (.aload_n 0, 1) := by decide +kernel
theorem dX9_readerCount_1 : decode cX9_readerCount 1 = .ok (.iconst 0, 1) := by decide +kernel
theorem dX9_readerCount_2 : decode cX9_readerCount 2 = .ok (.putfield 85, 3) := by decide +kernel
theorem dX9_readerCount_5 : decode cX9_readerCount 5 = .ok (.aload_n 0, 1) := by decide +kernel
theorem dX9_readerCount_6 : decode cX9_readerCount 6 = .ok (.getfield 7, 3) := by decide +kernel
theorem dX9_readerCount_9 : decode cX9_readerCount 9 = .ok (.iconst 2, 1) := by decide +kernel
theorem dX9_readerCount_10 : decode cX9_readerCount 10 = .ok (.iaload, 1) := by decide +kernel
theorem dX9_readerCount_11 : decode cX9_readerCount 11 = .ok (.ireturn, 1) := by decide +kernel
theorem dX9_letterOf_0 : decode cX9_letterOf 0 = .ok (.iload_n 0, 1) := by decide +kernel
theorem dX9_letterOf_1 : decode cX9_letterOf 1 = .ok (.istore_n 2, 1) := by decide +kernel
theorem dX9_letterOf_2 : decode cX9_letterOf 2 = .ok (.iconst 3, 1) := by decide +kernel
theorem dX9_letterOf_3 : decode cX9_letterOf 3 = .ok (.istore_n 3, 1) := by decide +kernel
theorem dX9_letterOf_4 : decode cX9_letterOf 4 = .ok (.iload_n 3, 1) := by decide +kernel
theorem dX9_letterOf_5 : decode cX9_letterOf 5 = .ok (.iload_n 1, 1) := by decide +kernel
theorem dX9_letterOf_6 : decode cX9_letterOf 6 = .ok (.if_icmp .le 14, 3) := by decide +kernel
theorem dX9_letterOf_9 : decode cX9_letterOf 9 = .ok (.iload_n 2, 1) := by decide +kernel
theorem dX9_letterOf_10 : decode cX9_letterOf 10 = .ok (.bipush 27, 2) := by decide +kernel
theorem dX9_letterOf_12 : decode cX9_letterOf 12 = .ok (.idiv, 1) := by decide +kernel
theorem dX9_letterOf_13 : decode cX9_letterOf 13 = .ok (.istore_n 2, 1) := by decide +kernel
theorem dX9_letterOf_14 : decode cX9_letterOf 14 = .ok (.iinc 3 (-1), 3) := by decide +kernel
theorem dX9_letterOf_17 : decode cX9_letterOf 17 = .ok (.goto (-13), 3) := by decide +kernel
theorem dX9_letterOf_20 : decode cX9_letterOf 20 = .ok (.iload_n 2, 1) := by decide +kernel
theorem dX9_letterOf_21 : decode cX9_letterOf 21 = .ok (.bipush 27, 2) := by decide +kernel
theorem dX9_letterOf_23 : decode cX9_letterOf 23 = .ok (.irem, 1) := by decide +kernel
theorem dX9_letterOf_24 : decode cX9_letterOf 24 = .ok (.ireturn, 1) := by decide +kernel
theorem dX9_lettersOf_0 : decode cX9_lettersOf 0 = .ok (.iconst 0, 1) := by decide +kernel
theorem dX9_lettersOf_1 : decode cX9_lettersOf 1 = .ok (.istore_n 1, 1) := by decide +kernel
theorem dX9_lettersOf_2 : decode cX9_lettersOf 2 = .ok (.iload_n 1, 1) := by decide +kernel
theorem dX9_lettersOf_3 : decode cX9_lettersOf 3 = .ok (.iconst 4, 1) := by decide +kernel
theorem dX9_lettersOf_4 : decode cX9_lettersOf 4 = .ok (.if_icmp .ge 17, 3) := by decide +kernel
theorem dX9_lettersOf_7 : decode cX9_lettersOf 7 = .ok (.iload_n 0, 1) := by decide +kernel
theorem dX9_lettersOf_8 : decode cX9_lettersOf 8 = .ok (.iload_n 1, 1) := by decide +kernel
theorem dX9_lettersOf_9 : decode cX9_lettersOf 9 = .ok (.invokestatic 310, 3) := by decide +kernel
theorem dX9_lettersOf_12 : decode cX9_lettersOf 12 = .ok (.ifCond .le 9, 3) := by decide +kernel
theorem dX9_lettersOf_15 : decode cX9_lettersOf 15 = .ok (.iinc 1 1, 3) := by decide +kernel
theorem dX9_lettersOf_18 : decode cX9_lettersOf 18 = .ok (.goto (-16), 3) := by decide +kernel
theorem dX9_lettersOf_21 : decode cX9_lettersOf 21 = .ok (.iload_n 1, 1) := by decide +kernel
theorem dX9_lettersOf_22 : decode cX9_lettersOf 22 = .ok (.ireturn, 1) := by decide +kernel
theorem dX9_readerNameByte_0 : decode cX9_readerNameByte 0 = .ok (.aload_n 0, 1) := by decide +kernel
theorem dX9_readerNameByte_1 : decode cX9_readerNameByte 1 = .ok (.iload_n 1, 1) := by decide +kernel
theorem dX9_readerNameByte_2 : decode cX9_readerNameByte 2 = .ok (.invokevirtual 295, 3) := by decide +kernel
theorem dX9_readerNameByte_5 : decode cX9_readerNameByte 5 = .ok (.ifCond .ne 28, 3) := by decide +kernel
theorem dX9_readerNameByte_8 : decode cX9_readerNameByte 8 = .ok (.aload_n 0, 1) := by decide +kernel
theorem dX9_readerNameByte_9 : decode cX9_readerNameByte 9 = .ok (.iload_n 2, 1) := by decide +kernel
theorem dX9_readerNameByte_10 : decode cX9_readerNameByte 10 = .ok (.iconst 0, 1) := by decide +kernel
theorem dX9_readerNameByte_11 : decode cX9_readerNameByte 11 = .ok (.aload_n 0, 1) := by decide +kernel
theorem dX9_readerNameByte_12 : decode cX9_readerNameByte 12 = .ok (.getfield 7, 3) := by decide +kernel
theorem dX9_readerNameByte_15 : decode cX9_readerNameByte 15 = .ok (.iload_n 1, 1) := by decide +kernel
theorem dX9_readerNameByte_16 : decode cX9_readerNameByte 16 = .ok (.invokestatic 92, 3) := by decide +kernel
theorem dX9_readerNameByte_19 : decode cX9_readerNameByte 19 = .ok (.iconst 0, 1) := by decide +kernel
theorem dX9_readerNameByte_20 : decode cX9_readerNameByte 20 = .ok (.iadd, 1) := by decide +kernel
theorem dX9_readerNameByte_21 : decode cX9_readerNameByte 21 = .ok (.iaload, 1) := by decide +kernel
theorem dX9_readerNameByte_22 : decode cX9_readerNameByte 22 = .ok (.invokestatic 313, 3) := by decide +kernel
theorem dX9_readerNameByte_25 : decode cX9_readerNameByte 25 = .ok (.iconst 1, 1) := by decide +kernel
theorem dX9_readerNameByte_26 : decode cX9_readerNameByte 26 = .ok (.isub, 1) := by decide +kernel
theorem dX9_readerNameByte_27 : decode cX9_readerNameByte 27 = .ok (.invokevirtual 301, 3) := by decide +kernel
theorem dX9_readerNameByte_30 : decode cX9_readerNameByte 30 = .ok (.ifCond .eq 7, 3) := by decide +kernel
theorem dX9_readerNameByte_33 : decode cX9_readerNameByte 33 = .ok (.iconst 0, 1) := by decide +kernel
theorem dX9_readerNameByte_34 : decode cX9_readerNameByte 34 = .ok (.goto 21, 3) := by decide +kernel
theorem dX9_readerNameByte_37 : decode cX9_readerNameByte 37 = .ok (.bipush 96, 2) := by decide +kernel
theorem dX9_readerNameByte_39 : decode cX9_readerNameByte 39 = .ok (.aload_n 0, 1) := by decide +kernel
theorem dX9_readerNameByte_40 : decode cX9_readerNameByte 40 = .ok (.getfield 7, 3) := by decide +kernel
theorem dX9_readerNameByte_43 : decode cX9_readerNameByte 43 = .ok (.iload_n 1, 1) := by decide +kernel
theorem dX9_readerNameByte_44 : decode cX9_readerNameByte 44 = .ok (.invokestatic 92, 3) := by decide +kernel
theorem dX9_readerNameByte_47 : decode cX9_readerNameByte 47 = .ok (.iconst 0, 1) := by decide +kernel
theorem dX9_readerNameByte_48 : decode cX9_readerNameByte 48 = .ok (.iadd, 1) := by decide +kernel
theorem dX9_readerNameByte_49 : decode cX9_readerNameByte 49 = .ok (.iaload, 1) := by decide +kernel
theorem dX9_readerNameByte_50 : decode cX9_readerNameByte 50 = .ok (.iload_n 2, 1) := by decide +kernel
theorem dX9_readerNameByte_51 : decode cX9_readerNameByte 51 = .ok (.invokestatic 310, 3) := by decide +kernel
theorem dX9_readerNameByte_54 : decode cX9_readerNameByte 54 = .ok (.iadd, 1) := by decide +kernel
theorem dX9_readerNameByte_55 : decode cX9_readerNameByte 55 = .ok (.ireturn, 1) := by decide +kernel
theorem dX9_escapeMethod_0 : decode cX9_escapeMethod 0 = .ok (.aload_n 0, 1) := by decide +kernel
theorem dX9_escapeMethod_1 : decode cX9_escapeMethod 1 = .ok (.iload_n 1, 1) := by decide +kernel
theorem dX9_escapeMethod_2 : decode cX9_escapeMethod 2 = .ok (.invokevirtual 295, 3) := by decide +kernel
theorem dX9_escapeMethod_5 : decode cX9_escapeMethod 5 = .ok (.ifCond .eq 7, 3) := by decide +kernel
theorem dX9_escapeMethod_8 : decode cX9_escapeMethod 8 = .ok (.iconst 0, 1) := by decide +kernel
theorem dX9_escapeMethod_9 : decode cX9_escapeMethod 9 = .ok (.goto 14, 3) := by decide +kernel
theorem dX9_escapeMethod_12 : decode cX9_escapeMethod 12 = .ok (.aload_n 0, 1) := by decide +kernel
theorem dX9_escapeMethod_13 : decode cX9_escapeMethod 13 = .ok (.getfield 7, 3) := by decide +kernel
theorem dX9_escapeMethod_16 : decode cX9_escapeMethod 16 = .ok (.iload_n 1, 1) := by decide +kernel
theorem dX9_escapeMethod_17 : decode cX9_escapeMethod 17 = .ok (.invokestatic 92, 3) := by decide +kernel
theorem dX9_escapeMethod_20 : decode cX9_escapeMethod 20 = .ok (.iconst 1, 1) := by decide +kernel
theorem dX9_escapeMethod_21 : decode cX9_escapeMethod 21 = .ok (.iadd, 1) := by decide +kernel
theorem dX9_escapeMethod_22 : decode cX9_escapeMethod 22 = .ok (.iaload, 1) := by decide +kernel
theorem dX9_escapeMethod_23 : decode cX9_escapeMethod 23 = .ok (.ireturn, 1) := by decide +kernel
theorem dX9_documentCount_0 : decode cX9_documentCount 0 = .ok (.aload_n 0, 1) := by decide +kernel
theorem dX9_documentCount_1 : decode cX9_documentCount 1 = .ok (.iconst 0, 1) := by decide +kernel
theorem dX9_documentCount_2 : decode cX9_documentCount 2 = .ok (.putfield 85, 3) := by decide +kernel
theorem dX9_documentCount_5 : decode cX9_documentCount 5 = .ok (.aload_n 0, 1) := by decide +kernel
theorem dX9_documentCount_6 : decode cX9_documentCount 6 = .ok (.getfield 7, 3) := by decide +kernel
theorem dX9_documentCount_9 : decode cX9_documentCount 9 = .ok (.iconst 1, 1) := by decide +kernel
theorem dX9_documentCount_10 : decode cX9_documentCount 10 = .ok (.iaload, 1) := by decide +kernel
theorem dX9_documentCount_11 : decode cX9_documentCount 11 = .ok (.ireturn, 1) := by decide +kernel
theorem dX9_documentLength_0 : decode cX9_documentLength 0 = .ok (.aload_n 0, 1) := by decide +kernel
theorem dX9_documentLength_1 : decode cX9_documentLength 1 = .ok (.iload_n 1, 1) := by decide +kernel
theorem dX9_documentLength_2 : decode cX9_documentLength 2 = .ok (.invokevirtual 298, 3) := by decide +kernel
theorem dX9_documentLength_5 : decode cX9_documentLength 5 = .ok (.ifCond .eq 7, 3) := by decide +kernel
theorem dX9_documentLength_8 : decode cX9_documentLength 8 = .ok (.iconst 0, 1) := by decide +kernel
theorem dX9_documentLength_9 : decode cX9_documentLength 9 = .ok (.goto 11, 3) := by decide +kernel
theorem dX9_documentLength_12 : decode cX9_documentLength 12 = .ok (.aload_n 0, 1) := by decide +kernel
theorem dX9_documentLength_13 : decode cX9_documentLength 13 = .ok (.getfield 7, 3) := by decide +kernel
theorem dX9_documentLength_16 : decode cX9_documentLength 16 = .ok (.iload_n 1, 1) := by decide +kernel
theorem dX9_documentLength_17 : decode cX9_documentLength 17 = .ok (.invokestatic 114, 3) := by decide +kernel
theorem dX9_documentLength_20 : decode cX9_documentLength 20 = .ok (.ireturn, 1) := by decide +kernel
theorem dX9_documentSymbol_0 : decode cX9_documentSymbol 0 = .ok (.aload_n 0, 1) := by decide +kernel
theorem dX9_documentSymbol_1 : decode cX9_documentSymbol 1 = .ok (.iload_n 1, 1) := by decide +kernel
theorem dX9_documentSymbol_2 : decode cX9_documentSymbol 2 = .ok (.invokevirtual 298, 3) := by decide +kernel
theorem dX9_documentSymbol_5 : decode cX9_documentSymbol 5 = .ok (.ifCond .ne 22, 3) := by decide +kernel
theorem dX9_documentSymbol_8 : decode cX9_documentSymbol 8 = .ok (.aload_n 0, 1) := by decide +kernel
theorem dX9_documentSymbol_9 : decode cX9_documentSymbol 9 = .ok (.iload_n 2, 1) := by decide +kernel
theorem dX9_documentSymbol_10 : decode cX9_documentSymbol 10 = .ok (.iconst 0, 1) := by decide +kernel
theorem dX9_documentSymbol_11 : decode cX9_documentSymbol 11 = .ok (.aload_n 0, 1) := by decide +kernel
theorem dX9_documentSymbol_12 : decode cX9_documentSymbol 12 = .ok (.getfield 7, 3) := by decide +kernel
theorem dX9_documentSymbol_15 : decode cX9_documentSymbol 15 = .ok (.iload_n 1, 1) := by decide +kernel
theorem dX9_documentSymbol_16 : decode cX9_documentSymbol 16 = .ok (.invokestatic 114, 3) := by decide +kernel
theorem dX9_documentSymbol_19 : decode cX9_documentSymbol 19 = .ok (.iconst 1, 1) := by decide +kernel
theorem dX9_documentSymbol_20 : decode cX9_documentSymbol 20 = .ok (.isub, 1) := by decide +kernel
theorem dX9_documentSymbol_21 : decode cX9_documentSymbol 21 = .ok (.invokevirtual 301, 3) := by decide +kernel
theorem dX9_documentSymbol_24 : decode cX9_documentSymbol 24 = .ok (.ifCond .eq 7, 3) := by decide +kernel
theorem dX9_documentSymbol_27 : decode cX9_documentSymbol 27 = .ok (.iconst 0, 1) := by decide +kernel
theorem dX9_documentSymbol_28 : decode cX9_documentSymbol 28 = .ok (.goto 12, 3) := by decide +kernel
theorem dX9_documentSymbol_31 : decode cX9_documentSymbol 31 = .ok (.aload_n 0, 1) := by decide +kernel
theorem dX9_documentSymbol_32 : decode cX9_documentSymbol 32 = .ok (.getfield 7, 3) := by decide +kernel
theorem dX9_documentSymbol_35 : decode cX9_documentSymbol 35 = .ok (.iload_n 1, 1) := by decide +kernel
theorem dX9_documentSymbol_36 : decode cX9_documentSymbol 36 = .ok (.iload_n 2, 1) := by decide +kernel
theorem dX9_documentSymbol_37 : decode cX9_documentSymbol 37 = .ok (.invokestatic 103, 3) := by decide +kernel
theorem dX9_documentSymbol_40 : decode cX9_documentSymbol 40 = .ok (.ireturn, 1) := by decide +kernel
theorem dX9_documentYear_0 : decode cX9_documentYear 0 = .ok (.aload_n 0, 1) := by decide +kernel
theorem dX9_documentYear_1 : decode cX9_documentYear 1 = .ok (.iload_n 1, 1) := by decide +kernel
theorem dX9_documentYear_2 : decode cX9_documentYear 2 = .ok (.invokevirtual 298, 3) := by decide +kernel
theorem dX9_documentYear_5 : decode cX9_documentYear 5 = .ok (.ifCond .eq 7, 3) := by decide +kernel
theorem dX9_documentYear_8 : decode cX9_documentYear 8 = .ok (.iconst 0, 1) := by decide +kernel
theorem dX9_documentYear_9 : decode cX9_documentYear 9 = .ok (.goto 14, 3) := by decide +kernel
theorem dX9_documentYear_12 : decode cX9_documentYear 12 = .ok (.aload_n 0, 1) := by decide +kernel
theorem dX9_documentYear_13 : decode cX9_documentYear 13 = .ok (.getfield 7, 3) := by decide +kernel
theorem dX9_documentYear_16 : decode cX9_documentYear 16 = .ok (.iload_n 1, 1) := by decide +kernel
theorem dX9_documentYear_17 : decode cX9_documentYear 17 = .ok (.invokestatic 88, 3) := by decide +kernel
theorem dX9_documentYear_20 : decode cX9_documentYear 20 = .ok (.iconst 1, 1) := by decide +kernel
theorem dX9_documentYear_21 : decode cX9_documentYear 21 = .ok (.iadd, 1) := by decide +kernel
theorem dX9_documentYear_22 : decode cX9_documentYear 22 = .ok (.iaload, 1) := by decide +kernel
theorem dX9_documentYear_23 : decode cX9_documentYear 23 = .ok (.ireturn, 1) := by decide +kernel
theorem dX9_countOrder0_0 : decode cX9_countOrder0 0 = .ok (.aload_n 0, 1) := by decide +kernel
theorem dX9_countOrder0_1 : decode cX9_countOrder0 1 = .ok (.iload_n 1, 1) := by decide +kernel
theorem dX9_countOrder0_2 : decode cX9_countOrder0 2 = .ok (.invokevirtual 295, 3) := by decide +kernel
theorem dX9_countOrder0_5 : decode cX9_countOrder0 5 = .ok (.ifCond .ne 11, 3) := by decide +kernel
theorem dX9_countOrder0_8 : decode cX9_countOrder0 8 = .ok (.aload_n 0, 1) := by decide +kernel
theorem dX9_countOrder0_9 : decode cX9_countOrder0 9 = .ok (.iload_n 2, 1) := by decide +kernel
theorem dX9_countOrder0_10 : decode cX9_countOrder0 10 = .ok (.invokevirtual 307, 3) := by decide +kernel
theorem dX9_countOrder0_13 : decode cX9_countOrder0 13 = .ok (.ifCond .eq 7, 3) := by decide +kernel
theorem dX9_countOrder0_16 : decode cX9_countOrder0 16 = .ok (.iconst 0, 1) := by decide +kernel
theorem dX9_countOrder0_17 : decode cX9_countOrder0 17 = .ok (.goto 17, 3) := by decide +kernel
theorem dX9_countOrder0_20 : decode cX9_countOrder0 20 = .ok (.aload_n 0, 1) := by decide +kernel
theorem dX9_countOrder0_21 : decode cX9_countOrder0 21 = .ok (.getfield 7, 3) := by decide +kernel
theorem dX9_countOrder0_24 : decode cX9_countOrder0 24 = .ok (.iload_n 1, 1) := by decide +kernel
theorem dX9_countOrder0_25 : decode cX9_countOrder0 25 = .ok (.iconst (-1), 1) := by decide +kernel
theorem dX9_countOrder0_26 : decode cX9_countOrder0 26 = .ok (.iconst (-1), 1) := by decide +kernel
theorem dX9_countOrder0_27 : decode cX9_countOrder0 27 = .ok (.iload_n 2, 1) := by decide +kernel
theorem dX9_countOrder0_28 : decode cX9_countOrder0 28 = .ok (.invokestatic 106, 3) := by decide +kernel
theorem dX9_countOrder0_31 : decode cX9_countOrder0 31 = .ok (.invokestatic 316, 3) := by decide +kernel
theorem dX9_countOrder0_34 : decode cX9_countOrder0 34 = .ok (.ireturn, 1) := by decide +kernel
theorem dX9_countOrder1_0 : decode cX9_countOrder1 0 = .ok (.aload_n 0, 1) := by decide +kernel
theorem dX9_countOrder1_1 : decode cX9_countOrder1 1 = .ok (.iload_n 1, 1) := by decide +kernel
theorem dX9_countOrder1_2 : decode cX9_countOrder1 2 = .ok (.invokevirtual 295, 3) := by decide +kernel
theorem dX9_countOrder1_5 : decode cX9_countOrder1 5 = .ok (.ifCond .ne 19, 3) := by decide +kernel
theorem dX9_countOrder1_8 : decode cX9_countOrder1 8 = .ok (.aload_n 0, 1) := by decide +kernel
theorem dX9_countOrder1_9 : decode cX9_countOrder1 9 = .ok (.iload_n 2, 1) := by decide +kernel
theorem dX9_countOrder1_10 : decode cX9_countOrder1 10 = .ok (.invokevirtual 307, 3) := by decide +kernel
theorem dX9_countOrder1_13 : decode cX9_countOrder1 13 = .ok (.ifCond .ne 11, 3) := by decide +kernel
theorem dX9_countOrder1_16 : decode cX9_countOrder1 16 = .ok (.aload_n 0, 1) := by decide +kernel
theorem dX9_countOrder1_17 : decode cX9_countOrder1 17 = .ok (.iload_n 3, 1) := by decide +kernel
theorem dX9_countOrder1_18 : decode cX9_countOrder1 18 = .ok (.invokevirtual 307, 3) := by decide +kernel
theorem dX9_countOrder1_21 : decode cX9_countOrder1 21 = .ok (.ifCond .eq 7, 3) := by decide +kernel
theorem dX9_countOrder1_24 : decode cX9_countOrder1 24 = .ok (.iconst 0, 1) := by decide +kernel
theorem dX9_countOrder1_25 : decode cX9_countOrder1 25 = .ok (.goto 17, 3) := by decide +kernel
theorem dX9_countOrder1_28 : decode cX9_countOrder1 28 = .ok (.aload_n 0, 1) := by decide +kernel
theorem dX9_countOrder1_29 : decode cX9_countOrder1 29 = .ok (.getfield 7, 3) := by decide +kernel
theorem dX9_countOrder1_32 : decode cX9_countOrder1 32 = .ok (.iload_n 1, 1) := by decide +kernel
theorem dX9_countOrder1_33 : decode cX9_countOrder1 33 = .ok (.iconst (-1), 1) := by decide +kernel
theorem dX9_countOrder1_34 : decode cX9_countOrder1 34 = .ok (.iload_n 2, 1) := by decide +kernel
theorem dX9_countOrder1_35 : decode cX9_countOrder1 35 = .ok (.iload_n 3, 1) := by decide +kernel
theorem dX9_countOrder1_36 : decode cX9_countOrder1 36 = .ok (.invokestatic 106, 3) := by decide +kernel
theorem dX9_countOrder1_39 : decode cX9_countOrder1 39 = .ok (.invokestatic 316, 3) := by decide +kernel
theorem dX9_countOrder1_42 : decode cX9_countOrder1 42 = .ok (.ireturn, 1) := by decide +kernel
theorem dX9_countOrder2_0 : decode cX9_countOrder2 0 = .ok (.aload_n 0, 1) := by decide +kernel
theorem dX9_countOrder2_1 : decode cX9_countOrder2 1 = .ok (.iload_n 1, 1) := by decide +kernel
theorem dX9_countOrder2_2 : decode cX9_countOrder2 2 = .ok (.invokevirtual 295, 3) := by decide +kernel
theorem dX9_countOrder2_5 : decode cX9_countOrder2 5 = .ok (.ifCond .ne 28, 3) := by decide +kernel
theorem dX9_countOrder2_8 : decode cX9_countOrder2 8 = .ok (.aload_n 0, 1) := by decide +kernel
theorem dX9_countOrder2_9 : decode cX9_countOrder2 9 = .ok (.iload_n 2, 1) := by decide +kernel
theorem dX9_countOrder2_10 : decode cX9_countOrder2 10 = .ok (.invokevirtual 307, 3) := by decide +kernel
theorem dX9_countOrder2_13 : decode cX9_countOrder2 13 = .ok (.ifCond .ne 20, 3) := by decide +kernel
theorem dX9_countOrder2_16 : decode cX9_countOrder2 16 = .ok (.aload_n 0, 1) := by decide +kernel
theorem dX9_countOrder2_17 : decode cX9_countOrder2 17 = .ok (.iload_n 3, 1) := by decide +kernel
theorem dX9_countOrder2_18 : decode cX9_countOrder2 18 = .ok (.invokevirtual 307, 3) := by decide +kernel
theorem dX9_countOrder2_21 : decode cX9_countOrder2 21 = .ok (.ifCond .ne 12, 3) := by decide +kernel
theorem dX9_countOrder2_24 : decode cX9_countOrder2 24 = .ok (.aload_n 0, 1) := by decide +kernel
theorem dX9_countOrder2_25 : decode cX9_countOrder2 25 = .ok (.iload 4, 2) := by decide +kernel
theorem dX9_countOrder2_27 : decode cX9_countOrder2 27 = .ok (.invokevirtual 307, 3) := by decide +kernel
theorem dX9_countOrder2_30 : decode cX9_countOrder2 30 = .ok (.ifCond .eq 5, 3) := by decide +kernel
theorem dX9_countOrder2_33 : decode cX9_countOrder2 33 = .ok (.iconst 0, 1) := by decide +kernel
theorem dX9_countOrder2_34 : decode cX9_countOrder2 34 = .ok (.ireturn, 1) := by decide +kernel
theorem dX9_countOrder2_35 : decode cX9_countOrder2 35 = .ok (.aload_n 0, 1) := by decide +kernel
theorem dX9_countOrder2_36 : decode cX9_countOrder2 36 = .ok (.getfield 7, 3) := by decide +kernel
theorem dX9_countOrder2_39 : decode cX9_countOrder2 39 = .ok (.iload_n 1, 1) := by decide +kernel
theorem dX9_countOrder2_40 : decode cX9_countOrder2 40 = .ok (.iload_n 2, 1) := by decide +kernel
theorem dX9_countOrder2_41 : decode cX9_countOrder2 41 = .ok (.iload_n 3, 1) := by decide +kernel
theorem dX9_countOrder2_42 : decode cX9_countOrder2 42 = .ok (.iload 4, 2) := by decide +kernel
theorem dX9_countOrder2_44 : decode cX9_countOrder2 44 = .ok (.invokestatic 106, 3) := by decide +kernel
theorem dX9_countOrder2_47 : decode cX9_countOrder2 47 = .ok (.invokestatic 316, 3) := by decide +kernel
theorem dX9_countOrder2_50 : decode cX9_countOrder2 50 = .ok (.ireturn, 1) := by decide +kernel
theorem dX9_contextTotal_0 : decode cX9_contextTotal 0 = .ok (.aload_n 0, 1) := by decide +kernel
theorem dX9_contextTotal_1 : decode cX9_contextTotal 1 = .ok (.iload_n 1, 1) := by decide +kernel
theorem dX9_contextTotal_2 : decode cX9_contextTotal 2 = .ok (.iload_n 2, 1) := by decide +kernel
theorem dX9_contextTotal_3 : decode cX9_contextTotal 3 = .ok (.iload_n 3, 1) := by decide +kernel
theorem dX9_contextTotal_4 : decode cX9_contextTotal 4 = .ok (.invokevirtual 304, 3) := by decide +kernel
theorem dX9_contextTotal_7 : decode cX9_contextTotal 7 = .ok (.ifCond .eq 5, 3) := by decide +kernel
theorem dX9_contextTotal_10 : decode cX9_contextTotal 10 = .ok (.iconst 0, 1) := by decide +kernel
theorem dX9_contextTotal_11 : decode cX9_contextTotal 11 = .ok (.ireturn, 1) := by decide +kernel
theorem dX9_contextTotal_12 : decode cX9_contextTotal 12 = .ok (.aload_n 0, 1) := by decide +kernel
theorem dX9_contextTotal_13 : decode cX9_contextTotal 13 = .ok (.aload_n 0, 1) := by decide +kernel
theorem dX9_contextTotal_14 : decode cX9_contextTotal 14 = .ok (.getfield 7, 3) := by decide +kernel
theorem dX9_contextTotal_17 : decode cX9_contextTotal 17 = .ok (.iload_n 1, 1) := by decide +kernel
theorem dX9_contextTotal_18 : decode cX9_contextTotal 18 = .ok (.iload_n 2, 1) := by decide +kernel
theorem dX9_contextTotal_19 : decode cX9_contextTotal 19 = .ok (.iload_n 3, 1) := by decide +kernel
theorem dX9_contextTotal_20 : decode cX9_contextTotal 20 = .ok (.invokevirtual 135, 3) := by decide +kernel
theorem dX9_contextTotal_23 : decode cX9_contextTotal 23 = .ok (.iconst 0, 1) := by decide +kernel
theorem dX9_contextTotal_24 : decode cX9_contextTotal 24 = .ok (.istore 4, 2) := by decide +kernel
theorem dX9_contextTotal_26 : decode cX9_contextTotal 26 = .ok (.iconst 0, 1) := by decide +kernel
theorem dX9_contextTotal_27 : decode cX9_contextTotal 27 = .ok (.istore 5, 2) := by decide +kernel
theorem dX9_contextTotal_29 : decode cX9_contextTotal 29 = .ok (.iload 5, 2) := by decide +kernel
theorem dX9_contextTotal_31 : decode cX9_contextTotal 31 = .ok (.bipush 27, 2) := by decide +kernel
theorem dX9_contextTotal_33 : decode cX9_contextTotal 33 = .ok (.if_icmp .ge 21, 3) := by decide +kernel
theorem dX9_contextTotal_36 : decode cX9_contextTotal 36 = .ok (.iload 4, 2) := by decide +kernel
theorem dX9_contextTotal_38 : decode cX9_contextTotal 38 = .ok (.aload_n 0, 1) := by decide +kernel
theorem dX9_contextTotal_39 : decode cX9_contextTotal 39 = .ok (.getfield 30, 3) := by decide +kernel
theorem dX9_contextTotal_42 : decode cX9_contextTotal 42 = .ok (.iload 5, 2) := by decide +kernel
theorem dX9_contextTotal_44 : decode cX9_contextTotal 44 = .ok (.iaload, 1) := by decide +kernel
theorem dX9_contextTotal_45 : decode cX9_contextTotal 45 = .ok (.iadd, 1) := by decide +kernel
theorem dX9_contextTotal_46 : decode cX9_contextTotal 46 = .ok (.istore 4, 2) := by decide +kernel
theorem dX9_contextTotal_48 : decode cX9_contextTotal 48 = .ok (.iinc 5 1, 3) := by decide +kernel
theorem dX9_contextTotal_51 : decode cX9_contextTotal 51 = .ok (.goto (-22), 3) := by decide +kernel
theorem dX9_contextTotal_54 : decode cX9_contextTotal 54 = .ok (.iload 4, 2) := by decide +kernel
theorem dX9_contextTotal_56 : decode cX9_contextTotal 56 = .ok (.ireturn, 1) := by decide +kernel
theorem dX9_contextSymbols_0 : decode cX9_contextSymbols 0 = .ok (.aload_n 0, 1) := by decide +kernel
theorem dX9_contextSymbols_1 : decode cX9_contextSymbols 1 = .ok (.iload_n 1, 1) := by decide +kernel
theorem dX9_contextSymbols_2 : decode cX9_contextSymbols 2 = .ok (.iload_n 2, 1) := by decide +kernel
theorem dX9_contextSymbols_3 : decode cX9_contextSymbols 3 = .ok (.iload_n 3, 1) := by decide +kernel
theorem dX9_contextSymbols_4 : decode cX9_contextSymbols 4 = .ok (.invokevirtual 304, 3) := by decide +kernel
theorem dX9_contextSymbols_7 : decode cX9_contextSymbols 7 = .ok (.ifCond .eq 5, 3) := by decide +kernel
theorem dX9_contextSymbols_10 : decode cX9_contextSymbols 10 = .ok (.iconst 0, 1) := by decide +kernel
theorem dX9_contextSymbols_11 : decode cX9_contextSymbols 11 = .ok (.ireturn, 1) := by decide +kernel
theorem dX9_contextSymbols_12 : decode cX9_contextSymbols 12 = .ok (.aload_n 0, 1) := by decide +kernel
theorem dX9_contextSymbols_13 : decode cX9_contextSymbols 13 = .ok (.aload_n 0, 1) := by decide +kernel
theorem dX9_contextSymbols_14 : decode cX9_contextSymbols 14 = .ok (.getfield 7, 3) := by decide +kernel
theorem dX9_contextSymbols_17 : decode cX9_contextSymbols 17 = .ok (.iload_n 1, 1) := by decide +kernel
theorem dX9_contextSymbols_18 : decode cX9_contextSymbols 18 = .ok (.iload_n 2, 1) := by decide +kernel
theorem dX9_contextSymbols_19 : decode cX9_contextSymbols 19 = .ok (.iload_n 3, 1) := by decide +kernel
theorem dX9_contextSymbols_20 : decode cX9_contextSymbols 20 = .ok (.invokevirtual 135, 3) := by decide +kernel
theorem dX9_contextSymbols_23 : decode cX9_contextSymbols 23 = .ok (.iconst 0, 1) := by decide +kernel
theorem dX9_contextSymbols_24 : decode cX9_contextSymbols 24 = .ok (.istore 4, 2) := by decide +kernel
theorem dX9_contextSymbols_26 : decode cX9_contextSymbols 26 = .ok (.iconst 0, 1) := by decide +kernel
theorem dX9_contextSymbols_27 : decode cX9_contextSymbols 27 = .ok (.istore 5, 2) := by decide +kernel
theorem dX9_contextSymbols_29 : decode cX9_contextSymbols 29 = .ok (.iload 5, 2) := by decide +kernel
theorem dX9_contextSymbols_31 : decode cX9_contextSymbols 31 = .ok (.bipush 27, 2) := by decide +kernel
theorem dX9_contextSymbols_33 : decode cX9_contextSymbols 33 = .ok (.if_icmp .ge 29, 3) := by decide +kernel
theorem dX9_contextSymbols_36 : decode cX9_contextSymbols 36 = .ok (.iload 4, 2) := by decide +kernel
theorem dX9_contextSymbols_38 : decode cX9_contextSymbols 38 = .ok (.aload_n 0, 1) := by decide +kernel
theorem dX9_contextSymbols_39 : decode cX9_contextSymbols 39 = .ok (.getfield 30, 3) := by decide +kernel
theorem dX9_contextSymbols_42 : decode cX9_contextSymbols 42 = .ok (.iload 5, 2) := by decide +kernel
theorem dX9_contextSymbols_44 : decode cX9_contextSymbols 44 = .ok (.iaload, 1) := by decide +kernel
theorem dX9_contextSymbols_45 : decode cX9_contextSymbols 45 = .ok (.ifCond .le 7, 3) := by decide +kernel
theorem dX9_contextSymbols_48 : decode cX9_contextSymbols 48 = .ok (.iconst 1, 1) := by decide +kernel
theorem dX9_contextSymbols_49 : decode cX9_contextSymbols 49 = .ok (.goto 4, 3) := by decide +kernel
theorem dX9_contextSymbols_52 : decode cX9_contextSymbols 52 = .ok (.iconst 0, 1) := by decide +kernel
theorem dX9_contextSymbols_53 : decode cX9_contextSymbols 53 = .ok (.iadd, 1) := by decide +kernel
theorem dX9_contextSymbols_54 : decode cX9_contextSymbols 54 = .ok (.istore 4, 2) := by decide +kernel
theorem dX9_contextSymbols_56 : decode cX9_contextSymbols 56 = .ok (.iinc 5 1, 3) := by decide +kernel
theorem dX9_contextSymbols_59 : decode cX9_contextSymbols 59 = .ok (.goto (-30), 3) := by decide +kernel
theorem dX9_contextSymbols_62 : decode cX9_contextSymbols 62 = .ok (.iload 4, 2) := by decide +kernel
theorem dX9_contextSymbols_64 : decode cX9_contextSymbols 64 = .ok (.ireturn, 1) := by decide +kernel
theorem dX9_clearPairs_0 : decode cX9_clearPairs 0 = .ok (.iconst 0, 1) := by decide +kernel
theorem dX9_clearPairs_1 : decode cX9_clearPairs 1 = .ok (.istore_n 1, 1) := by decide +kernel
theorem dX9_clearPairs_2 : decode cX9_clearPairs 2 = .ok (.iload_n 1, 1) := by decide +kernel
theorem dX9_clearPairs_3 : decode cX9_clearPairs 3 = .ok (.sipush 729, 3) := by decide +kernel
theorem dX9_clearPairs_6 : decode cX9_clearPairs 6 = .ok (.if_icmp .ge 16, 3) := by decide +kernel
theorem dX9_clearPairs_9 : decode cX9_clearPairs 9 = .ok (.aload_n 0, 1) := by decide +kernel
theorem dX9_clearPairs_10 : decode cX9_clearPairs 10 = .ok (.getfield 49, 3) := by decide +kernel
theorem dX9_clearPairs_13 : decode cX9_clearPairs 13 = .ok (.iload_n 1, 1) := by decide +kernel
theorem dX9_clearPairs_14 : decode cX9_clearPairs 14 = .ok (.iconst 0, 1) := by decide +kernel
theorem dX9_clearPairs_15 : decode cX9_clearPairs 15 = .ok (.bastore, 1) := by decide +kernel
theorem dX9_clearPairs_16 : decode cX9_clearPairs 16 = .ok (.iinc 1 1, 3) := by decide +kernel
theorem dX9_clearPairs_19 : decode cX9_clearPairs 19 = .ok (.goto (-17), 3) := by decide +kernel
theorem dX9_clearPairs_22 : decode cX9_clearPairs 22 = .ok (.return_, 1) := by decide +kernel
theorem dX9_markPairs_0 : decode cX9_markPairs 0 = .ok (.iconst 0, 1) := by decide +kernel
theorem dX9_markPairs_1 : decode cX9_markPairs 1 = .ok (.istore_n 2, 1) := by decide +kernel
theorem dX9_markPairs_2 : decode cX9_markPairs 2 = .ok (.iload_n 2, 1) := by decide +kernel
theorem dX9_markPairs_3 : decode cX9_markPairs 3 = .ok (.aload_n 0, 1) := by decide +kernel
theorem dX9_markPairs_4 : decode cX9_markPairs 4 = .ok (.getfield 7, 3) := by decide +kernel
theorem dX9_markPairs_7 : decode cX9_markPairs 7 = .ok (.iload_n 1, 1) := by decide +kernel
theorem dX9_markPairs_8 : decode cX9_markPairs 8 = .ok (.invokestatic 92, 3) := by decide +kernel
theorem dX9_markPairs_11 : decode cX9_markPairs 11 = .ok (.bipush 11, 2) := by decide +kernel
theorem dX9_markPairs_13 : decode cX9_markPairs 13 = .ok (.iadd, 1) := by decide +kernel
theorem dX9_markPairs_14 : decode cX9_markPairs 14 = .ok (.iaload, 1) := by decide +kernel
theorem dX9_markPairs_15 : decode cX9_markPairs 15 = .ok (.if_icmp .ge 56, 3) := by decide +kernel
theorem dX9_markPairs_18 : decode cX9_markPairs 18 = .ok (.aload_n 0, 1) := by decide +kernel
theorem dX9_markPairs_19 : decode cX9_markPairs 19 = .ok (.getfield 7, 3) := by decide +kernel
theorem dX9_markPairs_22 : decode cX9_markPairs 22 = .ok (.iload_n 1, 1) := by decide +kernel
theorem dX9_markPairs_23 : decode cX9_markPairs 23 = .ok (.iload_n 2, 1) := by decide +kernel
theorem dX9_markPairs_24 : decode cX9_markPairs 24 = .ok (.invokestatic 95, 3) := by decide +kernel
theorem dX9_markPairs_27 : decode cX9_markPairs 27 = .ok (.iaload, 1) := by decide +kernel
theorem dX9_markPairs_28 : decode cX9_markPairs 28 = .ok (.istore_n 3, 1) := by decide +kernel
theorem dX9_markPairs_29 : decode cX9_markPairs 29 = .ok (.iload_n 3, 1) := by decide +kernel
theorem dX9_markPairs_30 : decode cX9_markPairs 30 = .ok (.sipush 756, 3) := by decide +kernel
theorem dX9_markPairs_33 : decode cX9_markPairs 33 = .ok (.if_icmp .lt 32, 3) := by decide +kernel
theorem dX9_markPairs_36 : decode cX9_markPairs 36 = .ok (.aload_n 0, 1) := by decide +kernel
theorem dX9_markPairs_37 : decode cX9_markPairs 37 = .ok (.getfield 7, 3) := by decide +kernel
theorem dX9_markPairs_40 : decode cX9_markPairs 40 = .ok (.iload_n 1, 1) := by decide +kernel
theorem dX9_markPairs_41 : decode cX9_markPairs 41 = .ok (.iload_n 2, 1) := by decide +kernel
theorem dX9_markPairs_42 : decode cX9_markPairs 42 = .ok (.invokestatic 95, 3) := by decide +kernel
theorem dX9_markPairs_45 : decode cX9_markPairs 45 = .ok (.iconst 1, 1) := by decide +kernel
theorem dX9_markPairs_46 : decode cX9_markPairs 46 = .ok (.iadd, 1) := by decide +kernel
theorem dX9_markPairs_47 : decode cX9_markPairs 47 = .ok (.iaload, 1) := by decide +kernel
theorem dX9_markPairs_48 : decode cX9_markPairs 48 = .ok (.ifCond .le 17, 3) := by decide +kernel
theorem dX9_markPairs_51 : decode cX9_markPairs 51 = .ok (.aload_n 0, 1) := by decide +kernel
theorem dX9_markPairs_52 : decode cX9_markPairs 52 = .ok (.getfield 49, 3) := by decide +kernel
theorem dX9_markPairs_55 : decode cX9_markPairs 55 = .ok (.iload_n 3, 1) := by decide +kernel
theorem dX9_markPairs_56 : decode cX9_markPairs 56 = .ok (.sipush 756, 3) := by decide +kernel
theorem dX9_markPairs_59 : decode cX9_markPairs 59 = .ok (.isub, 1) := by decide +kernel
theorem dX9_markPairs_60 : decode cX9_markPairs 60 = .ok (.bipush 27, 2) := by decide +kernel
theorem dX9_markPairs_62 : decode cX9_markPairs 62 = .ok (.idiv, 1) := by decide +kernel
theorem dX9_markPairs_63 : decode cX9_markPairs 63 = .ok (.iconst 1, 1) := by decide +kernel
theorem dX9_markPairs_64 : decode cX9_markPairs 64 = .ok (.bastore, 1) := by decide +kernel
theorem dX9_markPairs_65 : decode cX9_markPairs 65 = .ok (.iinc 2 1, 3) := by decide +kernel
theorem dX9_markPairs_68 : decode cX9_markPairs 68 = .ok (.goto (-66), 3) := by decide +kernel
theorem dX9_markPairs_71 : decode cX9_markPairs 71 = .ok (.return_, 1) := by decide +kernel
theorem dX9_order2Contexts_0 : decode cX9_order2Contexts 0 = .ok (.aload_n 0, 1) := by decide +kernel
theorem dX9_order2Contexts_1 : decode cX9_order2Contexts 1 = .ok (.iload_n 1, 1) := by decide +kernel
theorem dX9_order2Contexts_2 : decode cX9_order2Contexts 2 = .ok (.invokevirtual 295, 3) := by decide +kernel
theorem dX9_order2Contexts_5 : decode cX9_order2Contexts 5 = .ok (.ifCond .eq 5, 3) := by decide +kernel
theorem dX9_order2Contexts_8 : decode cX9_order2Contexts 8 = .ok (.iconst 0, 1) := by decide +kernel
theorem dX9_order2Contexts_9 : decode cX9_order2Contexts 9 = .ok (.ireturn, 1) := by decide +kernel
theorem dX9_order2Contexts_10 : decode cX9_order2Contexts 10 = .ok (.aload_n 0, 1) := by decide +kernel
theorem dX9_order2Contexts_11 : decode cX9_order2Contexts 11 = .ok (.invokevirtual 319, 3) := by decide +kernel
theorem dX9_order2Contexts_14 : decode cX9_order2Contexts 14 = .ok (.aload_n 0, 1) := by decide +kernel
theorem dX9_order2Contexts_15 : decode cX9_order2Contexts 15 = .ok (.iload_n 1, 1) := by decide +kernel
theorem dX9_order2Contexts_16 : decode cX9_order2Contexts 16 = .ok (.invokevirtual 322, 3) := by decide +kernel
theorem dX9_order2Contexts_19 : decode cX9_order2Contexts 19 = .ok (.iconst 0, 1) := by decide +kernel
theorem dX9_order2Contexts_20 : decode cX9_order2Contexts 20 = .ok (.istore_n 2, 1) := by decide +kernel
theorem dX9_order2Contexts_21 : decode cX9_order2Contexts 21 = .ok (.iconst 0, 1) := by decide +kernel
theorem dX9_order2Contexts_22 : decode cX9_order2Contexts 22 = .ok (.istore_n 3, 1) := by decide +kernel
theorem dX9_order2Contexts_23 : decode cX9_order2Contexts 23 = .ok (.iload_n 3, 1) := by decide +kernel
theorem dX9_order2Contexts_24 : decode cX9_order2Contexts 24 = .ok (.sipush 729, 3) := by decide +kernel
theorem dX9_order2Contexts_27 : decode cX9_order2Contexts 27 = .ok (.if_icmp .ge 26, 3) := by decide +kernel
theorem dX9_order2Contexts_30 : decode cX9_order2Contexts 30 = .ok (.iload_n 2, 1) := by decide +kernel
theorem dX9_order2Contexts_31 : decode cX9_order2Contexts 31 = .ok (.aload_n 0, 1) := by decide +kernel
theorem dX9_order2Contexts_32 : decode cX9_order2Contexts 32 = .ok (.getfield 49, 3) := by decide +kernel
theorem dX9_order2Contexts_35 : decode cX9_order2Contexts 35 = .ok (.iload_n 3, 1) := by decide +kernel
theorem dX9_order2Contexts_36 : decode cX9_order2Contexts 36 = .ok (.baload, 1) := by decide +kernel
theorem dX9_order2Contexts_37 : decode cX9_order2Contexts 37 = .ok (.ifCond .eq 7, 3) := by decide +kernel
theorem dX9_order2Contexts_40 : decode cX9_order2Contexts 40 = .ok (.iconst 1, 1) := by decide +kernel
theorem dX9_order2Contexts_41 : decode cX9_order2Contexts 41 = .ok (.goto 4, 3) := by decide +kernel
theorem dX9_order2Contexts_44 : decode cX9_order2Contexts 44 = .ok (.iconst 0, 1) := by decide +kernel
theorem dX9_order2Contexts_45 : decode cX9_order2Contexts 45 = .ok (.iadd, 1) := by decide +kernel
theorem dX9_order2Contexts_46 : decode cX9_order2Contexts 46 = .ok (.istore_n 2, 1) := by decide +kernel
theorem dX9_order2Contexts_47 : decode cX9_order2Contexts 47 = .ok (.iinc 3 1, 3) := by decide +kernel
theorem dX9_order2Contexts_50 : decode cX9_order2Contexts 50 = .ok (.goto (-27), 3) := by decide +kernel
theorem dX9_order2Contexts_53 : decode cX9_order2Contexts 53 = .ok (.iload_n 2, 1) := by decide +kernel
theorem dX9_order2Contexts_54 : decode cX9_order2Contexts 54 = .ok (.ireturn, 1) := by decide +kernel
theorem dX9_positiveCounts_0 : decode cX9_positiveCounts 0 = .ok (.aload_n 0, 1) := by decide +kernel
theorem dX9_positiveCounts_1 : decode cX9_positiveCounts 1 = .ok (.iload_n 1, 1) := by decide +kernel
theorem dX9_positiveCounts_2 : decode cX9_positiveCounts 2 = .ok (.invokevirtual 295, 3) := by decide +kernel
theorem dX9_positiveCounts_5 : decode cX9_positiveCounts 5 = .ok (.ifCond .eq 7, 3) := by decide +kernel
theorem dX9_positiveCounts_8 : decode cX9_positiveCounts 8 = .ok (.iconst 0, 1) := by decide +kernel
theorem dX9_positiveCounts_9 : decode cX9_positiveCounts 9 = .ok (.goto 11, 3) := by decide +kernel
theorem dX9_positiveCounts_12 : decode cX9_positiveCounts 12 = .ok (.aload_n 0, 1) := by decide +kernel
theorem dX9_positiveCounts_13 : decode cX9_positiveCounts 13 = .ok (.getfield 7, 3) := by decide +kernel
theorem dX9_positiveCounts_16 : decode cX9_positiveCounts 16 = .ok (.iload_n 1, 1) := by decide +kernel
theorem dX9_positiveCounts_17 : decode cX9_positiveCounts 17 = .ok (.invokestatic 325, 3) := by decide +kernel
theorem dX9_positiveCounts_20 : decode cX9_positiveCounts 20 = .ok (.ireturn, 1) := by decide +kernel
theorem dX9_timesTrained_0 : decode cX9_timesTrained 0 = .ok (.aload_n 0, 1) := by decide +kernel
theorem dX9_timesTrained_1 : decode cX9_timesTrained 1 = .ok (.iload_n 1, 1) := by decide +kernel
theorem dX9_timesTrained_2 : decode cX9_timesTrained 2 = .ok (.iload_n 2, 1) := by decide +kernel
theorem dX9_timesTrained_3 : decode cX9_timesTrained 3 = .ok (.invokevirtual 328, 3) := by decide +kernel
theorem dX9_timesTrained_6 : decode cX9_timesTrained 6 = .ok (.ifCond .eq 7, 3) := by decide +kernel
theorem dX9_timesTrained_9 : decode cX9_timesTrained 9 = .ok (.iconst 0, 1) := by decide +kernel
theorem dX9_timesTrained_10 : decode cX9_timesTrained 10 = .ok (.goto 16, 3) := by decide +kernel
theorem dX9_timesTrained_13 : decode cX9_timesTrained 13 = .ok (.aload_n 0, 1) := by decide +kernel
theorem dX9_timesTrained_14 : decode cX9_timesTrained 14 = .ok (.getfield 7, 3) := by decide +kernel
theorem dX9_timesTrained_17 : decode cX9_timesTrained 17 = .ok (.iload_n 1, 1) := by decide +kernel
theorem dX9_timesTrained_18 : decode cX9_timesTrained 18 = .ok (.invokestatic 92, 3) := by decide +kernel
theorem dX9_timesTrained_21 : decode cX9_timesTrained 21 = .ok (.iconst 3, 1) := by decide +kernel
theorem dX9_timesTrained_22 : decode cX9_timesTrained 22 = .ok (.iadd, 1) := by decide +kernel
theorem dX9_timesTrained_23 : decode cX9_timesTrained 23 = .ok (.iload_n 2, 1) := by decide +kernel
theorem dX9_timesTrained_24 : decode cX9_timesTrained 24 = .ok (.iadd, 1) := by decide +kernel
theorem dX9_timesTrained_25 : decode cX9_timesTrained 25 = .ok (.iaload, 1) := by decide +kernel
theorem dX9_timesTrained_26 : decode cX9_timesTrained 26 = .ok (.ireturn, 1) := by decide +kernel
theorem dX9_trainedSymbols_0 : decode cX9_trainedSymbols 0 = .ok (.aload_n 0, 1) := by decide +kernel
theorem dX9_trainedSymbols_1 : decode cX9_trainedSymbols 1 = .ok (.iload_n 1, 1) := by decide +kernel
theorem dX9_trainedSymbols_2 : decode cX9_trainedSymbols 2 = .ok (.invokevirtual 295, 3) := by decide +kernel
theorem dX9_trainedSymbols_5 : decode cX9_trainedSymbols 5 = .ok (.ifCond .eq 7, 3) := by decide +kernel
theorem dX9_trainedSymbols_8 : decode cX9_trainedSymbols 8 = .ok (.iconst 0, 1) := by decide +kernel
theorem dX9_trainedSymbols_9 : decode cX9_trainedSymbols 9 = .ok (.goto 14, 3) := by decide +kernel
theorem dX9_trainedSymbols_12 : decode cX9_trainedSymbols 12 = .ok (.aload_n 0, 1) := by decide +kernel
theorem dX9_trainedSymbols_13 : decode cX9_trainedSymbols 13 = .ok (.getfield 7, 3) := by decide +kernel
theorem dX9_trainedSymbols_16 : decode cX9_trainedSymbols 16 = .ok (.iload_n 1, 1) := by decide +kernel
theorem dX9_trainedSymbols_17 : decode cX9_trainedSymbols 17 = .ok (.invokestatic 92, 3) := by decide +kernel
theorem dX9_trainedSymbols_20 : decode cX9_trainedSymbols 20 = .ok (.iconst 2, 1) := by decide +kernel
theorem dX9_trainedSymbols_21 : decode cX9_trainedSymbols 21 = .ok (.iadd, 1) := by decide +kernel
theorem dX9_trainedSymbols_22 : decode cX9_trainedSymbols 22 = .ok (.iaload, 1) := by decide +kernel
theorem dX9_trainedSymbols_23 : decode cX9_trainedSymbols 23 = .ok (.ireturn, 1) := by decide +kernel
theorem dX9_trainingGap_0 : decode cX9_trainingGap 0 = .ok (.aload_n 0, 1) := by decide +kernel
theorem dX9_trainingGap_1 : decode cX9_trainingGap 1 = .ok (.iload_n 1, 1) := by decide +kernel
theorem dX9_trainingGap_2 : decode cX9_trainingGap 2 = .ok (.invokevirtual 295, 3) := by decide +kernel
theorem dX9_trainingGap_5 : decode cX9_trainingGap 5 = .ok (.ifCond .eq 5, 3) := by decide +kernel
theorem dX9_trainingGap_8 : decode cX9_trainingGap 8 = .ok (.iconst 0, 1) := by decide +kernel
theorem dX9_trainingGap_9 : decode cX9_trainingGap 9 = .ok (.ireturn, 1) := by decide +kernel
theorem dX9_trainingGap_10 : decode cX9_trainingGap 10 = .ok (.aload_n 0, 1) := by decide +kernel
theorem dX9_trainingGap_11 : decode cX9_trainingGap 11 = .ok (.getfield 7, 3) := by decide +kernel
theorem dX9_trainingGap_14 : decode cX9_trainingGap 14 = .ok (.iload_n 1, 1) := by decide +kernel
theorem dX9_trainingGap_15 : decode cX9_trainingGap 15 = .ok (.invokestatic 92, 3) := by decide +kernel
theorem dX9_trainingGap_18 : decode cX9_trainingGap 18 = .ok (.iconst 2, 1) := by decide +kernel
theorem dX9_trainingGap_19 : decode cX9_trainingGap 19 = .ok (.iadd, 1) := by decide +kernel
theorem dX9_trainingGap_20 : decode cX9_trainingGap 20 = .ok (.iaload, 1) := by decide +kernel
theorem dX9_trainingGap_21 : decode cX9_trainingGap 21 = .ok (.istore_n 2, 1) := by decide +kernel
theorem dX9_trainingGap_22 : decode cX9_trainingGap 22 = .ok (.iconst 0, 1) := by decide +kernel
theorem dX9_trainingGap_23 : decode cX9_trainingGap 23 = .ok (.istore_n 3, 1) := by decide +kernel
theorem dX9_trainingGap_24 : decode cX9_trainingGap 24 = .ok (.iload_n 3, 1) := by decide +kernel
theorem dX9_trainingGap_25 : decode cX9_trainingGap 25 = .ok (.aload_n 0, 1) := by decide +kernel
theorem dX9_trainingGap_26 : decode cX9_trainingGap 26 = .ok (.getfield 7, 3) := by decide +kernel
theorem dX9_trainingGap_29 : decode cX9_trainingGap 29 = .ok (.iconst 1, 1) := by decide +kernel
theorem dX9_trainingGap_30 : decode cX9_trainingGap 30 = .ok (.iaload, 1) := by decide +kernel
theorem dX9_trainingGap_31 : decode cX9_trainingGap 31 = .ok (.if_icmp .ge 34, 3) := by decide +kernel
theorem dX9_trainingGap_34 : decode cX9_trainingGap 34 = .ok (.iload_n 2, 1) := by decide +kernel
theorem dX9_trainingGap_35 : decode cX9_trainingGap 35 = .ok (.aload_n 0, 1) := by decide +kernel
theorem dX9_trainingGap_36 : decode cX9_trainingGap 36 = .ok (.getfield 7, 3) := by decide +kernel
theorem dX9_trainingGap_39 : decode cX9_trainingGap 39 = .ok (.iload_n 1, 1) := by decide +kernel
theorem dX9_trainingGap_40 : decode cX9_trainingGap 40 = .ok (.invokestatic 92, 3) := by decide +kernel
theorem dX9_trainingGap_43 : decode cX9_trainingGap 43 = .ok (.iconst 3, 1) := by decide +kernel
theorem dX9_trainingGap_44 : decode cX9_trainingGap 44 = .ok (.iadd, 1) := by decide +kernel
theorem dX9_trainingGap_45 : decode cX9_trainingGap 45 = .ok (.iload_n 3, 1) := by decide +kernel
theorem dX9_trainingGap_46 : decode cX9_trainingGap 46 = .ok (.iadd, 1) := by decide +kernel
theorem dX9_trainingGap_47 : decode cX9_trainingGap 47 = .ok (.iaload, 1) := by decide +kernel
theorem dX9_trainingGap_48 : decode cX9_trainingGap 48 = .ok (.aload_n 0, 1) := by decide +kernel
theorem dX9_trainingGap_49 : decode cX9_trainingGap 49 = .ok (.getfield 7, 3) := by decide +kernel
theorem dX9_trainingGap_52 : decode cX9_trainingGap 52 = .ok (.iload_n 3, 1) := by decide +kernel
theorem dX9_trainingGap_53 : decode cX9_trainingGap 53 = .ok (.invokestatic 114, 3) := by decide +kernel
theorem dX9_trainingGap_56 : decode cX9_trainingGap 56 = .ok (.imul, 1) := by decide +kernel
theorem dX9_trainingGap_57 : decode cX9_trainingGap 57 = .ok (.isub, 1) := by decide +kernel
theorem dX9_trainingGap_58 : decode cX9_trainingGap 58 = .ok (.istore_n 2, 1) := by decide +kernel
theorem dX9_trainingGap_59 : decode cX9_trainingGap 59 = .ok (.iinc 3 1, 3) := by decide +kernel
theorem dX9_trainingGap_62 : decode cX9_trainingGap 62 = .ok (.goto (-38), 3) := by decide +kernel
theorem dX9_trainingGap_65 : decode cX9_trainingGap 65 = .ok (.iload_n 2, 1) := by decide +kernel
theorem dX9_trainingGap_66 : decode cX9_trainingGap 66 = .ok (.ireturn, 1) := by decide +kernel
theorem dX9_symbolAtRank_0 : decode cX9_symbolAtRank 0 = .ok (.aload_n 0, 1) := by decide +kernel
theorem dX9_symbolAtRank_1 : decode cX9_symbolAtRank 1 = .ok (.iload_n 1, 1) := by decide +kernel
theorem dX9_symbolAtRank_2 : decode cX9_symbolAtRank 2 = .ok (.iload_n 2, 1) := by decide +kernel
theorem dX9_symbolAtRank_3 : decode cX9_symbolAtRank 3 = .ok (.iload_n 3, 1) := by decide +kernel
theorem dX9_symbolAtRank_4 : decode cX9_symbolAtRank 4 = .ok (.invokevirtual 304, 3) := by decide +kernel
theorem dX9_symbolAtRank_7 : decode cX9_symbolAtRank 7 = .ok (.ifCond .ne 15, 3) := by decide +kernel
theorem dX9_symbolAtRank_10 : decode cX9_symbolAtRank 10 = .ok (.aload_n 0, 1) := by decide +kernel
theorem dX9_symbolAtRank_11 : decode cX9_symbolAtRank 11 = .ok (.iload 4, 2) := by decide +kernel
theorem dX9_symbolAtRank_13 : decode cX9_symbolAtRank 13 = .ok (.iconst 1, 1) := by decide +kernel
theorem dX9_symbolAtRank_14 : decode cX9_symbolAtRank 14 = .ok (.bipush 27, 2) := by decide +kernel
theorem dX9_symbolAtRank_16 : decode cX9_symbolAtRank 16 = .ok (.invokevirtual 301, 3) := by decide +kernel
theorem dX9_symbolAtRank_19 : decode cX9_symbolAtRank 19 = .ok (.ifCond .eq 5, 3) := by decide +kernel
theorem dX9_symbolAtRank_22 : decode cX9_symbolAtRank 22 = .ok (.iconst 0, 1) := by decide +kernel
theorem dX9_symbolAtRank_23 : decode cX9_symbolAtRank 23 = .ok (.ireturn, 1) := by decide +kernel
theorem dX9_symbolAtRank_24 : decode cX9_symbolAtRank 24 = .ok (.aload_n 0, 1) := by decide +kernel
theorem dX9_symbolAtRank_25 : decode cX9_symbolAtRank 25 = .ok (.aload_n 0, 1) := by decide +kernel
theorem dX9_symbolAtRank_26 : decode cX9_symbolAtRank 26 = .ok (.getfield 7, 3) := by decide +kernel
theorem dX9_symbolAtRank_29 : decode cX9_symbolAtRank 29 = .ok (.iload_n 1, 1) := by decide +kernel
theorem dX9_symbolAtRank_30 : decode cX9_symbolAtRank 30 = .ok (.iload_n 2, 1) := by decide +kernel
theorem dX9_symbolAtRank_31 : decode cX9_symbolAtRank 31 = .ok (.iload_n 3, 1) := by decide +kernel
theorem dX9_symbolAtRank_32 : decode cX9_symbolAtRank 32 = .ok (.invokevirtual 145, 3) := by decide +kernel
theorem dX9_symbolAtRank_35 : decode cX9_symbolAtRank 35 = .ok (.aload_n 0, 1) := by decide +kernel
theorem dX9_symbolAtRank_36 : decode cX9_symbolAtRank 36 = .ok (.getfield 33, 3) := by decide +kernel
theorem dX9_symbolAtRank_39 : decode cX9_symbolAtRank 39 = .ok (.iload 4, 2) := by decide +kernel
theorem dX9_symbolAtRank_41 : decode cX9_symbolAtRank 41 = .ok (.iconst 1, 1) := by decide +kernel
theorem dX9_symbolAtRank_42 : decode cX9_symbolAtRank 42 = .ok (.isub, 1) := by decide +kernel
theorem dX9_symbolAtRank_43 : decode cX9_symbolAtRank 43 = .ok (.iaload, 1) := by decide +kernel
theorem dX9_symbolAtRank_44 : decode cX9_symbolAtRank 44 = .ok (.ireturn, 1) := by decide +kernel
theorem dX9_rank_0 : decode cX9_rank 0 = .ok (.aload_n 0, 1) := by decide +kernel
theorem dX9_rank_1 : decode cX9_rank 1 = .ok (.iload_n 1, 1) := by decide +kernel
theorem dX9_rank_2 : decode cX9_rank 2 = .ok (.iload_n 2, 1) := by decide +kernel
theorem dX9_rank_3 : decode cX9_rank 3 = .ok (.iload_n 3, 1) := by decide +kernel
theorem dX9_rank_4 : decode cX9_rank 4 = .ok (.iload 4, 2) := by decide +kernel
theorem dX9_rank_6 : decode cX9_rank 6 = .ok (.invokevirtual 331, 3) := by decide +kernel
theorem dX9_rank_9 : decode cX9_rank 9 = .ok (.ifCond .eq 5, 3) := by decide +kernel
theorem dX9_rank_12 : decode cX9_rank 12 = .ok (.iconst 0, 1) := by decide +kernel
theorem dX9_rank_13 : decode cX9_rank 13 = .ok (.ireturn, 1) := by decide +kernel
theorem dX9_rank_14 : decode cX9_rank 14 = .ok (.aload_n 0, 1) := by decide +kernel
theorem dX9_rank_15 : decode cX9_rank 15 = .ok (.aload_n 0, 1) := by decide +kernel
theorem dX9_rank_16 : decode cX9_rank 16 = .ok (.getfield 7, 3) := by decide +kernel
theorem dX9_rank_19 : decode cX9_rank 19 = .ok (.iload_n 1, 1) := by decide +kernel
theorem dX9_rank_20 : decode cX9_rank 20 = .ok (.iload_n 2, 1) := by decide +kernel
theorem dX9_rank_21 : decode cX9_rank 21 = .ok (.iload_n 3, 1) := by decide +kernel
theorem dX9_rank_22 : decode cX9_rank 22 = .ok (.invokevirtual 145, 3) := by decide +kernel
theorem dX9_rank_25 : decode cX9_rank 25 = .ok (.aload_n 0, 1) := by decide +kernel
theorem dX9_rank_26 : decode cX9_rank 26 = .ok (.getfield 36, 3) := by decide +kernel
theorem dX9_rank_29 : decode cX9_rank 29 = .ok (.iload 4, 2) := by decide +kernel
theorem dX9_rank_31 : decode cX9_rank 31 = .ok (.iaload, 1) := by decide +kernel
theorem dX9_rank_32 : decode cX9_rank 32 = .ok (.ireturn, 1) := by decide +kernel
theorem dX9_foundOrder_0 : decode cX9_foundOrder 0 = .ok (.aload_n 0, 1) := by decide +kernel
theorem dX9_foundOrder_1 : decode cX9_foundOrder 1 = .ok (.iload_n 1, 1) := by decide +kernel
theorem dX9_foundOrder_2 : decode cX9_foundOrder 2 = .ok (.iload_n 2, 1) := by decide +kernel
theorem dX9_foundOrder_3 : decode cX9_foundOrder 3 = .ok (.iload_n 3, 1) := by decide +kernel
theorem dX9_foundOrder_4 : decode cX9_foundOrder 4 = .ok (.iload 4, 2) := by decide +kernel
theorem dX9_foundOrder_6 : decode cX9_foundOrder 6 = .ok (.invokevirtual 331, 3) := by decide +kernel
theorem dX9_foundOrder_9 : decode cX9_foundOrder 9 = .ok (.ifCond .eq 7, 3) := by decide +kernel
theorem dX9_foundOrder_12 : decode cX9_foundOrder 12 = .ok (.iconst 0, 1) := by decide +kernel
theorem dX9_foundOrder_13 : decode cX9_foundOrder 13 = .ok (.goto 16, 3) := by decide +kernel
theorem dX9_foundOrder_16 : decode cX9_foundOrder 16 = .ok (.aload_n 0, 1) := by decide +kernel
theorem dX9_foundOrder_17 : decode cX9_foundOrder 17 = .ok (.aload_n 0, 1) := by decide +kernel
theorem dX9_foundOrder_18 : decode cX9_foundOrder 18 = .ok (.getfield 7, 3) := by decide +kernel
theorem dX9_foundOrder_21 : decode cX9_foundOrder 21 = .ok (.iload_n 1, 1) := by decide +kernel
theorem dX9_foundOrder_22 : decode cX9_foundOrder 22 = .ok (.iload_n 2, 1) := by decide +kernel
theorem dX9_foundOrder_23 : decode cX9_foundOrder 23 = .ok (.iload_n 3, 1) := by decide +kernel
theorem dX9_foundOrder_24 : decode cX9_foundOrder 24 = .ok (.iload 4, 2) := by decide +kernel
theorem dX9_foundOrder_26 : decode cX9_foundOrder 26 = .ok (.invokevirtual 335, 3) := by decide +kernel
theorem dX9_foundOrder_29 : decode cX9_foundOrder 29 = .ok (.ireturn, 1) := by decide +kernel
theorem dX9_escapes_0 : decode cX9_escapes 0 = .ok (.aload_n 0, 1) := by decide +kernel
theorem dX9_escapes_1 : decode cX9_escapes 1 = .ok (.iload_n 1, 1) := by decide +kernel
theorem dX9_escapes_2 : decode cX9_escapes 2 = .ok (.iload_n 2, 1) := by decide +kernel
theorem dX9_escapes_3 : decode cX9_escapes 3 = .ok (.iload_n 3, 1) := by decide +kernel
theorem dX9_escapes_4 : decode cX9_escapes 4 = .ok (.iload 4, 2) := by decide +kernel
theorem dX9_escapes_6 : decode cX9_escapes 6 = .ok (.invokevirtual 331, 3) := by decide +kernel
theorem dX9_escapes_9 : decode cX9_escapes 9 = .ok (.ifCond .eq 5, 3) := by decide +kernel
theorem dX9_escapes_12 : decode cX9_escapes 12 = .ok (.iconst 0, 1) := by decide +kernel
theorem dX9_escapes_13 : decode cX9_escapes 13 = .ok (.ireturn, 1) := by decide +kernel
theorem dX9_escapes_14 : decode cX9_escapes 14 = .ok (.aload_n 0, 1) := by decide +kernel
theorem dX9_escapes_15 : decode cX9_escapes 15 = .ok (.iload_n 1, 1) := by decide +kernel
theorem dX9_escapes_16 : decode cX9_escapes 16 = .ok (.iload_n 2, 1) := by decide +kernel
theorem dX9_escapes_17 : decode cX9_escapes 17 = .ok (.iload_n 3, 1) := by decide +kernel
theorem dX9_escapes_18 : decode cX9_escapes 18 = .ok (.iload 4, 2) := by decide +kernel
theorem dX9_escapes_20 : decode cX9_escapes 20 = .ok (.invokevirtual 339, 3) := by decide +kernel
theorem dX9_escapes_23 : decode cX9_escapes 23 = .ok (.aload_n 0, 1) := by decide +kernel
theorem dX9_escapes_24 : decode cX9_escapes 24 = .ok (.getfield 173, 3) := by decide +kernel
theorem dX9_escapes_27 : decode cX9_escapes 27 = .ok (.ireturn, 1) := by decide +kernel
theorem dX9_numerator_0 : decode cX9_numerator 0 = .ok (.aload_n 0, 1) := by decide +kernel
theorem dX9_numerator_1 : decode cX9_numerator 1 = .ok (.iload_n 1, 1) := by decide +kernel
theorem dX9_numerator_2 : decode cX9_numerator 2 = .ok (.iload_n 2, 1) := by decide +kernel
theorem dX9_numerator_3 : decode cX9_numerator 3 = .ok (.iload_n 3, 1) := by decide +kernel
theorem dX9_numerator_4 : decode cX9_numerator 4 = .ok (.iload 4, 2) := by decide +kernel
theorem dX9_numerator_6 : decode cX9_numerator 6 = .ok (.invokevirtual 331, 3) := by decide +kernel
theorem dX9_numerator_9 : decode cX9_numerator 9 = .ok (.ifCond .eq 5, 3) := by decide +kernel
theorem dX9_numerator_12 : decode cX9_numerator 12 = .ok (.lconst 0, 1) := by decide +kernel
theorem dX9_numerator_13 : decode cX9_numerator 13 = .ok (.lreturn, 1) := by decide +kernel
theorem dX9_numerator_14 : decode cX9_numerator 14 = .ok (.aload_n 0, 1) := by decide +kernel
theorem dX9_numerator_15 : decode cX9_numerator 15 = .ok (.iload_n 1, 1) := by decide +kernel
theorem dX9_numerator_16 : decode cX9_numerator 16 = .ok (.iload_n 2, 1) := by decide +kernel
theorem dX9_numerator_17 : decode cX9_numerator 17 = .ok (.iload_n 3, 1) := by decide +kernel
theorem dX9_numerator_18 : decode cX9_numerator 18 = .ok (.iload 4, 2) := by decide +kernel
theorem dX9_numerator_20 : decode cX9_numerator 20 = .ok (.invokevirtual 339, 3) := by decide +kernel
theorem dX9_numerator_23 : decode cX9_numerator 23 = .ok (.aload_n 0, 1) := by decide +kernel
theorem dX9_numerator_24 : decode cX9_numerator 24 = .ok (.getfield 152, 3) := by decide +kernel
theorem dX9_numerator_27 : decode cX9_numerator 27 = .ok (.lreturn, 1) := by decide +kernel
theorem dX9_denominator_0 : decode cX9_denominator 0 = .ok (.aload_n 0, 1) := by decide +kernel
theorem dX9_denominator_1 : decode cX9_denominator 1 = .ok (.iload_n 1, 1) := by decide +kernel
theorem dX9_denominator_2 : decode cX9_denominator 2 = .ok (.iload_n 2, 1) := by decide +kernel
theorem dX9_denominator_3 : decode cX9_denominator 3 = .ok (.iload_n 3, 1) := by decide +kernel
theorem dX9_denominator_4 : decode cX9_denominator 4 = .ok (.iload 4, 2) := by decide +kernel
theorem dX9_denominator_6 : decode cX9_denominator 6 = .ok (.invokevirtual 331, 3) := by decide +kernel
theorem dX9_denominator_9 : decode cX9_denominator 9 = .ok (.ifCond .eq 5, 3) := by decide +kernel
theorem dX9_denominator_12 : decode cX9_denominator 12 = .ok (.lconst 0, 1) := by decide +kernel
theorem dX9_denominator_13 : decode cX9_denominator 13 = .ok (.lreturn, 1) := by decide +kernel
theorem dX9_denominator_14 : decode cX9_denominator 14 = .ok (.aload_n 0, 1) := by decide +kernel
theorem dX9_denominator_15 : decode cX9_denominator 15 = .ok (.iload_n 1, 1) := by decide +kernel
theorem dX9_denominator_16 : decode cX9_denominator 16 = .ok (.iload_n 2, 1) := by decide +kernel
theorem dX9_denominator_17 : decode cX9_denominator 17 = .ok (.iload_n 3, 1) := by decide +kernel
theorem dX9_denominator_18 : decode cX9_denominator 18 = .ok (.iload 4, 2) := by decide +kernel
theorem dX9_denominator_20 : decode cX9_denominator 20 = .ok (.invokevirtual 339, 3) := by decide +kernel
theorem dX9_denominator_23 : decode cX9_denominator 23 = .ok (.aload_n 0, 1) := by decide +kernel
theorem dX9_denominator_24 : decode cX9_denominator 24 = .ok (.getfield 156, 3) := by decide +kernel
theorem dX9_denominator_27 : decode cX9_denominator 27 = .ok (.lreturn, 1) := by decide +kernel
theorem dX9_probability_0 : decode cX9_probability 0 = .ok (.aload_n 0, 1) := by decide +kernel
theorem dX9_probability_1 : decode cX9_probability 1 = .ok (.iload_n 1, 1) := by decide +kernel
theorem dX9_probability_2 : decode cX9_probability 2 = .ok (.iload_n 2, 1) := by decide +kernel
theorem dX9_probability_3 : decode cX9_probability 3 = .ok (.iload_n 3, 1) := by decide +kernel
theorem dX9_probability_4 : decode cX9_probability 4 = .ok (.iload 4, 2) := by decide +kernel
theorem dX9_probability_6 : decode cX9_probability 6 = .ok (.invokevirtual 331, 3) := by decide +kernel
theorem dX9_probability_9 : decode cX9_probability 9 = .ok (.ifCond .eq 5, 3) := by decide +kernel
theorem dX9_probability_12 : decode cX9_probability 12 = .ok (.dconst 0, 1) := by decide +kernel
theorem dX9_probability_13 : decode cX9_probability 13 = .ok (.dreturn, 1) := by decide +kernel
theorem dX9_probability_14 : decode cX9_probability 14 = .ok (.aload_n 0, 1) := by decide +kernel
theorem dX9_probability_15 : decode cX9_probability 15 = .ok (.iload_n 1, 1) := by decide +kernel
theorem dX9_probability_16 : decode cX9_probability 16 = .ok (.iload_n 2, 1) := by decide +kernel
theorem dX9_probability_17 : decode cX9_probability 17 = .ok (.iload_n 3, 1) := by decide +kernel
theorem dX9_probability_18 : decode cX9_probability 18 = .ok (.iload 4, 2) := by decide +kernel
theorem dX9_probability_20 : decode cX9_probability 20 = .ok (.invokevirtual 339, 3) := by decide +kernel
theorem dX9_probability_23 : decode cX9_probability 23 = .ok (.aload_n 0, 1) := by decide +kernel
theorem dX9_probability_24 : decode cX9_probability 24 = .ok (.getfield 152, 3) := by decide +kernel
theorem dX9_probability_27 : decode cX9_probability 27 = .ok (.l2d, 1) := by decide +kernel
theorem dX9_probability_28 : decode cX9_probability 28 = .ok (.aload_n 0, 1) := by decide +kernel
theorem dX9_probability_29 : decode cX9_probability 29 = .ok (.getfield 156, 3) := by decide +kernel
theorem dX9_probability_32 : decode cX9_probability 32 = .ok (.l2d, 1) := by decide +kernel
theorem dX9_probability_33 : decode cX9_probability 33 = .ok (.ddiv, 1) := by decide +kernel
theorem dX9_probability_34 : decode cX9_probability 34 = .ok (.dreturn, 1) := by decide +kernel
theorem dX9_codeLength_0 : decode cX9_codeLength 0 = .ok (.aload_n 0, 1) := by decide +kernel
theorem dX9_codeLength_1 : decode cX9_codeLength 1 = .ok (.iload_n 1, 1) := by decide +kernel
theorem dX9_codeLength_2 : decode cX9_codeLength 2 = .ok (.iload_n 2, 1) := by decide +kernel
theorem dX9_codeLength_3 : decode cX9_codeLength 3 = .ok (.iload_n 3, 1) := by decide +kernel
theorem dX9_codeLength_4 : decode cX9_codeLength 4 = .ok (.iload 4, 2) := by decide +kernel
theorem dX9_codeLength_6 : decode cX9_codeLength 6 = .ok (.invokevirtual 331, 3) := by decide +kernel
theorem dX9_codeLength_9 : decode cX9_codeLength 9 = .ok (.ifCond .eq 5, 3) := by decide +kernel
theorem dX9_codeLength_12 : decode cX9_codeLength 12 = .ok (.iconst 0, 1) := by decide +kernel
theorem dX9_codeLength_13 : decode cX9_codeLength 13 = .ok (.ireturn, 1) := by decide +kernel
theorem dX9_codeLength_14 : decode cX9_codeLength 14 = .ok (.aload_n 0, 1) := by decide +kernel
theorem dX9_codeLength_15 : decode cX9_codeLength 15 = .ok (.iload_n 1, 1) := by decide +kernel
theorem dX9_codeLength_16 : decode cX9_codeLength 16 = .ok (.iload_n 2, 1) := by decide +kernel
theorem dX9_codeLength_17 : decode cX9_codeLength 17 = .ok (.iload_n 3, 1) := by decide +kernel
theorem dX9_codeLength_18 : decode cX9_codeLength 18 = .ok (.iload 4, 2) := by decide +kernel
theorem dX9_codeLength_20 : decode cX9_codeLength 20 = .ok (.invokevirtual 339, 3) := by decide +kernel
theorem dX9_codeLength_23 : decode cX9_codeLength 23 = .ok (.aload_n 0, 1) := by decide +kernel
theorem dX9_codeLength_24 : decode cX9_codeLength 24 = .ok (.invokevirtual 342, 3) := by decide +kernel
theorem dX9_codeLength_27 : decode cX9_codeLength 27 = .ok (.ireturn, 1) := by decide +kernel
theorem dX9_rankAt_0 : decode cX9_rankAt 0 = .ok (.aload_n 0, 1) := by decide +kernel
theorem dX9_rankAt_1 : decode cX9_rankAt 1 = .ok (.iload_n 1, 1) := by decide +kernel
theorem dX9_rankAt_2 : decode cX9_rankAt 2 = .ok (.iload_n 2, 1) := by decide +kernel
theorem dX9_rankAt_3 : decode cX9_rankAt 3 = .ok (.invokevirtual 328, 3) := by decide +kernel
theorem dX9_rankAt_6 : decode cX9_rankAt 6 = .ok (.ifCond .ne 22, 3) := by decide +kernel
theorem dX9_rankAt_9 : decode cX9_rankAt 9 = .ok (.aload_n 0, 1) := by decide +kernel
theorem dX9_rankAt_10 : decode cX9_rankAt 10 = .ok (.iload_n 3, 1) := by decide +kernel
theorem dX9_rankAt_11 : decode cX9_rankAt 11 = .ok (.iconst 0, 1) := by decide +kernel
theorem dX9_rankAt_12 : decode cX9_rankAt 12 = .ok (.aload_n 0, 1) := by decide +kernel
theorem dX9_rankAt_13 : decode cX9_rankAt 13 = .ok (.getfield 7, 3) := by decide +kernel
theorem dX9_rankAt_16 : decode cX9_rankAt 16 = .ok (.iload_n 2, 1) := by decide +kernel
theorem dX9_rankAt_17 : decode cX9_rankAt 17 = .ok (.invokestatic 114, 3) := by decide +kernel
theorem dX9_rankAt_20 : decode cX9_rankAt 20 = .ok (.iconst 1, 1) := by decide +kernel
theorem dX9_rankAt_21 : decode cX9_rankAt 21 = .ok (.isub, 1) := by decide +kernel
theorem dX9_rankAt_22 : decode cX9_rankAt 22 = .ok (.invokevirtual 301, 3) := by decide +kernel
theorem dX9_rankAt_25 : decode cX9_rankAt 25 = .ok (.ifCond .eq 7, 3) := by decide +kernel
theorem dX9_rankAt_28 : decode cX9_rankAt 28 = .ok (.iconst 0, 1) := by decide +kernel
theorem dX9_rankAt_29 : decode cX9_rankAt 29 = .ok (.goto 14, 3) := by decide +kernel
theorem dX9_rankAt_32 : decode cX9_rankAt 32 = .ok (.aload_n 0, 1) := by decide +kernel
theorem dX9_rankAt_33 : decode cX9_rankAt 33 = .ok (.aload_n 0, 1) := by decide +kernel
theorem dX9_rankAt_34 : decode cX9_rankAt 34 = .ok (.getfield 7, 3) := by decide +kernel
theorem dX9_rankAt_37 : decode cX9_rankAt 37 = .ok (.iload_n 1, 1) := by decide +kernel
theorem dX9_rankAt_38 : decode cX9_rankAt 38 = .ok (.iload_n 2, 1) := by decide +kernel
theorem dX9_rankAt_39 : decode cX9_rankAt 39 = .ok (.iload_n 3, 1) := by decide +kernel
theorem dX9_rankAt_40 : decode cX9_rankAt 40 = .ok (.invokevirtual 148, 3) := by decide +kernel
theorem dX9_rankAt_43 : decode cX9_rankAt 43 = .ok (.ireturn, 1) := by decide +kernel
theorem dX9_totalGuesses_0 : decode cX9_totalGuesses 0 = .ok (.aload_n 0, 1) := by decide +kernel
theorem dX9_totalGuesses_1 : decode cX9_totalGuesses 1 = .ok (.iload_n 1, 1) := by decide +kernel
theorem dX9_totalGuesses_2 : decode cX9_totalGuesses 2 = .ok (.iload_n 2, 1) := by decide +kernel
theorem dX9_totalGuesses_3 : decode cX9_totalGuesses 3 = .ok (.invokevirtual 328, 3) := by decide +kernel
theorem dX9_totalGuesses_6 : decode cX9_totalGuesses 6 = .ok (.ifCond .eq 7, 3) := by decide +kernel
theorem dX9_totalGuesses_9 : decode cX9_totalGuesses 9 = .ok (.iconst 0, 1) := by decide +kernel
theorem dX9_totalGuesses_10 : decode cX9_totalGuesses 10 = .ok (.goto 13, 3) := by decide +kernel
theorem dX9_totalGuesses_13 : decode cX9_totalGuesses 13 = .ok (.aload_n 0, 1) := by decide +kernel
theorem dX9_totalGuesses_14 : decode cX9_totalGuesses 14 = .ok (.aload_n 0, 1) := by decide +kernel
theorem dX9_totalGuesses_15 : decode cX9_totalGuesses 15 = .ok (.getfield 7, 3) := by decide +kernel
theorem dX9_totalGuesses_18 : decode cX9_totalGuesses 18 = .ok (.iload_n 1, 1) := by decide +kernel
theorem dX9_totalGuesses_19 : decode cX9_totalGuesses 19 = .ok (.iload_n 2, 1) := by decide +kernel
theorem dX9_totalGuesses_20 : decode cX9_totalGuesses 20 = .ok (.invokevirtual 345, 3) := by decide +kernel
theorem dX9_totalGuesses_23 : decode cX9_totalGuesses 23 = .ok (.ireturn, 1) := by decide +kernel
theorem dX9_learnAll_0 : decode cX9_learnAll 0 = .ok (.iconst 0, 1) := by decide +kernel
theorem dX9_learnAll_1 : decode cX9_learnAll 1 = .ok (.istore 4, 2) := by decide +kernel
theorem dX9_learnAll_3 : decode cX9_learnAll 3 = .ok (.iconst 0, 1) := by decide +kernel
theorem dX9_learnAll_4 : decode cX9_learnAll 4 = .ok (.istore 5, 2) := by decide +kernel
theorem dX9_learnAll_6 : decode cX9_learnAll 6 = .ok (.iload 5, 2) := by decide +kernel
theorem dX9_learnAll_8 : decode cX9_learnAll 8 = .ok (.aload_n 1, 1) := by decide +kernel
theorem dX9_learnAll_9 : decode cX9_learnAll 9 = .ok (.iload_n 3, 1) := by decide +kernel
theorem dX9_learnAll_10 : decode cX9_learnAll 10 = .ok (.invokestatic 114, 3) := by decide +kernel
theorem dX9_learnAll_13 : decode cX9_learnAll 13 = .ok (.if_icmp .ge 31, 3) := by decide +kernel
theorem dX9_learnAll_16 : decode cX9_learnAll 16 = .ok (.iload 4, 2) := by decide +kernel
theorem dX9_learnAll_18 : decode cX9_learnAll 18 = .ok (.aload_n 0, 1) := by decide +kernel
theorem dX9_learnAll_19 : decode cX9_learnAll 19 = .ok (.aload_n 1, 1) := by decide +kernel
theorem dX9_learnAll_20 : decode cX9_learnAll 20 = .ok (.iload_n 2, 1) := by decide +kernel
theorem dX9_learnAll_21 : decode cX9_learnAll 21 = .ok (.iload_n 3, 1) := by decide +kernel
theorem dX9_learnAll_22 : decode cX9_learnAll 22 = .ok (.iload 5, 2) := by decide +kernel
theorem dX9_learnAll_24 : decode cX9_learnAll 24 = .ok (.invokevirtual 148, 3) := by decide +kernel
theorem dX9_learnAll_27 : decode cX9_learnAll 27 = .ok (.iadd, 1) := by decide +kernel
theorem dX9_learnAll_28 : decode cX9_learnAll 28 = .ok (.istore 4, 2) := by decide +kernel
theorem dX9_learnAll_30 : decode cX9_learnAll 30 = .ok (.aload_n 1, 1) := by decide +kernel
theorem dX9_learnAll_31 : decode cX9_learnAll 31 = .ok (.iload_n 2, 1) := by decide +kernel
theorem dX9_learnAll_32 : decode cX9_learnAll 32 = .ok (.iload_n 3, 1) := by decide +kernel
theorem dX9_learnAll_33 : decode cX9_learnAll 33 = .ok (.iload 5, 2) := by decide +kernel
theorem dX9_learnAll_35 : decode cX9_learnAll 35 = .ok (.invokestatic 118, 3) := by decide +kernel
theorem dX9_learnAll_38 : decode cX9_learnAll 38 = .ok (.iinc 5 1, 3) := by decide +kernel
theorem dX9_learnAll_41 : decode cX9_learnAll 41 = .ok (.goto (-35), 3) := by decide +kernel
theorem dX9_learnAll_44 : decode cX9_learnAll 44 = .ok (.aload_n 1, 1) := by decide +kernel
theorem dX9_learnAll_45 : decode cX9_learnAll 45 = .ok (.iload_n 2, 1) := by decide +kernel
theorem dX9_learnAll_46 : decode cX9_learnAll 46 = .ok (.iload_n 3, 1) := by decide +kernel
theorem dX9_learnAll_47 : decode cX9_learnAll 47 = .ok (.invokestatic 121, 3) := by decide +kernel
theorem dX9_learnAll_50 : decode cX9_learnAll 50 = .ok (.iload 4, 2) := by decide +kernel
theorem dX9_learnAll_52 : decode cX9_learnAll 52 = .ok (.ireturn, 1) := by decide +kernel
theorem dX9_tries_0 : decode cX9_tries 0 = .ok (.aload_n 0, 1) := by decide +kernel
theorem dX9_tries_1 : decode cX9_tries 1 = .ok (.getfield 7, 3) := by decide +kernel
theorem dX9_tries_4 : decode cX9_tries 4 = .ok (.iconst 0, 1) := by decide +kernel
theorem dX9_tries_5 : decode cX9_tries 5 = .ok (.aload_n 0, 1) := by decide +kernel
theorem dX9_tries_6 : decode cX9_tries 6 = .ok (.getfield 16, 3) := by decide +kernel
theorem dX9_tries_9 : decode cX9_tries 9 = .ok (.iconst 0, 1) := by decide +kernel
theorem dX9_tries_10 : decode cX9_tries 10 = .ok (.invokestatic 71, 3) := by decide +kernel
theorem dX9_tries_13 : decode cX9_tries 13 = .ok (.return_, 1) := by decide +kernel
theorem dX9_adaptiveGuesses_0 : decode cX9_adaptiveGuesses 0 = .ok (.aload_n 0, 1) := by decide +kernel
theorem dX9_adaptiveGuesses_1 : decode cX9_adaptiveGuesses 1 = .ok (.iload_n 1, 1) := by decide +kernel
theorem dX9_adaptiveGuesses_2 : decode cX9_adaptiveGuesses 2 = .ok (.iload_n 2, 1) := by decide +kernel
theorem dX9_adaptiveGuesses_3 : decode cX9_adaptiveGuesses 3 = .ok (.invokevirtual 328, 3) := by decide +kernel
theorem dX9_adaptiveGuesses_6 : decode cX9_adaptiveGuesses 6 = .ok (.ifCond .eq 5, 3) := by decide +kernel
theorem dX9_adaptiveGuesses_9 : decode cX9_adaptiveGuesses 9 = .ok (.iconst 0, 1) := by decide +kernel
theorem dX9_adaptiveGuesses_10 : decode cX9_adaptiveGuesses 10 = .ok (.ireturn, 1) := by decide +kernel
theorem dX9_adaptiveGuesses_11 : decode cX9_adaptiveGuesses 11 = .ok (.aload_n 0, 1) := by decide +kernel
theorem dX9_adaptiveGuesses_12 : decode cX9_adaptiveGuesses 12 = .ok (.invokevirtual 348, 3) := by decide +kernel
theorem dX9_adaptiveGuesses_15 : decode cX9_adaptiveGuesses 15 = .ok (.aload_n 0, 1) := by decide +kernel
theorem dX9_adaptiveGuesses_16 : decode cX9_adaptiveGuesses 16 = .ok (.aload_n 0, 1) := by decide +kernel
theorem dX9_adaptiveGuesses_17 : decode cX9_adaptiveGuesses 17 = .ok (.getfield 16, 3) := by decide +kernel
theorem dX9_adaptiveGuesses_20 : decode cX9_adaptiveGuesses 20 = .ok (.iload_n 1, 1) := by decide +kernel
theorem dX9_adaptiveGuesses_21 : decode cX9_adaptiveGuesses 21 = .ok (.iload_n 2, 1) := by decide +kernel
theorem dX9_adaptiveGuesses_22 : decode cX9_adaptiveGuesses 22 = .ok (.invokevirtual 351, 3) := by decide +kernel
theorem dX9_adaptiveGuesses_25 : decode cX9_adaptiveGuesses 25 = .ok (.ireturn, 1) := by decide +kernel
theorem dX9_hits_0 : decode cX9_hits 0 = .ok (.iconst 0, 1) := by decide +kernel
theorem dX9_hits_1 : decode cX9_hits 1 = .ok (.istore_n 3, 1) := by decide +kernel
theorem dX9_hits_2 : decode cX9_hits 2 = .ok (.iconst 0, 1) := by decide +kernel
theorem dX9_hits_3 : decode cX9_hits 3 = .ok (.istore 4, 2) := by decide +kernel
theorem dX9_hits_5 : decode cX9_hits 5 = .ok (.iload 4, 2) := by decide +kernel
theorem dX9_hits_7 : decode cX9_hits 7 = .ok (.aload_n 0, 1) := by decide +kernel
theorem dX9_hits_8 : decode cX9_hits 8 = .ok (.getfield 7, 3) := by decide +kernel
theorem dX9_hits_11 : decode cX9_hits 11 = .ok (.iload_n 2, 1) := by decide +kernel
theorem dX9_hits_12 : decode cX9_hits 12 = .ok (.invokestatic 114, 3) := by decide +kernel
theorem dX9_hits_15 : decode cX9_hits 15 = .ok (.if_icmp .ge 33, 3) := by decide +kernel
theorem dX9_hits_18 : decode cX9_hits 18 = .ok (.iload_n 3, 1) := by decide +kernel
theorem dX9_hits_19 : decode cX9_hits 19 = .ok (.aload_n 0, 1) := by decide +kernel
theorem dX9_hits_20 : decode cX9_hits 20 = .ok (.aload_n 0, 1) := by decide +kernel
theorem dX9_hits_21 : decode cX9_hits 21 = .ok (.getfield 7, 3) := by decide +kernel
theorem dX9_hits_24 : decode cX9_hits 24 = .ok (.iload_n 1, 1) := by decide +kernel
theorem dX9_hits_25 : decode cX9_hits 25 = .ok (.iload_n 2, 1) := by decide +kernel
theorem dX9_hits_26 : decode cX9_hits 26 = .ok (.iload 4, 2) := by decide +kernel
theorem dX9_hits_28 : decode cX9_hits 28 = .ok (.invokevirtual 148, 3) := by decide +kernel
theorem dX9_hits_31 : decode cX9_hits 31 = .ok (.iconst 1, 1) := by decide +kernel
theorem dX9_hits_32 : decode cX9_hits 32 = .ok (.if_icmp .ne 7, 3) := by decide +kernel
theorem dX9_hits_35 : decode cX9_hits 35 = .ok (.iconst 1, 1) := by decide +kernel
theorem dX9_hits_36 : decode cX9_hits 36 = .ok (.goto 4, 3) := by decide +kernel
theorem dX9_hits_39 : decode cX9_hits 39 = .ok (.iconst 0, 1) := by decide +kernel
theorem dX9_hits_40 : decode cX9_hits 40 = .ok (.iadd, 1) := by decide +kernel
theorem dX9_hits_41 : decode cX9_hits 41 = .ok (.istore_n 3, 1) := by decide +kernel
theorem dX9_hits_42 : decode cX9_hits 42 = .ok (.iinc 4 1, 3) := by decide +kernel
theorem dX9_hits_45 : decode cX9_hits 45 = .ok (.goto (-40), 3) := by decide +kernel
theorem dX9_hits_48 : decode cX9_hits 48 = .ok (.iload_n 3, 1) := by decide +kernel
theorem dX9_hits_49 : decode cX9_hits 49 = .ok (.ireturn, 1) := by decide +kernel
theorem dX9_firstGuessHits_0 : decode cX9_firstGuessHits 0 = .ok (.aload_n 0, 1) := by decide +kernel
theorem dX9_firstGuessHits_1 : decode cX9_firstGuessHits 1 = .ok (.iload_n 1, 1) := by decide +kernel
theorem dX9_firstGuessHits_2 : decode cX9_firstGuessHits 2 = .ok (.iload_n 2, 1) := by decide +kernel
theorem dX9_firstGuessHits_3 : decode cX9_firstGuessHits 3 = .ok (.invokevirtual 328, 3) := by decide +kernel
theorem dX9_firstGuessHits_6 : decode cX9_firstGuessHits 6 = .ok (.ifCond .eq 7, 3) := by decide +kernel
theorem dX9_firstGuessHits_9 : decode cX9_firstGuessHits 9 = .ok (.iconst 0, 1) := by decide +kernel
theorem dX9_firstGuessHits_10 : decode cX9_firstGuessHits 10 = .ok (.goto 9, 3) := by decide +kernel
theorem dX9_firstGuessHits_13 : decode cX9_firstGuessHits 13 = .ok (.aload_n 0, 1) := by decide +kernel
theorem dX9_firstGuessHits_14 : decode cX9_firstGuessHits 14 = .ok (.iload_n 1, 1) := by decide +kernel
theorem dX9_firstGuessHits_15 : decode cX9_firstGuessHits 15 = .ok (.iload_n 2, 1) := by decide +kernel
theorem dX9_firstGuessHits_16 : decode cX9_firstGuessHits 16 = .ok (.invokevirtual 354, 3) := by decide +kernel
theorem dX9_firstGuessHits_19 : decode cX9_firstGuessHits 19 = .ok (.ireturn, 1) := by decide +kernel
theorem dX9_unseenSymbols_0 : decode cX9_unseenSymbols 0 = .ok (.aload_n 0, 1) := by decide +kernel
theorem dX9_unseenSymbols_1 : decode cX9_unseenSymbols 1 = .ok (.iload_n 1, 1) := by decide +kernel
theorem dX9_unseenSymbols_2 : decode cX9_unseenSymbols 2 = .ok (.iload_n 2, 1) := by decide +kernel
theorem dX9_unseenSymbols_3 : decode cX9_unseenSymbols 3 = .ok (.invokevirtual 328, 3) := by decide +kernel
theorem dX9_unseenSymbols_6 : decode cX9_unseenSymbols 6 = .ok (.ifCond .eq 5, 3) := by decide +kernel
theorem dX9_unseenSymbols_9 : decode cX9_unseenSymbols 9 = .ok (.iconst 0, 1) := by decide +kernel
theorem dX9_unseenSymbols_10 : decode cX9_unseenSymbols 10 = .ok (.ireturn, 1) := by decide +kernel
theorem dX9_unseenSymbols_11 : decode cX9_unseenSymbols 11 = .ok (.iconst 0, 1) := by decide +kernel
theorem dX9_unseenSymbols_12 : decode cX9_unseenSymbols 12 = .ok (.istore_n 3, 1) := by decide +kernel
theorem dX9_unseenSymbols_13 : decode cX9_unseenSymbols 13 = .ok (.iconst 0, 1) := by decide +kernel
theorem dX9_unseenSymbols_14 : decode cX9_unseenSymbols 14 = .ok (.istore 4, 2) := by decide +kernel
theorem dX9_unseenSymbols_16 : decode cX9_unseenSymbols 16 = .ok (.iload 4, 2) := by decide +kernel
theorem dX9_unseenSymbols_18 : decode cX9_unseenSymbols 18 = .ok (.aload_n 0, 1) := by decide +kernel
theorem dX9_unseenSymbols_19 : decode cX9_unseenSymbols 19 = .ok (.getfield 7, 3) := by decide +kernel
theorem dX9_unseenSymbols_22 : decode cX9_unseenSymbols 22 = .ok (.iload_n 2, 1) := by decide +kernel
theorem dX9_unseenSymbols_23 : decode cX9_unseenSymbols 23 = .ok (.invokestatic 114, 3) := by decide +kernel
theorem dX9_unseenSymbols_26 : decode cX9_unseenSymbols 26 = .ok (.if_icmp .ge 64, 3) := by decide +kernel
theorem dX9_unseenSymbols_29 : decode cX9_unseenSymbols 29 = .ok (.iload_n 3, 1) := by decide +kernel
theorem dX9_unseenSymbols_30 : decode cX9_unseenSymbols 30 = .ok (.aload_n 0, 1) := by decide +kernel
theorem dX9_unseenSymbols_31 : decode cX9_unseenSymbols 31 = .ok (.aload_n 0, 1) := by decide +kernel
theorem dX9_unseenSymbols_32 : decode cX9_unseenSymbols 32 = .ok (.getfield 7, 3) := by decide +kernel
theorem dX9_unseenSymbols_35 : decode cX9_unseenSymbols 35 = .ok (.iload_n 1, 1) := by decide +kernel
theorem dX9_unseenSymbols_36 : decode cX9_unseenSymbols 36 = .ok (.aload_n 0, 1) := by decide +kernel
theorem dX9_unseenSymbols_37 : decode cX9_unseenSymbols 37 = .ok (.getfield 7, 3) := by decide +kernel
theorem dX9_unseenSymbols_40 : decode cX9_unseenSymbols 40 = .ok (.iload_n 2, 1) := by decide +kernel
theorem dX9_unseenSymbols_41 : decode cX9_unseenSymbols 41 = .ok (.iload 4, 2) := by decide +kernel
theorem dX9_unseenSymbols_43 : decode cX9_unseenSymbols 43 = .ok (.iconst 2, 1) := by decide +kernel
theorem dX9_unseenSymbols_44 : decode cX9_unseenSymbols 44 = .ok (.isub, 1) := by decide +kernel
theorem dX9_unseenSymbols_45 : decode cX9_unseenSymbols 45 = .ok (.invokestatic 103, 3) := by decide +kernel
theorem dX9_unseenSymbols_48 : decode cX9_unseenSymbols 48 = .ok (.aload_n 0, 1) := by decide +kernel
theorem dX9_unseenSymbols_49 : decode cX9_unseenSymbols 49 = .ok (.getfield 7, 3) := by decide +kernel
theorem dX9_unseenSymbols_52 : decode cX9_unseenSymbols 52 = .ok (.iload_n 2, 1) := by decide +kernel
theorem dX9_unseenSymbols_53 : decode cX9_unseenSymbols 53 = .ok (.iload 4, 2) := by decide +kernel
theorem dX9_unseenSymbols_55 : decode cX9_unseenSymbols 55 = .ok (.iconst 1, 1) := by decide +kernel
theorem dX9_unseenSymbols_56 : decode cX9_unseenSymbols 56 = .ok (.isub, 1) := by decide +kernel
theorem dX9_unseenSymbols_57 : decode cX9_unseenSymbols 57 = .ok (.invokestatic 103, 3) := by decide +kernel
theorem dX9_unseenSymbols_60 : decode cX9_unseenSymbols 60 = .ok (.aload_n 0, 1) := by decide +kernel
theorem dX9_unseenSymbols_61 : decode cX9_unseenSymbols 61 = .ok (.getfield 7, 3) := by decide +kernel
theorem dX9_unseenSymbols_64 : decode cX9_unseenSymbols 64 = .ok (.iload_n 2, 1) := by decide +kernel
theorem dX9_unseenSymbols_65 : decode cX9_unseenSymbols 65 = .ok (.iload 4, 2) := by decide +kernel
theorem dX9_unseenSymbols_67 : decode cX9_unseenSymbols 67 = .ok (.invokestatic 103, 3) := by decide +kernel
theorem dX9_unseenSymbols_70 : decode cX9_unseenSymbols 70 = .ok (.invokevirtual 335, 3) := by decide +kernel
theorem dX9_unseenSymbols_73 : decode cX9_unseenSymbols 73 = .ok (.iconst (-1), 1) := by decide +kernel
theorem dX9_unseenSymbols_74 : decode cX9_unseenSymbols 74 = .ok (.if_icmp .ne 7, 3) := by decide +kernel
theorem dX9_unseenSymbols_77 : decode cX9_unseenSymbols 77 = .ok (.iconst 1, 1) := by decide +kernel
theorem dX9_unseenSymbols_78 : decode cX9_unseenSymbols 78 = .ok (.goto 4, 3) := by decide +kernel
theorem dX9_unseenSymbols_81 : decode cX9_unseenSymbols 81 = .ok (.iconst 0, 1) := by decide +kernel
theorem dX9_unseenSymbols_82 : decode cX9_unseenSymbols 82 = .ok (.iadd, 1) := by decide +kernel
theorem dX9_unseenSymbols_83 : decode cX9_unseenSymbols 83 = .ok (.istore_n 3, 1) := by decide +kernel
theorem dX9_unseenSymbols_84 : decode cX9_unseenSymbols 84 = .ok (.iinc 4 1, 3) := by decide +kernel
theorem dX9_unseenSymbols_87 : decode cX9_unseenSymbols 87 = .ok (.goto (-71), 3) := by decide +kernel
theorem dX9_unseenSymbols_90 : decode cX9_unseenSymbols 90 = .ok (.iload_n 3, 1) := by decide +kernel
theorem dX9_unseenSymbols_91 : decode cX9_unseenSymbols 91 = .ok (.ireturn, 1) := by decide +kernel
theorem dX9_hardestPosition_0 : decode cX9_hardestPosition 0 = .ok (.aload_n 0, 1) := by decide +kernel
theorem dX9_hardestPosition_1 : decode cX9_hardestPosition 1 = .ok (.iload_n 1, 1) := by decide +kernel
theorem dX9_hardestPosition_2 : decode cX9_hardestPosition 2 = .ok (.iload_n 2, 1) := by decide +kernel
theorem dX9_hardestPosition_3 : decode cX9_hardestPosition 3 = .ok (.invokevirtual 328, 3) := by decide +kernel
theorem dX9_hardestPosition_6 : decode cX9_hardestPosition 6 = .ok (.ifCond .eq 5, 3) := by decide +kernel
theorem dX9_hardestPosition_9 : decode cX9_hardestPosition 9 = .ok (.iconst 0, 1) := by decide +kernel
theorem dX9_hardestPosition_10 : decode cX9_hardestPosition 10 = .ok (.ireturn, 1) := by decide +kernel
theorem dX9_hardestPosition_11 : decode cX9_hardestPosition 11 = .ok (.iconst 0, 1) := by decide +kernel
theorem dX9_hardestPosition_12 : decode cX9_hardestPosition 12 = .ok (.istore_n 3, 1) := by decide +kernel
theorem dX9_hardestPosition_13 : decode cX9_hardestPosition 13 = .ok (.iconst 0, 1) := by decide +kernel
theorem dX9_hardestPosition_14 : decode cX9_hardestPosition 14 = .ok (.istore 4, 2) := by decide +kernel
theorem dX9_hardestPosition_16 : decode cX9_hardestPosition 16 = .ok (.iconst 0, 1) := by decide +kernel
theorem dX9_hardestPosition_17 : decode cX9_hardestPosition 17 = .ok (.istore 5, 2) := by decide +kernel
theorem dX9_hardestPosition_19 : decode cX9_hardestPosition 19 = .ok (.iload 5, 2) := by decide +kernel
theorem dX9_hardestPosition_21 : decode cX9_hardestPosition 21 = .ok (.aload_n 0, 1) := by decide +kernel
theorem dX9_hardestPosition_22 : decode cX9_hardestPosition 22 = .ok (.getfield 7, 3) := by decide +kernel
theorem dX9_hardestPosition_25 : decode cX9_hardestPosition 25 = .ok (.iload_n 2, 1) := by decide +kernel
theorem dX9_hardestPosition_26 : decode cX9_hardestPosition 26 = .ok (.invokestatic 114, 3) := by decide +kernel
theorem dX9_hardestPosition_29 : decode cX9_hardestPosition 29 = .ok (.if_icmp .ge 53, 3) := by decide +kernel
theorem dX9_hardestPosition_32 : decode cX9_hardestPosition 32 = .ok (.aload_n 0, 1) := by decide +kernel
theorem dX9_hardestPosition_33 : decode cX9_hardestPosition 33 = .ok (.aload_n 0, 1) := by decide +kernel
theorem dX9_hardestPosition_34 : decode cX9_hardestPosition 34 = .ok (.getfield 7, 3) := by decide +kernel
theorem dX9_hardestPosition_37 : decode cX9_hardestPosition 37 = .ok (.iload_n 1, 1) := by decide +kernel
theorem dX9_hardestPosition_38 : decode cX9_hardestPosition 38 = .ok (.iload_n 2, 1) := by decide +kernel
theorem dX9_hardestPosition_39 : decode cX9_hardestPosition 39 = .ok (.iload 5, 2) := by decide +kernel
theorem dX9_hardestPosition_41 : decode cX9_hardestPosition 41 = .ok (.invokevirtual 148, 3) := by decide +kernel
theorem dX9_hardestPosition_44 : decode cX9_hardestPosition 44 = .ok (.istore 6, 2) := by decide +kernel
theorem dX9_hardestPosition_46 : decode cX9_hardestPosition 46 = .ok (.iload 6, 2) := by decide +kernel
theorem dX9_hardestPosition_48 : decode cX9_hardestPosition 48 = .ok (.iload 4, 2) := by decide +kernel
theorem dX9_hardestPosition_50 : decode cX9_hardestPosition 50 = .ok (.if_icmp .le 8, 3) := by decide +kernel
theorem dX9_hardestPosition_53 : decode cX9_hardestPosition 53 = .ok (.iload 5, 2) := by decide +kernel
theorem dX9_hardestPosition_55 : decode cX9_hardestPosition 55 = .ok (.goto 4, 3) := by decide +kernel
theorem dX9_hardestPosition_58 : decode cX9_hardestPosition 58 = .ok (.iload_n 3, 1) := by decide +kernel
theorem dX9_hardestPosition_59 : decode cX9_hardestPosition 59 = .ok (.istore_n 3, 1) := by decide +kernel
theorem dX9_hardestPosition_60 : decode cX9_hardestPosition 60 = .ok (.iload 6, 2) := by decide +kernel
theorem dX9_hardestPosition_62 : decode cX9_hardestPosition 62 = .ok (.iload 4, 2) := by decide +kernel
theorem dX9_hardestPosition_64 : decode cX9_hardestPosition 64 = .ok (.if_icmp .le 8, 3) := by decide +kernel
theorem dX9_hardestPosition_67 : decode cX9_hardestPosition 67 = .ok (.iload 6, 2) := by decide +kernel
theorem dX9_hardestPosition_69 : decode cX9_hardestPosition 69 = .ok (.goto 5, 3) := by decide +kernel
theorem dX9_hardestPosition_72 : decode cX9_hardestPosition 72 = .ok (.iload 4, 2) := by decide +kernel
theorem dX9_hardestPosition_74 : decode cX9_hardestPosition 74 = .ok (.istore 4, 2) := by decide +kernel
theorem dX9_hardestPosition_76 : decode cX9_hardestPosition 76 = .ok (.iinc 5 1, 3) := by decide +kernel
theorem dX9_hardestPosition_79 : decode cX9_hardestPosition 79 = .ok (.goto (-60), 3) := by decide +kernel
theorem dX9_hardestPosition_82 : decode cX9_hardestPosition 82 = .ok (.iload_n 3, 1) := by decide +kernel
theorem dX9_hardestPosition_83 : decode cX9_hardestPosition 83 = .ok (.ireturn, 1) := by decide +kernel
theorem dX9_totalBits_0 : decode cX9_totalBits 0 = .ok (.aload_n 0, 1) := by decide +kernel
theorem dX9_totalBits_1 : decode cX9_totalBits 1 = .ok (.iload_n 1, 1) := by decide +kernel
theorem dX9_totalBits_2 : decode cX9_totalBits 2 = .ok (.iload_n 2, 1) := by decide +kernel
theorem dX9_totalBits_3 : decode cX9_totalBits 3 = .ok (.invokevirtual 328, 3) := by decide +kernel
theorem dX9_totalBits_6 : decode cX9_totalBits 6 = .ok (.ifCond .eq 5, 3) := by decide +kernel
theorem dX9_totalBits_9 : decode cX9_totalBits 9 = .ok (.iconst 0, 1) := by decide +kernel
theorem dX9_totalBits_10 : decode cX9_totalBits 10 = .ok (.ireturn, 1) := by decide +kernel
theorem dX9_totalBits_11 : decode cX9_totalBits 11 = .ok (.iconst 0, 1) := by decide +kernel
theorem dX9_totalBits_12 : decode cX9_totalBits 12 = .ok (.istore_n 3, 1) := by decide +kernel
theorem dX9_totalBits_13 : decode cX9_totalBits 13 = .ok (.iconst 0, 1) := by decide +kernel
theorem dX9_totalBits_14 : decode cX9_totalBits 14 = .ok (.istore 4, 2) := by decide +kernel
theorem dX9_totalBits_16 : decode cX9_totalBits 16 = .ok (.iload 4, 2) := by decide +kernel
theorem dX9_totalBits_18 : decode cX9_totalBits 18 = .ok (.aload_n 0, 1) := by decide +kernel
theorem dX9_totalBits_19 : decode cX9_totalBits 19 = .ok (.getfield 7, 3) := by decide +kernel
theorem dX9_totalBits_22 : decode cX9_totalBits 22 = .ok (.iload_n 2, 1) := by decide +kernel
theorem dX9_totalBits_23 : decode cX9_totalBits 23 = .ok (.invokestatic 114, 3) := by decide +kernel
theorem dX9_totalBits_26 : decode cX9_totalBits 26 = .ok (.if_icmp .ge 55, 3) := by decide +kernel
theorem dX9_totalBits_29 : decode cX9_totalBits 29 = .ok (.aload_n 0, 1) := by decide +kernel
theorem dX9_totalBits_30 : decode cX9_totalBits 30 = .ok (.iload_n 1, 1) := by decide +kernel
theorem dX9_totalBits_31 : decode cX9_totalBits 31 = .ok (.aload_n 0, 1) := by decide +kernel
theorem dX9_totalBits_32 : decode cX9_totalBits 32 = .ok (.getfield 7, 3) := by decide +kernel
theorem dX9_totalBits_35 : decode cX9_totalBits 35 = .ok (.iload_n 2, 1) := by decide +kernel
theorem dX9_totalBits_36 : decode cX9_totalBits 36 = .ok (.iload 4, 2) := by decide +kernel
theorem dX9_totalBits_38 : decode cX9_totalBits 38 = .ok (.iconst 2, 1) := by decide +kernel
theorem dX9_totalBits_39 : decode cX9_totalBits 39 = .ok (.isub, 1) := by decide +kernel
theorem dX9_totalBits_40 : decode cX9_totalBits 40 = .ok (.invokestatic 103, 3) := by decide +kernel
theorem dX9_totalBits_43 : decode cX9_totalBits 43 = .ok (.aload_n 0, 1) := by decide +kernel
theorem dX9_totalBits_44 : decode cX9_totalBits 44 = .ok (.getfield 7, 3) := by decide +kernel
theorem dX9_totalBits_47 : decode cX9_totalBits 47 = .ok (.iload_n 2, 1) := by decide +kernel
theorem dX9_totalBits_48 : decode cX9_totalBits 48 = .ok (.iload 4, 2) := by decide +kernel
theorem dX9_totalBits_50 : decode cX9_totalBits 50 = .ok (.iconst 1, 1) := by decide +kernel
theorem dX9_totalBits_51 : decode cX9_totalBits 51 = .ok (.isub, 1) := by decide +kernel
theorem dX9_totalBits_52 : decode cX9_totalBits 52 = .ok (.invokestatic 103, 3) := by decide +kernel
theorem dX9_totalBits_55 : decode cX9_totalBits 55 = .ok (.aload_n 0, 1) := by decide +kernel
theorem dX9_totalBits_56 : decode cX9_totalBits 56 = .ok (.getfield 7, 3) := by decide +kernel
theorem dX9_totalBits_59 : decode cX9_totalBits 59 = .ok (.iload_n 2, 1) := by decide +kernel
theorem dX9_totalBits_60 : decode cX9_totalBits 60 = .ok (.iload 4, 2) := by decide +kernel
theorem dX9_totalBits_62 : decode cX9_totalBits 62 = .ok (.invokestatic 103, 3) := by decide +kernel
theorem dX9_totalBits_65 : decode cX9_totalBits 65 = .ok (.invokevirtual 339, 3) := by decide +kernel
theorem dX9_totalBits_68 : decode cX9_totalBits 68 = .ok (.iload_n 3, 1) := by decide +kernel
theorem dX9_totalBits_69 : decode cX9_totalBits 69 = .ok (.aload_n 0, 1) := by decide +kernel
theorem dX9_totalBits_70 : decode cX9_totalBits 70 = .ok (.invokevirtual 342, 3) := by decide +kernel
theorem dX9_totalBits_73 : decode cX9_totalBits 73 = .ok (.iadd, 1) := by decide +kernel
theorem dX9_totalBits_74 : decode cX9_totalBits 74 = .ok (.istore_n 3, 1) := by decide +kernel
theorem dX9_totalBits_75 : decode cX9_totalBits 75 = .ok (.iinc 4 1, 3) := by decide +kernel
theorem dX9_totalBits_78 : decode cX9_totalBits 78 = .ok (.goto (-62), 3) := by decide +kernel
theorem dX9_totalBits_81 : decode cX9_totalBits 81 = .ok (.iload_n 3, 1) := by decide +kernel
theorem dX9_totalBits_82 : decode cX9_totalBits 82 = .ok (.ireturn, 1) := by decide +kernel
theorem dX9_meanGuesses_0 : decode cX9_meanGuesses 0 = .ok (.aload_n 0, 1) := by decide +kernel
theorem dX9_meanGuesses_1 : decode cX9_meanGuesses 1 = .ok (.iload_n 1, 1) := by decide +kernel
theorem dX9_meanGuesses_2 : decode cX9_meanGuesses 2 = .ok (.iload_n 2, 1) := by decide +kernel
theorem dX9_meanGuesses_3 : decode cX9_meanGuesses 3 = .ok (.invokevirtual 328, 3) := by decide +kernel
theorem dX9_meanGuesses_6 : decode cX9_meanGuesses 6 = .ok (.ifCond .eq 7, 3) := by decide +kernel
theorem dX9_meanGuesses_9 : decode cX9_meanGuesses 9 = .ok (.dconst 0, 1) := by decide +kernel
theorem dX9_meanGuesses_10 : decode cX9_meanGuesses 10 = .ok (.goto 24, 3) := by decide +kernel
theorem dX9_meanGuesses_13 : decode cX9_meanGuesses 13 = .ok (.aload_n 0, 1) := by decide +kernel
theorem dX9_meanGuesses_14 : decode cX9_meanGuesses 14 = .ok (.aload_n 0, 1) := by decide +kernel
theorem dX9_meanGuesses_15 : decode cX9_meanGuesses 15 = .ok (.getfield 7, 3) := by decide +kernel
theorem dX9_meanGuesses_18 : decode cX9_meanGuesses 18 = .ok (.iload_n 1, 1) := by decide +kernel
theorem dX9_meanGuesses_19 : decode cX9_meanGuesses 19 = .ok (.iload_n 2, 1) := by decide +kernel
theorem dX9_meanGuesses_20 : decode cX9_meanGuesses 20 = .ok (.invokevirtual 345, 3) := by decide +kernel
theorem dX9_meanGuesses_23 : decode cX9_meanGuesses 23 = .ok (.i2d, 1) := by decide +kernel
theorem dX9_meanGuesses_24 : decode cX9_meanGuesses 24 = .ok (.aload_n 0, 1) := by decide +kernel
theorem dX9_meanGuesses_25 : decode cX9_meanGuesses 25 = .ok (.getfield 7, 3) := by decide +kernel
theorem dX9_meanGuesses_28 : decode cX9_meanGuesses 28 = .ok (.iload_n 2, 1) := by decide +kernel
theorem dX9_meanGuesses_29 : decode cX9_meanGuesses 29 = .ok (.invokestatic 114, 3) := by decide +kernel
theorem dX9_meanGuesses_32 : decode cX9_meanGuesses 32 = .ok (.i2d, 1) := by decide +kernel
theorem dX9_meanGuesses_33 : decode cX9_meanGuesses 33 = .ok (.ddiv, 1) := by decide +kernel
theorem dX9_meanGuesses_34 : decode cX9_meanGuesses 34 = .ok (.dreturn, 1) := by decide +kernel
theorem dX9_hitShare_0 : decode cX9_hitShare 0 = .ok (.aload_n 0, 1) := by decide +kernel
theorem dX9_hitShare_1 : decode cX9_hitShare 1 = .ok (.iload_n 1, 1) := by decide +kernel
theorem dX9_hitShare_2 : decode cX9_hitShare 2 = .ok (.iload_n 2, 1) := by decide +kernel
theorem dX9_hitShare_3 : decode cX9_hitShare 3 = .ok (.invokevirtual 328, 3) := by decide +kernel
theorem dX9_hitShare_6 : decode cX9_hitShare 6 = .ok (.ifCond .eq 7, 3) := by decide +kernel
theorem dX9_hitShare_9 : decode cX9_hitShare 9 = .ok (.fconst 0, 1) := by decide +kernel
theorem dX9_hitShare_10 : decode cX9_hitShare 10 = .ok (.goto 20, 3) := by decide +kernel
theorem dX9_hitShare_13 : decode cX9_hitShare 13 = .ok (.aload_n 0, 1) := by decide +kernel
theorem dX9_hitShare_14 : decode cX9_hitShare 14 = .ok (.iload_n 1, 1) := by decide +kernel
theorem dX9_hitShare_15 : decode cX9_hitShare 15 = .ok (.iload_n 2, 1) := by decide +kernel
theorem dX9_hitShare_16 : decode cX9_hitShare 16 = .ok (.invokevirtual 354, 3) := by decide +kernel
theorem dX9_hitShare_19 : decode cX9_hitShare 19 = .ok (.i2f, 1) := by decide +kernel
theorem dX9_hitShare_20 : decode cX9_hitShare 20 = .ok (.aload_n 0, 1) := by decide +kernel
theorem dX9_hitShare_21 : decode cX9_hitShare 21 = .ok (.getfield 7, 3) := by decide +kernel
theorem dX9_hitShare_24 : decode cX9_hitShare 24 = .ok (.iload_n 2, 1) := by decide +kernel
theorem dX9_hitShare_25 : decode cX9_hitShare 25 = .ok (.invokestatic 114, 3) := by decide +kernel
theorem dX9_hitShare_28 : decode cX9_hitShare 28 = .ok (.i2f, 1) := by decide +kernel
theorem dX9_hitShare_29 : decode cX9_hitShare 29 = .ok (.fdiv, 1) := by decide +kernel
theorem dX9_hitShare_30 : decode cX9_hitShare 30 = .ok (.freturn, 1) := by decide +kernel
theorem dX9_bestReader_0 : decode cX9_bestReader 0 = .ok (.aload_n 0, 1) := by decide +kernel
theorem dX9_bestReader_1 : decode cX9_bestReader 1 = .ok (.iload_n 1, 1) := by decide +kernel
theorem dX9_bestReader_2 : decode cX9_bestReader 2 = .ok (.invokevirtual 298, 3) := by decide +kernel
theorem dX9_bestReader_5 : decode cX9_bestReader 5 = .ok (.ifCond .eq 5, 3) := by decide +kernel
theorem dX9_bestReader_8 : decode cX9_bestReader 8 = .ok (.iconst 0, 1) := by decide +kernel
theorem dX9_bestReader_9 : decode cX9_bestReader 9 = .ok (.ireturn, 1) := by decide +kernel
theorem dX9_bestReader_10 : decode cX9_bestReader 10 = .ok (.iconst (-1), 1) := by decide +kernel
theorem dX9_bestReader_11 : decode cX9_bestReader 11 = .ok (.istore_n 2, 1) := by decide +kernel
theorem dX9_bestReader_12 : decode cX9_bestReader 12 = .ok (.iconst 0, 1) := by decide +kernel
theorem dX9_bestReader_13 : decode cX9_bestReader 13 = .ok (.istore_n 3, 1) := by decide +kernel
theorem dX9_bestReader_14 : decode cX9_bestReader 14 = .ok (.iconst 0, 1) := by decide +kernel
theorem dX9_bestReader_15 : decode cX9_bestReader 15 = .ok (.istore 4, 2) := by decide +kernel
theorem dX9_bestReader_17 : decode cX9_bestReader 17 = .ok (.iload 4, 2) := by decide +kernel
theorem dX9_bestReader_19 : decode cX9_bestReader 19 = .ok (.aload_n 0, 1) := by decide +kernel
theorem dX9_bestReader_20 : decode cX9_bestReader 20 = .ok (.getfield 7, 3) := by decide +kernel
theorem dX9_bestReader_23 : decode cX9_bestReader 23 = .ok (.iconst 2, 1) := by decide +kernel
theorem dX9_bestReader_24 : decode cX9_bestReader 24 = .ok (.iaload, 1) := by decide +kernel
theorem dX9_bestReader_25 : decode cX9_bestReader 25 = .ok (.if_icmp .ge 39, 3) := by decide +kernel
theorem dX9_bestReader_28 : decode cX9_bestReader 28 = .ok (.aload_n 0, 1) := by decide +kernel
theorem dX9_bestReader_29 : decode cX9_bestReader 29 = .ok (.aload_n 0, 1) := by decide +kernel
theorem dX9_bestReader_30 : decode cX9_bestReader 30 = .ok (.getfield 7, 3) := by decide +kernel
theorem dX9_bestReader_33 : decode cX9_bestReader 33 = .ok (.iload 4, 2) := by decide +kernel
theorem dX9_bestReader_35 : decode cX9_bestReader 35 = .ok (.iload_n 1, 1) := by decide +kernel
theorem dX9_bestReader_36 : decode cX9_bestReader 36 = .ok (.invokevirtual 345, 3) := by decide +kernel
theorem dX9_bestReader_39 : decode cX9_bestReader 39 = .ok (.istore 5, 2) := by decide +kernel
theorem dX9_bestReader_41 : decode cX9_bestReader 41 = .ok (.iload_n 2, 1) := by decide +kernel
theorem dX9_bestReader_42 : decode cX9_bestReader 42 = .ok (.iconst (-1), 1) := by decide +kernel
theorem dX9_bestReader_43 : decode cX9_bestReader 43 = .ok (.if_icmp .eq 9, 3) := by decide +kernel
theorem dX9_bestReader_46 : decode cX9_bestReader 46 = .ok (.iload 5, 2) := by decide +kernel
theorem dX9_bestReader_48 : decode cX9_bestReader 48 = .ok (.iload_n 3, 1) := by decide +kernel
theorem dX9_bestReader_49 : decode cX9_bestReader 49 = .ok (.if_icmp .ge 9, 3) := by decide +kernel
theorem dX9_bestReader_52 : decode cX9_bestReader 52 = .ok (.iload 4, 2) := by decide +kernel
theorem dX9_bestReader_54 : decode cX9_bestReader 54 = .ok (.istore_n 2, 1) := by decide +kernel
theorem dX9_bestReader_55 : decode cX9_bestReader 55 = .ok (.iload 5, 2) := by decide +kernel
theorem dX9_bestReader_57 : decode cX9_bestReader 57 = .ok (.istore_n 3, 1) := by decide +kernel
theorem dX9_bestReader_58 : decode cX9_bestReader 58 = .ok (.iinc 4 1, 3) := by decide +kernel
theorem dX9_bestReader_61 : decode cX9_bestReader 61 = .ok (.goto (-44), 3) := by decide +kernel
theorem dX9_bestReader_64 : decode cX9_bestReader 64 = .ok (.iload_n 2, 1) := by decide +kernel
theorem dX9_bestReader_65 : decode cX9_bestReader 65 = .ok (.ireturn, 1) := by decide +kernel
theorem dX9_hardestDocument_0 : decode cX9_hardestDocument 0 = .ok (.aload_n 0, 1) := by decide +kernel
theorem dX9_hardestDocument_1 : decode cX9_hardestDocument 1 = .ok (.iload_n 1, 1) := by decide +kernel
theorem dX9_hardestDocument_2 : decode cX9_hardestDocument 2 = .ok (.invokevirtual 295, 3) := by decide +kernel
theorem dX9_hardestDocument_5 : decode cX9_hardestDocument 5 = .ok (.ifCond .eq 5, 3) := by decide +kernel
theorem dX9_hardestDocument_8 : decode cX9_hardestDocument 8 = .ok (.iconst 0, 1) := by decide +kernel
theorem dX9_hardestDocument_9 : decode cX9_hardestDocument 9 = .ok (.ireturn, 1) := by decide +kernel
theorem dX9_hardestDocument_10 : decode cX9_hardestDocument 10 = .ok (.iconst (-1), 1) := by decide +kernel
theorem dX9_hardestDocument_11 : decode cX9_hardestDocument 11 = .ok (.istore_n 2, 1) := by decide +kernel
theorem dX9_hardestDocument_12 : decode cX9_hardestDocument 12 = .ok (.iconst (-1), 1) := by decide +kernel
theorem dX9_hardestDocument_13 : decode cX9_hardestDocument 13 = .ok (.istore_n 3, 1) := by decide +kernel
theorem dX9_hardestDocument_14 : decode cX9_hardestDocument 14 = .ok (.iconst 0, 1) := by decide +kernel
theorem dX9_hardestDocument_15 : decode cX9_hardestDocument 15 = .ok (.istore 4, 2) := by decide +kernel
theorem dX9_hardestDocument_17 : decode cX9_hardestDocument 17 = .ok (.iload 4, 2) := by decide +kernel
theorem dX9_hardestDocument_19 : decode cX9_hardestDocument 19 = .ok (.aload_n 0, 1) := by decide +kernel
theorem dX9_hardestDocument_20 : decode cX9_hardestDocument 20 = .ok (.getfield 7, 3) := by decide +kernel
theorem dX9_hardestDocument_23 : decode cX9_hardestDocument 23 = .ok (.iconst 1, 1) := by decide +kernel
theorem dX9_hardestDocument_24 : decode cX9_hardestDocument 24 = .ok (.iaload, 1) := by decide +kernel
theorem dX9_hardestDocument_25 : decode cX9_hardestDocument 25 = .ok (.if_icmp .ge 48, 3) := by decide +kernel
theorem dX9_hardestDocument_28 : decode cX9_hardestDocument 28 = .ok (.aload_n 0, 1) := by decide +kernel
theorem dX9_hardestDocument_29 : decode cX9_hardestDocument 29 = .ok (.aload_n 0, 1) := by decide +kernel
theorem dX9_hardestDocument_30 : decode cX9_hardestDocument 30 = .ok (.getfield 7, 3) := by decide +kernel
theorem dX9_hardestDocument_33 : decode cX9_hardestDocument 33 = .ok (.iload_n 1, 1) := by decide +kernel
theorem dX9_hardestDocument_34 : decode cX9_hardestDocument 34 = .ok (.iload 4, 2) := by decide +kernel
theorem dX9_hardestDocument_36 : decode cX9_hardestDocument 36 = .ok (.invokevirtual 345, 3) := by decide +kernel
theorem dX9_hardestDocument_39 : decode cX9_hardestDocument 39 = .ok (.istore 5, 2) := by decide +kernel
theorem dX9_hardestDocument_41 : decode cX9_hardestDocument 41 = .ok (.iload 5, 2) := by decide +kernel
theorem dX9_hardestDocument_43 : decode cX9_hardestDocument 43 = .ok (.iload_n 3, 1) := by decide +kernel
theorem dX9_hardestDocument_44 : decode cX9_hardestDocument 44 = .ok (.if_icmp .le 8, 3) := by decide +kernel
theorem dX9_hardestDocument_47 : decode cX9_hardestDocument 47 = .ok (.iload 4, 2) := by decide +kernel
theorem dX9_hardestDocument_49 : decode cX9_hardestDocument 49 = .ok (.goto 4, 3) := by decide +kernel
theorem dX9_hardestDocument_52 : decode cX9_hardestDocument 52 = .ok (.iload_n 2, 1) := by decide +kernel
theorem dX9_hardestDocument_53 : decode cX9_hardestDocument 53 = .ok (.istore_n 2, 1) := by decide +kernel
theorem dX9_hardestDocument_54 : decode cX9_hardestDocument 54 = .ok (.iload 5, 2) := by decide +kernel
theorem dX9_hardestDocument_56 : decode cX9_hardestDocument 56 = .ok (.iload_n 3, 1) := by decide +kernel
theorem dX9_hardestDocument_57 : decode cX9_hardestDocument 57 = .ok (.if_icmp .le 8, 3) := by decide +kernel
theorem dX9_hardestDocument_60 : decode cX9_hardestDocument 60 = .ok (.iload 5, 2) := by decide +kernel
theorem dX9_hardestDocument_62 : decode cX9_hardestDocument 62 = .ok (.goto 4, 3) := by decide +kernel
theorem dX9_hardestDocument_65 : decode cX9_hardestDocument 65 = .ok (.iload_n 3, 1) := by decide +kernel
theorem dX9_hardestDocument_66 : decode cX9_hardestDocument 66 = .ok (.istore_n 3, 1) := by decide +kernel
theorem dX9_hardestDocument_67 : decode cX9_hardestDocument 67 = .ok (.iinc 4 1, 3) := by decide +kernel
theorem dX9_hardestDocument_70 : decode cX9_hardestDocument 70 = .ok (.goto (-53), 3) := by decide +kernel
theorem dX9_hardestDocument_73 : decode cX9_hardestDocument 73 = .ok (.iload_n 2, 1) := by decide +kernel
theorem dX9_hardestDocument_74 : decode cX9_hardestDocument 74 = .ok (.ireturn, 1) := by decide +kernel
theorem dX9_guessesAfterTraining_0 : decode cX9_guessesAfterTraining 0 = .ok (.aload_n 0, 1) := by decide +kernel
theorem dX9_guessesAfterTraining_1 : decode cX9_guessesAfterTraining 1 = .ok (.iload_n 1, 1) := by decide +kernel
theorem dX9_guessesAfterTraining_2 : decode cX9_guessesAfterTraining 2 = .ok (.iload_n 2, 1) := by decide +kernel
theorem dX9_guessesAfterTraining_3 : decode cX9_guessesAfterTraining 3 = .ok (.invokevirtual 328, 3) := by decide +kernel
theorem dX9_guessesAfterTraining_6 : decode cX9_guessesAfterTraining 6 = .ok (.ifCond .ne 11, 3) := by decide +kernel
theorem dX9_guessesAfterTraining_9 : decode cX9_guessesAfterTraining 9 = .ok (.aload_n 0, 1) := by decide +kernel
theorem dX9_guessesAfterTraining_10 : decode cX9_guessesAfterTraining 10 = .ok (.iload_n 3, 1) := by decide +kernel
theorem dX9_guessesAfterTraining_11 : decode cX9_guessesAfterTraining 11 = .ok (.invokevirtual 298, 3) := by decide +kernel
theorem dX9_guessesAfterTraining_14 : decode cX9_guessesAfterTraining 14 = .ok (.ifCond .eq 5, 3) := by decide +kernel
theorem dX9_guessesAfterTraining_17 : decode cX9_guessesAfterTraining 17 = .ok (.iconst 0, 1) := by decide +kernel
theorem dX9_guessesAfterTraining_18 : decode cX9_guessesAfterTraining 18 = .ok (.ireturn, 1) := by decide +kernel
theorem dX9_guessesAfterTraining_19 : decode cX9_guessesAfterTraining 19 = .ok (.aload_n 0, 1) := by decide +kernel
theorem dX9_guessesAfterTraining_20 : decode cX9_guessesAfterTraining 20 = .ok (.invokevirtual 348, 3) := by decide +kernel
theorem dX9_guessesAfterTraining_23 : decode cX9_guessesAfterTraining 23 = .ok (.aload_n 0, 1) := by decide +kernel
theorem dX9_guessesAfterTraining_24 : decode cX9_guessesAfterTraining 24 = .ok (.getfield 16, 3) := by decide +kernel
theorem dX9_guessesAfterTraining_27 : decode cX9_guessesAfterTraining 27 = .ok (.iload_n 1, 1) := by decide +kernel
theorem dX9_guessesAfterTraining_28 : decode cX9_guessesAfterTraining 28 = .ok (.iload_n 2, 1) := by decide +kernel
theorem dX9_guessesAfterTraining_29 : decode cX9_guessesAfterTraining 29 = .ok (.invokestatic 262, 3) := by decide +kernel
theorem dX9_guessesAfterTraining_32 : decode cX9_guessesAfterTraining 32 = .ok (.aload_n 0, 1) := by decide +kernel
theorem dX9_guessesAfterTraining_33 : decode cX9_guessesAfterTraining 33 = .ok (.aload_n 0, 1) := by decide +kernel
theorem dX9_guessesAfterTraining_34 : decode cX9_guessesAfterTraining 34 = .ok (.getfield 16, 3) := by decide +kernel
theorem dX9_guessesAfterTraining_37 : decode cX9_guessesAfterTraining 37 = .ok (.iload_n 1, 1) := by decide +kernel
theorem dX9_guessesAfterTraining_38 : decode cX9_guessesAfterTraining 38 = .ok (.iload_n 3, 1) := by decide +kernel
theorem dX9_guessesAfterTraining_39 : decode cX9_guessesAfterTraining 39 = .ok (.invokevirtual 345, 3) := by decide +kernel
theorem dX9_guessesAfterTraining_42 : decode cX9_guessesAfterTraining 42 = .ok (.ireturn, 1) := by decide +kernel
theorem dX9_trainingsNeeded_0 : decode cX9_trainingsNeeded 0 = .ok (.aload_n 0, 1) := by decide +kernel
theorem dX9_trainingsNeeded_1 : decode cX9_trainingsNeeded 1 = .ok (.iload_n 1, 1) := by decide +kernel
theorem dX9_trainingsNeeded_2 : decode cX9_trainingsNeeded 2 = .ok (.iload_n 2, 1) := by decide +kernel
theorem dX9_trainingsNeeded_3 : decode cX9_trainingsNeeded 3 = .ok (.invokevirtual 328, 3) := by decide +kernel
theorem dX9_trainingsNeeded_6 : decode cX9_trainingsNeeded 6 = .ok (.ifCond .ne 15, 3) := by decide +kernel
theorem dX9_trainingsNeeded_9 : decode cX9_trainingsNeeded 9 = .ok (.aload_n 0, 1) := by decide +kernel
theorem dX9_trainingsNeeded_10 : decode cX9_trainingsNeeded 10 = .ok (.iload_n 3, 1) := by decide +kernel
theorem dX9_trainingsNeeded_11 : decode cX9_trainingsNeeded 11 = .ok (.iconst 1, 1) := by decide +kernel
theorem dX9_trainingsNeeded_12 : decode cX9_trainingsNeeded 12 = .ok (.sipush 1080, 3) := by decide +kernel
theorem dX9_trainingsNeeded_15 : decode cX9_trainingsNeeded 15 = .ok (.invokevirtual 301, 3) := by decide +kernel
theorem dX9_trainingsNeeded_18 : decode cX9_trainingsNeeded 18 = .ok (.ifCond .eq 5, 3) := by decide +kernel
theorem dX9_trainingsNeeded_21 : decode cX9_trainingsNeeded 21 = .ok (.iconst 0, 1) := by decide +kernel
theorem dX9_trainingsNeeded_22 : decode cX9_trainingsNeeded 22 = .ok (.ireturn, 1) := by decide +kernel
theorem dX9_trainingsNeeded_23 : decode cX9_trainingsNeeded 23 = .ok (.aload_n 0, 1) := by decide +kernel
theorem dX9_trainingsNeeded_24 : decode cX9_trainingsNeeded 24 = .ok (.invokevirtual 348, 3) := by decide +kernel
theorem dX9_trainingsNeeded_27 : decode cX9_trainingsNeeded 27 = .ok (.iconst 0, 1) := by decide +kernel
theorem dX9_trainingsNeeded_28 : decode cX9_trainingsNeeded 28 = .ok (.istore 4, 2) := by decide +kernel
theorem dX9_trainingsNeeded_30 : decode cX9_trainingsNeeded 30 = .ok (.iload 4, 2) := by decide +kernel
theorem dX9_trainingsNeeded_32 : decode cX9_trainingsNeeded 32 = .ok (.bipush 20, 2) := by decide +kernel
theorem dX9_trainingsNeeded_34 : decode cX9_trainingsNeeded 34 = .ok (.if_icmp .gt 35, 3) := by decide +kernel
theorem dX9_trainingsNeeded_37 : decode cX9_trainingsNeeded 37 = .ok (.aload_n 0, 1) := by decide +kernel
theorem dX9_trainingsNeeded_38 : decode cX9_trainingsNeeded 38 = .ok (.aload_n 0, 1) := by decide +kernel
theorem dX9_trainingsNeeded_39 : decode cX9_trainingsNeeded 39 = .ok (.getfield 16, 3) := by decide +kernel
theorem dX9_trainingsNeeded_42 : decode cX9_trainingsNeeded 42 = .ok (.iload_n 1, 1) := by decide +kernel
theorem dX9_trainingsNeeded_43 : decode cX9_trainingsNeeded 43 = .ok (.iload_n 2, 1) := by decide +kernel
theorem dX9_trainingsNeeded_44 : decode cX9_trainingsNeeded 44 = .ok (.invokevirtual 345, 3) := by decide +kernel
theorem dX9_trainingsNeeded_47 : decode cX9_trainingsNeeded 47 = .ok (.iload_n 3, 1) := by decide +kernel
theorem dX9_trainingsNeeded_48 : decode cX9_trainingsNeeded 48 = .ok (.if_icmp .gt 6, 3) := by decide +kernel
theorem dX9_trainingsNeeded_51 : decode cX9_trainingsNeeded 51 = .ok (.iload 4, 2) := by decide +kernel
theorem dX9_trainingsNeeded_53 : decode cX9_trainingsNeeded 53 = .ok (.ireturn, 1) := by decide +kernel
theorem dX9_trainingsNeeded_54 : decode cX9_trainingsNeeded 54 = .ok (.aload_n 0, 1) := by decide +kernel
theorem dX9_trainingsNeeded_55 : decode cX9_trainingsNeeded 55 = .ok (.getfield 16, 3) := by decide +kernel
theorem dX9_trainingsNeeded_58 : decode cX9_trainingsNeeded 58 = .ok (.iload_n 1, 1) := by decide +kernel
theorem dX9_trainingsNeeded_59 : decode cX9_trainingsNeeded 59 = .ok (.iload_n 2, 1) := by decide +kernel
theorem dX9_trainingsNeeded_60 : decode cX9_trainingsNeeded 60 = .ok (.invokestatic 262, 3) := by decide +kernel
theorem dX9_trainingsNeeded_63 : decode cX9_trainingsNeeded 63 = .ok (.iinc 4 1, 3) := by decide +kernel
theorem dX9_trainingsNeeded_66 : decode cX9_trainingsNeeded 66 = .ok (.goto (-36), 3) := by decide +kernel
theorem dX9_trainingsNeeded_69 : decode cX9_trainingsNeeded 69 = .ok (.iconst (-1), 1) := by decide +kernel
theorem dX9_trainingsNeeded_70 : decode cX9_trainingsNeeded 70 = .ok (.ireturn, 1) := by decide +kernel
theorem dX9_yearsToForget_0 : decode cX9_yearsToForget 0 = .ok (.aload_n 0, 1) := by decide +kernel
theorem dX9_yearsToForget_1 : decode cX9_yearsToForget 1 = .ok (.iload_n 1, 1) := by decide +kernel
theorem dX9_yearsToForget_2 : decode cX9_yearsToForget 2 = .ok (.invokevirtual 295, 3) := by decide +kernel
theorem dX9_yearsToForget_5 : decode cX9_yearsToForget 5 = .ok (.ifCond .eq 5, 3) := by decide +kernel
theorem dX9_yearsToForget_8 : decode cX9_yearsToForget 8 = .ok (.iconst 0, 1) := by decide +kernel
theorem dX9_yearsToForget_9 : decode cX9_yearsToForget 9 = .ok (.ireturn, 1) := by decide +kernel
theorem dX9_yearsToForget_10 : decode cX9_yearsToForget 10 = .ok (.iconst 0, 1) := by decide +kernel
theorem dX9_yearsToForget_11 : decode cX9_yearsToForget 11 = .ok (.istore_n 2, 1) := by decide +kernel
theorem dX9_yearsToForget_12 : decode cX9_yearsToForget 12 = .ok (.iconst 0, 1) := by decide +kernel
theorem dX9_yearsToForget_13 : decode cX9_yearsToForget 13 = .ok (.istore_n 3, 1) := by decide +kernel
theorem dX9_yearsToForget_14 : decode cX9_yearsToForget 14 = .ok (.iload_n 3, 1) := by decide +kernel
theorem dX9_yearsToForget_15 : decode cX9_yearsToForget 15 = .ok (.aload_n 0, 1) := by decide +kernel
theorem dX9_yearsToForget_16 : decode cX9_yearsToForget 16 = .ok (.getfield 7, 3) := by decide +kernel
theorem dX9_yearsToForget_19 : decode cX9_yearsToForget 19 = .ok (.iload_n 1, 1) := by decide +kernel
theorem dX9_yearsToForget_20 : decode cX9_yearsToForget 20 = .ok (.invokestatic 92, 3) := by decide +kernel
theorem dX9_yearsToForget_23 : decode cX9_yearsToForget 23 = .ok (.bipush 11, 2) := by decide +kernel
theorem dX9_yearsToForget_25 : decode cX9_yearsToForget 25 = .ok (.iadd, 1) := by decide +kernel
theorem dX9_yearsToForget_26 : decode cX9_yearsToForget 26 = .ok (.iaload, 1) := by decide +kernel
theorem dX9_yearsToForget_27 : decode cX9_yearsToForget 27 = .ok (.if_icmp .ge 36, 3) := by decide +kernel
theorem dX9_yearsToForget_30 : decode cX9_yearsToForget 30 = .ok (.aload_n 0, 1) := by decide +kernel
theorem dX9_yearsToForget_31 : decode cX9_yearsToForget 31 = .ok (.getfield 7, 3) := by decide +kernel
theorem dX9_yearsToForget_34 : decode cX9_yearsToForget 34 = .ok (.iload_n 1, 1) := by decide +kernel
theorem dX9_yearsToForget_35 : decode cX9_yearsToForget 35 = .ok (.iload_n 3, 1) := by decide +kernel
theorem dX9_yearsToForget_36 : decode cX9_yearsToForget 36 = .ok (.invokestatic 95, 3) := by decide +kernel
theorem dX9_yearsToForget_39 : decode cX9_yearsToForget 39 = .ok (.iconst 1, 1) := by decide +kernel
theorem dX9_yearsToForget_40 : decode cX9_yearsToForget 40 = .ok (.iadd, 1) := by decide +kernel
theorem dX9_yearsToForget_41 : decode cX9_yearsToForget 41 = .ok (.iaload, 1) := by decide +kernel
theorem dX9_yearsToForget_42 : decode cX9_yearsToForget 42 = .ok (.istore 4, 2) := by decide +kernel
theorem dX9_yearsToForget_44 : decode cX9_yearsToForget 44 = .ok (.iload 4, 2) := by decide +kernel
theorem dX9_yearsToForget_46 : decode cX9_yearsToForget 46 = .ok (.iload_n 2, 1) := by decide +kernel
theorem dX9_yearsToForget_47 : decode cX9_yearsToForget 47 = .ok (.if_icmp .le 8, 3) := by decide +kernel
theorem dX9_yearsToForget_50 : decode cX9_yearsToForget 50 = .ok (.iload 4, 2) := by decide +kernel
theorem dX9_yearsToForget_52 : decode cX9_yearsToForget 52 = .ok (.goto 4, 3) := by decide +kernel
theorem dX9_yearsToForget_55 : decode cX9_yearsToForget 55 = .ok (.iload_n 2, 1) := by decide +kernel
theorem dX9_yearsToForget_56 : decode cX9_yearsToForget 56 = .ok (.istore_n 2, 1) := by decide +kernel
theorem dX9_yearsToForget_57 : decode cX9_yearsToForget 57 = .ok (.iinc 3 1, 3) := by decide +kernel
theorem dX9_yearsToForget_60 : decode cX9_yearsToForget 60 = .ok (.goto (-46), 3) := by decide +kernel
theorem dX9_yearsToForget_63 : decode cX9_yearsToForget 63 = .ok (.iconst 0, 1) := by decide +kernel
theorem dX9_yearsToForget_64 : decode cX9_yearsToForget 64 = .ok (.istore_n 3, 1) := by decide +kernel
theorem dX9_yearsToForget_65 : decode cX9_yearsToForget 65 = .ok (.iload_n 2, 1) := by decide +kernel
theorem dX9_yearsToForget_66 : decode cX9_yearsToForget 66 = .ok (.ifCond .le 13, 3) := by decide +kernel
theorem dX9_yearsToForget_69 : decode cX9_yearsToForget 69 = .ok (.iinc 3 1, 3) := by decide +kernel
theorem dX9_yearsToForget_72 : decode cX9_yearsToForget 72 = .ok (.iload_n 2, 1) := by decide +kernel
theorem dX9_yearsToForget_73 : decode cX9_yearsToForget 73 = .ok (.iconst 2, 1) := by decide +kernel
theorem dX9_yearsToForget_74 : decode cX9_yearsToForget 74 = .ok (.idiv, 1) := by decide +kernel
theorem dX9_yearsToForget_75 : decode cX9_yearsToForget 75 = .ok (.istore_n 2, 1) := by decide +kernel
theorem dX9_yearsToForget_76 : decode cX9_yearsToForget 76 = .ok (.goto (-11), 3) := by decide +kernel
theorem dX9_yearsToForget_79 : decode cX9_yearsToForget 79 = .ok (.iload_n 3, 1) := by decide +kernel
theorem dX9_yearsToForget_80 : decode cX9_yearsToForget 80 = .ok (.ireturn, 1) := by decide +kernel
theorem dX9_firstIn_0 : decode cX9_firstIn 0 = .ok (.aload_n 0, 1) := by decide +kernel
theorem dX9_firstIn_1 : decode cX9_firstIn 1 = .ok (.aload_n 0, 1) := by decide +kernel
theorem dX9_firstIn_2 : decode cX9_firstIn 2 = .ok (.getfield 7, 3) := by decide +kernel
theorem dX9_firstIn_5 : decode cX9_firstIn 5 = .ok (.iload_n 1, 1) := by decide +kernel
theorem dX9_firstIn_6 : decode cX9_firstIn 6 = .ok (.iload_n 2, 1) := by decide +kernel
theorem dX9_firstIn_7 : decode cX9_firstIn 7 = .ok (.iload_n 3, 1) := by decide +kernel
theorem dX9_firstIn_8 : decode cX9_firstIn 8 = .ok (.invokevirtual 145, 3) := by decide +kernel
theorem dX9_firstIn_11 : decode cX9_firstIn 11 = .ok (.aload_n 0, 1) := by decide +kernel
theorem dX9_firstIn_12 : decode cX9_firstIn 12 = .ok (.getfield 33, 3) := by decide +kernel
theorem dX9_firstIn_15 : decode cX9_firstIn 15 = .ok (.iconst 0, 1) := by decide +kernel
theorem dX9_firstIn_16 : decode cX9_firstIn 16 = .ok (.iaload, 1) := by decide +kernel
theorem dX9_firstIn_17 : decode cX9_firstIn 17 = .ok (.ireturn, 1) := by decide +kernel
theorem dX9_agreements_0 : decode cX9_agreements 0 = .ok (.aload_n 0, 1) := by decide +kernel
theorem dX9_agreements_1 : decode cX9_agreements 1 = .ok (.iload_n 1, 1) := by decide +kernel
theorem dX9_agreements_2 : decode cX9_agreements 2 = .ok (.invokevirtual 295, 3) := by decide +kernel
theorem dX9_agreements_5 : decode cX9_agreements 5 = .ok (.ifCond .ne 29, 3) := by decide +kernel
theorem dX9_agreements_8 : decode cX9_agreements 8 = .ok (.aload_n 0, 1) := by decide +kernel
theorem dX9_agreements_9 : decode cX9_agreements 9 = .ok (.iload_n 2, 1) := by decide +kernel
theorem dX9_agreements_10 : decode cX9_agreements 10 = .ok (.invokevirtual 295, 3) := by decide +kernel
theorem dX9_agreements_13 : decode cX9_agreements 13 = .ok (.ifCond .ne 21, 3) := by decide +kernel
theorem dX9_agreements_16 : decode cX9_agreements 16 = .ok (.aload_n 0, 1) := by decide +kernel
theorem dX9_agreements_17 : decode cX9_agreements 17 = .ok (.iload_n 1, 1) := by decide +kernel
theorem dX9_agreements_18 : decode cX9_agreements 18 = .ok (.iload_n 2, 1) := by decide +kernel
theorem dX9_agreements_19 : decode cX9_agreements 19 = .ok (.if_icmp .ne 7, 3) := by decide +kernel
theorem dX9_agreements_22 : decode cX9_agreements 22 = .ok (.iconst 1, 1) := by decide +kernel
theorem dX9_agreements_23 : decode cX9_agreements 23 = .ok (.goto 4, 3) := by decide +kernel
theorem dX9_agreements_26 : decode cX9_agreements 26 = .ok (.iconst 0, 1) := by decide +kernel
theorem dX9_agreements_27 : decode cX9_agreements 27 = .ok (.iconst 2, 1) := by decide +kernel
theorem dX9_agreements_28 : decode cX9_agreements 28 = .ok (.invokevirtual 189, 3) := by decide +kernel
theorem dX9_agreements_31 : decode cX9_agreements 31 = .ok (.ifCond .eq 5, 3) := by decide +kernel
theorem dX9_agreements_34 : decode cX9_agreements 34 = .ok (.iconst 0, 1) := by decide +kernel
theorem dX9_agreements_35 : decode cX9_agreements 35 = .ok (.ireturn, 1) := by decide +kernel
theorem dX9_agreements_36 : decode cX9_agreements 36 = .ok (.aload_n 0, 1) := by decide +kernel
theorem dX9_agreements_37 : decode cX9_agreements 37 = .ok (.invokevirtual 319, 3) := by decide +kernel
theorem dX9_agreements_40 : decode cX9_agreements 40 = .ok (.aload_n 0, 1) := by decide +kernel
theorem dX9_agreements_41 : decode cX9_agreements 41 = .ok (.iload_n 1, 1) := by decide +kernel
theorem dX9_agreements_42 : decode cX9_agreements 42 = .ok (.invokevirtual 322, 3) := by decide +kernel
theorem dX9_agreements_45 : decode cX9_agreements 45 = .ok (.aload_n 0, 1) := by decide +kernel
theorem dX9_agreements_46 : decode cX9_agreements 46 = .ok (.iload_n 2, 1) := by decide +kernel
theorem dX9_agreements_47 : decode cX9_agreements 47 = .ok (.invokevirtual 322, 3) := by decide +kernel
theorem dX9_agreements_50 : decode cX9_agreements 50 = .ok (.iconst 0, 1) := by decide +kernel
theorem dX9_agreements_51 : decode cX9_agreements 51 = .ok (.istore_n 3, 1) := by decide +kernel
theorem dX9_agreements_52 : decode cX9_agreements 52 = .ok (.iconst 0, 1) := by decide +kernel
theorem dX9_agreements_53 : decode cX9_agreements 53 = .ok (.istore 4, 2) := by decide +kernel
theorem dX9_agreements_55 : decode cX9_agreements 55 = .ok (.iload 4, 2) := by decide +kernel
theorem dX9_agreements_57 : decode cX9_agreements 57 = .ok (.sipush 729, 3) := by decide +kernel
theorem dX9_agreements_60 : decode cX9_agreements 60 = .ok (.if_icmp .ge 60, 3) := by decide +kernel
theorem dX9_agreements_63 : decode cX9_agreements 63 = .ok (.iload_n 3, 1) := by decide +kernel
theorem dX9_agreements_64 : decode cX9_agreements 64 = .ok (.aload_n 0, 1) := by decide +kernel
theorem dX9_agreements_65 : decode cX9_agreements 65 = .ok (.getfield 49, 3) := by decide +kernel
theorem dX9_agreements_68 : decode cX9_agreements 68 = .ok (.iload 4, 2) := by decide +kernel
theorem dX9_agreements_70 : decode cX9_agreements 70 = .ok (.baload, 1) := by decide +kernel
theorem dX9_agreements_71 : decode cX9_agreements 71 = .ok (.ifCond .eq 40, 3) := by decide +kernel
theorem dX9_agreements_74 : decode cX9_agreements 74 = .ok (.aload_n 0, 1) := by decide +kernel
theorem dX9_agreements_75 : decode cX9_agreements 75 = .ok (.iload_n 1, 1) := by decide +kernel
theorem dX9_agreements_76 : decode cX9_agreements 76 = .ok (.iload 4, 2) := by decide +kernel
theorem dX9_agreements_78 : decode cX9_agreements 78 = .ok (.bipush 27, 2) := by decide +kernel
theorem dX9_agreements_80 : decode cX9_agreements 80 = .ok (.idiv, 1) := by decide +kernel
theorem dX9_agreements_81 : decode cX9_agreements 81 = .ok (.iload 4, 2) := by decide +kernel
theorem dX9_agreements_83 : decode cX9_agreements 83 = .ok (.bipush 27, 2) := by decide +kernel
theorem dX9_agreements_85 : decode cX9_agreements 85 = .ok (.irem, 1) := by decide +kernel
theorem dX9_agreements_86 : decode cX9_agreements 86 = .ok (.invokevirtual 357, 3) := by decide +kernel
theorem dX9_agreements_89 : decode cX9_agreements 89 = .ok (.aload_n 0, 1) := by decide +kernel
theorem dX9_agreements_90 : decode cX9_agreements 90 = .ok (.iload_n 2, 1) := by decide +kernel
theorem dX9_agreements_91 : decode cX9_agreements 91 = .ok (.iload 4, 2) := by decide +kernel
theorem dX9_agreements_93 : decode cX9_agreements 93 = .ok (.bipush 27, 2) := by decide +kernel
theorem dX9_agreements_95 : decode cX9_agreements 95 = .ok (.idiv, 1) := by decide +kernel
theorem dX9_agreements_96 : decode cX9_agreements 96 = .ok (.iload 4, 2) := by decide +kernel
theorem dX9_agreements_98 : decode cX9_agreements 98 = .ok (.bipush 27, 2) := by decide +kernel
theorem dX9_agreements_100 : decode cX9_agreements 100 = .ok (.irem, 1) := by decide +kernel
theorem dX9_agreements_101 : decode cX9_agreements 101 = .ok (.invokevirtual 357, 3) := by decide +kernel
theorem dX9_agreements_104 : decode cX9_agreements 104 = .ok (.if_icmp .ne 7, 3) := by decide +kernel
theorem dX9_agreements_107 : decode cX9_agreements 107 = .ok (.iconst 1, 1) := by decide +kernel
theorem dX9_agreements_108 : decode cX9_agreements 108 = .ok (.goto 4, 3) := by decide +kernel
theorem dX9_agreements_111 : decode cX9_agreements 111 = .ok (.iconst 0, 1) := by decide +kernel
theorem dX9_agreements_112 : decode cX9_agreements 112 = .ok (.iadd, 1) := by decide +kernel
theorem dX9_agreements_113 : decode cX9_agreements 113 = .ok (.istore_n 3, 1) := by decide +kernel
theorem dX9_agreements_114 : decode cX9_agreements 114 = .ok (.iinc 4 1, 3) := by decide +kernel
theorem dX9_agreements_117 : decode cX9_agreements 117 = .ok (.goto (-62), 3) := by decide +kernel
theorem dX9_agreements_120 : decode cX9_agreements 120 = .ok (.iload_n 3, 1) := by decide +kernel
theorem dX9_agreements_121 : decode cX9_agreements 121 = .ok (.ireturn, 1) := by decide +kernel
theorem dX9_addReader_0 : decode cX9_addReader 0 = .ok (.aload_n 0, 1) := by decide +kernel
theorem dX9_addReader_1 : decode cX9_addReader 1 = .ok (.iload_n 1, 1) := by decide +kernel
theorem dX9_addReader_2 : decode cX9_addReader 2 = .ok (.iconst 0, 1) := by decide +kernel
theorem dX9_addReader_3 : decode cX9_addReader 3 = .ok (.iconst 2, 1) := by decide +kernel
theorem dX9_addReader_4 : decode cX9_addReader 4 = .ok (.invokevirtual 196, 3) := by decide +kernel
theorem dX9_addReader_7 : decode cX9_addReader 7 = .ok (.ifCond .eq 5, 3) := by decide +kernel
theorem dX9_addReader_10 : decode cX9_addReader 10 = .ok (.iconst 0, 1) := by decide +kernel
theorem dX9_addReader_11 : decode cX9_addReader 11 = .ok (.ireturn, 1) := by decide +kernel
theorem dX9_addReader_12 : decode cX9_addReader 12 = .ok (.aload_n 0, 1) := by decide +kernel
theorem dX9_addReader_13 : decode cX9_addReader 13 = .ok (.iconst 0, 1) := by decide +kernel
theorem dX9_addReader_14 : decode cX9_addReader 14 = .ok (.aload_n 0, 1) := by decide +kernel
theorem dX9_addReader_15 : decode cX9_addReader 15 = .ok (.getfield 68, 3) := by decide +kernel
theorem dX9_addReader_18 : decode cX9_addReader 18 = .ok (.invokevirtual 237, 3) := by decide +kernel
theorem dX9_addReader_21 : decode cX9_addReader 21 = .ok (.istore_n 2, 1) := by decide +kernel
theorem dX9_addReader_22 : decode cX9_addReader 22 = .ok (.aload_n 0, 1) := by decide +kernel
theorem dX9_addReader_23 : decode cX9_addReader 23 = .ok (.iload_n 2, 1) := by decide +kernel
theorem dX9_addReader_24 : decode cX9_addReader 24 = .ok (.iconst (-1), 1) := by decide +kernel
theorem dX9_addReader_25 : decode cX9_addReader 25 = .ok (.if_icmp .ne 7, 3) := by decide +kernel
theorem dX9_addReader_28 : decode cX9_addReader 28 = .ok (.iconst 1, 1) := by decide +kernel
theorem dX9_addReader_29 : decode cX9_addReader 29 = .ok (.goto 4, 3) := by decide +kernel
theorem dX9_addReader_32 : decode cX9_addReader 32 = .ok (.iconst 0, 1) := by decide +kernel
theorem dX9_addReader_33 : decode cX9_addReader 33 = .ok (.iconst 1, 1) := by decide +kernel
theorem dX9_addReader_34 : decode cX9_addReader 34 = .ok (.invokevirtual 189, 3) := by decide +kernel
theorem dX9_addReader_37 : decode cX9_addReader 37 = .ok (.ifCond .ne 38, 3) := by decide +kernel
theorem dX9_addReader_40 : decode cX9_addReader 40 = .ok (.aload_n 0, 1) := by decide +kernel
theorem dX9_addReader_41 : decode cX9_addReader 41 = .ok (.aload_n 0, 1) := by decide +kernel
theorem dX9_addReader_42 : decode cX9_addReader 42 = .ok (.getfield 7, 3) := by decide +kernel
theorem dX9_addReader_45 : decode cX9_addReader 45 = .ok (.iconst 2, 1) := by decide +kernel
theorem dX9_addReader_46 : decode cX9_addReader 46 = .ok (.iaload, 1) := by decide +kernel
theorem dX9_addReader_47 : decode cX9_addReader 47 = .ok (.iconst 4, 1) := by decide +kernel
theorem dX9_addReader_48 : decode cX9_addReader 48 = .ok (.if_icmp .eq 15, 3) := by decide +kernel
theorem dX9_addReader_51 : decode cX9_addReader 51 = .ok (.aload_n 0, 1) := by decide +kernel
theorem dX9_addReader_52 : decode cX9_addReader 52 = .ok (.getfield 7, 3) := by decide +kernel
theorem dX9_addReader_55 : decode cX9_addReader 55 = .ok (.iload_n 2, 1) := by decide +kernel
theorem dX9_addReader_56 : decode cX9_addReader 56 = .ok (.invokestatic 240, 3) := by decide +kernel
theorem dX9_addReader_59 : decode cX9_addReader 59 = .ok (.iconst (-1), 1) := by decide +kernel
theorem dX9_addReader_60 : decode cX9_addReader 60 = .ok (.if_icmp .eq 7, 3) := by decide +kernel
theorem dX9_addReader_63 : decode cX9_addReader 63 = .ok (.iconst 1, 1) := by decide +kernel
theorem dX9_addReader_64 : decode cX9_addReader 64 = .ok (.goto 4, 3) := by decide +kernel
theorem dX9_addReader_67 : decode cX9_addReader 67 = .ok (.iconst 0, 1) := by decide +kernel
theorem dX9_addReader_68 : decode cX9_addReader 68 = .ok (.iconst 2, 1) := by decide +kernel
theorem dX9_addReader_69 : decode cX9_addReader 69 = .ok (.invokevirtual 189, 3) := by decide +kernel
theorem dX9_addReader_72 : decode cX9_addReader 72 = .ok (.ifCond .eq 5, 3) := by decide +kernel
theorem dX9_addReader_75 : decode cX9_addReader 75 = .ok (.iconst 0, 1) := by decide +kernel
theorem dX9_addReader_76 : decode cX9_addReader 76 = .ok (.ireturn, 1) := by decide +kernel
theorem dX9_addReader_77 : decode cX9_addReader 77 = .ok (.aload_n 0, 1) := by decide +kernel
theorem dX9_addReader_78 : decode cX9_addReader 78 = .ok (.invokevirtual 286, 3) := by decide +kernel
theorem dX9_addReader_81 : decode cX9_addReader 81 = .ok (.aload_n 0, 1) := by decide +kernel
theorem dX9_addReader_82 : decode cX9_addReader 82 = .ok (.iconst 0, 1) := by decide +kernel
theorem dX9_addReader_83 : decode cX9_addReader 83 = .ok (.putfield 68, 3) := by decide +kernel
theorem dX9_addReader_86 : decode cX9_addReader 86 = .ok (.aload_n 0, 1) := by decide +kernel
theorem dX9_addReader_87 : decode cX9_addReader 87 = .ok (.getfield 7, 3) := by decide +kernel
theorem dX9_addReader_90 : decode cX9_addReader 90 = .ok (.iload_n 2, 1) := by decide +kernel
theorem dX9_addReader_91 : decode cX9_addReader 91 = .ok (.iload_n 1, 1) := by decide +kernel
theorem dX9_addReader_92 : decode cX9_addReader 92 = .ok (.invokestatic 256, 3) := by decide +kernel
theorem dX9_addReader_95 : decode cX9_addReader 95 = .ok (.ireturn, 1) := by decide +kernel
theorem dX9_isDocument_0 : decode cX9_isDocument 0 = .ok (.aload_n 0, 1) := by decide +kernel
theorem dX9_isDocument_1 : decode cX9_isDocument 1 = .ok (.getfield 68, 3) := by decide +kernel
theorem dX9_isDocument_4 : decode cX9_isDocument 4 = .ok (.iconst 1, 1) := by decide +kernel
theorem dX9_isDocument_5 : decode cX9_isDocument 5 = .ok (.bipush 40, 2) := by decide +kernel
theorem dX9_isDocument_7 : decode cX9_isDocument 7 = .ok (.invokestatic 128, 3) := by decide +kernel
theorem dX9_isDocument_10 : decode cX9_isDocument 10 = .ok (.istore_n 1, 1) := by decide +kernel
theorem dX9_isDocument_11 : decode cX9_isDocument 11 = .ok (.iconst 0, 1) := by decide +kernel
theorem dX9_isDocument_12 : decode cX9_isDocument 12 = .ok (.istore_n 2, 1) := by decide +kernel
theorem dX9_isDocument_13 : decode cX9_isDocument 13 = .ok (.iload_n 1, 1) := by decide +kernel
theorem dX9_isDocument_14 : decode cX9_isDocument 14 = .ok (.ifCond .eq 27, 3) := by decide +kernel
theorem dX9_isDocument_17 : decode cX9_isDocument 17 = .ok (.iload_n 2, 1) := by decide +kernel
theorem dX9_isDocument_18 : decode cX9_isDocument 18 = .ok (.aload_n 0, 1) := by decide +kernel
theorem dX9_isDocument_19 : decode cX9_isDocument 19 = .ok (.getfield 68, 3) := by decide +kernel
theorem dX9_isDocument_22 : decode cX9_isDocument 22 = .ok (.if_icmp .ge 19, 3) := by decide +kernel
theorem dX9_isDocument_25 : decode cX9_isDocument 25 = .ok (.aload_n 0, 1) := by decide +kernel
theorem dX9_isDocument_26 : decode cX9_isDocument 26 = .ok (.getfield 42, 3) := by decide +kernel
theorem dX9_isDocument_29 : decode cX9_isDocument 29 = .ok (.iload_n 2, 1) := by decide +kernel
theorem dX9_isDocument_30 : decode cX9_isDocument 30 = .ok (.iaload, 1) := by decide +kernel
theorem dX9_isDocument_31 : decode cX9_isDocument 31 = .ok (.invokestatic 224, 3) := by decide +kernel
theorem dX9_isDocument_34 : decode cX9_isDocument 34 = .ok (.istore_n 1, 1) := by decide +kernel
theorem dX9_isDocument_35 : decode cX9_isDocument 35 = .ok (.iinc 2 1, 3) := by decide +kernel
theorem dX9_isDocument_38 : decode cX9_isDocument 38 = .ok (.goto (-25), 3) := by decide +kernel
theorem dX9_isDocument_41 : decode cX9_isDocument 41 = .ok (.iload_n 1, 1) := by decide +kernel
theorem dX9_isDocument_42 : decode cX9_isDocument 42 = .ok (.ireturn, 1) := by decide +kernel
theorem dX9_addDocument_0 : decode cX9_addDocument 0 = .ok (.aload_n 0, 1) := by decide +kernel
theorem dX9_addDocument_1 : decode cX9_addDocument 1 = .ok (.iconst 0, 1) := by decide +kernel
theorem dX9_addDocument_2 : decode cX9_addDocument 2 = .ok (.putfield 85, 3) := by decide +kernel
theorem dX9_addDocument_5 : decode cX9_addDocument 5 = .ok (.aload_n 0, 1) := by decide +kernel
theorem dX9_addDocument_6 : decode cX9_addDocument 6 = .ok (.aload_n 0, 1) := by decide +kernel
theorem dX9_addDocument_7 : decode cX9_addDocument 7 = .ok (.invokevirtual 360, 3) := by decide +kernel
theorem dX9_addDocument_10 : decode cX9_addDocument 10 = .ok (.ifCond .ne 7, 3) := by decide +kernel
theorem dX9_addDocument_13 : decode cX9_addDocument 13 = .ok (.iconst 1, 1) := by decide +kernel
theorem dX9_addDocument_14 : decode cX9_addDocument 14 = .ok (.goto 4, 3) := by decide +kernel
theorem dX9_addDocument_17 : decode cX9_addDocument 17 = .ok (.iconst 0, 1) := by decide +kernel
theorem dX9_addDocument_18 : decode cX9_addDocument 18 = .ok (.iconst 1, 1) := by decide +kernel
theorem dX9_addDocument_19 : decode cX9_addDocument 19 = .ok (.invokevirtual 189, 3) := by decide +kernel
theorem dX9_addDocument_22 : decode cX9_addDocument 22 = .ok (.ifCond .ne 27, 3) := by decide +kernel
theorem dX9_addDocument_25 : decode cX9_addDocument 25 = .ok (.aload_n 0, 1) := by decide +kernel
theorem dX9_addDocument_26 : decode cX9_addDocument 26 = .ok (.aload_n 0, 1) := by decide +kernel
theorem dX9_addDocument_27 : decode cX9_addDocument 27 = .ok (.getfield 7, 3) := by decide +kernel
theorem dX9_addDocument_30 : decode cX9_addDocument 30 = .ok (.iconst 1, 1) := by decide +kernel
theorem dX9_addDocument_31 : decode cX9_addDocument 31 = .ok (.iaload, 1) := by decide +kernel
theorem dX9_addDocument_32 : decode cX9_addDocument 32 = .ok (.bipush 8, 2) := by decide +kernel
theorem dX9_addDocument_34 : decode cX9_addDocument 34 = .ok (.if_icmp .ne 7, 3) := by decide +kernel
theorem dX9_addDocument_37 : decode cX9_addDocument 37 = .ok (.iconst 1, 1) := by decide +kernel
theorem dX9_addDocument_38 : decode cX9_addDocument 38 = .ok (.goto 4, 3) := by decide +kernel
theorem dX9_addDocument_41 : decode cX9_addDocument 41 = .ok (.iconst 0, 1) := by decide +kernel
theorem dX9_addDocument_42 : decode cX9_addDocument 42 = .ok (.iconst 2, 1) := by decide +kernel
theorem dX9_addDocument_43 : decode cX9_addDocument 43 = .ok (.invokevirtual 189, 3) := by decide +kernel
theorem dX9_addDocument_46 : decode cX9_addDocument 46 = .ok (.ifCond .eq 5, 3) := by decide +kernel
theorem dX9_addDocument_49 : decode cX9_addDocument 49 = .ok (.iconst 0, 1) := by decide +kernel
theorem dX9_addDocument_50 : decode cX9_addDocument 50 = .ok (.ireturn, 1) := by decide +kernel
theorem dX9_addDocument_51 : decode cX9_addDocument 51 = .ok (.aload_n 0, 1) := by decide +kernel
theorem dX9_addDocument_52 : decode cX9_addDocument 52 = .ok (.invokevirtual 286, 3) := by decide +kernel
theorem dX9_addDocument_55 : decode cX9_addDocument 55 = .ok (.aload_n 0, 1) := by decide +kernel
theorem dX9_addDocument_56 : decode cX9_addDocument 56 = .ok (.aload_n 0, 1) := by decide +kernel
theorem dX9_addDocument_57 : decode cX9_addDocument 57 = .ok (.getfield 7, 3) := by decide +kernel
theorem dX9_addDocument_60 : decode cX9_addDocument 60 = .ok (.iconst 0, 1) := by decide +kernel
theorem dX9_addDocument_61 : decode cX9_addDocument 61 = .ok (.aload_n 0, 1) := by decide +kernel
theorem dX9_addDocument_62 : decode cX9_addDocument 62 = .ok (.getfield 68, 3) := by decide +kernel
theorem dX9_addDocument_65 : decode cX9_addDocument 65 = .ok (.invokevirtual 259, 3) := by decide +kernel
theorem dX9_addDocument_68 : decode cX9_addDocument 68 = .ok (.istore_n 1, 1) := by decide +kernel
theorem dX9_addDocument_69 : decode cX9_addDocument 69 = .ok (.aload_n 0, 1) := by decide +kernel
theorem dX9_addDocument_70 : decode cX9_addDocument 70 = .ok (.iconst 0, 1) := by decide +kernel
theorem dX9_addDocument_71 : decode cX9_addDocument 71 = .ok (.putfield 68, 3) := by decide +kernel
theorem dX9_addDocument_74 : decode cX9_addDocument 74 = .ok (.iload_n 1, 1) := by decide +kernel
theorem dX9_addDocument_75 : decode cX9_addDocument 75 = .ok (.ireturn, 1) := by decide +kernel
theorem dX9_train_0 : decode cX9_train 0 = .ok (.aload_n 0, 1) := by decide +kernel
theorem dX9_train_1 : decode cX9_train 1 = .ok (.iload_n 1, 1) := by decide +kernel
theorem dX9_train_2 : decode cX9_train 2 = .ok (.iload_n 2, 1) := by decide +kernel
theorem dX9_train_3 : decode cX9_train 3 = .ok (.invokevirtual 328, 3) := by decide +kernel
theorem dX9_train_6 : decode cX9_train 6 = .ok (.ifCond .eq 5, 3) := by decide +kernel
theorem dX9_train_9 : decode cX9_train 9 = .ok (.iconst 0, 1) := by decide +kernel
theorem dX9_train_10 : decode cX9_train 10 = .ok (.ireturn, 1) := by decide +kernel
theorem dX9_train_11 : decode cX9_train 11 = .ok (.aload_n 0, 1) := by decide +kernel
theorem dX9_train_12 : decode cX9_train 12 = .ok (.invokevirtual 286, 3) := by decide +kernel
theorem dX9_train_15 : decode cX9_train 15 = .ok (.aload_n 0, 1) := by decide +kernel
theorem dX9_train_16 : decode cX9_train 16 = .ok (.getfield 7, 3) := by decide +kernel
theorem dX9_train_19 : decode cX9_train 19 = .ok (.iload_n 1, 1) := by decide +kernel
theorem dX9_train_20 : decode cX9_train 20 = .ok (.iload_n 2, 1) := by decide +kernel
theorem dX9_train_21 : decode cX9_train 21 = .ok (.invokestatic 262, 3) := by decide +kernel
theorem dX9_train_24 : decode cX9_train 24 = .ok (.aload_n 0, 1) := by decide +kernel
theorem dX9_train_25 : decode cX9_train 25 = .ok (.aload_n 0, 1) := by decide +kernel
theorem dX9_train_26 : decode cX9_train 26 = .ok (.getfield 7, 3) := by decide +kernel
theorem dX9_train_29 : decode cX9_train 29 = .ok (.iload_n 1, 1) := by decide +kernel
theorem dX9_train_30 : decode cX9_train 30 = .ok (.iload_n 2, 1) := by decide +kernel
theorem dX9_train_31 : decode cX9_train 31 = .ok (.invokevirtual 345, 3) := by decide +kernel
theorem dX9_train_34 : decode cX9_train 34 = .ok (.ireturn, 1) := by decide +kernel
theorem dX9_learn_0 : decode cX9_learn 0 = .ok (.aload_n 0, 1) := by decide +kernel
theorem dX9_learn_1 : decode cX9_learn 1 = .ok (.iload_n 1, 1) := by decide +kernel
theorem dX9_learn_2 : decode cX9_learn 2 = .ok (.iload_n 2, 1) := by decide +kernel
theorem dX9_learn_3 : decode cX9_learn 3 = .ok (.invokevirtual 328, 3) := by decide +kernel
theorem dX9_learn_6 : decode cX9_learn 6 = .ok (.ifCond .eq 5, 3) := by decide +kernel
theorem dX9_learn_9 : decode cX9_learn 9 = .ok (.iconst 0, 1) := by decide +kernel
theorem dX9_learn_10 : decode cX9_learn 10 = .ok (.ireturn, 1) := by decide +kernel
theorem dX9_learn_11 : decode cX9_learn 11 = .ok (.aload_n 0, 1) := by decide +kernel
theorem dX9_learn_12 : decode cX9_learn 12 = .ok (.invokevirtual 286, 3) := by decide +kernel
theorem dX9_learn_15 : decode cX9_learn 15 = .ok (.aload_n 0, 1) := by decide +kernel
theorem dX9_learn_16 : decode cX9_learn 16 = .ok (.aload_n 0, 1) := by decide +kernel
theorem dX9_learn_17 : decode cX9_learn 17 = .ok (.getfield 7, 3) := by decide +kernel
theorem dX9_learn_20 : decode cX9_learn 20 = .ok (.iload_n 1, 1) := by decide +kernel
theorem dX9_learn_21 : decode cX9_learn 21 = .ok (.iload_n 2, 1) := by decide +kernel
theorem dX9_learn_22 : decode cX9_learn 22 = .ok (.invokevirtual 351, 3) := by decide +kernel
theorem dX9_learn_25 : decode cX9_learn 25 = .ok (.ireturn, 1) := by decide +kernel
theorem dX9_forget_0 : decode cX9_forget 0 = .ok (.aload_n 0, 1) := by decide +kernel
theorem dX9_forget_1 : decode cX9_forget 1 = .ok (.iload_n 1, 1) := by decide +kernel
theorem dX9_forget_2 : decode cX9_forget 2 = .ok (.invokevirtual 295, 3) := by decide +kernel
theorem dX9_forget_5 : decode cX9_forget 5 = .ok (.ifCond .eq 5, 3) := by decide +kernel
theorem dX9_forget_8 : decode cX9_forget 8 = .ok (.iconst 0, 1) := by decide +kernel
theorem dX9_forget_9 : decode cX9_forget 9 = .ok (.ireturn, 1) := by decide +kernel
theorem dX9_forget_10 : decode cX9_forget 10 = .ok (.aload_n 0, 1) := by decide +kernel
theorem dX9_forget_11 : decode cX9_forget 11 = .ok (.invokevirtual 286, 3) := by decide +kernel
theorem dX9_forget_14 : decode cX9_forget 14 = .ok (.aload_n 0, 1) := by decide +kernel
theorem dX9_forget_15 : decode cX9_forget 15 = .ok (.getfield 7, 3) := by decide +kernel
theorem dX9_forget_18 : decode cX9_forget 18 = .ok (.iload_n 1, 1) := by decide +kernel
theorem dX9_forget_19 : decode cX9_forget 19 = .ok (.invokestatic 325, 3) := by decide +kernel
theorem dX9_forget_22 : decode cX9_forget 22 = .ok (.istore_n 2, 1) := by decide +kernel
theorem dX9_forget_23 : decode cX9_forget 23 = .ok (.iload_n 1, 1) := by decide +kernel
theorem dX9_forget_24 : decode cX9_forget 24 = .ok (.invokestatic 92, 3) := by decide +kernel
theorem dX9_forget_27 : decode cX9_forget 27 = .ok (.istore_n 3, 1) := by decide +kernel
theorem dX9_forget_28 : decode cX9_forget 28 = .ok (.aload_n 0, 1) := by decide +kernel
theorem dX9_forget_29 : decode cX9_forget 29 = .ok (.getfield 7, 3) := by decide +kernel
theorem dX9_forget_32 : decode cX9_forget 32 = .ok (.iload_n 3, 1) := by decide +kernel
theorem dX9_forget_33 : decode cX9_forget 33 = .ok (.iconst 2, 1) := by decide +kernel
theorem dX9_forget_34 : decode cX9_forget 34 = .ok (.iadd, 1) := by decide +kernel
theorem dX9_forget_35 : decode cX9_forget 35 = .ok (.iconst 0, 1) := by decide +kernel
theorem dX9_forget_36 : decode cX9_forget 36 = .ok (.iastore, 1) := by decide +kernel
theorem dX9_forget_37 : decode cX9_forget 37 = .ok (.aload_n 0, 1) := by decide +kernel
theorem dX9_forget_38 : decode cX9_forget 38 = .ok (.getfield 7, 3) := by decide +kernel
theorem dX9_forget_41 : decode cX9_forget 41 = .ok (.iload_n 3, 1) := by decide +kernel
theorem dX9_forget_42 : decode cX9_forget 42 = .ok (.bipush 11, 2) := by decide +kernel
theorem dX9_forget_44 : decode cX9_forget 44 = .ok (.iadd, 1) := by decide +kernel
theorem dX9_forget_45 : decode cX9_forget 45 = .ok (.iconst 0, 1) := by decide +kernel
theorem dX9_forget_46 : decode cX9_forget 46 = .ok (.iastore, 1) := by decide +kernel
theorem dX9_forget_47 : decode cX9_forget 47 = .ok (.iconst 0, 1) := by decide +kernel
theorem dX9_forget_48 : decode cX9_forget 48 = .ok (.istore 4, 2) := by decide +kernel
theorem dX9_forget_50 : decode cX9_forget 50 = .ok (.iload 4, 2) := by decide +kernel
theorem dX9_forget_52 : decode cX9_forget 52 = .ok (.bipush 8, 2) := by decide +kernel
theorem dX9_forget_54 : decode cX9_forget 54 = .ok (.if_icmp .ge 21, 3) := by decide +kernel
theorem dX9_forget_57 : decode cX9_forget 57 = .ok (.aload_n 0, 1) := by decide +kernel
theorem dX9_forget_58 : decode cX9_forget 58 = .ok (.getfield 7, 3) := by decide +kernel
theorem dX9_forget_61 : decode cX9_forget 61 = .ok (.iload_n 3, 1) := by decide +kernel
theorem dX9_forget_62 : decode cX9_forget 62 = .ok (.iconst 3, 1) := by decide +kernel
theorem dX9_forget_63 : decode cX9_forget 63 = .ok (.iadd, 1) := by decide +kernel
theorem dX9_forget_64 : decode cX9_forget 64 = .ok (.iload 4, 2) := by decide +kernel
theorem dX9_forget_66 : decode cX9_forget 66 = .ok (.iadd, 1) := by decide +kernel
theorem dX9_forget_67 : decode cX9_forget 67 = .ok (.iconst 0, 1) := by decide +kernel
theorem dX9_forget_68 : decode cX9_forget 68 = .ok (.iastore, 1) := by decide +kernel
theorem dX9_forget_69 : decode cX9_forget 69 = .ok (.iinc 4 1, 3) := by decide +kernel
theorem dX9_forget_72 : decode cX9_forget 72 = .ok (.goto (-22), 3) := by decide +kernel
theorem dX9_forget_75 : decode cX9_forget 75 = .ok (.iload_n 2, 1) := by decide +kernel
theorem dX9_forget_76 : decode cX9_forget 76 = .ok (.ireturn, 1) := by decide +kernel
theorem dX9_setEscapeMethod_0 : decode cX9_setEscapeMethod 0 = .ok (.aload_n 0, 1) := by decide +kernel
theorem dX9_setEscapeMethod_1 : decode cX9_setEscapeMethod 1 = .ok (.iload_n 1, 1) := by decide +kernel
theorem dX9_setEscapeMethod_2 : decode cX9_setEscapeMethod 2 = .ok (.invokevirtual 295, 3) := by decide +kernel
theorem dX9_setEscapeMethod_5 : decode cX9_setEscapeMethod 5 = .ok (.ifCond .ne 13, 3) := by decide +kernel
theorem dX9_setEscapeMethod_8 : decode cX9_setEscapeMethod 8 = .ok (.aload_n 0, 1) := by decide +kernel
theorem dX9_setEscapeMethod_9 : decode cX9_setEscapeMethod 9 = .ok (.iload_n 2, 1) := by decide +kernel
theorem dX9_setEscapeMethod_10 : decode cX9_setEscapeMethod 10 = .ok (.iconst 0, 1) := by decide +kernel
theorem dX9_setEscapeMethod_11 : decode cX9_setEscapeMethod 11 = .ok (.iconst 2, 1) := by decide +kernel
theorem dX9_setEscapeMethod_12 : decode cX9_setEscapeMethod 12 = .ok (.invokevirtual 301, 3) := by decide +kernel
theorem dX9_setEscapeMethod_15 : decode cX9_setEscapeMethod 15 = .ok (.ifCond .eq 5, 3) := by decide +kernel
theorem dX9_setEscapeMethod_18 : decode cX9_setEscapeMethod 18 = .ok (.iconst 0, 1) := by decide +kernel
theorem dX9_setEscapeMethod_19 : decode cX9_setEscapeMethod 19 = .ok (.ireturn, 1) := by decide +kernel
theorem dX9_setEscapeMethod_20 : decode cX9_setEscapeMethod 20 = .ok (.aload_n 0, 1) := by decide +kernel
theorem dX9_setEscapeMethod_21 : decode cX9_setEscapeMethod 21 = .ok (.invokevirtual 286, 3) := by decide +kernel
theorem dX9_setEscapeMethod_24 : decode cX9_setEscapeMethod 24 = .ok (.aload_n 0, 1) := by decide +kernel
theorem dX9_setEscapeMethod_25 : decode cX9_setEscapeMethod 25 = .ok (.getfield 7, 3) := by decide +kernel
theorem dX9_setEscapeMethod_28 : decode cX9_setEscapeMethod 28 = .ok (.iload_n 1, 1) := by decide +kernel
theorem dX9_setEscapeMethod_29 : decode cX9_setEscapeMethod 29 = .ok (.invokestatic 92, 3) := by decide +kernel
theorem dX9_setEscapeMethod_32 : decode cX9_setEscapeMethod 32 = .ok (.iconst 1, 1) := by decide +kernel
theorem dX9_setEscapeMethod_33 : decode cX9_setEscapeMethod 33 = .ok (.iadd, 1) := by decide +kernel
theorem dX9_setEscapeMethod_34 : decode cX9_setEscapeMethod 34 = .ok (.iaload, 1) := by decide +kernel
theorem dX9_setEscapeMethod_35 : decode cX9_setEscapeMethod 35 = .ok (.istore_n 3, 1) := by decide +kernel
theorem dX9_setEscapeMethod_36 : decode cX9_setEscapeMethod 36 = .ok (.aload_n 0, 1) := by decide +kernel
theorem dX9_setEscapeMethod_37 : decode cX9_setEscapeMethod 37 = .ok (.getfield 7, 3) := by decide +kernel
theorem dX9_setEscapeMethod_40 : decode cX9_setEscapeMethod 40 = .ok (.iload_n 1, 1) := by decide +kernel
theorem dX9_setEscapeMethod_41 : decode cX9_setEscapeMethod 41 = .ok (.invokestatic 92, 3) := by decide +kernel
theorem dX9_setEscapeMethod_44 : decode cX9_setEscapeMethod 44 = .ok (.iconst 1, 1) := by decide +kernel
theorem dX9_setEscapeMethod_45 : decode cX9_setEscapeMethod 45 = .ok (.iadd, 1) := by decide +kernel
theorem dX9_setEscapeMethod_46 : decode cX9_setEscapeMethod 46 = .ok (.iload_n 2, 1) := by decide +kernel
theorem dX9_setEscapeMethod_47 : decode cX9_setEscapeMethod 47 = .ok (.iastore, 1) := by decide +kernel
theorem dX9_setEscapeMethod_48 : decode cX9_setEscapeMethod 48 = .ok (.iload_n 3, 1) := by decide +kernel
theorem dX9_setEscapeMethod_49 : decode cX9_setEscapeMethod 49 = .ok (.ireturn, 1) := by decide +kernel
theorem dX9_endYear_0 : decode cX9_endYear 0 = .ok (.aload_n 0, 1) := by decide +kernel
theorem dX9_endYear_1 : decode cX9_endYear 1 = .ok (.iconst 0, 1) := by decide +kernel
theorem dX9_endYear_2 : decode cX9_endYear 2 = .ok (.putfield 85, 3) := by decide +kernel
theorem dX9_endYear_5 : decode cX9_endYear 5 = .ok (.aload_n 0, 1) := by decide +kernel
theorem dX9_endYear_6 : decode cX9_endYear 6 = .ok (.invokevirtual 286, 3) := by decide +kernel
theorem dX9_endYear_9 : decode cX9_endYear 9 = .ok (.aload_n 0, 1) := by decide +kernel
theorem dX9_endYear_10 : decode cX9_endYear 10 = .ok (.getfield 7, 3) := by decide +kernel
theorem dX9_endYear_13 : decode cX9_endYear 13 = .ok (.invokestatic 282, 3) := by decide +kernel
theorem dX9_endYear_16 : decode cX9_endYear 16 = .ok (.aload_n 0, 1) := by decide +kernel
theorem dX9_endYear_17 : decode cX9_endYear 17 = .ok (.getfield 7, 3) := by decide +kernel
theorem dX9_endYear_20 : decode cX9_endYear 20 = .ok (.iconst 0, 1) := by decide +kernel
theorem dX9_endYear_21 : decode cX9_endYear 21 = .ok (.iaload, 1) := by decide +kernel
theorem dX9_endYear_22 : decode cX9_endYear 22 = .ok (.ireturn, 1) := by decide +kernel
theorem dX9_merge_0 : decode cX9_merge 0 = .ok (.aload_n 0, 1) := by decide +kernel
theorem dX9_merge_1 : decode cX9_merge 1 = .ok (.iload_n 1, 1) := by decide +kernel
theorem dX9_merge_2 : decode cX9_merge 2 = .ok (.invokevirtual 295, 3) := by decide +kernel
theorem dX9_merge_5 : decode cX9_merge 5 = .ok (.ifCond .ne 29, 3) := by decide +kernel
theorem dX9_merge_8 : decode cX9_merge 8 = .ok (.aload_n 0, 1) := by decide +kernel
theorem dX9_merge_9 : decode cX9_merge 9 = .ok (.iload_n 2, 1) := by decide +kernel
theorem dX9_merge_10 : decode cX9_merge 10 = .ok (.invokevirtual 295, 3) := by decide +kernel
theorem dX9_merge_13 : decode cX9_merge 13 = .ok (.ifCond .ne 21, 3) := by decide +kernel
theorem dX9_merge_16 : decode cX9_merge 16 = .ok (.aload_n 0, 1) := by decide +kernel
theorem dX9_merge_17 : decode cX9_merge 17 = .ok (.iload_n 1, 1) := by decide +kernel
theorem dX9_merge_18 : decode cX9_merge 18 = .ok (.iload_n 2, 1) := by decide +kernel
theorem dX9_merge_19 : decode cX9_merge 19 = .ok (.if_icmp .ne 7, 3) := by decide +kernel
theorem dX9_merge_22 : decode cX9_merge 22 = .ok (.iconst 1, 1) := by decide +kernel
theorem dX9_merge_23 : decode cX9_merge 23 = .ok (.goto 4, 3) := by decide +kernel
theorem dX9_merge_26 : decode cX9_merge 26 = .ok (.iconst 0, 1) := by decide +kernel
theorem dX9_merge_27 : decode cX9_merge 27 = .ok (.iconst 2, 1) := by decide +kernel
theorem dX9_merge_28 : decode cX9_merge 28 = .ok (.invokevirtual 189, 3) := by decide +kernel
theorem dX9_merge_31 : decode cX9_merge 31 = .ok (.ifCond .eq 5, 3) := by decide +kernel
theorem dX9_merge_34 : decode cX9_merge 34 = .ok (.iconst 0, 1) := by decide +kernel
theorem dX9_merge_35 : decode cX9_merge 35 = .ok (.ireturn, 1) := by decide +kernel
theorem dX9_merge_36 : decode cX9_merge 36 = .ok (.aload_n 0, 1) := by decide +kernel
theorem dX9_merge_37 : decode cX9_merge 37 = .ok (.invokevirtual 286, 3) := by decide +kernel
theorem dX9_merge_40 : decode cX9_merge 40 = .ok (.iconst 0, 1) := by decide +kernel
theorem dX9_merge_41 : decode cX9_merge 41 = .ok (.istore_n 3, 1) := by decide +kernel
theorem dX9_merge_42 : decode cX9_merge 42 = .ok (.iload_n 3, 1) := by decide +kernel
theorem dX9_merge_43 : decode cX9_merge 43 = .ok (.aload_n 0, 1) := by decide +kernel
theorem dX9_merge_44 : decode cX9_merge 44 = .ok (.getfield 7, 3) := by decide +kernel
theorem dX9_merge_47 : decode cX9_merge 47 = .ok (.iload_n 1, 1) := by decide +kernel
theorem dX9_merge_48 : decode cX9_merge 48 = .ok (.invokestatic 92, 3) := by decide +kernel
theorem dX9_merge_51 : decode cX9_merge 51 = .ok (.bipush 11, 2) := by decide +kernel
theorem dX9_merge_53 : decode cX9_merge 53 = .ok (.iadd, 1) := by decide +kernel
theorem dX9_merge_54 : decode cX9_merge 54 = .ok (.iaload, 1) := by decide +kernel
theorem dX9_merge_55 : decode cX9_merge 55 = .ok (.if_icmp .ge 39, 3) := by decide +kernel
theorem dX9_merge_58 : decode cX9_merge 58 = .ok (.aload_n 0, 1) := by decide +kernel
theorem dX9_merge_59 : decode cX9_merge 59 = .ok (.getfield 7, 3) := by decide +kernel
theorem dX9_merge_62 : decode cX9_merge 62 = .ok (.iload_n 2, 1) := by decide +kernel
theorem dX9_merge_63 : decode cX9_merge 63 = .ok (.aload_n 0, 1) := by decide +kernel
theorem dX9_merge_64 : decode cX9_merge 64 = .ok (.getfield 7, 3) := by decide +kernel
theorem dX9_merge_67 : decode cX9_merge 67 = .ok (.iload_n 1, 1) := by decide +kernel
theorem dX9_merge_68 : decode cX9_merge 68 = .ok (.iload_n 3, 1) := by decide +kernel
theorem dX9_merge_69 : decode cX9_merge 69 = .ok (.invokestatic 95, 3) := by decide +kernel
theorem dX9_merge_72 : decode cX9_merge 72 = .ok (.iaload, 1) := by decide +kernel
theorem dX9_merge_73 : decode cX9_merge 73 = .ok (.aload_n 0, 1) := by decide +kernel
theorem dX9_merge_74 : decode cX9_merge 74 = .ok (.getfield 7, 3) := by decide +kernel
theorem dX9_merge_77 : decode cX9_merge 77 = .ok (.iload_n 1, 1) := by decide +kernel
theorem dX9_merge_78 : decode cX9_merge 78 = .ok (.iload_n 3, 1) := by decide +kernel
theorem dX9_merge_79 : decode cX9_merge 79 = .ok (.invokestatic 95, 3) := by decide +kernel
theorem dX9_merge_82 : decode cX9_merge 82 = .ok (.iconst 1, 1) := by decide +kernel
theorem dX9_merge_83 : decode cX9_merge 83 = .ok (.iadd, 1) := by decide +kernel
theorem dX9_merge_84 : decode cX9_merge 84 = .ok (.iaload, 1) := by decide +kernel
theorem dX9_merge_85 : decode cX9_merge 85 = .ok (.invokestatic 110, 3) := by decide +kernel
theorem dX9_merge_88 : decode cX9_merge 88 = .ok (.iinc 3 1, 3) := by decide +kernel
theorem dX9_merge_91 : decode cX9_merge 91 = .ok (.goto (-49), 3) := by decide +kernel
theorem dX9_merge_94 : decode cX9_merge 94 = .ok (.iconst 0, 1) := by decide +kernel
theorem dX9_merge_95 : decode cX9_merge 95 = .ok (.istore_n 3, 1) := by decide +kernel
theorem dX9_merge_96 : decode cX9_merge 96 = .ok (.iload_n 3, 1) := by decide +kernel
theorem dX9_merge_97 : decode cX9_merge 97 = .ok (.bipush 8, 2) := by decide +kernel
theorem dX9_merge_99 : decode cX9_merge 99 = .ok (.if_icmp .ge 38, 3) := by decide +kernel
theorem dX9_merge_102 : decode cX9_merge 102 = .ok (.aload_n 0, 1) := by decide +kernel
theorem dX9_merge_103 : decode cX9_merge 103 = .ok (.getfield 7, 3) := by decide +kernel
theorem dX9_merge_106 : decode cX9_merge 106 = .ok (.iload_n 2, 1) := by decide +kernel
theorem dX9_merge_107 : decode cX9_merge 107 = .ok (.invokestatic 92, 3) := by decide +kernel
theorem dX9_merge_110 : decode cX9_merge 110 = .ok (.iconst 3, 1) := by decide +kernel
theorem dX9_merge_111 : decode cX9_merge 111 = .ok (.iadd, 1) := by decide +kernel
theorem dX9_merge_112 : decode cX9_merge 112 = .ok (.iload_n 3, 1) := by decide +kernel
theorem dX9_merge_113 : decode cX9_merge 113 = .ok (.iadd, 1) := by decide +kernel
theorem dX9_merge_114 : decode cX9_merge 114 = .ok (.dup2, 1) := by decide +kernel
theorem dX9_merge_115 : decode cX9_merge 115 = .ok (.iaload, 1) := by decide +kernel
theorem dX9_merge_116 : decode cX9_merge 116 = .ok (.aload_n 0, 1) := by decide +kernel
theorem dX9_merge_117 : decode cX9_merge 117 = .ok (.getfield 7, 3) := by decide +kernel
theorem dX9_merge_120 : decode cX9_merge 120 = .ok (.iload_n 1, 1) := by decide +kernel
theorem dX9_merge_121 : decode cX9_merge 121 = .ok (.invokestatic 92, 3) := by decide +kernel
theorem dX9_merge_124 : decode cX9_merge 124 = .ok (.iconst 3, 1) := by decide +kernel
theorem dX9_merge_125 : decode cX9_merge 125 = .ok (.iadd, 1) := by decide +kernel
theorem dX9_merge_126 : decode cX9_merge 126 = .ok (.iload_n 3, 1) := by decide +kernel
theorem dX9_merge_127 : decode cX9_merge 127 = .ok (.iadd, 1) := by decide +kernel
theorem dX9_merge_128 : decode cX9_merge 128 = .ok (.iaload, 1) := by decide +kernel
theorem dX9_merge_129 : decode cX9_merge 129 = .ok (.iadd, 1) := by decide +kernel
theorem dX9_merge_130 : decode cX9_merge 130 = .ok (.iastore, 1) := by decide +kernel
theorem dX9_merge_131 : decode cX9_merge 131 = .ok (.iinc 3 1, 3) := by decide +kernel
theorem dX9_merge_134 : decode cX9_merge 134 = .ok (.goto (-38), 3) := by decide +kernel
theorem dX9_merge_137 : decode cX9_merge 137 = .ok (.aload_n 0, 1) := by decide +kernel
theorem dX9_merge_138 : decode cX9_merge 138 = .ok (.getfield 7, 3) := by decide +kernel
theorem dX9_merge_141 : decode cX9_merge 141 = .ok (.iload_n 2, 1) := by decide +kernel
theorem dX9_merge_142 : decode cX9_merge 142 = .ok (.invokestatic 92, 3) := by decide +kernel
theorem dX9_merge_145 : decode cX9_merge 145 = .ok (.iconst 2, 1) := by decide +kernel
theorem dX9_merge_146 : decode cX9_merge 146 = .ok (.iadd, 1) := by decide +kernel
theorem dX9_merge_147 : decode cX9_merge 147 = .ok (.dup2, 1) := by decide +kernel
theorem dX9_merge_148 : decode cX9_merge 148 = .ok (.iaload, 1) := by decide +kernel
theorem dX9_merge_149 : decode cX9_merge 149 = .ok (.aload_n 0, 1) := by decide +kernel
theorem dX9_merge_150 : decode cX9_merge 150 = .ok (.getfield 7, 3) := by decide +kernel
theorem dX9_merge_153 : decode cX9_merge 153 = .ok (.iload_n 1, 1) := by decide +kernel
theorem dX9_merge_154 : decode cX9_merge 154 = .ok (.invokestatic 92, 3) := by decide +kernel
theorem dX9_merge_157 : decode cX9_merge 157 = .ok (.iconst 2, 1) := by decide +kernel
theorem dX9_merge_158 : decode cX9_merge 158 = .ok (.iadd, 1) := by decide +kernel
theorem dX9_merge_159 : decode cX9_merge 159 = .ok (.iaload, 1) := by decide +kernel
theorem dX9_merge_160 : decode cX9_merge 160 = .ok (.iadd, 1) := by decide +kernel
theorem dX9_merge_161 : decode cX9_merge 161 = .ok (.iastore, 1) := by decide +kernel
theorem dX9_merge_162 : decode cX9_merge 162 = .ok (.aload_n 0, 1) := by decide +kernel
theorem dX9_merge_163 : decode cX9_merge 163 = .ok (.getfield 7, 3) := by decide +kernel
theorem dX9_merge_166 : decode cX9_merge 166 = .ok (.iload_n 2, 1) := by decide +kernel
theorem dX9_merge_167 : decode cX9_merge 167 = .ok (.invokestatic 325, 3) := by decide +kernel
theorem dX9_merge_170 : decode cX9_merge 170 = .ok (.ireturn, 1) := by decide +kernel
theorem dX9_print_0 : decode cX9_print 0 = .ok (.aload_n 0, 1) := by decide +kernel
theorem dX9_print_1 : decode cX9_print 1 = .ok (.getfield 52, 3) := by decide +kernel
theorem dX9_print_4 : decode cX9_print 4 = .ok (.aload_n 0, 1) := by decide +kernel
theorem dX9_print_5 : decode cX9_print 5 = .ok (.getfield 364, 3) := by decide +kernel
theorem dX9_print_8 : decode cX9_print 8 = .ok (.iload_n 1, 1) := by decide +kernel
theorem dX9_print_9 : decode cX9_print 9 = .ok (.i2b, 1) := by decide +kernel
theorem dX9_print_10 : decode cX9_print 10 = .ok (.bastore, 1) := by decide +kernel
theorem dX9_print_11 : decode cX9_print 11 = .ok (.aload_n 0, 1) := by decide +kernel
theorem dX9_print_12 : decode cX9_print 12 = .ok (.dup, 1) := by decide +kernel
theorem dX9_print_13 : decode cX9_print 13 = .ok (.getfield 364, 3) := by decide +kernel
theorem dX9_print_16 : decode cX9_print 16 = .ok (.iconst 1, 1) := by decide +kernel
theorem dX9_print_17 : decode cX9_print 17 = .ok (.iadd, 1) := by decide +kernel
theorem dX9_print_18 : decode cX9_print 18 = .ok (.putfield 364, 3) := by decide +kernel
theorem dX9_print_21 : decode cX9_print 21 = .ok (.return_, 1) := by decide +kernel
theorem dX9_printSymbol_0 : decode cX9_printSymbol 0 = .ok (.aload_n 0, 1) := by decide +kernel
theorem dX9_printSymbol_1 : decode cX9_printSymbol 1 = .ok (.iload_n 1, 1) := by decide +kernel
theorem dX9_printSymbol_2 : decode cX9_printSymbol 2 = .ok (.bipush 26, 2) := by decide +kernel
theorem dX9_printSymbol_4 : decode cX9_printSymbol 4 = .ok (.if_icmp .ne 8, 3) := by decide +kernel
theorem dX9_printSymbol_7 : decode cX9_printSymbol 7 = .ok (.bipush 95, 2) := by decide +kernel
theorem dX9_printSymbol_9 : decode cX9_printSymbol 9 = .ok (.goto 7, 3) := by decide +kernel
theorem dX9_printSymbol_12 : decode cX9_printSymbol 12 = .ok (.bipush 97, 2) := by decide +kernel
theorem dX9_printSymbol_14 : decode cX9_printSymbol 14 = .ok (.iload_n 1, 1) := by decide +kernel
theorem dX9_printSymbol_15 : decode cX9_printSymbol 15 = .ok (.iadd, 1) := by decide +kernel
theorem dX9_printSymbol_16 : decode cX9_printSymbol 16 = .ok (.invokevirtual 367, 3) := by decide +kernel
theorem dX9_printSymbol_19 : decode cX9_printSymbol 19 = .ok (.return_, 1) := by decide +kernel
theorem dX9_encode_0 : decode cX9_encode 0 = .ok (.aload_n 0, 1) := by decide +kernel
theorem dX9_encode_1 : decode cX9_encode 1 = .ok (.iload_n 1, 1) := by decide +kernel
theorem dX9_encode_2 : decode cX9_encode 2 = .ok (.iload_n 2, 1) := by decide +kernel
theorem dX9_encode_3 : decode cX9_encode 3 = .ok (.invokevirtual 328, 3) := by decide +kernel
theorem dX9_encode_6 : decode cX9_encode 6 = .ok (.ifCond .eq 5, 3) := by decide +kernel
theorem dX9_encode_9 : decode cX9_encode 9 = .ok (.iconst 0, 1) := by decide +kernel
theorem dX9_encode_10 : decode cX9_encode 10 = .ok (.ireturn, 1) := by decide +kernel
theorem dX9_encode_11 : decode cX9_encode 11 = .ok (.aload_n 0, 1) := by decide +kernel
theorem dX9_encode_12 : decode cX9_encode 12 = .ok (.iconst 0, 1) := by decide +kernel
theorem dX9_encode_13 : decode cX9_encode 13 = .ok (.putfield 364, 3) := by decide +kernel
theorem dX9_encode_16 : decode cX9_encode 16 = .ok (.iconst 0, 1) := by decide +kernel
theorem dX9_encode_17 : decode cX9_encode 17 = .ok (.istore_n 3, 1) := by decide +kernel
theorem dX9_encode_18 : decode cX9_encode 18 = .ok (.iload_n 3, 1) := by decide +kernel
theorem dX9_encode_19 : decode cX9_encode 19 = .ok (.aload_n 0, 1) := by decide +kernel
theorem dX9_encode_20 : decode cX9_encode 20 = .ok (.getfield 7, 3) := by decide +kernel
theorem dX9_encode_23 : decode cX9_encode 23 = .ok (.iload_n 2, 1) := by decide +kernel
theorem dX9_encode_24 : decode cX9_encode 24 = .ok (.invokestatic 114, 3) := by decide +kernel
theorem dX9_encode_27 : decode cX9_encode 27 = .ok (.if_icmp .ge 63, 3) := by decide +kernel
theorem dX9_encode_30 : decode cX9_encode 30 = .ok (.aload_n 0, 1) := by decide +kernel
theorem dX9_encode_31 : decode cX9_encode 31 = .ok (.aload_n 0, 1) := by decide +kernel
theorem dX9_encode_32 : decode cX9_encode 32 = .ok (.getfield 7, 3) := by decide +kernel
theorem dX9_encode_35 : decode cX9_encode 35 = .ok (.iload_n 1, 1) := by decide +kernel
theorem dX9_encode_36 : decode cX9_encode 36 = .ok (.iload_n 2, 1) := by decide +kernel
theorem dX9_encode_37 : decode cX9_encode 37 = .ok (.iload_n 3, 1) := by decide +kernel
theorem dX9_encode_38 : decode cX9_encode 38 = .ok (.invokevirtual 148, 3) := by decide +kernel
theorem dX9_encode_41 : decode cX9_encode 41 = .ok (.istore 4, 2) := by decide +kernel
theorem dX9_encode_43 : decode cX9_encode 43 = .ok (.iload_n 3, 1) := by decide +kernel
theorem dX9_encode_44 : decode cX9_encode 44 = .ok (.ifCond .le 9, 3) := by decide +kernel
theorem dX9_encode_47 : decode cX9_encode 47 = .ok (.aload_n 0, 1) := by decide +kernel
theorem dX9_encode_48 : decode cX9_encode 48 = .ok (.bipush 44, 2) := by decide +kernel
theorem dX9_encode_50 : decode cX9_encode 50 = .ok (.invokevirtual 367, 3) := by decide +kernel
theorem dX9_encode_53 : decode cX9_encode 53 = .ok (.iload 4, 2) := by decide +kernel
theorem dX9_encode_55 : decode cX9_encode 55 = .ok (.bipush 9, 2) := by decide +kernel
theorem dX9_encode_57 : decode cX9_encode 57 = .ok (.if_icmp .le 15, 3) := by decide +kernel
theorem dX9_encode_60 : decode cX9_encode 60 = .ok (.aload_n 0, 1) := by decide +kernel
theorem dX9_encode_61 : decode cX9_encode 61 = .ok (.bipush 48, 2) := by decide +kernel
theorem dX9_encode_63 : decode cX9_encode 63 = .ok (.iload 4, 2) := by decide +kernel
theorem dX9_encode_65 : decode cX9_encode 65 = .ok (.bipush 10, 2) := by decide +kernel
theorem dX9_encode_67 : decode cX9_encode 67 = .ok (.idiv, 1) := by decide +kernel
theorem dX9_encode_68 : decode cX9_encode 68 = .ok (.iadd, 1) := by decide +kernel
theorem dX9_encode_69 : decode cX9_encode 69 = .ok (.invokevirtual 367, 3) := by decide +kernel
theorem dX9_encode_72 : decode cX9_encode 72 = .ok (.aload_n 0, 1) := by decide +kernel
theorem dX9_encode_73 : decode cX9_encode 73 = .ok (.bipush 48, 2) := by decide +kernel
theorem dX9_encode_75 : decode cX9_encode 75 = .ok (.iload 4, 2) := by decide +kernel
theorem dX9_encode_77 : decode cX9_encode 77 = .ok (.bipush 10, 2) := by decide +kernel
theorem dX9_encode_79 : decode cX9_encode 79 = .ok (.irem, 1) := by decide +kernel
theorem dX9_encode_80 : decode cX9_encode 80 = .ok (.iadd, 1) := by decide +kernel
theorem dX9_encode_81 : decode cX9_encode 81 = .ok (.invokevirtual 367, 3) := by decide +kernel
theorem dX9_encode_84 : decode cX9_encode 84 = .ok (.iinc 3 1, 3) := by decide +kernel
theorem dX9_encode_87 : decode cX9_encode 87 = .ok (.goto (-69), 3) := by decide +kernel
theorem dX9_encode_90 : decode cX9_encode 90 = .ok (.aload_n 0, 1) := by decide +kernel
theorem dX9_encode_91 : decode cX9_encode 91 = .ok (.getfield 364, 3) := by decide +kernel
theorem dX9_encode_94 : decode cX9_encode 94 = .ok (.ireturn, 1) := by decide +kernel
theorem dX9_readNumbers_0 : decode cX9_readNumbers 0 = .ok (.iconst 0, 1) := by decide +kernel
theorem dX9_readNumbers_1 : decode cX9_readNumbers 1 = .ok (.istore_n 1, 1) := by decide +kernel
theorem dX9_readNumbers_2 : decode cX9_readNumbers 2 = .ok (.iconst 0, 1) := by decide +kernel
theorem dX9_readNumbers_3 : decode cX9_readNumbers 3 = .ok (.istore_n 2, 1) := by decide +kernel
theorem dX9_readNumbers_4 : decode cX9_readNumbers 4 = .ok (.iconst 1, 1) := by decide +kernel
theorem dX9_readNumbers_5 : decode cX9_readNumbers 5 = .ok (.istore_n 3, 1) := by decide +kernel
theorem dX9_readNumbers_6 : decode cX9_readNumbers 6 = .ok (.iload_n 3, 1) := by decide +kernel
theorem dX9_readNumbers_7 : decode cX9_readNumbers 7 = .ok (.ifCond .eq 127, 3) := by decide +kernel
theorem dX9_readNumbers_10 : decode cX9_readNumbers 10 = .ok (.iconst 0, 1) := by decide +kernel
theorem dX9_readNumbers_11 : decode cX9_readNumbers 11 = .ok (.istore 4, 2) := by decide +kernel
theorem dX9_readNumbers_13 : decode cX9_readNumbers 13 = .ok (.iconst 0, 1) := by decide +kernel
theorem dX9_readNumbers_14 : decode cX9_readNumbers 14 = .ok (.istore 5, 2) := by decide +kernel
theorem dX9_readNumbers_16 : decode cX9_readNumbers 16 = .ok (.aload_n 0, 1) := by decide +kernel
theorem dX9_readNumbers_17 : decode cX9_readNumbers 17 = .ok (.iload_n 2, 1) := by decide +kernel
theorem dX9_readNumbers_18 : decode cX9_readNumbers 18 = .ok (.invokevirtual 209, 3) := by decide +kernel
theorem dX9_readNumbers_21 : decode cX9_readNumbers 21 = .ok (.bipush 48, 2) := by decide +kernel
theorem dX9_readNumbers_23 : decode cX9_readNumbers 23 = .ok (.bipush 57, 2) := by decide +kernel
theorem dX9_readNumbers_25 : decode cX9_readNumbers 25 = .ok (.invokestatic 128, 3) := by decide +kernel
theorem dX9_readNumbers_28 : decode cX9_readNumbers 28 = .ok (.ifCond .eq 40, 3) := by decide +kernel
theorem dX9_readNumbers_31 : decode cX9_readNumbers 31 = .ok (.iload 4, 2) := by decide +kernel
theorem dX9_readNumbers_33 : decode cX9_readNumbers 33 = .ok (.ldc 227, 2) := by decide +kernel
theorem dX9_readNumbers_35 : decode cX9_readNumbers 35 = .ok (.if_icmp .le 8, 3) := by decide +kernel
theorem dX9_readNumbers_38 : decode cX9_readNumbers 38 = .ok (.iload 4, 2) := by decide +kernel
theorem dX9_readNumbers_40 : decode cX9_readNumbers 40 = .ok (.goto 17, 3) := by decide +kernel
theorem dX9_readNumbers_43 : decode cX9_readNumbers 43 = .ok (.bipush 10, 2) := by decide +kernel
theorem dX9_readNumbers_45 : decode cX9_readNumbers 45 = .ok (.iload 4, 2) := by decide +kernel
theorem dX9_readNumbers_47 : decode cX9_readNumbers 47 = .ok (.imul, 1) := by decide +kernel
theorem dX9_readNumbers_48 : decode cX9_readNumbers 48 = .ok (.aload_n 0, 1) := by decide +kernel
theorem dX9_readNumbers_49 : decode cX9_readNumbers 49 = .ok (.iload_n 2, 1) := by decide +kernel
theorem dX9_readNumbers_50 : decode cX9_readNumbers 50 = .ok (.invokevirtual 209, 3) := by decide +kernel
theorem dX9_readNumbers_53 : decode cX9_readNumbers 53 = .ok (.iadd, 1) := by decide +kernel
theorem dX9_readNumbers_54 : decode cX9_readNumbers 54 = .ok (.bipush 48, 2) := by decide +kernel
theorem dX9_readNumbers_56 : decode cX9_readNumbers 56 = .ok (.isub, 1) := by decide +kernel
theorem dX9_readNumbers_57 : decode cX9_readNumbers 57 = .ok (.istore 4, 2) := by decide +kernel
theorem dX9_readNumbers_59 : decode cX9_readNumbers 59 = .ok (.iinc 5 1, 3) := by decide +kernel
theorem dX9_readNumbers_62 : decode cX9_readNumbers 62 = .ok (.iinc 2 1, 3) := by decide +kernel
theorem dX9_readNumbers_65 : decode cX9_readNumbers 65 = .ok (.goto (-49), 3) := by decide +kernel
theorem dX9_readNumbers_68 : decode cX9_readNumbers 68 = .ok (.iload 5, 2) := by decide +kernel
theorem dX9_readNumbers_70 : decode cX9_readNumbers 70 = .ok (.ifCond .eq 20, 3) := by decide +kernel
theorem dX9_readNumbers_73 : decode cX9_readNumbers 73 = .ok (.iload 4, 2) := by decide +kernel
theorem dX9_readNumbers_75 : decode cX9_readNumbers 75 = .ok (.iconst 1, 1) := by decide +kernel
theorem dX9_readNumbers_76 : decode cX9_readNumbers 76 = .ok (.bipush 27, 2) := by decide +kernel
theorem dX9_readNumbers_78 : decode cX9_readNumbers 78 = .ok (.invokestatic 128, 3) := by decide +kernel
theorem dX9_readNumbers_81 : decode cX9_readNumbers 81 = .ok (.ifCond .eq 9, 3) := by decide +kernel
theorem dX9_readNumbers_84 : decode cX9_readNumbers 84 = .ok (.iload_n 1, 1) := by decide +kernel
theorem dX9_readNumbers_85 : decode cX9_readNumbers 85 = .ok (.bipush 40, 2) := by decide +kernel
theorem dX9_readNumbers_87 : decode cX9_readNumbers 87 = .ok (.if_icmp .ne 5, 3) := by decide +kernel
theorem dX9_readNumbers_90 : decode cX9_readNumbers 90 = .ok (.iconst (-1), 1) := by decide +kernel
theorem dX9_readNumbers_91 : decode cX9_readNumbers 91 = .ok (.ireturn, 1) := by decide +kernel
theorem dX9_readNumbers_92 : decode cX9_readNumbers 92 = .ok (.aload_n 0, 1) := by decide +kernel
theorem dX9_readNumbers_93 : decode cX9_readNumbers 93 = .ok (.getfield 56, 3) := by decide +kernel
theorem dX9_readNumbers_96 : decode cX9_readNumbers 96 = .ok (.iload_n 1, 1) := by decide +kernel
theorem dX9_readNumbers_97 : decode cX9_readNumbers 97 = .ok (.iload 4, 2) := by decide +kernel
theorem dX9_readNumbers_99 : decode cX9_readNumbers 99 = .ok (.iastore, 1) := by decide +kernel
theorem dX9_readNumbers_100 : decode cX9_readNumbers 100 = .ok (.iinc 1 1, 3) := by decide +kernel
theorem dX9_readNumbers_103 : decode cX9_readNumbers 103 = .ok (.aload_n 0, 1) := by decide +kernel
theorem dX9_readNumbers_104 : decode cX9_readNumbers 104 = .ok (.iload_n 2, 1) := by decide +kernel
theorem dX9_readNumbers_105 : decode cX9_readNumbers 105 = .ok (.invokevirtual 209, 3) := by decide +kernel
theorem dX9_readNumbers_108 : decode cX9_readNumbers 108 = .ok (.bipush 44, 2) := by decide +kernel
theorem dX9_readNumbers_110 : decode cX9_readNumbers 110 = .ok (.if_icmp .ne 7, 3) := by decide +kernel
theorem dX9_readNumbers_113 : decode cX9_readNumbers 113 = .ok (.iconst 1, 1) := by decide +kernel
theorem dX9_readNumbers_114 : decode cX9_readNumbers 114 = .ok (.goto 4, 3) := by decide +kernel
theorem dX9_readNumbers_117 : decode cX9_readNumbers 117 = .ok (.iconst 0, 1) := by decide +kernel
theorem dX9_readNumbers_118 : decode cX9_readNumbers 118 = .ok (.istore_n 3, 1) := by decide +kernel
theorem dX9_readNumbers_119 : decode cX9_readNumbers 119 = .ok (.iload_n 2, 1) := by decide +kernel
theorem dX9_readNumbers_120 : decode cX9_readNumbers 120 = .ok (.iload_n 3, 1) := by decide +kernel
theorem dX9_readNumbers_121 : decode cX9_readNumbers 121 = .ok (.ifCond .eq 7, 3) := by decide +kernel
theorem dX9_readNumbers_124 : decode cX9_readNumbers 124 = .ok (.iconst 1, 1) := by decide +kernel
theorem dX9_readNumbers_125 : decode cX9_readNumbers 125 = .ok (.goto 4, 3) := by decide +kernel
theorem dX9_readNumbers_128 : decode cX9_readNumbers 128 = .ok (.iconst 0, 1) := by decide +kernel
theorem dX9_readNumbers_129 : decode cX9_readNumbers 129 = .ok (.iadd, 1) := by decide +kernel
theorem dX9_readNumbers_130 : decode cX9_readNumbers 130 = .ok (.istore_n 2, 1) := by decide +kernel
theorem dX9_readNumbers_131 : decode cX9_readNumbers 131 = .ok (.goto (-125), 3) := by decide +kernel
theorem dX9_readNumbers_134 : decode cX9_readNumbers 134 = .ok (.iload_n 2, 1) := by decide +kernel
theorem dX9_readNumbers_135 : decode cX9_readNumbers 135 = .ok (.aload_n 0, 1) := by decide +kernel
theorem dX9_readNumbers_136 : decode cX9_readNumbers 136 = .ok (.getfield 68, 3) := by decide +kernel
theorem dX9_readNumbers_139 : decode cX9_readNumbers 139 = .ok (.if_icmp .ne 7, 3) := by decide +kernel
theorem dX9_readNumbers_142 : decode cX9_readNumbers 142 = .ok (.iload_n 1, 1) := by decide +kernel
theorem dX9_readNumbers_143 : decode cX9_readNumbers 143 = .ok (.goto 4, 3) := by decide +kernel
theorem dX9_readNumbers_146 : decode cX9_readNumbers 146 = .ok (.iconst (-1), 1) := by decide +kernel
theorem dX9_readNumbers_147 : decode cX9_readNumbers 147 = .ok (.ireturn, 1) := by decide +kernel
theorem dX9_write_0 : decode cX9_write 0 = .ok (.aload_n 0, 1) := by decide +kernel
theorem dX9_write_1 : decode cX9_write 1 = .ok (.aload_n 0, 1) := by decide +kernel
theorem dX9_write_2 : decode cX9_write 2 = .ok (.getfield 7, 3) := by decide +kernel
theorem dX9_write_5 : decode cX9_write 5 = .ok (.iload_n 1, 1) := by decide +kernel
theorem dX9_write_6 : decode cX9_write 6 = .ok (.aload_n 0, 1) := by decide +kernel
theorem dX9_write_7 : decode cX9_write 7 = .ok (.getfield 370, 3) := by decide +kernel
theorem dX9_write_10 : decode cX9_write 10 = .ok (.aload_n 0, 1) := by decide +kernel
theorem dX9_write_11 : decode cX9_write 11 = .ok (.getfield 373, 3) := by decide +kernel
theorem dX9_write_14 : decode cX9_write 14 = .ok (.invokevirtual 145, 3) := by decide +kernel
theorem dX9_write_17 : decode cX9_write 17 = .ok (.aload_n 0, 1) := by decide +kernel
theorem dX9_write_18 : decode cX9_write 18 = .ok (.aload_n 0, 1) := by decide +kernel
theorem dX9_write_19 : decode cX9_write 19 = .ok (.getfield 373, 3) := by decide +kernel
theorem dX9_write_22 : decode cX9_write 22 = .ok (.putfield 370, 3) := by decide +kernel
theorem dX9_write_25 : decode cX9_write 25 = .ok (.aload_n 0, 1) := by decide +kernel
theorem dX9_write_26 : decode cX9_write 26 = .ok (.aload_n 0, 1) := by decide +kernel
theorem dX9_write_27 : decode cX9_write 27 = .ok (.getfield 33, 3) := by decide +kernel
theorem dX9_write_30 : decode cX9_write 30 = .ok (.iload_n 2, 1) := by decide +kernel
theorem dX9_write_31 : decode cX9_write 31 = .ok (.iconst 1, 1) := by decide +kernel
theorem dX9_write_32 : decode cX9_write 32 = .ok (.isub, 1) := by decide +kernel
theorem dX9_write_33 : decode cX9_write 33 = .ok (.iaload, 1) := by decide +kernel
theorem dX9_write_34 : decode cX9_write 34 = .ok (.putfield 373, 3) := by decide +kernel
theorem dX9_write_37 : decode cX9_write 37 = .ok (.aload_n 0, 1) := by decide +kernel
theorem dX9_write_38 : decode cX9_write 38 = .ok (.aload_n 0, 1) := by decide +kernel
theorem dX9_write_39 : decode cX9_write 39 = .ok (.getfield 373, 3) := by decide +kernel
theorem dX9_write_42 : decode cX9_write 42 = .ok (.invokevirtual 376, 3) := by decide +kernel
theorem dX9_write_45 : decode cX9_write 45 = .ok (.return_, 1) := by decide +kernel
theorem dX9_begin_0 : decode cX9_begin 0 = .ok (.aload_n 0, 1) := by decide +kernel
theorem dX9_begin_1 : decode cX9_begin 1 = .ok (.iconst 0, 1) := by decide +kernel
theorem dX9_begin_2 : decode cX9_begin 2 = .ok (.putfield 364, 3) := by decide +kernel
theorem dX9_begin_5 : decode cX9_begin 5 = .ok (.aload_n 0, 1) := by decide +kernel
theorem dX9_begin_6 : decode cX9_begin 6 = .ok (.iconst (-1), 1) := by decide +kernel
theorem dX9_begin_7 : decode cX9_begin 7 = .ok (.putfield 370, 3) := by decide +kernel
theorem dX9_begin_10 : decode cX9_begin 10 = .ok (.aload_n 0, 1) := by decide +kernel
theorem dX9_begin_11 : decode cX9_begin 11 = .ok (.iconst (-1), 1) := by decide +kernel
theorem dX9_begin_12 : decode cX9_begin 12 = .ok (.putfield 373, 3) := by decide +kernel
theorem dX9_begin_15 : decode cX9_begin 15 = .ok (.return_, 1) := by decide +kernel
theorem dX9_decode_0 : decode cX9_decode 0 = .ok (.aload_n 0, 1) := by decide +kernel
theorem dX9_decode_1 : decode cX9_decode 1 = .ok (.iload_n 1, 1) := by decide +kernel
theorem dX9_decode_2 : decode cX9_decode 2 = .ok (.invokevirtual 295, 3) := by decide +kernel
theorem dX9_decode_5 : decode cX9_decode 5 = .ok (.ifCond .eq 5, 3) := by decide +kernel
theorem dX9_decode_8 : decode cX9_decode 8 = .ok (.iconst 0, 1) := by decide +kernel
theorem dX9_decode_9 : decode cX9_decode 9 = .ok (.ireturn, 1) := by decide +kernel
theorem dX9_decode_10 : decode cX9_decode 10 = .ok (.aload_n 0, 1) := by decide +kernel
theorem dX9_decode_11 : decode cX9_decode 11 = .ok (.invokevirtual 379, 3) := by decide +kernel
theorem dX9_decode_14 : decode cX9_decode 14 = .ok (.istore_n 2, 1) := by decide +kernel
theorem dX9_decode_15 : decode cX9_decode 15 = .ok (.aload_n 0, 1) := by decide +kernel
theorem dX9_decode_16 : decode cX9_decode 16 = .ok (.iload_n 2, 1) := by decide +kernel
theorem dX9_decode_17 : decode cX9_decode 17 = .ok (.iconst (-1), 1) := by decide +kernel
theorem dX9_decode_18 : decode cX9_decode 18 = .ok (.if_icmp .ne 7, 3) := by decide +kernel
theorem dX9_decode_21 : decode cX9_decode 21 = .ok (.iconst 1, 1) := by decide +kernel
theorem dX9_decode_22 : decode cX9_decode 22 = .ok (.goto 4, 3) := by decide +kernel
theorem dX9_decode_25 : decode cX9_decode 25 = .ok (.iconst 0, 1) := by decide +kernel
theorem dX9_decode_26 : decode cX9_decode 26 = .ok (.iconst 2, 1) := by decide +kernel
theorem dX9_decode_27 : decode cX9_decode 27 = .ok (.invokevirtual 189, 3) := by decide +kernel
theorem dX9_decode_30 : decode cX9_decode 30 = .ok (.ifCond .eq 5, 3) := by decide +kernel
theorem dX9_decode_33 : decode cX9_decode 33 = .ok (.iconst 0, 1) := by decide +kernel
theorem dX9_decode_34 : decode cX9_decode 34 = .ok (.ireturn, 1) := by decide +kernel
theorem dX9_decode_35 : decode cX9_decode 35 = .ok (.aload_n 0, 1) := by decide +kernel
theorem dX9_decode_36 : decode cX9_decode 36 = .ok (.invokevirtual 382, 3) := by decide +kernel
theorem dX9_decode_39 : decode cX9_decode 39 = .ok (.iconst 0, 1) := by decide +kernel
theorem dX9_decode_40 : decode cX9_decode 40 = .ok (.istore_n 3, 1) := by decide +kernel
theorem dX9_decode_41 : decode cX9_decode 41 = .ok (.iload_n 3, 1) := by decide +kernel
theorem dX9_decode_42 : decode cX9_decode 42 = .ok (.iload_n 2, 1) := by decide +kernel
theorem dX9_decode_43 : decode cX9_decode 43 = .ok (.if_icmp .ge 20, 3) := by decide +kernel
theorem dX9_decode_46 : decode cX9_decode 46 = .ok (.aload_n 0, 1) := by decide +kernel
theorem dX9_decode_47 : decode cX9_decode 47 = .ok (.iload_n 1, 1) := by decide +kernel
theorem dX9_decode_48 : decode cX9_decode 48 = .ok (.aload_n 0, 1) := by decide +kernel
theorem dX9_decode_49 : decode cX9_decode 49 = .ok (.getfield 56, 3) := by decide +kernel
theorem dX9_decode_52 : decode cX9_decode 52 = .ok (.iload_n 3, 1) := by decide +kernel
theorem dX9_decode_53 : decode cX9_decode 53 = .ok (.iaload, 1) := by decide +kernel
theorem dX9_decode_54 : decode cX9_decode 54 = .ok (.invokevirtual 385, 3) := by decide +kernel
theorem dX9_decode_57 : decode cX9_decode 57 = .ok (.iinc 3 1, 3) := by decide +kernel
theorem dX9_decode_60 : decode cX9_decode 60 = .ok (.goto (-19), 3) := by decide +kernel
theorem dX9_decode_63 : decode cX9_decode 63 = .ok (.aload_n 0, 1) := by decide +kernel
theorem dX9_decode_64 : decode cX9_decode 64 = .ok (.iconst 0, 1) := by decide +kernel
theorem dX9_decode_65 : decode cX9_decode 65 = .ok (.putfield 68, 3) := by decide +kernel
theorem dX9_decode_68 : decode cX9_decode 68 = .ok (.aload_n 0, 1) := by decide +kernel
theorem dX9_decode_69 : decode cX9_decode 69 = .ok (.getfield 364, 3) := by decide +kernel
theorem dX9_decode_72 : decode cX9_decode 72 = .ok (.ireturn, 1) := by decide +kernel
theorem dX9_writeExpected_0 : decode cX9_writeExpected 0 = .ok (.aload_n 0, 1) := by decide +kernel
theorem dX9_writeExpected_1 : decode cX9_writeExpected 1 = .ok (.iload_n 1, 1) := by decide +kernel
theorem dX9_writeExpected_2 : decode cX9_writeExpected 2 = .ok (.invokevirtual 295, 3) := by decide +kernel
theorem dX9_writeExpected_5 : decode cX9_writeExpected 5 = .ok (.ifCond .ne 14, 3) := by decide +kernel
theorem dX9_writeExpected_8 : decode cX9_writeExpected 8 = .ok (.aload_n 0, 1) := by decide +kernel
theorem dX9_writeExpected_9 : decode cX9_writeExpected 9 = .ok (.iload_n 2, 1) := by decide +kernel
theorem dX9_writeExpected_10 : decode cX9_writeExpected 10 = .ok (.iconst 1, 1) := by decide +kernel
theorem dX9_writeExpected_11 : decode cX9_writeExpected 11 = .ok (.bipush 40, 2) := by decide +kernel
theorem dX9_writeExpected_13 : decode cX9_writeExpected 13 = .ok (.invokevirtual 301, 3) := by decide +kernel
theorem dX9_writeExpected_16 : decode cX9_writeExpected 16 = .ok (.ifCond .eq 5, 3) := by decide +kernel
theorem dX9_writeExpected_19 : decode cX9_writeExpected 19 = .ok (.iconst 0, 1) := by decide +kernel
theorem dX9_writeExpected_20 : decode cX9_writeExpected 20 = .ok (.ireturn, 1) := by decide +kernel
theorem dX9_writeExpected_21 : decode cX9_writeExpected 21 = .ok (.aload_n 0, 1) := by decide +kernel
theorem dX9_writeExpected_22 : decode cX9_writeExpected 22 = .ok (.invokevirtual 382, 3) := by decide +kernel
theorem dX9_writeExpected_25 : decode cX9_writeExpected 25 = .ok (.iconst 0, 1) := by decide +kernel
theorem dX9_writeExpected_26 : decode cX9_writeExpected 26 = .ok (.istore_n 3, 1) := by decide +kernel
theorem dX9_writeExpected_27 : decode cX9_writeExpected 27 = .ok (.iload_n 3, 1) := by decide +kernel
theorem dX9_writeExpected_28 : decode cX9_writeExpected 28 = .ok (.iload_n 2, 1) := by decide +kernel
theorem dX9_writeExpected_29 : decode cX9_writeExpected 29 = .ok (.if_icmp .ge 15, 3) := by decide +kernel
theorem dX9_writeExpected_32 : decode cX9_writeExpected 32 = .ok (.aload_n 0, 1) := by decide +kernel
theorem dX9_writeExpected_33 : decode cX9_writeExpected 33 = .ok (.iload_n 1, 1) := by decide +kernel
theorem dX9_writeExpected_34 : decode cX9_writeExpected 34 = .ok (.iconst 1, 1) := by decide +kernel
theorem dX9_writeExpected_35 : decode cX9_writeExpected 35 = .ok (.invokevirtual 385, 3) := by decide +kernel
theorem dX9_writeExpected_38 : decode cX9_writeExpected 38 = .ok (.iinc 3 1, 3) := by decide +kernel
theorem dX9_writeExpected_41 : decode cX9_writeExpected 41 = .ok (.goto (-14), 3) := by decide +kernel
theorem dX9_writeExpected_44 : decode cX9_writeExpected 44 = .ok (.aload_n 0, 1) := by decide +kernel
theorem dX9_writeExpected_45 : decode cX9_writeExpected 45 = .ok (.getfield 364, 3) := by decide +kernel
theorem dX9_writeExpected_48 : decode cX9_writeExpected 48 = .ok (.ireturn, 1) := by decide +kernel
theorem dX9_outputByte_0 : decode cX9_outputByte 0 = .ok (.aload_n 0, 1) := by decide +kernel
theorem dX9_outputByte_1 : decode cX9_outputByte 1 = .ok (.iload_n 1, 1) := by decide +kernel
theorem dX9_outputByte_2 : decode cX9_outputByte 2 = .ok (.iconst 0, 1) := by decide +kernel
theorem dX9_outputByte_3 : decode cX9_outputByte 3 = .ok (.aload_n 0, 1) := by decide +kernel
theorem dX9_outputByte_4 : decode cX9_outputByte 4 = .ok (.getfield 364, 3) := by decide +kernel
theorem dX9_outputByte_7 : decode cX9_outputByte 7 = .ok (.iconst 1, 1) := by decide +kernel
theorem dX9_outputByte_8 : decode cX9_outputByte 8 = .ok (.isub, 1) := by decide +kernel
theorem dX9_outputByte_9 : decode cX9_outputByte 9 = .ok (.invokevirtual 196, 3) := by decide +kernel
theorem dX9_outputByte_12 : decode cX9_outputByte 12 = .ok (.ifCond .eq 7, 3) := by decide +kernel
theorem dX9_outputByte_15 : decode cX9_outputByte 15 = .ok (.iconst 0, 1) := by decide +kernel
theorem dX9_outputByte_16 : decode cX9_outputByte 16 = .ok (.goto 9, 3) := by decide +kernel
theorem dX9_outputByte_19 : decode cX9_outputByte 19 = .ok (.aload_n 0, 1) := by decide +kernel
theorem dX9_outputByte_20 : decode cX9_outputByte 20 = .ok (.getfield 52, 3) := by decide +kernel
theorem dX9_outputByte_23 : decode cX9_outputByte 23 = .ok (.iload_n 1, 1) := by decide +kernel
theorem dX9_outputByte_24 : decode cX9_outputByte 24 = .ok (.baload, 1) := by decide +kernel
theorem dX9_outputByte_25 : decode cX9_outputByte 25 = .ok (.ireturn, 1) := by decide +kernel
theorem dX9_save_0 : decode cX9_save 0 = .ok (.aload_n 0, 1) := by decide +kernel
theorem dX9_save_1 : decode cX9_save 1 = .ok (.iload_n 1, 1) := by decide +kernel
theorem dX9_save_2 : decode cX9_save 2 = .ok (.iconst 0, 1) := by decide +kernel
theorem dX9_save_3 : decode cX9_save 3 = .ok (.iconst 1, 1) := by decide +kernel
theorem dX9_save_4 : decode cX9_save 4 = .ok (.invokevirtual 196, 3) := by decide +kernel
theorem dX9_save_7 : decode cX9_save 7 = .ok (.ifCond .eq 5, 3) := by decide +kernel
theorem dX9_save_10 : decode cX9_save 10 = .ok (.iconst 0, 1) := by decide +kernel
theorem dX9_save_11 : decode cX9_save 11 = .ok (.ireturn, 1) := by decide +kernel
theorem dX9_save_12 : decode cX9_save 12 = .ok (.aload_n 0, 1) := by decide +kernel
theorem dX9_save_13 : decode cX9_save 13 = .ok (.getfield 7, 3) := by decide +kernel
theorem dX9_save_16 : decode cX9_save 16 = .ok (.iconst 0, 1) := by decide +kernel
theorem dX9_save_17 : decode cX9_save 17 = .ok (.aload_n 0, 1) := by decide +kernel
theorem dX9_save_18 : decode cX9_save 18 = .ok (.getfield 23, 3) := by decide +kernel
theorem dX9_save_21 : decode cX9_save 21 = .ok (.sipush 5987, 3) := by decide +kernel
theorem dX9_save_24 : decode cX9_save 24 = .ok (.iload_n 1, 1) := by decide +kernel
theorem dX9_save_25 : decode cX9_save 25 = .ok (.imul, 1) := by decide +kernel
theorem dX9_save_26 : decode cX9_save 26 = .ok (.invokestatic 71, 3) := by decide +kernel
theorem dX9_save_29 : decode cX9_save 29 = .ok (.aload_n 0, 1) := by decide +kernel
theorem dX9_save_30 : decode cX9_save 30 = .ok (.getfield 26, 3) := by decide +kernel
theorem dX9_save_33 : decode cX9_save 33 = .ok (.iload_n 1, 1) := by decide +kernel
theorem dX9_save_34 : decode cX9_save 34 = .ok (.iconst 1, 1) := by decide +kernel
theorem dX9_save_35 : decode cX9_save 35 = .ok (.bastore, 1) := by decide +kernel
theorem dX9_save_36 : decode cX9_save 36 = .ok (.aload_n 0, 1) := by decide +kernel
theorem dX9_save_37 : decode cX9_save 37 = .ok (.getfield 7, 3) := by decide +kernel
theorem dX9_save_40 : decode cX9_save 40 = .ok (.iconst 0, 1) := by decide +kernel
theorem dX9_save_41 : decode cX9_save 41 = .ok (.iaload, 1) := by decide +kernel
theorem dX9_save_42 : decode cX9_save 42 = .ok (.ireturn, 1) := by decide +kernel
theorem dX9_restore_0 : decode cX9_restore 0 = .ok (.aload_n 0, 1) := by decide +kernel
theorem dX9_restore_1 : decode cX9_restore 1 = .ok (.iload_n 1, 1) := by decide +kernel
theorem dX9_restore_2 : decode cX9_restore 2 = .ok (.iconst 0, 1) := by decide +kernel
theorem dX9_restore_3 : decode cX9_restore 3 = .ok (.iconst 1, 1) := by decide +kernel
theorem dX9_restore_4 : decode cX9_restore 4 = .ok (.invokevirtual 196, 3) := by decide +kernel
theorem dX9_restore_7 : decode cX9_restore 7 = .ok (.ifCond .ne 25, 3) := by decide +kernel
theorem dX9_restore_10 : decode cX9_restore 10 = .ok (.aload_n 0, 1) := by decide +kernel
theorem dX9_restore_11 : decode cX9_restore 11 = .ok (.aload_n 0, 1) := by decide +kernel
theorem dX9_restore_12 : decode cX9_restore 12 = .ok (.getfield 26, 3) := by decide +kernel
theorem dX9_restore_15 : decode cX9_restore 15 = .ok (.iload_n 1, 1) := by decide +kernel
theorem dX9_restore_16 : decode cX9_restore 16 = .ok (.baload, 1) := by decide +kernel
theorem dX9_restore_17 : decode cX9_restore 17 = .ok (.ifCond .ne 7, 3) := by decide +kernel
theorem dX9_restore_20 : decode cX9_restore 20 = .ok (.iconst 1, 1) := by decide +kernel
theorem dX9_restore_21 : decode cX9_restore 21 = .ok (.goto 4, 3) := by decide +kernel
theorem dX9_restore_24 : decode cX9_restore 24 = .ok (.iconst 0, 1) := by decide +kernel
theorem dX9_restore_25 : decode cX9_restore 25 = .ok (.iconst 2, 1) := by decide +kernel
theorem dX9_restore_26 : decode cX9_restore 26 = .ok (.invokevirtual 189, 3) := by decide +kernel
theorem dX9_restore_29 : decode cX9_restore 29 = .ok (.ifCond .eq 5, 3) := by decide +kernel
theorem dX9_restore_32 : decode cX9_restore 32 = .ok (.iconst 0, 1) := by decide +kernel
theorem dX9_restore_33 : decode cX9_restore 33 = .ok (.ireturn, 1) := by decide +kernel
theorem dX9_restore_34 : decode cX9_restore 34 = .ok (.aload_n 0, 1) := by decide +kernel
theorem dX9_restore_35 : decode cX9_restore 35 = .ok (.invokevirtual 286, 3) := by decide +kernel
theorem dX9_restore_38 : decode cX9_restore 38 = .ok (.aload_n 0, 1) := by decide +kernel
theorem dX9_restore_39 : decode cX9_restore 39 = .ok (.getfield 23, 3) := by decide +kernel
theorem dX9_restore_42 : decode cX9_restore 42 = .ok (.sipush 5987, 3) := by decide +kernel
theorem dX9_restore_45 : decode cX9_restore 45 = .ok (.iload_n 1, 1) := by decide +kernel
theorem dX9_restore_46 : decode cX9_restore 46 = .ok (.imul, 1) := by decide +kernel
theorem dX9_restore_47 : decode cX9_restore 47 = .ok (.aload_n 0, 1) := by decide +kernel
theorem dX9_restore_48 : decode cX9_restore 48 = .ok (.getfield 7, 3) := by decide +kernel
theorem dX9_restore_51 : decode cX9_restore 51 = .ok (.iconst 0, 1) := by decide +kernel
theorem dX9_restore_52 : decode cX9_restore 52 = .ok (.invokestatic 71, 3) := by decide +kernel
theorem dX9_restore_55 : decode cX9_restore 55 = .ok (.aload_n 0, 1) := by decide +kernel
theorem dX9_restore_56 : decode cX9_restore 56 = .ok (.getfield 7, 3) := by decide +kernel
theorem dX9_restore_59 : decode cX9_restore 59 = .ok (.iconst 0, 1) := by decide +kernel
theorem dX9_restore_60 : decode cX9_restore 60 = .ok (.iaload, 1) := by decide +kernel
theorem dX9_restore_61 : decode cX9_restore 61 = .ok (.ireturn, 1) := by decide +kernel
