theorem dX8_init_0 : decode cX8_init 0 = .ok (.aload_n 0, 1) := by decide +kernel
theorem dX8_init_1 : decode cX8_init 1 = .ok (.invokespecial 3, 3) := by decide +kernel
theorem dX8_init_4 : decode cX8_init 4 = .ok (.aload_n 0, 1) := by decide +kernel
theorem dX8_init_5 : decode cX8_init 5 = .ok (.invokestatic 9, 3) := by decide +kernel
theorem dX8_init_8 : decode cX8_init 8 = .ok (.putfield 13, 3) := by decide +kernel
theorem dX8_init_11 : decode cX8_init 11 = .ok (.aload_n 0, 1) := by decide +kernel
theorem dX8_init_12 : decode cX8_init 12 = .ok (.new 17, 3) := by decide +kernel
theorem dX8_init_15 : decode cX8_init 15 = .ok (.dup, 1) := by decide +kernel
theorem dX8_init_16 : decode cX8_init 16 = .ok (.invokespecial 19, 3) := by decide +kernel
theorem dX8_init_19 : decode cX8_init 19 = .ok (.putfield 20, 3) := by decide +kernel
theorem dX8_init_22 : decode cX8_init 22 = .ok (.aload_n 0, 1) := by decide +kernel
theorem dX8_init_23 : decode cX8_init 23 = .ok (.bipush 8, 2) := by decide +kernel
theorem dX8_init_25 : decode cX8_init 25 = .ok (.anewarray 17, 3) := by decide +kernel
theorem dX8_init_28 : decode cX8_init 28 = .ok (.putfield 23, 3) := by decide +kernel
theorem dX8_init_31 : decode cX8_init 31 = .ok (.aload_n 0, 1) := by decide +kernel
theorem dX8_init_32 : decode cX8_init 32 = .ok (.iconst 0, 1) := by decide +kernel
theorem dX8_init_33 : decode cX8_init 33 = .ok (.putfield 27, 3) := by decide +kernel
theorem dX8_init_36 : decode cX8_init 36 = .ok (.aload_n 0, 1) := by decide +kernel
theorem dX8_init_37 : decode cX8_init 37 = .ok (.iconst 0, 1) := by decide +kernel
theorem dX8_init_38 : decode cX8_init 38 = .ok (.putfield 31, 3) := by decide +kernel
theorem dX8_init_41 : decode cX8_init 41 = .ok (.aload_n 0, 1) := by decide +kernel
theorem dX8_init_42 : decode cX8_init 42 = .ok (.iconst 2, 1) := by decide +kernel
theorem dX8_init_43 : decode cX8_init 43 = .ok (.anewarray 17, 3) := by decide +kernel
theorem dX8_init_46 : decode cX8_init 46 = .ok (.putfield 34, 3) := by decide +kernel
theorem dX8_init_49 : decode cX8_init 49 = .ok (.aload_n 0, 1) := by decide +kernel
theorem dX8_init_50 : decode cX8_init 50 = .ok (.iconst 2, 1) := by decide +kernel
theorem dX8_init_51 : decode cX8_init 51 = .ok (.newarray .boolean, 2) := by decide +kernel
theorem dX8_init_53 : decode cX8_init 53 = .ok (.putfield 37, 3) := by decide +kernel
theorem dX8_init_56 : decode cX8_init 56 = .ok (.aload_n 0, 1) := by decide +kernel
theorem dX8_init_57 : decode cX8_init 57 = .ok (.new 41, 3) := by decide +kernel
theorem dX8_init_60 : decode cX8_init 60 = .ok (.dup, 1) := by decide +kernel
theorem dX8_init_61 : decode cX8_init 61 = .ok (.invokespecial 43, 3) := by decide +kernel
theorem dX8_init_64 : decode cX8_init 64 = .ok (.putfield 44, 3) := by decide +kernel
theorem dX8_init_67 : decode cX8_init 67 = .ok (.aload_n 0, 1) := by decide +kernel
theorem dX8_init_68 : decode cX8_init 68 = .ok (.new 41, 3) := by decide +kernel
theorem dX8_init_71 : decode cX8_init 71 = .ok (.dup, 1) := by decide +kernel
theorem dX8_init_72 : decode cX8_init 72 = .ok (.invokespecial 43, 3) := by decide +kernel
theorem dX8_init_75 : decode cX8_init 75 = .ok (.putfield 48, 3) := by decide +kernel
theorem dX8_init_78 : decode cX8_init 78 = .ok (.aload_n 0, 1) := by decide +kernel
theorem dX8_init_79 : decode cX8_init 79 = .ok (.iconst 0, 1) := by decide +kernel
theorem dX8_init_80 : decode cX8_init 80 = .ok (.putfield 51, 3) := by decide +kernel
theorem dX8_init_83 : decode cX8_init 83 = .ok (.aload_n 0, 1) := by decide +kernel
theorem dX8_init_84 : decode cX8_init 84 = .ok (.iconst (-1), 1) := by decide +kernel
theorem dX8_init_85 : decode cX8_init 85 = .ok (.putfield 54, 3) := by decide +kernel
theorem dX8_init_88 : decode cX8_init 88 = .ok (.aload_n 0, 1) := by decide +kernel
theorem dX8_init_89 : decode cX8_init 89 = .ok (.new 57, 3) := by decide +kernel
theorem dX8_init_92 : decode cX8_init 92 = .ok (.dup, 1) := by decide +kernel
theorem dX8_init_93 : decode cX8_init 93 = .ok (.invokespecial 59, 3) := by decide +kernel
theorem dX8_init_96 : decode cX8_init 96 = .ok (.putfield 60, 3) := by decide +kernel
theorem dX8_init_99 : decode cX8_init 99 = .ok (.aload_n 0, 1) := by decide +kernel
theorem dX8_init_100 : decode cX8_init 100 = .ok (.new 64, 3) := by decide +kernel
theorem dX8_init_103 : decode cX8_init 103 = .ok (.dup, 1) := by decide +kernel
theorem dX8_init_104 : decode cX8_init 104 = .ok (.invokespecial 66, 3) := by decide +kernel
theorem dX8_init_107 : decode cX8_init 107 = .ok (.putfield 67, 3) := by decide +kernel
theorem dX8_init_110 : decode cX8_init 110 = .ok (.aload_n 0, 1) := by decide +kernel
theorem dX8_init_111 : decode cX8_init 111 = .ok (.new 71, 3) := by decide +kernel
theorem dX8_init_114 : decode cX8_init 114 = .ok (.dup, 1) := by decide +kernel
theorem dX8_init_115 : decode cX8_init 115 = .ok (.invokespecial 73, 3) := by decide +kernel
theorem dX8_init_118 : decode cX8_init 118 = .ok (.putfield 74, 3) := by decide +kernel
theorem dX8_init_121 : decode cX8_init 121 = .ok (.aload_n 0, 1) := by decide +kernel
theorem dX8_init_122 : decode cX8_init 122 = .ok (.bipush 40, 2) := by decide +kernel
theorem dX8_init_124 : decode cX8_init 124 = .ok (.newarray .int, 2) := by decide +kernel
theorem dX8_init_126 : decode cX8_init 126 = .ok (.putfield 78, 3) := by decide +kernel
theorem dX8_init_129 : decode cX8_init 129 = .ok (.iconst 0, 1) := by decide +kernel
theorem dX8_init_130 : decode cX8_init 130 = .ok (.istore_n 1, 1) := by decide +kernel
theorem dX8_init_131 : decode cX8_init 131 = .ok (.iload_n 1, 1) := by decide +kernel
theorem dX8_init_132 : decode cX8_init 132 = .ok (.bipush 8, 2) := by decide +kernel
theorem dX8_init_134 : decode cX8_init 134 = .ok (.if_icmp .ge 22, 3) := by decide +kernel
theorem dX8_init_137 : decode cX8_init 137 = .ok (.aload_n 0, 1) := by decide +kernel
theorem dX8_init_138 : decode cX8_init 138 = .ok (.getfield 23, 3) := by decide +kernel
theorem dX8_init_141 : decode cX8_init 141 = .ok (.iload_n 1, 1) := by decide +kernel
theorem dX8_init_142 : decode cX8_init 142 = .ok (.new 17, 3) := by decide +kernel
theorem dX8_init_145 : decode cX8_init 145 = .ok (.dup, 1) := by decide +kernel
theorem dX8_init_146 : decode cX8_init 146 = .ok (.invokespecial 19, 3) := by decide +kernel
theorem dX8_init_149 : decode cX8_init 149 = .ok (.aastore, 1) := by decide +kernel
theorem dX8_init_150 : decode cX8_init 150 = .ok (.iinc 1 1, 3) := by decide +kernel
theorem dX8_init_153 : decode cX8_init 153 = .ok (.goto (-22), 3) := by decide +kernel
theorem dX8_init_156 : decode cX8_init 156 = .ok (.iconst 0, 1) := by decide +kernel
theorem dX8_init_157 : decode cX8_init 157 = .ok (.istore_n 1, 1) := by decide +kernel
theorem dX8_init_158 : decode cX8_init 158 = .ok (.iload_n 1, 1) := by decide +kernel
theorem dX8_init_159 : decode cX8_init 159 = .ok (.iconst 2, 1) := by decide +kernel
theorem dX8_init_160 : decode cX8_init 160 = .ok (.if_icmp .ge 22, 3) := by decide +kernel
theorem dX8_init_163 : decode cX8_init 163 = .ok (.aload_n 0, 1) := by decide +kernel
theorem dX8_init_164 : decode cX8_init 164 = .ok (.getfield 34, 3) := by decide +kernel
theorem dX8_init_167 : decode cX8_init 167 = .ok (.iload_n 1, 1) := by decide +kernel
theorem dX8_init_168 : decode cX8_init 168 = .ok (.new 17, 3) := by decide +kernel
theorem dX8_init_171 : decode cX8_init 171 = .ok (.dup, 1) := by decide +kernel
theorem dX8_init_172 : decode cX8_init 172 = .ok (.invokespecial 19, 3) := by decide +kernel
theorem dX8_init_175 : decode cX8_init 175 = .ok (.aastore, 1) := by decide +kernel
theorem dX8_init_176 : decode cX8_init 176 = .ok (.iinc 1 1, 3) := by decide +kernel
theorem dX8_init_179 : decode cX8_init 179 = .ok (.goto (-21), 3) := by decide +kernel
theorem dX8_init_182 : decode cX8_init 182 = .ok (.return_, 1) := by decide +kernel
theorem dX8_firstState_0 : decode cX8_firstState 0 = .ok (.new 41, 3) := by decide +kernel
theorem dX8_firstState_3 : decode cX8_firstState 3 = .ok (.dup, 1) := by decide +kernel
theorem dX8_firstState_4 : decode cX8_firstState 4 = .ok (.invokespecial 43, 3) := by decide +kernel
theorem dX8_firstState_7 : decode cX8_firstState 7 = .ok (.astore_n 0, 1) := by decide +kernel
theorem dX8_firstState_8 : decode cX8_firstState 8 = .ok (.iconst 0, 1) := by decide +kernel
theorem dX8_firstState_9 : decode cX8_firstState 9 = .ok (.istore_n 1, 1) := by decide +kernel
theorem dX8_firstState_10 : decode cX8_firstState 10 = .ok (.iload_n 1, 1) := by decide +kernel
theorem dX8_firstState_11 : decode cX8_firstState 11 = .ok (.ldc 82, 2) := by decide +kernel
theorem dX8_firstState_13 : decode cX8_firstState 13 = .ok (.invokevirtual 84, 3) := by decide +kernel
theorem dX8_firstState_16 : decode cX8_firstState 16 = .ok (.if_icmp .ge 19, 3) := by decide +kernel
theorem dX8_firstState_19 : decode cX8_firstState 19 = .ok (.aload_n 0, 1) := by decide +kernel
theorem dX8_firstState_20 : decode cX8_firstState 20 = .ok (.ldc 82, 2) := by decide +kernel
theorem dX8_firstState_22 : decode cX8_firstState 22 = .ok (.iload_n 1, 1) := by decide +kernel
theorem dX8_firstState_23 : decode cX8_firstState 23 = .ok (.invokevirtual 90, 3) := by decide +kernel
theorem dX8_firstState_26 : decode cX8_firstState 26 = .ok (.invokevirtual 94, 3) := by decide +kernel
theorem dX8_firstState_29 : decode cX8_firstState 29 = .ok (.iinc 1 1, 3) := by decide +kernel
theorem dX8_firstState_32 : decode cX8_firstState 32 = .ok (.goto (-22), 3) := by decide +kernel
theorem dX8_firstState_35 : decode cX8_firstState 35 = .ok (.new 17, 3) := by decide +kernel
theorem dX8_firstState_38 : decode cX8_firstState 38 = .ok (.dup, 1) := by decide +kernel
theorem dX8_firstState_39 : decode cX8_firstState 39 = .ok (.invokespecial 19, 3) := by decide +kernel
theorem dX8_firstState_42 : decode cX8_firstState 42 = .ok (.astore_n 1, 1) := by decide +kernel
theorem dX8_firstState_43 : decode cX8_firstState 43 = .ok (.new 98, 3) := by decide +kernel
theorem dX8_firstState_46 : decode cX8_firstState 46 = .ok (.dup, 1) := by decide +kernel
theorem dX8_firstState_47 : decode cX8_firstState 47 = .ok (.aload_n 0, 1) := by decide +kernel
theorem dX8_firstState_48 : decode cX8_firstState 48 = .ok (.aload_n 1, 1) := by decide +kernel
theorem dX8_firstState_49 : decode cX8_firstState 49 = .ok (.invokespecial 100, 3) := by decide +kernel
theorem dX8_firstState_52 : decode cX8_firstState 52 = .ok (.astore_n 2, 1) := by decide +kernel
theorem dX8_firstState_53 : decode cX8_firstState 53 = .ok (.aload_n 2, 1) := by decide +kernel
theorem dX8_firstState_54 : decode cX8_firstState 54 = .ok (.invokevirtual 103, 3) := by decide +kernel
theorem dX8_firstState_57 : decode cX8_firstState 57 = .ok (.pop, 1) := by decide +kernel
theorem dX8_firstState_58 : decode cX8_firstState 58 = .ok (.aload_n 1, 1) := by decide +kernel
theorem dX8_firstState_59 : decode cX8_firstState 59 = .ok (.areturn, 1) := by decide +kernel
theorem dX8_appendInput_0 : decode cX8_appendInput 0 = .ok (.aload_n 0, 1) := by decide +kernel
theorem dX8_appendInput_1 : decode cX8_appendInput 1 = .ok (.getfield 44, 3) := by decide +kernel
theorem dX8_appendInput_4 : decode cX8_appendInput 4 = .ok (.getfield 107, 3) := by decide +kernel
theorem dX8_appendInput_7 : decode cX8_appendInput 7 = .ok (.bipush 20, 2) := by decide +kernel
theorem dX8_appendInput_9 : decode cX8_appendInput 9 = .ok (.iadd, 1) := by decide +kernel
theorem dX8_appendInput_10 : decode cX8_appendInput 10 = .ok (.sipush 500, 3) := by decide +kernel
theorem dX8_appendInput_13 : decode cX8_appendInput 13 = .ok (.if_icmp .le 13, 3) := by decide +kernel
theorem dX8_appendInput_16 : decode cX8_appendInput 16 = .ok (.new 109, 3) := by decide +kernel
theorem dX8_appendInput_19 : decode cX8_appendInput 19 = .ok (.dup, 1) := by decide +kernel
theorem dX8_appendInput_20 : decode cX8_appendInput 20 = .ok (.ldc 111, 2) := by decide +kernel
theorem dX8_appendInput_22 : decode cX8_appendInput 22 = .ok (.invokespecial 113, 3) := by decide +kernel
theorem dX8_appendInput_25 : decode cX8_appendInput 25 = .ok (.athrow, 1) := by decide +kernel
theorem dX8_appendInput_26 : decode cX8_appendInput 26 = .ok (.aload_n 0, 1) := by decide +kernel
theorem dX8_appendInput_27 : decode cX8_appendInput 27 = .ok (.getfield 44, 3) := by decide +kernel
theorem dX8_appendInput_30 : decode cX8_appendInput 30 = .ok (.iload_n 1, 1) := by decide +kernel
theorem dX8_appendInput_31 : decode cX8_appendInput 31 = .ok (.invokevirtual 116, 3) := by decide +kernel
theorem dX8_appendInput_34 : decode cX8_appendInput 34 = .ok (.aload_n 0, 1) := by decide +kernel
theorem dX8_appendInput_35 : decode cX8_appendInput 35 = .ok (.getfield 44, 3) := by decide +kernel
theorem dX8_appendInput_38 : decode cX8_appendInput 38 = .ok (.iload_n 2, 1) := by decide +kernel
theorem dX8_appendInput_39 : decode cX8_appendInput 39 = .ok (.invokevirtual 116, 3) := by decide +kernel
theorem dX8_appendInput_42 : decode cX8_appendInput 42 = .ok (.aload_n 0, 1) := by decide +kernel
theorem dX8_appendInput_43 : decode cX8_appendInput 43 = .ok (.getfield 44, 3) := by decide +kernel
theorem dX8_appendInput_46 : decode cX8_appendInput 46 = .ok (.iload_n 3, 1) := by decide +kernel
theorem dX8_appendInput_47 : decode cX8_appendInput 47 = .ok (.invokevirtual 116, 3) := by decide +kernel
theorem dX8_appendInput_50 : decode cX8_appendInput 50 = .ok (.aload_n 0, 1) := by decide +kernel
theorem dX8_appendInput_51 : decode cX8_appendInput 51 = .ok (.getfield 44, 3) := by decide +kernel
theorem dX8_appendInput_54 : decode cX8_appendInput 54 = .ok (.iload 4, 2) := by decide +kernel
theorem dX8_appendInput_56 : decode cX8_appendInput 56 = .ok (.invokevirtual 116, 3) := by decide +kernel
theorem dX8_appendInput_59 : decode cX8_appendInput 59 = .ok (.aload_n 0, 1) := by decide +kernel
theorem dX8_appendInput_60 : decode cX8_appendInput 60 = .ok (.getfield 44, 3) := by decide +kernel
theorem dX8_appendInput_63 : decode cX8_appendInput 63 = .ok (.iload 5, 2) := by decide +kernel
theorem dX8_appendInput_65 : decode cX8_appendInput 65 = .ok (.invokevirtual 116, 3) := by decide +kernel
theorem dX8_appendInput_68 : decode cX8_appendInput 68 = .ok (.aload_n 0, 1) := by decide +kernel
theorem dX8_appendInput_69 : decode cX8_appendInput 69 = .ok (.getfield 44, 3) := by decide +kernel
theorem dX8_appendInput_72 : decode cX8_appendInput 72 = .ok (.getfield 107, 3) := by decide +kernel
theorem dX8_appendInput_75 : decode cX8_appendInput 75 = .ok (.ireturn, 1) := by decide +kernel
theorem dX8_truncateInput_0 : decode cX8_truncateInput 0 = .ok (.iload_n 1, 1) := by decide +kernel
theorem dX8_truncateInput_1 : decode cX8_truncateInput 1 = .ok (.ifCond .lt 14, 3) := by decide +kernel
theorem dX8_truncateInput_4 : decode cX8_truncateInput 4 = .ok (.iload_n 1, 1) := by decide +kernel
theorem dX8_truncateInput_5 : decode cX8_truncateInput 5 = .ok (.aload_n 0, 1) := by decide +kernel
theorem dX8_truncateInput_6 : decode cX8_truncateInput 6 = .ok (.getfield 44, 3) := by decide +kernel
theorem dX8_truncateInput_9 : decode cX8_truncateInput 9 = .ok (.getfield 107, 3) := by decide +kernel
theorem dX8_truncateInput_12 : decode cX8_truncateInput 12 = .ok (.if_icmp .le 13, 3) := by decide +kernel
theorem dX8_truncateInput_15 : decode cX8_truncateInput 15 = .ok (.new 119, 3) := by decide +kernel
theorem dX8_truncateInput_18 : decode cX8_truncateInput 18 = .ok (.dup, 1) := by decide +kernel
theorem dX8_truncateInput_19 : decode cX8_truncateInput 19 = .ok (.ldc 121, 2) := by decide +kernel
theorem dX8_truncateInput_21 : decode cX8_truncateInput 21 = .ok (.invokespecial 123, 3) := by decide +kernel
theorem dX8_truncateInput_24 : decode cX8_truncateInput 24 = .ok (.athrow, 1) := by decide +kernel
theorem dX8_truncateInput_25 : decode cX8_truncateInput 25 = .ok (.aload_n 0, 1) := by decide +kernel
theorem dX8_truncateInput_26 : decode cX8_truncateInput 26 = .ok (.getfield 44, 3) := by decide +kernel
theorem dX8_truncateInput_29 : decode cX8_truncateInput 29 = .ok (.iload_n 1, 1) := by decide +kernel
theorem dX8_truncateInput_30 : decode cX8_truncateInput 30 = .ok (.putfield 107, 3) := by decide +kernel
theorem dX8_truncateInput_33 : decode cX8_truncateInput 33 = .ok (.iload_n 1, 1) := by decide +kernel
theorem dX8_truncateInput_34 : decode cX8_truncateInput 34 = .ok (.ireturn, 1) := by decide +kernel
theorem dX8_load_0 : decode cX8_load 0 = .ok (.aload_n 0, 1) := by decide +kernel
theorem dX8_load_1 : decode cX8_load 1 = .ok (.getfield 20, 3) := by decide +kernel
theorem dX8_load_4 : decode cX8_load 4 = .ok (.invokevirtual 124, 3) := by decide +kernel
theorem dX8_load_7 : decode cX8_load 7 = .ok (.new 98, 3) := by decide +kernel
theorem dX8_load_10 : decode cX8_load 10 = .ok (.dup, 1) := by decide +kernel
theorem dX8_load_11 : decode cX8_load 11 = .ok (.aload_n 0, 1) := by decide +kernel
theorem dX8_load_12 : decode cX8_load 12 = .ok (.getfield 44, 3) := by decide +kernel
theorem dX8_load_15 : decode cX8_load 15 = .ok (.aload_n 0, 1) := by decide +kernel
theorem dX8_load_16 : decode cX8_load 16 = .ok (.getfield 20, 3) := by decide +kernel
theorem dX8_load_19 : decode cX8_load 19 = .ok (.invokespecial 100, 3) := by decide +kernel
theorem dX8_load_22 : decode cX8_load 22 = .ok (.astore_n 1, 1) := by decide +kernel
theorem dX8_load_23 : decode cX8_load 23 = .ok (.aload_n 1, 1) := by decide +kernel
theorem dX8_load_24 : decode cX8_load 24 = .ok (.invokevirtual 103, 3) := by decide +kernel
theorem dX8_load_27 : decode cX8_load 27 = .ok (.istore_n 2, 1) := by decide +kernel
theorem dX8_load_28 : decode cX8_load 28 = .ok (.aload_n 0, 1) := by decide +kernel
theorem dX8_load_29 : decode cX8_load 29 = .ok (.getfield 44, 3) := by decide +kernel
theorem dX8_load_32 : decode cX8_load 32 = .ok (.invokevirtual 127, 3) := by decide +kernel
theorem dX8_load_35 : decode cX8_load 35 = .ok (.aload_n 0, 1) := by decide +kernel
theorem dX8_load_36 : decode cX8_load 36 = .ok (.aload_n 1, 1) := by decide +kernel
theorem dX8_load_37 : decode cX8_load 37 = .ok (.getfield 128, 3) := by decide +kernel
theorem dX8_load_40 : decode cX8_load 40 = .ok (.putfield 51, 3) := by decide +kernel
theorem dX8_load_43 : decode cX8_load 43 = .ok (.aload_n 0, 1) := by decide +kernel
theorem dX8_load_44 : decode cX8_load 44 = .ok (.aload_n 1, 1) := by decide +kernel
theorem dX8_load_45 : decode cX8_load 45 = .ok (.getfield 131, 3) := by decide +kernel
theorem dX8_load_48 : decode cX8_load 48 = .ok (.putfield 54, 3) := by decide +kernel
theorem dX8_load_51 : decode cX8_load 51 = .ok (.iload_n 2, 1) := by decide +kernel
theorem dX8_load_52 : decode cX8_load 52 = .ok (.ifCond .ne 13, 3) := by decide +kernel
theorem dX8_load_55 : decode cX8_load 55 = .ok (.new 119, 3) := by decide +kernel
theorem dX8_load_58 : decode cX8_load 58 = .ok (.dup, 1) := by decide +kernel
theorem dX8_load_59 : decode cX8_load 59 = .ok (.ldc 134, 2) := by decide +kernel
theorem dX8_load_61 : decode cX8_load 61 = .ok (.invokespecial 123, 3) := by decide +kernel
theorem dX8_load_64 : decode cX8_load 64 = .ok (.athrow, 1) := by decide +kernel
theorem dX8_load_65 : decode cX8_load 65 = .ok (.aload_n 0, 1) := by decide +kernel
theorem dX8_load_66 : decode cX8_load 66 = .ok (.invokevirtual 136, 3) := by decide +kernel
theorem dX8_load_69 : decode cX8_load 69 = .ok (.aload_n 0, 1) := by decide +kernel
theorem dX8_load_70 : decode cX8_load 70 = .ok (.getfield 13, 3) := by decide +kernel
theorem dX8_load_73 : decode cX8_load 73 = .ok (.aload_n 0, 1) := by decide +kernel
theorem dX8_load_74 : decode cX8_load 74 = .ok (.getfield 20, 3) := by decide +kernel
theorem dX8_load_77 : decode cX8_load 77 = .ok (.invokevirtual 139, 3) := by decide +kernel
theorem dX8_load_80 : decode cX8_load 80 = .ok (.aload_n 0, 1) := by decide +kernel
theorem dX8_load_81 : decode cX8_load 81 = .ok (.getfield 13, 3) := by decide +kernel
theorem dX8_load_84 : decode cX8_load 84 = .ok (.getfield 143, 3) := by decide +kernel
theorem dX8_load_87 : decode cX8_load 87 = .ok (.ireturn, 1) := by decide +kernel
theorem dX8_errorCode_0 : decode cX8_errorCode 0 = .ok (.aload_n 0, 1) := by decide +kernel
theorem dX8_errorCode_1 : decode cX8_errorCode 1 = .ok (.getfield 51, 3) := by decide +kernel
theorem dX8_errorCode_4 : decode cX8_errorCode 4 = .ok (.ireturn, 1) := by decide +kernel
theorem dX8_readerCount_0 : decode cX8_readerCount 0 = .ok (.aload_n 0, 1) := by decide +kernel
theorem dX8_readerCount_1 : decode cX8_readerCount 1 = .ok (.getfield 13, 3) := by decide +kernel
theorem dX8_readerCount_4 : decode cX8_readerCount 4 = .ok (.getfield 143, 3) := by decide +kernel
theorem dX8_readerCount_7 : decode cX8_readerCount 7 = .ok (.ireturn, 1) := by decide +kernel
theorem dX8_escapeMethod_0 : decode cX8_escapeMethod 0 = .ok (.aload_n 0, 1) := by decide +kernel
theorem dX8_escapeMethod_1 : decode cX8_escapeMethod 1 = .ok (.iload_n 1, 1) := by decide +kernel
theorem dX8_escapeMethod_2 : decode cX8_escapeMethod 2 = .ok (.invokevirtual 149, 3) := by decide +kernel
theorem dX8_escapeMethod_5 : decode cX8_escapeMethod 5 = .ok (.getfield 164, 3) := by decide +kernel
theorem dX8_escapeMethod_8 : decode cX8_escapeMethod 8 = .ok (.ireturn, 1) := by decide +kernel
theorem dX8_documentCount_0 : decode cX8_documentCount 0 = .ok (.aload_n 0, 1) := by decide +kernel
theorem dX8_documentCount_1 : decode cX8_documentCount 1 = .ok (.getfield 13, 3) := by decide +kernel
theorem dX8_documentCount_4 : decode cX8_documentCount 4 = .ok (.getfield 167, 3) := by decide +kernel
theorem dX8_documentCount_7 : decode cX8_documentCount 7 = .ok (.ireturn, 1) := by decide +kernel
theorem dX8_documentLength_0 : decode cX8_documentLength 0 = .ok (.aload_n 0, 1) := by decide +kernel
theorem dX8_documentLength_1 : decode cX8_documentLength 1 = .ok (.iload_n 1, 1) := by decide +kernel
theorem dX8_documentLength_2 : decode cX8_documentLength 2 = .ok (.invokevirtual 170, 3) := by decide +kernel
theorem dX8_documentLength_5 : decode cX8_documentLength 5 = .ok (.getfield 174, 3) := by decide +kernel
theorem dX8_documentLength_8 : decode cX8_documentLength 8 = .ok (.ireturn, 1) := by decide +kernel
theorem dX8_documentSymbol_0 : decode cX8_documentSymbol 0 = .ok (.aload_n 0, 1) := by decide +kernel
theorem dX8_documentSymbol_1 : decode cX8_documentSymbol 1 = .ok (.iload_n 1, 1) := by decide +kernel
theorem dX8_documentSymbol_2 : decode cX8_documentSymbol 2 = .ok (.invokevirtual 170, 3) := by decide +kernel
theorem dX8_documentSymbol_5 : decode cX8_documentSymbol 5 = .ok (.iload_n 2, 1) := by decide +kernel
theorem dX8_documentSymbol_6 : decode cX8_documentSymbol 6 = .ok (.invokevirtual 177, 3) := by decide +kernel
theorem dX8_documentSymbol_9 : decode cX8_documentSymbol 9 = .ok (.istore_n 3, 1) := by decide +kernel
theorem dX8_documentSymbol_10 : decode cX8_documentSymbol 10 = .ok (.iload_n 3, 1) := by decide +kernel
theorem dX8_documentSymbol_11 : decode cX8_documentSymbol 11 = .ok (.iconst (-1), 1) := by decide +kernel
theorem dX8_documentSymbol_12 : decode cX8_documentSymbol 12 = .ok (.if_icmp .ne 13, 3) := by decide +kernel
theorem dX8_documentSymbol_15 : decode cX8_documentSymbol 15 = .ok (.new 159, 3) := by decide +kernel
theorem dX8_documentSymbol_18 : decode cX8_documentSymbol 18 = .ok (.dup, 1) := by decide +kernel
theorem dX8_documentSymbol_19 : decode cX8_documentSymbol 19 = .ok (.ldc 180, 2) := by decide +kernel
theorem dX8_documentSymbol_21 : decode cX8_documentSymbol 21 = .ok (.invokespecial 163, 3) := by decide +kernel
theorem dX8_documentSymbol_24 : decode cX8_documentSymbol 24 = .ok (.athrow, 1) := by decide +kernel
theorem dX8_documentSymbol_25 : decode cX8_documentSymbol 25 = .ok (.iload_n 3, 1) := by decide +kernel
theorem dX8_documentSymbol_26 : decode cX8_documentSymbol 26 = .ok (.ireturn, 1) := by decide +kernel
theorem dX8_countOrder0_0 : decode cX8_countOrder0 0 = .ok (.aload_n 0, 1) := by decide +kernel
theorem dX8_countOrder0_1 : decode cX8_countOrder0 1 = .ok (.iload_n 1, 1) := by decide +kernel
theorem dX8_countOrder0_2 : decode cX8_countOrder0 2 = .ok (.invokevirtual 149, 3) := by decide +kernel
theorem dX8_countOrder0_5 : decode cX8_countOrder0 5 = .ok (.astore_n 3, 1) := by decide +kernel
theorem dX8_countOrder0_6 : decode cX8_countOrder0 6 = .ok (.iload_n 2, 1) := by decide +kernel
theorem dX8_countOrder0_7 : decode cX8_countOrder0 7 = .ok (.invokestatic 185, 3) := by decide +kernel
theorem dX8_countOrder0_10 : decode cX8_countOrder0 10 = .ok (.aload_n 3, 1) := by decide +kernel
theorem dX8_countOrder0_11 : decode cX8_countOrder0 11 = .ok (.getfield 188, 3) := by decide +kernel
theorem dX8_countOrder0_14 : decode cX8_countOrder0 14 = .ok (.iconst 0, 1) := by decide +kernel
theorem dX8_countOrder0_15 : decode cX8_countOrder0 15 = .ok (.iconst (-1), 1) := by decide +kernel
theorem dX8_countOrder0_16 : decode cX8_countOrder0 16 = .ok (.iconst (-1), 1) := by decide +kernel
theorem dX8_countOrder0_17 : decode cX8_countOrder0 17 = .ok (.invokestatic 191, 3) := by decide +kernel
theorem dX8_countOrder0_20 : decode cX8_countOrder0 20 = .ok (.iload_n 2, 1) := by decide +kernel
theorem dX8_countOrder0_21 : decode cX8_countOrder0 21 = .ok (.iadd, 1) := by decide +kernel
theorem dX8_countOrder0_22 : decode cX8_countOrder0 22 = .ok (.invokevirtual 195, 3) := by decide +kernel
theorem dX8_countOrder0_25 : decode cX8_countOrder0 25 = .ok (.ireturn, 1) := by decide +kernel
theorem dX8_countOrder1_0 : decode cX8_countOrder1 0 = .ok (.aload_n 0, 1) := by decide +kernel
theorem dX8_countOrder1_1 : decode cX8_countOrder1 1 = .ok (.iload_n 1, 1) := by decide +kernel
theorem dX8_countOrder1_2 : decode cX8_countOrder1 2 = .ok (.invokevirtual 149, 3) := by decide +kernel
theorem dX8_countOrder1_5 : decode cX8_countOrder1 5 = .ok (.astore 4, 2) := by decide +kernel
theorem dX8_countOrder1_7 : decode cX8_countOrder1 7 = .ok (.iload_n 2, 1) := by decide +kernel
theorem dX8_countOrder1_8 : decode cX8_countOrder1 8 = .ok (.invokestatic 185, 3) := by decide +kernel
theorem dX8_countOrder1_11 : decode cX8_countOrder1 11 = .ok (.iload_n 3, 1) := by decide +kernel
theorem dX8_countOrder1_12 : decode cX8_countOrder1 12 = .ok (.invokestatic 185, 3) := by decide +kernel
theorem dX8_countOrder1_15 : decode cX8_countOrder1 15 = .ok (.aload 4, 2) := by decide +kernel
theorem dX8_countOrder1_17 : decode cX8_countOrder1 17 = .ok (.getfield 188, 3) := by decide +kernel
theorem dX8_countOrder1_20 : decode cX8_countOrder1 20 = .ok (.iconst 1, 1) := by decide +kernel
theorem dX8_countOrder1_21 : decode cX8_countOrder1 21 = .ok (.iconst (-1), 1) := by decide +kernel
theorem dX8_countOrder1_22 : decode cX8_countOrder1 22 = .ok (.iload_n 2, 1) := by decide +kernel
theorem dX8_countOrder1_23 : decode cX8_countOrder1 23 = .ok (.invokestatic 191, 3) := by decide +kernel
theorem dX8_countOrder1_26 : decode cX8_countOrder1 26 = .ok (.iload_n 3, 1) := by decide +kernel
theorem dX8_countOrder1_27 : decode cX8_countOrder1 27 = .ok (.iadd, 1) := by decide +kernel
theorem dX8_countOrder1_28 : decode cX8_countOrder1 28 = .ok (.invokevirtual 195, 3) := by decide +kernel
theorem dX8_countOrder1_31 : decode cX8_countOrder1 31 = .ok (.ireturn, 1) := by decide +kernel
theorem dX8_countOrder2_0 : decode cX8_countOrder2 0 = .ok (.aload_n 0, 1) := by decide +kernel
theorem dX8_countOrder2_1 : decode cX8_countOrder2 1 = .ok (.iload_n 1, 1) := by decide +kernel
theorem dX8_countOrder2_2 : decode cX8_countOrder2 2 = .ok (.invokevirtual 149, 3) := by decide +kernel
theorem dX8_countOrder2_5 : decode cX8_countOrder2 5 = .ok (.astore 5, 2) := by decide +kernel
theorem dX8_countOrder2_7 : decode cX8_countOrder2 7 = .ok (.iload_n 2, 1) := by decide +kernel
theorem dX8_countOrder2_8 : decode cX8_countOrder2 8 = .ok (.invokestatic 185, 3) := by decide +kernel
theorem dX8_countOrder2_11 : decode cX8_countOrder2 11 = .ok (.iload_n 3, 1) := by decide +kernel
theorem dX8_countOrder2_12 : decode cX8_countOrder2 12 = .ok (.invokestatic 185, 3) := by decide +kernel
theorem dX8_countOrder2_15 : decode cX8_countOrder2 15 = .ok (.iload 4, 2) := by decide +kernel
theorem dX8_countOrder2_17 : decode cX8_countOrder2 17 = .ok (.invokestatic 185, 3) := by decide +kernel
theorem dX8_countOrder2_20 : decode cX8_countOrder2 20 = .ok (.aload 5, 2) := by decide +kernel
theorem dX8_countOrder2_22 : decode cX8_countOrder2 22 = .ok (.getfield 188, 3) := by decide +kernel
theorem dX8_countOrder2_25 : decode cX8_countOrder2 25 = .ok (.iconst 2, 1) := by decide +kernel
theorem dX8_countOrder2_26 : decode cX8_countOrder2 26 = .ok (.iload_n 2, 1) := by decide +kernel
theorem dX8_countOrder2_27 : decode cX8_countOrder2 27 = .ok (.iload_n 3, 1) := by decide +kernel
theorem dX8_countOrder2_28 : decode cX8_countOrder2 28 = .ok (.invokestatic 191, 3) := by decide +kernel
theorem dX8_countOrder2_31 : decode cX8_countOrder2 31 = .ok (.iload 4, 2) := by decide +kernel
theorem dX8_countOrder2_33 : decode cX8_countOrder2 33 = .ok (.iadd, 1) := by decide +kernel
theorem dX8_countOrder2_34 : decode cX8_countOrder2 34 = .ok (.invokevirtual 195, 3) := by decide +kernel
theorem dX8_countOrder2_37 : decode cX8_countOrder2 37 = .ok (.ireturn, 1) := by decide +kernel
theorem dX8_contextTotal_0 : decode cX8_contextTotal 0 = .ok (.aload_n 0, 1) := by decide +kernel
theorem dX8_contextTotal_1 : decode cX8_contextTotal 1 = .ok (.iload_n 1, 1) := by decide +kernel
theorem dX8_contextTotal_2 : decode cX8_contextTotal 2 = .ok (.invokevirtual 149, 3) := by decide +kernel
theorem dX8_contextTotal_5 : decode cX8_contextTotal 5 = .ok (.astore 4, 2) := by decide +kernel
theorem dX8_contextTotal_7 : decode cX8_contextTotal 7 = .ok (.iload_n 2, 1) := by decide +kernel
theorem dX8_contextTotal_8 : decode cX8_contextTotal 8 = .ok (.iload_n 3, 1) := by decide +kernel
theorem dX8_contextTotal_9 : decode cX8_contextTotal 9 = .ok (.invokestatic 198, 3) := by decide +kernel
theorem dX8_contextTotal_12 : decode cX8_contextTotal 12 = .ok (.iload_n 2, 1) := by decide +kernel
theorem dX8_contextTotal_13 : decode cX8_contextTotal 13 = .ok (.iload_n 3, 1) := by decide +kernel
theorem dX8_contextTotal_14 : decode cX8_contextTotal 14 = .ok (.invokestatic 202, 3) := by decide +kernel
theorem dX8_contextTotal_17 : decode cX8_contextTotal 17 = .ok (.istore 5, 2) := by decide +kernel
theorem dX8_contextTotal_19 : decode cX8_contextTotal 19 = .ok (.aload 4, 2) := by decide +kernel
theorem dX8_contextTotal_21 : decode cX8_contextTotal 21 = .ok (.getfield 188, 3) := by decide +kernel
theorem dX8_contextTotal_24 : decode cX8_contextTotal 24 = .ok (.iload 5, 2) := by decide +kernel
theorem dX8_contextTotal_26 : decode cX8_contextTotal 26 = .ok (.iload_n 2, 1) := by decide +kernel
theorem dX8_contextTotal_27 : decode cX8_contextTotal 27 = .ok (.iload_n 3, 1) := by decide +kernel
theorem dX8_contextTotal_28 : decode cX8_contextTotal 28 = .ok (.invokestatic 191, 3) := by decide +kernel
theorem dX8_contextTotal_31 : decode cX8_contextTotal 31 = .ok (.invokevirtual 206, 3) := by decide +kernel
theorem dX8_contextTotal_34 : decode cX8_contextTotal 34 = .ok (.ireturn, 1) := by decide +kernel
theorem dX8_contextSymbols_0 : decode cX8_contextSymbols 0 = .ok (.aload_n 0, 1) := by decide +kernel
theorem dX8_contextSymbols_1 : decode cX8_contextSymbols 1 = .ok (.iload_n 1, 1) := by decide +kernel
theorem dX8_contextSymbols_2 : decode cX8_contextSymbols 2 = .ok (.invokevirtual 149, 3) := by decide +kernel
theorem dX8_contextSymbols_5 : decode cX8_contextSymbols 5 = .ok (.astore 4, 2) := by decide +kernel
theorem dX8_contextSymbols_7 : decode cX8_contextSymbols 7 = .ok (.iload_n 2, 1) := by decide +kernel
theorem dX8_contextSymbols_8 : decode cX8_contextSymbols 8 = .ok (.iload_n 3, 1) := by decide +kernel
theorem dX8_contextSymbols_9 : decode cX8_contextSymbols 9 = .ok (.invokestatic 198, 3) := by decide +kernel
theorem dX8_contextSymbols_12 : decode cX8_contextSymbols 12 = .ok (.iload_n 2, 1) := by decide +kernel
theorem dX8_contextSymbols_13 : decode cX8_contextSymbols 13 = .ok (.iload_n 3, 1) := by decide +kernel
theorem dX8_contextSymbols_14 : decode cX8_contextSymbols 14 = .ok (.invokestatic 202, 3) := by decide +kernel
theorem dX8_contextSymbols_17 : decode cX8_contextSymbols 17 = .ok (.istore 5, 2) := by decide +kernel
theorem dX8_contextSymbols_19 : decode cX8_contextSymbols 19 = .ok (.aload 4, 2) := by decide +kernel
theorem dX8_contextSymbols_21 : decode cX8_contextSymbols 21 = .ok (.getfield 188, 3) := by decide +kernel
theorem dX8_contextSymbols_24 : decode cX8_contextSymbols 24 = .ok (.iload 5, 2) := by decide +kernel
theorem dX8_contextSymbols_26 : decode cX8_contextSymbols 26 = .ok (.iload_n 2, 1) := by decide +kernel
theorem dX8_contextSymbols_27 : decode cX8_contextSymbols 27 = .ok (.iload_n 3, 1) := by decide +kernel
theorem dX8_contextSymbols_28 : decode cX8_contextSymbols 28 = .ok (.invokestatic 191, 3) := by decide +kernel
theorem dX8_contextSymbols_31 : decode cX8_contextSymbols 31 = .ok (.invokevirtual 209, 3) := by decide +kernel
theorem dX8_contextSymbols_34 : decode cX8_contextSymbols 34 = .ok (.ireturn, 1) := by decide +kernel
theorem dX8_positiveCounts_0 : decode cX8_positiveCounts 0 = .ok (.aload_n 0, 1) := by decide +kernel
theorem dX8_positiveCounts_1 : decode cX8_positiveCounts 1 = .ok (.iload_n 1, 1) := by decide +kernel
theorem dX8_positiveCounts_2 : decode cX8_positiveCounts 2 = .ok (.invokevirtual 149, 3) := by decide +kernel
theorem dX8_positiveCounts_5 : decode cX8_positiveCounts 5 = .ok (.getfield 188, 3) := by decide +kernel
theorem dX8_positiveCounts_8 : decode cX8_positiveCounts 8 = .ok (.getfield 215, 3) := by decide +kernel
theorem dX8_positiveCounts_11 : decode cX8_positiveCounts 11 = .ok (.ireturn, 1) := by decide +kernel
theorem dX8_timesTrained_0 : decode cX8_timesTrained 0 = .ok (.aload_n 0, 1) := by decide +kernel
theorem dX8_timesTrained_1 : decode cX8_timesTrained 1 = .ok (.iload_n 1, 1) := by decide +kernel
theorem dX8_timesTrained_2 : decode cX8_timesTrained 2 = .ok (.invokevirtual 149, 3) := by decide +kernel
theorem dX8_timesTrained_5 : decode cX8_timesTrained 5 = .ok (.astore_n 3, 1) := by decide +kernel
theorem dX8_timesTrained_6 : decode cX8_timesTrained 6 = .ok (.aload_n 0, 1) := by decide +kernel
theorem dX8_timesTrained_7 : decode cX8_timesTrained 7 = .ok (.iload_n 2, 1) := by decide +kernel
theorem dX8_timesTrained_8 : decode cX8_timesTrained 8 = .ok (.invokevirtual 170, 3) := by decide +kernel
theorem dX8_timesTrained_11 : decode cX8_timesTrained 11 = .ok (.pop, 1) := by decide +kernel
theorem dX8_timesTrained_12 : decode cX8_timesTrained 12 = .ok (.aload_n 3, 1) := by decide +kernel
theorem dX8_timesTrained_13 : decode cX8_timesTrained 13 = .ok (.iload_n 2, 1) := by decide +kernel
theorem dX8_timesTrained_14 : decode cX8_timesTrained 14 = .ok (.invokevirtual 218, 3) := by decide +kernel
theorem dX8_timesTrained_17 : decode cX8_timesTrained 17 = .ok (.ireturn, 1) := by decide +kernel
theorem dX8_trainedSymbols_0 : decode cX8_trainedSymbols 0 = .ok (.aload_n 0, 1) := by decide +kernel
theorem dX8_trainedSymbols_1 : decode cX8_trainedSymbols 1 = .ok (.iload_n 1, 1) := by decide +kernel
theorem dX8_trainedSymbols_2 : decode cX8_trainedSymbols 2 = .ok (.invokevirtual 149, 3) := by decide +kernel
theorem dX8_trainedSymbols_5 : decode cX8_trainedSymbols 5 = .ok (.getfield 221, 3) := by decide +kernel
theorem dX8_trainedSymbols_8 : decode cX8_trainedSymbols 8 = .ok (.ireturn, 1) := by decide +kernel
theorem dX8_trainingGap_0 : decode cX8_trainingGap 0 = .ok (.aload_n 0, 1) := by decide +kernel
theorem dX8_trainingGap_1 : decode cX8_trainingGap 1 = .ok (.iload_n 1, 1) := by decide +kernel
theorem dX8_trainingGap_2 : decode cX8_trainingGap 2 = .ok (.invokevirtual 149, 3) := by decide +kernel
theorem dX8_trainingGap_5 : decode cX8_trainingGap 5 = .ok (.astore_n 2, 1) := by decide +kernel
theorem dX8_trainingGap_6 : decode cX8_trainingGap 6 = .ok (.aload_n 2, 1) := by decide +kernel
theorem dX8_trainingGap_7 : decode cX8_trainingGap 7 = .ok (.getfield 221, 3) := by decide +kernel
theorem dX8_trainingGap_10 : decode cX8_trainingGap 10 = .ok (.istore_n 3, 1) := by decide +kernel
theorem dX8_trainingGap_11 : decode cX8_trainingGap 11 = .ok (.iconst 0, 1) := by decide +kernel
theorem dX8_trainingGap_12 : decode cX8_trainingGap 12 = .ok (.istore 4, 2) := by decide +kernel
theorem dX8_trainingGap_14 : decode cX8_trainingGap 14 = .ok (.iload 4, 2) := by decide +kernel
theorem dX8_trainingGap_16 : decode cX8_trainingGap 16 = .ok (.aload_n 0, 1) := by decide +kernel
theorem dX8_trainingGap_17 : decode cX8_trainingGap 17 = .ok (.getfield 13, 3) := by decide +kernel
theorem dX8_trainingGap_20 : decode cX8_trainingGap 20 = .ok (.getfield 167, 3) := by decide +kernel
theorem dX8_trainingGap_23 : decode cX8_trainingGap 23 = .ok (.if_icmp .ge 28, 3) := by decide +kernel
theorem dX8_trainingGap_26 : decode cX8_trainingGap 26 = .ok (.iload_n 3, 1) := by decide +kernel
theorem dX8_trainingGap_27 : decode cX8_trainingGap 27 = .ok (.aload_n 2, 1) := by decide +kernel
theorem dX8_trainingGap_28 : decode cX8_trainingGap 28 = .ok (.iload 4, 2) := by decide +kernel
theorem dX8_trainingGap_30 : decode cX8_trainingGap 30 = .ok (.invokevirtual 218, 3) := by decide +kernel
theorem dX8_trainingGap_33 : decode cX8_trainingGap 33 = .ok (.aload_n 0, 1) := by decide +kernel
theorem dX8_trainingGap_34 : decode cX8_trainingGap 34 = .ok (.iload 4, 2) := by decide +kernel
theorem dX8_trainingGap_36 : decode cX8_trainingGap 36 = .ok (.invokevirtual 170, 3) := by decide +kernel
theorem dX8_trainingGap_39 : decode cX8_trainingGap 39 = .ok (.getfield 174, 3) := by decide +kernel
theorem dX8_trainingGap_42 : decode cX8_trainingGap 42 = .ok (.imul, 1) := by decide +kernel
theorem dX8_trainingGap_43 : decode cX8_trainingGap 43 = .ok (.isub, 1) := by decide +kernel
theorem dX8_trainingGap_44 : decode cX8_trainingGap 44 = .ok (.istore_n 3, 1) := by decide +kernel
theorem dX8_trainingGap_45 : decode cX8_trainingGap 45 = .ok (.iinc 4 1, 3) := by decide +kernel
theorem dX8_trainingGap_48 : decode cX8_trainingGap 48 = .ok (.goto (-34), 3) := by decide +kernel
theorem dX8_trainingGap_51 : decode cX8_trainingGap 51 = .ok (.iload_n 3, 1) := by decide +kernel
theorem dX8_trainingGap_52 : decode cX8_trainingGap 52 = .ok (.ireturn, 1) := by decide +kernel
theorem dX8_symbolAtRank_0 : decode cX8_symbolAtRank 0 = .ok (.aload_n 0, 1) := by decide +kernel
theorem dX8_symbolAtRank_1 : decode cX8_symbolAtRank 1 = .ok (.iload_n 1, 1) := by decide +kernel
theorem dX8_symbolAtRank_2 : decode cX8_symbolAtRank 2 = .ok (.invokevirtual 149, 3) := by decide +kernel
theorem dX8_symbolAtRank_5 : decode cX8_symbolAtRank 5 = .ok (.astore 5, 2) := by decide +kernel
theorem dX8_symbolAtRank_7 : decode cX8_symbolAtRank 7 = .ok (.iload_n 2, 1) := by decide +kernel
theorem dX8_symbolAtRank_8 : decode cX8_symbolAtRank 8 = .ok (.iload_n 3, 1) := by decide +kernel
theorem dX8_symbolAtRank_9 : decode cX8_symbolAtRank 9 = .ok (.invokestatic 198, 3) := by decide +kernel
theorem dX8_symbolAtRank_12 : decode cX8_symbolAtRank 12 = .ok (.iload 4, 2) := by decide +kernel
theorem dX8_symbolAtRank_14 : decode cX8_symbolAtRank 14 = .ok (.iconst 1, 1) := by decide +kernel
theorem dX8_symbolAtRank_15 : decode cX8_symbolAtRank 15 = .ok (.if_icmp .lt 10, 3) := by decide +kernel
theorem dX8_symbolAtRank_18 : decode cX8_symbolAtRank 18 = .ok (.iload 4, 2) := by decide +kernel
theorem dX8_symbolAtRank_20 : decode cX8_symbolAtRank 20 = .ok (.bipush 27, 2) := by decide +kernel
theorem dX8_symbolAtRank_22 : decode cX8_symbolAtRank 22 = .ok (.if_icmp .le 13, 3) := by decide +kernel
theorem dX8_symbolAtRank_25 : decode cX8_symbolAtRank 25 = .ok (.new 119, 3) := by decide +kernel
theorem dX8_symbolAtRank_28 : decode cX8_symbolAtRank 28 = .ok (.dup, 1) := by decide +kernel
theorem dX8_symbolAtRank_29 : decode cX8_symbolAtRank 29 = .ok (.ldc 224, 2) := by decide +kernel
theorem dX8_symbolAtRank_31 : decode cX8_symbolAtRank 31 = .ok (.invokespecial 123, 3) := by decide +kernel
theorem dX8_symbolAtRank_34 : decode cX8_symbolAtRank 34 = .ok (.athrow, 1) := by decide +kernel
theorem dX8_symbolAtRank_35 : decode cX8_symbolAtRank 35 = .ok (.aload_n 0, 1) := by decide +kernel
theorem dX8_symbolAtRank_36 : decode cX8_symbolAtRank 36 = .ok (.aload 5, 2) := by decide +kernel
theorem dX8_symbolAtRank_38 : decode cX8_symbolAtRank 38 = .ok (.getfield 188, 3) := by decide +kernel
theorem dX8_symbolAtRank_41 : decode cX8_symbolAtRank 41 = .ok (.iload_n 2, 1) := by decide +kernel
theorem dX8_symbolAtRank_42 : decode cX8_symbolAtRank 42 = .ok (.iload_n 3, 1) := by decide +kernel
theorem dX8_symbolAtRank_43 : decode cX8_symbolAtRank 43 = .ok (.iload 4, 2) := by decide +kernel
theorem dX8_symbolAtRank_45 : decode cX8_symbolAtRank 45 = .ok (.invokevirtual 226, 3) := by decide +kernel
theorem dX8_symbolAtRank_48 : decode cX8_symbolAtRank 48 = .ok (.ireturn, 1) := by decide +kernel
theorem dX8_rank_0 : decode cX8_rank 0 = .ok (.aload_n 0, 1) := by decide +kernel
theorem dX8_rank_1 : decode cX8_rank 1 = .ok (.iload_n 1, 1) := by decide +kernel
theorem dX8_rank_2 : decode cX8_rank 2 = .ok (.invokevirtual 149, 3) := by decide +kernel
theorem dX8_rank_5 : decode cX8_rank 5 = .ok (.astore 5, 2) := by decide +kernel
theorem dX8_rank_7 : decode cX8_rank 7 = .ok (.iload_n 2, 1) := by decide +kernel
theorem dX8_rank_8 : decode cX8_rank 8 = .ok (.iload_n 3, 1) := by decide +kernel
theorem dX8_rank_9 : decode cX8_rank 9 = .ok (.invokestatic 198, 3) := by decide +kernel
theorem dX8_rank_12 : decode cX8_rank 12 = .ok (.iload 4, 2) := by decide +kernel
theorem dX8_rank_14 : decode cX8_rank 14 = .ok (.invokestatic 185, 3) := by decide +kernel
theorem dX8_rank_17 : decode cX8_rank 17 = .ok (.aload_n 0, 1) := by decide +kernel
theorem dX8_rank_18 : decode cX8_rank 18 = .ok (.aload 5, 2) := by decide +kernel
theorem dX8_rank_20 : decode cX8_rank 20 = .ok (.getfield 188, 3) := by decide +kernel
theorem dX8_rank_23 : decode cX8_rank 23 = .ok (.iload_n 2, 1) := by decide +kernel
theorem dX8_rank_24 : decode cX8_rank 24 = .ok (.iload_n 3, 1) := by decide +kernel
theorem dX8_rank_25 : decode cX8_rank 25 = .ok (.iload 4, 2) := by decide +kernel
theorem dX8_rank_27 : decode cX8_rank 27 = .ok (.invokevirtual 230, 3) := by decide +kernel
theorem dX8_rank_30 : decode cX8_rank 30 = .ok (.ireturn, 1) := by decide +kernel
theorem dX8_foundOrder_0 : decode cX8_foundOrder 0 = .ok (.aload_n 0, 1) := by decide +kernel
theorem dX8_foundOrder_1 : decode cX8_foundOrder 1 = .ok (.iload_n 1, 1) := by decide +kernel
theorem dX8_foundOrder_2 : decode cX8_foundOrder 2 = .ok (.invokevirtual 149, 3) := by decide +kernel
theorem dX8_foundOrder_5 : decode cX8_foundOrder 5 = .ok (.astore 5, 2) := by decide +kernel
theorem dX8_foundOrder_7 : decode cX8_foundOrder 7 = .ok (.iload_n 2, 1) := by decide +kernel
theorem dX8_foundOrder_8 : decode cX8_foundOrder 8 = .ok (.iload_n 3, 1) := by decide +kernel
theorem dX8_foundOrder_9 : decode cX8_foundOrder 9 = .ok (.invokestatic 198, 3) := by decide +kernel
theorem dX8_foundOrder_12 : decode cX8_foundOrder 12 = .ok (.iload 4, 2) := by decide +kernel
theorem dX8_foundOrder_14 : decode cX8_foundOrder 14 = .ok (.invokestatic 185, 3) := by decide +kernel
theorem dX8_foundOrder_17 : decode cX8_foundOrder 17 = .ok (.aload 5, 2) := by decide +kernel
theorem dX8_foundOrder_19 : decode cX8_foundOrder 19 = .ok (.getfield 188, 3) := by decide +kernel
theorem dX8_foundOrder_22 : decode cX8_foundOrder 22 = .ok (.iload_n 2, 1) := by decide +kernel
theorem dX8_foundOrder_23 : decode cX8_foundOrder 23 = .ok (.iload_n 3, 1) := by decide +kernel
theorem dX8_foundOrder_24 : decode cX8_foundOrder 24 = .ok (.iload 4, 2) := by decide +kernel
theorem dX8_foundOrder_26 : decode cX8_foundOrder 26 = .ok (.invokestatic 233, 3) := by decide +kernel
theorem dX8_foundOrder_29 : decode cX8_foundOrder 29 = .ok (.ireturn, 1) := by decide +kernel
theorem dX8_escapes_0 : decode cX8_escapes 0 = .ok (.aload_n 0, 1) := by decide +kernel
theorem dX8_escapes_1 : decode cX8_escapes 1 = .ok (.iload_n 1, 1) := by decide +kernel
theorem dX8_escapes_2 : decode cX8_escapes 2 = .ok (.iload_n 2, 1) := by decide +kernel
theorem dX8_escapes_3 : decode cX8_escapes 3 = .ok (.iload_n 3, 1) := by decide +kernel
theorem dX8_escapes_4 : decode cX8_escapes 4 = .ok (.iload 4, 2) := by decide +kernel
theorem dX8_escapes_6 : decode cX8_escapes 6 = .ok (.invokevirtual 236, 3) := by decide +kernel
theorem dX8_escapes_9 : decode cX8_escapes 9 = .ok (.getfield 240, 3) := by decide +kernel
theorem dX8_escapes_12 : decode cX8_escapes 12 = .ok (.ireturn, 1) := by decide +kernel
theorem dX8_numerator_0 : decode cX8_numerator 0 = .ok (.aload_n 0, 1) := by decide +kernel
theorem dX8_numerator_1 : decode cX8_numerator 1 = .ok (.iload_n 1, 1) := by decide +kernel
theorem dX8_numerator_2 : decode cX8_numerator 2 = .ok (.iload_n 2, 1) := by decide +kernel
theorem dX8_numerator_3 : decode cX8_numerator 3 = .ok (.iload_n 3, 1) := by decide +kernel
theorem dX8_numerator_4 : decode cX8_numerator 4 = .ok (.iload 4, 2) := by decide +kernel
theorem dX8_numerator_6 : decode cX8_numerator 6 = .ok (.invokevirtual 236, 3) := by decide +kernel
theorem dX8_numerator_9 : decode cX8_numerator 9 = .ok (.getfield 243, 3) := by decide +kernel
theorem dX8_numerator_12 : decode cX8_numerator 12 = .ok (.lreturn, 1) := by decide +kernel
theorem dX8_denominator_0 : decode cX8_denominator 0 = .ok (.aload_n 0, 1) := by decide +kernel
theorem dX8_denominator_1 : decode cX8_denominator 1 = .ok (.iload_n 1, 1) := by decide +kernel
theorem dX8_denominator_2 : decode cX8_denominator 2 = .ok (.iload_n 2, 1) := by decide +kernel
theorem dX8_denominator_3 : decode cX8_denominator 3 = .ok (.iload_n 3, 1) := by decide +kernel
theorem dX8_denominator_4 : decode cX8_denominator 4 = .ok (.iload 4, 2) := by decide +kernel
theorem dX8_denominator_6 : decode cX8_denominator 6 = .ok (.invokevirtual 236, 3) := by decide +kernel
theorem dX8_denominator_9 : decode cX8_denominator 9 = .ok (.getfield 247, 3) := by decide +kernel
theorem dX8_denominator_12 : decode cX8_denominator 12 = .ok (.lreturn, 1) := by decide +kernel
theorem dX8_probability_0 : decode cX8_probability 0 = .ok (.aload_n 0, 1) := by decide +kernel
theorem dX8_probability_1 : decode cX8_probability 1 = .ok (.iload_n 1, 1) := by decide +kernel
theorem dX8_probability_2 : decode cX8_probability 2 = .ok (.iload_n 2, 1) := by decide +kernel
theorem dX8_probability_3 : decode cX8_probability 3 = .ok (.iload_n 3, 1) := by decide +kernel
theorem dX8_probability_4 : decode cX8_probability 4 = .ok (.iload 4, 2) := by decide +kernel
theorem dX8_probability_6 : decode cX8_probability 6 = .ok (.invokevirtual 236, 3) := by decide +kernel
theorem dX8_probability_9 : decode cX8_probability 9 = .ok (.astore 5, 2) := by decide +kernel
theorem dX8_probability_11 : decode cX8_probability 11 = .ok (.aload 5, 2) := by decide +kernel
theorem dX8_probability_13 : decode cX8_probability 13 = .ok (.getfield 247, 3) := by decide +kernel
theorem dX8_probability_16 : decode cX8_probability 16 = .ok (.lconst 0, 1) := by decide +kernel
theorem dX8_probability_17 : decode cX8_probability 17 = .ok (.lcmp, 1) := by decide +kernel
theorem dX8_probability_18 : decode cX8_probability 18 = .ok (.ifCond .le 19, 3) := by decide +kernel
theorem dX8_probability_21 : decode cX8_probability 21 = .ok (.aload 5, 2) := by decide +kernel
theorem dX8_probability_23 : decode cX8_probability 23 = .ok (.getfield 243, 3) := by decide +kernel
theorem dX8_probability_26 : decode cX8_probability 26 = .ok (.l2d, 1) := by decide +kernel
theorem dX8_probability_27 : decode cX8_probability 27 = .ok (.aload 5, 2) := by decide +kernel
theorem dX8_probability_29 : decode cX8_probability 29 = .ok (.getfield 247, 3) := by decide +kernel
theorem dX8_probability_32 : decode cX8_probability 32 = .ok (.l2d, 1) := by decide +kernel
theorem dX8_probability_33 : decode cX8_probability 33 = .ok (.ddiv, 1) := by decide +kernel
theorem dX8_probability_34 : decode cX8_probability 34 = .ok (.goto 4, 3) := by decide +kernel
theorem dX8_probability_37 : decode cX8_probability 37 = .ok (.dconst 0, 1) := by decide +kernel
theorem dX8_probability_38 : decode cX8_probability 38 = .ok (.dreturn, 1) := by decide +kernel
theorem dX8_codeLength_0 : decode cX8_codeLength 0 = .ok (.aload_n 0, 1) := by decide +kernel
theorem dX8_codeLength_1 : decode cX8_codeLength 1 = .ok (.iload_n 1, 1) := by decide +kernel
theorem dX8_codeLength_2 : decode cX8_codeLength 2 = .ok (.iload_n 2, 1) := by decide +kernel
theorem dX8_codeLength_3 : decode cX8_codeLength 3 = .ok (.iload_n 3, 1) := by decide +kernel
theorem dX8_codeLength_4 : decode cX8_codeLength 4 = .ok (.iload 4, 2) := by decide +kernel
theorem dX8_codeLength_6 : decode cX8_codeLength 6 = .ok (.invokevirtual 236, 3) := by decide +kernel
theorem dX8_codeLength_9 : decode cX8_codeLength 9 = .ok (.invokevirtual 250, 3) := by decide +kernel
theorem dX8_codeLength_12 : decode cX8_codeLength 12 = .ok (.ireturn, 1) := by decide +kernel
theorem dX8_train_0 : decode cX8_train 0 = .ok (.aload_n 0, 1) := by decide +kernel
theorem dX8_train_1 : decode cX8_train 1 = .ok (.iload_n 1, 1) := by decide +kernel
theorem dX8_train_2 : decode cX8_train 2 = .ok (.invokevirtual 149, 3) := by decide +kernel
theorem dX8_train_5 : decode cX8_train 5 = .ok (.astore_n 3, 1) := by decide +kernel
theorem dX8_train_6 : decode cX8_train 6 = .ok (.aload_n 0, 1) := by decide +kernel
theorem dX8_train_7 : decode cX8_train 7 = .ok (.iload_n 2, 1) := by decide +kernel
theorem dX8_train_8 : decode cX8_train 8 = .ok (.invokevirtual 170, 3) := by decide +kernel
theorem dX8_train_11 : decode cX8_train 11 = .ok (.astore 4, 2) := by decide +kernel
theorem dX8_train_13 : decode cX8_train 13 = .ok (.aload_n 0, 1) := by decide +kernel
theorem dX8_train_14 : decode cX8_train 14 = .ok (.invokevirtual 136, 3) := by decide +kernel
theorem dX8_train_17 : decode cX8_train 17 = .ok (.aload_n 3, 1) := by decide +kernel
theorem dX8_train_18 : decode cX8_train 18 = .ok (.getfield 188, 3) := by decide +kernel
theorem dX8_train_21 : decode cX8_train 21 = .ok (.aload 4, 2) := by decide +kernel
theorem dX8_train_23 : decode cX8_train 23 = .ok (.invokevirtual 274, 3) := by decide +kernel
theorem dX8_train_26 : decode cX8_train 26 = .ok (.aload_n 3, 1) := by decide +kernel
theorem dX8_train_27 : decode cX8_train 27 = .ok (.iload_n 2, 1) := by decide +kernel
theorem dX8_train_28 : decode cX8_train 28 = .ok (.aload 4, 2) := by decide +kernel
theorem dX8_train_30 : decode cX8_train 30 = .ok (.getfield 174, 3) := by decide +kernel
theorem dX8_train_33 : decode cX8_train 33 = .ok (.invokevirtual 319, 3) := by decide +kernel
theorem dX8_train_36 : decode cX8_train 36 = .ok (.aload_n 0, 1) := by decide +kernel
theorem dX8_train_37 : decode cX8_train 37 = .ok (.aload_n 3, 1) := by decide +kernel
theorem dX8_train_38 : decode cX8_train 38 = .ok (.getfield 188, 3) := by decide +kernel
theorem dX8_train_41 : decode cX8_train 41 = .ok (.aload 4, 2) := by decide +kernel
theorem dX8_train_43 : decode cX8_train 43 = .ok (.invokevirtual 257, 3) := by decide +kernel
theorem dX8_train_46 : decode cX8_train 46 = .ok (.ireturn, 1) := by decide +kernel
theorem dX8_learn_0 : decode cX8_learn 0 = .ok (.aload_n 0, 1) := by decide +kernel
theorem dX8_learn_1 : decode cX8_learn 1 = .ok (.iload_n 1, 1) := by decide +kernel
theorem dX8_learn_2 : decode cX8_learn 2 = .ok (.invokevirtual 149, 3) := by decide +kernel
theorem dX8_learn_5 : decode cX8_learn 5 = .ok (.astore_n 3, 1) := by decide +kernel
theorem dX8_learn_6 : decode cX8_learn 6 = .ok (.aload_n 0, 1) := by decide +kernel
theorem dX8_learn_7 : decode cX8_learn 7 = .ok (.iload_n 2, 1) := by decide +kernel
theorem dX8_learn_8 : decode cX8_learn 8 = .ok (.invokevirtual 170, 3) := by decide +kernel
theorem dX8_learn_11 : decode cX8_learn 11 = .ok (.astore 4, 2) := by decide +kernel
theorem dX8_learn_13 : decode cX8_learn 13 = .ok (.aload_n 0, 1) := by decide +kernel
theorem dX8_learn_14 : decode cX8_learn 14 = .ok (.invokevirtual 136, 3) := by decide +kernel
theorem dX8_learn_17 : decode cX8_learn 17 = .ok (.aload_n 3, 1) := by decide +kernel
theorem dX8_learn_18 : decode cX8_learn 18 = .ok (.iload_n 2, 1) := by decide +kernel
theorem dX8_learn_19 : decode cX8_learn 19 = .ok (.aload 4, 2) := by decide +kernel
theorem dX8_learn_21 : decode cX8_learn 21 = .ok (.getfield 174, 3) := by decide +kernel
theorem dX8_learn_24 : decode cX8_learn 24 = .ok (.invokevirtual 319, 3) := by decide +kernel
theorem dX8_learn_27 : decode cX8_learn 27 = .ok (.aload_n 0, 1) := by decide +kernel
theorem dX8_learn_28 : decode cX8_learn 28 = .ok (.aload_n 3, 1) := by decide +kernel
theorem dX8_learn_29 : decode cX8_learn 29 = .ok (.getfield 188, 3) := by decide +kernel
theorem dX8_learn_32 : decode cX8_learn 32 = .ok (.aload 4, 2) := by decide +kernel
theorem dX8_learn_34 : decode cX8_learn 34 = .ok (.invokevirtual 264, 3) := by decide +kernel
theorem dX8_learn_37 : decode cX8_learn 37 = .ok (.ireturn, 1) := by decide +kernel
theorem dX8_forget_0 : decode cX8_forget 0 = .ok (.aload_n 0, 1) := by decide +kernel
theorem dX8_forget_1 : decode cX8_forget 1 = .ok (.iload_n 1, 1) := by decide +kernel
theorem dX8_forget_2 : decode cX8_forget 2 = .ok (.invokevirtual 149, 3) := by decide +kernel
theorem dX8_forget_5 : decode cX8_forget 5 = .ok (.astore_n 2, 1) := by decide +kernel
theorem dX8_forget_6 : decode cX8_forget 6 = .ok (.aload_n 0, 1) := by decide +kernel
theorem dX8_forget_7 : decode cX8_forget 7 = .ok (.invokevirtual 136, 3) := by decide +kernel
theorem dX8_forget_10 : decode cX8_forget 10 = .ok (.aload_n 2, 1) := by decide +kernel
theorem dX8_forget_11 : decode cX8_forget 11 = .ok (.getfield 188, 3) := by decide +kernel
theorem dX8_forget_14 : decode cX8_forget 14 = .ok (.getfield 215, 3) := by decide +kernel
theorem dX8_forget_17 : decode cX8_forget 17 = .ok (.istore_n 3, 1) := by decide +kernel
theorem dX8_forget_18 : decode cX8_forget 18 = .ok (.aload_n 2, 1) := by decide +kernel
theorem dX8_forget_19 : decode cX8_forget 19 = .ok (.invokevirtual 322, 3) := by decide +kernel
theorem dX8_forget_22 : decode cX8_forget 22 = .ok (.iload_n 3, 1) := by decide +kernel
theorem dX8_forget_23 : decode cX8_forget 23 = .ok (.ireturn, 1) := by decide +kernel
theorem dX8_setEscapeMethod_0 : decode cX8_setEscapeMethod 0 = .ok (.aload_n 0, 1) := by decide +kernel
theorem dX8_setEscapeMethod_1 : decode cX8_setEscapeMethod 1 = .ok (.iload_n 1, 1) := by decide +kernel
theorem dX8_setEscapeMethod_2 : decode cX8_setEscapeMethod 2 = .ok (.invokevirtual 149, 3) := by decide +kernel
theorem dX8_setEscapeMethod_5 : decode cX8_setEscapeMethod 5 = .ok (.astore_n 3, 1) := by decide +kernel
theorem dX8_setEscapeMethod_6 : decode cX8_setEscapeMethod 6 = .ok (.iload_n 2, 1) := by decide +kernel
theorem dX8_setEscapeMethod_7 : decode cX8_setEscapeMethod 7 = .ok (.invokestatic 289, 3) := by decide +kernel
theorem dX8_setEscapeMethod_10 : decode cX8_setEscapeMethod 10 = .ok (.aload_n 0, 1) := by decide +kernel
theorem dX8_setEscapeMethod_11 : decode cX8_setEscapeMethod 11 = .ok (.invokevirtual 136, 3) := by decide +kernel
theorem dX8_setEscapeMethod_14 : decode cX8_setEscapeMethod 14 = .ok (.aload_n 3, 1) := by decide +kernel
theorem dX8_setEscapeMethod_15 : decode cX8_setEscapeMethod 15 = .ok (.getfield 164, 3) := by decide +kernel
theorem dX8_setEscapeMethod_18 : decode cX8_setEscapeMethod 18 = .ok (.istore 4, 2) := by decide +kernel
theorem dX8_setEscapeMethod_20 : decode cX8_setEscapeMethod 20 = .ok (.aload_n 3, 1) := by decide +kernel
theorem dX8_setEscapeMethod_21 : decode cX8_setEscapeMethod 21 = .ok (.iload_n 2, 1) := by decide +kernel
theorem dX8_setEscapeMethod_22 : decode cX8_setEscapeMethod 22 = .ok (.putfield 164, 3) := by decide +kernel
theorem dX8_setEscapeMethod_25 : decode cX8_setEscapeMethod 25 = .ok (.iload 4, 2) := by decide +kernel
theorem dX8_setEscapeMethod_27 : decode cX8_setEscapeMethod 27 = .ok (.ireturn, 1) := by decide +kernel
theorem dX8_endYear_0 : decode cX8_endYear 0 = .ok (.aload_n 0, 1) := by decide +kernel
theorem dX8_endYear_1 : decode cX8_endYear 1 = .ok (.invokevirtual 136, 3) := by decide +kernel
theorem dX8_endYear_4 : decode cX8_endYear 4 = .ok (.aload_n 0, 1) := by decide +kernel
theorem dX8_endYear_5 : decode cX8_endYear 5 = .ok (.getfield 13, 3) := by decide +kernel
theorem dX8_endYear_8 : decode cX8_endYear 8 = .ok (.invokevirtual 325, 3) := by decide +kernel
theorem dX8_endYear_11 : decode cX8_endYear 11 = .ok (.aload_n 0, 1) := by decide +kernel
theorem dX8_endYear_12 : decode cX8_endYear 12 = .ok (.getfield 13, 3) := by decide +kernel
theorem dX8_endYear_15 : decode cX8_endYear 15 = .ok (.getfield 146, 3) := by decide +kernel
theorem dX8_endYear_18 : decode cX8_endYear 18 = .ok (.ireturn, 1) := by decide +kernel
theorem dX8_merge_0 : decode cX8_merge 0 = .ok (.aload_n 0, 1) := by decide +kernel
theorem dX8_merge_1 : decode cX8_merge 1 = .ok (.iload_n 1, 1) := by decide +kernel
theorem dX8_merge_2 : decode cX8_merge 2 = .ok (.invokevirtual 149, 3) := by decide +kernel
theorem dX8_merge_5 : decode cX8_merge 5 = .ok (.astore_n 3, 1) := by decide +kernel
theorem dX8_merge_6 : decode cX8_merge 6 = .ok (.aload_n 0, 1) := by decide +kernel
theorem dX8_merge_7 : decode cX8_merge 7 = .ok (.iload_n 2, 1) := by decide +kernel
theorem dX8_merge_8 : decode cX8_merge 8 = .ok (.invokevirtual 149, 3) := by decide +kernel
theorem dX8_merge_11 : decode cX8_merge 11 = .ok (.astore 4, 2) := by decide +kernel
theorem dX8_merge_13 : decode cX8_merge 13 = .ok (.iload_n 1, 1) := by decide +kernel
theorem dX8_merge_14 : decode cX8_merge 14 = .ok (.iload_n 2, 1) := by decide +kernel
theorem dX8_merge_15 : decode cX8_merge 15 = .ok (.if_icmp .ne 14, 3) := by decide +kernel
theorem dX8_merge_18 : decode cX8_merge 18 = .ok (.new 119, 3) := by decide +kernel
theorem dX8_merge_21 : decode cX8_merge 21 = .ok (.dup, 1) := by decide +kernel
theorem dX8_merge_22 : decode cX8_merge 22 = .ok (.ldc_w 283, 3) := by decide +kernel
theorem dX8_merge_25 : decode cX8_merge 25 = .ok (.invokespecial 123, 3) := by decide +kernel
theorem dX8_merge_28 : decode cX8_merge 28 = .ok (.athrow, 1) := by decide +kernel
theorem dX8_merge_29 : decode cX8_merge 29 = .ok (.aload_n 0, 1) := by decide +kernel
theorem dX8_merge_30 : decode cX8_merge 30 = .ok (.invokevirtual 136, 3) := by decide +kernel
theorem dX8_merge_33 : decode cX8_merge 33 = .ok (.aload 4, 2) := by decide +kernel
theorem dX8_merge_35 : decode cX8_merge 35 = .ok (.aload_n 3, 1) := by decide +kernel
theorem dX8_merge_36 : decode cX8_merge 36 = .ok (.invokevirtual 328, 3) := by decide +kernel
theorem dX8_merge_39 : decode cX8_merge 39 = .ok (.aload 4, 2) := by decide +kernel
theorem dX8_merge_41 : decode cX8_merge 41 = .ok (.getfield 188, 3) := by decide +kernel
theorem dX8_merge_44 : decode cX8_merge 44 = .ok (.getfield 215, 3) := by decide +kernel
theorem dX8_merge_47 : decode cX8_merge 47 = .ok (.ireturn, 1) := by decide +kernel
theorem dX8_remember_0 : decode cX8_remember 0 = .ok (.aload_n 0, 1) := by decide +kernel
theorem dX8_remember_1 : decode cX8_remember 1 = .ok (.getfield 23, 3) := by decide +kernel
theorem dX8_remember_4 : decode cX8_remember 4 = .ok (.aload_n 0, 1) := by decide +kernel
theorem dX8_remember_5 : decode cX8_remember 5 = .ok (.getfield 27, 3) := by decide +kernel
theorem dX8_remember_8 : decode cX8_remember 8 = .ok (.aaload, 1) := by decide +kernel
theorem dX8_remember_9 : decode cX8_remember 9 = .ok (.aload_n 0, 1) := by decide +kernel
theorem dX8_remember_10 : decode cX8_remember 10 = .ok (.getfield 13, 3) := by decide +kernel
theorem dX8_remember_13 : decode cX8_remember 13 = .ok (.invokevirtual 139, 3) := by decide +kernel
theorem dX8_remember_16 : decode cX8_remember 16 = .ok (.aload_n 0, 1) := by decide +kernel
theorem dX8_remember_17 : decode cX8_remember 17 = .ok (.aload_n 0, 1) := by decide +kernel
theorem dX8_remember_18 : decode cX8_remember 18 = .ok (.getfield 27, 3) := by decide +kernel
theorem dX8_remember_21 : decode cX8_remember 21 = .ok (.iconst 1, 1) := by decide +kernel
theorem dX8_remember_22 : decode cX8_remember 22 = .ok (.iadd, 1) := by decide +kernel
theorem dX8_remember_23 : decode cX8_remember 23 = .ok (.bipush 8, 2) := by decide +kernel
theorem dX8_remember_25 : decode cX8_remember 25 = .ok (.irem, 1) := by decide +kernel
theorem dX8_remember_26 : decode cX8_remember 26 = .ok (.putfield 27, 3) := by decide +kernel
theorem dX8_remember_29 : decode cX8_remember 29 = .ok (.aload_n 0, 1) := by decide +kernel
theorem dX8_remember_30 : decode cX8_remember 30 = .ok (.aload_n 0, 1) := by decide +kernel
theorem dX8_remember_31 : decode cX8_remember 31 = .ok (.getfield 31, 3) := by decide +kernel
theorem dX8_remember_34 : decode cX8_remember 34 = .ok (.iconst 1, 1) := by decide +kernel
theorem dX8_remember_35 : decode cX8_remember 35 = .ok (.iadd, 1) := by decide +kernel
theorem dX8_remember_36 : decode cX8_remember 36 = .ok (.bipush 8, 2) := by decide +kernel
theorem dX8_remember_38 : decode cX8_remember 38 = .ok (.invokestatic 356, 3) := by decide +kernel
theorem dX8_remember_41 : decode cX8_remember 41 = .ok (.putfield 31, 3) := by decide +kernel
theorem dX8_remember_44 : decode cX8_remember 44 = .ok (.return_, 1) := by decide +kernel
theorem dX8_existingReader_0 : decode cX8_existingReader 0 = .ok (.aload_n 0, 1) := by decide +kernel
theorem dX8_existingReader_1 : decode cX8_existingReader 1 = .ok (.getfield 13, 3) := by decide +kernel
theorem dX8_existingReader_4 : decode cX8_existingReader 4 = .ok (.iload_n 1, 1) := by decide +kernel
theorem dX8_existingReader_5 : decode cX8_existingReader 5 = .ok (.invokevirtual 361, 3) := by decide +kernel
theorem dX8_existingReader_8 : decode cX8_existingReader 8 = .ok (.astore_n 2, 1) := by decide +kernel
theorem dX8_existingReader_9 : decode cX8_existingReader 9 = .ok (.aload_n 2, 1) := by decide +kernel
theorem dX8_existingReader_10 : decode cX8_existingReader 10 = .ok (.ifnonnull 14, 3) := by decide +kernel
theorem dX8_existingReader_13 : decode cX8_existingReader 13 = .ok (.new 364, 3) := by decide +kernel
theorem dX8_existingReader_16 : decode cX8_existingReader 16 = .ok (.dup, 1) := by decide +kernel
theorem dX8_existingReader_17 : decode cX8_existingReader 17 = .ok (.ldc_w 366, 3) := by decide +kernel
theorem dX8_existingReader_20 : decode cX8_existingReader 20 = .ok (.invokespecial 368, 3) := by decide +kernel
theorem dX8_existingReader_23 : decode cX8_existingReader 23 = .ok (.athrow, 1) := by decide +kernel
theorem dX8_existingReader_24 : decode cX8_existingReader 24 = .ok (.aload_n 2, 1) := by decide +kernel
theorem dX8_existingReader_25 : decode cX8_existingReader 25 = .ok (.areturn, 1) := by decide +kernel
theorem dX8_existingDocument_0 : decode cX8_existingDocument 0 = .ok (.aload_n 0, 1) := by decide +kernel
theorem dX8_existingDocument_1 : decode cX8_existingDocument 1 = .ok (.getfield 13, 3) := by decide +kernel
theorem dX8_existingDocument_4 : decode cX8_existingDocument 4 = .ok (.iload_n 1, 1) := by decide +kernel
theorem dX8_existingDocument_5 : decode cX8_existingDocument 5 = .ok (.invokevirtual 369, 3) := by decide +kernel
theorem dX8_existingDocument_8 : decode cX8_existingDocument 8 = .ok (.astore_n 2, 1) := by decide +kernel
theorem dX8_existingDocument_9 : decode cX8_existingDocument 9 = .ok (.aload_n 2, 1) := by decide +kernel
theorem dX8_existingDocument_10 : decode cX8_existingDocument 10 = .ok (.ifnonnull 14, 3) := by decide +kernel
theorem dX8_existingDocument_13 : decode cX8_existingDocument 13 = .ok (.new 364, 3) := by decide +kernel
theorem dX8_existingDocument_16 : decode cX8_existingDocument 16 = .ok (.dup, 1) := by decide +kernel
theorem dX8_existingDocument_17 : decode cX8_existingDocument 17 = .ok (.ldc_w 372, 3) := by decide +kernel
theorem dX8_existingDocument_20 : decode cX8_existingDocument 20 = .ok (.invokespecial 368, 3) := by decide +kernel
theorem dX8_existingDocument_23 : decode cX8_existingDocument 23 = .ok (.athrow, 1) := by decide +kernel
theorem dX8_existingDocument_24 : decode cX8_existingDocument 24 = .ok (.aload_n 2, 1) := by decide +kernel
theorem dX8_existingDocument_25 : decode cX8_existingDocument 25 = .ok (.areturn, 1) := by decide +kernel
theorem dX8_requireMethod_0 : decode cX8_requireMethod 0 = .ok (.iload_n 0, 1) := by decide +kernel
theorem dX8_requireMethod_1 : decode cX8_requireMethod 1 = .ok (.ifCond .lt 8, 3) := by decide +kernel
theorem dX8_requireMethod_4 : decode cX8_requireMethod 4 = .ok (.iload_n 0, 1) := by decide +kernel
theorem dX8_requireMethod_5 : decode cX8_requireMethod 5 = .ok (.iconst 2, 1) := by decide +kernel
theorem dX8_requireMethod_6 : decode cX8_requireMethod 6 = .ok (.if_icmp .le 14, 3) := by decide +kernel
theorem dX8_requireMethod_9 : decode cX8_requireMethod 9 = .ok (.new 119, 3) := by decide +kernel
theorem dX8_requireMethod_12 : decode cX8_requireMethod 12 = .ok (.dup, 1) := by decide +kernel
theorem dX8_requireMethod_13 : decode cX8_requireMethod 13 = .ok (.ldc_w 376, 3) := by decide +kernel
theorem dX8_requireMethod_16 : decode cX8_requireMethod 16 = .ok (.invokespecial 123, 3) := by decide +kernel
theorem dX8_requireMethod_19 : decode cX8_requireMethod 19 = .ok (.athrow, 1) := by decide +kernel
theorem dX8_requireMethod_20 : decode cX8_requireMethod 20 = .ok (.return_, 1) := by decide +kernel
theorem dX8_requireSymbol_0 : decode cX8_requireSymbol 0 = .ok (.iload_n 0, 1) := by decide +kernel
theorem dX8_requireSymbol_1 : decode cX8_requireSymbol 1 = .ok (.invokestatic 378, 3) := by decide +kernel
theorem dX8_requireSymbol_4 : decode cX8_requireSymbol 4 = .ok (.ifCond .ne 14, 3) := by decide +kernel
theorem dX8_requireSymbol_7 : decode cX8_requireSymbol 7 = .ok (.new 119, 3) := by decide +kernel
theorem dX8_requireSymbol_10 : decode cX8_requireSymbol 10 = .ok (.dup, 1) := by decide +kernel
theorem dX8_requireSymbol_11 : decode cX8_requireSymbol 11 = .ok (.ldc_w 382, 3) := by decide +kernel
theorem dX8_requireSymbol_14 : decode cX8_requireSymbol 14 = .ok (.invokespecial 123, 3) := by decide +kernel
theorem dX8_requireSymbol_17 : decode cX8_requireSymbol 17 = .ok (.athrow, 1) := by decide +kernel
theorem dX8_requireSymbol_18 : decode cX8_requireSymbol 18 = .ok (.return_, 1) := by decide +kernel
theorem dX8_requireContext_0 : decode cX8_requireContext 0 = .ok (.iload_n 1, 1) := by decide +kernel
theorem dX8_requireContext_1 : decode cX8_requireContext 1 = .ok (.iconst (-1), 1) := by decide +kernel
theorem dX8_requireContext_2 : decode cX8_requireContext 2 = .ok (.if_icmp .ne 16, 3) := by decide +kernel
theorem dX8_requireContext_5 : decode cX8_requireContext 5 = .ok (.iload_n 0, 1) := by decide +kernel
theorem dX8_requireContext_6 : decode cX8_requireContext 6 = .ok (.iconst (-1), 1) := by decide +kernel
theorem dX8_requireContext_7 : decode cX8_requireContext 7 = .ok (.if_icmp .ne 7, 3) := by decide +kernel
theorem dX8_requireContext_10 : decode cX8_requireContext 10 = .ok (.iconst 1, 1) := by decide +kernel
theorem dX8_requireContext_11 : decode cX8_requireContext 11 = .ok (.goto 31, 3) := by decide +kernel
theorem dX8_requireContext_14 : decode cX8_requireContext 14 = .ok (.iconst 0, 1) := by decide +kernel
theorem dX8_requireContext_15 : decode cX8_requireContext 15 = .ok (.goto 27, 3) := by decide +kernel
theorem dX8_requireContext_18 : decode cX8_requireContext 18 = .ok (.iload_n 1, 1) := by decide +kernel
theorem dX8_requireContext_19 : decode cX8_requireContext 19 = .ok (.invokestatic 378, 3) := by decide +kernel
theorem dX8_requireContext_22 : decode cX8_requireContext 22 = .ok (.ifCond .eq 19, 3) := by decide +kernel
theorem dX8_requireContext_25 : decode cX8_requireContext 25 = .ok (.iload_n 0, 1) := by decide +kernel
theorem dX8_requireContext_26 : decode cX8_requireContext 26 = .ok (.iconst (-1), 1) := by decide +kernel
theorem dX8_requireContext_27 : decode cX8_requireContext 27 = .ok (.if_icmp .eq 10, 3) := by decide +kernel
theorem dX8_requireContext_30 : decode cX8_requireContext 30 = .ok (.iload_n 0, 1) := by decide +kernel
theorem dX8_requireContext_31 : decode cX8_requireContext 31 = .ok (.invokestatic 378, 3) := by decide +kernel
theorem dX8_requireContext_34 : decode cX8_requireContext 34 = .ok (.ifCond .eq 7, 3) := by decide +kernel
theorem dX8_requireContext_37 : decode cX8_requireContext 37 = .ok (.iconst 1, 1) := by decide +kernel
theorem dX8_requireContext_38 : decode cX8_requireContext 38 = .ok (.goto 4, 3) := by decide +kernel
theorem dX8_requireContext_41 : decode cX8_requireContext 41 = .ok (.iconst 0, 1) := by decide +kernel
theorem dX8_requireContext_42 : decode cX8_requireContext 42 = .ok (.istore_n 2, 1) := by decide +kernel
theorem dX8_requireContext_43 : decode cX8_requireContext 43 = .ok (.iload_n 2, 1) := by decide +kernel
theorem dX8_requireContext_44 : decode cX8_requireContext 44 = .ok (.ifCond .ne 14, 3) := by decide +kernel
theorem dX8_requireContext_47 : decode cX8_requireContext 47 = .ok (.new 119, 3) := by decide +kernel
theorem dX8_requireContext_50 : decode cX8_requireContext 50 = .ok (.dup, 1) := by decide +kernel
theorem dX8_requireContext_51 : decode cX8_requireContext 51 = .ok (.ldc_w 384, 3) := by decide +kernel
theorem dX8_requireContext_54 : decode cX8_requireContext 54 = .ok (.invokespecial 123, 3) := by decide +kernel
theorem dX8_requireContext_57 : decode cX8_requireContext 57 = .ok (.athrow, 1) := by decide +kernel
theorem dX8_requireContext_58 : decode cX8_requireContext 58 = .ok (.return_, 1) := by decide +kernel
theorem dX8_isSymbol_0 : decode cX8_isSymbol 0 = .ok (.iload_n 0, 1) := by decide +kernel
theorem dX8_isSymbol_1 : decode cX8_isSymbol 1 = .ok (.ifCond .lt 13, 3) := by decide +kernel
theorem dX8_isSymbol_4 : decode cX8_isSymbol 4 = .ok (.iload_n 0, 1) := by decide +kernel
theorem dX8_isSymbol_5 : decode cX8_isSymbol 5 = .ok (.bipush 27, 2) := by decide +kernel
theorem dX8_isSymbol_7 : decode cX8_isSymbol 7 = .ok (.if_icmp .ge 7, 3) := by decide +kernel
theorem dX8_isSymbol_10 : decode cX8_isSymbol 10 = .ok (.iconst 1, 1) := by decide +kernel
theorem dX8_isSymbol_11 : decode cX8_isSymbol 11 = .ok (.goto 4, 3) := by decide +kernel
theorem dX8_isSymbol_14 : decode cX8_isSymbol 14 = .ok (.iconst 0, 1) := by decide +kernel
theorem dX8_isSymbol_15 : decode cX8_isSymbol 15 = .ok (.ireturn, 1) := by decide +kernel
theorem dX8_firstOrder_0 : decode cX8_firstOrder 0 = .ok (.iload_n 1, 1) := by decide +kernel
theorem dX8_firstOrder_1 : decode cX8_firstOrder 1 = .ok (.iconst (-1), 1) := by decide +kernel
theorem dX8_firstOrder_2 : decode cX8_firstOrder 2 = .ok (.if_icmp .ne 5, 3) := by decide +kernel
theorem dX8_firstOrder_5 : decode cX8_firstOrder 5 = .ok (.iconst 0, 1) := by decide +kernel
theorem dX8_firstOrder_6 : decode cX8_firstOrder 6 = .ok (.ireturn, 1) := by decide +kernel
theorem dX8_firstOrder_7 : decode cX8_firstOrder 7 = .ok (.iload_n 0, 1) := by decide +kernel
theorem dX8_firstOrder_8 : decode cX8_firstOrder 8 = .ok (.iconst (-1), 1) := by decide +kernel
theorem dX8_firstOrder_9 : decode cX8_firstOrder 9 = .ok (.if_icmp .ne 7, 3) := by decide +kernel
theorem dX8_firstOrder_12 : decode cX8_firstOrder 12 = .ok (.iconst 1, 1) := by decide +kernel
theorem dX8_firstOrder_13 : decode cX8_firstOrder 13 = .ok (.goto 4, 3) := by decide +kernel
theorem dX8_firstOrder_16 : decode cX8_firstOrder 16 = .ok (.iconst 2, 1) := by decide +kernel
theorem dX8_firstOrder_17 : decode cX8_firstOrder 17 = .ok (.ireturn, 1) := by decide +kernel
theorem dX8_contextStart_0 : decode cX8_contextStart 0 = .ok (.iload_n 0, 1) := by decide +kernel
theorem dX8_contextStart_1 : decode cX8_contextStart 1 = .ok (.ifCond .ne 5, 3) := by decide +kernel
theorem dX8_contextStart_4 : decode cX8_contextStart 4 = .ok (.iconst 0, 1) := by decide +kernel
theorem dX8_contextStart_5 : decode cX8_contextStart 5 = .ok (.ireturn, 1) := by decide +kernel
theorem dX8_contextStart_6 : decode cX8_contextStart 6 = .ok (.iload_n 0, 1) := by decide +kernel
theorem dX8_contextStart_7 : decode cX8_contextStart 7 = .ok (.iconst 1, 1) := by decide +kernel
theorem dX8_contextStart_8 : decode cX8_contextStart 8 = .ok (.if_icmp .ne 11, 3) := by decide +kernel
theorem dX8_contextStart_11 : decode cX8_contextStart 11 = .ok (.bipush 27, 2) := by decide +kernel
theorem dX8_contextStart_13 : decode cX8_contextStart 13 = .ok (.iload_n 2, 1) := by decide +kernel
theorem dX8_contextStart_14 : decode cX8_contextStart 14 = .ok (.bipush 27, 2) := by decide +kernel
theorem dX8_contextStart_16 : decode cX8_contextStart 16 = .ok (.imul, 1) := by decide +kernel
theorem dX8_contextStart_17 : decode cX8_contextStart 17 = .ok (.iadd, 1) := by decide +kernel
theorem dX8_contextStart_18 : decode cX8_contextStart 18 = .ok (.ireturn, 1) := by decide +kernel
theorem dX8_contextStart_19 : decode cX8_contextStart 19 = .ok (.sipush 756, 3) := by decide +kernel
theorem dX8_contextStart_22 : decode cX8_contextStart 22 = .ok (.iload_n 1, 1) := by decide +kernel
theorem dX8_contextStart_23 : decode cX8_contextStart 23 = .ok (.bipush 27, 2) := by decide +kernel
theorem dX8_contextStart_25 : decode cX8_contextStart 25 = .ok (.imul, 1) := by decide +kernel
theorem dX8_contextStart_26 : decode cX8_contextStart 26 = .ok (.iload_n 2, 1) := by decide +kernel
theorem dX8_contextStart_27 : decode cX8_contextStart 27 = .ok (.iadd, 1) := by decide +kernel
theorem dX8_contextStart_28 : decode cX8_contextStart 28 = .ok (.bipush 27, 2) := by decide +kernel
theorem dX8_contextStart_30 : decode cX8_contextStart 30 = .ok (.imul, 1) := by decide +kernel
theorem dX8_contextStart_31 : decode cX8_contextStart 31 = .ok (.iadd, 1) := by decide +kernel
theorem dX8_contextStart_32 : decode cX8_contextStart 32 = .ok (.ireturn, 1) := by decide +kernel
theorem dX8_chanceOf_0 : decode cX8_chanceOf 0 = .ok (.aload_n 0, 1) := by decide +kernel
theorem dX8_chanceOf_1 : decode cX8_chanceOf 1 = .ok (.iload_n 1, 1) := by decide +kernel
theorem dX8_chanceOf_2 : decode cX8_chanceOf 2 = .ok (.invokevirtual 149, 3) := by decide +kernel
theorem dX8_chanceOf_5 : decode cX8_chanceOf 5 = .ok (.astore 5, 2) := by decide +kernel
theorem dX8_chanceOf_7 : decode cX8_chanceOf 7 = .ok (.iload_n 2, 1) := by decide +kernel
theorem dX8_chanceOf_8 : decode cX8_chanceOf 8 = .ok (.iload_n 3, 1) := by decide +kernel
theorem dX8_chanceOf_9 : decode cX8_chanceOf 9 = .ok (.invokestatic 198, 3) := by decide +kernel
theorem dX8_chanceOf_12 : decode cX8_chanceOf 12 = .ok (.iload 4, 2) := by decide +kernel
theorem dX8_chanceOf_14 : decode cX8_chanceOf 14 = .ok (.invokestatic 185, 3) := by decide +kernel
theorem dX8_chanceOf_17 : decode cX8_chanceOf 17 = .ok (.aload_n 0, 1) := by decide +kernel
theorem dX8_chanceOf_18 : decode cX8_chanceOf 18 = .ok (.getfield 74, 3) := by decide +kernel
theorem dX8_chanceOf_21 : decode cX8_chanceOf 21 = .ok (.aload 5, 2) := by decide +kernel
theorem dX8_chanceOf_23 : decode cX8_chanceOf 23 = .ok (.iload_n 2, 1) := by decide +kernel
theorem dX8_chanceOf_24 : decode cX8_chanceOf 24 = .ok (.iload_n 3, 1) := by decide +kernel
theorem dX8_chanceOf_25 : decode cX8_chanceOf 25 = .ok (.iload 4, 2) := by decide +kernel
theorem dX8_chanceOf_27 : decode cX8_chanceOf 27 = .ok (.invokevirtual 270, 3) := by decide +kernel
theorem dX8_chanceOf_30 : decode cX8_chanceOf 30 = .ok (.aload_n 0, 1) := by decide +kernel
theorem dX8_chanceOf_31 : decode cX8_chanceOf 31 = .ok (.getfield 74, 3) := by decide +kernel
theorem dX8_chanceOf_34 : decode cX8_chanceOf 34 = .ok (.areturn, 1) := by decide +kernel
theorem dX8_guessIn_0 : decode cX8_guessIn 0 = .ok (.aload_n 0, 1) := by decide +kernel
theorem dX8_guessIn_1 : decode cX8_guessIn 1 = .ok (.getfield 67, 3) := by decide +kernel
theorem dX8_guessIn_4 : decode cX8_guessIn 4 = .ok (.aload_n 1, 1) := by decide +kernel
theorem dX8_guessIn_5 : decode cX8_guessIn 5 = .ok (.iload_n 2, 1) := by decide +kernel
theorem dX8_guessIn_6 : decode cX8_guessIn 6 = .ok (.iload_n 3, 1) := by decide +kernel
theorem dX8_guessIn_7 : decode cX8_guessIn 7 = .ok (.invokevirtual 386, 3) := by decide +kernel
theorem dX8_guessIn_10 : decode cX8_guessIn 10 = .ok (.aload_n 0, 1) := by decide +kernel
theorem dX8_guessIn_11 : decode cX8_guessIn 11 = .ok (.getfield 67, 3) := by decide +kernel
theorem dX8_guessIn_14 : decode cX8_guessIn 14 = .ok (.iload 4, 2) := by decide +kernel
theorem dX8_guessIn_16 : decode cX8_guessIn 16 = .ok (.invokevirtual 390, 3) := by decide +kernel
theorem dX8_guessIn_19 : decode cX8_guessIn 19 = .ok (.ireturn, 1) := by decide +kernel
theorem dX8_rankIn_0 : decode cX8_rankIn 0 = .ok (.aload_n 0, 1) := by decide +kernel
theorem dX8_rankIn_1 : decode cX8_rankIn 1 = .ok (.getfield 67, 3) := by decide +kernel
theorem dX8_rankIn_4 : decode cX8_rankIn 4 = .ok (.aload_n 1, 1) := by decide +kernel
theorem dX8_rankIn_5 : decode cX8_rankIn 5 = .ok (.iload_n 2, 1) := by decide +kernel
theorem dX8_rankIn_6 : decode cX8_rankIn 6 = .ok (.iload_n 3, 1) := by decide +kernel
theorem dX8_rankIn_7 : decode cX8_rankIn 7 = .ok (.invokevirtual 386, 3) := by decide +kernel
theorem dX8_rankIn_10 : decode cX8_rankIn 10 = .ok (.aload_n 0, 1) := by decide +kernel
theorem dX8_rankIn_11 : decode cX8_rankIn 11 = .ok (.getfield 67, 3) := by decide +kernel
theorem dX8_rankIn_14 : decode cX8_rankIn 14 = .ok (.iload 4, 2) := by decide +kernel
theorem dX8_rankIn_16 : decode cX8_rankIn 16 = .ok (.invokevirtual 393, 3) := by decide +kernel
theorem dX8_rankIn_19 : decode cX8_rankIn 19 = .ok (.ireturn, 1) := by decide +kernel
theorem dX8_orderOf_0 : decode cX8_orderOf 0 = .ok (.iload_n 1, 1) := by decide +kernel
theorem dX8_orderOf_1 : decode cX8_orderOf 1 = .ok (.iload_n 2, 1) := by decide +kernel
theorem dX8_orderOf_2 : decode cX8_orderOf 2 = .ok (.invokestatic 202, 3) := by decide +kernel
theorem dX8_orderOf_5 : decode cX8_orderOf 5 = .ok (.istore 4, 2) := by decide +kernel
theorem dX8_orderOf_7 : decode cX8_orderOf 7 = .ok (.iload 4, 2) := by decide +kernel
theorem dX8_orderOf_9 : decode cX8_orderOf 9 = .ok (.ifCond .lt 28, 3) := by decide +kernel
theorem dX8_orderOf_12 : decode cX8_orderOf 12 = .ok (.aload_n 0, 1) := by decide +kernel
theorem dX8_orderOf_13 : decode cX8_orderOf 13 = .ok (.iload 4, 2) := by decide +kernel
theorem dX8_orderOf_15 : decode cX8_orderOf 15 = .ok (.iload_n 1, 1) := by decide +kernel
theorem dX8_orderOf_16 : decode cX8_orderOf 16 = .ok (.iload_n 2, 1) := by decide +kernel
theorem dX8_orderOf_17 : decode cX8_orderOf 17 = .ok (.invokestatic 191, 3) := by decide +kernel
theorem dX8_orderOf_20 : decode cX8_orderOf 20 = .ok (.iload_n 3, 1) := by decide +kernel
theorem dX8_orderOf_21 : decode cX8_orderOf 21 = .ok (.iadd, 1) := by decide +kernel
theorem dX8_orderOf_22 : decode cX8_orderOf 22 = .ok (.invokevirtual 195, 3) := by decide +kernel
theorem dX8_orderOf_25 : decode cX8_orderOf 25 = .ok (.ifCond .le 6, 3) := by decide +kernel
theorem dX8_orderOf_28 : decode cX8_orderOf 28 = .ok (.iload 4, 2) := by decide +kernel
theorem dX8_orderOf_30 : decode cX8_orderOf 30 = .ok (.ireturn, 1) := by decide +kernel
theorem dX8_orderOf_31 : decode cX8_orderOf 31 = .ok (.iinc 4 (-1), 3) := by decide +kernel
theorem dX8_orderOf_34 : decode cX8_orderOf 34 = .ok (.goto (-27), 3) := by decide +kernel
theorem dX8_orderOf_37 : decode cX8_orderOf 37 = .ok (.iconst (-1), 1) := by decide +kernel
theorem dX8_orderOf_38 : decode cX8_orderOf 38 = .ok (.ireturn, 1) := by decide +kernel
theorem dX8_rankOfPosition_0 : decode cX8_rankOfPosition 0 = .ok (.aload_n 0, 1) := by decide +kernel
theorem dX8_rankOfPosition_1 : decode cX8_rankOfPosition 1 = .ok (.aload_n 1, 1) := by decide +kernel
theorem dX8_rankOfPosition_2 : decode cX8_rankOfPosition 2 = .ok (.aload_n 2, 1) := by decide +kernel
theorem dX8_rankOfPosition_3 : decode cX8_rankOfPosition 3 = .ok (.iload_n 3, 1) := by decide +kernel
theorem dX8_rankOfPosition_4 : decode cX8_rankOfPosition 4 = .ok (.iconst 2, 1) := by decide +kernel
theorem dX8_rankOfPosition_5 : decode cX8_rankOfPosition 5 = .ok (.isub, 1) := by decide +kernel
theorem dX8_rankOfPosition_6 : decode cX8_rankOfPosition 6 = .ok (.invokevirtual 177, 3) := by decide +kernel
theorem dX8_rankOfPosition_9 : decode cX8_rankOfPosition 9 = .ok (.aload_n 2, 1) := by decide +kernel
theorem dX8_rankOfPosition_10 : decode cX8_rankOfPosition 10 = .ok (.iload_n 3, 1) := by decide +kernel
theorem dX8_rankOfPosition_11 : decode cX8_rankOfPosition 11 = .ok (.iconst 1, 1) := by decide +kernel
theorem dX8_rankOfPosition_12 : decode cX8_rankOfPosition 12 = .ok (.isub, 1) := by decide +kernel
theorem dX8_rankOfPosition_13 : decode cX8_rankOfPosition 13 = .ok (.invokevirtual 177, 3) := by decide +kernel
theorem dX8_rankOfPosition_16 : decode cX8_rankOfPosition 16 = .ok (.aload_n 2, 1) := by decide +kernel
theorem dX8_rankOfPosition_17 : decode cX8_rankOfPosition 17 = .ok (.iload_n 3, 1) := by decide +kernel
theorem dX8_rankOfPosition_18 : decode cX8_rankOfPosition 18 = .ok (.invokevirtual 177, 3) := by decide +kernel
theorem dX8_rankOfPosition_21 : decode cX8_rankOfPosition 21 = .ok (.invokevirtual 230, 3) := by decide +kernel
theorem dX8_rankOfPosition_24 : decode cX8_rankOfPosition 24 = .ok (.ireturn, 1) := by decide +kernel
theorem dX8_guessesFor_0 : decode cX8_guessesFor 0 = .ok (.iconst 0, 1) := by decide +kernel
theorem dX8_guessesFor_1 : decode cX8_guessesFor 1 = .ok (.istore_n 3, 1) := by decide +kernel
theorem dX8_guessesFor_2 : decode cX8_guessesFor 2 = .ok (.iconst 0, 1) := by decide +kernel
theorem dX8_guessesFor_3 : decode cX8_guessesFor 3 = .ok (.istore 4, 2) := by decide +kernel
theorem dX8_guessesFor_5 : decode cX8_guessesFor 5 = .ok (.iload 4, 2) := by decide +kernel
theorem dX8_guessesFor_7 : decode cX8_guessesFor 7 = .ok (.aload_n 2, 1) := by decide +kernel
theorem dX8_guessesFor_8 : decode cX8_guessesFor 8 = .ok (.getfield 174, 3) := by decide +kernel
theorem dX8_guessesFor_11 : decode cX8_guessesFor 11 = .ok (.if_icmp .ge 20, 3) := by decide +kernel
theorem dX8_guessesFor_14 : decode cX8_guessesFor 14 = .ok (.iload_n 3, 1) := by decide +kernel
theorem dX8_guessesFor_15 : decode cX8_guessesFor 15 = .ok (.aload_n 0, 1) := by decide +kernel
theorem dX8_guessesFor_16 : decode cX8_guessesFor 16 = .ok (.aload_n 1, 1) := by decide +kernel
theorem dX8_guessesFor_17 : decode cX8_guessesFor 17 = .ok (.aload_n 2, 1) := by decide +kernel
theorem dX8_guessesFor_18 : decode cX8_guessesFor 18 = .ok (.iload 4, 2) := by decide +kernel
theorem dX8_guessesFor_20 : decode cX8_guessesFor 20 = .ok (.invokevirtual 253, 3) := by decide +kernel
theorem dX8_guessesFor_23 : decode cX8_guessesFor 23 = .ok (.iadd, 1) := by decide +kernel
theorem dX8_guessesFor_24 : decode cX8_guessesFor 24 = .ok (.istore_n 3, 1) := by decide +kernel
theorem dX8_guessesFor_25 : decode cX8_guessesFor 25 = .ok (.iinc 4 1, 3) := by decide +kernel
theorem dX8_guessesFor_28 : decode cX8_guessesFor 28 = .ok (.goto (-23), 3) := by decide +kernel
theorem dX8_guessesFor_31 : decode cX8_guessesFor 31 = .ok (.iload_n 3, 1) := by decide +kernel
theorem dX8_guessesFor_32 : decode cX8_guessesFor 32 = .ok (.ireturn, 1) := by decide +kernel
theorem dX8_guessesWhileLearning_0 : decode cX8_guessesWhileLearning 0 = .ok (.iconst 0, 1) := by decide +kernel
theorem dX8_guessesWhileLearning_1 : decode cX8_guessesWhileLearning 1 = .ok (.istore_n 3, 1) := by decide +kernel
theorem dX8_guessesWhileLearning_2 : decode cX8_guessesWhileLearning 2 = .ok (.iconst 0, 1) := by decide +kernel
theorem dX8_guessesWhileLearning_3 : decode cX8_guessesWhileLearning 3 = .ok (.istore 4, 2) := by decide +kernel
theorem dX8_guessesWhileLearning_5 : decode cX8_guessesWhileLearning 5 = .ok (.iload 4, 2) := by decide +kernel
theorem dX8_guessesWhileLearning_7 : decode cX8_guessesWhileLearning 7 = .ok (.aload_n 2, 1) := by decide +kernel
theorem dX8_guessesWhileLearning_8 : decode cX8_guessesWhileLearning 8 = .ok (.getfield 174, 3) := by decide +kernel
theorem dX8_guessesWhileLearning_11 : decode cX8_guessesWhileLearning 11 = .ok (.if_icmp .ge 27, 3) := by decide +kernel
theorem dX8_guessesWhileLearning_14 : decode cX8_guessesWhileLearning 14 = .ok (.iload_n 3, 1) := by decide +kernel
theorem dX8_guessesWhileLearning_15 : decode cX8_guessesWhileLearning 15 = .ok (.aload_n 0, 1) := by decide +kernel
theorem dX8_guessesWhileLearning_16 : decode cX8_guessesWhileLearning 16 = .ok (.aload_n 1, 1) := by decide +kernel
theorem dX8_guessesWhileLearning_17 : decode cX8_guessesWhileLearning 17 = .ok (.aload_n 2, 1) := by decide +kernel
theorem dX8_guessesWhileLearning_18 : decode cX8_guessesWhileLearning 18 = .ok (.iload 4, 2) := by decide +kernel
theorem dX8_guessesWhileLearning_20 : decode cX8_guessesWhileLearning 20 = .ok (.invokevirtual 253, 3) := by decide +kernel
theorem dX8_guessesWhileLearning_23 : decode cX8_guessesWhileLearning 23 = .ok (.iadd, 1) := by decide +kernel
theorem dX8_guessesWhileLearning_24 : decode cX8_guessesWhileLearning 24 = .ok (.istore_n 3, 1) := by decide +kernel
theorem dX8_guessesWhileLearning_25 : decode cX8_guessesWhileLearning 25 = .ok (.aload_n 1, 1) := by decide +kernel
theorem dX8_guessesWhileLearning_26 : decode cX8_guessesWhileLearning 26 = .ok (.aload_n 2, 1) := by decide +kernel
theorem dX8_guessesWhileLearning_27 : decode cX8_guessesWhileLearning 27 = .ok (.iload 4, 2) := by decide +kernel
theorem dX8_guessesWhileLearning_29 : decode cX8_guessesWhileLearning 29 = .ok (.invokevirtual 396, 3) := by decide +kernel
theorem dX8_guessesWhileLearning_32 : decode cX8_guessesWhileLearning 32 = .ok (.iinc 4 1, 3) := by decide +kernel
theorem dX8_guessesWhileLearning_35 : decode cX8_guessesWhileLearning 35 = .ok (.goto (-30), 3) := by decide +kernel
theorem dX8_guessesWhileLearning_38 : decode cX8_guessesWhileLearning 38 = .ok (.iload_n 3, 1) := by decide +kernel
theorem dX8_guessesWhileLearning_39 : decode cX8_guessesWhileLearning 39 = .ok (.ireturn, 1) := by decide +kernel
theorem dX8_isDigit_0 : decode cX8_isDigit 0 = .ok (.iload_n 0, 1) := by decide +kernel
theorem dX8_isDigit_1 : decode cX8_isDigit 1 = .ok (.bipush 48, 2) := by decide +kernel
theorem dX8_isDigit_3 : decode cX8_isDigit 3 = .ok (.if_icmp .lt 13, 3) := by decide +kernel
theorem dX8_isDigit_6 : decode cX8_isDigit 6 = .ok (.iload_n 0, 1) := by decide +kernel
theorem dX8_isDigit_7 : decode cX8_isDigit 7 = .ok (.bipush 57, 2) := by decide +kernel
theorem dX8_isDigit_9 : decode cX8_isDigit 9 = .ok (.if_icmp .gt 7, 3) := by decide +kernel
theorem dX8_isDigit_12 : decode cX8_isDigit 12 = .ok (.iconst 1, 1) := by decide +kernel
theorem dX8_isDigit_13 : decode cX8_isDigit 13 = .ok (.goto 4, 3) := by decide +kernel
theorem dX8_isDigit_16 : decode cX8_isDigit 16 = .ok (.iconst 0, 1) := by decide +kernel
theorem dX8_isDigit_17 : decode cX8_isDigit 17 = .ok (.ireturn, 1) := by decide +kernel
theorem dX8_isLetter_0 : decode cX8_isLetter 0 = .ok (.iload_n 0, 1) := by decide +kernel
theorem dX8_isLetter_1 : decode cX8_isLetter 1 = .ok (.bipush 97, 2) := by decide +kernel
theorem dX8_isLetter_3 : decode cX8_isLetter 3 = .ok (.if_icmp .lt 13, 3) := by decide +kernel
theorem dX8_isLetter_6 : decode cX8_isLetter 6 = .ok (.iload_n 0, 1) := by decide +kernel
theorem dX8_isLetter_7 : decode cX8_isLetter 7 = .ok (.bipush 122, 2) := by decide +kernel
theorem dX8_isLetter_9 : decode cX8_isLetter 9 = .ok (.if_icmp .gt 7, 3) := by decide +kernel
theorem dX8_isLetter_12 : decode cX8_isLetter 12 = .ok (.iconst 1, 1) := by decide +kernel
theorem dX8_isLetter_13 : decode cX8_isLetter 13 = .ok (.goto 4, 3) := by decide +kernel
theorem dX8_isLetter_16 : decode cX8_isLetter 16 = .ok (.iconst 0, 1) := by decide +kernel
theorem dX8_isLetter_17 : decode cX8_isLetter 17 = .ok (.ireturn, 1) := by decide +kernel
theorem dX8_withDigit_0 : decode cX8_withDigit 0 = .ok (.iload_n 0, 1) := by decide +kernel
theorem dX8_withDigit_1 : decode cX8_withDigit 1 = .ok (.bipush 10, 2) := by decide +kernel
theorem dX8_withDigit_3 : decode cX8_withDigit 3 = .ok (.imul, 1) := by decide +kernel
theorem dX8_withDigit_4 : decode cX8_withDigit 4 = .ok (.iload_n 1, 1) := by decide +kernel
theorem dX8_withDigit_5 : decode cX8_withDigit 5 = .ok (.iadd, 1) := by decide +kernel
theorem dX8_withDigit_6 : decode cX8_withDigit 6 = .ok (.bipush 48, 2) := by decide +kernel
theorem dX8_withDigit_8 : decode cX8_withDigit 8 = .ok (.isub, 1) := by decide +kernel
theorem dX8_withDigit_9 : decode cX8_withDigit 9 = .ok (.sipush 1000, 3) := by decide +kernel
theorem dX8_withDigit_12 : decode cX8_withDigit 12 = .ok (.invokestatic 356, 3) := by decide +kernel
theorem dX8_withDigit_15 : decode cX8_withDigit 15 = .ok (.ireturn, 1) := by decide +kernel
