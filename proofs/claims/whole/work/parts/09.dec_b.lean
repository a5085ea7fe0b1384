theorem dX8_init_0 : decode cX8_init 0 = .ok (.aload_n 0, 1) := by decide +kernel
theorem dX8_init_1 : decode cX8_init 1 = .ok (.invokespecial 3, 3) := by decide +kernel
theorem dX8_init_4 : decode cX8_init 4 = .ok (.aload_n 0, 1) := by decide +kernel
theorem dX8_init_5 : decode cX8_init 5 = .ok (.invokestatic 9, 3) := by decide +kernel
theorem dX8_init_8 : decode cX8_init 8 = .ok (.putfield 13, 3) := by decide +kernel
theorem dX8_init_11 : decode cX8_init 11 = .ok (.aload_n 0, 1) := by decide +kernel
theorem dX8_init_12 : decode cX8_init 12 = .ok (.new 17, 3) := by decide +kernel
theorem dX8_init_15 : decode cX8_init 15 = .ok (.dup, 1) := by decide +kernel
theorem dX8_init_16 : decode cX8_init 16 = .ok (.invokespecial 19, 3) := by decide +kernel
theorem dX8_init_19 : decode cX8_init 19 = .ok (.putfield 20, 3) := by decide +kernel
theorem dX8_init_22 : decode cX8_init 22 = .ok (.aload_n 0, 1) := by decide +kernel
theorem dX8_init_23 : decode cX8_init 23 = .ok (.bipush 8, 2) := by decide +kernel
theorem dX8_init_25 : decode cX8_init 25 = .ok (.anewarray 17, 3) := by decide +kernel
theorem dX8_init_28 : decode cX8_init 28 = .ok (.putfield 23, 3) := by decide +kernel
theorem dX8_init_31 : decode cX8_init 31 = .ok (.aload_n 0, 1) := by decide +kernel
theorem dX8_init_32 : decode cX8_init 32 = .ok (.iconst 0, 1) := by decide +kernel
theorem dX8_init_33 : decode cX8_init 33 = .ok (.putfield 27, 3) := by decide +kernel
theorem dX8_init_36 : decode cX8_init 36 = .ok (.aload_n 0, 1) := by decide +kernel
theorem dX8_init_37 : decode cX8_init 37 = .ok (.iconst 0, 1) := by decide +kernel
theorem dX8_init_38 : decode cX8_init 38 = .ok (.putfield 31, 3) := by decide +kernel
theorem dX8_init_41 : decode cX8_init 41 = .ok (.aload_n 0, 1) := by decide +kernel
theorem dX8_init_42 : decode cX8_init 42 = .ok (.iconst 2, 1) := by decide +kernel
theorem dX8_init_43 : decode cX8_init 43 = .ok (.anewarray 17, 3) := by decide +kernel
theorem dX8_init_46 : decode cX8_init 46 = .ok (.putfield 34, 3) := by decide +kernel
theorem dX8_init_49 : decode cX8_init 49 = .ok (.aload_n 0, 1) := by decide +kernel
theorem dX8_init_50 : decode cX8_init 50 = .ok (.iconst 2, 1) := by decide +kernel
theorem dX8_init_51 : decode cX8_init 51 = .ok (.newarray .boolean, 2) := by decide +kernel
theorem dX8_init_53 : decode cX8_init 53 = .ok (.putfield 37, 3) := by decide +kernel
theorem dX8_init_56 : decode cX8_init 56 = .ok (.aload_n 0, 1) := by decide +kernel
theorem dX8_init_57 : decode cX8_init 57 = .ok (.new 41, 3) := by decide +kernel
theorem dX8_init_60 : decode cX8_init 60 = .ok (.dup, 1) := by decide +kernel
theorem dX8_init_61 : decode cX8_init 61 = .ok (.invokespecial 43, 3) := by decide +kernel
theorem dX8_init_64 : decode cX8_init 64 = .ok (.putfield 44, 3) := by decide +kernel
theorem dX8_init_67 : decode cX8_init 67 = .ok (.aload_n 0, 1) := by decide +kernel
theorem dX8_init_68 : decode cX8_init 68 = .ok (.new 41, 3) := by decide +kernel
theorem dX8_init_71 : decode cX8_init 71 = .ok (.dup, 1) := by decide +kernel
theorem dX8_init_72 : decode cX8_init 72 = .ok (.invokespecial 43, 3) := by decide +kernel
theorem dX8_init_75 : decode cX8_init 75 = .ok (.putfield 48, 3) := by decide +kernel
theorem dX8_init_78 : decode cX8_init 78 = .ok (.aload_n 0, 1) := by decide +kernel
theorem dX8_init_79 : decode cX8_init 79 = .ok (.iconst 0, 1) := by decide +kernel
theorem dX8_init_80 : decode cX8_init 80 = .ok (.putfield 51, 3) := by decide +kernel
theorem dX8_init_83 : decode cX8_init 83 = .ok (.aload_n 0, 1) := by decide +kernel
theorem dX8_init_84 : decode cX8_init 84 = .ok (.iconst (-1), 1) := by decide +kernel
theorem dX8_init_85 : decode cX8_init 85 = .ok (.putfield 54, 3) := by decide +kernel
theorem dX8_init_88 : decode cX8_init 88 = .ok (.aload_n 0, 1) := by decide +kernel
theorem dX8_init_89 : decode cX8_init 89 = .ok (.new 57, 3) := by decide +kernel
theorem dX8_init_92 : decode cX8_init 92 = .ok (.dup, 1) := by decide +kernel
theorem dX8_init_93 : decode cX8_init 93 = .ok (.invokespecial 59, 3) := by decide +kernel
theorem dX8_init_96 : decode cX8_init 96 = .ok (.putfield 60, 3) := by decide +kernel
theorem dX8_init_99 : decode cX8_init 99 = .ok (.aload_n 0, 1) := by decide +kernel
theorem dX8_init_100 : decode cX8_init 100 = .ok (.new 64, 3) := by decide +kernel
theorem dX8_init_103 : decode cX8_init 103 = .ok (.dup, 1) := by decide +kernel
theorem dX8_init_104 : decode cX8_init 104 = .ok (.invokespecial 66, 3) := by decide +kernel
theorem dX8_init_107 : decode cX8_init 107 = .ok (.putfield 67, 3) := by decide +kernel
theorem dX8_init_110 : decode cX8_init 110 = .ok (.aload_n 0, 1) := by decide +kernel
theorem dX8_init_111 : decode cX8_init 111 = .ok (.new 71, 3) := by decide +kernel
theorem dX8_init_114 : decode cX8_init 114 = .ok (.dup, 1) := by decide +kernel
theorem dX8_init_115 : decode cX8_init 115 = .ok (.invokespecial 73, 3) := by decide +kernel
theorem dX8_init_118 : decode cX8_init 118 = .ok (.putfield 74, 3) := by decide +kernel
theorem dX8_init_121 : decode cX8_init 121 = .ok (.aload_n 0, 1) := by decide +kernel
theorem dX8_init_122 : decode cX8_init 122 = .ok (.bipush 40, 2) := by decide +kernel
theorem dX8_init_124 : decode cX8_init 124 = .ok (.newarray .int, 2) := by decide +kernel
theorem dX8_init_126 : decode cX8_init 126 = .ok (.putfield 78, 3) := by decide +kernel
theorem dX8_init_129 : decode cX8_init 129 = .ok (.iconst 0, 1) := by decide +kernel
theorem dX8_init_130 : decode cX8_init 130 = .ok (.istore_n 1, 1) := by decide +kernel
theorem dX8_init_131 : decode cX8_init 131 = .ok (.iload_n 1, 1) := by decide +kernel
theorem dX8_init_132 : decode cX8_init 132 = .ok (.bipush 8, 2) := by decide +kernel
theorem dX8_init_134 : decode cX8_init 134 = .ok (.if_icmp .ge 22, 3) := by decide +kernel
theorem dX8_init_137 : decode cX8_init 137 = .ok (.aload_n 0, 1) := by decide +kernel
theorem dX8_init_138 : decode cX8_init 138 = .ok (.getfield 23, 3) := by decide +kernel
theorem dX8_init_141 : decode cX8_init 141 = .ok (.iload_n 1, 1) := by decide +kernel
theorem dX8_init_142 : decode cX8_init 142 = .ok (.new 17, 3) := by decide +kernel
theorem dX8_init_145 : decode cX8_init 145 = .ok (.dup, 1) := by decide +kernel
theorem dX8_init_146 : decode cX8_init 146 = .ok (.invokespecial 19, 3) := by decide +kernel
theorem dX8_init_149 : decode cX8_init 149 = .ok (.aastore, 1) := by decide +kernel
theorem dX8_init_150 : decode cX8_init 150 = .ok (.iinc 1 1, 3) := by decide +kernel
theorem dX8_init_153 : decode cX8_init 153 = .ok (.goto (-22), 3) := by decide +kernel
theorem dX8_init_156 : decode cX8_init 156 = .ok (.iconst 0, 1) := by decide +kernel
theorem dX8_init_157 : decode cX8_init 157 = .ok (.istore_n 1, 1) := by decide +kernel
theorem dX8_init_158 : decode cX8_init 158 = .ok (.iload_n 1, 1) := by decide +kernel
theorem dX8_init_159 : decode cX8_init 159 = .ok (.iconst 2, 1) := by decide +kernel
theorem dX8_init_160 : decode cX8_init 160 = .ok (.if_icmp .ge 22, 3) := by decide +kernel
theorem dX8_init_163 : decode cX8_init 163 = .ok (.aload_n 0, 1) := by decide +kernel
theorem dX8_init_164 : decode cX8_init 164 = .ok (.getfield 34, 3) := by decide +kernel
theorem dX8_init_167 : decode cX8_init 167 = .ok (.iload_n 1, 1) := by decide +kernel
theorem dX8_init_168 : decode cX8_init 168 = .ok (.new 17, 3) := by decide +kernel
theorem dX8_init_171 : decode cX8_init 171 = .ok (.dup, 1) := by decide +kernel
theorem dX8_init_172 : decode cX8_init 172 = .ok (.invokespecial 19, 3) := by decide +kernel
theorem dX8_init_175 : decode cX8_init 175 = .ok (.aastore, 1) := by decide +kernel
theorem dX8_init_176 : decode cX8_init 176 = .ok (.iinc 1 1, 3) := by decide +kernel
theorem dX8_init_179 : decode cX8_init 179 = .ok (.goto (-21), 3) := by decide +kernel
theorem dX8_init_182 : decode cX8_init 182 = .ok (.return_, 1) := by decide +kernel
theorem dX8_firstState_0 : decode cX8_firstState 0 = .ok (.new 41, 3) := by decide +kernel
theorem dX8_firstState_3 : decode cX8_firstState 3 = .ok (.dup, 1) := by decide +kernel
theorem dX8_firstState_4 : decode cX8_firstState 4 = .ok (.invokespecial 43, 3) := by decide +kernel
theorem dX8_firstState_7 : decode cX8_firstState 7 = .ok (.astore_n 0, 1) := by decide +kernel
theorem dX8_firstState_8 : decode cX8_firstState 8 = .ok (.iconst 0, 1) := by decide +kernel
theorem dX8_firstState_9 : decode cX8_firstState 9 = .ok (.istore_n 1, 1) := by decide +kernel
theorem dX8_firstState_10 : decode cX8_firstState 10 = .ok (.iload_n 1, 1) := by decide +kernel
theorem dX8_firstState_11 : decode cX8_firstState 11 = .ok (.ldc 82, 2) := by decide +kernel
theorem dX8_firstState_13 : decode cX8_firstState 13 = .ok (.invokevirtual 84, 3) := by decide +kernel
theorem dX8_firstState_16 : decode cX8_firstState 16 = .ok (.if_icmp .ge 19, 3) := by decide +kernel
theorem dX8_firstState_19 : decode cX8_firstState 19 = .ok (.aload_n 0, 1) := by decide +kernel
theorem dX8_firstState_20 : decode cX8_firstState 20 = .ok (.ldc 82, 2) := by decide +kernel
theorem dX8_firstState_22 : decode cX8_firstState 22 = .ok (.iload_n 1, 1) := by decide +kernel
theorem dX8_firstState_23 : decode cX8_firstState 23 = .ok (.invokevirtual 90, 3) := by decide +kernel
theorem dX8_firstState_26 : decode cX8_firstState 26 = .ok (.invokevirtual 94, 3) := by decide +kernel
theorem dX8_firstState_29 : decode cX8_firstState 29 = .ok (.iinc 1 1, 3) := by decide +kernel
theorem dX8_firstState_32 : decode cX8_firstState 32 = .ok (.goto (-22), 3) := by decide +kernel
theorem dX8_firstState_35 : decode cX8_firstState 35 = .ok (.new 17, 3) := by decide +kernel
theorem dX8_firstState_38 : decode cX8_firstState 38 = .ok (.dup, 1) := by decide +kernel
theorem dX8_firstState_39 : decode cX8_firstState 39 = .ok (.invokespecial 19, 3) := by decide +kernel
theorem dX8_firstState_42 : decode cX8_firstState 42 = .ok (.astore_n 1, 1) := by decide +kernel
theorem dX8_firstState_43 : decode cX8_firstState 43 = .ok (.new 98, 3) := by decide +kernel
theorem dX8_firstState_46 : decode cX8_firstState 46 = .ok (.dup, 1) := by decide +kernel
theorem dX8_firstState_47 : decode cX8_firstState 47 = .ok (.aload_n 0, 1) := by decide +kernel
theorem dX8_firstState_48 : decode cX8_firstState 48 = .ok (.aload_n 1, 1) := by decide +kernel
theorem dX8_firstState_49 : decode cX8_firstState 49 = .ok (.invokespecial 100, 3) := by decide +kernel
theorem dX8_firstState_52 : decode cX8_firstState 52 = .ok (.astore_n 2, 1) := by decide +kernel
theorem dX8_firstState_53 : decode cX8_firstState 53 = .ok (.aload_n 2, 1) := by decide +kernel
theorem dX8_firstState_54 : decode cX8_firstState 54 = .ok (.invokevirtual 103, 3) := by decide +kernel
theorem dX8_firstState_57 : decode cX8_firstState 57 = .ok (.pop, 1) := by decide +kernel
theorem dX8_firstState_58 : decode cX8_firstState 58 = .ok (.aload_n 1, 1) := by decide +kernel
theorem dX8_firstState_59 : decode cX8_firstState 59 = .ok (.areturn, 1) := by decide +kernel
theorem dX8_appendInput_0 : decode cX8_appendInput 0 = .ok (.aload_n 0, 1) := by decide +kernel
theorem dX8_appendInput_1 : decode cX8_appendInput 1 = .ok (.getfield 44, 3) := by decide +kernel
theorem dX8_appendInput_4 : decode cX8_appendInput 4 = .ok (.getfield 107, 3) := by decide +kernel
theorem dX8_appendInput_7 : decode cX8_appendInput 7 = .ok (.bipush 20, 2) := by decide +kernel
theorem dX8_appendInput_9 : decode cX8_appendInput 9 = .ok (.iadd, 1) := by decide +kernel
theorem dX8_appendInput_10 : decode cX8_appendInput 10 = .ok (.sipush 500, 3) := by decide +kernel
theorem dX8_appendInput_13 : decode cX8_appendInput 13 = .ok (.if_icmp .le 13, 3) := by decide +kernel
theorem dX8_appendInput_16 : decode cX8_appendInput 16 = .ok (.new 109, 3) := by decide +kernel
theorem dX8_appendInput_19 : decode cX8_appendInput 19 = .ok (.dup, 1) := by decide +kernel
theorem dX8_appendInput_20 : decode cX8_appendInput 20 = .ok (.ldc 111, 2) := by decide +kernel
theorem dX8_appendInput_22 : decode cX8_appendInput 22 = .ok (.invokespecial 113, 3) := by decide +kernel
theorem dX8_appendInput_25 : decode cX8_appendInput 25 = .ok (.athrow, 1) := by decide +kernel
theorem dX8_appendInput_26 : decode cX8_appendInput 26 = .ok (.aload_n 0, 1) := by decide +kernel
theorem dX8_appendInput_27 : decode cX8_appendInput 27 = .ok (.getfield 44, 3) := by decide +kernel
theorem dX8_appendInput_30 : decode cX8_appendInput 30 = .ok (.iload_n 1, 1) := by decide +kernel
theorem dX8_appendInput_31 : decode cX8_appendInput 31 = .ok (.invokevirtual 116, 3) := by decide +kernel
theorem dX8_appendInput_34 : decode cX8_appendInput 34 = .ok (.aload_n 0, 1) := by decide +kernel
theorem dX8_appendInput_35 : decode cX8_appendInput 35 = .ok (.getfield 44, 3) := by decide +kernel
theorem dX8_appendInput_38 : decode cX8_appendInput 38 = .ok (.iload_n 2, 1) := by decide +kernel
theorem dX8_appendInput_39 : decode cX8_appendInput 39 = .ok (.invokevirtual 116, 3) := by decide +kernel
theorem dX8_appendInput_42 : decode cX8_appendInput 42 = .ok (.aload_n 0, 1) := by decide +kernel
theorem dX8_appendInput_43 : decode cX8_appendInput 43 = .ok (.getfield 44, 3) := by decide +kernel
theorem dX8_appendInput_46 : decode cX8_appendInput 46 = .ok (.iload_n 3, 1) := by decide +kernel
theorem dX8_appendInput_47 : decode cX8_appendInput 47 = .ok (.invokevirtual 116, 3) := by decide +kernel
theorem dX8_appendInput_50 : decode cX8_appendInput 50 = .ok (.aload_n 0, 1) := by decide +kernel
theorem dX8_appendInput_51 : decode cX8_appendInput 51 = .ok (.getfield 44, 3) := by decide +kernel
theorem dX8_appendInput_54 : decode cX8_appendInput 54 = .ok (.iload 4, 2) := by decide +kernel
theorem dX8_appendInput_56 : decode cX8_appendInput 56 = .ok (.invokevirtual 116, 3) := by decide +kernel
theorem dX8_appendInput_59 : decode cX8_appendInput 59 = .ok (.aload_n 0, 1) := by decide +kernel
theorem dX8_appendInput_60 : decode cX8_appendInput 60 = .ok (.getfield 44, 3) := by decide +kernel
theorem dX8_appendInput_63 : decode cX8_appendInput 63 = .ok (.iload 5, 2) := by decide +kernel
theorem dX8_appendInput_65 : decode cX8_appendInput 65 = .ok (.invokevirtual 116, 3) := by decide +kernel
theorem dX8_appendInput_68 : decode cX8_appendInput 68 = .ok (.aload_n 0, 1) := by decide +kernel
theorem dX8_appendInput_69 : decode cX8_appendInput 69 = .ok (.getfield 44, 3) := by decide +kernel
theorem dX8_appendInput_72 : decode cX8_appendInput 72 = .ok (.getfield 107, 3) := by decide +kernel
theorem dX8_appendInput_75 : decode cX8_appendInput 75 = .ok (.ireturn, 1) := by decide +kernel
theorem dX8_truncateInput_0 : decode cX8_truncateInput 0 = .ok (.iload_n 1, 1) := by decide +kernel
theorem dX8_truncateInput_1 : decode cX8_truncateInput 1 = .ok (.ifCond .lt 14, 3) := by decide +kernel
theorem dX8_truncateInput_4 : decode cX8_truncateInput 4 = .ok (.iload_n 1, 1) := by decide +kernel
theorem dX8_truncateInput_5 : decode cX8_truncateInput 5 = .ok (.aload_n 0, 1) := by decide +kernel
theorem dX8_truncateInput_6 : decode cX8_truncateInput 6 = .ok (.getfield 44, 3) := by decide +kernel
theorem dX8_truncateInput_9 : decode cX8_truncateInput 9 = .ok (.getfield 107, 3) := by decide +kernel
theorem dX8_truncateInput_12 : decode cX8_truncateInput 12 = .ok (.if_icmp .le 13, 3) := by decide +kernel
theorem dX8_truncateInput_15 : decode cX8_truncateInput 15 = .ok (.new 119, 3) := by decide +kernel
theorem dX8_truncateInput_18 : decode cX8_truncateInput 18 = .ok (.dup, 1) := by decide +kernel
theorem dX8_truncateInput_19 : decode cX8_truncateInput 19 = .ok (.ldc 121, 2) := by decide +kernel
theorem dX8_truncateInput_21 : decode cX8_truncateInput 21 = .ok (.invokespecial 123, 3) := by decide +kernel
theorem dX8_truncateInput_24 : decode cX8_truncateInput 24 = .ok (.athrow, 1) := by decide +kernel
theorem dX8_truncateInput_25 : decode cX8_truncateInput 25 = .ok (.aload_n 0, 1) := by decide +kernel
theorem dX8_truncateInput_26 : decode cX8_truncateInput 26 = .ok (.getfield 44, 3) := by decide +kernel
theorem dX8_truncateInput_29 : decode cX8_truncateInput 29 = .ok (.iload_n 1, 1) := by decide +kernel
theorem dX8_truncateInput_30 : decode cX8_truncateInput 30 = .ok (.putfield 107, 3) := by decide +kernel
theorem dX8_truncateInput_33 : decode cX8_truncateInput 33 = .ok (.iload_n 1, 1) := by decide +kernel
theorem dX8_truncateInput_34 : decode cX8_truncateInput 34 = .ok (.ireturn, 1) := by decide +kernel
theorem dX8_load_0 : decode cX8_load 0 = .ok (.aload_n 0, 1) := by decide +kernel
theorem dX8_load_1 : decode cX8_load 1 = .ok (.getfield 20, 3) := by decide +kernel
theorem dX8_load_4 : decode cX8_load 4 = .ok (.invokevirtual 124, 3) := by decide +kernel
theorem dX8_load_7 : decode cX8_load 7 = .ok (.new 98, 3) := by decide +kernel
theorem dX8_load_10 : decode cX8_load 10 = .ok (.dup, 1) := by decide +kernel
theorem dX8_load_11 : decode cX8_load 11 = .ok (.aload_n 0, 1) := by decide +kernel
theorem dX8_load_12 : decode cX8_load 12 = .ok (.getfield 44, 3) := by decide +kernel
theorem dX8_load_15 : decode cX8_load 15 = .ok (.aload_n 0, 1) := by decide +kernel
theorem dX8_load_16 : decode cX8_load 16 = .ok (.getfield 20, 3) := by decide +kernel
theorem dX8_load_19 : decode cX8_load 19 = .ok (.invokespecial 100, 3) := by decide +kernel
theorem dX8_load_22 : decode cX8_load 22 = .ok (.astore_n 1, 1) := by decide +kernel
theorem dX8_load_23 : decode cX8_load 23 = .ok (.aload_n 1, 1) := by decide +kernel
theorem dX8_load_24 : decode cX8_load 24 = .ok (.invokevirtual 103, 3) := by decide +kernel
theorem dX8_load_27 : decode cX8_load 27 = .ok (.istore_n 2, 1) := by decide +kernel
theorem dX8_load_28 : decode cX8_load 28 = .ok (.aload_n 0, 1) := by decide +kernel
theorem dX8_load_29 : decode cX8_load 29 = .ok (.getfield 44, 3) := by decide +kernel
theorem dX8_load_32 : decode cX8_load 32 = .ok (.invokevirtual 127, 3) := by decide +kernel
theorem dX8_load_35 : decode cX8_load 35 = .ok (.aload_n 0, 1) := by decide +kernel
theorem dX8_load_36 : decode cX8_load 36 = .ok (.aload_n 1, 1) := by decide +kernel
theorem dX8_load_37 : decode cX8_load 37 = .ok (.getfield 128, 3) := by decide +kernel
theorem dX8_load_40 : decode cX8_load 40 = .ok (.putfield 51, 3) := by decide +kernel
theorem dX8_load_43 : decode cX8_load 43 = .ok (.aload_n 0, 1) := by decide +kernel
theorem dX8_load_44 : decode cX8_load 44 = .ok (.aload_n 1, 1) := by decide +kernel
theorem dX8_load_45 : decode cX8_load 45 = .ok (.getfield 131, 3) := by decide +kernel
theorem dX8_load_48 : decode cX8_load 48 = .ok (.putfield 54, 3) := by decide +kernel
theorem dX8_load_51 : decode cX8_load 51 = .ok (.iload_n 2, 1) := by decide +kernel
theorem dX8_load_52 : decode cX8_load 52 = .ok (.ifCond .ne 13, 3) := by decide +kernel
theorem dX8_load_55 : decode cX8_load 55 = .ok (.new 119, 3) := by decide +kernel
theorem dX8_load_58 : decode cX8_load 58 = .ok (.dup, 1) := by decide +kernel
theorem dX8_load_59 : decode cX8_load 59 = .ok (.ldc 134, 2) := by decide +kernel
theorem dX8_load_61 : decode cX8_load 61 = .ok (.invokespecial 123, 3) := by decide +kernel
theorem dX8_load_64 : decode cX8_load 64 = .ok (.athrow, 1) := by decide +kernel
theorem dX8_load_65 : decode cX8_load 65 = .ok (.aload_n 0, 1) := by decide +kernel
theorem dX8_load_66 : decode cX8_load 66 = .ok (.invokevirtual 136, 3) := by decide +kernel
theorem dX8_load_69 : decode cX8_load 69 = .ok (.aload_n 0, 1) := by decide +kernel
theorem dX8_load_70 : decode cX8_load 70 = .ok (.getfield 13, 3) := by decide +kernel
theorem dX8_load_73 : decode cX8_load 73 = .ok (.aload_n 0, 1) := by decide +kernel
theorem dX8_load_74 : decode cX8_load 74 = .ok (.getfield 20, 3) := by decide +kernel
theorem dX8_load_77 : decode cX8_load 77 = .ok (.invokevirtual 139, 3) := by decide +kernel
theorem dX8_load_80 : decode cX8_load 80 = .ok (.aload_n 0, 1) := by decide +kernel
theorem dX8_load_81 : decode cX8_load 81 = .ok (.getfield 13, 3) := by decide +kernel
theorem dX8_load_84 : decode cX8_load 84 = .ok (.getfield 143, 3) := by decide +kernel
theorem dX8_load_87 : decode cX8_load 87 = .ok (.ireturn, 1) := by decide +kernel
theorem dX8_errorCode_0 : decode cX8_errorCode 0 = .ok (.aload_n 0, 1) := by decide +kernel
theorem dX8_errorCode_1 : decode cX8_errorCode 1 = .ok (.getfield 51, 3) := by decide +kernel
theorem dX8_errorCode_4 : decode cX8_errorCode 4 = .ok (.ireturn, 1) := by decide +kernel
theorem dX8_errorPosition_0 : decode cX8_errorPosition 0 = .ok (.aload_n 0, 1) := by decide +kernel
theorem dX8_errorPosition_1 : decode cX8_errorPosition 1 = .ok (.getfield 54, 3) := by decide +kernel
theorem dX8_errorPosition_4 : decode cX8_errorPosition 4 = .ok (.ireturn, 1) := by decide +kernel
theorem dX8_year_0 : decode cX8_year 0 = .ok (.aload_n 0, 1) := by decide +kernel
theorem dX8_year_1 : decode cX8_year 1 = .ok (.getfield 13, 3) := by decide +kernel
theorem dX8_year_4 : decode cX8_year 4 = .ok (.getfield 146, 3) := by decide +kernel
theorem dX8_year_7 : decode cX8_year 7 = .ok (.ireturn, 1) := by decide +kernel
theorem dX8_readerCount_0 : decode cX8_readerCount 0 = .ok (.aload_n 0, 1) := by decide +kernel
theorem dX8_readerCount_1 : decode cX8_readerCount 1 = .ok (.getfield 13, 3) := by decide +kernel
theorem dX8_readerCount_4 : decode cX8_readerCount 4 = .ok (.getfield 143, 3) := by decide +kernel
theorem dX8_readerCount_7 : decode cX8_readerCount 7 = .ok (.ireturn, 1) := by decide +kernel
theorem dX8_readerNameByte_0 : decode cX8_readerNameByte 0 = .ok (.aload_n 0, 1) := by decide +kernel
theorem dX8_readerNameByte_1 : decode cX8_readerNameByte 1 = .ok (.iload_n 1, 1) := by decide +kernel
theorem dX8_readerNameByte_2 : decode cX8_readerNameByte 2 = .ok (.invokevirtual 149, 3) := by decide +kernel
theorem dX8_readerNameByte_5 : decode cX8_readerNameByte 5 = .ok (.iload_n 2, 1) := by decide +kernel
theorem dX8_readerNameByte_6 : decode cX8_readerNameByte 6 = .ok (.invokevirtual 153, 3) := by decide +kernel
theorem dX8_readerNameByte_9 : decode cX8_readerNameByte 9 = .ok (.istore_n 3, 1) := by decide +kernel
theorem dX8_readerNameByte_10 : decode cX8_readerNameByte 10 = .ok (.iload_n 3, 1) := by decide +kernel
theorem dX8_readerNameByte_11 : decode cX8_readerNameByte 11 = .ok (.iconst (-1), 1) := by decide +kernel
theorem dX8_readerNameByte_12 : decode cX8_readerNameByte 12 = .ok (.if_icmp .ne 13, 3) := by decide +kernel
theorem dX8_readerNameByte_15 : decode cX8_readerNameByte 15 = .ok (.new 159, 3) := by decide +kernel
theorem dX8_readerNameByte_18 : decode cX8_readerNameByte 18 = .ok (.dup, 1) := by decide +kernel
theorem dX8_readerNameByte_19 : decode cX8_readerNameByte 19 = .ok (.ldc 161, 2) := by decide +kernel
theorem dX8_readerNameByte_21 : decode cX8_readerNameByte 21 = .ok (.invokespecial 163, 3) := by decide +kernel
theorem dX8_readerNameByte_24 : decode cX8_readerNameByte 24 = .ok (.athrow, 1) := by decide +kernel
theorem dX8_readerNameByte_25 : decode cX8_readerNameByte 25 = .ok (.iload_n 3, 1) := by decide +kernel
theorem dX8_readerNameByte_26 : decode cX8_readerNameByte 26 = .ok (.ireturn, 1) := by decide +kernel
theorem dX8_escapeMethod_0 : decode cX8_escapeMethod 0 = .ok (.aload_n 0, 1) := by decide +kernel
theorem dX8_escapeMethod_1 : decode cX8_escapeMethod 1 = .ok (.iload_n 1, 1) := by decide +kernel
theorem dX8_escapeMethod_2 : decode cX8_escapeMethod 2 = .ok (.invokevirtual 149, 3) := by decide +kernel
theorem dX8_escapeMethod_5 : decode cX8_escapeMethod 5 = .ok (.getfield 164, 3) := by decide +kernel
theorem dX8_escapeMethod_8 : decode cX8_escapeMethod 8 = .ok (.ireturn, 1) := by decide +kernel
theorem dX8_documentCount_0 : decode cX8_documentCount 0 = .ok (.aload_n 0, 1) := by decide +kernel
theorem dX8_documentCount_1 : decode cX8_documentCount 1 = .ok (.getfield 13, 3) := by decide +kernel
theorem dX8_documentCount_4 : decode cX8_documentCount 4 = .ok (.getfield 167, 3) := by decide +kernel
theorem dX8_documentCount_7 : decode cX8_documentCount 7 = .ok (.ireturn, 1) := by decide +kernel
theorem dX8_documentLength_0 : decode cX8_documentLength 0 = .ok (.aload_n 0, 1) := by decide +kernel
theorem dX8_documentLength_1 : decode cX8_documentLength 1 = .ok (.iload_n 1, 1) := by decide +kernel
theorem dX8_documentLength_2 : decode cX8_documentLength 2 = .ok (.invokevirtual 170, 3) := by decide +kernel
theorem dX8_documentLength_5 : decode cX8_documentLength 5 = .ok (.getfield 174, 3) := by decide +kernel
theorem dX8_documentLength_8 : decode cX8_documentLength 8 = .ok (.ireturn, 1) := by decide +kernel
theorem dX8_documentSymbol_0 : decode cX8_documentSymbol 0 = .ok (.aload_n 0, 1) := by decide +kernel
theorem dX8_documentSymbol_1 : decode cX8_documentSymbol 1 = .ok (.iload_n 1, 1) := by decide +kernel
theorem dX8_documentSymbol_2 : decode cX8_documentSymbol 2 = .ok (.invokevirtual 170, 3) := by decide +kernel
theorem dX8_documentSymbol_5 : decode cX8_documentSymbol 5 = .ok (.iload_n 2, 1) := by decide +kernel
theorem dX8_documentSymbol_6 : decode cX8_documentSymbol 6 = .ok (.invokevirtual 177, 3) := by decide +kernel
theorem dX8_documentSymbol_9 : decode cX8_documentSymbol 9 = .ok (.istore_n 3, 1) := by decide +kernel
theorem dX8_documentSymbol_10 : decode cX8_documentSymbol 10 = .ok (.iload_n 3, 1) := by decide +kernel
theorem dX8_documentSymbol_11 : decode cX8_documentSymbol 11 = .ok (.iconst (-1), 1) := by decide +kernel
theorem dX8_documentSymbol_12 : decode cX8_documentSymbol 12 = .ok (.if_icmp .ne 13, 3) := by decide +kernel
theorem dX8_documentSymbol_15 : decode cX8_documentSymbol 15 = .ok (.new 159, 3) := by decide +kernel
theorem dX8_documentSymbol_18 : decode cX8_documentSymbol 18 = .ok (.dup, 1) := by decide +kernel
theorem dX8_documentSymbol_19 : decode cX8_documentSymbol 19 = .ok (.ldc 180, 2) := by decide +kernel
theorem dX8_documentSymbol_21 : decode cX8_documentSymbol 21 = .ok (.invokespecial 163, 3) := by decide +kernel
theorem dX8_documentSymbol_24 : decode cX8_documentSymbol 24 = .ok (.athrow, 1) := by decide +kernel
theorem dX8_documentSymbol_25 : decode cX8_documentSymbol 25 = .ok (.iload_n 3, 1) := by decide +kernel
theorem dX8_documentSymbol_26 : decode cX8_documentSymbol 26 = .ok (.ireturn, 1) := by decide +kernel
theorem dX8_documentYear_0 : decode cX8_documentYear 0 = .ok (.aload_n 0, 1) := by decide +kernel
theorem dX8_documentYear_1 : decode cX8_documentYear 1 = .ok (.iload_n 1, 1) := by decide +kernel
theorem dX8_documentYear_2 : decode cX8_documentYear 2 = .ok (.invokevirtual 170, 3) := by decide +kernel
theorem dX8_documentYear_5 : decode cX8_documentYear 5 = .ok (.getfield 182, 3) := by decide +kernel
theorem dX8_documentYear_8 : decode cX8_documentYear 8 = .ok (.ireturn, 1) := by decide +kernel
theorem dX8_countOrder0_0 : decode cX8_countOrder0 0 = .ok (.aload_n 0, 1) := by decide +kernel
theorem dX8_countOrder0_1 : decode cX8_countOrder0 1 = .ok (.iload_n 1, 1) := by decide +kernel
theorem dX8_countOrder0_2 : decode cX8_countOrder0 2 = .ok (.invokevirtual 149, 3) := by decide +kernel
theorem dX8_countOrder0_5 : decode cX8_countOrder0 5 = .ok (.astore_n 3, 1) := by decide +kernel
theorem dX8_countOrder0_6 : decode cX8_countOrder0 6 = .ok (.iload_n 2, 1) := by decide +kernel
theorem dX8_countOrder0_7 : decode cX8_countOrder0 7 = .ok (.invokestatic 185, 3) := by decide +kernel
theorem dX8_countOrder0_10 : decode cX8_countOrder0 10 = .ok (.aload_n 3, 1) := by decide +kernel
theorem dX8_countOrder0_11 : decode cX8_countOrder0 11 = .ok (.getfield 188, 3) := by decide +kernel
theorem dX8_countOrder0_14 : decode cX8_countOrder0 14 = .ok (.iconst 0, 1) := by decide +kernel
theorem dX8_countOrder0_15 : decode cX8_countOrder0 15 = .ok (.iconst (-1), 1) := by decide +kernel
theorem dX8_countOrder0_16 : decode cX8_countOrder0 16 = .ok (.iconst (-1), 1) := by decide +kernel
theorem dX8_countOrder0_17 : decode cX8_countOrder0 17 = .ok (.invokestatic 191, 3) := by decide +kernel
theorem dX8_countOrder0_20 : decode cX8_countOrder0 20 = .ok (.iload_n 2, 1) := by decide +kernel
theorem dX8_countOrder0_21 : decode cX8_countOrder0 21 = .ok (.iadd, 1) := by decide +kernel
theorem dX8_countOrder0_22 : decode cX8_countOrder0 22 = .ok (.invokevirtual 195, 3) := by decide +kernel
theorem dX8_countOrder0_25 : decode cX8_countOrder0 25 = .ok (.ireturn, 1) := by decide +kernel
theorem dX8_countOrder1_0 : decode cX8_countOrder1 0 = .ok (.aload_n 0, 1) := by decide +kernel
theorem dX8_countOrder1_1 : decode cX8_countOrder1 1 = .ok (.iload_n 1, 1) := by decide +kernel
theorem dX8_countOrder1_2 : decode cX8_countOrder1 2 = .ok (.invokevirtual 149, 3) := by decide +kernel
theorem dX8_countOrder1_5 : decode cX8_countOrder1 5 = .ok (.astore 4, 2) := by decide +kernel
theorem dX8_countOrder1_7 : decode cX8_countOrder1 7 = .ok (.iload_n 2, 1) := by decide +kernel
theorem dX8_countOrder1_8 : decode cX8_countOrder1 8 = .ok (.invokestatic 185, 3) := by decide +kernel
theorem dX8_countOrder1_11 : decode cX8_countOrder1 11 = .ok (.iload_n 3, 1) := by decide +kernel
theorem dX8_countOrder1_12 : decode cX8_countOrder1 12 = .ok (.invokestatic 185, 3) := by decide +kernel
theorem dX8_countOrder1_15 : decode cX8_countOrder1 15 = .ok (.aload 4, 2) := by decide +kernel
theorem dX8_countOrder1_17 : decode cX8_countOrder1 17 = .ok (.getfield 188, 3) := by decide +kernel
theorem dX8_countOrder1_20 : decode cX8_countOrder1 20 = .ok (.iconst 1, 1) := by decide +kernel
theorem dX8_countOrder1_21 : decode cX8_countOrder1 21 = .ok (.iconst (-1), 1) := by decide +kernel
theorem dX8_countOrder1_22 : decode cX8_countOrder1 22 = .ok (.iload_n 2, 1) := by decide +kernel
theorem dX8_countOrder1_23 : decode cX8_countOrder1 23 = .ok (.invokestatic 191, 3) := by decide +kernel
theorem dX8_countOrder1_26 : decode cX8_countOrder1 26 = .ok (.iload_n 3, 1) := by decide +kernel
theorem dX8_countOrder1_27 : decode cX8_countOrder1 27 = .ok (.iadd, 1) := by decide +kernel
theorem dX8_countOrder1_28 : decode cX8_countOrder1 28 = .ok (.invokevirtual 195, 3) := by decide +kernel
theorem dX8_countOrder1_31 : decode cX8_countOrder1 31 = .ok (.ireturn, 1) := by decide +kernel
theorem dX8_countOrder2_0 : decode cX8_countOrder2 0 = .ok (.aload_n 0, 1) := by decide +kernel
theorem dX8_countOrder2_1 : decode cX8_countOrder2 1 = .ok (.iload_n 1, 1) := by decide +kernel
theorem dX8_countOrder2_2 : decode cX8_countOrder2 2 = .ok (.invokevirtual 149, 3) := by decide +kernel
theorem dX8_countOrder2_5 : decode cX8_countOrder2 5 = .ok (.astore 5, 2) := by decide +kernel
theorem dX8_countOrder2_7 : decode cX8_countOrder2 7 = .ok (.iload_n 2, 1) := by decide +kernel
theorem dX8_countOrder2_8 : decode cX8_countOrder2 8 = .ok (.invokestatic 185, 3) := by decide +kernel
theorem dX8_countOrder2_11 : decode cX8_countOrder2 11 = .ok (.iload_n 3, 1) := by decide +kernel
theorem dX8_countOrder2_12 : decode cX8_countOrder2 12 = .ok (.invokestatic 185, 3) := by decide +kernel
theorem dX8_countOrder2_15 : decode cX8_countOrder2 15 = .ok (.iload 4, 2) := by decide +kernel
theorem dX8_countOrder2_17 : decode cX8_countOrder2 17 = .ok (.invokestatic 185, 3) := by decide +kernel
theorem dX8_countOrder2_20 : decode cX8_countOrder2 20 = .ok (.aload 5, 2) := by decide +kernel
theorem dX8_countOrder2_22 : decode cX8_countOrder2 22 = .ok (.getfield 188, 3) := by decide +kernel
theorem dX8_countOrder2_25 : decode cX8_countOrder2 25 = .ok (.iconst 2, 1) := by decide +kernel
theorem dX8_countOrder2_26 : decode cX8_countOrder2 26 = .ok (.iload_n 2, 1) := by decide +kernel
theorem dX8_countOrder2_27 : decode cX8_countOrder2 27 = .ok (.iload_n 3, 1) := by decide +kernel
theorem dX8_countOrder2_28 : decode cX8_countOrder2 28 = .ok (.invokestatic 191, 3) := by decide +kernel
theorem dX8_countOrder2_31 : decode cX8_countOrder2 31 = .ok (.iload 4, 2) := by decide +kernel
theorem dX8_countOrder2_33 : decode cX8_countOrder2 33 = .ok (.iadd, 1) := by decide +kernel
theorem dX8_countOrder2_34 : decode cX8_countOrder2 34 = .ok (.invokevirtual 195, 3) := by decide +kernel
theorem dX8_countOrder2_37 : decode cX8_countOrder2 37 = .ok (.ireturn, 1) := by decide +kernel
theorem dX8_contextTotal_0 : decode cX8_contextTotal 0 = .ok (.aload_n 0, 1) := by decide +kernel
theorem dX8_contextTotal_1 : decode cX8_contextTotal 1 = .ok (.iload_n 1, 1) := by decide +kernel
theorem dX8_contextTotal_2 : decode cX8_contextTotal 2 = .ok (.invokevirtual 149, 3) := by decide +kernel
theorem dX8_contextTotal_5 : decode cX8_contextTotal 5 = .ok (.astore 4, 2) := by decide +kernel
theorem dX8_contextTotal_7 : decode cX8_contextTotal 7 = .ok (.iload_n 2, 1) := by decide +kernel
theorem dX8_contextTotal_8 : decode cX8_contextTotal 8 = .ok (.iload_n 3, 1) := by decide +kernel
theorem dX8_contextTotal_9 : decode cX8_contextTotal 9 = .ok (.invokestatic 198, 3) := by decide +kernel
theorem dX8_contextTotal_12 : decode cX8_contextTotal 12 = .ok (.iload_n 2, 1) := by decide +kernel
theorem dX8_contextTotal_13 : decode cX8_contextTotal 13 = .ok (.iload_n 3, 1) := by decide +kernel
theorem dX8_contextTotal_14 : decode cX8_contextTotal 14 = .ok (.invokestatic 202, 3) := by decide +kernel
theorem dX8_contextTotal_17 : decode cX8_contextTotal 17 = .ok (.istore 5, 2) := by decide +kernel
theorem dX8_contextTotal_19 : decode cX8_contextTotal 19 = .ok (.aload 4, 2) := by decide +kernel
theorem dX8_contextTotal_21 : decode cX8_contextTotal 21 = .ok (.getfield 188, 3) := by decide +kernel
theorem dX8_contextTotal_24 : decode cX8_contextTotal 24 = .ok (.iload 5, 2) := by decide +kernel
theorem dX8_contextTotal_26 : decode cX8_contextTotal 26 = .ok (.iload_n 2, 1) := by decide +kernel
theorem dX8_contextTotal_27 : decode cX8_contextTotal 27 = .ok (.iload_n 3, 1) := by decide +kernel
theorem dX8_contextTotal_28 : decode cX8_contextTotal 28 = .ok (.invokestatic 191, 3) := by decide +kernel
theorem dX8_contextTotal_31 : decode cX8_contextTotal 31 = .ok (.invokevirtual 206, 3) := by decide +kernel
theorem dX8_contextTotal_34 : decode cX8_contextTotal 34 = .ok (.ireturn, 1) := by decide +kernel
theorem dX8_contextSymbols_0 : decode cX8_contextSymbols 0 = .ok (.aload_n 0, 1) := by decide +kernel
theorem dX8_contextSymbols_1 : decode cX8_contextSymbols 1 = .ok (.iload_n 1, 1) := by decide +kernel
theorem dX8_contextSymbols_2 : decode cX8_contextSymbols 2 = .ok (.invokevirtual 149, 3) := by decide +kernel
theorem dX8_contextSymbols_5 : decode cX8_contextSymbols 5 = .ok (.astore 4, 2) := by decide +kernel
theorem dX8_contextSymbols_7 : decode cX8_contextSymbols 7 = .ok (.iload_n 2, 1) := by decide +kernel
theorem dX8_contextSymbols_8 : decode cX8_contextSymbols 8 = .ok (.iload_n 3, 1) := by decide +kernel
theorem dX8_contextSymbols_9 : decode cX8_contextSymbols 9 = .ok (.invokestatic 198, 3) := by decide +kernel
theorem dX8_contextSymbols_12 : decode cX8_contextSymbols 12 = .ok (.iload_n 2, 1) := by decide +kernel
theorem dX8_contextSymbols_13 : decode cX8_contextSymbols 13 = .ok (.iload_n 3, 1) := by decide +kernel
theorem dX8_contextSymbols_14 : decode cX8_contextSymbols 14 = .ok (.invokestatic 202, 3) := by decide +kernel
theorem dX8_contextSymbols_17 : decode cX8_contextSymbols 17 = .ok (.istore 5, 2) := by decide +kernel
theorem dX8_contextSymbols_19 : decode cX8_contextSymbols 19 = .ok (.aload 4, 2) := by decide +kernel
theorem dX8_contextSymbols_21 : decode cX8_contextSymbols 21 = .ok (.getfield 188, 3) := by decide +kernel
theorem dX8_contextSymbols_24 : decode cX8_contextSymbols 24 = .ok (.iload 5, 2) := by decide +kernel
theorem dX8_contextSymbols_26 : decode cX8_contextSymbols 26 = .ok (.iload_n 2, 1) := by decide +kernel
theorem dX8_contextSymbols_27 : decode cX8_contextSymbols 27 = .ok (.iload_n 3, 1) := by decide +kernel
theorem dX8_contextSymbols_28 : decode cX8_contextSymbols 28 = .ok (.invokestatic 191, 3) := by decide +kernel
theorem dX8_contextSymbols_31 : decode cX8_contextSymbols 31 = .ok (.invokevirtual 209, 3) := by decide +kernel
theorem dX8_contextSymbols_34 : decode cX8_contextSymbols 34 = .ok (.ireturn, 1) := by decide +kernel
theorem dX8_order2Contexts_0 : decode cX8_order2Contexts 0 = .ok (.aload_n 0, 1) := by decide +kernel
theorem dX8_order2Contexts_1 : decode cX8_order2Contexts 1 = .ok (.iload_n 1, 1) := by decide +kernel
theorem dX8_order2Contexts_2 : decode cX8_order2Contexts 2 = .ok (.invokevirtual 149, 3) := by decide +kernel
theorem dX8_order2Contexts_5 : decode cX8_order2Contexts 5 = .ok (.getfield 188, 3) := by decide +kernel
theorem dX8_order2Contexts_8 : decode cX8_order2Contexts 8 = .ok (.invokevirtual 212, 3) := by decide +kernel
theorem dX8_order2Contexts_11 : decode cX8_order2Contexts 11 = .ok (.ireturn, 1) := by decide +kernel
theorem dX8_positiveCounts_0 : decode cX8_positiveCounts 0 = .ok (.aload_n 0, 1) := by decide +kernel
theorem dX8_positiveCounts_1 : decode cX8_positiveCounts 1 = .ok (.iload_n 1, 1) := by decide +kernel
theorem dX8_positiveCounts_2 : decode cX8_positiveCounts 2 = .ok (.invokevirtual 149, 3) := by decide +kernel
theorem dX8_positiveCounts_5 : decode cX8_positiveCounts 5 = .ok (.getfield 188, 3) := by decide +kernel
theorem dX8_positiveCounts_8 : decode cX8_positiveCounts 8 = .ok (.getfield 215, 3) := by decide +kernel
theorem dX8_positiveCounts_11 : decode cX8_positiveCounts 11 = .ok (.ireturn, 1) := by decide +kernel
theorem dX8_timesTrained_0 : decode cX8_timesTrained 0 = .ok (.aload_n 0, 1) := by decide +kernel
theorem dX8_timesTrained_1 : decode cX8_timesTrained 1 = .ok (.iload_n 1, 1) := by decide +kernel
theorem dX8_timesTrained_2 : decode cX8_timesTrained 2 = .ok (.invokevirtual 149, 3) := by decide +kernel
theorem dX8_timesTrained_5 : decode cX8_timesTrained 5 = .ok (.astore_n 3, 1) := by decide +kernel
theorem dX8_timesTrained_6 : decode cX8_timesTrained 6 = .ok (.aload_n 0, 1) := by decide +kernel
theorem dX8_timesTrained_7 : decode cX8_timesTrained 7 = .ok (.iload_n 2, 1) := by decide +kernel
theorem dX8_timesTrained_8 : decode cX8_timesTrained 8 = .ok (.invokevirtual 170, 3) := by decide +kernel
theorem dX8_timesTrained_11 : decode cX8_timesTrained 11 = .ok (.pop, 1) := by decide +kernel
theorem dX8_timesTrained_12 : decode cX8_timesTrained 12 = .ok (.aload_n 3, 1) := by decide +kernel
theorem dX8_timesTrained_13 : decode cX8_timesTrained 13 = .ok (.iload_n 2, 1) := by decide +kernel
theorem dX8_timesTrained_14 : decode cX8_timesTrained 14 = .ok (.invokevirtual 218, 3) := by decide +kernel
theorem dX8_timesTrained_17 : decode cX8_timesTrained 17 = .ok (.ireturn, 1) := by decide +kernel
theorem dX8_trainedSymbols_0 : decode cX8_trainedSymbols 0 = .ok (.aload_n 0, 1) := by decide +kernel
theorem dX8_trainedSymbols_1 : decode cX8_trainedSymbols 1 = .ok (.iload_n 1, 1) := by decide +kernel
theorem dX8_trainedSymbols_2 : decode cX8_trainedSymbols 2 = .ok (.invokevirtual 149, 3) := by decide +kernel
theorem dX8_trainedSymbols_5 : decode cX8_trainedSymbols 5 = .ok (.getfield 221, 3) := by decide +kernel
theorem dX8_trainedSymbols_8 : decode cX8_trainedSymbols 8 = .ok (.ireturn, 1) := by decide +kernel
theorem dX8_trainingGap_0 : decode cX8_trainingGap 0 = .ok (.aload_n 0, 1) := by decide +kernel
theorem dX8_trainingGap_1 : decode cX8_trainingGap 1 = .ok (.iload_n 1, 1) := by decide +kernel
theorem dX8_trainingGap_2 : decode cX8_trainingGap 2 = .ok (.invokevirtual 149, 3) := by decide +kernel
theorem dX8_trainingGap_5 : decode cX8_trainingGap 5 = .ok (.astore_n 2, 1) := by decide +kernel
theorem dX8_trainingGap_6 : decode cX8_trainingGap 6 = .ok (.aload_n 2, 1) := by decide +kernel
theorem dX8_trainingGap_7 : decode cX8_trainingGap 7 = .ok (.getfield 221, 3) := by decide +kernel
theorem dX8_trainingGap_10 : decode cX8_trainingGap 10 = .ok (.istore_n 3, 1) := by decide +kernel
theorem dX8_trainingGap_11 : decode cX8_trainingGap 11 = .ok (.iconst 0, 1) := by decide +kernel
theorem dX8_trainingGap_12 : decode cX8_trainingGap 12 = .ok (.istore 4, 2) := by decide +kernel
theorem dX8_trainingGap_14 : decode cX8_trainingGap 14 = .ok (.iload 4, 2) := by decide +kernel
theorem dX8_trainingGap_16 : decode cX8_trainingGap 16 = .ok (.aload_n 0, 1) := by decide +kernel
theorem dX8_trainingGap_17 : decode cX8_trainingGap 17 = .ok (.getfield 13, 3) := by decide +kernel
theorem dX8_trainingGap_20 : decode cX8_trainingGap 20 = .ok (.getfield 167, 3) := by decide +kernel
theorem dX8_trainingGap_23 : decode cX8_trainingGap 23 = .ok (.if_icmp .ge 28, 3) := by decide +kernel
theorem dX8_trainingGap_26 : decode cX8_trainingGap 26 = .ok (.iload_n 3, 1) := by decide +kernel
theorem dX8_trainingGap_27 : decode cX8_trainingGap 27 = .ok (.aload_n 2, 1) := by decide +kernel
theorem dX8_trainingGap_28 : decode cX8_trainingGap 28 = .ok (.iload 4, 2) := by decide +kernel
theorem dX8_trainingGap_30 : decode cX8_trainingGap 30 = .ok (.invokevirtual 218, 3) := by decide +kernel
theorem dX8_trainingGap_33 : decode cX8_trainingGap 33 = .ok (.aload_n 0, 1) := by decide +kernel
theorem dX8_trainingGap_34 : decode cX8_trainingGap 34 = .ok (.iload 4, 2) := by decide +kernel
theorem dX8_trainingGap_36 : decode cX8_trainingGap 36 = .ok (.invokevirtual 170, 3) := by decide +kernel
theorem dX8_trainingGap_39 : decode cX8_trainingGap 39 = .ok (.getfield 174, 3) := by decide +kernel
theorem dX8_trainingGap_42 : decode cX8_trainingGap 42 = .ok (.imul, 1) := by decide +kernel
theorem dX8_trainingGap_43 : decode cX8_trainingGap 43 = .ok (.isub, 1) := by decide +kernel
theorem dX8_trainingGap_44 : decode cX8_trainingGap 44 = .ok (.istore_n 3, 1) := by decide +kernel
theorem dX8_trainingGap_45 : decode cX8_trainingGap 45 = .ok (.iinc 4 1, 3) := by decide +kernel
theorem dX8_trainingGap_48 : decode cX8_trainingGap 48 = .ok (.goto (-34), 3) := by decide +kernel
theorem dX8_trainingGap_51 : decode cX8_trainingGap 51 = .ok (.iload_n 3, 1) := by decide +kernel
theorem dX8_trainingGap_52 : decode cX8_trainingGap 52 = .ok (.ireturn, 1) := by decide +kernel
theorem dX8_symbolAtRank_0 : decode cX8_symbolAtRank 0 = .ok (.aload_n 0, 1) := by decide +kernel
theorem dX8_symbolAtRank_1 : decode cX8_symbolAtRank 1 = .ok (.iload_n 1, 1) := by decide +kernel
theorem dX8_symbolAtRank_2 : decode cX8_symbolAtRank 2 = .ok (.invokevirtual 149, 3) := by decide +kernel
theorem dX8_symbolAtRank_5 : decode cX8_symbolAtRank 5 = .ok (.astore 5, 2) := by decide +kernel
theorem dX8_symbolAtRank_7 : decode cX8_symbolAtRank 7 = .ok (.iload_n 2, 1) := by decide +kernel
theorem dX8_symbolAtRank_8 : decode cX8_symbolAtRank 8 = .ok (.iload_n 3, 1) := by decide +kernel
theorem dX8_symbolAtRank_9 : decode cX8_symbolAtRank 9 = .ok (.invokestatic 198, 3) := by decide +kernel
theorem dX8_symbolAtRank_12 : decode cX8_symbolAtRank 12 = .ok (.iload 4, 2) := by decide +kernel
theorem dX8_symbolAtRank_14 : decode cX8_symbolAtRank 14 = .ok (.iconst 1, 1) := by decide +kernel
theorem dX8_symbolAtRank_15 : decode cX8_symbolAtRank 15 = .ok (.if_icmp .lt 10, 3) := by decide +kernel
theorem dX8_symbolAtRank_18 : decode cX8_symbolAtRank 18 = .ok (.iload 4, 2) := by decide +kernel
theorem dX8_symbolAtRank_20 : decode cX8_symbolAtRank 20 = .ok (.bipush 27, 2) := by decide +kernel
theorem dX8_symbolAtRank_22 : decode cX8_symbolAtRank 22 = .ok (.if_icmp .le 13, 3) := by decide +kernel
theorem dX8_symbolAtRank_25 : decode cX8_symbolAtRank 25 = .ok (.new 119, 3) := by decide +kernel
theorem dX8_symbolAtRank_28 : decode cX8_symbolAtRank 28 = .ok (.dup, 1) := by decide +kernel
theorem dX8_symbolAtRank_29 : decode cX8_symbolAtRank 29 = .ok (.ldc 224, 2) := by decide +kernel
theorem dX8_symbolAtRank_31 : decode cX8_symbolAtRank 31 = .ok (.invokespecial 123, 3) := by decide +kernel
theorem dX8_symbolAtRank_34 : decode cX8_symbolAtRank 34 = .ok (.athrow, 1) := by decide +kernel
theorem dX8_symbolAtRank_35 : decode cX8_symbolAtRank 35 = .ok (.aload_n 0, 1) := by decide +kernel
theorem dX8_symbolAtRank_36 : decode cX8_symbolAtRank 36 = .ok (.aload 5, 2) := by decide +kernel
theorem dX8_symbolAtRank_38 : decode cX8_symbolAtRank 38 = .ok (.getfield 188, 3) := by decide +kernel
theorem dX8_symbolAtRank_41 : decode cX8_symbolAtRank 41 = .ok (.iload_n 2, 1) := by decide +kernel
theorem dX8_symbolAtRank_42 : decode cX8_symbolAtRank 42 = .ok (.iload_n 3, 1) := by decide +kernel
theorem dX8_symbolAtRank_43 : decode cX8_symbolAtRank 43 = .ok (.iload 4, 2) := by decide +kernel
theorem dX8_symbolAtRank_45 : decode cX8_symbolAtRank 45 = .ok (.invokevirtual 226, 3) := by decide +kernel
theorem dX8_symbolAtRank_48 : decode cX8_symbolAtRank 48 = .ok (.ireturn, 1) := by decide +kernel
theorem dX8_rank_0 : decode cX8_rank 0 = .ok (.aload_n 0, 1) := by decide +kernel
theorem dX8_rank_1 : decode cX8_rank 1 = .ok (.iload_n 1, 1) := by decide +kernel
theorem dX8_rank_2 : decode cX8_rank 2 = .ok (.invokevirtual 149, 3) := by decide +kernel
theorem dX8_rank_5 : decode cX8_rank 5 = .ok (.astore 5, 2) := by decide +kernel
theorem dX8_rank_7 : decode cX8_rank 7 = .ok (.iload_n 2, 1) := by decide +kernel
theorem dX8_rank_8 : decode cX8_rank 8 = .ok (.iload_n 3, 1) := by decide +kernel
theorem dX8_rank_9 : decode cX8_rank 9 = .ok (.invokestatic 198, 3) := by decide +kernel
theorem dX8_rank_12 : decode cX8_rank 12 = .ok (.iload 4, 2) := by decide +kernel
theorem dX8_rank_14 : decode cX8_rank 14 = .ok (.invokestatic 185, 3) := by decide +kernel
theorem dX8_rank_17 : decode cX8_rank 17 = .ok (.aload_n 0, 1) := by decide +kernel
theorem dX8_rank_18 : decode cX8_rank 18 = .ok (.aload 5, 2) := by decide +kernel
theorem dX8_rank_20 : decode cX8_rank 20 = .ok (.getfield 188, 3) := by decide +kernel
theorem dX8_rank_23 : decode cX8_rank 23 = .ok (.iload_n 2, 1) := by decide +kernel
theorem dX8_rank_24 : decode cX8_rank 24 = .ok (.iload_n 3, 1) := by decide +kernel
theorem dX8_rank_25 : decode cX8_rank 25 = .ok (.iload 4, 2) := by decide +kernel
theorem dX8_rank_27 : decode cX8_rank 27 = .ok (.invokevirtual 230, 3) := by decide +kernel
theorem dX8_rank_30 : decode cX8_rank 30 = .ok (.ireturn, 1) := by decide +kernel
theorem dX8_foundOrder_0 : decode cX8_foundOrder 0 = .ok (.aload_n 0, 1) := by decide +kernel
theorem dX8_foundOrder_1 : decode cX8_foundOrder 1 = .ok (.iload_n 1, 1) := by decide +kernel
theorem dX8_foundOrder_2 : decode cX8_foundOrder 2 = .ok (.invokevirtual 149, 3) := by decide +kernel
theorem dX8_foundOrder_5 : decode cX8_foundOrder 5 = .ok (.astore 5, 2) := by decide +kernel
theorem dX8_foundOrder_7 : decode cX8_foundOrder 7 = .ok (.iload_n 2, 1) := by decide +kernel
theorem dX8_foundOrder_8 : decode cX8_foundOrder 8 = .ok (.iload_n 3, 1) := by decide +kernel
theorem dX8_foundOrder_9 : decode cX8_foundOrder 9 = .ok (.invokestatic 198, 3) := by decide +kernel
theorem dX8_foundOrder_12 : decode cX8_foundOrder 12 = .ok (.iload 4, 2) := by decide +kernel
theorem dX8_foundOrder_14 : decode cX8_foundOrder 14 = .ok (.invokestatic 185, 3) := by decide +kernel
theorem dX8_foundOrder_17 : decode cX8_foundOrder 17 = .ok (.aload 5, 2) := by decide +kernel
theorem dX8_foundOrder_19 : decode cX8_foundOrder 19 = .ok (.getfield 188, 3) := by decide +kernel
theorem dX8_foundOrder_22 : decode cX8_foundOrder 22 = .ok (.iload_n 2, 1) := by decide +kernel
theorem dX8_foundOrder_23 : decode cX8_foundOrder 23 = .ok (.iload_n 3, 1) := by decide +kernel
theorem dX8_foundOrder_24 : decode cX8_foundOrder 24 = .ok (.iload 4, 2) := by decide +kernel
theorem dX8_foundOrder_26 : decode cX8_foundOrder 26 = .ok (.invokestatic 233, 3) := by decide +kernel
theorem dX8_foundOrder_29 : decode cX8_foundOrder 29 = .ok (.ireturn, 1) := by decide +kernel
theorem dX8_escapes_0 : decode cX8_escapes 0 = .ok (.aload_n 0, 1) := by decide +kernel
theorem dX8_escapes_1 : decode cX8_escapes 1 = .ok (.iload_n 1, 1) := by decide +kernel
theorem dX8_escapes_2 : decode cX8_escapes 2 = .ok (.iload_n 2, 1) := by decide +kernel
theorem dX8_escapes_3 : decode cX8_escapes 3 = .ok (.iload_n 3, 1) := by decide +kernel
theorem dX8_escapes_4 : decode cX8_escapes 4 = .ok (.iload 4, 2) := by decide +kernel
theorem dX8_escapes_6 : decode cX8_escapes 6 = .ok (.invokevirtual 236, 3) := by decide +kernel
theorem dX8_escapes_9 : decode cX8_escapes 9 = .ok (.getfield 240, 3) := by decide +kernel
theorem dX8_escapes_12 : decode cX8_escapes 12 = .ok (.ireturn, 1) := by decide +kernel
theorem dX8_numerator_0 : decode cX8_numerator 0 = .ok (.aload_n 0, 1) := by decide +kernel
theorem dX8_numerator_1 : decode cX8_numerator 1 = .ok (.iload_n 1, 1) := by decide +kernel
theorem dX8_numerator_2 : decode cX8_numerator 2 = .ok (.iload_n 2, 1) := by decide +kernel
theorem dX8_numerator_3 : decode cX8_numerator 3 = .ok (.iload_n 3, 1) := by decide +kernel
theorem dX8_numerator_4 : decode cX8_numerator 4 = .ok (.iload 4, 2) := by decide +kernel
theorem dX8_numerator_6 : decode cX8_numerator 6 = .ok (.invokevirtual 236, 3) := by decide +kernel
theorem dX8_numerator_9 : decode cX8_numerator 9 = .ok (.getfield 243, 3) := by decide +kernel
theorem dX8_numerator_12 : decode cX8_numerator 12 = .ok (.lreturn, 1) := by decide +kernel
theorem dX8_denominator_0 : decode cX8_denominator 0 = .ok (.aload_n 0, 1) := by decide +kernel
theorem dX8_denominator_1 : decode cX8_denominator 1 = .ok (.iload_n 1, 1) := by decide +kernel
theorem dX8_denominator_2 : decode cX8_denominator 2 = .ok (.iload_n 2, 1) := by decide +kernel
theorem dX8_denominator_3 : decode cX8_denominator 3 = .ok (.iload_n 3, 1) := by decide +kernel
theorem dX8_denominator_4 : decode cX8_denominator 4 = .ok (.iload 4, 2) := by decide +kernel
theorem dX8_denominator_6 : decode cX8_denominator 6 = .ok (.invokevirtual 236, 3) := by decide +kernel
theorem dX8_denominator_9 : decode cX8_denominator 9 = .ok (.getfield 247, 3) := by decide +kernel
theorem dX8_denominator_12 : decode cX8_denominator 12 = .ok (.lreturn, 1) := by decide +kernel
theorem dX8_probability_0 : decode cX8_probability 0 = .ok (.aload_n 0, 1) := by decide +kernel
theorem dX8_probability_1 : decode cX8_probability 1 = .ok (.iload_n 1, 1) := by decide +kernel
theorem dX8_probability_2 : decode cX8_probability 2 = .ok (.iload_n 2, 1) := by decide +kernel
theorem dX8_probability_3 : decode cX8_probability 3 = .ok (.iload_n 3, 1) := by decide +kernel
theorem dX8_probability_4 : decode cX8_probability 4 = .ok (.iload 4, 2) := by decide +kernel
theorem dX8_probability_6 : decode cX8_probability 6 = .ok (.invokevirtual 236, 3) := by decide +kernel
theorem dX8_probability_9 : decode cX8_probability 9 = .ok (.astore 5, 2) := by decide +kernel
theorem dX8_probability_11 : decode cX8_probability 11 = .ok (.aload 5, 2) := by decide +kernel
theorem dX8_probability_13 : decode cX8_probability 13 = .ok (.getfield 247, 3) := by decide +kernel
theorem dX8_probability_16 : decode cX8_probability 16 = .ok (.lconst 0, 1) := by decide +kernel
theorem dX8_probability_17 : decode cX8_probability 17 = .ok (.lcmp, 1) := by decide +kernel
theorem dX8_probability_18 : decode cX8_probability 18 = .ok (.ifCond .le 19, 3) := by decide +kernel
theorem dX8_probability_21 : decode cX8_probability 21 = .ok (.aload 5, 2) := by decide +kernel
theorem dX8_probability_23 : decode cX8_probability 23 = .ok (.getfield 243, 3) := by decide +kernel
theorem dX8_probability_26 : decode cX8_probability 26 = .ok (.l2d, 1) := by decide +kernel
theorem dX8_probability_27 : decode cX8_probability 27 = .ok (.aload 5, 2) := by decide +kernel
theorem dX8_probability_29 : decode cX8_probability 29 = .ok (.getfield 247, 3) := by decide +kernel
theorem dX8_probability_32 : decode cX8_probability 32 = .ok (.l2d, 1) := by decide +kernel
theorem dX8_probability_33 : decode cX8_probability 33 = .ok (.ddiv, 1) := by decide +kernel
theorem dX8_probability_34 : decode cX8_probability 34 = .ok (.goto 4, 3) := by decide +kernel
theorem dX8_probability_37 : decode cX8_probability 37 = .ok (.dconst 0, 1) := by decide +kernel
theorem dX8_probability_38 : decode cX8_probability 38 = .ok (.dreturn, 1) := by decide +kernel
theorem dX8_codeLength_0 : decode cX8_codeLength 0 = .ok (.aload_n 0, 1) := by decide +kernel
theorem dX8_codeLength_1 : decode cX8_codeLength 1 = .ok (.iload_n 1, 1) := by decide +kernel
theorem dX8_codeLength_2 : decode cX8_codeLength 2 = .ok (.iload_n 2, 1) := by decide +kernel
theorem dX8_codeLength_3 : decode cX8_codeLength 3 = .ok (.iload_n 3, 1) := by decide +kernel
theorem dX8_codeLength_4 : decode cX8_codeLength 4 = .ok (.iload 4, 2) := by decide +kernel
theorem dX8_codeLength_6 : decode cX8_codeLength 6 = .ok (.invokevirtual 236, 3) := by decide +kernel
theorem dX8_codeLength_9 : decode cX8_codeLength 9 = .ok (.invokevirtual 250, 3) := by decide +kernel
theorem dX8_codeLength_12 : decode cX8_codeLength 12 = .ok (.ireturn, 1) := by decide +kernel
theorem dX8_rankAt_0 : decode cX8_rankAt 0 = .ok (.aload_n 0, 1) := by decide +kernel
theorem dX8_rankAt_1 : decode cX8_rankAt 1 = .ok (.iload_n 1, 1) := by decide +kernel
theorem dX8_rankAt_2 : decode cX8_rankAt 2 = .ok (.invokevirtual 149, 3) := by decide +kernel
theorem dX8_rankAt_5 : decode cX8_rankAt 5 = .ok (.astore 4, 2) := by decide +kernel
theorem dX8_rankAt_7 : decode cX8_rankAt 7 = .ok (.aload_n 0, 1) := by decide +kernel
theorem dX8_rankAt_8 : decode cX8_rankAt 8 = .ok (.iload_n 2, 1) := by decide +kernel
theorem dX8_rankAt_9 : decode cX8_rankAt 9 = .ok (.invokevirtual 170, 3) := by decide +kernel
theorem dX8_rankAt_12 : decode cX8_rankAt 12 = .ok (.astore 5, 2) := by decide +kernel
theorem dX8_rankAt_14 : decode cX8_rankAt 14 = .ok (.aload 5, 2) := by decide +kernel
theorem dX8_rankAt_16 : decode cX8_rankAt 16 = .ok (.iload_n 3, 1) := by decide +kernel
theorem dX8_rankAt_17 : decode cX8_rankAt 17 = .ok (.invokevirtual 177, 3) := by decide +kernel
theorem dX8_rankAt_20 : decode cX8_rankAt 20 = .ok (.iconst (-1), 1) := by decide +kernel
theorem dX8_rankAt_21 : decode cX8_rankAt 21 = .ok (.if_icmp .ne 13, 3) := by decide +kernel
theorem dX8_rankAt_24 : decode cX8_rankAt 24 = .ok (.new 159, 3) := by decide +kernel
theorem dX8_rankAt_27 : decode cX8_rankAt 27 = .ok (.dup, 1) := by decide +kernel
theorem dX8_rankAt_28 : decode cX8_rankAt 28 = .ok (.ldc 180, 2) := by decide +kernel
theorem dX8_rankAt_30 : decode cX8_rankAt 30 = .ok (.invokespecial 163, 3) := by decide +kernel
theorem dX8_rankAt_33 : decode cX8_rankAt 33 = .ok (.athrow, 1) := by decide +kernel
theorem dX8_rankAt_34 : decode cX8_rankAt 34 = .ok (.aload_n 0, 1) := by decide +kernel
theorem dX8_rankAt_35 : decode cX8_rankAt 35 = .ok (.aload 4, 2) := by decide +kernel
theorem dX8_rankAt_37 : decode cX8_rankAt 37 = .ok (.getfield 188, 3) := by decide +kernel
theorem dX8_rankAt_40 : decode cX8_rankAt 40 = .ok (.aload 5, 2) := by decide +kernel
theorem dX8_rankAt_42 : decode cX8_rankAt 42 = .ok (.iload_n 3, 1) := by decide +kernel
theorem dX8_rankAt_43 : decode cX8_rankAt 43 = .ok (.invokevirtual 253, 3) := by decide +kernel
theorem dX8_rankAt_46 : decode cX8_rankAt 46 = .ok (.ireturn, 1) := by decide +kernel
theorem dX8_totalGuesses_0 : decode cX8_totalGuesses 0 = .ok (.aload_n 0, 1) := by decide +kernel
theorem dX8_totalGuesses_1 : decode cX8_totalGuesses 1 = .ok (.iload_n 1, 1) := by decide +kernel
theorem dX8_totalGuesses_2 : decode cX8_totalGuesses 2 = .ok (.invokevirtual 149, 3) := by decide +kernel
theorem dX8_totalGuesses_5 : decode cX8_totalGuesses 5 = .ok (.astore_n 3, 1) := by decide +kernel
theorem dX8_totalGuesses_6 : decode cX8_totalGuesses 6 = .ok (.aload_n 0, 1) := by decide +kernel
theorem dX8_totalGuesses_7 : decode cX8_totalGuesses 7 = .ok (.aload_n 3, 1) := by decide +kernel
theorem dX8_totalGuesses_8 : decode cX8_totalGuesses 8 = .ok (.getfield 188, 3) := by decide +kernel
theorem dX8_totalGuesses_11 : decode cX8_totalGuesses 11 = .ok (.aload_n 0, 1) := by decide +kernel
theorem dX8_totalGuesses_12 : decode cX8_totalGuesses 12 = .ok (.iload_n 2, 1) := by decide +kernel
theorem dX8_totalGuesses_13 : decode cX8_totalGuesses 13 = .ok (.invokevirtual 170, 3) := by decide +kernel
theorem dX8_totalGuesses_16 : decode cX8_totalGuesses 16 = .ok (.invokevirtual 257, 3) := by decide +kernel
theorem dX8_totalGuesses_19 : decode cX8_totalGuesses 19 = .ok (.ireturn, 1) := by decide +kernel
theorem dX8_adaptiveGuesses_0 : decode cX8_adaptiveGuesses 0 = .ok (.aload_n 0, 1) := by decide +kernel
theorem dX8_adaptiveGuesses_1 : decode cX8_adaptiveGuesses 1 = .ok (.iload_n 1, 1) := by decide +kernel
theorem dX8_adaptiveGuesses_2 : decode cX8_adaptiveGuesses 2 = .ok (.invokevirtual 149, 3) := by decide +kernel
theorem dX8_adaptiveGuesses_5 : decode cX8_adaptiveGuesses 5 = .ok (.astore_n 3, 1) := by decide +kernel
theorem dX8_adaptiveGuesses_6 : decode cX8_adaptiveGuesses 6 = .ok (.aload_n 0, 1) := by decide +kernel
theorem dX8_adaptiveGuesses_7 : decode cX8_adaptiveGuesses 7 = .ok (.iload_n 2, 1) := by decide +kernel
theorem dX8_adaptiveGuesses_8 : decode cX8_adaptiveGuesses 8 = .ok (.invokevirtual 170, 3) := by decide +kernel
theorem dX8_adaptiveGuesses_11 : decode cX8_adaptiveGuesses 11 = .ok (.astore 4, 2) := by decide +kernel
theorem dX8_adaptiveGuesses_13 : decode cX8_adaptiveGuesses 13 = .ok (.aload_n 0, 1) := by decide +kernel
theorem dX8_adaptiveGuesses_14 : decode cX8_adaptiveGuesses 14 = .ok (.getfield 60, 3) := by decide +kernel
theorem dX8_adaptiveGuesses_17 : decode cX8_adaptiveGuesses 17 = .ok (.aload_n 3, 1) := by decide +kernel
theorem dX8_adaptiveGuesses_18 : decode cX8_adaptiveGuesses 18 = .ok (.getfield 188, 3) := by decide +kernel
theorem dX8_adaptiveGuesses_21 : decode cX8_adaptiveGuesses 21 = .ok (.invokevirtual 261, 3) := by decide +kernel
theorem dX8_adaptiveGuesses_24 : decode cX8_adaptiveGuesses 24 = .ok (.aload_n 0, 1) := by decide +kernel
theorem dX8_adaptiveGuesses_25 : decode cX8_adaptiveGuesses 25 = .ok (.aload_n 0, 1) := by decide +kernel
theorem dX8_adaptiveGuesses_26 : decode cX8_adaptiveGuesses 26 = .ok (.getfield 60, 3) := by decide +kernel
theorem dX8_adaptiveGuesses_29 : decode cX8_adaptiveGuesses 29 = .ok (.aload 4, 2) := by decide +kernel
theorem dX8_adaptiveGuesses_31 : decode cX8_adaptiveGuesses 31 = .ok (.invokevirtual 264, 3) := by decide +kernel
theorem dX8_adaptiveGuesses_34 : decode cX8_adaptiveGuesses 34 = .ok (.ireturn, 1) := by decide +kernel
theorem dX8_firstGuessHits_0 : decode cX8_firstGuessHits 0 = .ok (.aload_n 0, 1) := by decide +kernel
theorem dX8_firstGuessHits_1 : decode cX8_firstGuessHits 1 = .ok (.iload_n 1, 1) := by decide +kernel
theorem dX8_firstGuessHits_2 : decode cX8_firstGuessHits 2 = .ok (.invokevirtual 149, 3) := by decide +kernel
theorem dX8_firstGuessHits_5 : decode cX8_firstGuessHits 5 = .ok (.astore_n 3, 1) := by decide +kernel
theorem dX8_firstGuessHits_6 : decode cX8_firstGuessHits 6 = .ok (.aload_n 0, 1) := by decide +kernel
theorem dX8_firstGuessHits_7 : decode cX8_firstGuessHits 7 = .ok (.aload_n 3, 1) := by decide +kernel
theorem dX8_firstGuessHits_8 : decode cX8_firstGuessHits 8 = .ok (.getfield 188, 3) := by decide +kernel
theorem dX8_firstGuessHits_11 : decode cX8_firstGuessHits 11 = .ok (.aload_n 0, 1) := by decide +kernel
theorem dX8_firstGuessHits_12 : decode cX8_firstGuessHits 12 = .ok (.iload_n 2, 1) := by decide +kernel
theorem dX8_firstGuessHits_13 : decode cX8_firstGuessHits 13 = .ok (.invokevirtual 170, 3) := by decide +kernel
theorem dX8_firstGuessHits_16 : decode cX8_firstGuessHits 16 = .ok (.invokevirtual 267, 3) := by decide +kernel
theorem dX8_firstGuessHits_19 : decode cX8_firstGuessHits 19 = .ok (.ireturn, 1) := by decide +kernel
theorem dX8_unseenSymbols_0 : decode cX8_unseenSymbols 0 = .ok (.aload_n 0, 1) := by decide +kernel
theorem dX8_unseenSymbols_1 : decode cX8_unseenSymbols 1 = .ok (.iload_n 1, 1) := by decide +kernel
theorem dX8_unseenSymbols_2 : decode cX8_unseenSymbols 2 = .ok (.invokevirtual 149, 3) := by decide +kernel
theorem dX8_unseenSymbols_5 : decode cX8_unseenSymbols 5 = .ok (.astore_n 3, 1) := by decide +kernel
theorem dX8_unseenSymbols_6 : decode cX8_unseenSymbols 6 = .ok (.aload_n 0, 1) := by decide +kernel
theorem dX8_unseenSymbols_7 : decode cX8_unseenSymbols 7 = .ok (.iload_n 2, 1) := by decide +kernel
theorem dX8_unseenSymbols_8 : decode cX8_unseenSymbols 8 = .ok (.invokevirtual 170, 3) := by decide +kernel
theorem dX8_unseenSymbols_11 : decode cX8_unseenSymbols 11 = .ok (.astore 4, 2) := by decide +kernel
theorem dX8_unseenSymbols_13 : decode cX8_unseenSymbols 13 = .ok (.iconst 0, 1) := by decide +kernel
theorem dX8_unseenSymbols_14 : decode cX8_unseenSymbols 14 = .ok (.istore 5, 2) := by decide +kernel
theorem dX8_unseenSymbols_16 : decode cX8_unseenSymbols 16 = .ok (.iconst 0, 1) := by decide +kernel
theorem dX8_unseenSymbols_17 : decode cX8_unseenSymbols 17 = .ok (.istore 6, 2) := by decide +kernel
theorem dX8_unseenSymbols_19 : decode cX8_unseenSymbols 19 = .ok (.iload 6, 2) := by decide +kernel
theorem dX8_unseenSymbols_21 : decode cX8_unseenSymbols 21 = .ok (.aload 4, 2) := by decide +kernel
theorem dX8_unseenSymbols_23 : decode cX8_unseenSymbols 23 = .ok (.getfield 174, 3) := by decide +kernel
theorem dX8_unseenSymbols_26 : decode cX8_unseenSymbols 26 = .ok (.if_icmp .ge 48, 3) := by decide +kernel
theorem dX8_unseenSymbols_29 : decode cX8_unseenSymbols 29 = .ok (.aload_n 3, 1) := by decide +kernel
theorem dX8_unseenSymbols_30 : decode cX8_unseenSymbols 30 = .ok (.getfield 188, 3) := by decide +kernel
theorem dX8_unseenSymbols_33 : decode cX8_unseenSymbols 33 = .ok (.aload 4, 2) := by decide +kernel
theorem dX8_unseenSymbols_35 : decode cX8_unseenSymbols 35 = .ok (.iload 6, 2) := by decide +kernel
theorem dX8_unseenSymbols_37 : decode cX8_unseenSymbols 37 = .ok (.iconst 2, 1) := by decide +kernel
theorem dX8_unseenSymbols_38 : decode cX8_unseenSymbols 38 = .ok (.isub, 1) := by decide +kernel
theorem dX8_unseenSymbols_39 : decode cX8_unseenSymbols 39 = .ok (.invokevirtual 177, 3) := by decide +kernel
theorem dX8_unseenSymbols_42 : decode cX8_unseenSymbols 42 = .ok (.aload 4, 2) := by decide +kernel
theorem dX8_unseenSymbols_44 : decode cX8_unseenSymbols 44 = .ok (.iload 6, 2) := by decide +kernel
theorem dX8_unseenSymbols_46 : decode cX8_unseenSymbols 46 = .ok (.iconst 1, 1) := by decide +kernel
theorem dX8_unseenSymbols_47 : decode cX8_unseenSymbols 47 = .ok (.isub, 1) := by decide +kernel
theorem dX8_unseenSymbols_48 : decode cX8_unseenSymbols 48 = .ok (.invokevirtual 177, 3) := by decide +kernel
theorem dX8_unseenSymbols_51 : decode cX8_unseenSymbols 51 = .ok (.aload 4, 2) := by decide +kernel
theorem dX8_unseenSymbols_53 : decode cX8_unseenSymbols 53 = .ok (.iload 6, 2) := by decide +kernel
theorem dX8_unseenSymbols_55 : decode cX8_unseenSymbols 55 = .ok (.invokevirtual 177, 3) := by decide +kernel
theorem dX8_unseenSymbols_58 : decode cX8_unseenSymbols 58 = .ok (.invokestatic 233, 3) := by decide +kernel
theorem dX8_unseenSymbols_61 : decode cX8_unseenSymbols 61 = .ok (.iconst (-1), 1) := by decide +kernel
theorem dX8_unseenSymbols_62 : decode cX8_unseenSymbols 62 = .ok (.if_icmp .ne 6, 3) := by decide +kernel
theorem dX8_unseenSymbols_65 : decode cX8_unseenSymbols 65 = .ok (.iinc 5 1, 3) := by decide +kernel
theorem dX8_unseenSymbols_68 : decode cX8_unseenSymbols 68 = .ok (.iinc 6 1, 3) := by decide +kernel
theorem dX8_unseenSymbols_71 : decode cX8_unseenSymbols 71 = .ok (.goto (-52), 3) := by decide +kernel
theorem dX8_unseenSymbols_74 : decode cX8_unseenSymbols 74 = .ok (.iload 5, 2) := by decide +kernel
theorem dX8_unseenSymbols_76 : decode cX8_unseenSymbols 76 = .ok (.ireturn, 1) := by decide +kernel
theorem dX8_hardestPosition_0 : decode cX8_hardestPosition 0 = .ok (.aload_n 0, 1) := by decide +kernel
theorem dX8_hardestPosition_1 : decode cX8_hardestPosition 1 = .ok (.iload_n 1, 1) := by decide +kernel
theorem dX8_hardestPosition_2 : decode cX8_hardestPosition 2 = .ok (.invokevirtual 149, 3) := by decide +kernel
theorem dX8_hardestPosition_5 : decode cX8_hardestPosition 5 = .ok (.astore_n 3, 1) := by decide +kernel
theorem dX8_hardestPosition_6 : decode cX8_hardestPosition 6 = .ok (.aload_n 0, 1) := by decide +kernel
theorem dX8_hardestPosition_7 : decode cX8_hardestPosition 7 = .ok (.iload_n 2, 1) := by decide +kernel
theorem dX8_hardestPosition_8 : decode cX8_hardestPosition 8 = .ok (.invokevirtual 170, 3) := by decide +kernel
theorem dX8_hardestPosition_11 : decode cX8_hardestPosition 11 = .ok (.astore 4, 2) := by decide +kernel
theorem dX8_hardestPosition_13 : decode cX8_hardestPosition 13 = .ok (.iconst 0, 1) := by decide +kernel
theorem dX8_hardestPosition_14 : decode cX8_hardestPosition 14 = .ok (.istore 5, 2) := by decide +kernel
theorem dX8_hardestPosition_16 : decode cX8_hardestPosition 16 = .ok (.iconst 0, 1) := by decide +kernel
theorem dX8_hardestPosition_17 : decode cX8_hardestPosition 17 = .ok (.istore 6, 2) := by decide +kernel
theorem dX8_hardestPosition_19 : decode cX8_hardestPosition 19 = .ok (.iconst 0, 1) := by decide +kernel
theorem dX8_hardestPosition_20 : decode cX8_hardestPosition 20 = .ok (.istore 7, 2) := by decide +kernel
theorem dX8_hardestPosition_22 : decode cX8_hardestPosition 22 = .ok (.iload 7, 2) := by decide +kernel
theorem dX8_hardestPosition_24 : decode cX8_hardestPosition 24 = .ok (.aload 4, 2) := by decide +kernel
theorem dX8_hardestPosition_26 : decode cX8_hardestPosition 26 = .ok (.getfield 174, 3) := by decide +kernel
theorem dX8_hardestPosition_29 : decode cX8_hardestPosition 29 = .ok (.if_icmp .ge 38, 3) := by decide +kernel
theorem dX8_hardestPosition_32 : decode cX8_hardestPosition 32 = .ok (.aload_n 0, 1) := by decide +kernel
theorem dX8_hardestPosition_33 : decode cX8_hardestPosition 33 = .ok (.aload_n 3, 1) := by decide +kernel
theorem dX8_hardestPosition_34 : decode cX8_hardestPosition 34 = .ok (.getfield 188, 3) := by decide +kernel
theorem dX8_hardestPosition_37 : decode cX8_hardestPosition 37 = .ok (.aload 4, 2) := by decide +kernel
theorem dX8_hardestPosition_39 : decode cX8_hardestPosition 39 = .ok (.iload 7, 2) := by decide +kernel
theorem dX8_hardestPosition_41 : decode cX8_hardestPosition 41 = .ok (.invokevirtual 253, 3) := by decide +kernel
theorem dX8_hardestPosition_44 : decode cX8_hardestPosition 44 = .ok (.istore 8, 2) := by decide +kernel
theorem dX8_hardestPosition_46 : decode cX8_hardestPosition 46 = .ok (.iload 8, 2) := by decide +kernel
theorem dX8_hardestPosition_48 : decode cX8_hardestPosition 48 = .ok (.iload 6, 2) := by decide +kernel
theorem dX8_hardestPosition_50 : decode cX8_hardestPosition 50 = .ok (.if_icmp .le 11, 3) := by decide +kernel
theorem dX8_hardestPosition_53 : decode cX8_hardestPosition 53 = .ok (.iload 8, 2) := by decide +kernel
theorem dX8_hardestPosition_55 : decode cX8_hardestPosition 55 = .ok (.istore 6, 2) := by decide +kernel
theorem dX8_hardestPosition_57 : decode cX8_hardestPosition 57 = .ok (.iload 7, 2) := by decide +kernel
theorem dX8_hardestPosition_59 : decode cX8_hardestPosition 59 = .ok (.istore 5, 2) := by decide +kernel
theorem dX8_hardestPosition_61 : decode cX8_hardestPosition 61 = .ok (.iinc 7 1, 3) := by decide +kernel
theorem dX8_hardestPosition_64 : decode cX8_hardestPosition 64 = .ok (.goto (-42), 3) := by decide +kernel
theorem dX8_hardestPosition_67 : decode cX8_hardestPosition 67 = .ok (.iload 5, 2) := by decide +kernel
theorem dX8_hardestPosition_69 : decode cX8_hardestPosition 69 = .ok (.ireturn, 1) := by decide +kernel
theorem dX8_totalBits_0 : decode cX8_totalBits 0 = .ok (.aload_n 0, 1) := by decide +kernel
theorem dX8_totalBits_1 : decode cX8_totalBits 1 = .ok (.iload_n 1, 1) := by decide +kernel
theorem dX8_totalBits_2 : decode cX8_totalBits 2 = .ok (.invokevirtual 149, 3) := by decide +kernel
theorem dX8_totalBits_5 : decode cX8_totalBits 5 = .ok (.astore_n 3, 1) := by decide +kernel
theorem dX8_totalBits_6 : decode cX8_totalBits 6 = .ok (.aload_n 0, 1) := by decide +kernel
theorem dX8_totalBits_7 : decode cX8_totalBits 7 = .ok (.iload_n 2, 1) := by decide +kernel
theorem dX8_totalBits_8 : decode cX8_totalBits 8 = .ok (.invokevirtual 170, 3) := by decide +kernel
theorem dX8_totalBits_11 : decode cX8_totalBits 11 = .ok (.astore 4, 2) := by decide +kernel
theorem dX8_totalBits_13 : decode cX8_totalBits 13 = .ok (.iconst 0, 1) := by decide +kernel
theorem dX8_totalBits_14 : decode cX8_totalBits 14 = .ok (.istore 5, 2) := by decide +kernel
theorem dX8_totalBits_16 : decode cX8_totalBits 16 = .ok (.iconst 0, 1) := by decide +kernel
theorem dX8_totalBits_17 : decode cX8_totalBits 17 = .ok (.istore 6, 2) := by decide +kernel
theorem dX8_totalBits_19 : decode cX8_totalBits 19 = .ok (.iload 6, 2) := by decide +kernel
theorem dX8_totalBits_21 : decode cX8_totalBits 21 = .ok (.aload 4, 2) := by decide +kernel
theorem dX8_totalBits_23 : decode cX8_totalBits 23 = .ok (.getfield 174, 3) := by decide +kernel
theorem dX8_totalBits_26 : decode cX8_totalBits 26 = .ok (.if_icmp .ge 54, 3) := by decide +kernel
theorem dX8_totalBits_29 : decode cX8_totalBits 29 = .ok (.aload_n 0, 1) := by decide +kernel
theorem dX8_totalBits_30 : decode cX8_totalBits 30 = .ok (.getfield 74, 3) := by decide +kernel
theorem dX8_totalBits_33 : decode cX8_totalBits 33 = .ok (.aload_n 3, 1) := by decide +kernel
theorem dX8_totalBits_34 : decode cX8_totalBits 34 = .ok (.aload 4, 2) := by decide +kernel
theorem dX8_totalBits_36 : decode cX8_totalBits 36 = .ok (.iload 6, 2) := by decide +kernel
theorem dX8_totalBits_38 : decode cX8_totalBits 38 = .ok (.iconst 2, 1) := by decide +kernel
theorem dX8_totalBits_39 : decode cX8_totalBits 39 = .ok (.isub, 1) := by decide +kernel
theorem dX8_totalBits_40 : decode cX8_totalBits 40 = .ok (.invokevirtual 177, 3) := by decide +kernel
theorem dX8_totalBits_43 : decode cX8_totalBits 43 = .ok (.aload 4, 2) := by decide +kernel
theorem dX8_totalBits_45 : decode cX8_totalBits 45 = .ok (.iload 6, 2) := by decide +kernel
theorem dX8_totalBits_47 : decode cX8_totalBits 47 = .ok (.iconst 1, 1) := by decide +kernel
theorem dX8_totalBits_48 : decode cX8_totalBits 48 = .ok (.isub, 1) := by decide +kernel
theorem dX8_totalBits_49 : decode cX8_totalBits 49 = .ok (.invokevirtual 177, 3) := by decide +kernel
theorem dX8_totalBits_52 : decode cX8_totalBits 52 = .ok (.aload 4, 2) := by decide +kernel
theorem dX8_totalBits_54 : decode cX8_totalBits 54 = .ok (.iload 6, 2) := by decide +kernel
theorem dX8_totalBits_56 : decode cX8_totalBits 56 = .ok (.invokevirtual 177, 3) := by decide +kernel
theorem dX8_totalBits_59 : decode cX8_totalBits 59 = .ok (.invokevirtual 270, 3) := by decide +kernel
theorem dX8_totalBits_62 : decode cX8_totalBits 62 = .ok (.iload 5, 2) := by decide +kernel
theorem dX8_totalBits_64 : decode cX8_totalBits 64 = .ok (.aload_n 0, 1) := by decide +kernel
theorem dX8_totalBits_65 : decode cX8_totalBits 65 = .ok (.getfield 74, 3) := by decide +kernel
theorem dX8_totalBits_68 : decode cX8_totalBits 68 = .ok (.invokevirtual 250, 3) := by decide +kernel
theorem dX8_totalBits_71 : decode cX8_totalBits 71 = .ok (.iadd, 1) := by decide +kernel
theorem dX8_totalBits_72 : decode cX8_totalBits 72 = .ok (.istore 5, 2) := by decide +kernel
theorem dX8_totalBits_74 : decode cX8_totalBits 74 = .ok (.iinc 6 1, 3) := by decide +kernel
theorem dX8_totalBits_77 : decode cX8_totalBits 77 = .ok (.goto (-58), 3) := by decide +kernel
theorem dX8_totalBits_80 : decode cX8_totalBits 80 = .ok (.iload 5, 2) := by decide +kernel
theorem dX8_totalBits_82 : decode cX8_totalBits 82 = .ok (.ireturn, 1) := by decide +kernel
theorem dX8_meanGuesses_0 : decode cX8_meanGuesses 0 = .ok (.aload_n 0, 1) := by decide +kernel
theorem dX8_meanGuesses_1 : decode cX8_meanGuesses 1 = .ok (.iload_n 1, 1) := by decide +kernel
theorem dX8_meanGuesses_2 : decode cX8_meanGuesses 2 = .ok (.invokevirtual 149, 3) := by decide +kernel
theorem dX8_meanGuesses_5 : decode cX8_meanGuesses 5 = .ok (.astore_n 3, 1) := by decide +kernel
theorem dX8_meanGuesses_6 : decode cX8_meanGuesses 6 = .ok (.aload_n 0, 1) := by decide +kernel
theorem dX8_meanGuesses_7 : decode cX8_meanGuesses 7 = .ok (.iload_n 2, 1) := by decide +kernel
theorem dX8_meanGuesses_8 : decode cX8_meanGuesses 8 = .ok (.invokevirtual 170, 3) := by decide +kernel
theorem dX8_meanGuesses_11 : decode cX8_meanGuesses 11 = .ok (.astore 4, 2) := by decide +kernel
theorem dX8_meanGuesses_13 : decode cX8_meanGuesses 13 = .ok (.aload_n 0, 1) := by decide +kernel
theorem dX8_meanGuesses_14 : decode cX8_meanGuesses 14 = .ok (.aload_n 3, 1) := by decide +kernel
theorem dX8_meanGuesses_15 : decode cX8_meanGuesses 15 = .ok (.getfield 188, 3) := by decide +kernel
theorem dX8_meanGuesses_18 : decode cX8_meanGuesses 18 = .ok (.aload 4, 2) := by decide +kernel
theorem dX8_meanGuesses_20 : decode cX8_meanGuesses 20 = .ok (.invokevirtual 257, 3) := by decide +kernel
theorem dX8_meanGuesses_23 : decode cX8_meanGuesses 23 = .ok (.istore 5, 2) := by decide +kernel
theorem dX8_meanGuesses_25 : decode cX8_meanGuesses 25 = .ok (.aload 4, 2) := by decide +kernel
theorem dX8_meanGuesses_27 : decode cX8_meanGuesses 27 = .ok (.getfield 174, 3) := by decide +kernel
theorem dX8_meanGuesses_30 : decode cX8_meanGuesses 30 = .ok (.ifCond .le 16, 3) := by decide +kernel
theorem dX8_meanGuesses_33 : decode cX8_meanGuesses 33 = .ok (.iload 5, 2) := by decide +kernel
theorem dX8_meanGuesses_35 : decode cX8_meanGuesses 35 = .ok (.i2d, 1) := by decide +kernel
theorem dX8_meanGuesses_36 : decode cX8_meanGuesses 36 = .ok (.aload 4, 2) := by decide +kernel
theorem dX8_meanGuesses_38 : decode cX8_meanGuesses 38 = .ok (.getfield 174, 3) := by decide +kernel
theorem dX8_meanGuesses_41 : decode cX8_meanGuesses 41 = .ok (.i2d, 1) := by decide +kernel
theorem dX8_meanGuesses_42 : decode cX8_meanGuesses 42 = .ok (.ddiv, 1) := by decide +kernel
theorem dX8_meanGuesses_43 : decode cX8_meanGuesses 43 = .ok (.goto 4, 3) := by decide +kernel
theorem dX8_meanGuesses_46 : decode cX8_meanGuesses 46 = .ok (.dconst 0, 1) := by decide +kernel
theorem dX8_meanGuesses_47 : decode cX8_meanGuesses 47 = .ok (.dreturn, 1) := by decide +kernel
theorem dX8_hitShare_0 : decode cX8_hitShare 0 = .ok (.aload_n 0, 1) := by decide +kernel
theorem dX8_hitShare_1 : decode cX8_hitShare 1 = .ok (.iload_n 1, 1) := by decide +kernel
theorem dX8_hitShare_2 : decode cX8_hitShare 2 = .ok (.invokevirtual 149, 3) := by decide +kernel
theorem dX8_hitShare_5 : decode cX8_hitShare 5 = .ok (.astore_n 3, 1) := by decide +kernel
theorem dX8_hitShare_6 : decode cX8_hitShare 6 = .ok (.aload_n 0, 1) := by decide +kernel
theorem dX8_hitShare_7 : decode cX8_hitShare 7 = .ok (.iload_n 2, 1) := by decide +kernel
theorem dX8_hitShare_8 : decode cX8_hitShare 8 = .ok (.invokevirtual 170, 3) := by decide +kernel
theorem dX8_hitShare_11 : decode cX8_hitShare 11 = .ok (.astore 4, 2) := by decide +kernel
theorem dX8_hitShare_13 : decode cX8_hitShare 13 = .ok (.aload_n 0, 1) := by decide +kernel
theorem dX8_hitShare_14 : decode cX8_hitShare 14 = .ok (.aload_n 3, 1) := by decide +kernel
theorem dX8_hitShare_15 : decode cX8_hitShare 15 = .ok (.getfield 188, 3) := by decide +kernel
theorem dX8_hitShare_18 : decode cX8_hitShare 18 = .ok (.aload 4, 2) := by decide +kernel
theorem dX8_hitShare_20 : decode cX8_hitShare 20 = .ok (.invokevirtual 267, 3) := by decide +kernel
theorem dX8_hitShare_23 : decode cX8_hitShare 23 = .ok (.istore 5, 2) := by decide +kernel
theorem dX8_hitShare_25 : decode cX8_hitShare 25 = .ok (.aload 4, 2) := by decide +kernel
theorem dX8_hitShare_27 : decode cX8_hitShare 27 = .ok (.getfield 174, 3) := by decide +kernel
theorem dX8_hitShare_30 : decode cX8_hitShare 30 = .ok (.ifCond .le 16, 3) := by decide +kernel
theorem dX8_hitShare_33 : decode cX8_hitShare 33 = .ok (.iload 5, 2) := by decide +kernel
theorem dX8_hitShare_35 : decode cX8_hitShare 35 = .ok (.i2f, 1) := by decide +kernel
theorem dX8_hitShare_36 : decode cX8_hitShare 36 = .ok (.aload 4, 2) := by decide +kernel
theorem dX8_hitShare_38 : decode cX8_hitShare 38 = .ok (.getfield 174, 3) := by decide +kernel
theorem dX8_hitShare_41 : decode cX8_hitShare 41 = .ok (.i2f, 1) := by decide +kernel
theorem dX8_hitShare_42 : decode cX8_hitShare 42 = .ok (.fdiv, 1) := by decide +kernel
theorem dX8_hitShare_43 : decode cX8_hitShare 43 = .ok (.goto 4, 3) := by decide +kernel
theorem dX8_hitShare_46 : decode cX8_hitShare 46 = .ok (.fconst 0, 1) := by decide +kernel
theorem dX8_hitShare_47 : decode cX8_hitShare 47 = .ok (.freturn, 1) := by decide +kernel
theorem dX8_bestReader_0 : decode cX8_bestReader 0 = .ok (.aload_n 0, 1) := by decide +kernel
theorem dX8_bestReader_1 : decode cX8_bestReader 1 = .ok (.iload_n 1, 1) := by decide +kernel
theorem dX8_bestReader_2 : decode cX8_bestReader 2 = .ok (.invokevirtual 170, 3) := by decide +kernel
theorem dX8_bestReader_5 : decode cX8_bestReader 5 = .ok (.astore_n 2, 1) := by decide +kernel
theorem dX8_bestReader_6 : decode cX8_bestReader 6 = .ok (.iconst (-1), 1) := by decide +kernel
theorem dX8_bestReader_7 : decode cX8_bestReader 7 = .ok (.istore_n 3, 1) := by decide +kernel
theorem dX8_bestReader_8 : decode cX8_bestReader 8 = .ok (.sipush 1081, 3) := by decide +kernel
theorem dX8_bestReader_11 : decode cX8_bestReader 11 = .ok (.istore 4, 2) := by decide +kernel
theorem dX8_bestReader_13 : decode cX8_bestReader 13 = .ok (.iconst 0, 1) := by decide +kernel
theorem dX8_bestReader_14 : decode cX8_bestReader 14 = .ok (.istore 5, 2) := by decide +kernel
theorem dX8_bestReader_16 : decode cX8_bestReader 16 = .ok (.iload 5, 2) := by decide +kernel
theorem dX8_bestReader_18 : decode cX8_bestReader 18 = .ok (.aload_n 0, 1) := by decide +kernel
theorem dX8_bestReader_19 : decode cX8_bestReader 19 = .ok (.getfield 13, 3) := by decide +kernel
theorem dX8_bestReader_22 : decode cX8_bestReader 22 = .ok (.getfield 143, 3) := by decide +kernel
theorem dX8_bestReader_25 : decode cX8_bestReader 25 = .ok (.if_icmp .ge 39, 3) := by decide +kernel
theorem dX8_bestReader_28 : decode cX8_bestReader 28 = .ok (.aload_n 0, 1) := by decide +kernel
theorem dX8_bestReader_29 : decode cX8_bestReader 29 = .ok (.aload_n 0, 1) := by decide +kernel
theorem dX8_bestReader_30 : decode cX8_bestReader 30 = .ok (.iload 5, 2) := by decide +kernel
theorem dX8_bestReader_32 : decode cX8_bestReader 32 = .ok (.invokevirtual 149, 3) := by decide +kernel
theorem dX8_bestReader_35 : decode cX8_bestReader 35 = .ok (.getfield 188, 3) := by decide +kernel
theorem dX8_bestReader_38 : decode cX8_bestReader 38 = .ok (.aload_n 2, 1) := by decide +kernel
theorem dX8_bestReader_39 : decode cX8_bestReader 39 = .ok (.invokevirtual 257, 3) := by decide +kernel
theorem dX8_bestReader_42 : decode cX8_bestReader 42 = .ok (.istore 6, 2) := by decide +kernel
theorem dX8_bestReader_44 : decode cX8_bestReader 44 = .ok (.iload 6, 2) := by decide +kernel
theorem dX8_bestReader_46 : decode cX8_bestReader 46 = .ok (.iload 4, 2) := by decide +kernel
theorem dX8_bestReader_48 : decode cX8_bestReader 48 = .ok (.if_icmp .ge 10, 3) := by decide +kernel
theorem dX8_bestReader_51 : decode cX8_bestReader 51 = .ok (.iload 6, 2) := by decide +kernel
theorem dX8_bestReader_53 : decode cX8_bestReader 53 = .ok (.istore 4, 2) := by decide +kernel
theorem dX8_bestReader_55 : decode cX8_bestReader 55 = .ok (.iload 5, 2) := by decide +kernel
theorem dX8_bestReader_57 : decode cX8_bestReader 57 = .ok (.istore_n 3, 1) := by decide +kernel
theorem dX8_bestReader_58 : decode cX8_bestReader 58 = .ok (.iinc 5 1, 3) := by decide +kernel
theorem dX8_bestReader_61 : decode cX8_bestReader 61 = .ok (.goto (-45), 3) := by decide +kernel
theorem dX8_bestReader_64 : decode cX8_bestReader 64 = .ok (.iload_n 3, 1) := by decide +kernel
theorem dX8_bestReader_65 : decode cX8_bestReader 65 = .ok (.ireturn, 1) := by decide +kernel
theorem dX8_hardestDocument_0 : decode cX8_hardestDocument 0 = .ok (.aload_n 0, 1) := by decide +kernel
theorem dX8_hardestDocument_1 : decode cX8_hardestDocument 1 = .ok (.iload_n 1, 1) := by decide +kernel
theorem dX8_hardestDocument_2 : decode cX8_hardestDocument 2 = .ok (.invokevirtual 149, 3) := by decide +kernel
theorem dX8_hardestDocument_5 : decode cX8_hardestDocument 5 = .ok (.astore_n 2, 1) := by decide +kernel
theorem dX8_hardestDocument_6 : decode cX8_hardestDocument 6 = .ok (.iconst (-1), 1) := by decide +kernel
theorem dX8_hardestDocument_7 : decode cX8_hardestDocument 7 = .ok (.istore_n 3, 1) := by decide +kernel
theorem dX8_hardestDocument_8 : decode cX8_hardestDocument 8 = .ok (.iconst 0, 1) := by decide +kernel
theorem dX8_hardestDocument_9 : decode cX8_hardestDocument 9 = .ok (.istore 4, 2) := by decide +kernel
theorem dX8_hardestDocument_11 : decode cX8_hardestDocument 11 = .ok (.iconst 0, 1) := by decide +kernel
theorem dX8_hardestDocument_12 : decode cX8_hardestDocument 12 = .ok (.istore 5, 2) := by decide +kernel
theorem dX8_hardestDocument_14 : decode cX8_hardestDocument 14 = .ok (.iload 5, 2) := by decide +kernel
theorem dX8_hardestDocument_16 : decode cX8_hardestDocument 16 = .ok (.aload_n 0, 1) := by decide +kernel
theorem dX8_hardestDocument_17 : decode cX8_hardestDocument 17 = .ok (.getfield 13, 3) := by decide +kernel
theorem dX8_hardestDocument_20 : decode cX8_hardestDocument 20 = .ok (.getfield 167, 3) := by decide +kernel
theorem dX8_hardestDocument_23 : decode cX8_hardestDocument 23 = .ok (.if_icmp .ge 39, 3) := by decide +kernel
theorem dX8_hardestDocument_26 : decode cX8_hardestDocument 26 = .ok (.aload_n 0, 1) := by decide +kernel
theorem dX8_hardestDocument_27 : decode cX8_hardestDocument 27 = .ok (.aload_n 2, 1) := by decide +kernel
theorem dX8_hardestDocument_28 : decode cX8_hardestDocument 28 = .ok (.getfield 188, 3) := by decide +kernel
theorem dX8_hardestDocument_31 : decode cX8_hardestDocument 31 = .ok (.aload_n 0, 1) := by decide +kernel
theorem dX8_hardestDocument_32 : decode cX8_hardestDocument 32 = .ok (.iload 5, 2) := by decide +kernel
theorem dX8_hardestDocument_34 : decode cX8_hardestDocument 34 = .ok (.invokevirtual 170, 3) := by decide +kernel
theorem dX8_hardestDocument_37 : decode cX8_hardestDocument 37 = .ok (.invokevirtual 257, 3) := by decide +kernel
theorem dX8_hardestDocument_40 : decode cX8_hardestDocument 40 = .ok (.istore 6, 2) := by decide +kernel
theorem dX8_hardestDocument_42 : decode cX8_hardestDocument 42 = .ok (.iload 6, 2) := by decide +kernel
theorem dX8_hardestDocument_44 : decode cX8_hardestDocument 44 = .ok (.iload 4, 2) := by decide +kernel
theorem dX8_hardestDocument_46 : decode cX8_hardestDocument 46 = .ok (.if_icmp .le 10, 3) := by decide +kernel
theorem dX8_hardestDocument_49 : decode cX8_hardestDocument 49 = .ok (.iload 6, 2) := by decide +kernel
theorem dX8_hardestDocument_51 : decode cX8_hardestDocument 51 = .ok (.istore 4, 2) := by decide +kernel
theorem dX8_hardestDocument_53 : decode cX8_hardestDocument 53 = .ok (.iload 5, 2) := by decide +kernel
theorem dX8_hardestDocument_55 : decode cX8_hardestDocument 55 = .ok (.istore_n 3, 1) := by decide +kernel
theorem dX8_hardestDocument_56 : decode cX8_hardestDocument 56 = .ok (.iinc 5 1, 3) := by decide +kernel
theorem dX8_hardestDocument_59 : decode cX8_hardestDocument 59 = .ok (.goto (-45), 3) := by decide +kernel
theorem dX8_hardestDocument_62 : decode cX8_hardestDocument 62 = .ok (.iload_n 3, 1) := by decide +kernel
theorem dX8_hardestDocument_63 : decode cX8_hardestDocument 63 = .ok (.ireturn, 1) := by decide +kernel
theorem dX8_guessesAfterTraining_0 : decode cX8_guessesAfterTraining 0 = .ok (.aload_n 0, 1) := by decide +kernel
theorem dX8_guessesAfterTraining_1 : decode cX8_guessesAfterTraining 1 = .ok (.iload_n 1, 1) := by decide +kernel
theorem dX8_guessesAfterTraining_2 : decode cX8_guessesAfterTraining 2 = .ok (.invokevirtual 149, 3) := by decide +kernel
theorem dX8_guessesAfterTraining_5 : decode cX8_guessesAfterTraining 5 = .ok (.astore 4, 2) := by decide +kernel
theorem dX8_guessesAfterTraining_7 : decode cX8_guessesAfterTraining 7 = .ok (.aload_n 0, 1) := by decide +kernel
theorem dX8_guessesAfterTraining_8 : decode cX8_guessesAfterTraining 8 = .ok (.iload_n 2, 1) := by decide +kernel
theorem dX8_guessesAfterTraining_9 : decode cX8_guessesAfterTraining 9 = .ok (.invokevirtual 170, 3) := by decide +kernel
theorem dX8_guessesAfterTraining_12 : decode cX8_guessesAfterTraining 12 = .ok (.astore 5, 2) := by decide +kernel
theorem dX8_guessesAfterTraining_14 : decode cX8_guessesAfterTraining 14 = .ok (.aload_n 0, 1) := by decide +kernel
theorem dX8_guessesAfterTraining_15 : decode cX8_guessesAfterTraining 15 = .ok (.iload_n 3, 1) := by decide +kernel
theorem dX8_guessesAfterTraining_16 : decode cX8_guessesAfterTraining 16 = .ok (.invokevirtual 170, 3) := by decide +kernel
theorem dX8_guessesAfterTraining_19 : decode cX8_guessesAfterTraining 19 = .ok (.astore 6, 2) := by decide +kernel
theorem dX8_guessesAfterTraining_21 : decode cX8_guessesAfterTraining 21 = .ok (.aload_n 0, 1) := by decide +kernel
theorem dX8_guessesAfterTraining_22 : decode cX8_guessesAfterTraining 22 = .ok (.getfield 60, 3) := by decide +kernel
theorem dX8_guessesAfterTraining_25 : decode cX8_guessesAfterTraining 25 = .ok (.aload 4, 2) := by decide +kernel
theorem dX8_guessesAfterTraining_27 : decode cX8_guessesAfterTraining 27 = .ok (.getfield 188, 3) := by decide +kernel
theorem dX8_guessesAfterTraining_30 : decode cX8_guessesAfterTraining 30 = .ok (.invokevirtual 261, 3) := by decide +kernel
theorem dX8_guessesAfterTraining_33 : decode cX8_guessesAfterTraining 33 = .ok (.aload_n 0, 1) := by decide +kernel
theorem dX8_guessesAfterTraining_34 : decode cX8_guessesAfterTraining 34 = .ok (.getfield 60, 3) := by decide +kernel
theorem dX8_guessesAfterTraining_37 : decode cX8_guessesAfterTraining 37 = .ok (.aload 5, 2) := by decide +kernel
theorem dX8_guessesAfterTraining_39 : decode cX8_guessesAfterTraining 39 = .ok (.invokevirtual 274, 3) := by decide +kernel
theorem dX8_guessesAfterTraining_42 : decode cX8_guessesAfterTraining 42 = .ok (.aload_n 0, 1) := by decide +kernel
theorem dX8_guessesAfterTraining_43 : decode cX8_guessesAfterTraining 43 = .ok (.aload_n 0, 1) := by decide +kernel
theorem dX8_guessesAfterTraining_44 : decode cX8_guessesAfterTraining 44 = .ok (.getfield 60, 3) := by decide +kernel
theorem dX8_guessesAfterTraining_47 : decode cX8_guessesAfterTraining 47 = .ok (.aload 6, 2) := by decide +kernel
theorem dX8_guessesAfterTraining_49 : decode cX8_guessesAfterTraining 49 = .ok (.invokevirtual 257, 3) := by decide +kernel
theorem dX8_guessesAfterTraining_52 : decode cX8_guessesAfterTraining 52 = .ok (.ireturn, 1) := by decide +kernel
theorem dX8_trainingsNeeded_0 : decode cX8_trainingsNeeded 0 = .ok (.aload_n 0, 1) := by decide +kernel
theorem dX8_trainingsNeeded_1 : decode cX8_trainingsNeeded 1 = .ok (.iload_n 1, 1) := by decide +kernel
theorem dX8_trainingsNeeded_2 : decode cX8_trainingsNeeded 2 = .ok (.invokevirtual 149, 3) := by decide +kernel
theorem dX8_trainingsNeeded_5 : decode cX8_trainingsNeeded 5 = .ok (.astore 4, 2) := by decide +kernel
theorem dX8_trainingsNeeded_7 : decode cX8_trainingsNeeded 7 = .ok (.aload_n 0, 1) := by decide +kernel
theorem dX8_trainingsNeeded_8 : decode cX8_trainingsNeeded 8 = .ok (.iload_n 2, 1) := by decide +kernel
theorem dX8_trainingsNeeded_9 : decode cX8_trainingsNeeded 9 = .ok (.invokevirtual 170, 3) := by decide +kernel
theorem dX8_trainingsNeeded_12 : decode cX8_trainingsNeeded 12 = .ok (.astore 5, 2) := by decide +kernel
theorem dX8_trainingsNeeded_14 : decode cX8_trainingsNeeded 14 = .ok (.iload_n 3, 1) := by decide +kernel
theorem dX8_trainingsNeeded_15 : decode cX8_trainingsNeeded 15 = .ok (.iconst 1, 1) := by decide +kernel
theorem dX8_trainingsNeeded_16 : decode cX8_trainingsNeeded 16 = .ok (.if_icmp .lt 10, 3) := by decide +kernel
theorem dX8_trainingsNeeded_19 : decode cX8_trainingsNeeded 19 = .ok (.iload_n 3, 1) := by decide +kernel
theorem dX8_trainingsNeeded_20 : decode cX8_trainingsNeeded 20 = .ok (.sipush 1080, 3) := by decide +kernel
theorem dX8_trainingsNeeded_23 : decode cX8_trainingsNeeded 23 = .ok (.if_icmp .le 14, 3) := by decide +kernel
theorem dX8_trainingsNeeded_26 : decode cX8_trainingsNeeded 26 = .ok (.new 119, 3) := by decide +kernel
theorem dX8_trainingsNeeded_29 : decode cX8_trainingsNeeded 29 = .ok (.dup, 1) := by decide +kernel
theorem dX8_trainingsNeeded_30 : decode cX8_trainingsNeeded 30 = .ok (.ldc_w 278, 3) := by decide +kernel
theorem dX8_trainingsNeeded_33 : decode cX8_trainingsNeeded 33 = .ok (.invokespecial 123, 3) := by decide +kernel
theorem dX8_trainingsNeeded_36 : decode cX8_trainingsNeeded 36 = .ok (.athrow, 1) := by decide +kernel
theorem dX8_trainingsNeeded_37 : decode cX8_trainingsNeeded 37 = .ok (.aload_n 0, 1) := by decide +kernel
theorem dX8_trainingsNeeded_38 : decode cX8_trainingsNeeded 38 = .ok (.getfield 60, 3) := by decide +kernel
theorem dX8_trainingsNeeded_41 : decode cX8_trainingsNeeded 41 = .ok (.aload 4, 2) := by decide +kernel
theorem dX8_trainingsNeeded_43 : decode cX8_trainingsNeeded 43 = .ok (.getfield 188, 3) := by decide +kernel
theorem dX8_trainingsNeeded_46 : decode cX8_trainingsNeeded 46 = .ok (.invokevirtual 261, 3) := by decide +kernel
theorem dX8_trainingsNeeded_49 : decode cX8_trainingsNeeded 49 = .ok (.iconst 0, 1) := by decide +kernel
theorem dX8_trainingsNeeded_50 : decode cX8_trainingsNeeded 50 = .ok (.istore 6, 2) := by decide +kernel
theorem dX8_trainingsNeeded_52 : decode cX8_trainingsNeeded 52 = .ok (.iload 6, 2) := by decide +kernel
theorem dX8_trainingsNeeded_54 : decode cX8_trainingsNeeded 54 = .ok (.bipush 20, 2) := by decide +kernel
theorem dX8_trainingsNeeded_56 : decode cX8_trainingsNeeded 56 = .ok (.if_icmp .gt 35, 3) := by decide +kernel
theorem dX8_trainingsNeeded_59 : decode cX8_trainingsNeeded 59 = .ok (.aload_n 0, 1) := by decide +kernel
theorem dX8_trainingsNeeded_60 : decode cX8_trainingsNeeded 60 = .ok (.aload_n 0, 1) := by decide +kernel
theorem dX8_trainingsNeeded_61 : decode cX8_trainingsNeeded 61 = .ok (.getfield 60, 3) := by decide +kernel
theorem dX8_trainingsNeeded_64 : decode cX8_trainingsNeeded 64 = .ok (.aload 5, 2) := by decide +kernel
theorem dX8_trainingsNeeded_66 : decode cX8_trainingsNeeded 66 = .ok (.invokevirtual 257, 3) := by decide +kernel
theorem dX8_trainingsNeeded_69 : decode cX8_trainingsNeeded 69 = .ok (.iload_n 3, 1) := by decide +kernel
theorem dX8_trainingsNeeded_70 : decode cX8_trainingsNeeded 70 = .ok (.if_icmp .gt 6, 3) := by decide +kernel
theorem dX8_trainingsNeeded_73 : decode cX8_trainingsNeeded 73 = .ok (.iload 6, 2) := by decide +kernel
theorem dX8_trainingsNeeded_75 : decode cX8_trainingsNeeded 75 = .ok (.ireturn, 1) := by decide +kernel
theorem dX8_trainingsNeeded_76 : decode cX8_trainingsNeeded 76 = .ok (.aload_n 0, 1) := by decide +kernel
theorem dX8_trainingsNeeded_77 : decode cX8_trainingsNeeded 77 = .ok (.getfield 60, 3) := by decide +kernel
theorem dX8_trainingsNeeded_80 : decode cX8_trainingsNeeded 80 = .ok (.aload 5, 2) := by decide +kernel
theorem dX8_trainingsNeeded_82 : decode cX8_trainingsNeeded 82 = .ok (.invokevirtual 274, 3) := by decide +kernel
theorem dX8_trainingsNeeded_85 : decode cX8_trainingsNeeded 85 = .ok (.iinc 6 1, 3) := by decide +kernel
theorem dX8_trainingsNeeded_88 : decode cX8_trainingsNeeded 88 = .ok (.goto (-36), 3) := by decide +kernel
theorem dX8_trainingsNeeded_91 : decode cX8_trainingsNeeded 91 = .ok (.iconst (-1), 1) := by decide +kernel
theorem dX8_trainingsNeeded_92 : decode cX8_trainingsNeeded 92 = .ok (.ireturn, 1) := by decide +kernel
theorem dX8_yearsToForget_0 : decode cX8_yearsToForget 0 = .ok (.iconst 0, 1) := by decide +kernel
theorem dX8_yearsToForget_1 : decode cX8_yearsToForget 1 = .ok (.istore_n 2, 1) := by decide +kernel
theorem dX8_yearsToForget_2 : decode cX8_yearsToForget 2 = .ok (.aload_n 0, 1) := by decide +kernel
theorem dX8_yearsToForget_3 : decode cX8_yearsToForget 3 = .ok (.iload_n 1, 1) := by decide +kernel
theorem dX8_yearsToForget_4 : decode cX8_yearsToForget 4 = .ok (.invokevirtual 149, 3) := by decide +kernel
theorem dX8_yearsToForget_7 : decode cX8_yearsToForget 7 = .ok (.getfield 188, 3) := by decide +kernel
theorem dX8_yearsToForget_10 : decode cX8_yearsToForget 10 = .ok (.invokevirtual 280, 3) := by decide +kernel
theorem dX8_yearsToForget_13 : decode cX8_yearsToForget 13 = .ok (.istore_n 3, 1) := by decide +kernel
theorem dX8_yearsToForget_14 : decode cX8_yearsToForget 14 = .ok (.iload_n 3, 1) := by decide +kernel
theorem dX8_yearsToForget_15 : decode cX8_yearsToForget 15 = .ok (.ifCond .le 13, 3) := by decide +kernel
theorem dX8_yearsToForget_18 : decode cX8_yearsToForget 18 = .ok (.iinc 2 1, 3) := by decide +kernel
theorem dX8_yearsToForget_21 : decode cX8_yearsToForget 21 = .ok (.iload_n 3, 1) := by decide +kernel
theorem dX8_yearsToForget_22 : decode cX8_yearsToForget 22 = .ok (.iconst 2, 1) := by decide +kernel
theorem dX8_yearsToForget_23 : decode cX8_yearsToForget 23 = .ok (.idiv, 1) := by decide +kernel
theorem dX8_yearsToForget_24 : decode cX8_yearsToForget 24 = .ok (.istore_n 3, 1) := by decide +kernel
theorem dX8_yearsToForget_25 : decode cX8_yearsToForget 25 = .ok (.goto (-11), 3) := by decide +kernel
theorem dX8_yearsToForget_28 : decode cX8_yearsToForget 28 = .ok (.iload_n 2, 1) := by decide +kernel
theorem dX8_yearsToForget_29 : decode cX8_yearsToForget 29 = .ok (.ireturn, 1) := by decide +kernel
theorem dX8_agreements_0 : decode cX8_agreements 0 = .ok (.aload_n 0, 1) := by decide +kernel
theorem dX8_agreements_1 : decode cX8_agreements 1 = .ok (.iload_n 1, 1) := by decide +kernel
theorem dX8_agreements_2 : decode cX8_agreements 2 = .ok (.invokevirtual 149, 3) := by decide +kernel
theorem dX8_agreements_5 : decode cX8_agreements 5 = .ok (.getfield 188, 3) := by decide +kernel
theorem dX8_agreements_8 : decode cX8_agreements 8 = .ok (.astore_n 3, 1) := by decide +kernel
theorem dX8_agreements_9 : decode cX8_agreements 9 = .ok (.aload_n 0, 1) := by decide +kernel
theorem dX8_agreements_10 : decode cX8_agreements 10 = .ok (.iload_n 2, 1) := by decide +kernel
theorem dX8_agreements_11 : decode cX8_agreements 11 = .ok (.invokevirtual 149, 3) := by decide +kernel
theorem dX8_agreements_14 : decode cX8_agreements 14 = .ok (.getfield 188, 3) := by decide +kernel
theorem dX8_agreements_17 : decode cX8_agreements 17 = .ok (.astore 4, 2) := by decide +kernel
theorem dX8_agreements_19 : decode cX8_agreements 19 = .ok (.iload_n 1, 1) := by decide +kernel
theorem dX8_agreements_20 : decode cX8_agreements 20 = .ok (.iload_n 2, 1) := by decide +kernel
theorem dX8_agreements_21 : decode cX8_agreements 21 = .ok (.if_icmp .ne 14, 3) := by decide +kernel
theorem dX8_agreements_24 : decode cX8_agreements 24 = .ok (.new 119, 3) := by decide +kernel
theorem dX8_agreements_27 : decode cX8_agreements 27 = .ok (.dup, 1) := by decide +kernel
theorem dX8_agreements_28 : decode cX8_agreements 28 = .ok (.ldc_w 283, 3) := by decide +kernel
theorem dX8_agreements_31 : decode cX8_agreements 31 = .ok (.invokespecial 123, 3) := by decide +kernel
theorem dX8_agreements_34 : decode cX8_agreements 34 = .ok (.athrow, 1) := by decide +kernel
theorem dX8_agreements_35 : decode cX8_agreements 35 = .ok (.iconst 0, 1) := by decide +kernel
theorem dX8_agreements_36 : decode cX8_agreements 36 = .ok (.istore 5, 2) := by decide +kernel
theorem dX8_agreements_38 : decode cX8_agreements 38 = .ok (.iconst 0, 1) := by decide +kernel
theorem dX8_agreements_39 : decode cX8_agreements 39 = .ok (.istore 6, 2) := by decide +kernel
theorem dX8_agreements_41 : decode cX8_agreements 41 = .ok (.iload 6, 2) := by decide +kernel
theorem dX8_agreements_43 : decode cX8_agreements 43 = .ok (.sipush 729, 3) := by decide +kernel
theorem dX8_agreements_46 : decode cX8_agreements 46 = .ok (.if_icmp .ge 54, 3) := by decide +kernel
theorem dX8_agreements_49 : decode cX8_agreements 49 = .ok (.sipush 756, 3) := by decide +kernel
theorem dX8_agreements_52 : decode cX8_agreements 52 = .ok (.iload 6, 2) := by decide +kernel
theorem dX8_agreements_54 : decode cX8_agreements 54 = .ok (.bipush 27, 2) := by decide +kernel
theorem dX8_agreements_56 : decode cX8_agreements 56 = .ok (.imul, 1) := by decide +kernel
theorem dX8_agreements_57 : decode cX8_agreements 57 = .ok (.iadd, 1) := by decide +kernel
theorem dX8_agreements_58 : decode cX8_agreements 58 = .ok (.istore 7, 2) := by decide +kernel
theorem dX8_agreements_60 : decode cX8_agreements 60 = .ok (.aload_n 3, 1) := by decide +kernel
theorem dX8_agreements_61 : decode cX8_agreements 61 = .ok (.iload 7, 2) := by decide +kernel
theorem dX8_agreements_63 : decode cX8_agreements 63 = .ok (.invokevirtual 209, 3) := by decide +kernel
theorem dX8_agreements_66 : decode cX8_agreements 66 = .ok (.ifCond .gt 13, 3) := by decide +kernel
theorem dX8_agreements_69 : decode cX8_agreements 69 = .ok (.aload 4, 2) := by decide +kernel
theorem dX8_agreements_71 : decode cX8_agreements 71 = .ok (.iload 7, 2) := by decide +kernel
theorem dX8_agreements_73 : decode cX8_agreements 73 = .ok (.invokevirtual 209, 3) := by decide +kernel
theorem dX8_agreements_76 : decode cX8_agreements 76 = .ok (.ifCond .le 18, 3) := by decide +kernel
theorem dX8_agreements_79 : decode cX8_agreements 79 = .ok (.aload_n 0, 1) := by decide +kernel
theorem dX8_agreements_80 : decode cX8_agreements 80 = .ok (.aload_n 3, 1) := by decide +kernel
theorem dX8_agreements_81 : decode cX8_agreements 81 = .ok (.aload 4, 2) := by decide +kernel
theorem dX8_agreements_83 : decode cX8_agreements 83 = .ok (.iload 6, 2) := by decide +kernel
theorem dX8_agreements_85 : decode cX8_agreements 85 = .ok (.invokevirtual 285, 3) := by decide +kernel
theorem dX8_agreements_88 : decode cX8_agreements 88 = .ok (.ifCond .eq 6, 3) := by decide +kernel
theorem dX8_agreements_91 : decode cX8_agreements 91 = .ok (.iinc 5 1, 3) := by decide +kernel
theorem dX8_agreements_94 : decode cX8_agreements 94 = .ok (.iinc 6 1, 3) := by decide +kernel
theorem dX8_agreements_97 : decode cX8_agreements 97 = .ok (.goto (-56), 3) := by decide +kernel
theorem dX8_agreements_100 : decode cX8_agreements 100 = .ok (.iload 5, 2) := by decide +kernel
theorem dX8_agreements_102 : decode cX8_agreements 102 = .ok (.ireturn, 1) := by decide +kernel
theorem dX8_addReader_0 : decode cX8_addReader 0 = .ok (.iload_n 1, 1) := by decide +kernel
theorem dX8_addReader_1 : decode cX8_addReader 1 = .ok (.invokestatic 289, 3) := by decide +kernel
theorem dX8_addReader_4 : decode cX8_addReader 4 = .ok (.aload_n 0, 1) := by decide +kernel
theorem dX8_addReader_5 : decode cX8_addReader 5 = .ok (.getfield 44, 3) := by decide +kernel
theorem dX8_addReader_8 : decode cX8_addReader 8 = .ok (.iconst 0, 1) := by decide +kernel
theorem dX8_addReader_9 : decode cX8_addReader 9 = .ok (.aload_n 0, 1) := by decide +kernel
theorem dX8_addReader_10 : decode cX8_addReader 10 = .ok (.getfield 44, 3) := by decide +kernel
theorem dX8_addReader_13 : decode cX8_addReader 13 = .ok (.getfield 107, 3) := by decide +kernel
theorem dX8_addReader_16 : decode cX8_addReader 16 = .ok (.invokevirtual 292, 3) := by decide +kernel
theorem dX8_addReader_19 : decode cX8_addReader 19 = .ok (.ifCond .ne 14, 3) := by decide +kernel
theorem dX8_addReader_22 : decode cX8_addReader 22 = .ok (.new 119, 3) := by decide +kernel
theorem dX8_addReader_25 : decode cX8_addReader 25 = .ok (.dup, 1) := by decide +kernel
theorem dX8_addReader_26 : decode cX8_addReader 26 = .ok (.ldc_w 296, 3) := by decide +kernel
theorem dX8_addReader_29 : decode cX8_addReader 29 = .ok (.invokespecial 123, 3) := by decide +kernel
theorem dX8_addReader_32 : decode cX8_addReader 32 = .ok (.athrow, 1) := by decide +kernel
theorem dX8_addReader_33 : decode cX8_addReader 33 = .ok (.aload_n 0, 1) := by decide +kernel
theorem dX8_addReader_34 : decode cX8_addReader 34 = .ok (.getfield 13, 3) := by decide +kernel
theorem dX8_addReader_37 : decode cX8_addReader 37 = .ok (.getfield 143, 3) := by decide +kernel
theorem dX8_addReader_40 : decode cX8_addReader 40 = .ok (.iconst 4, 1) := by decide +kernel
theorem dX8_addReader_41 : decode cX8_addReader 41 = .ok (.if_icmp .ge 25, 3) := by decide +kernel
theorem dX8_addReader_44 : decode cX8_addReader 44 = .ok (.aload_n 0, 1) := by decide +kernel
theorem dX8_addReader_45 : decode cX8_addReader 45 = .ok (.getfield 13, 3) := by decide +kernel
theorem dX8_addReader_48 : decode cX8_addReader 48 = .ok (.aload_n 0, 1) := by decide +kernel
theorem dX8_addReader_49 : decode cX8_addReader 49 = .ok (.getfield 44, 3) := by decide +kernel
theorem dX8_addReader_52 : decode cX8_addReader 52 = .ok (.iconst 0, 1) := by decide +kernel
theorem dX8_addReader_53 : decode cX8_addReader 53 = .ok (.aload_n 0, 1) := by decide +kernel
theorem dX8_addReader_54 : decode cX8_addReader 54 = .ok (.getfield 44, 3) := by decide +kernel
theorem dX8_addReader_57 : decode cX8_addReader 57 = .ok (.getfield 107, 3) := by decide +kernel
theorem dX8_addReader_60 : decode cX8_addReader 60 = .ok (.invokevirtual 298, 3) := by decide +kernel
theorem dX8_addReader_63 : decode cX8_addReader 63 = .ok (.ifnull 14, 3) := by decide +kernel
theorem dX8_addReader_66 : decode cX8_addReader 66 = .ok (.new 109, 3) := by decide +kernel
theorem dX8_addReader_69 : decode cX8_addReader 69 = .ok (.dup, 1) := by decide +kernel
theorem dX8_addReader_70 : decode cX8_addReader 70 = .ok (.ldc_w 302, 3) := by decide +kernel
theorem dX8_addReader_73 : decode cX8_addReader 73 = .ok (.invokespecial 113, 3) := by decide +kernel
theorem dX8_addReader_76 : decode cX8_addReader 76 = .ok (.athrow, 1) := by decide +kernel
theorem dX8_addReader_77 : decode cX8_addReader 77 = .ok (.aload_n 0, 1) := by decide +kernel
theorem dX8_addReader_78 : decode cX8_addReader 78 = .ok (.invokevirtual 136, 3) := by decide +kernel
theorem dX8_addReader_81 : decode cX8_addReader 81 = .ok (.aload_n 0, 1) := by decide +kernel
theorem dX8_addReader_82 : decode cX8_addReader 82 = .ok (.getfield 13, 3) := by decide +kernel
theorem dX8_addReader_85 : decode cX8_addReader 85 = .ok (.aload_n 0, 1) := by decide +kernel
theorem dX8_addReader_86 : decode cX8_addReader 86 = .ok (.getfield 44, 3) := by decide +kernel
theorem dX8_addReader_89 : decode cX8_addReader 89 = .ok (.iconst 0, 1) := by decide +kernel
theorem dX8_addReader_90 : decode cX8_addReader 90 = .ok (.aload_n 0, 1) := by decide +kernel
theorem dX8_addReader_91 : decode cX8_addReader 91 = .ok (.getfield 44, 3) := by decide +kernel
theorem dX8_addReader_94 : decode cX8_addReader 94 = .ok (.getfield 107, 3) := by decide +kernel
theorem dX8_addReader_97 : decode cX8_addReader 97 = .ok (.iload_n 1, 1) := by decide +kernel
theorem dX8_addReader_98 : decode cX8_addReader 98 = .ok (.invokevirtual 304, 3) := by decide +kernel
theorem dX8_addReader_101 : decode cX8_addReader 101 = .ok (.aload_n 0, 1) := by decide +kernel
theorem dX8_addReader_102 : decode cX8_addReader 102 = .ok (.getfield 44, 3) := by decide +kernel
theorem dX8_addReader_105 : decode cX8_addReader 105 = .ok (.invokevirtual 127, 3) := by decide +kernel
theorem dX8_addReader_108 : decode cX8_addReader 108 = .ok (.aload_n 0, 1) := by decide +kernel
theorem dX8_addReader_109 : decode cX8_addReader 109 = .ok (.getfield 13, 3) := by decide +kernel
theorem dX8_addReader_112 : decode cX8_addReader 112 = .ok (.getfield 143, 3) := by decide +kernel
theorem dX8_addReader_115 : decode cX8_addReader 115 = .ok (.iconst 1, 1) := by decide +kernel
theorem dX8_addReader_116 : decode cX8_addReader 116 = .ok (.isub, 1) := by decide +kernel
theorem dX8_addReader_117 : decode cX8_addReader 117 = .ok (.ireturn, 1) := by decide +kernel
theorem dX8_addDocument_0 : decode cX8_addDocument 0 = .ok (.aload_n 0, 1) := by decide +kernel
theorem dX8_addDocument_1 : decode cX8_addDocument 1 = .ok (.getfield 44, 3) := by decide +kernel
theorem dX8_addDocument_4 : decode cX8_addDocument 4 = .ok (.iconst 0, 1) := by decide +kernel
theorem dX8_addDocument_5 : decode cX8_addDocument 5 = .ok (.aload_n 0, 1) := by decide +kernel
theorem dX8_addDocument_6 : decode cX8_addDocument 6 = .ok (.getfield 44, 3) := by decide +kernel
theorem dX8_addDocument_9 : decode cX8_addDocument 9 = .ok (.getfield 107, 3) := by decide +kernel
theorem dX8_addDocument_12 : decode cX8_addDocument 12 = .ok (.invokevirtual 308, 3) := by decide +kernel
theorem dX8_addDocument_15 : decode cX8_addDocument 15 = .ok (.ifCond .ne 14, 3) := by decide +kernel
theorem dX8_addDocument_18 : decode cX8_addDocument 18 = .ok (.new 119, 3) := by decide +kernel
theorem dX8_addDocument_21 : decode cX8_addDocument 21 = .ok (.dup, 1) := by decide +kernel
theorem dX8_addDocument_22 : decode cX8_addDocument 22 = .ok (.ldc_w 311, 3) := by decide +kernel
theorem dX8_addDocument_25 : decode cX8_addDocument 25 = .ok (.invokespecial 123, 3) := by decide +kernel
theorem dX8_addDocument_28 : decode cX8_addDocument 28 = .ok (.athrow, 1) := by decide +kernel
theorem dX8_addDocument_29 : decode cX8_addDocument 29 = .ok (.aload_n 0, 1) := by decide +kernel
theorem dX8_addDocument_30 : decode cX8_addDocument 30 = .ok (.getfield 13, 3) := by decide +kernel
theorem dX8_addDocument_33 : decode cX8_addDocument 33 = .ok (.getfield 167, 3) := by decide +kernel
theorem dX8_addDocument_36 : decode cX8_addDocument 36 = .ok (.bipush 8, 2) := by decide +kernel
theorem dX8_addDocument_38 : decode cX8_addDocument 38 = .ok (.if_icmp .lt 14, 3) := by decide +kernel
theorem dX8_addDocument_41 : decode cX8_addDocument 41 = .ok (.new 109, 3) := by decide +kernel
theorem dX8_addDocument_44 : decode cX8_addDocument 44 = .ok (.dup, 1) := by decide +kernel
theorem dX8_addDocument_45 : decode cX8_addDocument 45 = .ok (.ldc_w 313, 3) := by decide +kernel
theorem dX8_addDocument_48 : decode cX8_addDocument 48 = .ok (.invokespecial 113, 3) := by decide +kernel
theorem dX8_addDocument_51 : decode cX8_addDocument 51 = .ok (.athrow, 1) := by decide +kernel
theorem dX8_addDocument_52 : decode cX8_addDocument 52 = .ok (.aload_n 0, 1) := by decide +kernel
theorem dX8_addDocument_53 : decode cX8_addDocument 53 = .ok (.invokevirtual 136, 3) := by decide +kernel
theorem dX8_addDocument_56 : decode cX8_addDocument 56 = .ok (.aload_n 0, 1) := by decide +kernel
theorem dX8_addDocument_57 : decode cX8_addDocument 57 = .ok (.getfield 13, 3) := by decide +kernel
theorem dX8_addDocument_60 : decode cX8_addDocument 60 = .ok (.aload_n 0, 1) := by decide +kernel
theorem dX8_addDocument_61 : decode cX8_addDocument 61 = .ok (.getfield 44, 3) := by decide +kernel
theorem dX8_addDocument_64 : decode cX8_addDocument 64 = .ok (.iconst 0, 1) := by decide +kernel
theorem dX8_addDocument_65 : decode cX8_addDocument 65 = .ok (.aload_n 0, 1) := by decide +kernel
theorem dX8_addDocument_66 : decode cX8_addDocument 66 = .ok (.getfield 44, 3) := by decide +kernel
theorem dX8_addDocument_69 : decode cX8_addDocument 69 = .ok (.getfield 107, 3) := by decide +kernel
theorem dX8_addDocument_72 : decode cX8_addDocument 72 = .ok (.invokevirtual 315, 3) := by decide +kernel
theorem dX8_addDocument_75 : decode cX8_addDocument 75 = .ok (.aload_n 0, 1) := by decide +kernel
theorem dX8_addDocument_76 : decode cX8_addDocument 76 = .ok (.getfield 44, 3) := by decide +kernel
theorem dX8_addDocument_79 : decode cX8_addDocument 79 = .ok (.invokevirtual 127, 3) := by decide +kernel
theorem dX8_addDocument_82 : decode cX8_addDocument 82 = .ok (.aload_n 0, 1) := by decide +kernel
theorem dX8_addDocument_83 : decode cX8_addDocument 83 = .ok (.getfield 13, 3) := by decide +kernel
theorem dX8_addDocument_86 : decode cX8_addDocument 86 = .ok (.getfield 167, 3) := by decide +kernel
theorem dX8_addDocument_89 : decode cX8_addDocument 89 = .ok (.iconst 1, 1) := by decide +kernel
theorem dX8_addDocument_90 : decode cX8_addDocument 90 = .ok (.isub, 1) := by decide +kernel
theorem dX8_addDocument_91 : decode cX8_addDocument 91 = .ok (.ireturn, 1) := by decide +kernel
theorem dX8_train_0 : decode cX8_train 0 = .ok (.aload_n 0, 1) := by decide +kernel
theorem dX8_train_1 : decode cX8_train 1 = .ok (.iload_n 1, 1) := by decide +kernel
theorem dX8_train_2 : decode cX8_train 2 = .ok (.invokevirtual 149, 3) := by decide +kernel
theorem dX8_train_5 : decode cX8_train 5 = .ok (.astore_n 3, 1) := by decide +kernel
theorem dX8_train_6 : decode cX8_train 6 = .ok (.aload_n 0, 1) := by decide +kernel
theorem dX8_train_7 : decode cX8_train 7 = .ok (.iload_n 2, 1) := by decide +kernel
theorem dX8_train_8 : decode cX8_train 8 = .ok (.invokevirtual 170, 3) := by decide +kernel
theorem dX8_train_11 : decode cX8_train 11 = .ok (.astore 4, 2) := by decide +kernel
theorem dX8_train_13 : decode cX8_train 13 = .ok (.aload_n 0, 1) := by decide +kernel
theorem dX8_train_14 : decode cX8_train 14 = .ok (.invokevirtual 136, 3) := by decide +kernel
theorem dX8_train_17 : decode cX8_train 17 = .ok (.aload_n 3, 1) := by decide +kernel
theorem dX8_train_18 : decode cX8_train 18 = .ok (.getfield 188, 3) := by decide +kernel
theorem dX8_train_21 : decode cX8_train 21 = .ok (.aload 4, 2) := by decide +kernel
theorem dX8_train_23 : decode cX8_train 23 = .ok (.invokevirtual 274, 3) := by decide +kernel
theorem dX8_train_26 : decode cX8_train 26 = .ok (.aload_n 3, 1) := by decide +kernel
theorem dX8_train_27 : decode cX8_train 27 = .ok (.iload_n 2, 1) := by decide +kernel
theorem dX8_train_28 : decode cX8_train 28 = .ok (.aload 4, 2) := by decide +kernel
theorem dX8_train_30 : decode cX8_train 30 = .ok (.getfield 174, 3) := by decide +kernel
theorem dX8_train_33 : decode cX8_train 33 = .ok (.invokevirtual 319, 3) := by decide +kernel
theorem dX8_train_36 : decode cX8_train 36 = .ok (.aload_n 0, 1) := by decide +kernel
theorem dX8_train_37 : decode cX8_train 37 = .ok (.aload_n 3, 1) := by decide +kernel
theorem dX8_train_38 : decode cX8_train 38 = .ok (.getfield 188, 3) := by decide +kernel
theorem dX8_train_41 : decode cX8_train 41 = .ok (.aload 4, 2) := by decide +kernel
theorem dX8_train_43 : decode cX8_train 43 = .ok (.invokevirtual 257, 3) := by decide +kernel
theorem dX8_train_46 : decode cX8_train 46 = .ok (.ireturn, 1) := by decide +kernel
theorem dX8_learn_0 : decode cX8_learn 0 = .ok (.aload_n 0, 1) := by decide +kernel
theorem dX8_learn_1 : decode cX8_learn 1 = .ok (.iload_n 1, 1) := by decide +kernel
theorem dX8_learn_2 : decode cX8_learn 2 = .ok (.invokevirtual 149, 3) := by decide +kernel
theorem dX8_learn_5 : decode cX8_learn 5 = .ok (.astore_n 3, 1) := by decide +kernel
theorem dX8_learn_6 : decode cX8_learn 6 = .ok (.aload_n 0, 1) := by decide +kernel
theorem dX8_learn_7 : decode cX8_learn 7 = .ok (.iload_n 2, 1) := by decide +kernel
theorem dX8_learn_8 : decode cX8_learn 8 = .ok (.invokevirtual 170, 3) := by decide +kernel
theorem dX8_learn_11 : decode cX8_learn 11 = .ok (.astore 4, 2) := by decide +kernel
theorem dX8_learn_13 : decode cX8_learn 13 = .ok (.aload_n 0, 1) := by decide +kernel
theorem dX8_learn_14 : decode cX8_learn 14 = .ok (.invokevirtual 136, 3) := by decide +kernel
theorem dX8_learn_17 : decode cX8_learn 17 = .ok (.aload_n 3, 1) := by decide +kernel
theorem dX8_learn_18 : decode cX8_learn 18 = .ok (.iload_n 2, 1) := by decide +kernel
theorem dX8_learn_19 : decode cX8_learn 19 = .ok (.aload 4, 2) := by decide +kernel
theorem dX8_learn_21 : decode cX8_learn 21 = .ok (.getfield 174, 3) := by decide +kernel
theorem dX8_learn_24 : decode cX8_learn 24 = .ok (.invokevirtual 319, 3) := by decide +kernel
theorem dX8_learn_27 : decode cX8_learn 27 = .ok (.aload_n 0, 1) := by decide +kernel
theorem dX8_learn_28 : decode cX8_learn 28 = .ok (.aload_n 3, 1) := by decide +kernel
theorem dX8_learn_29 : decode cX8_learn 29 = .ok (.getfield 188, 3) := by decide +kernel
theorem dX8_learn_32 : decode cX8_learn 32 = .ok (.aload 4, 2) := by decide +kernel
theorem dX8_learn_34 : decode cX8_learn 34 = .ok (.invokevirtual 264, 3) := by decide +kernel
theorem dX8_learn_37 : decode cX8_learn 37 = .ok (.ireturn, 1) := by decide +kernel
theorem dX8_forget_0 : decode cX8_forget 0 = .ok (.aload_n 0, 1) := by decide +kernel
theorem dX8_forget_1 : decode cX8_forget 1 = .ok (.iload_n 1, 1) := by decide +kernel
theorem dX8_forget_2 : decode cX8_forget 2 = .ok (.invokevirtual 149, 3) := by decide +kernel
theorem dX8_forget_5 : decode cX8_forget 5 = .ok (.astore_n 2, 1) := by decide +kernel
theorem dX8_forget_6 : decode cX8_forget 6 = .ok (.aload_n 0, 1) := by decide +kernel
theorem dX8_forget_7 : decode cX8_forget 7 = .ok (.invokevirtual 136, 3) := by decide +kernel
theorem dX8_forget_10 : decode cX8_forget 10 = .ok (.aload_n 2, 1) := by decide +kernel
theorem dX8_forget_11 : decode cX8_forget 11 = .ok (.getfield 188, 3) := by decide +kernel
theorem dX8_forget_14 : decode cX8_forget 14 = .ok (.getfield 215, 3) := by decide +kernel
theorem dX8_forget_17 : decode cX8_forget 17 = .ok (.istore_n 3, 1) := by decide +kernel
theorem dX8_forget_18 : decode cX8_forget 18 = .ok (.aload_n 2, 1) := by decide +kernel
theorem dX8_forget_19 : decode cX8_forget 19 = .ok (.invokevirtual 322, 3) := by decide +kernel
theorem dX8_forget_22 : decode cX8_forget 22 = .ok (.iload_n 3, 1) := by decide +kernel
theorem dX8_forget_23 : decode cX8_forget 23 = .ok (.ireturn, 1) := by decide +kernel
theorem dX8_setEscapeMethod_0 : decode cX8_setEscapeMethod 0 = .ok (.aload_n 0, 1) := by decide +kernel
theorem dX8_setEscapeMethod_1 : decode cX8_setEscapeMethod 1 = .ok (.iload_n 1, 1) := by decide +kernel
theorem dX8_setEscapeMethod_2 : decode cX8_setEscapeMethod 2 = .ok (.invokevirtual 149, 3) := by decide +kernel
theorem dX8_setEscapeMethod_5 : decode cX8_setEscapeMethod 5 = .ok (.astore_n 3, 1) := by decide +kernel
theorem dX8_setEscapeMethod_6 : decode cX8_setEscapeMethod 6 = .ok (.iload_n 2, 1) := by decide +kernel
theorem dX8_setEscapeMethod_7 : decode cX8_setEscapeMethod 7 = .ok (.invokestatic 289, 3) := by decide +kernel
theorem dX8_setEscapeMethod_10 : decode cX8_setEscapeMethod 10 = .ok (.aload_n 0, 1) := by decide +kernel
theorem dX8_setEscapeMethod_11 : decode cX8_setEscapeMethod 11 = .ok (.invokevirtual 136, 3) := by decide +kernel
theorem dX8_setEscapeMethod_14 : decode cX8_setEscapeMethod 14 = .ok (.aload_n 3, 1) := by decide +kernel
theorem dX8_setEscapeMethod_15 : decode cX8_setEscapeMethod 15 = .ok (.getfield 164, 3) := by decide +kernel
theorem dX8_setEscapeMethod_18 : decode cX8_setEscapeMethod 18 = .ok (.istore 4, 2) := by decide +kernel
theorem dX8_setEscapeMethod_20 : decode cX8_setEscapeMethod 20 = .ok (.aload_n 3, 1) := by decide +kernel
theorem dX8_setEscapeMethod_21 : decode cX8_setEscapeMethod 21 = .ok (.iload_n 2, 1) := by decide +kernel
theorem dX8_setEscapeMethod_22 : decode cX8_setEscapeMethod 22 = .ok (.putfield 164, 3) := by decide +kernel
theorem dX8_setEscapeMethod_25 : decode cX8_setEscapeMethod 25 = .ok (.iload 4, 2) := by decide +kernel
theorem dX8_setEscapeMethod_27 : decode cX8_setEscapeMethod 27 = .ok (.ireturn, 1) := by decide +kernel
theorem dX8_endYear_0 : decode cX8_endYear 0 = .ok (.aload_n 0, 1) := by decide +kernel
theorem dX8_endYear_1 : decode cX8_endYear 1 = .ok (.invokevirtual 136, 3) := by decide +kernel
theorem dX8_endYear_4 : decode cX8_endYear 4 = .ok (.aload_n 0, 1) := by decide +kernel
theorem dX8_endYear_5 : decode cX8_endYear 5 = .ok (.getfield 13, 3) := by decide +kernel
theorem dX8_endYear_8 : decode cX8_endYear 8 = .ok (.invokevirtual 325, 3) := by decide +kernel
theorem dX8_endYear_11 : decode cX8_endYear 11 = .ok (.aload_n 0, 1) := by decide +kernel
theorem dX8_endYear_12 : decode cX8_endYear 12 = .ok (.getfield 13, 3) := by decide +kernel
theorem dX8_endYear_15 : decode cX8_endYear 15 = .ok (.getfield 146, 3) := by decide +kernel
theorem dX8_endYear_18 : decode cX8_endYear 18 = .ok (.ireturn, 1) := by decide +kernel
theorem dX8_merge_0 : decode cX8_merge 0 = .ok (.aload_n 0, 1) := by decide +kernel
theorem dX8_merge_1 : decode cX8_merge 1 = .ok (.iload_n 1, 1) := by decide +kernel
theorem dX8_merge_2 : decode cX8_merge 2 = .ok (.invokevirtual 149, 3) := by decide +kernel
theorem dX8_merge_5 : decode cX8_merge 5 = .ok (.astore_n 3, 1) := by decide +kernel
theorem dX8_merge_6 : decode cX8_merge 6 = .ok (.aload_n 0, 1) := by decide +kernel
theorem dX8_merge_7 : decode cX8_merge 7 = .ok (.iload_n 2, 1) := by decide +kernel
theorem dX8_merge_8 : decode cX8_merge 8 = .ok (.invokevirtual 149, 3) := by decide +kernel
theorem dX8_merge_11 : decode cX8_merge 11 = .ok (.astore 4, 2) := by decide +kernel
theorem dX8_merge_13 : decode cX8_merge 13 = .ok (.iload_n 1, 1) := by decide +kernel
theorem dX8_merge_14 : decode cX8_merge 14 = .ok (.iload_n 2, 1) := by decide +kernel
theorem dX8_merge_15 : decode cX8_merge 15 = .ok (.if_icmp .ne 14, 3) := by decide +kernel
theorem dX8_merge_18 : decode cX8_merge 18 = .ok (.new 119, 3) := by decide +kernel
theorem dX8_merge_21 : decode cX8_merge 21 = .ok (.dup, 1) := by decide +kernel
theorem dX8_merge_22 : decode cX8_merge 22 = .ok (.ldc_w 283, 3) := by decide +kernel
theorem dX8_merge_25 : decode cX8_merge 25 = .ok (.invokespecial 123, 3) := by decide +kernel
theorem dX8_merge_28 : decode cX8_merge 28 = .ok (.athrow, 1) := by decide +kernel
theorem dX8_merge_29 : decode cX8_merge 29 = .ok (.aload_n 0, 1) := by decide +kernel
theorem dX8_merge_30 : decode cX8_merge 30 = .ok (.invokevirtual 136, 3) := by decide +kernel
theorem dX8_merge_33 : decode cX8_merge 33 = .ok (.aload 4, 2) := by decide +kernel
theorem dX8_merge_35 : decode cX8_merge 35 = .ok (.aload_n 3, 1) := by decide +kernel
theorem dX8_merge_36 : decode cX8_merge 36 = .ok (.invokevirtual 328, 3) := by decide +kernel
theorem dX8_merge_39 : decode cX8_merge 39 = .ok (.aload 4, 2) := by decide +kernel
theorem dX8_merge_41 : decode cX8_merge 41 = .ok (.getfield 188, 3) := by decide +kernel
theorem dX8_merge_44 : decode cX8_merge 44 = .ok (.getfield 215, 3) := by decide +kernel
theorem dX8_merge_47 : decode cX8_merge 47 = .ok (.ireturn, 1) := by decide +kernel
theorem dX8_encode_0 : decode cX8_encode 0 = .ok (.aload_n 0, 1) := by decide +kernel
theorem dX8_encode_1 : decode cX8_encode 1 = .ok (.iload_n 1, 1) := by decide +kernel
theorem dX8_encode_2 : decode cX8_encode 2 = .ok (.invokevirtual 149, 3) := by decide +kernel
theorem dX8_encode_5 : decode cX8_encode 5 = .ok (.astore_n 3, 1) := by decide +kernel
theorem dX8_encode_6 : decode cX8_encode 6 = .ok (.aload_n 0, 1) := by decide +kernel
theorem dX8_encode_7 : decode cX8_encode 7 = .ok (.iload_n 2, 1) := by decide +kernel
theorem dX8_encode_8 : decode cX8_encode 8 = .ok (.invokevirtual 170, 3) := by decide +kernel
theorem dX8_encode_11 : decode cX8_encode 11 = .ok (.astore 4, 2) := by decide +kernel
theorem dX8_encode_13 : decode cX8_encode 13 = .ok (.aload_n 0, 1) := by decide +kernel
theorem dX8_encode_14 : decode cX8_encode 14 = .ok (.getfield 48, 3) := by decide +kernel
theorem dX8_encode_17 : decode cX8_encode 17 = .ok (.invokevirtual 127, 3) := by decide +kernel
theorem dX8_encode_20 : decode cX8_encode 20 = .ok (.iconst 0, 1) := by decide +kernel
theorem dX8_encode_21 : decode cX8_encode 21 = .ok (.istore 5, 2) := by decide +kernel
theorem dX8_encode_23 : decode cX8_encode 23 = .ok (.iload 5, 2) := by decide +kernel
theorem dX8_encode_25 : decode cX8_encode 25 = .ok (.aload 4, 2) := by decide +kernel
theorem dX8_encode_27 : decode cX8_encode 27 = .ok (.getfield 174, 3) := by decide +kernel
theorem dX8_encode_30 : decode cX8_encode 30 = .ok (.if_icmp .ge 42, 3) := by decide +kernel
theorem dX8_encode_33 : decode cX8_encode 33 = .ok (.iload 5, 2) := by decide +kernel
theorem dX8_encode_35 : decode cX8_encode 35 = .ok (.ifCond .le 12, 3) := by decide +kernel
theorem dX8_encode_38 : decode cX8_encode 38 = .ok (.aload_n 0, 1) := by decide +kernel
theorem dX8_encode_39 : decode cX8_encode 39 = .ok (.getfield 48, 3) := by decide +kernel
theorem dX8_encode_42 : decode cX8_encode 42 = .ok (.bipush 44, 2) := by decide +kernel
theorem dX8_encode_44 : decode cX8_encode 44 = .ok (.invokevirtual 94, 3) := by decide +kernel
theorem dX8_encode_47 : decode cX8_encode 47 = .ok (.aload_n 0, 1) := by decide +kernel
theorem dX8_encode_48 : decode cX8_encode 48 = .ok (.getfield 48, 3) := by decide +kernel
theorem dX8_encode_51 : decode cX8_encode 51 = .ok (.aload_n 0, 1) := by decide +kernel
theorem dX8_encode_52 : decode cX8_encode 52 = .ok (.aload_n 3, 1) := by decide +kernel
theorem dX8_encode_53 : decode cX8_encode 53 = .ok (.getfield 188, 3) := by decide +kernel
theorem dX8_encode_56 : decode cX8_encode 56 = .ok (.aload 4, 2) := by decide +kernel
theorem dX8_encode_58 : decode cX8_encode 58 = .ok (.iload 5, 2) := by decide +kernel
theorem dX8_encode_60 : decode cX8_encode 60 = .ok (.invokevirtual 253, 3) := by decide +kernel
theorem dX8_encode_63 : decode cX8_encode 63 = .ok (.invokevirtual 332, 3) := by decide +kernel
theorem dX8_encode_66 : decode cX8_encode 66 = .ok (.iinc 5 1, 3) := by decide +kernel
theorem dX8_encode_69 : decode cX8_encode 69 = .ok (.goto (-46), 3) := by decide +kernel
theorem dX8_encode_72 : decode cX8_encode 72 = .ok (.aload_n 0, 1) := by decide +kernel
theorem dX8_encode_73 : decode cX8_encode 73 = .ok (.getfield 48, 3) := by decide +kernel
theorem dX8_encode_76 : decode cX8_encode 76 = .ok (.getfield 107, 3) := by decide +kernel
theorem dX8_encode_79 : decode cX8_encode 79 = .ok (.ireturn, 1) := by decide +kernel
theorem dX8_decode_0 : decode cX8_decode 0 = .ok (.aload_n 0, 1) := by decide +kernel
theorem dX8_decode_1 : decode cX8_decode 1 = .ok (.iload_n 1, 1) := by decide +kernel
theorem dX8_decode_2 : decode cX8_decode 2 = .ok (.invokevirtual 149, 3) := by decide +kernel
theorem dX8_decode_5 : decode cX8_decode 5 = .ok (.astore_n 2, 1) := by decide +kernel
theorem dX8_decode_6 : decode cX8_decode 6 = .ok (.aload_n 0, 1) := by decide +kernel
theorem dX8_decode_7 : decode cX8_decode 7 = .ok (.invokevirtual 335, 3) := by decide +kernel
theorem dX8_decode_10 : decode cX8_decode 10 = .ok (.istore_n 3, 1) := by decide +kernel
theorem dX8_decode_11 : decode cX8_decode 11 = .ok (.iload_n 3, 1) := by decide +kernel
theorem dX8_decode_12 : decode cX8_decode 12 = .ok (.ifCond .ne 14, 3) := by decide +kernel
theorem dX8_decode_15 : decode cX8_decode 15 = .ok (.new 119, 3) := by decide +kernel
theorem dX8_decode_18 : decode cX8_decode 18 = .ok (.dup, 1) := by decide +kernel
theorem dX8_decode_19 : decode cX8_decode 19 = .ok (.ldc_w 338, 3) := by decide +kernel
theorem dX8_decode_22 : decode cX8_decode 22 = .ok (.invokespecial 123, 3) := by decide +kernel
theorem dX8_decode_25 : decode cX8_decode 25 = .ok (.athrow, 1) := by decide +kernel
theorem dX8_decode_26 : decode cX8_decode 26 = .ok (.aload_n 0, 1) := by decide +kernel
theorem dX8_decode_27 : decode cX8_decode 27 = .ok (.getfield 44, 3) := by decide +kernel
theorem dX8_decode_30 : decode cX8_decode 30 = .ok (.invokevirtual 127, 3) := by decide +kernel
theorem dX8_decode_33 : decode cX8_decode 33 = .ok (.aload_n 0, 1) := by decide +kernel
theorem dX8_decode_34 : decode cX8_decode 34 = .ok (.aload_n 2, 1) := by decide +kernel
theorem dX8_decode_35 : decode cX8_decode 35 = .ok (.getfield 188, 3) := by decide +kernel
theorem dX8_decode_38 : decode cX8_decode 38 = .ok (.aload_n 0, 1) := by decide +kernel
theorem dX8_decode_39 : decode cX8_decode 39 = .ok (.getfield 78, 3) := by decide +kernel
theorem dX8_decode_42 : decode cX8_decode 42 = .ok (.iload_n 3, 1) := by decide +kernel
theorem dX8_decode_43 : decode cX8_decode 43 = .ok (.invokevirtual 340, 3) := by decide +kernel
theorem dX8_decode_46 : decode cX8_decode 46 = .ok (.aload_n 0, 1) := by decide +kernel
theorem dX8_decode_47 : decode cX8_decode 47 = .ok (.getfield 48, 3) := by decide +kernel
theorem dX8_decode_50 : decode cX8_decode 50 = .ok (.getfield 107, 3) := by decide +kernel
theorem dX8_decode_53 : decode cX8_decode 53 = .ok (.ireturn, 1) := by decide +kernel
theorem dX8_writeExpected_0 : decode cX8_writeExpected 0 = .ok (.aload_n 0, 1) := by decide +kernel
theorem dX8_writeExpected_1 : decode cX8_writeExpected 1 = .ok (.iload_n 1, 1) := by decide +kernel
theorem dX8_writeExpected_2 : decode cX8_writeExpected 2 = .ok (.invokevirtual 149, 3) := by decide +kernel
theorem dX8_writeExpected_5 : decode cX8_writeExpected 5 = .ok (.astore_n 3, 1) := by decide +kernel
theorem dX8_writeExpected_6 : decode cX8_writeExpected 6 = .ok (.iload_n 2, 1) := by decide +kernel
theorem dX8_writeExpected_7 : decode cX8_writeExpected 7 = .ok (.iconst 1, 1) := by decide +kernel
theorem dX8_writeExpected_8 : decode cX8_writeExpected 8 = .ok (.if_icmp .lt 9, 3) := by decide +kernel
theorem dX8_writeExpected_11 : decode cX8_writeExpected 11 = .ok (.iload_n 2, 1) := by decide +kernel
theorem dX8_writeExpected_12 : decode cX8_writeExpected 12 = .ok (.bipush 40, 2) := by decide +kernel
theorem dX8_writeExpected_14 : decode cX8_writeExpected 14 = .ok (.if_icmp .le 13, 3) := by decide +kernel
theorem dX8_writeExpected_17 : decode cX8_writeExpected 17 = .ok (.new 119, 3) := by decide +kernel
theorem dX8_writeExpected_20 : decode cX8_writeExpected 20 = .ok (.dup, 1) := by decide +kernel
theorem dX8_writeExpected_21 : decode cX8_writeExpected 21 = .ok (.ldc 121, 2) := by decide +kernel
theorem dX8_writeExpected_23 : decode cX8_writeExpected 23 = .ok (.invokespecial 123, 3) := by decide +kernel
theorem dX8_writeExpected_26 : decode cX8_writeExpected 26 = .ok (.athrow, 1) := by decide +kernel
theorem dX8_writeExpected_27 : decode cX8_writeExpected 27 = .ok (.iconst 0, 1) := by decide +kernel
theorem dX8_writeExpected_28 : decode cX8_writeExpected 28 = .ok (.istore 4, 2) := by decide +kernel
theorem dX8_writeExpected_30 : decode cX8_writeExpected 30 = .ok (.iload 4, 2) := by decide +kernel
theorem dX8_writeExpected_32 : decode cX8_writeExpected 32 = .ok (.bipush 40, 2) := by decide +kernel
theorem dX8_writeExpected_34 : decode cX8_writeExpected 34 = .ok (.if_icmp .ge 17, 3) := by decide +kernel
theorem dX8_writeExpected_37 : decode cX8_writeExpected 37 = .ok (.aload_n 0, 1) := by decide +kernel
theorem dX8_writeExpected_38 : decode cX8_writeExpected 38 = .ok (.getfield 78, 3) := by decide +kernel
theorem dX8_writeExpected_41 : decode cX8_writeExpected 41 = .ok (.iload 4, 2) := by decide +kernel
theorem dX8_writeExpected_43 : decode cX8_writeExpected 43 = .ok (.iconst 1, 1) := by decide +kernel
theorem dX8_writeExpected_44 : decode cX8_writeExpected 44 = .ok (.iastore, 1) := by decide +kernel
theorem dX8_writeExpected_45 : decode cX8_writeExpected 45 = .ok (.iinc 4 1, 3) := by decide +kernel
theorem dX8_writeExpected_48 : decode cX8_writeExpected 48 = .ok (.goto (-18), 3) := by decide +kernel
theorem dX8_writeExpected_51 : decode cX8_writeExpected 51 = .ok (.aload_n 0, 1) := by decide +kernel
theorem dX8_writeExpected_52 : decode cX8_writeExpected 52 = .ok (.aload_n 3, 1) := by decide +kernel
theorem dX8_writeExpected_53 : decode cX8_writeExpected 53 = .ok (.getfield 188, 3) := by decide +kernel
theorem dX8_writeExpected_56 : decode cX8_writeExpected 56 = .ok (.aload_n 0, 1) := by decide +kernel
theorem dX8_writeExpected_57 : decode cX8_writeExpected 57 = .ok (.getfield 78, 3) := by decide +kernel
theorem dX8_writeExpected_60 : decode cX8_writeExpected 60 = .ok (.iload_n 2, 1) := by decide +kernel
theorem dX8_writeExpected_61 : decode cX8_writeExpected 61 = .ok (.invokevirtual 340, 3) := by decide +kernel
theorem dX8_writeExpected_64 : decode cX8_writeExpected 64 = .ok (.aload_n 0, 1) := by decide +kernel
theorem dX8_writeExpected_65 : decode cX8_writeExpected 65 = .ok (.getfield 48, 3) := by decide +kernel
theorem dX8_writeExpected_68 : decode cX8_writeExpected 68 = .ok (.getfield 107, 3) := by decide +kernel
theorem dX8_writeExpected_71 : decode cX8_writeExpected 71 = .ok (.ireturn, 1) := by decide +kernel
theorem dX8_outputByte_0 : decode cX8_outputByte 0 = .ok (.aload_n 0, 1) := by decide +kernel
theorem dX8_outputByte_1 : decode cX8_outputByte 1 = .ok (.getfield 48, 3) := by decide +kernel
theorem dX8_outputByte_4 : decode cX8_outputByte 4 = .ok (.iload_n 1, 1) := by decide +kernel
theorem dX8_outputByte_5 : decode cX8_outputByte 5 = .ok (.invokevirtual 344, 3) := by decide +kernel
theorem dX8_outputByte_8 : decode cX8_outputByte 8 = .ok (.istore_n 2, 1) := by decide +kernel
theorem dX8_outputByte_9 : decode cX8_outputByte 9 = .ok (.iload_n 2, 1) := by decide +kernel
theorem dX8_outputByte_10 : decode cX8_outputByte 10 = .ok (.iconst (-1), 1) := by decide +kernel
theorem dX8_outputByte_11 : decode cX8_outputByte 11 = .ok (.if_icmp .ne 14, 3) := by decide +kernel
theorem dX8_outputByte_14 : decode cX8_outputByte 14 = .ok (.new 159, 3) := by decide +kernel
theorem dX8_outputByte_17 : decode cX8_outputByte 17 = .ok (.dup, 1) := by decide +kernel
theorem dX8_outputByte_18 : decode cX8_outputByte 18 = .ok (.ldc_w 347, 3) := by decide +kernel
theorem dX8_outputByte_21 : decode cX8_outputByte 21 = .ok (.invokespecial 163, 3) := by decide +kernel
theorem dX8_outputByte_24 : decode cX8_outputByte 24 = .ok (.athrow, 1) := by decide +kernel
theorem dX8_outputByte_25 : decode cX8_outputByte 25 = .ok (.iload_n 2, 1) := by decide +kernel
theorem dX8_outputByte_26 : decode cX8_outputByte 26 = .ok (.ireturn, 1) := by decide +kernel
theorem dX8_save_0 : decode cX8_save 0 = .ok (.iload_n 1, 1) := by decide +kernel
theorem dX8_save_1 : decode cX8_save 1 = .ok (.invokestatic 349, 3) := by decide +kernel
theorem dX8_save_4 : decode cX8_save 4 = .ok (.aload_n 0, 1) := by decide +kernel
theorem dX8_save_5 : decode cX8_save 5 = .ok (.getfield 34, 3) := by decide +kernel
theorem dX8_save_8 : decode cX8_save 8 = .ok (.iload_n 1, 1) := by decide +kernel
theorem dX8_save_9 : decode cX8_save 9 = .ok (.aaload, 1) := by decide +kernel
theorem dX8_save_10 : decode cX8_save 10 = .ok (.aload_n 0, 1) := by decide +kernel
theorem dX8_save_11 : decode cX8_save 11 = .ok (.getfield 13, 3) := by decide +kernel
theorem dX8_save_14 : decode cX8_save 14 = .ok (.invokevirtual 139, 3) := by decide +kernel
theorem dX8_save_17 : decode cX8_save 17 = .ok (.aload_n 0, 1) := by decide +kernel
theorem dX8_save_18 : decode cX8_save 18 = .ok (.getfield 37, 3) := by decide +kernel
theorem dX8_save_21 : decode cX8_save 21 = .ok (.iload_n 1, 1) := by decide +kernel
theorem dX8_save_22 : decode cX8_save 22 = .ok (.iconst 1, 1) := by decide +kernel
theorem dX8_save_23 : decode cX8_save 23 = .ok (.bastore, 1) := by decide +kernel
theorem dX8_save_24 : decode cX8_save 24 = .ok (.aload_n 0, 1) := by decide +kernel
theorem dX8_save_25 : decode cX8_save 25 = .ok (.getfield 13, 3) := by decide +kernel
theorem dX8_save_28 : decode cX8_save 28 = .ok (.getfield 146, 3) := by decide +kernel
theorem dX8_save_31 : decode cX8_save 31 = .ok (.ireturn, 1) := by decide +kernel
theorem dX8_restore_0 : decode cX8_restore 0 = .ok (.iload_n 1, 1) := by decide +kernel
theorem dX8_restore_1 : decode cX8_restore 1 = .ok (.invokestatic 349, 3) := by decide +kernel
theorem dX8_restore_4 : decode cX8_restore 4 = .ok (.aload_n 0, 1) := by decide +kernel
theorem dX8_restore_5 : decode cX8_restore 5 = .ok (.getfield 37, 3) := by decide +kernel
theorem dX8_restore_8 : decode cX8_restore 8 = .ok (.iload_n 1, 1) := by decide +kernel
theorem dX8_restore_9 : decode cX8_restore 9 = .ok (.baload, 1) := by decide +kernel
theorem dX8_restore_10 : decode cX8_restore 10 = .ok (.ifCond .ne 14, 3) := by decide +kernel
theorem dX8_restore_13 : decode cX8_restore 13 = .ok (.new 109, 3) := by decide +kernel
theorem dX8_restore_16 : decode cX8_restore 16 = .ok (.dup, 1) := by decide +kernel
theorem dX8_restore_17 : decode cX8_restore 17 = .ok (.ldc_w 352, 3) := by decide +kernel
theorem dX8_restore_20 : decode cX8_restore 20 = .ok (.invokespecial 113, 3) := by decide +kernel
theorem dX8_restore_23 : decode cX8_restore 23 = .ok (.athrow, 1) := by decide +kernel
theorem dX8_restore_24 : decode cX8_restore 24 = .ok (.aload_n 0, 1) := by decide +kernel
theorem dX8_restore_25 : decode cX8_restore 25 = .ok (.invokevirtual 136, 3) := by decide +kernel
theorem dX8_restore_28 : decode cX8_restore 28 = .ok (.aload_n 0, 1) := by decide +kernel
theorem dX8_restore_29 : decode cX8_restore 29 = .ok (.getfield 13, 3) := by decide +kernel
theorem dX8_restore_32 : decode cX8_restore 32 = .ok (.aload_n 0, 1) := by decide +kernel
theorem dX8_restore_33 : decode cX8_restore 33 = .ok (.getfield 34, 3) := by decide +kernel
theorem dX8_restore_36 : decode cX8_restore 36 = .ok (.iload_n 1, 1) := by decide +kernel
theorem dX8_restore_37 : decode cX8_restore 37 = .ok (.aaload, 1) := by decide +kernel
theorem dX8_restore_38 : decode cX8_restore 38 = .ok (.invokevirtual 139, 3) := by decide +kernel
theorem dX8_restore_41 : decode cX8_restore 41 = .ok (.aload_n 0, 1) := by decide +kernel
theorem dX8_restore_42 : decode cX8_restore 42 = .ok (.getfield 13, 3) := by decide +kernel
theorem dX8_restore_45 : decode cX8_restore 45 = .ok (.getfield 146, 3) := by decide +kernel
theorem dX8_restore_48 : decode cX8_restore 48 = .ok (.ireturn, 1) := by decide +kernel
theorem dX8_undo_0 : decode cX8_undo 0 = .ok (.aload_n 0, 1) := by decide +kernel
theorem dX8_undo_1 : decode cX8_undo 1 = .ok (.getfield 31, 3) := by decide +kernel
theorem dX8_undo_4 : decode cX8_undo 4 = .ok (.ifCond .ne 14, 3) := by decide +kernel
theorem dX8_undo_7 : decode cX8_undo 7 = .ok (.new 109, 3) := by decide +kernel
theorem dX8_undo_10 : decode cX8_undo 10 = .ok (.dup, 1) := by decide +kernel
theorem dX8_undo_11 : decode cX8_undo 11 = .ok (.ldc_w 354, 3) := by decide +kernel
theorem dX8_undo_14 : decode cX8_undo 14 = .ok (.invokespecial 113, 3) := by decide +kernel
theorem dX8_undo_17 : decode cX8_undo 17 = .ok (.athrow, 1) := by decide +kernel
theorem dX8_undo_18 : decode cX8_undo 18 = .ok (.aload_n 0, 1) := by decide +kernel
theorem dX8_undo_19 : decode cX8_undo 19 = .ok (.aload_n 0, 1) := by decide +kernel
theorem dX8_undo_20 : decode cX8_undo 20 = .ok (.getfield 27, 3) := by decide +kernel
theorem dX8_undo_23 : decode cX8_undo 23 = .ok (.bipush 8, 2) := by decide +kernel
theorem dX8_undo_25 : decode cX8_undo 25 = .ok (.iadd, 1) := by decide +kernel
theorem dX8_undo_26 : decode cX8_undo 26 = .ok (.iconst 1, 1) := by decide +kernel
theorem dX8_undo_27 : decode cX8_undo 27 = .ok (.isub, 1) := by decide +kernel
theorem dX8_undo_28 : decode cX8_undo 28 = .ok (.bipush 8, 2) := by decide +kernel
theorem dX8_undo_30 : decode cX8_undo 30 = .ok (.irem, 1) := by decide +kernel
theorem dX8_undo_31 : decode cX8_undo 31 = .ok (.putfield 27, 3) := by decide +kernel
theorem dX8_undo_34 : decode cX8_undo 34 = .ok (.aload_n 0, 1) := by decide +kernel
theorem dX8_undo_35 : decode cX8_undo 35 = .ok (.dup, 1) := by decide +kernel
theorem dX8_undo_36 : decode cX8_undo 36 = .ok (.getfield 31, 3) := by decide +kernel
theorem dX8_undo_39 : decode cX8_undo 39 = .ok (.iconst 1, 1) := by decide +kernel
theorem dX8_undo_40 : decode cX8_undo 40 = .ok (.isub, 1) := by decide +kernel
theorem dX8_undo_41 : decode cX8_undo 41 = .ok (.putfield 31, 3) := by decide +kernel
theorem dX8_undo_44 : decode cX8_undo 44 = .ok (.aload_n 0, 1) := by decide +kernel
theorem dX8_undo_45 : decode cX8_undo 45 = .ok (.getfield 13, 3) := by decide +kernel
theorem dX8_undo_48 : decode cX8_undo 48 = .ok (.aload_n 0, 1) := by decide +kernel
theorem dX8_undo_49 : decode cX8_undo 49 = .ok (.getfield 23, 3) := by decide +kernel
theorem dX8_undo_52 : decode cX8_undo 52 = .ok (.aload_n 0, 1) := by decide +kernel
theorem dX8_undo_53 : decode cX8_undo 53 = .ok (.getfield 27, 3) := by decide +kernel
theorem dX8_undo_56 : decode cX8_undo 56 = .ok (.aaload, 1) := by decide +kernel
theorem dX8_undo_57 : decode cX8_undo 57 = .ok (.invokevirtual 139, 3) := by decide +kernel
theorem dX8_undo_60 : decode cX8_undo 60 = .ok (.aload_n 0, 1) := by decide +kernel
theorem dX8_undo_61 : decode cX8_undo 61 = .ok (.getfield 31, 3) := by decide +kernel
theorem dX8_undo_64 : decode cX8_undo 64 = .ok (.ireturn, 1) := by decide +kernel
theorem dX8_undoDepth_0 : decode cX8_undoDepth 0 = .ok (.aload_n 0, 1) := by decide +kernel
theorem dX8_undoDepth_1 : decode cX8_undoDepth 1 = .ok (.getfield 31, 3) := by decide +kernel
theorem dX8_undoDepth_4 : decode cX8_undoDepth 4 = .ok (.ireturn, 1) := by decide +kernel
theorem dX8_remember_0 : decode cX8_remember 0 = .ok (.aload_n 0, 1) := by decide +kernel
theorem dX8_remember_1 : decode cX8_remember 1 = .ok (.getfield 23, 3) := by decide +kernel
theorem dX8_remember_4 : decode cX8_remember 4 = .ok (.aload_n 0, 1) := by decide +kernel
theorem dX8_remember_5 : decode cX8_remember 5 = .ok (.getfield 27, 3) := by decide +kernel
theorem dX8_remember_8 : decode cX8_remember 8 = .ok (.aaload, 1) := by decide +kernel
theorem dX8_remember_9 : decode cX8_remember 9 = .ok (.aload_n 0, 1) := by decide +kernel
theorem dX8_remember_10 : decode cX8_remember 10 = .ok (.getfield 13, 3) := by decide +kernel
theorem dX8_remember_13 : decode cX8_remember 13 = .ok (.invokevirtual 139, 3) := by decide +kernel
theorem dX8_remember_16 : decode cX8_remember 16 = .ok (.aload_n 0, 1) := by decide +kernel
theorem dX8_remember_17 : decode cX8_remember 17 = .ok (.aload_n 0, 1) := by decide +kernel
theorem dX8_remember_18 : decode cX8_remember 18 = .ok (.getfield 27, 3) := by decide +kernel
theorem dX8_remember_21 : decode cX8_remember 21 = .ok (.iconst 1, 1) := by decide +kernel
theorem dX8_remember_22 : decode cX8_remember 22 = .ok (.iadd, 1) := by decide +kernel
theorem dX8_remember_23 : decode cX8_remember 23 = .ok (.bipush 8, 2) := by decide +kernel
theorem dX8_remember_25 : decode cX8_remember 25 = .ok (.irem, 1) := by decide +kernel
theorem dX8_remember_26 : decode cX8_remember 26 = .ok (.putfield 27, 3) := by decide +kernel
theorem dX8_remember_29 : decode cX8_remember 29 = .ok (.aload_n 0, 1) := by decide +kernel
theorem dX8_remember_30 : decode cX8_remember 30 = .ok (.aload_n 0, 1) := by decide +kernel
theorem dX8_remember_31 : decode cX8_remember 31 = .ok (.getfield 31, 3) := by decide +kernel
theorem dX8_remember_34 : decode cX8_remember 34 = .ok (.iconst 1, 1) := by decide +kernel
theorem dX8_remember_35 : decode cX8_remember 35 = .ok (.iadd, 1) := by decide +kernel
theorem dX8_remember_36 : decode cX8_remember 36 = .ok (.bipush 8, 2) := by decide +kernel
theorem dX8_remember_38 : decode cX8_remember 38 = .ok (.invokestatic 356, 3) := by decide +kernel
theorem dX8_remember_41 : decode cX8_remember 41 = .ok (.putfield 31, 3) := by decide +kernel
theorem dX8_remember_44 : decode cX8_remember 44 = .ok (.return_, 1) := by decide +kernel
theorem dX8_existingReader_0 : decode cX8_existingReader 0 = .ok (.aload_n 0, 1) := by decide +kernel
theorem dX8_existingReader_1 : decode cX8_existingReader 1 = .ok (.getfield 13, 3) := by decide +kernel
theorem dX8_existingReader_4 : decode cX8_existingReader 4 = .ok (.iload_n 1, 1) := by decide +kernel
theorem dX8_existingReader_5 : decode cX8_existingReader 5 = .ok (.invokevirtual 361, 3) := by decide +kernel
theorem dX8_existingReader_8 : decode cX8_existingReader 8 = .ok (.astore_n 2, 1) := by decide +kernel
theorem dX8_existingReader_9 : decode cX8_existingReader 9 = .ok (.aload_n 2, 1) := by decide +kernel
theorem dX8_existingReader_10 : decode cX8_existingReader 10 = .ok (.ifnonnull 14, 3) := by decide +kernel
theorem dX8_existingReader_13 : decode cX8_existingReader 13 = .ok (.new 364, 3) := by decide +kernel
theorem dX8_existingReader_16 : decode cX8_existingReader 16 = .ok (.dup, 1) := by decide +kernel
theorem dX8_existingReader_17 : decode cX8_existingReader 17 = .ok (.ldc_w 366, 3) := by decide +kernel
theorem dX8_existingReader_20 : decode cX8_existingReader 20 = .ok (.invokespecial 368, 3) := by decide +kernel
theorem dX8_existingReader_23 : decode cX8_existingReader 23 = .ok (.athrow, 1) := by decide +kernel
theorem dX8_existingReader_24 : decode cX8_existingReader 24 = .ok (.aload_n 2, 1) := by decide +kernel
theorem dX8_existingReader_25 : decode cX8_existingReader 25 = .ok (.areturn, 1) := by decide +kernel
theorem dX8_existingDocument_0 : decode cX8_existingDocument 0 = .ok (.aload_n 0, 1) := by decide +kernel
theorem dX8_existingDocument_1 : decode cX8_existingDocument 1 = .ok (.getfield 13, 3) := by decide +kernel
theorem dX8_existingDocument_4 : decode cX8_existingDocument 4 = .ok (.iload_n 1, 1) := by decide +kernel
theorem dX8_existingDocument_5 : decode cX8_existingDocument 5 = .ok (.invokevirtual 369, 3) := by decide +kernel
theorem dX8_existingDocument_8 : decode cX8_existingDocument 8 = .ok (.astore_n 2, 1) := by decide +kernel
theorem dX8_existingDocument_9 : decode cX8_existingDocument 9 = .ok (.aload_n 2, 1) := by decide +kernel
theorem dX8_existingDocument_10 : decode cX8_existingDocument 10 = .ok (.ifnonnull 14, 3) := by decide +kernel
theorem dX8_existingDocument_13 : decode cX8_existingDocument 13 = .ok (.new 364, 3) := by decide +kernel
theorem dX8_existingDocument_16 : decode cX8_existingDocument 16 = .ok (.dup, 1) := by decide +kernel
theorem dX8_existingDocument_17 : decode cX8_existingDocument 17 = .ok (.ldc_w 372, 3) := by decide +kernel
theorem dX8_existingDocument_20 : decode cX8_existingDocument 20 = .ok (.invokespecial 368, 3) := by decide +kernel
theorem dX8_existingDocument_23 : decode cX8_existingDocument 23 = .ok (.athrow, 1) := by decide +kernel
theorem dX8_existingDocument_24 : decode cX8_existingDocument 24 = .ok (.aload_n 2, 1) := by decide +kernel
theorem dX8_existingDocument_25 : decode cX8_existingDocument 25 = .ok (.areturn, 1) := by decide +kernel
theorem dX8_requireSlot_0 : decode cX8_requireSlot 0 = .ok (.iload_n 0, 1) := by decide +kernel
theorem dX8_requireSlot_1 : decode cX8_requireSlot 1 = .ok (.ifCond .lt 8, 3) := by decide +kernel
theorem dX8_requireSlot_4 : decode cX8_requireSlot 4 = .ok (.iload_n 0, 1) := by decide +kernel
theorem dX8_requireSlot_5 : decode cX8_requireSlot 5 = .ok (.iconst 2, 1) := by decide +kernel
theorem dX8_requireSlot_6 : decode cX8_requireSlot 6 = .ok (.if_icmp .lt 14, 3) := by decide +kernel
theorem dX8_requireSlot_9 : decode cX8_requireSlot 9 = .ok (.new 364, 3) := by decide +kernel
theorem dX8_requireSlot_12 : decode cX8_requireSlot 12 = .ok (.dup, 1) := by decide +kernel
theorem dX8_requireSlot_13 : decode cX8_requireSlot 13 = .ok (.ldc_w 374, 3) := by decide +kernel
theorem dX8_requireSlot_16 : decode cX8_requireSlot 16 = .ok (.invokespecial 368, 3) := by decide +kernel
theorem dX8_requireSlot_19 : decode cX8_requireSlot 19 = .ok (.athrow, 1) := by decide +kernel
theorem dX8_requireSlot_20 : decode cX8_requireSlot 20 = .ok (.return_, 1) := by decide +kernel
theorem dX8_requireMethod_0 : decode cX8_requireMethod 0 = .ok (.iload_n 0, 1) := by decide +kernel
theorem dX8_requireMethod_1 : decode cX8_requireMethod 1 = .ok (.ifCond .lt 8, 3) := by decide +kernel
theorem dX8_requireMethod_4 : decode cX8_requireMethod 4 = .ok (.iload_n 0, 1) := by decide +kernel
theorem dX8_requireMethod_5 : decode cX8_requireMethod 5 = .ok (.iconst 2, 1) := by decide +kernel
theorem dX8_requireMethod_6 : decode cX8_requireMethod 6 = .ok (.if_icmp .le 14, 3) := by decide +kernel
theorem dX8_requireMethod_9 : decode cX8_requireMethod 9 = .ok (.new 119, 3) := by decide +kernel
theorem dX8_requireMethod_12 : decode cX8_requireMethod 12 = .ok (.dup, 1) := by decide +kernel
theorem dX8_requireMethod_13 : decode cX8_requireMethod 13 = .ok (.ldc_w 376, 3) := by decide +kernel
theorem dX8_requireMethod_16 : decode cX8_requireMethod 16 = .ok (.invokespecial 123, 3) := by decide +kernel
theorem dX8_requireMethod_19 : decode cX8_requireMethod 19 = .ok (.athrow, 1) := by decide +kernel
theorem dX8_requireMethod_20 : decode cX8_requireMethod 20 = .ok (.return_, 1) := by decide +kernel
theorem dX8_requireSymbol_0 : decode cX8_requireSymbol 0 = .ok (.iload_n 0, 1) := by decide +kernel
theorem dX8_requireSymbol_1 : decode cX8_requireSymbol 1 = .ok (.invokestatic 378, 3) := by decide +kernel
theorem dX8_requireSymbol_4 : decode cX8_requireSymbol 4 = .ok (.ifCond .ne 14, 3) := by decide +kernel
theorem dX8_requireSymbol_7 : decode cX8_requireSymbol 7 = .ok (.new 119, 3) := by decide +kernel
theorem dX8_requireSymbol_10 : decode cX8_requireSymbol 10 = .ok (.dup, 1) := by decide +kernel
theorem dX8_requireSymbol_11 : decode cX8_requireSymbol 11 = .ok (.ldc_w 382, 3) := by decide +kernel
theorem dX8_requireSymbol_14 : decode cX8_requireSymbol 14 = .ok (.invokespecial 123, 3) := by decide +kernel
theorem dX8_requireSymbol_17 : decode cX8_requireSymbol 17 = .ok (.athrow, 1) := by decide +kernel
theorem dX8_requireSymbol_18 : decode cX8_requireSymbol 18 = .ok (.return_, 1) := by decide +kernel
theorem dX8_requireContext_0 : decode cX8_requireContext 0 = .ok (.iload_n 1, 1) := by decide +kernel
theorem dX8_requireContext_1 : decode cX8_requireContext 1 = .ok (.iconst (-1), 1) := by decide +kernel
theorem dX8_requireContext_2 : decode cX8_requireContext 2 = .ok (.if_icmp .ne 16, 3) := by decide +kernel
theorem dX8_requireContext_5 : decode cX8_requireContext 5 = .ok (.iload_n 0, 1) := by decide +kernel
theorem dX8_requireContext_6 : decode cX8_requireContext 6 = .ok (.iconst (-1), 1) := by decide +kernel
theorem dX8_requireContext_7 : decode cX8_requireContext 7 = .ok (.if_icmp .ne 7, 3) := by decide +kernel
theorem dX8_requireContext_10 : decode cX8_requireContext 10 = .ok (.iconst 1, 1) := by decide +kernel
theorem dX8_requireContext_11 : decode cX8_requireContext 11 = .ok (.goto 31, 3) := by decide +kernel
theorem dX8_requireContext_14 : decode cX8_requireContext 14 = .ok (.iconst 0, 1) := by decide +kernel
theorem dX8_requireContext_15 : decode cX8_requireContext 15 = .ok (.goto 27, 3) := by decide +kernel
theorem dX8_requireContext_18 : decode cX8_requireContext 18 = .ok (.iload_n 1, 1) := by decide +kernel
theorem dX8_requireContext_19 : decode cX8_requireContext 19 = .ok (.invokestatic 378, 3) := by decide +kernel
theorem dX8_requireContext_22 : decode cX8_requireContext 22 = .ok (.ifCond .eq 19, 3) := by decide +kernel
theorem dX8_requireContext_25 : decode cX8_requireContext 25 = .ok (.iload_n 0, 1) := by decide +kernel
theorem dX8_requireContext_26 : decode cX8_requireContext 26 = .ok (.iconst (-1), 1) := by decide +kernel
theorem dX8_requireContext_27 : decode cX8_requireContext 27 = .ok (.if_icmp .eq 10, 3) := by decide +kernel
theorem dX8_requireContext_30 : decode cX8_requireContext 30 = .ok (.iload_n 0, 1) := by decide +kernel
theorem dX8_requireContext_31 : decode cX8_requireContext 31 = .ok (.invokestatic 378, 3) := by decide +kernel
theorem dX8_requireContext_34 : decode cX8_requireContext 34 = .ok (.ifCond .eq 7, 3) := by decide +kernel
theorem dX8_requireContext_37 : decode cX8_requireContext 37 = .ok (.iconst 1, 1) := by decide +kernel
theorem dX8_requireContext_38 : decode cX8_requireContext 38 = .ok (.goto 4, 3) := by decide +kernel
theorem dX8_requireContext_41 : decode cX8_requireContext 41 = .ok (.iconst 0, 1) := by decide +kernel
theorem dX8_requireContext_42 : decode cX8_requireContext 42 = .ok (.istore_n 2, 1) := by decide +kernel
theorem dX8_requireContext_43 : decode cX8_requireContext 43 = .ok (.iload_n 2, 1) := by decide +kernel
theorem dX8_requireContext_44 : decode cX8_requireContext 44 = .ok (.ifCond .ne 14, 3) := by decide +kernel
theorem dX8_requireContext_47 : decode cX8_requireContext 47 = .ok (.new 119, 3) := by decide +kernel
theorem dX8_requireContext_50 : decode cX8_requireContext 50 = .ok (.dup, 1) := by decide +kernel
theorem dX8_requireContext_51 : decode cX8_requireContext 51 = .ok (.ldc_w 384, 3) := by decide +kernel
theorem dX8_requireContext_54 : decode cX8_requireContext 54 = .ok (.invokespecial 123, 3) := by decide +kernel
theorem dX8_requireContext_57 : decode cX8_requireContext 57 = .ok (.athrow, 1) := by decide +kernel
theorem dX8_requireContext_58 : decode cX8_requireContext 58 = .ok (.return_, 1) := by decide +kernel
theorem dX8_isSymbol_0 : decode cX8_isSymbol 0 = .ok (.iload_n 0, 1) := by decide +kernel
theorem dX8_isSymbol_1 : decode cX8_isSymbol 1 = .ok (.ifCond .lt 13, 3) := by decide +kernel
theorem dX8_isSymbol_4 : decode cX8_isSymbol 4 = .ok (.iload_n 0, 1) := by decide +kernel
theorem dX8_isSymbol_5 : decode cX8_isSymbol 5 = .ok (.bipush 27, 2) := by decide +kernel
theorem dX8_isSymbol_7 : decode cX8_isSymbol 7 = .ok (.if_icmp .ge 7, 3) := by decide +kernel
theorem dX8_isSymbol_10 : decode cX8_isSymbol 10 = .ok (.iconst 1, 1) := by decide +kernel
theorem dX8_isSymbol_11 : decode cX8_isSymbol 11 = .ok (.goto 4, 3) := by decide +kernel
theorem dX8_isSymbol_14 : decode cX8_isSymbol 14 = .ok (.iconst 0, 1) := by decide +kernel
theorem dX8_isSymbol_15 : decode cX8_isSymbol 15 = .ok (.ireturn, 1) := by decide +kernel
theorem dX8_firstOrder_0 : decode cX8_firstOrder 0 = .ok (.iload_n 1, 1) := by decide +kernel
theorem dX8_firstOrder_1 : decode cX8_firstOrder 1 = .ok (.iconst (-1), 1) := by decide +kernel
theorem dX8_firstOrder_2 : decode cX8_firstOrder 2 = .ok (.if_icmp .ne 5, 3) := by decide +kernel
theorem dX8_firstOrder_5 : decode cX8_firstOrder 5 = .ok (.iconst 0, 1) := by decide +kernel
theorem dX8_firstOrder_6 : decode cX8_firstOrder 6 = .ok (.ireturn, 1) := by decide +kernel
theorem dX8_firstOrder_7 : decode cX8_firstOrder 7 = .ok (.iload_n 0, 1) := by decide +kernel
theorem dX8_firstOrder_8 : decode cX8_firstOrder 8 = .ok (.iconst (-1), 1) := by decide +kernel
theorem dX8_firstOrder_9 : decode cX8_firstOrder 9 = .ok (.if_icmp .ne 7, 3) := by decide +kernel
theorem dX8_firstOrder_12 : decode cX8_firstOrder 12 = .ok (.iconst 1, 1) := by decide +kernel
theorem dX8_firstOrder_13 : decode cX8_firstOrder 13 = .ok (.goto 4, 3) := by decide +kernel
theorem dX8_firstOrder_16 : decode cX8_firstOrder 16 = .ok (.iconst 2, 1) := by decide +kernel
theorem dX8_firstOrder_17 : decode cX8_firstOrder 17 = .ok (.ireturn, 1) := by decide +kernel
theorem dX8_contextStart_0 : decode cX8_contextStart 0 = .ok (.iload_n 0, 1) := by decide +kernel
theorem dX8_contextStart_1 : decode cX8_contextStart 1 = .ok (.ifCond .ne 5, 3) := by decide +kernel
theorem dX8_contextStart_4 : decode cX8_contextStart 4 = .ok (.iconst 0, 1) := by decide +kernel
theorem dX8_contextStart_5 : decode cX8_contextStart 5 = .ok (.ireturn, 1) := by decide +kernel
theorem dX8_contextStart_6 : decode cX8_contextStart 6 = .ok (.iload_n 0, 1) := by decide +kernel
theorem dX8_contextStart_7 : decode cX8_contextStart 7 = .ok (.iconst 1, 1) := by decide +kernel
theorem dX8_contextStart_8 : decode cX8_contextStart 8 = .ok (.if_icmp .ne 11, 3) := by decide +kernel
theorem dX8_contextStart_11 : decode cX8_contextStart 11 = .ok (.bipush 27, 2) := by decide +kernel
theorem dX8_contextStart_13 : decode cX8_contextStart 13 = .ok (.iload_n 2, 1) := by decide +kernel
theorem dX8_contextStart_14 : decode cX8_contextStart 14 = .ok (.bipush 27, 2) := by decide +kernel
theorem dX8_contextStart_16 : decode cX8_contextStart 16 = .ok (.imul, 1) := by decide +kernel
theorem dX8_contextStart_17 : decode cX8_contextStart 17 = .ok (.iadd, 1) := by decide +kernel
theorem dX8_contextStart_18 : decode cX8_contextStart 18 = .ok (.ireturn, 1) := by decide +kernel
theorem dX8_contextStart_19 : decode cX8_contextStart 19 = .ok (.sipush 756, 3) := by decide +kernel
theorem dX8_contextStart_22 : decode cX8_contextStart 22 = .ok (.iload_n 1, 1) := by decide +kernel
theorem dX8_contextStart_23 : decode cX8_contextStart 23 = .ok (.bipush 27, 2) := by decide +kernel
theorem dX8_contextStart_25 : decode cX8_contextStart 25 = .ok (.imul, 1) := by decide +kernel
theorem dX8_contextStart_26 : decode cX8_contextStart 26 = .ok (.iload_n 2, 1) := by decide +kernel
theorem dX8_contextStart_27 : decode cX8_contextStart 27 = .ok (.iadd, 1) := by decide +kernel
theorem dX8_contextStart_28 : decode cX8_contextStart 28 = .ok (.bipush 27, 2) := by decide +kernel
theorem dX8_contextStart_30 : decode cX8_contextStart 30 = .ok (.imul, 1) := by decide +kernel
theorem dX8_contextStart_31 : decode cX8_contextStart 31 = .ok (.iadd, 1) := by decide +kernel
theorem dX8_contextStart_32 : decode cX8_contextStart 32 = .ok (.ireturn, 1) := by decide +kernel
theorem dX8_chanceOf_0 : decode cX8_chanceOf 0 = .ok (.aload_n 0, 1) := by decide +kernel
theorem dX8_chanceOf_1 : decode cX8_chanceOf 1 = .ok (.iload_n 1, 1) := by decide +kernel
theorem dX8_chanceOf_2 : decode cX8_chanceOf 2 = .ok (.invokevirtual 149, 3) := by decide +kernel
theorem dX8_chanceOf_5 : decode cX8_chanceOf 5 = .ok (.astore 5, 2) := by decide +kernel
theorem dX8_chanceOf_7 : decode cX8_chanceOf 7 = .ok (.iload_n 2, 1) := by decide +kernel
theorem dX8_chanceOf_8 : decode cX8_chanceOf 8 = .ok (.iload_n 3, 1) := by decide +kernel
theorem dX8_chanceOf_9 : decode cX8_chanceOf 9 = .ok (.invokestatic 198, 3) := by decide +kernel
theorem dX8_chanceOf_12 : decode cX8_chanceOf 12 = .ok (.iload 4, 2) := by decide +kernel
theorem dX8_chanceOf_14 : decode cX8_chanceOf 14 = .ok (.invokestatic 185, 3) := by decide +kernel
theorem dX8_chanceOf_17 : decode cX8_chanceOf 17 = .ok (.aload_n 0, 1) := by decide +kernel
theorem dX8_chanceOf_18 : decode cX8_chanceOf 18 = .ok (.getfield 74, 3) := by decide +kernel
theorem dX8_chanceOf_21 : decode cX8_chanceOf 21 = .ok (.aload 5, 2) := by decide +kernel
theorem dX8_chanceOf_23 : decode cX8_chanceOf 23 = .ok (.iload_n 2, 1) := by decide +kernel
theorem dX8_chanceOf_24 : decode cX8_chanceOf 24 = .ok (.iload_n 3, 1) := by decide +kernel
theorem dX8_chanceOf_25 : decode cX8_chanceOf 25 = .ok (.iload 4, 2) := by decide +kernel
theorem dX8_chanceOf_27 : decode cX8_chanceOf 27 = .ok (.invokevirtual 270, 3) := by decide +kernel
theorem dX8_chanceOf_30 : decode cX8_chanceOf 30 = .ok (.aload_n 0, 1) := by decide +kernel
theorem dX8_chanceOf_31 : decode cX8_chanceOf 31 = .ok (.getfield 74, 3) := by decide +kernel
theorem dX8_chanceOf_34 : decode cX8_chanceOf 34 = .ok (.areturn, 1) := by decide +kernel
theorem dX8_guessIn_0 : decode cX8_guessIn 0 = .ok (.aload_n 0, 1) := by decide +kernel
theorem dX8_guessIn_1 : decode cX8_guessIn 1 = .ok (.getfield 67, 3) := by decide +kernel
theorem dX8_guessIn_4 : decode cX8_guessIn 4 = .ok (.aload_n 1, 1) := by decide +kernel
theorem dX8_guessIn_5 : decode cX8_guessIn 5 = .ok (.iload_n 2, 1) := by decide +kernel
theorem dX8_guessIn_6 : decode cX8_guessIn 6 = .ok (.iload_n 3, 1) := by decide +kernel
theorem dX8_guessIn_7 : decode cX8_guessIn 7 = .ok (.invokevirtual 386, 3) := by decide +kernel
theorem dX8_guessIn_10 : decode cX8_guessIn 10 = .ok (.aload_n 0, 1) := by decide +kernel
theorem dX8_guessIn_11 : decode cX8_guessIn 11 = .ok (.getfield 67, 3) := by decide +kernel
theorem dX8_guessIn_14 : decode cX8_guessIn 14 = .ok (.iload 4, 2) := by decide +kernel
theorem dX8_guessIn_16 : decode cX8_guessIn 16 = .ok (.invokevirtual 390, 3) := by decide +kernel
theorem dX8_guessIn_19 : decode cX8_guessIn 19 = .ok (.ireturn, 1) := by decide +kernel
theorem dX8_rankIn_0 : decode cX8_rankIn 0 = .ok (.aload_n 0, 1) := by decide +kernel
theorem dX8_rankIn_1 : decode cX8_rankIn 1 = .ok (.getfield 67, 3) := by decide +kernel
theorem dX8_rankIn_4 : decode cX8_rankIn 4 = .ok (.aload_n 1, 1) := by decide +kernel
theorem dX8_rankIn_5 : decode cX8_rankIn 5 = .ok (.iload_n 2, 1) := by decide +kernel
theorem dX8_rankIn_6 : decode cX8_rankIn 6 = .ok (.iload_n 3, 1) := by decide +kernel
theorem dX8_rankIn_7 : decode cX8_rankIn 7 = .ok (.invokevirtual 386, 3) := by decide +kernel
theorem dX8_rankIn_10 : decode cX8_rankIn 10 = .ok (.aload_n 0, 1) := by decide +kernel
theorem dX8_rankIn_11 : decode cX8_rankIn 11 = .ok (.getfield 67, 3) := by decide +kernel
theorem dX8_rankIn_14 : decode cX8_rankIn 14 = .ok (.iload 4, 2) := by decide +kernel
theorem dX8_rankIn_16 : decode cX8_rankIn 16 = .ok (.invokevirtual 393, 3) := by decide +kernel
theorem dX8_rankIn_19 : decode cX8_rankIn 19 = .ok (.ireturn, 1) := by decide +kernel
theorem dX8_orderOf_0 : decode cX8_orderOf 0 = .ok (.iload_n 1, 1) := by decide +kernel
theorem dX8_orderOf_1 : decode cX8_orderOf 1 = .ok (.iload_n 2, 1) := by decide +kernel
theorem dX8_orderOf_2 : decode cX8_orderOf 2 = .ok (.invokestatic 202, 3) := by decide +kernel
theorem dX8_orderOf_5 : decode cX8_orderOf 5 = .ok (.istore 4, 2) := by decide +kernel
theorem dX8_orderOf_7 : decode cX8_orderOf 7 = .ok (.iload 4, 2) := by decide +kernel
theorem dX8_orderOf_9 : decode cX8_orderOf 9 = .ok (.ifCond .lt 28, 3) := by decide +kernel
theorem dX8_orderOf_12 : decode cX8_orderOf 12 = .ok (.aload_n 0, 1) := by decide +kernel
theorem dX8_orderOf_13 : decode cX8_orderOf 13 = .ok (.iload 4, 2) := by decide +kernel
theorem dX8_orderOf_15 : decode cX8_orderOf 15 = .ok (.iload_n 1, 1) := by decide +kernel
theorem dX8_orderOf_16 : decode cX8_orderOf 16 = .ok (.iload_n 2, 1) := by decide +kernel
theorem dX8_orderOf_17 : decode cX8_orderOf 17 = .ok (.invokestatic 191, 3) := by decide +kernel
theorem dX8_orderOf_20 : decode cX8_orderOf 20 = .ok (.iload_n 3, 1) := by decide +kernel
theorem dX8_orderOf_21 : decode cX8_orderOf 21 = .ok (.iadd, 1) := by decide +kernel
theorem dX8_orderOf_22 : decode cX8_orderOf 22 = .ok (.invokevirtual 195, 3) := by decide +kernel
theorem dX8_orderOf_25 : decode cX8_orderOf 25 = .ok (.ifCond .le 6, 3) := by decide +kernel
theorem dX8_orderOf_28 : decode cX8_orderOf 28 = .ok (.iload 4, 2) := by decide +kernel
theorem dX8_orderOf_30 : decode cX8_orderOf 30 = .ok (.ireturn, 1) := by decide +kernel
theorem dX8_orderOf_31 : decode cX8_orderOf 31 = .ok (.iinc 4 (-1), 3) := by decide +kernel
theorem dX8_orderOf_34 : decode cX8_orderOf 34 = .ok (.goto (-27), 3) := by decide +kernel
theorem dX8_orderOf_37 : decode cX8_orderOf 37 = .ok (.iconst (-1), 1) := by decide +kernel
theorem dX8_orderOf_38 : decode cX8_orderOf 38 = .ok (.ireturn, 1) := by decide +kernel
theorem dX8_agreeAfter_0 : decode cX8_agreeAfter 0 = .ok (.iload_n 3, 1) := by decide +kernel
theorem dX8_agreeAfter_1 : decode cX8_agreeAfter 1 = .ok (.bipush 27, 2) := by decide +kernel
theorem dX8_agreeAfter_3 : decode cX8_agreeAfter 3 = .ok (.idiv, 1) := by decide +kernel
theorem dX8_agreeAfter_4 : decode cX8_agreeAfter 4 = .ok (.istore 4, 2) := by decide +kernel
theorem dX8_agreeAfter_6 : decode cX8_agreeAfter 6 = .ok (.iload_n 3, 1) := by decide +kernel
theorem dX8_agreeAfter_7 : decode cX8_agreeAfter 7 = .ok (.bipush 27, 2) := by decide +kernel
theorem dX8_agreeAfter_9 : decode cX8_agreeAfter 9 = .ok (.irem, 1) := by decide +kernel
theorem dX8_agreeAfter_10 : decode cX8_agreeAfter 10 = .ok (.istore 5, 2) := by decide +kernel
theorem dX8_agreeAfter_12 : decode cX8_agreeAfter 12 = .ok (.aload_n 0, 1) := by decide +kernel
theorem dX8_agreeAfter_13 : decode cX8_agreeAfter 13 = .ok (.aload_n 1, 1) := by decide +kernel
theorem dX8_agreeAfter_14 : decode cX8_agreeAfter 14 = .ok (.iload 4, 2) := by decide +kernel
theorem dX8_agreeAfter_16 : decode cX8_agreeAfter 16 = .ok (.iload 5, 2) := by decide +kernel
theorem dX8_agreeAfter_18 : decode cX8_agreeAfter 18 = .ok (.iconst 1, 1) := by decide +kernel
theorem dX8_agreeAfter_19 : decode cX8_agreeAfter 19 = .ok (.invokevirtual 226, 3) := by decide +kernel
theorem dX8_agreeAfter_22 : decode cX8_agreeAfter 22 = .ok (.aload_n 0, 1) := by decide +kernel
theorem dX8_agreeAfter_23 : decode cX8_agreeAfter 23 = .ok (.aload_n 2, 1) := by decide +kernel
theorem dX8_agreeAfter_24 : decode cX8_agreeAfter 24 = .ok (.iload 4, 2) := by decide +kernel
theorem dX8_agreeAfter_26 : decode cX8_agreeAfter 26 = .ok (.iload 5, 2) := by decide +kernel
theorem dX8_agreeAfter_28 : decode cX8_agreeAfter 28 = .ok (.iconst 1, 1) := by decide +kernel
theorem dX8_agreeAfter_29 : decode cX8_agreeAfter 29 = .ok (.invokevirtual 226, 3) := by decide +kernel
theorem dX8_agreeAfter_32 : decode cX8_agreeAfter 32 = .ok (.if_icmp .ne 7, 3) := by decide +kernel
theorem dX8_agreeAfter_35 : decode cX8_agreeAfter 35 = .ok (.iconst 1, 1) := by decide +kernel
theorem dX8_agreeAfter_36 : decode cX8_agreeAfter 36 = .ok (.goto 4, 3) := by decide +kernel
theorem dX8_agreeAfter_39 : decode cX8_agreeAfter 39 = .ok (.iconst 0, 1) := by decide +kernel
theorem dX8_agreeAfter_40 : decode cX8_agreeAfter 40 = .ok (.ireturn, 1) := by decide +kernel
theorem dX8_rankOfPosition_0 : decode cX8_rankOfPosition 0 = .ok (.aload_n 0, 1) := by decide +kernel
theorem dX8_rankOfPosition_1 : decode cX8_rankOfPosition 1 = .ok (.aload_n 1, 1) := by decide +kernel
theorem dX8_rankOfPosition_2 : decode cX8_rankOfPosition 2 = .ok (.aload_n 2, 1) := by decide +kernel
theorem dX8_rankOfPosition_3 : decode cX8_rankOfPosition 3 = .ok (.iload_n 3, 1) := by decide +kernel
theorem dX8_rankOfPosition_4 : decode cX8_rankOfPosition 4 = .ok (.iconst 2, 1) := by decide +kernel
theorem dX8_rankOfPosition_5 : decode cX8_rankOfPosition 5 = .ok (.isub, 1) := by decide +kernel
theorem dX8_rankOfPosition_6 : decode cX8_rankOfPosition 6 = .ok (.invokevirtual 177, 3) := by decide +kernel
theorem dX8_rankOfPosition_9 : decode cX8_rankOfPosition 9 = .ok (.aload_n 2, 1) := by decide +kernel
theorem dX8_rankOfPosition_10 : decode cX8_rankOfPosition 10 = .ok (.iload_n 3, 1) := by decide +kernel
theorem dX8_rankOfPosition_11 : decode cX8_rankOfPosition 11 = .ok (.iconst 1, 1) := by decide +kernel
theorem dX8_rankOfPosition_12 : decode cX8_rankOfPosition 12 = .ok (.isub, 1) := by decide +kernel
theorem dX8_rankOfPosition_13 : decode cX8_rankOfPosition 13 = .ok (.invokevirtual 177, 3) := by decide +kernel
theorem dX8_rankOfPosition_16 : decode cX8_rankOfPosition 16 = .ok (.aload_n 2, 1) := by decide +kernel
theorem dX8_rankOfPosition_17 : decode cX8_rankOfPosition 17 = .ok (.iload_n 3, 1) := by decide +kernel
theorem dX8_rankOfPosition_18 : decode cX8_rankOfPosition 18 = .ok (.invokevirtual 177, 3) := by decide +kernel
theorem dX8_rankOfPosition_21 : decode cX8_rankOfPosition 21 = .ok (.invokevirtual 230, 3) := by decide +kernel
theorem dX8_rankOfPosition_24 : decode cX8_rankOfPosition 24 = .ok (.ireturn, 1) := by decide +kernel
theorem dX8_guessesFor_0 : decode cX8_guessesFor 0 = .ok (.iconst 0, 1) := by decide +kernel
theorem dX8_guessesFor_1 : decode cX8_guessesFor 1 = .ok (.istore_n 3, 1) := by decide +kernel
theorem dX8_guessesFor_2 : decode cX8_guessesFor 2 = .ok (.iconst 0, 1) := by decide +kernel
theorem dX8_guessesFor_3 : decode cX8_guessesFor 3 = .ok (.istore 4, 2) := by decide +kernel
theorem dX8_guessesFor_5 : decode cX8_guessesFor 5 = .ok (.iload 4, 2) := by decide +kernel
theorem dX8_guessesFor_7 : decode cX8_guessesFor 7 = .ok (.aload_n 2, 1) := by decide +kernel
theorem dX8_guessesFor_8 : decode cX8_guessesFor 8 = .ok (.getfield 174, 3) := by decide +kernel
theorem dX8_guessesFor_11 : decode cX8_guessesFor 11 = .ok (.if_icmp .ge 20, 3) := by decide +kernel
theorem dX8_guessesFor_14 : decode cX8_guessesFor 14 = .ok (.iload_n 3, 1) := by decide +kernel
theorem dX8_guessesFor_15 : decode cX8_guessesFor 15 = .ok (.aload_n 0, 1) := by decide +kernel
theorem dX8_guessesFor_16 : decode cX8_guessesFor 16 = .ok (.aload_n 1, 1) := by decide +kernel
theorem dX8_guessesFor_17 : decode cX8_guessesFor 17 = .ok (.aload_n 2, 1) := by decide +kernel
theorem dX8_guessesFor_18 : decode cX8_guessesFor 18 = .ok (.iload 4, 2) := by decide +kernel
theorem dX8_guessesFor_20 : decode cX8_guessesFor 20 = .ok (.invokevirtual 253, 3) := by decide +kernel
theorem dX8_guessesFor_23 : decode cX8_guessesFor 23 = .ok (.iadd, 1) := by decide +kernel
theorem dX8_guessesFor_24 : decode cX8_guessesFor 24 = .ok (.istore_n 3, 1) := by decide +kernel
theorem dX8_guessesFor_25 : decode cX8_guessesFor 25 = .ok (.iinc 4 1, 3) := by decide +kernel
theorem dX8_guessesFor_28 : decode cX8_guessesFor 28 = .ok (.goto (-23), 3) := by decide +kernel
theorem dX8_guessesFor_31 : decode cX8_guessesFor 31 = .ok (.iload_n 3, 1) := by decide +kernel
theorem dX8_guessesFor_32 : decode cX8_guessesFor 32 = .ok (.ireturn, 1) := by decide +kernel
theorem dX8_guessesWhileLearning_0 : decode cX8_guessesWhileLearning 0 = .ok (.iconst 0, 1) := by decide +kernel
theorem dX8_guessesWhileLearning_1 : decode cX8_guessesWhileLearning 1 = .ok (.istore_n 3, 1) := by decide +kernel
theorem dX8_guessesWhileLearning_2 : decode cX8_guessesWhileLearning 2 = .ok (.iconst 0, 1) := by decide +kernel
theorem dX8_guessesWhileLearning_3 : decode cX8_guessesWhileLearning 3 = .ok (.istore 4, 2) := by decide +kernel
theorem dX8_guessesWhileLearning_5 : decode cX8_guessesWhileLearning 5 = .ok (.iload 4, 2) := by decide +kernel
theorem dX8_guessesWhileLearning_7 : decode cX8_guessesWhileLearning 7 = .ok (.aload_n 2, 1) := by decide +kernel
theorem dX8_guessesWhileLearning_8 : decode cX8_guessesWhileLearning 8 = .ok (.getfield 174, 3) := by decide +kernel
theorem dX8_guessesWhileLearning_11 : decode cX8_guessesWhileLearning 11 = .ok (.if_icmp .ge 27, 3) := by decide +kernel
theorem dX8_guessesWhileLearning_14 : decode cX8_guessesWhileLearning 14 = .ok (.iload_n 3, 1) := by decide +kernel
theorem dX8_guessesWhileLearning_15 : decode cX8_guessesWhileLearning 15 = .ok (.aload_n 0, 1) := by decide +kernel
theorem dX8_guessesWhileLearning_16 : decode cX8_guessesWhileLearning 16 = .ok (.aload_n 1, 1) := by decide +kernel
theorem dX8_guessesWhileLearning_17 : decode cX8_guessesWhileLearning 17 = .ok (.aload_n 2, 1) := by decide +kernel
theorem dX8_guessesWhileLearning_18 : decode cX8_guessesWhileLearning 18 = .ok (.iload 4, 2) := by decide +kernel
theorem dX8_guessesWhileLearning_20 : decode cX8_guessesWhileLearning 20 = .ok (.invokevirtual 253, 3) := by decide +kernel
theorem dX8_guessesWhileLearning_23 : decode cX8_guessesWhileLearning 23 = .ok (.iadd, 1) := by decide +kernel
theorem dX8_guessesWhileLearning_24 : decode cX8_guessesWhileLearning 24 = .ok (.istore_n 3, 1) := by decide +kernel
theorem dX8_guessesWhileLearning_25 : decode cX8_guessesWhileLearning 25 = .ok (.aload_n 1, 1) := by decide +kernel
theorem dX8_guessesWhileLearning_26 : decode cX8_guessesWhileLearning 26 = .ok (.aload_n 2, 1) := by decide +kernel
theorem dX8_guessesWhileLearning_27 : decode cX8_guessesWhileLearning 27 = .ok (.iload 4, 2) := by decide +kernel
theorem dX8_guessesWhileLearning_29 : decode cX8_guessesWhileLearning 29 = .ok (.invokevirtual 396, 3) := by decide +kernel
theorem dX8_guessesWhileLearning_32 : decode cX8_guessesWhileLearning 32 = .ok (.iinc 4 1, 3) := by decide +kernel
theorem dX8_guessesWhileLearning_35 : decode cX8_guessesWhileLearning 35 = .ok (.goto (-30), 3) := by decide +kernel
theorem dX8_guessesWhileLearning_38 : decode cX8_guessesWhileLearning 38 = .ok (.iload_n 3, 1) := by decide +kernel
theorem dX8_guessesWhileLearning_39 : decode cX8_guessesWhileLearning 39 = .ok (.ireturn, 1) := by decide +kernel
theorem dX8_hitsFor_0 : decode cX8_hitsFor 0 = .ok (.iconst 0, 1) := by decide +kernel
theorem dX8_hitsFor_1 : decode cX8_hitsFor 1 = .ok (.istore_n 3, 1) := by decide +kernel
theorem dX8_hitsFor_2 : decode cX8_hitsFor 2 = .ok (.iconst 0, 1) := by decide +kernel
theorem dX8_hitsFor_3 : decode cX8_hitsFor 3 = .ok (.istore 4, 2) := by decide +kernel
theorem dX8_hitsFor_5 : decode cX8_hitsFor 5 = .ok (.iload 4, 2) := by decide +kernel
theorem dX8_hitsFor_7 : decode cX8_hitsFor 7 = .ok (.aload_n 2, 1) := by decide +kernel
theorem dX8_hitsFor_8 : decode cX8_hitsFor 8 = .ok (.getfield 174, 3) := by decide +kernel
theorem dX8_hitsFor_11 : decode cX8_hitsFor 11 = .ok (.if_icmp .ge 24, 3) := by decide +kernel
theorem dX8_hitsFor_14 : decode cX8_hitsFor 14 = .ok (.aload_n 0, 1) := by decide +kernel
theorem dX8_hitsFor_15 : decode cX8_hitsFor 15 = .ok (.aload_n 1, 1) := by decide +kernel
theorem dX8_hitsFor_16 : decode cX8_hitsFor 16 = .ok (.aload_n 2, 1) := by decide +kernel
theorem dX8_hitsFor_17 : decode cX8_hitsFor 17 = .ok (.iload 4, 2) := by decide +kernel
theorem dX8_hitsFor_19 : decode cX8_hitsFor 19 = .ok (.invokevirtual 253, 3) := by decide +kernel
theorem dX8_hitsFor_22 : decode cX8_hitsFor 22 = .ok (.iconst 1, 1) := by decide +kernel
theorem dX8_hitsFor_23 : decode cX8_hitsFor 23 = .ok (.if_icmp .ne 6, 3) := by decide +kernel
theorem dX8_hitsFor_26 : decode cX8_hitsFor 26 = .ok (.iinc 3 1, 3) := by decide +kernel
theorem dX8_hitsFor_29 : decode cX8_hitsFor 29 = .ok (.iinc 4 1, 3) := by decide +kernel
theorem dX8_hitsFor_32 : decode cX8_hitsFor 32 = .ok (.goto (-27), 3) := by decide +kernel
theorem dX8_hitsFor_35 : decode cX8_hitsFor 35 = .ok (.iload_n 3, 1) := by decide +kernel
theorem dX8_hitsFor_36 : decode cX8_hitsFor 36 = .ok (.ireturn, 1) := by decide +kernel
theorem dX8_readRanks_0 : decode cX8_readRanks 0 = .ok (.iconst 0, 1) := by decide +kernel
theorem dX8_readRanks_1 : decode cX8_readRanks 1 = .ok (.istore_n 1, 1) := by decide +kernel
theorem dX8_readRanks_2 : decode cX8_readRanks 2 = .ok (.iconst 0, 1) := by decide +kernel
theorem dX8_readRanks_3 : decode cX8_readRanks 3 = .ok (.istore_n 2, 1) := by decide +kernel
theorem dX8_readRanks_4 : decode cX8_readRanks 4 = .ok (.iconst 0, 1) := by decide +kernel
theorem dX8_readRanks_5 : decode cX8_readRanks 5 = .ok (.istore_n 3, 1) := by decide +kernel
theorem dX8_readRanks_6 : decode cX8_readRanks 6 = .ok (.iload_n 3, 1) := by decide +kernel
theorem dX8_readRanks_7 : decode cX8_readRanks 7 = .ok (.aload_n 0, 1) := by decide +kernel
theorem dX8_readRanks_8 : decode cX8_readRanks 8 = .ok (.getfield 44, 3) := by decide +kernel
theorem dX8_readRanks_11 : decode cX8_readRanks 11 = .ok (.getfield 107, 3) := by decide +kernel
theorem dX8_readRanks_14 : decode cX8_readRanks 14 = .ok (.if_icmp .gt 96, 3) := by decide +kernel
theorem dX8_readRanks_17 : decode cX8_readRanks 17 = .ok (.aload_n 0, 1) := by decide +kernel
theorem dX8_readRanks_18 : decode cX8_readRanks 18 = .ok (.getfield 44, 3) := by decide +kernel
theorem dX8_readRanks_21 : decode cX8_readRanks 21 = .ok (.iload_n 3, 1) := by decide +kernel
theorem dX8_readRanks_22 : decode cX8_readRanks 22 = .ok (.invokevirtual 344, 3) := by decide +kernel
theorem dX8_readRanks_25 : decode cX8_readRanks 25 = .ok (.istore 4, 2) := by decide +kernel
theorem dX8_readRanks_27 : decode cX8_readRanks 27 = .ok (.iload 4, 2) := by decide +kernel
theorem dX8_readRanks_29 : decode cX8_readRanks 29 = .ok (.invokestatic 400, 3) := by decide +kernel
theorem dX8_readRanks_32 : decode cX8_readRanks 32 = .ok (.ifCond .eq 13, 3) := by decide +kernel
theorem dX8_readRanks_35 : decode cX8_readRanks 35 = .ok (.iload_n 2, 1) := by decide +kernel
theorem dX8_readRanks_36 : decode cX8_readRanks 36 = .ok (.iload 4, 2) := by decide +kernel
theorem dX8_readRanks_38 : decode cX8_readRanks 38 = .ok (.invokestatic 403, 3) := by decide +kernel
theorem dX8_readRanks_41 : decode cX8_readRanks 41 = .ok (.istore_n 2, 1) := by decide +kernel
theorem dX8_readRanks_42 : decode cX8_readRanks 42 = .ok (.goto 62, 3) := by decide +kernel
theorem dX8_readRanks_45 : decode cX8_readRanks 45 = .ok (.iload 4, 2) := by decide +kernel
theorem dX8_readRanks_47 : decode cX8_readRanks 47 = .ok (.bipush 44, 2) := by decide +kernel
theorem dX8_readRanks_49 : decode cX8_readRanks 49 = .ok (.if_icmp .eq 9, 3) := by decide +kernel
theorem dX8_readRanks_52 : decode cX8_readRanks 52 = .ok (.iload 4, 2) := by decide +kernel
theorem dX8_readRanks_54 : decode cX8_readRanks 54 = .ok (.iconst (-1), 1) := by decide +kernel
theorem dX8_readRanks_55 : decode cX8_readRanks 55 = .ok (.if_icmp .ne 7, 3) := by decide +kernel
theorem dX8_readRanks_58 : decode cX8_readRanks 58 = .ok (.iconst 1, 1) := by decide +kernel
theorem dX8_readRanks_59 : decode cX8_readRanks 59 = .ok (.goto 4, 3) := by decide +kernel
theorem dX8_readRanks_62 : decode cX8_readRanks 62 = .ok (.iconst 0, 1) := by decide +kernel
theorem dX8_readRanks_63 : decode cX8_readRanks 63 = .ok (.istore 5, 2) := by decide +kernel
theorem dX8_readRanks_65 : decode cX8_readRanks 65 = .ok (.iload 5, 2) := by decide +kernel
theorem dX8_readRanks_67 : decode cX8_readRanks 67 = .ok (.ifCond .eq 23, 3) := by decide +kernel
theorem dX8_readRanks_70 : decode cX8_readRanks 70 = .ok (.iload_n 2, 1) := by decide +kernel
theorem dX8_readRanks_71 : decode cX8_readRanks 71 = .ok (.iconst 1, 1) := by decide +kernel
theorem dX8_readRanks_72 : decode cX8_readRanks 72 = .ok (.if_icmp .lt 18, 3) := by decide +kernel
theorem dX8_readRanks_75 : decode cX8_readRanks 75 = .ok (.iload_n 2, 1) := by decide +kernel
theorem dX8_readRanks_76 : decode cX8_readRanks 76 = .ok (.bipush 27, 2) := by decide +kernel
theorem dX8_readRanks_78 : decode cX8_readRanks 78 = .ok (.if_icmp .gt 12, 3) := by decide +kernel
theorem dX8_readRanks_81 : decode cX8_readRanks 81 = .ok (.iload_n 1, 1) := by decide +kernel
theorem dX8_readRanks_82 : decode cX8_readRanks 82 = .ok (.aload_n 0, 1) := by decide +kernel
theorem dX8_readRanks_83 : decode cX8_readRanks 83 = .ok (.getfield 78, 3) := by decide +kernel
theorem dX8_readRanks_86 : decode cX8_readRanks 86 = .ok (.arraylength, 1) := by decide +kernel
theorem dX8_readRanks_87 : decode cX8_readRanks 87 = .ok (.if_icmp .lt 5, 3) := by decide +kernel
theorem dX8_readRanks_90 : decode cX8_readRanks 90 = .ok (.iconst 0, 1) := by decide +kernel
theorem dX8_readRanks_91 : decode cX8_readRanks 91 = .ok (.ireturn, 1) := by decide +kernel
theorem dX8_readRanks_92 : decode cX8_readRanks 92 = .ok (.aload_n 0, 1) := by decide +kernel
theorem dX8_readRanks_93 : decode cX8_readRanks 93 = .ok (.getfield 78, 3) := by decide +kernel
theorem dX8_readRanks_96 : decode cX8_readRanks 96 = .ok (.iload_n 1, 1) := by decide +kernel
theorem dX8_readRanks_97 : decode cX8_readRanks 97 = .ok (.iload_n 2, 1) := by decide +kernel
theorem dX8_readRanks_98 : decode cX8_readRanks 98 = .ok (.iastore, 1) := by decide +kernel
theorem dX8_readRanks_99 : decode cX8_readRanks 99 = .ok (.iinc 1 1, 3) := by decide +kernel
theorem dX8_readRanks_102 : decode cX8_readRanks 102 = .ok (.iconst 0, 1) := by decide +kernel
theorem dX8_readRanks_103 : decode cX8_readRanks 103 = .ok (.istore_n 2, 1) := by decide +kernel
theorem dX8_readRanks_104 : decode cX8_readRanks 104 = .ok (.iinc 3 1, 3) := by decide +kernel
theorem dX8_readRanks_107 : decode cX8_readRanks 107 = .ok (.goto (-101), 3) := by decide +kernel
theorem dX8_readRanks_110 : decode cX8_readRanks 110 = .ok (.iload_n 1, 1) := by decide +kernel
theorem dX8_readRanks_111 : decode cX8_readRanks 111 = .ok (.ireturn, 1) := by decide +kernel
theorem dX8_writeSymbols_0 : decode cX8_writeSymbols 0 = .ok (.iconst (-1), 1) := by decide +kernel
theorem dX8_writeSymbols_1 : decode cX8_writeSymbols 1 = .ok (.istore 4, 2) := by decide +kernel
theorem dX8_writeSymbols_3 : decode cX8_writeSymbols 3 = .ok (.iconst (-1), 1) := by decide +kernel
theorem dX8_writeSymbols_4 : decode cX8_writeSymbols 4 = .ok (.istore 5, 2) := by decide +kernel
theorem dX8_writeSymbols_6 : decode cX8_writeSymbols 6 = .ok (.aload_n 0, 1) := by decide +kernel
theorem dX8_writeSymbols_7 : decode cX8_writeSymbols 7 = .ok (.getfield 48, 3) := by decide +kernel
theorem dX8_writeSymbols_10 : decode cX8_writeSymbols 10 = .ok (.invokevirtual 127, 3) := by decide +kernel
theorem dX8_writeSymbols_13 : decode cX8_writeSymbols 13 = .ok (.iconst 0, 1) := by decide +kernel
theorem dX8_writeSymbols_14 : decode cX8_writeSymbols 14 = .ok (.istore 6, 2) := by decide +kernel
theorem dX8_writeSymbols_16 : decode cX8_writeSymbols 16 = .ok (.iload 6, 2) := by decide +kernel
theorem dX8_writeSymbols_18 : decode cX8_writeSymbols 18 = .ok (.iload_n 3, 1) := by decide +kernel
theorem dX8_writeSymbols_19 : decode cX8_writeSymbols 19 = .ok (.if_icmp .ge 63, 3) := by decide +kernel
theorem dX8_writeSymbols_22 : decode cX8_writeSymbols 22 = .ok (.iload 6, 2) := by decide +kernel
theorem dX8_writeSymbols_24 : decode cX8_writeSymbols 24 = .ok (.aload_n 2, 1) := by decide +kernel
theorem dX8_writeSymbols_25 : decode cX8_writeSymbols 25 = .ok (.arraylength, 1) := by decide +kernel
theorem dX8_writeSymbols_26 : decode cX8_writeSymbols 26 = .ok (.if_icmp .ge 56, 3) := by decide +kernel
theorem dX8_writeSymbols_29 : decode cX8_writeSymbols 29 = .ok (.aload_n 0, 1) := by decide +kernel
theorem dX8_writeSymbols_30 : decode cX8_writeSymbols 30 = .ok (.aload_n 1, 1) := by decide +kernel
theorem dX8_writeSymbols_31 : decode cX8_writeSymbols 31 = .ok (.iload 4, 2) := by decide +kernel
theorem dX8_writeSymbols_33 : decode cX8_writeSymbols 33 = .ok (.iload 5, 2) := by decide +kernel
theorem dX8_writeSymbols_35 : decode cX8_writeSymbols 35 = .ok (.aload_n 2, 1) := by decide +kernel
theorem dX8_writeSymbols_36 : decode cX8_writeSymbols 36 = .ok (.iload 6, 2) := by decide +kernel
theorem dX8_writeSymbols_38 : decode cX8_writeSymbols 38 = .ok (.iaload, 1) := by decide +kernel
theorem dX8_writeSymbols_39 : decode cX8_writeSymbols 39 = .ok (.invokevirtual 226, 3) := by decide +kernel
theorem dX8_writeSymbols_42 : decode cX8_writeSymbols 42 = .ok (.istore 7, 2) := by decide +kernel
theorem dX8_writeSymbols_44 : decode cX8_writeSymbols 44 = .ok (.aload_n 0, 1) := by decide +kernel
theorem dX8_writeSymbols_45 : decode cX8_writeSymbols 45 = .ok (.getfield 48, 3) := by decide +kernel
theorem dX8_writeSymbols_48 : decode cX8_writeSymbols 48 = .ok (.iload 7, 2) := by decide +kernel
theorem dX8_writeSymbols_50 : decode cX8_writeSymbols 50 = .ok (.bipush 26, 2) := by decide +kernel
theorem dX8_writeSymbols_52 : decode cX8_writeSymbols 52 = .ok (.if_icmp .ne 8, 3) := by decide +kernel
theorem dX8_writeSymbols_55 : decode cX8_writeSymbols 55 = .ok (.bipush 95, 2) := by decide +kernel
theorem dX8_writeSymbols_57 : decode cX8_writeSymbols 57 = .ok (.goto 8, 3) := by decide +kernel
theorem dX8_writeSymbols_60 : decode cX8_writeSymbols 60 = .ok (.bipush 97, 2) := by decide +kernel
theorem dX8_writeSymbols_62 : decode cX8_writeSymbols 62 = .ok (.iload 7, 2) := by decide +kernel
theorem dX8_writeSymbols_64 : decode cX8_writeSymbols 64 = .ok (.iadd, 1) := by decide +kernel
theorem dX8_writeSymbols_65 : decode cX8_writeSymbols 65 = .ok (.invokevirtual 94, 3) := by decide +kernel
theorem dX8_writeSymbols_68 : decode cX8_writeSymbols 68 = .ok (.iload 5, 2) := by decide +kernel
theorem dX8_writeSymbols_70 : decode cX8_writeSymbols 70 = .ok (.istore 4, 2) := by decide +kernel
theorem dX8_writeSymbols_72 : decode cX8_writeSymbols 72 = .ok (.iload 7, 2) := by decide +kernel
theorem dX8_writeSymbols_74 : decode cX8_writeSymbols 74 = .ok (.istore 5, 2) := by decide +kernel
theorem dX8_writeSymbols_76 : decode cX8_writeSymbols 76 = .ok (.iinc 6 1, 3) := by decide +kernel
theorem dX8_writeSymbols_79 : decode cX8_writeSymbols 79 = .ok (.goto (-63), 3) := by decide +kernel
theorem dX8_writeSymbols_82 : decode cX8_writeSymbols 82 = .ok (.return_, 1) := by decide +kernel
theorem dX8_isDigit_0 : decode cX8_isDigit 0 = .ok (.iload_n 0, 1) := by decide +kernel
theorem dX8_isDigit_1 : decode cX8_isDigit 1 = .ok (.bipush 48, 2) := by decide +kernel
theorem dX8_isDigit_3 : decode cX8_isDigit 3 = .ok (.if_icmp .lt 13, 3) := by decide +kernel
theorem dX8_isDigit_6 : decode cX8_isDigit 6 = .ok (.iload_n 0, 1) := by decide +kernel
theorem dX8_isDigit_7 : decode cX8_isDigit 7 = .ok (.bipush 57, 2) := by decide +kernel
theorem dX8_isDigit_9 : decode cX8_isDigit 9 = .ok (.if_icmp .gt 7, 3) := by decide +kernel
theorem dX8_isDigit_12 : decode cX8_isDigit 12 = .ok (.iconst 1, 1) := by decide +kernel
theorem dX8_isDigit_13 : decode cX8_isDigit 13 = .ok (.goto 4, 3) := by decide +kernel
theorem dX8_isDigit_16 : decode cX8_isDigit 16 = .ok (.iconst 0, 1) := by decide +kernel
theorem dX8_isDigit_17 : decode cX8_isDigit 17 = .ok (.ireturn, 1) := by decide +kernel
theorem dX8_isLetter_0 : decode cX8_isLetter 0 = .ok (.iload_n 0, 1) := by decide +kernel
theorem dX8_isLetter_1 : decode cX8_isLetter 1 = .ok (.bipush 97, 2) := by decide +kernel
theorem dX8_isLetter_3 : decode cX8_isLetter 3 = .ok (.if_icmp .lt 13, 3) := by decide +kernel
theorem dX8_isLetter_6 : decode cX8_isLetter 6 = .ok (.iload_n 0, 1) := by decide +kernel
theorem dX8_isLetter_7 : decode cX8_isLetter 7 = .ok (.bipush 122, 2) := by decide +kernel
theorem dX8_isLetter_9 : decode cX8_isLetter 9 = .ok (.if_icmp .gt 7, 3) := by decide +kernel
theorem dX8_isLetter_12 : decode cX8_isLetter 12 = .ok (.iconst 1, 1) := by decide +kernel
theorem dX8_isLetter_13 : decode cX8_isLetter 13 = .ok (.goto 4, 3) := by decide +kernel
theorem dX8_isLetter_16 : decode cX8_isLetter 16 = .ok (.iconst 0, 1) := by decide +kernel
theorem dX8_isLetter_17 : decode cX8_isLetter 17 = .ok (.ireturn, 1) := by decide +kernel
theorem dX8_withDigit_0 : decode cX8_withDigit 0 = .ok (.iload_n 0, 1) := by decide +kernel
theorem dX8_withDigit_1 : decode cX8_withDigit 1 = .ok (.bipush 10, 2) := by decide +kernel
theorem dX8_withDigit_3 : decode cX8_withDigit 3 = .ok (.imul, 1) := by decide +kernel
theorem dX8_withDigit_4 : decode cX8_withDigit 4 = .ok (.iload_n 1, 1) := by decide +kernel
theorem dX8_withDigit_5 : decode cX8_withDigit 5 = .ok (.iadd, 1) := by decide +kernel
theorem dX8_withDigit_6 : decode cX8_withDigit 6 = .ok (.bipush 48, 2) := by decide +kernel
theorem dX8_withDigit_8 : decode cX8_withDigit 8 = .ok (.isub, 1) := by decide +kernel
theorem dX8_withDigit_9 : decode cX8_withDigit 9 = .ok (.sipush 1000, 3) := by decide +kernel
theorem dX8_withDigit_12 : decode cX8_withDigit 12 = .ok (.invokestatic 356, 3) := by decide +kernel
theorem dX8_withDigit_15 : decode cX8_withDigit 15 = .ok (.ireturn, 1) := by decide +kernel
