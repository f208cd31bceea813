/-! what each instruction is (gen8.py) -/
theorem dX10_init_0 : decode cX10_init 0 = .ok (.aload_n 0, 1) := by decide +kernel
theorem dX10_init_1 : decode cX10_init 1 = .ok (.invokespecial 1, 3) := by decide +kernel
theorem dX10_init_4 : decode cX10_init 4 = .ok (.aload_n 0, 1) := by decide +kernel
theorem dX10_init_5 : decode cX10_init 5 = .ok (.new 7, 3) := by decide +kernel
theorem dX10_init_8 : decode cX10_init 8 = .ok (.dup, 1) := by decide +kernel
theorem dX10_init_9 : decode cX10_init 9 = .ok (.sipush 600, 3) := by decide +kernel
theorem dX10_init_12 : decode cX10_init 12 = .ok (.invokespecial 11, 3) := by decide +kernel
theorem dX10_init_15 : decode cX10_init 15 = .ok (.putfield 14, 3) := by decide +kernel
theorem dX10_init_18 : decode cX10_init 18 = .ok (.aload_n 0, 1) := by decide +kernel
theorem dX10_init_19 : decode cX10_init 19 = .ok (.new 7, 3) := by decide +kernel
theorem dX10_init_22 : decode cX10_init 22 = .ok (.dup, 1) := by decide +kernel
theorem dX10_init_23 : decode cX10_init 23 = .ok (.sipush 199, 3) := by decide +kernel
theorem dX10_init_26 : decode cX10_init 26 = .ok (.invokespecial 11, 3) := by decide +kernel
theorem dX10_init_29 : decode cX10_init 29 = .ok (.putfield 18, 3) := by decide +kernel
theorem dX10_init_32 : decode cX10_init 32 = .ok (.aload_n 0, 1) := by decide +kernel
theorem dX10_init_33 : decode cX10_init 33 = .ok (.new 21, 3) := by decide +kernel
theorem dX10_init_36 : decode cX10_init 36 = .ok (.dup, 1) := by decide +kernel
theorem dX10_init_37 : decode cX10_init 37 = .ok (.invokespecial 23, 3) := by decide +kernel
theorem dX10_init_40 : decode cX10_init 40 = .ok (.putfield 24, 3) := by decide +kernel
theorem dX10_init_43 : decode cX10_init 43 = .ok (.aload_n 0, 1) := by decide +kernel
theorem dX10_init_44 : decode cX10_init 44 = .ok (.new 28, 3) := by decide +kernel
theorem dX10_init_47 : decode cX10_init 47 = .ok (.dup, 1) := by decide +kernel
theorem dX10_init_48 : decode cX10_init 48 = .ok (.invokespecial 30, 3) := by decide +kernel
theorem dX10_init_51 : decode cX10_init 51 = .ok (.putfield 31, 3) := by decide +kernel
theorem dX10_init_54 : decode cX10_init 54 = .ok (.aload_n 0, 1) := by decide +kernel
theorem dX10_init_55 : decode cX10_init 55 = .ok (.new 35, 3) := by decide +kernel
theorem dX10_init_58 : decode cX10_init 58 = .ok (.dup, 1) := by decide +kernel
theorem dX10_init_59 : decode cX10_init 59 = .ok (.invokespecial 37, 3) := by decide +kernel
theorem dX10_init_62 : decode cX10_init 62 = .ok (.putfield 38, 3) := by decide +kernel
theorem dX10_init_65 : decode cX10_init 65 = .ok (.aload_n 0, 1) := by decide +kernel
theorem dX10_init_66 : decode cX10_init 66 = .ok (.new 42, 3) := by decide +kernel
theorem dX10_init_69 : decode cX10_init 69 = .ok (.dup, 1) := by decide +kernel
theorem dX10_init_70 : decode cX10_init 70 = .ok (.invokespecial 44, 3) := by decide +kernel
theorem dX10_init_73 : decode cX10_init 73 = .ok (.putfield 45, 3) := by decide +kernel
theorem dX10_init_76 : decode cX10_init 76 = .ok (.aload_n 0, 1) := by decide +kernel
theorem dX10_init_77 : decode cX10_init 77 = .ok (.new 35, 3) := by decide +kernel
theorem dX10_init_80 : decode cX10_init 80 = .ok (.dup, 1) := by decide +kernel
theorem dX10_init_81 : decode cX10_init 81 = .ok (.invokespecial 37, 3) := by decide +kernel
theorem dX10_init_84 : decode cX10_init 84 = .ok (.putfield 49, 3) := by decide +kernel
theorem dX10_init_87 : decode cX10_init 87 = .ok (.aload_n 0, 1) := by decide +kernel
theorem dX10_init_88 : decode cX10_init 88 = .ok (.new 42, 3) := by decide +kernel
theorem dX10_init_91 : decode cX10_init 91 = .ok (.dup, 1) := by decide +kernel
theorem dX10_init_92 : decode cX10_init 92 = .ok (.invokespecial 44, 3) := by decide +kernel
theorem dX10_init_95 : decode cX10_init 95 = .ok (.putfield 52, 3) := by decide +kernel
theorem dX10_init_98 : decode cX10_init 98 = .ok (.aload_n 0, 1) := by decide +kernel
theorem dX10_init_99 : decode cX10_init 99 = .ok (.new 55, 3) := by decide +kernel
theorem dX10_init_102 : decode cX10_init 102 = .ok (.dup, 1) := by decide +kernel
theorem dX10_init_103 : decode cX10_init 103 = .ok (.invokespecial 57, 3) := by decide +kernel
theorem dX10_init_106 : decode cX10_init 106 = .ok (.putfield 58, 3) := by decide +kernel
theorem dX10_init_109 : decode cX10_init 109 = .ok (.aload_n 0, 1) := by decide +kernel
theorem dX10_init_110 : decode cX10_init 110 = .ok (.new 62, 3) := by decide +kernel
theorem dX10_init_113 : decode cX10_init 113 = .ok (.dup, 1) := by decide +kernel
theorem dX10_init_114 : decode cX10_init 114 = .ok (.iconst 2, 1) := by decide +kernel
theorem dX10_init_115 : decode cX10_init 115 = .ok (.invokespecial 64, 3) := by decide +kernel
theorem dX10_init_118 : decode cX10_init 118 = .ok (.putfield 65, 3) := by decide +kernel
theorem dX10_init_121 : decode cX10_init 121 = .ok (.aload_n 0, 1) := by decide +kernel
theorem dX10_init_122 : decode cX10_init 122 = .ok (.new 69, 3) := by decide +kernel
theorem dX10_init_125 : decode cX10_init 125 = .ok (.dup, 1) := by decide +kernel
theorem dX10_init_126 : decode cX10_init 126 = .ok (.invokespecial 71, 3) := by decide +kernel
theorem dX10_init_129 : decode cX10_init 129 = .ok (.putfield 72, 3) := by decide +kernel
theorem dX10_init_132 : decode cX10_init 132 = .ok (.aload_n 0, 1) := by decide +kernel
theorem dX10_init_133 : decode cX10_init 133 = .ok (.getfield 38, 3) := by decide +kernel
theorem dX10_init_136 : decode cX10_init 136 = .ok (.ldc 76, 2) := by decide +kernel
theorem dX10_init_138 : decode cX10_init 138 = .ok (.bipush 20, 2) := by decide +kernel
theorem dX10_init_140 : decode cX10_init 140 = .ok (.invokevirtual 78, 3) := by decide +kernel
theorem dX10_init_143 : decode cX10_init 143 = .ok (.aload_n 0, 1) := by decide +kernel
theorem dX10_init_144 : decode cX10_init 144 = .ok (.getfield 38, 3) := by decide +kernel
theorem dX10_init_147 : decode cX10_init 147 = .ok (.ldc 82, 2) := by decide +kernel
theorem dX10_init_149 : decode cX10_init 149 = .ok (.bipush 50, 2) := by decide +kernel
theorem dX10_init_151 : decode cX10_init 151 = .ok (.invokevirtual 78, 3) := by decide +kernel
theorem dX10_init_154 : decode cX10_init 154 = .ok (.aload_n 0, 1) := by decide +kernel
theorem dX10_init_155 : decode cX10_init 155 = .ok (.getfield 38, 3) := by decide +kernel
theorem dX10_init_158 : decode cX10_init 158 = .ok (.ldc 84, 2) := by decide +kernel
theorem dX10_init_160 : decode cX10_init 160 = .ok (.bipush 10, 2) := by decide +kernel
theorem dX10_init_162 : decode cX10_init 162 = .ok (.invokevirtual 78, 3) := by decide +kernel
theorem dX10_init_165 : decode cX10_init 165 = .ok (.aload_n 0, 1) := by decide +kernel
theorem dX10_init_166 : decode cX10_init 166 = .ok (.getfield 45, 3) := by decide +kernel
theorem dX10_init_169 : decode cX10_init 169 = .ok (.iconst 0, 1) := by decide +kernel
theorem dX10_init_170 : decode cX10_init 170 = .ok (.bipush 30, 2) := by decide +kernel
theorem dX10_init_172 : decode cX10_init 172 = .ok (.iconst 5, 1) := by decide +kernel
theorem dX10_init_173 : decode cX10_init 173 = .ok (.bipush 12, 2) := by decide +kernel
theorem dX10_init_175 : decode cX10_init 175 = .ok (.invokevirtual 86, 3) := by decide +kernel
theorem dX10_init_178 : decode cX10_init 178 = .ok (.pop, 1) := by decide +kernel
theorem dX10_init_179 : decode cX10_init 179 = .ok (.aload_n 0, 1) := by decide +kernel
theorem dX10_init_180 : decode cX10_init 180 = .ok (.getfield 45, 3) := by decide +kernel
theorem dX10_init_183 : decode cX10_init 183 = .ok (.iconst 0, 1) := by decide +kernel
theorem dX10_init_184 : decode cX10_init 184 = .ok (.bipush 20, 2) := by decide +kernel
theorem dX10_init_186 : decode cX10_init 186 = .ok (.iconst 3, 1) := by decide +kernel
theorem dX10_init_187 : decode cX10_init 187 = .ok (.bipush 10, 2) := by decide +kernel
theorem dX10_init_189 : decode cX10_init 189 = .ok (.invokevirtual 86, 3) := by decide +kernel
theorem dX10_init_192 : decode cX10_init 192 = .ok (.pop, 1) := by decide +kernel
theorem dX10_init_193 : decode cX10_init 193 = .ok (.aload_n 0, 1) := by decide +kernel
theorem dX10_init_194 : decode cX10_init 194 = .ok (.getfield 45, 3) := by decide +kernel
theorem dX10_init_197 : decode cX10_init 197 = .ok (.iconst 1, 1) := by decide +kernel
theorem dX10_init_198 : decode cX10_init 198 = .ok (.bipush 100, 2) := by decide +kernel
theorem dX10_init_200 : decode cX10_init 200 = .ok (.sipush 200, 3) := by decide +kernel
theorem dX10_init_203 : decode cX10_init 203 = .ok (.iconst 4, 1) := by decide +kernel
theorem dX10_init_204 : decode cX10_init 204 = .ok (.invokevirtual 86, 3) := by decide +kernel
theorem dX10_init_207 : decode cX10_init 207 = .ok (.pop, 1) := by decide +kernel
theorem dX10_init_208 : decode cX10_init 208 = .ok (.aload_n 0, 1) := by decide +kernel
theorem dX10_init_209 : decode cX10_init 209 = .ok (.getfield 45, 3) := by decide +kernel
theorem dX10_init_212 : decode cX10_init 212 = .ok (.iconst 2, 1) := by decide +kernel
theorem dX10_init_213 : decode cX10_init 213 = .ok (.bipush 24, 2) := by decide +kernel
theorem dX10_init_215 : decode cX10_init 215 = .ok (.bipush 9, 2) := by decide +kernel
theorem dX10_init_217 : decode cX10_init 217 = .ok (.iconst 3, 1) := by decide +kernel
theorem dX10_init_218 : decode cX10_init 218 = .ok (.invokevirtual 86, 3) := by decide +kernel
theorem dX10_init_221 : decode cX10_init 221 = .ok (.pop, 1) := by decide +kernel
theorem dX10_init_222 : decode cX10_init 222 = .ok (.return_, 1) := by decide +kernel
theorem dX10_append_0 : decode cX10_append 0 = .ok (.aload_n 0, 1) := by decide +kernel
theorem dX10_append_1 : decode cX10_append 1 = .ok (.getfield 14, 3) := by decide +kernel
theorem dX10_append_4 : decode cX10_append 4 = .ok (.getfield 90, 3) := by decide +kernel
theorem dX10_append_7 : decode cX10_append 7 = .ok (.bipush 20, 2) := by decide +kernel
theorem dX10_append_9 : decode cX10_append 9 = .ok (.iadd, 1) := by decide +kernel
theorem dX10_append_10 : decode cX10_append 10 = .ok (.sipush 600, 3) := by decide +kernel
theorem dX10_append_13 : decode cX10_append 13 = .ok (.if_icmp .le 13, 3) := by decide +kernel
theorem dX10_append_16 : decode cX10_append 16 = .ok (.new 94, 3) := by decide +kernel
theorem dX10_append_19 : decode cX10_append 19 = .ok (.dup, 1) := by decide +kernel
theorem dX10_append_20 : decode cX10_append 20 = .ok (.ldc 96, 2) := by decide +kernel
theorem dX10_append_22 : decode cX10_append 22 = .ok (.invokespecial 98, 3) := by decide +kernel
theorem dX10_append_25 : decode cX10_append 25 = .ok (.athrow, 1) := by decide +kernel
theorem dX10_append_26 : decode cX10_append 26 = .ok (.aload_n 0, 1) := by decide +kernel
theorem dX10_append_27 : decode cX10_append 27 = .ok (.getfield 14, 3) := by decide +kernel
theorem dX10_append_30 : decode cX10_append 30 = .ok (.iload_n 1, 1) := by decide +kernel
theorem dX10_append_31 : decode cX10_append 31 = .ok (.invokevirtual 101, 3) := by decide +kernel
theorem dX10_append_34 : decode cX10_append 34 = .ok (.aload_n 0, 1) := by decide +kernel
theorem dX10_append_35 : decode cX10_append 35 = .ok (.getfield 14, 3) := by decide +kernel
theorem dX10_append_38 : decode cX10_append 38 = .ok (.iload_n 2, 1) := by decide +kernel
theorem dX10_append_39 : decode cX10_append 39 = .ok (.invokevirtual 101, 3) := by decide +kernel
theorem dX10_append_42 : decode cX10_append 42 = .ok (.aload_n 0, 1) := by decide +kernel
theorem dX10_append_43 : decode cX10_append 43 = .ok (.getfield 14, 3) := by decide +kernel
theorem dX10_append_46 : decode cX10_append 46 = .ok (.iload_n 3, 1) := by decide +kernel
theorem dX10_append_47 : decode cX10_append 47 = .ok (.invokevirtual 101, 3) := by decide +kernel
theorem dX10_append_50 : decode cX10_append 50 = .ok (.aload_n 0, 1) := by decide +kernel
theorem dX10_append_51 : decode cX10_append 51 = .ok (.getfield 14, 3) := by decide +kernel
theorem dX10_append_54 : decode cX10_append 54 = .ok (.iload 4, 2) := by decide +kernel
theorem dX10_append_56 : decode cX10_append 56 = .ok (.invokevirtual 101, 3) := by decide +kernel
theorem dX10_append_59 : decode cX10_append 59 = .ok (.aload_n 0, 1) := by decide +kernel
theorem dX10_append_60 : decode cX10_append 60 = .ok (.getfield 14, 3) := by decide +kernel
theorem dX10_append_63 : decode cX10_append 63 = .ok (.iload 5, 2) := by decide +kernel
theorem dX10_append_65 : decode cX10_append 65 = .ok (.invokevirtual 101, 3) := by decide +kernel
theorem dX10_append_68 : decode cX10_append 68 = .ok (.aload_n 0, 1) := by decide +kernel
theorem dX10_append_69 : decode cX10_append 69 = .ok (.getfield 14, 3) := by decide +kernel
theorem dX10_append_72 : decode cX10_append 72 = .ok (.getfield 90, 3) := by decide +kernel
theorem dX10_append_75 : decode cX10_append 75 = .ok (.ireturn, 1) := by decide +kernel
theorem dX10_truncate_0 : decode cX10_truncate 0 = .ok (.iload_n 1, 1) := by decide +kernel
theorem dX10_truncate_1 : decode cX10_truncate 1 = .ok (.iconst 0, 1) := by decide +kernel
theorem dX10_truncate_2 : decode cX10_truncate 2 = .ok (.aload_n 0, 1) := by decide +kernel
theorem dX10_truncate_3 : decode cX10_truncate 3 = .ok (.getfield 14, 3) := by decide +kernel
theorem dX10_truncate_6 : decode cX10_truncate 6 = .ok (.getfield 90, 3) := by decide +kernel
theorem dX10_truncate_9 : decode cX10_truncate 9 = .ok (.invokestatic 104, 3) := by decide +kernel
theorem dX10_truncate_12 : decode cX10_truncate 12 = .ok (.aload_n 0, 1) := by decide +kernel
theorem dX10_truncate_13 : decode cX10_truncate 13 = .ok (.getfield 14, 3) := by decide +kernel
theorem dX10_truncate_16 : decode cX10_truncate 16 = .ok (.iload_n 1, 1) := by decide +kernel
theorem dX10_truncate_17 : decode cX10_truncate 17 = .ok (.invokevirtual 108, 3) := by decide +kernel
theorem dX10_truncate_20 : decode cX10_truncate 20 = .ok (.aload_n 0, 1) := by decide +kernel
theorem dX10_truncate_21 : decode cX10_truncate 21 = .ok (.getfield 14, 3) := by decide +kernel
theorem dX10_truncate_24 : decode cX10_truncate 24 = .ok (.getfield 90, 3) := by decide +kernel
theorem dX10_truncate_27 : decode cX10_truncate 27 = .ok (.ireturn, 1) := by decide +kernel
theorem dX10_load_0 : decode cX10_load 0 = .ok (.aload_n 0, 1) := by decide +kernel
theorem dX10_load_1 : decode cX10_load 1 = .ok (.getfield 24, 3) := by decide +kernel
theorem dX10_load_4 : decode cX10_load 4 = .ok (.aload_n 0, 1) := by decide +kernel
theorem dX10_load_5 : decode cX10_load 5 = .ok (.getfield 14, 3) := by decide +kernel
theorem dX10_load_8 : decode cX10_load 8 = .ok (.aload_n 0, 1) := by decide +kernel
theorem dX10_load_9 : decode cX10_load 9 = .ok (.getfield 49, 3) := by decide +kernel
theorem dX10_load_12 : decode cX10_load 12 = .ok (.aload_n 0, 1) := by decide +kernel
theorem dX10_load_13 : decode cX10_load 13 = .ok (.getfield 52, 3) := by decide +kernel
theorem dX10_load_16 : decode cX10_load 16 = .ok (.invokevirtual 111, 3) := by decide +kernel
theorem dX10_load_19 : decode cX10_load 19 = .ok (.istore_n 1, 1) := by decide +kernel
theorem dX10_load_20 : decode cX10_load 20 = .ok (.aload_n 0, 1) := by decide +kernel
theorem dX10_load_21 : decode cX10_load 21 = .ok (.getfield 14, 3) := by decide +kernel
theorem dX10_load_24 : decode cX10_load 24 = .ok (.iconst 0, 1) := by decide +kernel
theorem dX10_load_25 : decode cX10_load 25 = .ok (.invokevirtual 108, 3) := by decide +kernel
theorem dX10_load_28 : decode cX10_load 28 = .ok (.iload_n 1, 1) := by decide +kernel
theorem dX10_load_29 : decode cX10_load 29 = .ok (.ifCond .ne 13, 3) := by decide +kernel
theorem dX10_load_32 : decode cX10_load 32 = .ok (.new 115, 3) := by decide +kernel
theorem dX10_load_35 : decode cX10_load 35 = .ok (.dup, 1) := by decide +kernel
theorem dX10_load_36 : decode cX10_load 36 = .ok (.ldc 117, 2) := by decide +kernel
theorem dX10_load_38 : decode cX10_load 38 = .ok (.invokespecial 119, 3) := by decide +kernel
theorem dX10_load_41 : decode cX10_load 41 = .ok (.athrow, 1) := by decide +kernel
theorem dX10_load_42 : decode cX10_load 42 = .ok (.aload_n 0, 1) := by decide +kernel
theorem dX10_load_43 : decode cX10_load 43 = .ok (.getfield 38, 3) := by decide +kernel
theorem dX10_load_46 : decode cX10_load 46 = .ok (.aload_n 0, 1) := by decide +kernel
theorem dX10_load_47 : decode cX10_load 47 = .ok (.getfield 49, 3) := by decide +kernel
theorem dX10_load_50 : decode cX10_load 50 = .ok (.invokevirtual 120, 3) := by decide +kernel
theorem dX10_load_53 : decode cX10_load 53 = .ok (.aload_n 0, 1) := by decide +kernel
theorem dX10_load_54 : decode cX10_load 54 = .ok (.getfield 45, 3) := by decide +kernel
theorem dX10_load_57 : decode cX10_load 57 = .ok (.aload_n 0, 1) := by decide +kernel
theorem dX10_load_58 : decode cX10_load 58 = .ok (.getfield 52, 3) := by decide +kernel
theorem dX10_load_61 : decode cX10_load 61 = .ok (.invokevirtual 124, 3) := by decide +kernel
theorem dX10_load_64 : decode cX10_load 64 = .ok (.aload_n 0, 1) := by decide +kernel
theorem dX10_load_65 : decode cX10_load 65 = .ok (.getfield 65, 3) := by decide +kernel
theorem dX10_load_68 : decode cX10_load 68 = .ok (.invokevirtual 127, 3) := by decide +kernel
theorem dX10_load_71 : decode cX10_load 71 = .ok (.aload_n 0, 1) := by decide +kernel
theorem dX10_load_72 : decode cX10_load 72 = .ok (.getfield 58, 3) := by decide +kernel
theorem dX10_load_75 : decode cX10_load 75 = .ok (.invokevirtual 130, 3) := by decide +kernel
theorem dX10_load_78 : decode cX10_load 78 = .ok (.aload_n 0, 1) := by decide +kernel
theorem dX10_load_79 : decode cX10_load 79 = .ok (.getfield 38, 3) := by decide +kernel
theorem dX10_load_82 : decode cX10_load 82 = .ok (.getfield 133, 3) := by decide +kernel
theorem dX10_load_85 : decode cX10_load 85 = .ok (.ireturn, 1) := by decide +kernel
theorem dX10_productCount_0 : decode cX10_productCount 0 = .ok (.aload_n 0, 1) := by decide +kernel
theorem dX10_productCount_1 : decode cX10_productCount 1 = .ok (.getfield 38, 3) := by decide +kernel
theorem dX10_productCount_4 : decode cX10_productCount 4 = .ok (.getfield 133, 3) := by decide +kernel
theorem dX10_productCount_7 : decode cX10_productCount 7 = .ok (.ireturn, 1) := by decide +kernel
theorem dX10_day_0 : decode cX10_day 0 = .ok (.aload_n 0, 1) := by decide +kernel
theorem dX10_day_1 : decode cX10_day 1 = .ok (.getfield 45, 3) := by decide +kernel
theorem dX10_day_4 : decode cX10_day 4 = .ok (.getfield 142, 3) := by decide +kernel
theorem dX10_day_7 : decode cX10_day 7 = .ok (.ireturn, 1) := by decide +kernel
theorem dX10_availableOn_0 : decode cX10_availableOn 0 = .ok (.aload_n 0, 1) := by decide +kernel
theorem dX10_availableOn_1 : decode cX10_availableOn 1 = .ok (.iload_n 1, 1) := by decide +kernel
theorem dX10_availableOn_2 : decode cX10_availableOn 2 = .ok (.invokevirtual 145, 3) := by decide +kernel
theorem dX10_availableOn_5 : decode cX10_availableOn 5 = .ok (.iload_n 2, 1) := by decide +kernel
theorem dX10_availableOn_6 : decode cX10_availableOn 6 = .ok (.iconst 0, 1) := by decide +kernel
theorem dX10_availableOn_7 : decode cX10_availableOn 7 = .ok (.sipush 9999, 3) := by decide +kernel
theorem dX10_availableOn_10 : decode cX10_availableOn 10 = .ok (.invokestatic 104, 3) := by decide +kernel
theorem dX10_availableOn_13 : decode cX10_availableOn 13 = .ok (.aload_n 0, 1) := by decide +kernel
theorem dX10_availableOn_14 : decode cX10_availableOn 14 = .ok (.getfield 45, 3) := by decide +kernel
theorem dX10_availableOn_17 : decode cX10_availableOn 17 = .ok (.iload_n 1, 1) := by decide +kernel
theorem dX10_availableOn_18 : decode cX10_availableOn 18 = .ok (.iload_n 2, 1) := by decide +kernel
theorem dX10_availableOn_19 : decode cX10_availableOn 19 = .ok (.invokevirtual 189, 3) := by decide +kernel
theorem dX10_availableOn_22 : decode cX10_availableOn 22 = .ok (.ireturn, 1) := by decide +kernel
theorem dX10_batchCount_0 : decode cX10_batchCount 0 = .ok (.aload_n 0, 1) := by decide +kernel
theorem dX10_batchCount_1 : decode cX10_batchCount 1 = .ok (.getfield 45, 3) := by decide +kernel
theorem dX10_batchCount_4 : decode cX10_batchCount 4 = .ok (.getfield 202, 3) := by decide +kernel
theorem dX10_batchCount_7 : decode cX10_batchCount 7 = .ok (.ireturn, 1) := by decide +kernel
theorem dX10_productOf_0 : decode cX10_productOf 0 = .ok (.aload_n 0, 1) := by decide +kernel
theorem dX10_productOf_1 : decode cX10_productOf 1 = .ok (.iload_n 1, 1) := by decide +kernel
theorem dX10_productOf_2 : decode cX10_productOf 2 = .ok (.invokevirtual 205, 3) := by decide +kernel
theorem dX10_productOf_5 : decode cX10_productOf 5 = .ok (.aload_n 0, 1) := by decide +kernel
theorem dX10_productOf_6 : decode cX10_productOf 6 = .ok (.getfield 45, 3) := by decide +kernel
theorem dX10_productOf_9 : decode cX10_productOf 9 = .ok (.getfield 208, 3) := by decide +kernel
theorem dX10_productOf_12 : decode cX10_productOf 12 = .ok (.iload_n 1, 1) := by decide +kernel
theorem dX10_productOf_13 : decode cX10_productOf 13 = .ok (.invokevirtual 152, 3) := by decide +kernel
theorem dX10_productOf_16 : decode cX10_productOf 16 = .ok (.ireturn, 1) := by decide +kernel
theorem dX10_quantity_0 : decode cX10_quantity 0 = .ok (.aload_n 0, 1) := by decide +kernel
theorem dX10_quantity_1 : decode cX10_quantity 1 = .ok (.iload_n 1, 1) := by decide +kernel
theorem dX10_quantity_2 : decode cX10_quantity 2 = .ok (.invokevirtual 205, 3) := by decide +kernel
theorem dX10_quantity_5 : decode cX10_quantity 5 = .ok (.aload_n 0, 1) := by decide +kernel
theorem dX10_quantity_6 : decode cX10_quantity 6 = .ok (.getfield 45, 3) := by decide +kernel
theorem dX10_quantity_9 : decode cX10_quantity 9 = .ok (.getfield 211, 3) := by decide +kernel
theorem dX10_quantity_12 : decode cX10_quantity 12 = .ok (.iload_n 1, 1) := by decide +kernel
theorem dX10_quantity_13 : decode cX10_quantity 13 = .ok (.invokevirtual 152, 3) := by decide +kernel
theorem dX10_quantity_16 : decode cX10_quantity 16 = .ok (.ireturn, 1) := by decide +kernel
theorem dX10_reservedOf_0 : decode cX10_reservedOf 0 = .ok (.aload_n 0, 1) := by decide +kernel
theorem dX10_reservedOf_1 : decode cX10_reservedOf 1 = .ok (.iload_n 1, 1) := by decide +kernel
theorem dX10_reservedOf_2 : decode cX10_reservedOf 2 = .ok (.invokevirtual 205, 3) := by decide +kernel
theorem dX10_reservedOf_5 : decode cX10_reservedOf 5 = .ok (.aload_n 0, 1) := by decide +kernel
theorem dX10_reservedOf_6 : decode cX10_reservedOf 6 = .ok (.getfield 45, 3) := by decide +kernel
theorem dX10_reservedOf_9 : decode cX10_reservedOf 9 = .ok (.getfield 214, 3) := by decide +kernel
theorem dX10_reservedOf_12 : decode cX10_reservedOf 12 = .ok (.iload_n 1, 1) := by decide +kernel
theorem dX10_reservedOf_13 : decode cX10_reservedOf 13 = .ok (.invokevirtual 152, 3) := by decide +kernel
theorem dX10_reservedOf_16 : decode cX10_reservedOf 16 = .ok (.ireturn, 1) := by decide +kernel
theorem dX10_expiryDay_0 : decode cX10_expiryDay 0 = .ok (.aload_n 0, 1) := by decide +kernel
theorem dX10_expiryDay_1 : decode cX10_expiryDay 1 = .ok (.iload_n 1, 1) := by decide +kernel
theorem dX10_expiryDay_2 : decode cX10_expiryDay 2 = .ok (.invokevirtual 205, 3) := by decide +kernel
theorem dX10_expiryDay_5 : decode cX10_expiryDay 5 = .ok (.aload_n 0, 1) := by decide +kernel
theorem dX10_expiryDay_6 : decode cX10_expiryDay 6 = .ok (.getfield 45, 3) := by decide +kernel
theorem dX10_expiryDay_9 : decode cX10_expiryDay 9 = .ok (.getfield 217, 3) := by decide +kernel
theorem dX10_expiryDay_12 : decode cX10_expiryDay 12 = .ok (.iload_n 1, 1) := by decide +kernel
theorem dX10_expiryDay_13 : decode cX10_expiryDay 13 = .ok (.invokevirtual 152, 3) := by decide +kernel
theorem dX10_expiryDay_16 : decode cX10_expiryDay 16 = .ok (.ireturn, 1) := by decide +kernel
theorem dX10_unitCost_0 : decode cX10_unitCost 0 = .ok (.aload_n 0, 1) := by decide +kernel
theorem dX10_unitCost_1 : decode cX10_unitCost 1 = .ok (.iload_n 1, 1) := by decide +kernel
theorem dX10_unitCost_2 : decode cX10_unitCost 2 = .ok (.invokevirtual 205, 3) := by decide +kernel
theorem dX10_unitCost_5 : decode cX10_unitCost 5 = .ok (.aload_n 0, 1) := by decide +kernel
theorem dX10_unitCost_6 : decode cX10_unitCost 6 = .ok (.getfield 45, 3) := by decide +kernel
theorem dX10_unitCost_9 : decode cX10_unitCost 9 = .ok (.getfield 220, 3) := by decide +kernel
theorem dX10_unitCost_12 : decode cX10_unitCost 12 = .ok (.iload_n 1, 1) := by decide +kernel
theorem dX10_unitCost_13 : decode cX10_unitCost 13 = .ok (.invokevirtual 152, 3) := by decide +kernel
theorem dX10_unitCost_16 : decode cX10_unitCost 16 = .ok (.ireturn, 1) := by decide +kernel
theorem dX10_costOfIssue_0 : decode cX10_costOfIssue 0 = .ok (.aload_n 0, 1) := by decide +kernel
theorem dX10_costOfIssue_1 : decode cX10_costOfIssue 1 = .ok (.iload_n 1, 1) := by decide +kernel
theorem dX10_costOfIssue_2 : decode cX10_costOfIssue 2 = .ok (.invokevirtual 145, 3) := by decide +kernel
theorem dX10_costOfIssue_5 : decode cX10_costOfIssue 5 = .ok (.iload_n 2, 1) := by decide +kernel
theorem dX10_costOfIssue_6 : decode cX10_costOfIssue 6 = .ok (.iconst 1, 1) := by decide +kernel
theorem dX10_costOfIssue_7 : decode cX10_costOfIssue 7 = .ok (.sipush 9999, 3) := by decide +kernel
theorem dX10_costOfIssue_10 : decode cX10_costOfIssue 10 = .ok (.invokestatic 104, 3) := by decide +kernel
theorem dX10_costOfIssue_13 : decode cX10_costOfIssue 13 = .ok (.aload_n 0, 1) := by decide +kernel
theorem dX10_costOfIssue_14 : decode cX10_costOfIssue 14 = .ok (.getfield 45, 3) := by decide +kernel
theorem dX10_costOfIssue_17 : decode cX10_costOfIssue 17 = .ok (.iload_n 1, 1) := by decide +kernel
theorem dX10_costOfIssue_18 : decode cX10_costOfIssue 18 = .ok (.aload_n 0, 1) := by decide +kernel
theorem dX10_costOfIssue_19 : decode cX10_costOfIssue 19 = .ok (.getfield 45, 3) := by decide +kernel
theorem dX10_costOfIssue_22 : decode cX10_costOfIssue 22 = .ok (.getfield 142, 3) := by decide +kernel
theorem dX10_costOfIssue_25 : decode cX10_costOfIssue 25 = .ok (.invokevirtual 189, 3) := by decide +kernel
theorem dX10_costOfIssue_28 : decode cX10_costOfIssue 28 = .ok (.iload_n 2, 1) := by decide +kernel
theorem dX10_costOfIssue_29 : decode cX10_costOfIssue 29 = .ok (.if_icmp .ge 5, 3) := by decide +kernel
theorem dX10_costOfIssue_32 : decode cX10_costOfIssue 32 = .ok (.iconst (-1), 1) := by decide +kernel
theorem dX10_costOfIssue_33 : decode cX10_costOfIssue 33 = .ok (.ireturn, 1) := by decide +kernel
theorem dX10_costOfIssue_34 : decode cX10_costOfIssue 34 = .ok (.aload_n 0, 1) := by decide +kernel
theorem dX10_costOfIssue_35 : decode cX10_costOfIssue 35 = .ok (.getfield 45, 3) := by decide +kernel
theorem dX10_costOfIssue_38 : decode cX10_costOfIssue 38 = .ok (.aload_n 0, 1) := by decide +kernel
theorem dX10_costOfIssue_39 : decode cX10_costOfIssue 39 = .ok (.getfield 72, 3) := by decide +kernel
theorem dX10_costOfIssue_42 : decode cX10_costOfIssue 42 = .ok (.iload_n 1, 1) := by decide +kernel
theorem dX10_costOfIssue_43 : decode cX10_costOfIssue 43 = .ok (.aload_n 0, 1) := by decide +kernel
theorem dX10_costOfIssue_44 : decode cX10_costOfIssue 44 = .ok (.getfield 45, 3) := by decide +kernel
theorem dX10_costOfIssue_47 : decode cX10_costOfIssue 47 = .ok (.getfield 142, 3) := by decide +kernel
theorem dX10_costOfIssue_50 : decode cX10_costOfIssue 50 = .ok (.invokevirtual 227, 3) := by decide +kernel
theorem dX10_costOfIssue_53 : decode cX10_costOfIssue 53 = .ok (.aload_n 0, 1) := by decide +kernel
theorem dX10_costOfIssue_54 : decode cX10_costOfIssue 54 = .ok (.getfield 45, 3) := by decide +kernel
theorem dX10_costOfIssue_57 : decode cX10_costOfIssue 57 = .ok (.aload_n 0, 1) := by decide +kernel
theorem dX10_costOfIssue_58 : decode cX10_costOfIssue 58 = .ok (.getfield 72, 3) := by decide +kernel
theorem dX10_costOfIssue_61 : decode cX10_costOfIssue 61 = .ok (.iload_n 2, 1) := by decide +kernel
theorem dX10_costOfIssue_62 : decode cX10_costOfIssue 62 = .ok (.invokevirtual 236, 3) := by decide +kernel
theorem dX10_costOfIssue_65 : decode cX10_costOfIssue 65 = .ok (.ireturn, 1) := by decide +kernel
theorem dX10_reservationCount_0 : decode cX10_reservationCount 0 = .ok (.aload_n 0, 1) := by decide +kernel
theorem dX10_reservationCount_1 : decode cX10_reservationCount 1 = .ok (.getfield 45, 3) := by decide +kernel
theorem dX10_reservationCount_4 : decode cX10_reservationCount 4 = .ok (.getfield 240, 3) := by decide +kernel
theorem dX10_reservationCount_7 : decode cX10_reservationCount 7 = .ok (.ireturn, 1) := by decide +kernel
theorem dX10_reservedQuantity_0 : decode cX10_reservedQuantity 0 = .ok (.aload_n 0, 1) := by decide +kernel
theorem dX10_reservedQuantity_1 : decode cX10_reservedQuantity 1 = .ok (.iload_n 1, 1) := by decide +kernel
theorem dX10_reservedQuantity_2 : decode cX10_reservedQuantity 2 = .ok (.invokevirtual 243, 3) := by decide +kernel
theorem dX10_reservedQuantity_5 : decode cX10_reservedQuantity 5 = .ok (.aload_n 0, 1) := by decide +kernel
theorem dX10_reservedQuantity_6 : decode cX10_reservedQuantity 6 = .ok (.getfield 45, 3) := by decide +kernel
theorem dX10_reservedQuantity_9 : decode cX10_reservedQuantity 9 = .ok (.getfield 249, 3) := by decide +kernel
theorem dX10_reservedQuantity_12 : decode cX10_reservedQuantity 12 = .ok (.iload_n 1, 1) := by decide +kernel
theorem dX10_reservedQuantity_13 : decode cX10_reservedQuantity 13 = .ok (.invokevirtual 152, 3) := by decide +kernel
theorem dX10_reservedQuantity_16 : decode cX10_reservedQuantity 16 = .ok (.ireturn, 1) := by decide +kernel
theorem dX10_isOpen_0 : decode cX10_isOpen 0 = .ok (.aload_n 0, 1) := by decide +kernel
theorem dX10_isOpen_1 : decode cX10_isOpen 1 = .ok (.iload_n 1, 1) := by decide +kernel
theorem dX10_isOpen_2 : decode cX10_isOpen 2 = .ok (.invokevirtual 243, 3) := by decide +kernel
theorem dX10_isOpen_5 : decode cX10_isOpen 5 = .ok (.aload_n 0, 1) := by decide +kernel
theorem dX10_isOpen_6 : decode cX10_isOpen 6 = .ok (.getfield 45, 3) := by decide +kernel
theorem dX10_isOpen_9 : decode cX10_isOpen 9 = .ok (.iload_n 1, 1) := by decide +kernel
theorem dX10_isOpen_10 : decode cX10_isOpen 10 = .ok (.invokevirtual 252, 3) := by decide +kernel
theorem dX10_isOpen_13 : decode cX10_isOpen 13 = .ok (.ireturn, 1) := by decide +kernel
theorem dX10_missing_0 : decode cX10_missing 0 = .ok (.aload_n 0, 1) := by decide +kernel
theorem dX10_missing_1 : decode cX10_missing 1 = .ok (.iload_n 1, 1) := by decide +kernel
theorem dX10_missing_2 : decode cX10_missing 2 = .ok (.invokevirtual 243, 3) := by decide +kernel
theorem dX10_missing_5 : decode cX10_missing 5 = .ok (.aload_n 0, 1) := by decide +kernel
theorem dX10_missing_6 : decode cX10_missing 6 = .ok (.getfield 45, 3) := by decide +kernel
theorem dX10_missing_9 : decode cX10_missing 9 = .ok (.iload_n 1, 1) := by decide +kernel
theorem dX10_missing_10 : decode cX10_missing 10 = .ok (.invokevirtual 255, 3) := by decide +kernel
theorem dX10_missing_13 : decode cX10_missing 13 = .ok (.ireturn, 1) := by decide +kernel
theorem dX10_allocation_0 : decode cX10_allocation 0 = .ok (.aload_n 0, 1) := by decide +kernel
theorem dX10_allocation_1 : decode cX10_allocation 1 = .ok (.iload_n 1, 1) := by decide +kernel
theorem dX10_allocation_2 : decode cX10_allocation 2 = .ok (.invokevirtual 243, 3) := by decide +kernel
theorem dX10_allocation_5 : decode cX10_allocation 5 = .ok (.aload_n 0, 1) := by decide +kernel
theorem dX10_allocation_6 : decode cX10_allocation 6 = .ok (.iload_n 2, 1) := by decide +kernel
theorem dX10_allocation_7 : decode cX10_allocation 7 = .ok (.invokevirtual 205, 3) := by decide +kernel
theorem dX10_allocation_10 : decode cX10_allocation 10 = .ok (.aload_n 0, 1) := by decide +kernel
theorem dX10_allocation_11 : decode cX10_allocation 11 = .ok (.getfield 45, 3) := by decide +kernel
theorem dX10_allocation_14 : decode cX10_allocation 14 = .ok (.iload_n 1, 1) := by decide +kernel
theorem dX10_allocation_15 : decode cX10_allocation 15 = .ok (.iload_n 2, 1) := by decide +kernel
theorem dX10_allocation_16 : decode cX10_allocation 16 = .ok (.invokevirtual 258, 3) := by decide +kernel
theorem dX10_allocation_19 : decode cX10_allocation 19 = .ok (.ireturn, 1) := by decide +kernel
theorem dX10_whyNotShipped_0 : decode cX10_whyNotShipped 0 = .ok (.aload_n 0, 1) := by decide +kernel
theorem dX10_whyNotShipped_1 : decode cX10_whyNotShipped 1 = .ok (.iload_n 1, 1) := by decide +kernel
theorem dX10_whyNotShipped_2 : decode cX10_whyNotShipped 2 = .ok (.invokevirtual 243, 3) := by decide +kernel
theorem dX10_whyNotShipped_5 : decode cX10_whyNotShipped 5 = .ok (.aload_n 0, 1) := by decide +kernel
theorem dX10_whyNotShipped_6 : decode cX10_whyNotShipped 6 = .ok (.getfield 45, 3) := by decide +kernel
theorem dX10_whyNotShipped_9 : decode cX10_whyNotShipped 9 = .ok (.iload_n 1, 1) := by decide +kernel
theorem dX10_whyNotShipped_10 : decode cX10_whyNotShipped 10 = .ok (.invokevirtual 261, 3) := by decide +kernel
theorem dX10_whyNotShipped_13 : decode cX10_whyNotShipped 13 = .ok (.ireturn, 1) := by decide +kernel
theorem dX10_inconsistencies_0 : decode cX10_inconsistencies 0 = .ok (.iconst 0, 1) := by decide +kernel
theorem dX10_inconsistencies_1 : decode cX10_inconsistencies 1 = .ok (.istore_n 1, 1) := by decide +kernel
theorem dX10_inconsistencies_2 : decode cX10_inconsistencies 2 = .ok (.iconst 0, 1) := by decide +kernel
theorem dX10_inconsistencies_3 : decode cX10_inconsistencies 3 = .ok (.istore_n 2, 1) := by decide +kernel
theorem dX10_inconsistencies_4 : decode cX10_inconsistencies 4 = .ok (.iload_n 2, 1) := by decide +kernel
theorem dX10_inconsistencies_5 : decode cX10_inconsistencies 5 = .ok (.aload_n 0, 1) := by decide +kernel
theorem dX10_inconsistencies_6 : decode cX10_inconsistencies 6 = .ok (.getfield 38, 3) := by decide +kernel
theorem dX10_inconsistencies_9 : decode cX10_inconsistencies 9 = .ok (.getfield 133, 3) := by decide +kernel
theorem dX10_inconsistencies_12 : decode cX10_inconsistencies 12 = .ok (.if_icmp .ge 31, 3) := by decide +kernel
theorem dX10_inconsistencies_15 : decode cX10_inconsistencies 15 = .ok (.aload_n 0, 1) := by decide +kernel
theorem dX10_inconsistencies_16 : decode cX10_inconsistencies 16 = .ok (.getfield 45, 3) := by decide +kernel
theorem dX10_inconsistencies_19 : decode cX10_inconsistencies 19 = .ok (.iload_n 2, 1) := by decide +kernel
theorem dX10_inconsistencies_20 : decode cX10_inconsistencies 20 = .ok (.invokevirtual 183, 3) := by decide +kernel
theorem dX10_inconsistencies_23 : decode cX10_inconsistencies 23 = .ok (.aload_n 0, 1) := by decide +kernel
theorem dX10_inconsistencies_24 : decode cX10_inconsistencies 24 = .ok (.getfield 45, 3) := by decide +kernel
theorem dX10_inconsistencies_27 : decode cX10_inconsistencies 27 = .ok (.iload_n 2, 1) := by decide +kernel
theorem dX10_inconsistencies_28 : decode cX10_inconsistencies 28 = .ok (.invokevirtual 282, 3) := by decide +kernel
theorem dX10_inconsistencies_31 : decode cX10_inconsistencies 31 = .ok (.if_icmp .eq 6, 3) := by decide +kernel
theorem dX10_inconsistencies_34 : decode cX10_inconsistencies 34 = .ok (.iinc 1 1, 3) := by decide +kernel
theorem dX10_inconsistencies_37 : decode cX10_inconsistencies 37 = .ok (.iinc 2 1, 3) := by decide +kernel
theorem dX10_inconsistencies_40 : decode cX10_inconsistencies 40 = .ok (.goto (-36), 3) := by decide +kernel
theorem dX10_inconsistencies_43 : decode cX10_inconsistencies 43 = .ok (.iconst 0, 1) := by decide +kernel
theorem dX10_inconsistencies_44 : decode cX10_inconsistencies 44 = .ok (.istore_n 2, 1) := by decide +kernel
theorem dX10_inconsistencies_45 : decode cX10_inconsistencies 45 = .ok (.iload_n 2, 1) := by decide +kernel
theorem dX10_inconsistencies_46 : decode cX10_inconsistencies 46 = .ok (.aload_n 0, 1) := by decide +kernel
theorem dX10_inconsistencies_47 : decode cX10_inconsistencies 47 = .ok (.getfield 45, 3) := by decide +kernel
theorem dX10_inconsistencies_50 : decode cX10_inconsistencies 50 = .ok (.getfield 202, 3) := by decide +kernel
theorem dX10_inconsistencies_53 : decode cX10_inconsistencies 53 = .ok (.if_icmp .ge 23, 3) := by decide +kernel
theorem dX10_inconsistencies_56 : decode cX10_inconsistencies 56 = .ok (.aload_n 0, 1) := by decide +kernel
theorem dX10_inconsistencies_57 : decode cX10_inconsistencies 57 = .ok (.getfield 45, 3) := by decide +kernel
theorem dX10_inconsistencies_60 : decode cX10_inconsistencies 60 = .ok (.iload_n 2, 1) := by decide +kernel
theorem dX10_inconsistencies_61 : decode cX10_inconsistencies 61 = .ok (.invokevirtual 285, 3) := by decide +kernel
theorem dX10_inconsistencies_64 : decode cX10_inconsistencies 64 = .ok (.ifCond .ge 6, 3) := by decide +kernel
theorem dX10_inconsistencies_67 : decode cX10_inconsistencies 67 = .ok (.iinc 1 1, 3) := by decide +kernel
theorem dX10_inconsistencies_70 : decode cX10_inconsistencies 70 = .ok (.iinc 2 1, 3) := by decide +kernel
theorem dX10_inconsistencies_73 : decode cX10_inconsistencies 73 = .ok (.goto (-28), 3) := by decide +kernel
theorem dX10_inconsistencies_76 : decode cX10_inconsistencies 76 = .ok (.iload_n 1, 1) := by decide +kernel
theorem dX10_inconsistencies_77 : decode cX10_inconsistencies 77 = .ok (.ireturn, 1) := by decide +kernel
theorem dX10_receive_0 : decode cX10_receive 0 = .ok (.aload_n 0, 1) := by decide +kernel
theorem dX10_receive_1 : decode cX10_receive 1 = .ok (.iload_n 1, 1) := by decide +kernel
theorem dX10_receive_2 : decode cX10_receive 2 = .ok (.iload_n 2, 1) := by decide +kernel
theorem dX10_receive_3 : decode cX10_receive 3 = .ok (.iload_n 3, 1) := by decide +kernel
theorem dX10_receive_4 : decode cX10_receive 4 = .ok (.iload 4, 2) := by decide +kernel
theorem dX10_receive_6 : decode cX10_receive 6 = .ok (.invokevirtual 299, 3) := by decide +kernel
theorem dX10_receive_9 : decode cX10_receive 9 = .ok (.invokestatic 302, 3) := by decide +kernel
theorem dX10_receive_12 : decode cX10_receive 12 = .ok (.aload_n 0, 1) := by decide +kernel
theorem dX10_receive_13 : decode cX10_receive 13 = .ok (.getfield 58, 3) := by decide +kernel
theorem dX10_receive_16 : decode cX10_receive 16 = .ok (.aload_n 0, 1) := by decide +kernel
theorem dX10_receive_17 : decode cX10_receive 17 = .ok (.getfield 45, 3) := by decide +kernel
theorem dX10_receive_20 : decode cX10_receive 20 = .ok (.invokevirtual 305, 3) := by decide +kernel
theorem dX10_receive_23 : decode cX10_receive 23 = .ok (.aload_n 0, 1) := by decide +kernel
theorem dX10_receive_24 : decode cX10_receive 24 = .ok (.getfield 45, 3) := by decide +kernel
theorem dX10_receive_27 : decode cX10_receive 27 = .ok (.iload_n 1, 1) := by decide +kernel
theorem dX10_receive_28 : decode cX10_receive 28 = .ok (.iload_n 2, 1) := by decide +kernel
theorem dX10_receive_29 : decode cX10_receive 29 = .ok (.iload_n 3, 1) := by decide +kernel
theorem dX10_receive_30 : decode cX10_receive 30 = .ok (.iload 4, 2) := by decide +kernel
theorem dX10_receive_32 : decode cX10_receive 32 = .ok (.invokevirtual 86, 3) := by decide +kernel
theorem dX10_receive_35 : decode cX10_receive 35 = .ok (.ireturn, 1) := by decide +kernel
theorem dX10_issue_0 : decode cX10_issue 0 = .ok (.aload_n 0, 1) := by decide +kernel
theorem dX10_issue_1 : decode cX10_issue 1 = .ok (.iload_n 1, 1) := by decide +kernel
theorem dX10_issue_2 : decode cX10_issue 2 = .ok (.iload_n 2, 1) := by decide +kernel
theorem dX10_issue_3 : decode cX10_issue 3 = .ok (.invokevirtual 308, 3) := by decide +kernel
theorem dX10_issue_6 : decode cX10_issue 6 = .ok (.invokestatic 302, 3) := by decide +kernel
theorem dX10_issue_9 : decode cX10_issue 9 = .ok (.aload_n 0, 1) := by decide +kernel
theorem dX10_issue_10 : decode cX10_issue 10 = .ok (.getfield 58, 3) := by decide +kernel
theorem dX10_issue_13 : decode cX10_issue 13 = .ok (.aload_n 0, 1) := by decide +kernel
theorem dX10_issue_14 : decode cX10_issue 14 = .ok (.getfield 45, 3) := by decide +kernel
theorem dX10_issue_17 : decode cX10_issue 17 = .ok (.invokevirtual 305, 3) := by decide +kernel
theorem dX10_issue_20 : decode cX10_issue 20 = .ok (.aload_n 0, 1) := by decide +kernel
theorem dX10_issue_21 : decode cX10_issue 21 = .ok (.getfield 45, 3) := by decide +kernel
theorem dX10_issue_24 : decode cX10_issue 24 = .ok (.aload_n 0, 1) := by decide +kernel
theorem dX10_issue_25 : decode cX10_issue 25 = .ok (.getfield 72, 3) := by decide +kernel
theorem dX10_issue_28 : decode cX10_issue 28 = .ok (.iload_n 1, 1) := by decide +kernel
theorem dX10_issue_29 : decode cX10_issue 29 = .ok (.iload_n 2, 1) := by decide +kernel
theorem dX10_issue_30 : decode cX10_issue 30 = .ok (.invokevirtual 311, 3) := by decide +kernel
theorem dX10_issue_33 : decode cX10_issue 33 = .ok (.ireturn, 1) := by decide +kernel
theorem dX10_reserve_0 : decode cX10_reserve 0 = .ok (.aload_n 0, 1) := by decide +kernel
theorem dX10_reserve_1 : decode cX10_reserve 1 = .ok (.iload_n 1, 1) := by decide +kernel
theorem dX10_reserve_2 : decode cX10_reserve 2 = .ok (.iload_n 2, 1) := by decide +kernel
theorem dX10_reserve_3 : decode cX10_reserve 3 = .ok (.iload_n 3, 1) := by decide +kernel
theorem dX10_reserve_4 : decode cX10_reserve 4 = .ok (.invokevirtual 314, 3) := by decide +kernel
theorem dX10_reserve_7 : decode cX10_reserve 7 = .ok (.invokestatic 302, 3) := by decide +kernel
theorem dX10_reserve_10 : decode cX10_reserve 10 = .ok (.aload_n 0, 1) := by decide +kernel
theorem dX10_reserve_11 : decode cX10_reserve 11 = .ok (.getfield 58, 3) := by decide +kernel
theorem dX10_reserve_14 : decode cX10_reserve 14 = .ok (.aload_n 0, 1) := by decide +kernel
theorem dX10_reserve_15 : decode cX10_reserve 15 = .ok (.getfield 45, 3) := by decide +kernel
theorem dX10_reserve_18 : decode cX10_reserve 18 = .ok (.invokevirtual 305, 3) := by decide +kernel
theorem dX10_reserve_21 : decode cX10_reserve 21 = .ok (.aload_n 0, 1) := by decide +kernel
theorem dX10_reserve_22 : decode cX10_reserve 22 = .ok (.getfield 45, 3) := by decide +kernel
theorem dX10_reserve_25 : decode cX10_reserve 25 = .ok (.aload_n 0, 1) := by decide +kernel
theorem dX10_reserve_26 : decode cX10_reserve 26 = .ok (.getfield 72, 3) := by decide +kernel
theorem dX10_reserve_29 : decode cX10_reserve 29 = .ok (.iload_n 1, 1) := by decide +kernel
theorem dX10_reserve_30 : decode cX10_reserve 30 = .ok (.iload_n 2, 1) := by decide +kernel
theorem dX10_reserve_31 : decode cX10_reserve 31 = .ok (.iload_n 3, 1) := by decide +kernel
theorem dX10_reserve_32 : decode cX10_reserve 32 = .ok (.invokevirtual 317, 3) := by decide +kernel
theorem dX10_reserve_35 : decode cX10_reserve 35 = .ok (.ireturn, 1) := by decide +kernel
theorem dX10_ship_0 : decode cX10_ship 0 = .ok (.aload_n 0, 1) := by decide +kernel
theorem dX10_ship_1 : decode cX10_ship 1 = .ok (.iload_n 1, 1) := by decide +kernel
theorem dX10_ship_2 : decode cX10_ship 2 = .ok (.invokevirtual 320, 3) := by decide +kernel
theorem dX10_ship_5 : decode cX10_ship 5 = .ok (.invokestatic 302, 3) := by decide +kernel
theorem dX10_ship_8 : decode cX10_ship 8 = .ok (.aload_n 0, 1) := by decide +kernel
theorem dX10_ship_9 : decode cX10_ship 9 = .ok (.getfield 58, 3) := by decide +kernel
theorem dX10_ship_12 : decode cX10_ship 12 = .ok (.aload_n 0, 1) := by decide +kernel
theorem dX10_ship_13 : decode cX10_ship 13 = .ok (.getfield 45, 3) := by decide +kernel
theorem dX10_ship_16 : decode cX10_ship 16 = .ok (.invokevirtual 305, 3) := by decide +kernel
theorem dX10_ship_19 : decode cX10_ship 19 = .ok (.aload_n 0, 1) := by decide +kernel
theorem dX10_ship_20 : decode cX10_ship 20 = .ok (.getfield 45, 3) := by decide +kernel
theorem dX10_ship_23 : decode cX10_ship 23 = .ok (.iload_n 1, 1) := by decide +kernel
theorem dX10_ship_24 : decode cX10_ship 24 = .ok (.invokevirtual 323, 3) := by decide +kernel
theorem dX10_ship_27 : decode cX10_ship 27 = .ok (.ireturn, 1) := by decide +kernel
theorem dX10_cancel_0 : decode cX10_cancel 0 = .ok (.aload_n 0, 1) := by decide +kernel
theorem dX10_cancel_1 : decode cX10_cancel 1 = .ok (.iload_n 1, 1) := by decide +kernel
theorem dX10_cancel_2 : decode cX10_cancel 2 = .ok (.invokevirtual 326, 3) := by decide +kernel
theorem dX10_cancel_5 : decode cX10_cancel 5 = .ok (.invokestatic 302, 3) := by decide +kernel
theorem dX10_cancel_8 : decode cX10_cancel 8 = .ok (.aload_n 0, 1) := by decide +kernel
theorem dX10_cancel_9 : decode cX10_cancel 9 = .ok (.getfield 58, 3) := by decide +kernel
theorem dX10_cancel_12 : decode cX10_cancel 12 = .ok (.aload_n 0, 1) := by decide +kernel
theorem dX10_cancel_13 : decode cX10_cancel 13 = .ok (.getfield 45, 3) := by decide +kernel
theorem dX10_cancel_16 : decode cX10_cancel 16 = .ok (.invokevirtual 305, 3) := by decide +kernel
theorem dX10_cancel_19 : decode cX10_cancel 19 = .ok (.aload_n 0, 1) := by decide +kernel
theorem dX10_cancel_20 : decode cX10_cancel 20 = .ok (.getfield 45, 3) := by decide +kernel
theorem dX10_cancel_23 : decode cX10_cancel 23 = .ok (.iload_n 1, 1) := by decide +kernel
theorem dX10_cancel_24 : decode cX10_cancel 24 = .ok (.invokevirtual 329, 3) := by decide +kernel
theorem dX10_cancel_27 : decode cX10_cancel 27 = .ok (.ireturn, 1) := by decide +kernel
theorem dX10_refill_0 : decode cX10_refill 0 = .ok (.aload_n 0, 1) := by decide +kernel
theorem dX10_refill_1 : decode cX10_refill 1 = .ok (.iload_n 1, 1) := by decide +kernel
theorem dX10_refill_2 : decode cX10_refill 2 = .ok (.invokevirtual 326, 3) := by decide +kernel
theorem dX10_refill_5 : decode cX10_refill 5 = .ok (.invokestatic 302, 3) := by decide +kernel
theorem dX10_refill_8 : decode cX10_refill 8 = .ok (.aload_n 0, 1) := by decide +kernel
theorem dX10_refill_9 : decode cX10_refill 9 = .ok (.getfield 58, 3) := by decide +kernel
theorem dX10_refill_12 : decode cX10_refill 12 = .ok (.aload_n 0, 1) := by decide +kernel
theorem dX10_refill_13 : decode cX10_refill 13 = .ok (.getfield 45, 3) := by decide +kernel
theorem dX10_refill_16 : decode cX10_refill 16 = .ok (.invokevirtual 305, 3) := by decide +kernel
theorem dX10_refill_19 : decode cX10_refill 19 = .ok (.aload_n 0, 1) := by decide +kernel
theorem dX10_refill_20 : decode cX10_refill 20 = .ok (.getfield 45, 3) := by decide +kernel
theorem dX10_refill_23 : decode cX10_refill 23 = .ok (.aload_n 0, 1) := by decide +kernel
theorem dX10_refill_24 : decode cX10_refill 24 = .ok (.getfield 72, 3) := by decide +kernel
theorem dX10_refill_27 : decode cX10_refill 27 = .ok (.iload_n 1, 1) := by decide +kernel
theorem dX10_refill_28 : decode cX10_refill 28 = .ok (.invokevirtual 332, 3) := by decide +kernel
theorem dX10_refill_31 : decode cX10_refill 31 = .ok (.ireturn, 1) := by decide +kernel
theorem dX10_takeStock_0 : decode cX10_takeStock 0 = .ok (.aload_n 0, 1) := by decide +kernel
theorem dX10_takeStock_1 : decode cX10_takeStock 1 = .ok (.iload_n 1, 1) := by decide +kernel
theorem dX10_takeStock_2 : decode cX10_takeStock 2 = .ok (.iload_n 2, 1) := by decide +kernel
theorem dX10_takeStock_3 : decode cX10_takeStock 3 = .ok (.invokevirtual 335, 3) := by decide +kernel
theorem dX10_takeStock_6 : decode cX10_takeStock 6 = .ok (.invokestatic 302, 3) := by decide +kernel
theorem dX10_takeStock_9 : decode cX10_takeStock 9 = .ok (.aload_n 0, 1) := by decide +kernel
theorem dX10_takeStock_10 : decode cX10_takeStock 10 = .ok (.getfield 58, 3) := by decide +kernel
theorem dX10_takeStock_13 : decode cX10_takeStock 13 = .ok (.aload_n 0, 1) := by decide +kernel
theorem dX10_takeStock_14 : decode cX10_takeStock 14 = .ok (.getfield 45, 3) := by decide +kernel
theorem dX10_takeStock_17 : decode cX10_takeStock 17 = .ok (.invokevirtual 305, 3) := by decide +kernel
theorem dX10_takeStock_20 : decode cX10_takeStock 20 = .ok (.aload_n 0, 1) := by decide +kernel
theorem dX10_takeStock_21 : decode cX10_takeStock 21 = .ok (.getfield 45, 3) := by decide +kernel
theorem dX10_takeStock_24 : decode cX10_takeStock 24 = .ok (.iload_n 1, 1) := by decide +kernel
theorem dX10_takeStock_25 : decode cX10_takeStock 25 = .ok (.iload_n 2, 1) := by decide +kernel
theorem dX10_takeStock_26 : decode cX10_takeStock 26 = .ok (.invokevirtual 338, 3) := by decide +kernel
theorem dX10_takeStock_29 : decode cX10_takeStock 29 = .ok (.ireturn, 1) := by decide +kernel
theorem dX10_writeOffExpired_0 : decode cX10_writeOffExpired 0 = .ok (.aload_n 0, 1) := by decide +kernel
theorem dX10_writeOffExpired_1 : decode cX10_writeOffExpired 1 = .ok (.getfield 58, 3) := by decide +kernel
theorem dX10_writeOffExpired_4 : decode cX10_writeOffExpired 4 = .ok (.aload_n 0, 1) := by decide +kernel
theorem dX10_writeOffExpired_5 : decode cX10_writeOffExpired 5 = .ok (.getfield 45, 3) := by decide +kernel
theorem dX10_writeOffExpired_8 : decode cX10_writeOffExpired 8 = .ok (.invokevirtual 305, 3) := by decide +kernel
theorem dX10_writeOffExpired_11 : decode cX10_writeOffExpired 11 = .ok (.aload_n 0, 1) := by decide +kernel
theorem dX10_writeOffExpired_12 : decode cX10_writeOffExpired 12 = .ok (.getfield 45, 3) := by decide +kernel
theorem dX10_writeOffExpired_15 : decode cX10_writeOffExpired 15 = .ok (.invokevirtual 341, 3) := by decide +kernel
theorem dX10_writeOffExpired_18 : decode cX10_writeOffExpired 18 = .ok (.ireturn, 1) := by decide +kernel
theorem dX10_passDays_0 : decode cX10_passDays 0 = .ok (.aload_n 0, 1) := by decide +kernel
theorem dX10_passDays_1 : decode cX10_passDays 1 = .ok (.iload_n 1, 1) := by decide +kernel
theorem dX10_passDays_2 : decode cX10_passDays 2 = .ok (.invokevirtual 345, 3) := by decide +kernel
theorem dX10_passDays_5 : decode cX10_passDays 5 = .ok (.invokestatic 302, 3) := by decide +kernel
theorem dX10_passDays_8 : decode cX10_passDays 8 = .ok (.aload_n 0, 1) := by decide +kernel
theorem dX10_passDays_9 : decode cX10_passDays 9 = .ok (.getfield 58, 3) := by decide +kernel
theorem dX10_passDays_12 : decode cX10_passDays 12 = .ok (.aload_n 0, 1) := by decide +kernel
theorem dX10_passDays_13 : decode cX10_passDays 13 = .ok (.getfield 45, 3) := by decide +kernel
theorem dX10_passDays_16 : decode cX10_passDays 16 = .ok (.invokevirtual 305, 3) := by decide +kernel
theorem dX10_passDays_19 : decode cX10_passDays 19 = .ok (.aload_n 0, 1) := by decide +kernel
theorem dX10_passDays_20 : decode cX10_passDays 20 = .ok (.getfield 45, 3) := by decide +kernel
theorem dX10_passDays_23 : decode cX10_passDays 23 = .ok (.iload_n 1, 1) := by decide +kernel
theorem dX10_passDays_24 : decode cX10_passDays 24 = .ok (.invokevirtual 348, 3) := by decide +kernel
theorem dX10_passDays_27 : decode cX10_passDays 27 = .ok (.ireturn, 1) := by decide +kernel
theorem dX10_isOutside_0 : decode cX10_isOutside 0 = .ok (.iload_n 0, 1) := by decide +kernel
theorem dX10_isOutside_1 : decode cX10_isOutside 1 = .ok (.iload_n 1, 1) := by decide +kernel
theorem dX10_isOutside_2 : decode cX10_isOutside 2 = .ok (.if_icmp .lt 8, 3) := by decide +kernel
theorem dX10_isOutside_5 : decode cX10_isOutside 5 = .ok (.iload_n 0, 1) := by decide +kernel
theorem dX10_isOutside_6 : decode cX10_isOutside 6 = .ok (.iload_n 2, 1) := by decide +kernel
theorem dX10_isOutside_7 : decode cX10_isOutside 7 = .ok (.if_icmp .le 7, 3) := by decide +kernel
theorem dX10_isOutside_10 : decode cX10_isOutside 10 = .ok (.iconst 1, 1) := by decide +kernel
theorem dX10_isOutside_11 : decode cX10_isOutside 11 = .ok (.goto 4, 3) := by decide +kernel
theorem dX10_isOutside_14 : decode cX10_isOutside 14 = .ok (.iconst 0, 1) := by decide +kernel
theorem dX10_isOutside_15 : decode cX10_isOutside 15 = .ok (.ireturn, 1) := by decide +kernel
theorem dX10_checkRange_0 : decode cX10_checkRange 0 = .ok (.iload_n 0, 1) := by decide +kernel
theorem dX10_checkRange_1 : decode cX10_checkRange 1 = .ok (.iload_n 1, 1) := by decide +kernel
theorem dX10_checkRange_2 : decode cX10_checkRange 2 = .ok (.iload_n 2, 1) := by decide +kernel
theorem dX10_checkRange_3 : decode cX10_checkRange 3 = .ok (.invokestatic 158, 3) := by decide +kernel
theorem dX10_checkRange_6 : decode cX10_checkRange 6 = .ok (.ifCond .eq 14, 3) := by decide +kernel
theorem dX10_checkRange_9 : decode cX10_checkRange 9 = .ok (.new 115, 3) := by decide +kernel
theorem dX10_checkRange_12 : decode cX10_checkRange 12 = .ok (.dup, 1) := by decide +kernel
theorem dX10_checkRange_13 : decode cX10_checkRange 13 = .ok (.ldc_w 400, 3) := by decide +kernel
theorem dX10_checkRange_16 : decode cX10_checkRange 16 = .ok (.invokespecial 119, 3) := by decide +kernel
theorem dX10_checkRange_19 : decode cX10_checkRange 19 = .ok (.athrow, 1) := by decide +kernel
theorem dX10_checkRange_20 : decode cX10_checkRange 20 = .ok (.return_, 1) := by decide +kernel
theorem dX10_checkProduct_0 : decode cX10_checkProduct 0 = .ok (.aload_n 0, 1) := by decide +kernel
theorem dX10_checkProduct_1 : decode cX10_checkProduct 1 = .ok (.getfield 38, 3) := by decide +kernel
theorem dX10_checkProduct_4 : decode cX10_checkProduct 4 = .ok (.iload_n 1, 1) := by decide +kernel
theorem dX10_checkProduct_5 : decode cX10_checkProduct 5 = .ok (.invokevirtual 402, 3) := by decide +kernel
theorem dX10_checkProduct_8 : decode cX10_checkProduct 8 = .ok (.ifCond .ne 14, 3) := by decide +kernel
theorem dX10_checkProduct_11 : decode cX10_checkProduct 11 = .ok (.new 162, 3) := by decide +kernel
theorem dX10_checkProduct_14 : decode cX10_checkProduct 14 = .ok (.dup, 1) := by decide +kernel
theorem dX10_checkProduct_15 : decode cX10_checkProduct 15 = .ok (.ldc_w 405, 3) := by decide +kernel
theorem dX10_checkProduct_18 : decode cX10_checkProduct 18 = .ok (.invokespecial 166, 3) := by decide +kernel
theorem dX10_checkProduct_21 : decode cX10_checkProduct 21 = .ok (.athrow, 1) := by decide +kernel
theorem dX10_checkProduct_22 : decode cX10_checkProduct 22 = .ok (.return_, 1) := by decide +kernel
theorem dX10_checkBatch_0 : decode cX10_checkBatch 0 = .ok (.aload_n 0, 1) := by decide +kernel
theorem dX10_checkBatch_1 : decode cX10_checkBatch 1 = .ok (.getfield 45, 3) := by decide +kernel
theorem dX10_checkBatch_4 : decode cX10_checkBatch 4 = .ok (.iload_n 1, 1) := by decide +kernel
theorem dX10_checkBatch_5 : decode cX10_checkBatch 5 = .ok (.invokevirtual 407, 3) := by decide +kernel
theorem dX10_checkBatch_8 : decode cX10_checkBatch 8 = .ok (.ifCond .ne 14, 3) := by decide +kernel
theorem dX10_checkBatch_11 : decode cX10_checkBatch 11 = .ok (.new 162, 3) := by decide +kernel
theorem dX10_checkBatch_14 : decode cX10_checkBatch 14 = .ok (.dup, 1) := by decide +kernel
theorem dX10_checkBatch_15 : decode cX10_checkBatch 15 = .ok (.ldc_w 410, 3) := by decide +kernel
theorem dX10_checkBatch_18 : decode cX10_checkBatch 18 = .ok (.invokespecial 166, 3) := by decide +kernel
theorem dX10_checkBatch_21 : decode cX10_checkBatch 21 = .ok (.athrow, 1) := by decide +kernel
theorem dX10_checkBatch_22 : decode cX10_checkBatch 22 = .ok (.return_, 1) := by decide +kernel
theorem dX10_checkReservation_0 : decode cX10_checkReservation 0 = .ok (.aload_n 0, 1) := by decide +kernel
theorem dX10_checkReservation_1 : decode cX10_checkReservation 1 = .ok (.getfield 45, 3) := by decide +kernel
theorem dX10_checkReservation_4 : decode cX10_checkReservation 4 = .ok (.iload_n 1, 1) := by decide +kernel
theorem dX10_checkReservation_5 : decode cX10_checkReservation 5 = .ok (.invokevirtual 412, 3) := by decide +kernel
theorem dX10_checkReservation_8 : decode cX10_checkReservation 8 = .ok (.ifCond .ne 14, 3) := by decide +kernel
theorem dX10_checkReservation_11 : decode cX10_checkReservation 11 = .ok (.new 162, 3) := by decide +kernel
theorem dX10_checkReservation_14 : decode cX10_checkReservation 14 = .ok (.dup, 1) := by decide +kernel
theorem dX10_checkReservation_15 : decode cX10_checkReservation 15 = .ok (.ldc_w 415, 3) := by decide +kernel
theorem dX10_checkReservation_18 : decode cX10_checkReservation 18 = .ok (.invokespecial 166, 3) := by decide +kernel
theorem dX10_checkReservation_21 : decode cX10_checkReservation 21 = .ok (.athrow, 1) := by decide +kernel
theorem dX10_checkReservation_22 : decode cX10_checkReservation 22 = .ok (.return_, 1) := by decide +kernel
theorem dX10_refuse_0 : decode cX10_refuse 0 = .ok (.iload_n 0, 1) := by decide +kernel
theorem dX10_refuse_1 : decode cX10_refuse 1 = .ok (.iconst 1, 1) := by decide +kernel
theorem dX10_refuse_2 : decode cX10_refuse 2 = .ok (.if_icmp .ne 14, 3) := by decide +kernel
theorem dX10_refuse_5 : decode cX10_refuse 5 = .ok (.new 162, 3) := by decide +kernel
theorem dX10_refuse_8 : decode cX10_refuse 8 = .ok (.dup, 1) := by decide +kernel
theorem dX10_refuse_9 : decode cX10_refuse 9 = .ok (.ldc_w 427, 3) := by decide +kernel
theorem dX10_refuse_12 : decode cX10_refuse 12 = .ok (.invokespecial 166, 3) := by decide +kernel
theorem dX10_refuse_15 : decode cX10_refuse 15 = .ok (.athrow, 1) := by decide +kernel
theorem dX10_refuse_16 : decode cX10_refuse 16 = .ok (.iload_n 0, 1) := by decide +kernel
theorem dX10_refuse_17 : decode cX10_refuse 17 = .ok (.iconst 2, 1) := by decide +kernel
theorem dX10_refuse_18 : decode cX10_refuse 18 = .ok (.if_icmp .ne 14, 3) := by decide +kernel
theorem dX10_refuse_21 : decode cX10_refuse 21 = .ok (.new 115, 3) := by decide +kernel
theorem dX10_refuse_24 : decode cX10_refuse 24 = .ok (.dup, 1) := by decide +kernel
theorem dX10_refuse_25 : decode cX10_refuse 25 = .ok (.ldc_w 400, 3) := by decide +kernel
theorem dX10_refuse_28 : decode cX10_refuse 28 = .ok (.invokespecial 119, 3) := by decide +kernel
theorem dX10_refuse_31 : decode cX10_refuse 31 = .ok (.athrow, 1) := by decide +kernel
theorem dX10_refuse_32 : decode cX10_refuse 32 = .ok (.iload_n 0, 1) := by decide +kernel
theorem dX10_refuse_33 : decode cX10_refuse 33 = .ok (.iconst 3, 1) := by decide +kernel
theorem dX10_refuse_34 : decode cX10_refuse 34 = .ok (.if_icmp .ne 14, 3) := by decide +kernel
theorem dX10_refuse_37 : decode cX10_refuse 37 = .ok (.new 94, 3) := by decide +kernel
theorem dX10_refuse_40 : decode cX10_refuse 40 = .ok (.dup, 1) := by decide +kernel
theorem dX10_refuse_41 : decode cX10_refuse 41 = .ok (.ldc_w 429, 3) := by decide +kernel
theorem dX10_refuse_44 : decode cX10_refuse 44 = .ok (.invokespecial 98, 3) := by decide +kernel
theorem dX10_refuse_47 : decode cX10_refuse 47 = .ok (.athrow, 1) := by decide +kernel
theorem dX10_refuse_48 : decode cX10_refuse 48 = .ok (.return_, 1) := by decide +kernel
theorem dX10_refusalOfReceive_0 : decode cX10_refusalOfReceive 0 = .ok (.aload_n 0, 1) := by decide +kernel
theorem dX10_refusalOfReceive_1 : decode cX10_refusalOfReceive 1 = .ok (.getfield 38, 3) := by decide +kernel
theorem dX10_refusalOfReceive_4 : decode cX10_refusalOfReceive 4 = .ok (.iload_n 1, 1) := by decide +kernel
theorem dX10_refusalOfReceive_5 : decode cX10_refusalOfReceive 5 = .ok (.invokevirtual 402, 3) := by decide +kernel
theorem dX10_refusalOfReceive_8 : decode cX10_refusalOfReceive 8 = .ok (.ifCond .ne 5, 3) := by decide +kernel
theorem dX10_refusalOfReceive_11 : decode cX10_refusalOfReceive 11 = .ok (.iconst 1, 1) := by decide +kernel
theorem dX10_refusalOfReceive_12 : decode cX10_refusalOfReceive 12 = .ok (.ireturn, 1) := by decide +kernel
theorem dX10_refusalOfReceive_13 : decode cX10_refusalOfReceive 13 = .ok (.iload_n 2, 1) := by decide +kernel
theorem dX10_refusalOfReceive_14 : decode cX10_refusalOfReceive 14 = .ok (.iconst 1, 1) := by decide +kernel
theorem dX10_refusalOfReceive_15 : decode cX10_refusalOfReceive 15 = .ok (.sipush 999, 3) := by decide +kernel
theorem dX10_refusalOfReceive_18 : decode cX10_refusalOfReceive 18 = .ok (.invokestatic 158, 3) := by decide +kernel
theorem dX10_refusalOfReceive_21 : decode cX10_refusalOfReceive 21 = .ok (.ifCond .ne 26, 3) := by decide +kernel
theorem dX10_refusalOfReceive_24 : decode cX10_refusalOfReceive 24 = .ok (.iload_n 3, 1) := by decide +kernel
theorem dX10_refusalOfReceive_25 : decode cX10_refusalOfReceive 25 = .ok (.iconst 0, 1) := by decide +kernel
theorem dX10_refusalOfReceive_26 : decode cX10_refusalOfReceive 26 = .ok (.sipush 9999, 3) := by decide +kernel
theorem dX10_refusalOfReceive_29 : decode cX10_refusalOfReceive 29 = .ok (.invokestatic 158, 3) := by decide +kernel
theorem dX10_refusalOfReceive_32 : decode cX10_refusalOfReceive 32 = .ok (.ifCond .ne 15, 3) := by decide +kernel
theorem dX10_refusalOfReceive_35 : decode cX10_refusalOfReceive 35 = .ok (.iload 4, 2) := by decide +kernel
theorem dX10_refusalOfReceive_37 : decode cX10_refusalOfReceive 37 = .ok (.iconst 1, 1) := by decide +kernel
theorem dX10_refusalOfReceive_38 : decode cX10_refusalOfReceive 38 = .ok (.sipush 999, 3) := by decide +kernel
theorem dX10_refusalOfReceive_41 : decode cX10_refusalOfReceive 41 = .ok (.invokestatic 158, 3) := by decide +kernel
theorem dX10_refusalOfReceive_44 : decode cX10_refusalOfReceive 44 = .ok (.ifCond .eq 5, 3) := by decide +kernel
theorem dX10_refusalOfReceive_47 : decode cX10_refusalOfReceive 47 = .ok (.iconst 2, 1) := by decide +kernel
theorem dX10_refusalOfReceive_48 : decode cX10_refusalOfReceive 48 = .ok (.ireturn, 1) := by decide +kernel
theorem dX10_refusalOfReceive_49 : decode cX10_refusalOfReceive 49 = .ok (.aload_n 0, 1) := by decide +kernel
theorem dX10_refusalOfReceive_50 : decode cX10_refusalOfReceive 50 = .ok (.getfield 45, 3) := by decide +kernel
theorem dX10_refusalOfReceive_53 : decode cX10_refusalOfReceive 53 = .ok (.getfield 202, 3) := by decide +kernel
theorem dX10_refusalOfReceive_56 : decode cX10_refusalOfReceive 56 = .ok (.bipush 20, 2) := by decide +kernel
theorem dX10_refusalOfReceive_58 : decode cX10_refusalOfReceive 58 = .ok (.if_icmp .ge 7, 3) := by decide +kernel
theorem dX10_refusalOfReceive_61 : decode cX10_refusalOfReceive 61 = .ok (.iconst 0, 1) := by decide +kernel
theorem dX10_refusalOfReceive_62 : decode cX10_refusalOfReceive 62 = .ok (.goto 4, 3) := by decide +kernel
theorem dX10_refusalOfReceive_65 : decode cX10_refusalOfReceive 65 = .ok (.iconst 3, 1) := by decide +kernel
theorem dX10_refusalOfReceive_66 : decode cX10_refusalOfReceive 66 = .ok (.ireturn, 1) := by decide +kernel
theorem dX10_refusalOfIssue_0 : decode cX10_refusalOfIssue 0 = .ok (.aload_n 0, 1) := by decide +kernel
theorem dX10_refusalOfIssue_1 : decode cX10_refusalOfIssue 1 = .ok (.getfield 38, 3) := by decide +kernel
theorem dX10_refusalOfIssue_4 : decode cX10_refusalOfIssue 4 = .ok (.iload_n 1, 1) := by decide +kernel
theorem dX10_refusalOfIssue_5 : decode cX10_refusalOfIssue 5 = .ok (.invokevirtual 402, 3) := by decide +kernel
theorem dX10_refusalOfIssue_8 : decode cX10_refusalOfIssue 8 = .ok (.ifCond .ne 5, 3) := by decide +kernel
theorem dX10_refusalOfIssue_11 : decode cX10_refusalOfIssue 11 = .ok (.iconst 1, 1) := by decide +kernel
theorem dX10_refusalOfIssue_12 : decode cX10_refusalOfIssue 12 = .ok (.ireturn, 1) := by decide +kernel
theorem dX10_refusalOfIssue_13 : decode cX10_refusalOfIssue 13 = .ok (.iload_n 2, 1) := by decide +kernel
theorem dX10_refusalOfIssue_14 : decode cX10_refusalOfIssue 14 = .ok (.iconst 1, 1) := by decide +kernel
theorem dX10_refusalOfIssue_15 : decode cX10_refusalOfIssue 15 = .ok (.sipush 9999, 3) := by decide +kernel
theorem dX10_refusalOfIssue_18 : decode cX10_refusalOfIssue 18 = .ok (.invokestatic 158, 3) := by decide +kernel
theorem dX10_refusalOfIssue_21 : decode cX10_refusalOfIssue 21 = .ok (.ifCond .eq 5, 3) := by decide +kernel
theorem dX10_refusalOfIssue_24 : decode cX10_refusalOfIssue 24 = .ok (.iconst 2, 1) := by decide +kernel
theorem dX10_refusalOfIssue_25 : decode cX10_refusalOfIssue 25 = .ok (.ireturn, 1) := by decide +kernel
theorem dX10_refusalOfIssue_26 : decode cX10_refusalOfIssue 26 = .ok (.aload_n 0, 1) := by decide +kernel
theorem dX10_refusalOfIssue_27 : decode cX10_refusalOfIssue 27 = .ok (.getfield 45, 3) := by decide +kernel
theorem dX10_refusalOfIssue_30 : decode cX10_refusalOfIssue 30 = .ok (.iload_n 1, 1) := by decide +kernel
theorem dX10_refusalOfIssue_31 : decode cX10_refusalOfIssue 31 = .ok (.aload_n 0, 1) := by decide +kernel
theorem dX10_refusalOfIssue_32 : decode cX10_refusalOfIssue 32 = .ok (.getfield 45, 3) := by decide +kernel
theorem dX10_refusalOfIssue_35 : decode cX10_refusalOfIssue 35 = .ok (.getfield 142, 3) := by decide +kernel
theorem dX10_refusalOfIssue_38 : decode cX10_refusalOfIssue 38 = .ok (.invokevirtual 189, 3) := by decide +kernel
theorem dX10_refusalOfIssue_41 : decode cX10_refusalOfIssue 41 = .ok (.iload_n 2, 1) := by decide +kernel
theorem dX10_refusalOfIssue_42 : decode cX10_refusalOfIssue 42 = .ok (.if_icmp .lt 7, 3) := by decide +kernel
theorem dX10_refusalOfIssue_45 : decode cX10_refusalOfIssue 45 = .ok (.iconst 0, 1) := by decide +kernel
theorem dX10_refusalOfIssue_46 : decode cX10_refusalOfIssue 46 = .ok (.goto 4, 3) := by decide +kernel
theorem dX10_refusalOfIssue_49 : decode cX10_refusalOfIssue 49 = .ok (.iconst 3, 1) := by decide +kernel
theorem dX10_refusalOfIssue_50 : decode cX10_refusalOfIssue 50 = .ok (.ireturn, 1) := by decide +kernel
theorem dX10_refusalOfReserve_0 : decode cX10_refusalOfReserve 0 = .ok (.aload_n 0, 1) := by decide +kernel
theorem dX10_refusalOfReserve_1 : decode cX10_refusalOfReserve 1 = .ok (.getfield 38, 3) := by decide +kernel
theorem dX10_refusalOfReserve_4 : decode cX10_refusalOfReserve 4 = .ok (.iload_n 1, 1) := by decide +kernel
theorem dX10_refusalOfReserve_5 : decode cX10_refusalOfReserve 5 = .ok (.invokevirtual 402, 3) := by decide +kernel
theorem dX10_refusalOfReserve_8 : decode cX10_refusalOfReserve 8 = .ok (.ifCond .ne 5, 3) := by decide +kernel
theorem dX10_refusalOfReserve_11 : decode cX10_refusalOfReserve 11 = .ok (.iconst 1, 1) := by decide +kernel
theorem dX10_refusalOfReserve_12 : decode cX10_refusalOfReserve 12 = .ok (.ireturn, 1) := by decide +kernel
theorem dX10_refusalOfReserve_13 : decode cX10_refusalOfReserve 13 = .ok (.iload_n 2, 1) := by decide +kernel
theorem dX10_refusalOfReserve_14 : decode cX10_refusalOfReserve 14 = .ok (.iconst 1, 1) := by decide +kernel
theorem dX10_refusalOfReserve_15 : decode cX10_refusalOfReserve 15 = .ok (.sipush 9999, 3) := by decide +kernel
theorem dX10_refusalOfReserve_18 : decode cX10_refusalOfReserve 18 = .ok (.invokestatic 158, 3) := by decide +kernel
theorem dX10_refusalOfReserve_21 : decode cX10_refusalOfReserve 21 = .ok (.ifCond .ne 20, 3) := by decide +kernel
theorem dX10_refusalOfReserve_24 : decode cX10_refusalOfReserve 24 = .ok (.iload_n 3, 1) := by decide +kernel
theorem dX10_refusalOfReserve_25 : decode cX10_refusalOfReserve 25 = .ok (.aload_n 0, 1) := by decide +kernel
theorem dX10_refusalOfReserve_26 : decode cX10_refusalOfReserve 26 = .ok (.getfield 45, 3) := by decide +kernel
theorem dX10_refusalOfReserve_29 : decode cX10_refusalOfReserve 29 = .ok (.getfield 142, 3) := by decide +kernel
theorem dX10_refusalOfReserve_32 : decode cX10_refusalOfReserve 32 = .ok (.sipush 9999, 3) := by decide +kernel
theorem dX10_refusalOfReserve_35 : decode cX10_refusalOfReserve 35 = .ok (.invokestatic 158, 3) := by decide +kernel
theorem dX10_refusalOfReserve_38 : decode cX10_refusalOfReserve 38 = .ok (.ifCond .eq 5, 3) := by decide +kernel
theorem dX10_refusalOfReserve_41 : decode cX10_refusalOfReserve 41 = .ok (.iconst 2, 1) := by decide +kernel
theorem dX10_refusalOfReserve_42 : decode cX10_refusalOfReserve 42 = .ok (.ireturn, 1) := by decide +kernel
theorem dX10_refusalOfReserve_43 : decode cX10_refusalOfReserve 43 = .ok (.aload_n 0, 1) := by decide +kernel
theorem dX10_refusalOfReserve_44 : decode cX10_refusalOfReserve 44 = .ok (.getfield 45, 3) := by decide +kernel
theorem dX10_refusalOfReserve_47 : decode cX10_refusalOfReserve 47 = .ok (.getfield 240, 3) := by decide +kernel
theorem dX10_refusalOfReserve_50 : decode cX10_refusalOfReserve 50 = .ok (.bipush 10, 2) := by decide +kernel
theorem dX10_refusalOfReserve_52 : decode cX10_refusalOfReserve 52 = .ok (.if_icmp .ge 20, 3) := by decide +kernel
theorem dX10_refusalOfReserve_55 : decode cX10_refusalOfReserve 55 = .ok (.aload_n 0, 1) := by decide +kernel
theorem dX10_refusalOfReserve_56 : decode cX10_refusalOfReserve 56 = .ok (.getfield 45, 3) := by decide +kernel
theorem dX10_refusalOfReserve_59 : decode cX10_refusalOfReserve 59 = .ok (.iload_n 1, 1) := by decide +kernel
theorem dX10_refusalOfReserve_60 : decode cX10_refusalOfReserve 60 = .ok (.iload_n 3, 1) := by decide +kernel
theorem dX10_refusalOfReserve_61 : decode cX10_refusalOfReserve 61 = .ok (.invokevirtual 189, 3) := by decide +kernel
theorem dX10_refusalOfReserve_64 : decode cX10_refusalOfReserve 64 = .ok (.iload_n 2, 1) := by decide +kernel
theorem dX10_refusalOfReserve_65 : decode cX10_refusalOfReserve 65 = .ok (.if_icmp .lt 7, 3) := by decide +kernel
theorem dX10_refusalOfReserve_68 : decode cX10_refusalOfReserve 68 = .ok (.iconst 1, 1) := by decide +kernel
theorem dX10_refusalOfReserve_69 : decode cX10_refusalOfReserve 69 = .ok (.goto 4, 3) := by decide +kernel
theorem dX10_refusalOfReserve_72 : decode cX10_refusalOfReserve 72 = .ok (.iconst 0, 1) := by decide +kernel
theorem dX10_refusalOfReserve_73 : decode cX10_refusalOfReserve 73 = .ok (.istore 4, 2) := by decide +kernel
theorem dX10_refusalOfReserve_75 : decode cX10_refusalOfReserve 75 = .ok (.iload 4, 2) := by decide +kernel
theorem dX10_refusalOfReserve_77 : decode cX10_refusalOfReserve 77 = .ok (.ifCond .eq 7, 3) := by decide +kernel
theorem dX10_refusalOfReserve_80 : decode cX10_refusalOfReserve 80 = .ok (.iconst 0, 1) := by decide +kernel
theorem dX10_refusalOfReserve_81 : decode cX10_refusalOfReserve 81 = .ok (.goto 4, 3) := by decide +kernel
theorem dX10_refusalOfReserve_84 : decode cX10_refusalOfReserve 84 = .ok (.iconst 3, 1) := by decide +kernel
theorem dX10_refusalOfReserve_85 : decode cX10_refusalOfReserve 85 = .ok (.ireturn, 1) := by decide +kernel
theorem dX10_refusalOfShip_0 : decode cX10_refusalOfShip 0 = .ok (.aload_n 0, 1) := by decide +kernel
theorem dX10_refusalOfShip_1 : decode cX10_refusalOfShip 1 = .ok (.getfield 45, 3) := by decide +kernel
theorem dX10_refusalOfShip_4 : decode cX10_refusalOfShip 4 = .ok (.iload_n 1, 1) := by decide +kernel
theorem dX10_refusalOfShip_5 : decode cX10_refusalOfShip 5 = .ok (.invokevirtual 412, 3) := by decide +kernel
theorem dX10_refusalOfShip_8 : decode cX10_refusalOfShip 8 = .ok (.ifCond .ne 5, 3) := by decide +kernel
theorem dX10_refusalOfShip_11 : decode cX10_refusalOfShip 11 = .ok (.iconst 1, 1) := by decide +kernel
theorem dX10_refusalOfShip_12 : decode cX10_refusalOfShip 12 = .ok (.ireturn, 1) := by decide +kernel
theorem dX10_refusalOfShip_13 : decode cX10_refusalOfShip 13 = .ok (.aload_n 0, 1) := by decide +kernel
theorem dX10_refusalOfShip_14 : decode cX10_refusalOfShip 14 = .ok (.getfield 45, 3) := by decide +kernel
theorem dX10_refusalOfShip_17 : decode cX10_refusalOfShip 17 = .ok (.iload_n 1, 1) := by decide +kernel
theorem dX10_refusalOfShip_18 : decode cX10_refusalOfShip 18 = .ok (.invokevirtual 261, 3) := by decide +kernel
theorem dX10_refusalOfShip_21 : decode cX10_refusalOfShip 21 = .ok (.ifCond .ne 7, 3) := by decide +kernel
theorem dX10_refusalOfShip_24 : decode cX10_refusalOfShip 24 = .ok (.iconst 0, 1) := by decide +kernel
theorem dX10_refusalOfShip_25 : decode cX10_refusalOfShip 25 = .ok (.goto 4, 3) := by decide +kernel
theorem dX10_refusalOfShip_28 : decode cX10_refusalOfShip 28 = .ok (.iconst 3, 1) := by decide +kernel
theorem dX10_refusalOfShip_29 : decode cX10_refusalOfShip 29 = .ok (.ireturn, 1) := by decide +kernel
theorem dX10_refusalOfOpenOnly_0 : decode cX10_refusalOfOpenOnly 0 = .ok (.aload_n 0, 1) := by decide +kernel
theorem dX10_refusalOfOpenOnly_1 : decode cX10_refusalOfOpenOnly 1 = .ok (.getfield 45, 3) := by decide +kernel
theorem dX10_refusalOfOpenOnly_4 : decode cX10_refusalOfOpenOnly 4 = .ok (.iload_n 1, 1) := by decide +kernel
theorem dX10_refusalOfOpenOnly_5 : decode cX10_refusalOfOpenOnly 5 = .ok (.invokevirtual 412, 3) := by decide +kernel
theorem dX10_refusalOfOpenOnly_8 : decode cX10_refusalOfOpenOnly 8 = .ok (.ifCond .ne 5, 3) := by decide +kernel
theorem dX10_refusalOfOpenOnly_11 : decode cX10_refusalOfOpenOnly 11 = .ok (.iconst 1, 1) := by decide +kernel
theorem dX10_refusalOfOpenOnly_12 : decode cX10_refusalOfOpenOnly 12 = .ok (.ireturn, 1) := by decide +kernel
theorem dX10_refusalOfOpenOnly_13 : decode cX10_refusalOfOpenOnly 13 = .ok (.aload_n 0, 1) := by decide +kernel
theorem dX10_refusalOfOpenOnly_14 : decode cX10_refusalOfOpenOnly 14 = .ok (.getfield 45, 3) := by decide +kernel
theorem dX10_refusalOfOpenOnly_17 : decode cX10_refusalOfOpenOnly 17 = .ok (.iload_n 1, 1) := by decide +kernel
theorem dX10_refusalOfOpenOnly_18 : decode cX10_refusalOfOpenOnly 18 = .ok (.invokevirtual 252, 3) := by decide +kernel
theorem dX10_refusalOfOpenOnly_21 : decode cX10_refusalOfOpenOnly 21 = .ok (.ifCond .eq 7, 3) := by decide +kernel
theorem dX10_refusalOfOpenOnly_24 : decode cX10_refusalOfOpenOnly 24 = .ok (.iconst 0, 1) := by decide +kernel
theorem dX10_refusalOfOpenOnly_25 : decode cX10_refusalOfOpenOnly 25 = .ok (.goto 4, 3) := by decide +kernel
theorem dX10_refusalOfOpenOnly_28 : decode cX10_refusalOfOpenOnly 28 = .ok (.iconst 3, 1) := by decide +kernel
theorem dX10_refusalOfOpenOnly_29 : decode cX10_refusalOfOpenOnly 29 = .ok (.ireturn, 1) := by decide +kernel
theorem dX10_refusalOfCount_0 : decode cX10_refusalOfCount 0 = .ok (.aload_n 0, 1) := by decide +kernel
theorem dX10_refusalOfCount_1 : decode cX10_refusalOfCount 1 = .ok (.getfield 45, 3) := by decide +kernel
theorem dX10_refusalOfCount_4 : decode cX10_refusalOfCount 4 = .ok (.iload_n 1, 1) := by decide +kernel
theorem dX10_refusalOfCount_5 : decode cX10_refusalOfCount 5 = .ok (.invokevirtual 407, 3) := by decide +kernel
theorem dX10_refusalOfCount_8 : decode cX10_refusalOfCount 8 = .ok (.ifCond .ne 5, 3) := by decide +kernel
theorem dX10_refusalOfCount_11 : decode cX10_refusalOfCount 11 = .ok (.iconst 1, 1) := by decide +kernel
theorem dX10_refusalOfCount_12 : decode cX10_refusalOfCount 12 = .ok (.ireturn, 1) := by decide +kernel
theorem dX10_refusalOfCount_13 : decode cX10_refusalOfCount 13 = .ok (.iload_n 2, 1) := by decide +kernel
theorem dX10_refusalOfCount_14 : decode cX10_refusalOfCount 14 = .ok (.iconst 0, 1) := by decide +kernel
theorem dX10_refusalOfCount_15 : decode cX10_refusalOfCount 15 = .ok (.sipush 999, 3) := by decide +kernel
theorem dX10_refusalOfCount_18 : decode cX10_refusalOfCount 18 = .ok (.invokestatic 158, 3) := by decide +kernel
theorem dX10_refusalOfCount_21 : decode cX10_refusalOfCount 21 = .ok (.ifCond .eq 5, 3) := by decide +kernel
theorem dX10_refusalOfCount_24 : decode cX10_refusalOfCount 24 = .ok (.iconst 2, 1) := by decide +kernel
theorem dX10_refusalOfCount_25 : decode cX10_refusalOfCount 25 = .ok (.ireturn, 1) := by decide +kernel
theorem dX10_refusalOfCount_26 : decode cX10_refusalOfCount 26 = .ok (.iload_n 2, 1) := by decide +kernel
theorem dX10_refusalOfCount_27 : decode cX10_refusalOfCount 27 = .ok (.aload_n 0, 1) := by decide +kernel
theorem dX10_refusalOfCount_28 : decode cX10_refusalOfCount 28 = .ok (.getfield 45, 3) := by decide +kernel
theorem dX10_refusalOfCount_31 : decode cX10_refusalOfCount 31 = .ok (.getfield 214, 3) := by decide +kernel
theorem dX10_refusalOfCount_34 : decode cX10_refusalOfCount 34 = .ok (.iload_n 1, 1) := by decide +kernel
theorem dX10_refusalOfCount_35 : decode cX10_refusalOfCount 35 = .ok (.invokevirtual 152, 3) := by decide +kernel
theorem dX10_refusalOfCount_38 : decode cX10_refusalOfCount 38 = .ok (.if_icmp .lt 7, 3) := by decide +kernel
theorem dX10_refusalOfCount_41 : decode cX10_refusalOfCount 41 = .ok (.iconst 0, 1) := by decide +kernel
theorem dX10_refusalOfCount_42 : decode cX10_refusalOfCount 42 = .ok (.goto 4, 3) := by decide +kernel
theorem dX10_refusalOfCount_45 : decode cX10_refusalOfCount 45 = .ok (.iconst 3, 1) := by decide +kernel
theorem dX10_refusalOfCount_46 : decode cX10_refusalOfCount 46 = .ok (.ireturn, 1) := by decide +kernel
theorem dX10_refusalOfDays_0 : decode cX10_refusalOfDays 0 = .ok (.iload_n 1, 1) := by decide +kernel
theorem dX10_refusalOfDays_1 : decode cX10_refusalOfDays 1 = .ok (.iconst 1, 1) := by decide +kernel
theorem dX10_refusalOfDays_2 : decode cX10_refusalOfDays 2 = .ok (.sipush 999, 3) := by decide +kernel
theorem dX10_refusalOfDays_5 : decode cX10_refusalOfDays 5 = .ok (.invokestatic 158, 3) := by decide +kernel
theorem dX10_refusalOfDays_8 : decode cX10_refusalOfDays 8 = .ok (.ifCond .eq 5, 3) := by decide +kernel
theorem dX10_refusalOfDays_11 : decode cX10_refusalOfDays 11 = .ok (.iconst 2, 1) := by decide +kernel
theorem dX10_refusalOfDays_12 : decode cX10_refusalOfDays 12 = .ok (.ireturn, 1) := by decide +kernel
theorem dX10_refusalOfDays_13 : decode cX10_refusalOfDays 13 = .ok (.aload_n 0, 1) := by decide +kernel
theorem dX10_refusalOfDays_14 : decode cX10_refusalOfDays 14 = .ok (.getfield 45, 3) := by decide +kernel
theorem dX10_refusalOfDays_17 : decode cX10_refusalOfDays 17 = .ok (.getfield 142, 3) := by decide +kernel
theorem dX10_refusalOfDays_20 : decode cX10_refusalOfDays 20 = .ok (.iload_n 1, 1) := by decide +kernel
theorem dX10_refusalOfDays_21 : decode cX10_refusalOfDays 21 = .ok (.iadd, 1) := by decide +kernel
theorem dX10_refusalOfDays_22 : decode cX10_refusalOfDays 22 = .ok (.sipush 9999, 3) := by decide +kernel
theorem dX10_refusalOfDays_25 : decode cX10_refusalOfDays 25 = .ok (.if_icmp .gt 7, 3) := by decide +kernel
theorem dX10_refusalOfDays_28 : decode cX10_refusalOfDays 28 = .ok (.iconst 0, 1) := by decide +kernel
theorem dX10_refusalOfDays_29 : decode cX10_refusalOfDays 29 = .ok (.goto 4, 3) := by decide +kernel
theorem dX10_refusalOfDays_32 : decode cX10_refusalOfDays 32 = .ok (.iconst 3, 1) := by decide +kernel
theorem dX10_refusalOfDays_33 : decode cX10_refusalOfDays 33 = .ok (.ireturn, 1) := by decide +kernel
