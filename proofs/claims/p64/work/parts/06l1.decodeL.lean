/-! what each instruction of the law is (gen8.py) -/
theorem dL_law_108 : decode cL_law 108 = .ok (.irem, 1) := by decide +kernel
theorem dL_law_109 : decode cL_law 109 = .ok (.istore 7, 2) := by decide +kernel
theorem dL_law_111 : decode cL_law 111 = .ok (.iconst 1, 1) := by decide +kernel
theorem dL_law_112 : decode cL_law 112 = .ok (.iload 6, 2) := by decide +kernel
theorem dL_law_114 : decode cL_law 114 = .ok (.bipush 64, 2) := by decide +kernel
theorem dL_law_116 : decode cL_law 116 = .ok (.idiv, 1) := by decide +kernel
theorem dL_law_117 : decode cL_law 117 = .ok (.bipush 12, 2) := by decide +kernel
theorem dL_law_119 : decode cL_law 119 = .ok (.irem, 1) := by decide +kernel
theorem dL_law_120 : decode cL_law 120 = .ok (.iadd, 1) := by decide +kernel
theorem dL_law_121 : decode cL_law 121 = .ok (.istore 8, 2) := by decide +kernel
theorem dL_law_123 : decode cL_law 123 = .ok (.aload_n 1, 1) := by decide +kernel
theorem dL_law_124 : decode cL_law 124 = .ok (.invokevirtual 72, 3) := by decide +kernel
theorem dL_law_127 : decode cL_law 127 = .ok (.iload 6, 2) := by decide +kernel
theorem dL_law_129 : decode cL_law 129 = .ok (.sipush 1024, 3) := by decide +kernel
theorem dL_law_132 : decode cL_law 132 = .ok (.idiv, 1) := by decide +kernel
theorem dL_law_133 : decode cL_law 133 = .ok (.bipush 8, 2) := by decide +kernel
theorem dL_law_135 : decode cL_law 135 = .ok (.irem, 1) := by decide +kernel
theorem dL_law_136 : decode cL_law 136 = .ok (.iadd, 1) := by decide +kernel
theorem dL_law_137 : decode cL_law 137 = .ok (.istore 9, 2) := by decide +kernel
theorem dL_law_139 : decode cL_law 139 = .ok (.aload_n 1, 1) := by decide +kernel
theorem dL_law_140 : decode cL_law 140 = .ok (.invokevirtual 66, 3) := by decide +kernel
theorem dL_law_143 : decode cL_law 143 = .ok (.ifCond .ne 7, 3) := by decide +kernel
theorem dL_law_146 : decode cL_law 146 = .ok (.iconst (-1), 1) := by decide +kernel
theorem dL_law_147 : decode cL_law 147 = .ok (.goto 13, 3) := by decide +kernel
theorem dL_law_150 : decode cL_law 150 = .ok (.iload 6, 2) := by decide +kernel
theorem dL_law_152 : decode cL_law 152 = .ok (.ldc 147, 2) := by decide +kernel
theorem dL_law_154 : decode cL_law 154 = .ok (.idiv, 1) := by decide +kernel
theorem dL_law_155 : decode cL_law 155 = .ok (.aload_n 1, 1) := by decide +kernel
theorem dL_law_156 : decode cL_law 156 = .ok (.invokevirtual 66, 3) := by decide +kernel
theorem dL_law_159 : decode cL_law 159 = .ok (.irem, 1) := by decide +kernel
theorem dL_law_160 : decode cL_law 160 = .ok (.istore 10, 2) := by decide +kernel
theorem dL_law_162 : decode cL_law 162 = .ok (.iload 6, 2) := by decide +kernel
theorem dL_law_164 : decode cL_law 164 = .ok (.iconst 4, 1) := by decide +kernel
theorem dL_law_165 : decode cL_law 165 = .ok (.irem, 1) := by decide +kernel
theorem dL_law_166 : decode cL_law 166 = .ok (.ifCond .ne 86, 3) := by decide +kernel
theorem dL_law_169 : decode cL_law 169 = .ok (.aload 4, 2) := by decide +kernel
theorem dL_law_171 : decode cL_law 171 = .ok (.iload 7, 2) := by decide +kernel
theorem dL_law_173 : decode cL_law 173 = .ok (.aload_n 1, 1) := by decide +kernel
theorem dL_law_174 : decode cL_law 174 = .ok (.invokevirtual 72, 3) := by decide +kernel
theorem dL_law_177 : decode cL_law 177 = .ok (.invokevirtual 148, 3) := by decide +kernel
theorem dL_law_180 : decode cL_law 180 = .ok (.iload 8, 2) := by decide +kernel
theorem dL_law_182 : decode cL_law 182 = .ok (.if_icmp .lt 70, 3) := by decide +kernel
theorem dL_law_185 : decode cL_law 185 = .ok (.aload_n 1, 1) := by decide +kernel
theorem dL_law_186 : decode cL_law 186 = .ok (.iload 7, 2) := by decide +kernel
theorem dL_law_188 : decode cL_law 188 = .ok (.iload 8, 2) := by decide +kernel
theorem dL_law_190 : decode cL_law 190 = .ok (.invokevirtual 151, 3) := by decide +kernel
theorem dL_law_193 : decode cL_law 193 = .ok (.ifCond .ge 5, 3) := by decide +kernel
theorem dL_law_196 : decode cL_law 196 = .ok (.iconst 0, 1) := by decide +kernel
theorem dL_law_197 : decode cL_law 197 = .ok (.ireturn, 1) := by decide +kernel
theorem dL_law_198 : decode cL_law 198 = .ok (.aload_n 1, 1) := by decide +kernel
theorem dL_law_199 : decode cL_law 199 = .ok (.iload 7, 2) := by decide +kernel
theorem dL_law_201 : decode cL_law 201 = .ok (.iload 8, 2) := by decide +kernel
theorem dL_law_203 : decode cL_law 203 = .ok (.invokevirtual 151, 3) := by decide +kernel
theorem dL_law_206 : decode cL_law 206 = .ok (.istore 11, 2) := by decide +kernel
theorem dL_law_208 : decode cL_law 208 = .ok (.aload 4, 2) := by decide +kernel
theorem dL_law_210 : decode cL_law 210 = .ok (.iload 7, 2) := by decide +kernel
theorem dL_law_212 : decode cL_law 212 = .ok (.iload 8, 2) := by decide +kernel
theorem dL_law_214 : decode cL_law 214 = .ok (.invokevirtual 154, 3) := by decide +kernel
theorem dL_law_217 : decode cL_law 217 = .ok (.istore 12, 2) := by decide +kernel
theorem dL_law_219 : decode cL_law 219 = .ok (.aload_n 1, 1) := by decide +kernel
