theorem dX10_marked_90 : decode cX10_marked 90 = .ok (.goto 4, 3) := by decide +kernel
theorem dX10_marked_93 : decode cX10_marked 93 = .ok (.iconst 0, 1) := by decide +kernel
theorem dX10_marked_94 : decode cX10_marked 94 = .ok (.ireturn, 1) := by decide +kernel
theorem dX10_takeOperand_0 : decode cX10_takeOperand 0 = .ok (.aload_n 0, 1) := by decide +kernel
theorem dX10_takeOperand_1 : decode cX10_takeOperand 1 = .ok (.getfield 79, 3) := by decide +kernel
theorem dX10_takeOperand_4 : decode cX10_takeOperand 4 = .ok (.iconst 1, 1) := by decide +kernel
theorem dX10_takeOperand_5 : decode cX10_takeOperand 5 = .ok (.if_icmp .eq 72, 3) := by decide +kernel
theorem dX10_takeOperand_8 : decode cX10_takeOperand 8 = .ok (.aload_n 0, 1) := by decide +kernel
theorem dX10_takeOperand_9 : decode cX10_takeOperand 9 = .ok (.getfield 79, 3) := by decide +kernel
theorem dX10_takeOperand_12 : decode cX10_takeOperand 12 = .ok (.iconst 2, 1) := by decide +kernel
theorem dX10_takeOperand_13 : decode cX10_takeOperand 13 = .ok (.if_icmp .eq 64, 3) := by decide +kernel
theorem dX10_takeOperand_16 : decode cX10_takeOperand 16 = .ok (.aload_n 0, 1) := by decide +kernel
theorem dX10_takeOperand_17 : decode cX10_takeOperand 17 = .ok (.getfield 79, 3) := by decide +kernel
theorem dX10_takeOperand_20 : decode cX10_takeOperand 20 = .ok (.iconst 3, 1) := by decide +kernel
theorem dX10_takeOperand_21 : decode cX10_takeOperand 21 = .ok (.if_icmp .eq 56, 3) := by decide +kernel
theorem dX10_takeOperand_24 : decode cX10_takeOperand 24 = .ok (.aload_n 0, 1) := by decide +kernel
theorem dX10_takeOperand_25 : decode cX10_takeOperand 25 = .ok (.getfield 79, 3) := by decide +kernel
theorem dX10_takeOperand_28 : decode cX10_takeOperand 28 = .ok (.bipush 7, 2) := by decide +kernel
theorem dX10_takeOperand_30 : decode cX10_takeOperand 30 = .ok (.if_icmp .eq 47, 3) := by decide +kernel
theorem dX10_takeOperand_33 : decode cX10_takeOperand 33 = .ok (.aload_n 0, 1) := by decide +kernel
theorem dX10_takeOperand_34 : decode cX10_takeOperand 34 = .ok (.getfield 79, 3) := by decide +kernel
theorem dX10_takeOperand_37 : decode cX10_takeOperand 37 = .ok (.iconst 4, 1) := by decide +kernel
theorem dX10_takeOperand_38 : decode cX10_takeOperand 38 = .ok (.if_icmp .eq 39, 3) := by decide +kernel
theorem dX10_takeOperand_41 : decode cX10_takeOperand 41 = .ok (.aload_n 0, 1) := by decide +kernel
theorem dX10_takeOperand_42 : decode cX10_takeOperand 42 = .ok (.bipush 37, 2) := by decide +kernel
theorem dX10_takeOperand_44 : decode cX10_takeOperand 44 = .ok (.invokevirtual 167, 3) := by decide +kernel
theorem dX10_takeOperand_47 : decode cX10_takeOperand 47 = .ok (.ifCond .ne 30, 3) := by decide +kernel
theorem dX10_takeOperand_50 : decode cX10_takeOperand 50 = .ok (.aload_n 0, 1) := by decide +kernel
theorem dX10_takeOperand_51 : decode cX10_takeOperand 51 = .ok (.bipush 40, 2) := by decide +kernel
theorem dX10_takeOperand_53 : decode cX10_takeOperand 53 = .ok (.invokevirtual 167, 3) := by decide +kernel
theorem dX10_takeOperand_56 : decode cX10_takeOperand 56 = .ok (.ifCond .ne 21, 3) := by decide +kernel
theorem dX10_takeOperand_59 : decode cX10_takeOperand 59 = .ok (.aload_n 0, 1) := by decide +kernel
theorem dX10_takeOperand_60 : decode cX10_takeOperand 60 = .ok (.bipush 45, 2) := by decide +kernel
theorem dX10_takeOperand_62 : decode cX10_takeOperand 62 = .ok (.invokevirtual 167, 3) := by decide +kernel
theorem dX10_takeOperand_65 : decode cX10_takeOperand 65 = .ok (.ifCond .ne 12, 3) := by decide +kernel
theorem dX10_takeOperand_68 : decode cX10_takeOperand 68 = .ok (.aload_n 0, 1) := by decide +kernel
theorem dX10_takeOperand_69 : decode cX10_takeOperand 69 = .ok (.bipush 126, 2) := by decide +kernel
theorem dX10_takeOperand_71 : decode cX10_takeOperand 71 = .ok (.invokevirtual 167, 3) := by decide +kernel
theorem dX10_takeOperand_74 : decode cX10_takeOperand 74 = .ok (.ifCond .eq 7, 3) := by decide +kernel
theorem dX10_takeOperand_77 : decode cX10_takeOperand 77 = .ok (.iconst 1, 1) := by decide +kernel
theorem dX10_takeOperand_78 : decode cX10_takeOperand 78 = .ok (.goto 4, 3) := by decide +kernel
theorem dX10_takeOperand_81 : decode cX10_takeOperand 81 = .ok (.iconst 0, 1) := by decide +kernel
theorem dX10_takeOperand_82 : decode cX10_takeOperand 82 = .ok (.istore_n 1, 1) := by decide +kernel
theorem dX10_takeOperand_83 : decode cX10_takeOperand 83 = .ok (.iload_n 1, 1) := by decide +kernel
theorem dX10_takeOperand_84 : decode cX10_takeOperand 84 = .ok (.ifCond .ne 9, 3) := by decide +kernel
theorem dX10_takeOperand_87 : decode cX10_takeOperand 87 = .ok (.aload_n 0, 1) := by decide +kernel
theorem dX10_takeOperand_88 : decode cX10_takeOperand 88 = .ok (.iconst 5, 1) := by decide +kernel
theorem dX10_takeOperand_89 : decode cX10_takeOperand 89 = .ok (.invokevirtual 152, 3) := by decide +kernel
theorem dX10_takeOperand_92 : decode cX10_takeOperand 92 = .ok (.ireturn, 1) := by decide +kernel
theorem dX10_takeOperand_93 : decode cX10_takeOperand 93 = .ok (.aload_n 0, 1) := by decide +kernel
theorem dX10_takeOperand_94 : decode cX10_takeOperand 94 = .ok (.getfield 16, 3) := by decide +kernel
theorem dX10_takeOperand_97 : decode cX10_takeOperand 97 = .ok (.iconst 1, 1) := by decide +kernel
theorem dX10_takeOperand_98 : decode cX10_takeOperand 98 = .ok (.iaload, 1) := by decide +kernel
theorem dX10_takeOperand_99 : decode cX10_takeOperand 99 = .ok (.sipush 800, 3) := by decide +kernel
theorem dX10_takeOperand_102 : decode cX10_takeOperand 102 = .ok (.if_icmp .ne 10, 3) := by decide +kernel
theorem dX10_takeOperand_105 : decode cX10_takeOperand 105 = .ok (.aload_n 0, 1) := by decide +kernel
theorem dX10_takeOperand_106 : decode cX10_takeOperand 106 = .ok (.bipush 8, 2) := by decide +kernel
theorem dX10_takeOperand_108 : decode cX10_takeOperand 108 = .ok (.invokevirtual 152, 3) := by decide +kernel
theorem dX10_takeOperand_111 : decode cX10_takeOperand 111 = .ok (.ireturn, 1) := by decide +kernel
theorem dX10_takeOperand_112 : decode cX10_takeOperand 112 = .ok (.aload_n 0, 1) := by decide +kernel
theorem dX10_takeOperand_113 : decode cX10_takeOperand 113 = .ok (.iconst 0, 1) := by decide +kernel
theorem dX10_takeOperand_114 : decode cX10_takeOperand 114 = .ok (.putfield 149, 3) := by decide +kernel
theorem dX10_takeOperand_117 : decode cX10_takeOperand 117 = .ok (.bipush 7, 2) := by decide +kernel
theorem dX10_takeOperand_119 : decode cX10_takeOperand 119 = .ok (.aload_n 0, 1) := by decide +kernel
theorem dX10_takeOperand_120 : decode cX10_takeOperand 120 = .ok (.getfield 16, 3) := by decide +kernel
theorem dX10_takeOperand_123 : decode cX10_takeOperand 123 = .ok (.iconst 1, 1) := by decide +kernel
theorem dX10_takeOperand_124 : decode cX10_takeOperand 124 = .ok (.iaload, 1) := by decide +kernel
theorem dX10_takeOperand_125 : decode cX10_takeOperand 125 = .ok (.imul, 1) := by decide +kernel
theorem dX10_takeOperand_126 : decode cX10_takeOperand 126 = .ok (.istore_n 2, 1) := by decide +kernel
theorem dX10_takeOperand_127 : decode cX10_takeOperand 127 = .ok (.aload_n 0, 1) := by decide +kernel
theorem dX10_takeOperand_128 : decode cX10_takeOperand 128 = .ok (.getfield 16, 3) := by decide +kernel
theorem dX10_takeOperand_131 : decode cX10_takeOperand 131 = .ok (.iconst 1, 1) := by decide +kernel
theorem dX10_takeOperand_132 : decode cX10_takeOperand 132 = .ok (.dup2, 1) := by decide +kernel
theorem dX10_takeOperand_133 : decode cX10_takeOperand 133 = .ok (.iaload, 1) := by decide +kernel
theorem dX10_takeOperand_134 : decode cX10_takeOperand 134 = .ok (.iconst 1, 1) := by decide +kernel
theorem dX10_takeOperand_135 : decode cX10_takeOperand 135 = .ok (.iadd, 1) := by decide +kernel
theorem dX10_takeOperand_136 : decode cX10_takeOperand 136 = .ok (.iastore, 1) := by decide +kernel
theorem dX10_takeOperand_137 : decode cX10_takeOperand 137 = .ok (.aload_n 0, 1) := by decide +kernel
theorem dX10_takeOperand_138 : decode cX10_takeOperand 138 = .ok (.getfield 22, 3) := by decide +kernel
theorem dX10_takeOperand_141 : decode cX10_takeOperand 141 = .ok (.iload_n 2, 1) := by decide +kernel
theorem dX10_takeOperand_142 : decode cX10_takeOperand 142 = .ok (.iconst 0, 1) := by decide +kernel
theorem dX10_takeOperand_143 : decode cX10_takeOperand 143 = .ok (.iastore, 1) := by decide +kernel
theorem dX10_takeOperand_144 : decode cX10_takeOperand 144 = .ok (.aload_n 0, 1) := by decide +kernel
theorem dX10_takeOperand_145 : decode cX10_takeOperand 145 = .ok (.getfield 22, 3) := by decide +kernel
theorem dX10_takeOperand_148 : decode cX10_takeOperand 148 = .ok (.iload_n 2, 1) := by decide +kernel
theorem dX10_takeOperand_149 : decode cX10_takeOperand 149 = .ok (.iconst 1, 1) := by decide +kernel
theorem dX10_takeOperand_150 : decode cX10_takeOperand 150 = .ok (.iadd, 1) := by decide +kernel
theorem dX10_takeOperand_151 : decode cX10_takeOperand 151 = .ok (.iconst (-1), 1) := by decide +kernel
theorem dX10_takeOperand_152 : decode cX10_takeOperand 152 = .ok (.iastore, 1) := by decide +kernel
theorem dX10_takeOperand_153 : decode cX10_takeOperand 153 = .ok (.aload_n 0, 1) := by decide +kernel
theorem dX10_takeOperand_154 : decode cX10_takeOperand 154 = .ok (.getfield 22, 3) := by decide +kernel
theorem dX10_takeOperand_157 : decode cX10_takeOperand 157 = .ok (.iload_n 2, 1) := by decide +kernel
theorem dX10_takeOperand_158 : decode cX10_takeOperand 158 = .ok (.iconst 2, 1) := by decide +kernel
theorem dX10_takeOperand_159 : decode cX10_takeOperand 159 = .ok (.iadd, 1) := by decide +kernel
theorem dX10_takeOperand_160 : decode cX10_takeOperand 160 = .ok (.iconst 0, 1) := by decide +kernel
theorem dX10_takeOperand_161 : decode cX10_takeOperand 161 = .ok (.iastore, 1) := by decide +kernel
theorem dX10_takeOperand_162 : decode cX10_takeOperand 162 = .ok (.aload_n 0, 1) := by decide +kernel
theorem dX10_takeOperand_163 : decode cX10_takeOperand 163 = .ok (.getfield 22, 3) := by decide +kernel
theorem dX10_takeOperand_166 : decode cX10_takeOperand 166 = .ok (.iload_n 2, 1) := by decide +kernel
theorem dX10_takeOperand_167 : decode cX10_takeOperand 167 = .ok (.iconst 3, 1) := by decide +kernel
theorem dX10_takeOperand_168 : decode cX10_takeOperand 168 = .ok (.iadd, 1) := by decide +kernel
theorem dX10_takeOperand_169 : decode cX10_takeOperand 169 = .ok (.aload_n 0, 1) := by decide +kernel
theorem dX10_takeOperand_170 : decode cX10_takeOperand 170 = .ok (.getfield 16, 3) := by decide +kernel
theorem dX10_takeOperand_173 : decode cX10_takeOperand 173 = .ok (.iconst 2, 1) := by decide +kernel
theorem dX10_takeOperand_174 : decode cX10_takeOperand 174 = .ok (.iaload, 1) := by decide +kernel
theorem dX10_takeOperand_175 : decode cX10_takeOperand 175 = .ok (.iastore, 1) := by decide +kernel
theorem dX10_takeOperand_176 : decode cX10_takeOperand 176 = .ok (.aload_n 0, 1) := by decide +kernel
theorem dX10_takeOperand_177 : decode cX10_takeOperand 177 = .ok (.getfield 22, 3) := by decide +kernel
theorem dX10_takeOperand_180 : decode cX10_takeOperand 180 = .ok (.iload_n 2, 1) := by decide +kernel
theorem dX10_takeOperand_181 : decode cX10_takeOperand 181 = .ok (.iconst 5, 1) := by decide +kernel
theorem dX10_takeOperand_182 : decode cX10_takeOperand 182 = .ok (.iadd, 1) := by decide +kernel
theorem dX10_takeOperand_183 : decode cX10_takeOperand 183 = .ok (.aload_n 0, 1) := by decide +kernel
theorem dX10_takeOperand_184 : decode cX10_takeOperand 184 = .ok (.getfield 85, 3) := by decide +kernel
theorem dX10_takeOperand_187 : decode cX10_takeOperand 187 = .ok (.iastore, 1) := by decide +kernel
theorem dX10_takeOperand_188 : decode cX10_takeOperand 188 = .ok (.aload_n 0, 1) := by decide +kernel
theorem dX10_takeOperand_189 : decode cX10_takeOperand 189 = .ok (.getfield 22, 3) := by decide +kernel
theorem dX10_takeOperand_192 : decode cX10_takeOperand 192 = .ok (.iload_n 2, 1) := by decide +kernel
theorem dX10_takeOperand_193 : decode cX10_takeOperand 193 = .ok (.bipush 6, 2) := by decide +kernel
theorem dX10_takeOperand_195 : decode cX10_takeOperand 195 = .ok (.iadd, 1) := by decide +kernel
theorem dX10_takeOperand_196 : decode cX10_takeOperand 196 = .ok (.iconst 0, 1) := by decide +kernel
theorem dX10_takeOperand_197 : decode cX10_takeOperand 197 = .ok (.iastore, 1) := by decide +kernel
theorem dX10_takeOperand_198 : decode cX10_takeOperand 198 = .ok (.aload_n 0, 1) := by decide +kernel
theorem dX10_takeOperand_199 : decode cX10_takeOperand 199 = .ok (.invokevirtual 170, 3) := by decide +kernel
theorem dX10_takeOperand_202 : decode cX10_takeOperand 202 = .ok (.istore_n 3, 1) := by decide +kernel
theorem dX10_takeOperand_203 : decode cX10_takeOperand 203 = .ok (.aload_n 0, 1) := by decide +kernel
theorem dX10_takeOperand_204 : decode cX10_takeOperand 204 = .ok (.getfield 79, 3) := by decide +kernel
theorem dX10_takeOperand_207 : decode cX10_takeOperand 207 = .ok (.iconst 4, 1) := by decide +kernel
theorem dX10_takeOperand_208 : decode cX10_takeOperand 208 = .ok (.if_icmp .ne 106, 3) := by decide +kernel
theorem dX10_takeOperand_211 : decode cX10_takeOperand 211 = .ok (.aload_n 0, 1) := by decide +kernel
theorem dX10_takeOperand_212 : decode cX10_takeOperand 212 = .ok (.getfield 22, 3) := by decide +kernel
theorem dX10_takeOperand_215 : decode cX10_takeOperand 215 = .ok (.iload_n 2, 1) := by decide +kernel
theorem dX10_takeOperand_216 : decode cX10_takeOperand 216 = .ok (.iconst 3, 1) := by decide +kernel
theorem dX10_takeOperand_217 : decode cX10_takeOperand 217 = .ok (.iastore, 1) := by decide +kernel
theorem dX10_takeOperand_218 : decode cX10_takeOperand 218 = .ok (.aload_n 0, 1) := by decide +kernel
theorem dX10_takeOperand_219 : decode cX10_takeOperand 219 = .ok (.getfield 22, 3) := by decide +kernel
theorem dX10_takeOperand_222 : decode cX10_takeOperand 222 = .ok (.iload_n 2, 1) := by decide +kernel
theorem dX10_takeOperand_223 : decode cX10_takeOperand 223 = .ok (.iconst 1, 1) := by decide +kernel
theorem dX10_takeOperand_224 : decode cX10_takeOperand 224 = .ok (.iadd, 1) := by decide +kernel
theorem dX10_takeOperand_225 : decode cX10_takeOperand 225 = .ok (.iconst (-1), 1) := by decide +kernel
theorem dX10_takeOperand_226 : decode cX10_takeOperand 226 = .ok (.iastore, 1) := by decide +kernel
theorem dX10_takeOperand_227 : decode cX10_takeOperand 227 = .ok (.aload_n 0, 1) := by decide +kernel
theorem dX10_takeOperand_228 : decode cX10_takeOperand 228 = .ok (.getfield 22, 3) := by decide +kernel
theorem dX10_takeOperand_231 : decode cX10_takeOperand 231 = .ok (.iload_n 2, 1) := by decide +kernel
theorem dX10_takeOperand_232 : decode cX10_takeOperand 232 = .ok (.bipush 6, 2) := by decide +kernel
theorem dX10_takeOperand_234 : decode cX10_takeOperand 234 = .ok (.iadd, 1) := by decide +kernel
theorem dX10_takeOperand_235 : decode cX10_takeOperand 235 = .ok (.aload_n 0, 1) := by decide +kernel
theorem dX10_takeOperand_236 : decode cX10_takeOperand 236 = .ok (.getfield 126, 3) := by decide +kernel
theorem dX10_takeOperand_239 : decode cX10_takeOperand 239 = .ok (.iastore, 1) := by decide +kernel
theorem dX10_takeOperand_240 : decode cX10_takeOperand 240 = .ok (.aload_n 0, 1) := by decide +kernel
theorem dX10_takeOperand_241 : decode cX10_takeOperand 241 = .ok (.getfield 59, 3) := by decide +kernel
theorem dX10_takeOperand_244 : decode cX10_takeOperand 244 = .ok (.aload_n 0, 1) := by decide +kernel
theorem dX10_takeOperand_245 : decode cX10_takeOperand 245 = .ok (.getfield 16, 3) := by decide +kernel
theorem dX10_takeOperand_248 : decode cX10_takeOperand 248 = .ok (.iconst 1, 1) := by decide +kernel
theorem dX10_takeOperand_249 : decode cX10_takeOperand 249 = .ok (.iaload, 1) := by decide +kernel
theorem dX10_takeOperand_250 : decode cX10_takeOperand 250 = .ok (.iconst 1, 1) := by decide +kernel
theorem dX10_takeOperand_251 : decode cX10_takeOperand 251 = .ok (.isub, 1) := by decide +kernel
theorem dX10_takeOperand_252 : decode cX10_takeOperand 252 = .ok (.aload_n 0, 1) := by decide +kernel
theorem dX10_takeOperand_253 : decode cX10_takeOperand 253 = .ok (.getfield 208, 3) := by decide +kernel
theorem dX10_takeOperand_256 : decode cX10_takeOperand 256 = .ok (.iastore, 1) := by decide +kernel
theorem dX10_takeOperand_257 : decode cX10_takeOperand 257 = .ok (.iconst 0, 1) := by decide +kernel
theorem dX10_takeOperand_258 : decode cX10_takeOperand 258 = .ok (.istore 4, 2) := by decide +kernel
theorem dX10_takeOperand_260 : decode cX10_takeOperand 260 = .ok (.iload 4, 2) := by decide +kernel
theorem dX10_takeOperand_262 : decode cX10_takeOperand 262 = .ok (.aload_n 0, 1) := by decide +kernel
theorem dX10_takeOperand_263 : decode cX10_takeOperand 263 = .ok (.getfield 126, 3) := by decide +kernel
theorem dX10_takeOperand_266 : decode cX10_takeOperand 266 = .ok (.if_icmp .ge 28, 3) := by decide +kernel
theorem dX10_takeOperand_269 : decode cX10_takeOperand 269 = .ok (.aload_n 0, 1) := by decide +kernel
theorem dX10_takeOperand_270 : decode cX10_takeOperand 270 = .ok (.getfield 34, 3) := by decide +kernel
theorem dX10_takeOperand_273 : decode cX10_takeOperand 273 = .ok (.aload_n 0, 1) := by decide +kernel
theorem dX10_takeOperand_274 : decode cX10_takeOperand 274 = .ok (.getfield 208, 3) := by decide +kernel
theorem dX10_takeOperand_277 : decode cX10_takeOperand 277 = .ok (.iload 4, 2) := by decide +kernel
theorem dX10_takeOperand_279 : decode cX10_takeOperand 279 = .ok (.iadd, 1) := by decide +kernel
theorem dX10_takeOperand_280 : decode cX10_takeOperand 280 = .ok (.aload_n 0, 1) := by decide +kernel
theorem dX10_takeOperand_281 : decode cX10_takeOperand 281 = .ok (.getfield 56, 3) := by decide +kernel
theorem dX10_takeOperand_284 : decode cX10_takeOperand 284 = .ok (.iload 4, 2) := by decide +kernel
theorem dX10_takeOperand_286 : decode cX10_takeOperand 286 = .ok (.iaload, 1) := by decide +kernel
theorem dX10_takeOperand_287 : decode cX10_takeOperand 287 = .ok (.iastore, 1) := by decide +kernel
theorem dX10_takeOperand_288 : decode cX10_takeOperand 288 = .ok (.iinc 4 1, 3) := by decide +kernel
theorem dX10_takeOperand_291 : decode cX10_takeOperand 291 = .ok (.goto (-31), 3) := by decide +kernel
theorem dX10_takeOperand_294 : decode cX10_takeOperand 294 = .ok (.aload_n 0, 1) := by decide +kernel
theorem dX10_takeOperand_295 : decode cX10_takeOperand 295 = .ok (.dup, 1) := by decide +kernel
theorem dX10_takeOperand_296 : decode cX10_takeOperand 296 = .ok (.getfield 208, 3) := by decide +kernel
theorem dX10_takeOperand_299 : decode cX10_takeOperand 299 = .ok (.aload_n 0, 1) := by decide +kernel
theorem dX10_takeOperand_300 : decode cX10_takeOperand 300 = .ok (.getfield 126, 3) := by decide +kernel
theorem dX10_takeOperand_303 : decode cX10_takeOperand 303 = .ok (.iadd, 1) := by decide +kernel
theorem dX10_takeOperand_304 : decode cX10_takeOperand 304 = .ok (.putfield 208, 3) := by decide +kernel
theorem dX10_takeOperand_307 : decode cX10_takeOperand 307 = .ok (.aload_n 0, 1) := by decide +kernel
theorem dX10_takeOperand_308 : decode cX10_takeOperand 308 = .ok (.invokevirtual 177, 3) := by decide +kernel
theorem dX10_takeOperand_311 : decode cX10_takeOperand 311 = .ok (.goto 110, 3) := by decide +kernel
theorem dX10_takeOperand_314 : decode cX10_takeOperand 314 = .ok (.iload_n 3, 1) := by decide +kernel
theorem dX10_takeOperand_315 : decode cX10_takeOperand 315 = .ok (.iconst (-1), 1) := by decide +kernel
theorem dX10_takeOperand_316 : decode cX10_takeOperand 316 = .ok (.if_icmp .eq 26, 3) := by decide +kernel
theorem dX10_takeOperand_319 : decode cX10_takeOperand 319 = .ok (.aload_n 0, 1) := by decide +kernel
theorem dX10_takeOperand_320 : decode cX10_takeOperand 320 = .ok (.getfield 22, 3) := by decide +kernel
theorem dX10_takeOperand_323 : decode cX10_takeOperand 323 = .ok (.iload_n 2, 1) := by decide +kernel
theorem dX10_takeOperand_324 : decode cX10_takeOperand 324 = .ok (.iconst 1, 1) := by decide +kernel
theorem dX10_takeOperand_325 : decode cX10_takeOperand 325 = .ok (.iastore, 1) := by decide +kernel
theorem dX10_takeOperand_326 : decode cX10_takeOperand 326 = .ok (.aload_n 0, 1) := by decide +kernel
theorem dX10_takeOperand_327 : decode cX10_takeOperand 327 = .ok (.getfield 22, 3) := by decide +kernel
theorem dX10_takeOperand_330 : decode cX10_takeOperand 330 = .ok (.iload_n 2, 1) := by decide +kernel
theorem dX10_takeOperand_331 : decode cX10_takeOperand 331 = .ok (.iconst 1, 1) := by decide +kernel
theorem dX10_takeOperand_332 : decode cX10_takeOperand 332 = .ok (.iadd, 1) := by decide +kernel
theorem dX10_takeOperand_333 : decode cX10_takeOperand 333 = .ok (.iload_n 3, 1) := by decide +kernel
theorem dX10_takeOperand_334 : decode cX10_takeOperand 334 = .ok (.iastore, 1) := by decide +kernel
theorem dX10_takeOperand_335 : decode cX10_takeOperand 335 = .ok (.aload_n 0, 1) := by decide +kernel
theorem dX10_takeOperand_336 : decode cX10_takeOperand 336 = .ok (.invokevirtual 177, 3) := by decide +kernel
theorem dX10_takeOperand_339 : decode cX10_takeOperand 339 = .ok (.goto 82, 3) := by decide +kernel
theorem dX10_takeOperand_342 : decode cX10_takeOperand 342 = .ok (.aload_n 0, 1) := by decide +kernel
theorem dX10_takeOperand_343 : decode cX10_takeOperand 343 = .ok (.invokevirtual 211, 3) := by decide +kernel
theorem dX10_takeOperand_346 : decode cX10_takeOperand 346 = .ok (.ifCond .eq 28, 3) := by decide +kernel
theorem dX10_takeOperand_349 : decode cX10_takeOperand 349 = .ok (.aload_n 0, 1) := by decide +kernel
theorem dX10_takeOperand_350 : decode cX10_takeOperand 350 = .ok (.invokevirtual 180, 3) := by decide +kernel
theorem dX10_takeOperand_353 : decode cX10_takeOperand 353 = .ok (.ifCond .ne 5, 3) := by decide +kernel
theorem dX10_takeOperand_356 : decode cX10_takeOperand 356 = .ok (.iconst 0, 1) := by decide +kernel
theorem dX10_takeOperand_357 : decode cX10_takeOperand 357 = .ok (.ireturn, 1) := by decide +kernel
theorem dX10_takeOperand_358 : decode cX10_takeOperand 358 = .ok (.aload_n 0, 1) := by decide +kernel
theorem dX10_takeOperand_359 : decode cX10_takeOperand 359 = .ok (.iconst 0, 1) := by decide +kernel
theorem dX10_takeOperand_360 : decode cX10_takeOperand 360 = .ok (.iconst 0, 1) := by decide +kernel
theorem dX10_takeOperand_361 : decode cX10_takeOperand 361 = .ok (.invokevirtual 158, 3) := by decide +kernel
theorem dX10_takeOperand_364 : decode cX10_takeOperand 364 = .ok (.aload_n 0, 1) := by decide +kernel
theorem dX10_takeOperand_365 : decode cX10_takeOperand 365 = .ok (.iload_n 2, 1) := by decide +kernel
theorem dX10_takeOperand_366 : decode cX10_takeOperand 366 = .ok (.invokevirtual 214, 3) := by decide +kernel
theorem dX10_takeOperand_369 : decode cX10_takeOperand 369 = .ok (.ifCond .ne 52, 3) := by decide +kernel
theorem dX10_takeOperand_372 : decode cX10_takeOperand 372 = .ok (.iconst 0, 1) := by decide +kernel
theorem dX10_takeOperand_373 : decode cX10_takeOperand 373 = .ok (.ireturn, 1) := by decide +kernel
theorem dX10_takeOperand_374 : decode cX10_takeOperand 374 = .ok (.aload_n 0, 1) := by decide +kernel
theorem dX10_takeOperand_375 : decode cX10_takeOperand 375 = .ok (.bipush 37, 2) := by decide +kernel
theorem dX10_takeOperand_377 : decode cX10_takeOperand 377 = .ok (.invokevirtual 167, 3) := by decide +kernel
theorem dX10_takeOperand_380 : decode cX10_takeOperand 380 = .ok (.ifCond .eq 11, 3) := by decide +kernel
theorem dX10_takeOperand_383 : decode cX10_takeOperand 383 = .ok (.aload_n 0, 1) := by decide +kernel
theorem dX10_takeOperand_384 : decode cX10_takeOperand 384 = .ok (.iload_n 2, 1) := by decide +kernel
theorem dX10_takeOperand_385 : decode cX10_takeOperand 385 = .ok (.invokevirtual 217, 3) := by decide +kernel
theorem dX10_takeOperand_388 : decode cX10_takeOperand 388 = .ok (.goto 7, 3) := by decide +kernel
theorem dX10_takeOperand_391 : decode cX10_takeOperand 391 = .ok (.aload_n 0, 1) := by decide +kernel
theorem dX10_takeOperand_392 : decode cX10_takeOperand 392 = .ok (.invokevirtual 205, 3) := by decide +kernel
theorem dX10_takeOperand_395 : decode cX10_takeOperand 395 = .ok (.istore 4, 2) := by decide +kernel
theorem dX10_takeOperand_397 : decode cX10_takeOperand 397 = .ok (.iload 4, 2) := by decide +kernel
theorem dX10_takeOperand_399 : decode cX10_takeOperand 399 = .ok (.ifCond .eq 20, 3) := by decide +kernel
theorem dX10_takeOperand_402 : decode cX10_takeOperand 402 = .ok (.aload_n 0, 1) := by decide +kernel
theorem dX10_takeOperand_403 : decode cX10_takeOperand 403 = .ok (.bipush 40, 2) := by decide +kernel
theorem dX10_takeOperand_405 : decode cX10_takeOperand 405 = .ok (.invokevirtual 167, 3) := by decide +kernel
theorem dX10_takeOperand_408 : decode cX10_takeOperand 408 = .ok (.ifCond .eq 13, 3) := by decide +kernel
theorem dX10_takeOperand_411 : decode cX10_takeOperand 411 = .ok (.aload_n 0, 1) := by decide +kernel
theorem dX10_takeOperand_412 : decode cX10_takeOperand 412 = .ok (.iload_n 2, 1) := by decide +kernel
theorem dX10_takeOperand_413 : decode cX10_takeOperand 413 = .ok (.invokevirtual 214, 3) := by decide +kernel
theorem dX10_takeOperand_416 : decode cX10_takeOperand 416 = .ok (.ifCond .ne 5, 3) := by decide +kernel
theorem dX10_takeOperand_419 : decode cX10_takeOperand 419 = .ok (.iconst 0, 1) := by decide +kernel
theorem dX10_takeOperand_420 : decode cX10_takeOperand 420 = .ok (.ireturn, 1) := by decide +kernel
theorem dX10_takeOperand_421 : decode cX10_takeOperand 421 = .ok (.aload_n 0, 1) := by decide +kernel
theorem dX10_takeOperand_422 : decode cX10_takeOperand 422 = .ok (.getfield 22, 3) := by decide +kernel
theorem dX10_takeOperand_425 : decode cX10_takeOperand 425 = .ok (.iload_n 2, 1) := by decide +kernel
theorem dX10_takeOperand_426 : decode cX10_takeOperand 426 = .ok (.iconst 4, 1) := by decide +kernel
theorem dX10_takeOperand_427 : decode cX10_takeOperand 427 = .ok (.iadd, 1) := by decide +kernel
theorem dX10_takeOperand_428 : decode cX10_takeOperand 428 = .ok (.aload_n 0, 1) := by decide +kernel
theorem dX10_takeOperand_429 : decode cX10_takeOperand 429 = .ok (.getfield 16, 3) := by decide +kernel
theorem dX10_takeOperand_432 : decode cX10_takeOperand 432 = .ok (.iconst 2, 1) := by decide +kernel
theorem dX10_takeOperand_433 : decode cX10_takeOperand 433 = .ok (.iaload, 1) := by decide +kernel
theorem dX10_takeOperand_434 : decode cX10_takeOperand 434 = .ok (.aload_n 0, 1) := by decide +kernel
theorem dX10_takeOperand_435 : decode cX10_takeOperand 435 = .ok (.getfield 22, 3) := by decide +kernel
theorem dX10_takeOperand_438 : decode cX10_takeOperand 438 = .ok (.iload_n 2, 1) := by decide +kernel
theorem dX10_takeOperand_439 : decode cX10_takeOperand 439 = .ok (.iconst 3, 1) := by decide +kernel
theorem dX10_takeOperand_440 : decode cX10_takeOperand 440 = .ok (.iadd, 1) := by decide +kernel
theorem dX10_takeOperand_441 : decode cX10_takeOperand 441 = .ok (.iaload, 1) := by decide +kernel
theorem dX10_takeOperand_442 : decode cX10_takeOperand 442 = .ok (.isub, 1) := by decide +kernel
theorem dX10_takeOperand_443 : decode cX10_takeOperand 443 = .ok (.iastore, 1) := by decide +kernel
theorem dX10_takeOperand_444 : decode cX10_takeOperand 444 = .ok (.iconst 1, 1) := by decide +kernel
theorem dX10_takeOperand_445 : decode cX10_takeOperand 445 = .ok (.ireturn, 1) := by decide +kernel
theorem dX10_state_0 : decode cX10_state 0 = .ok (.aload_n 0, 1) := by decide +kernel
theorem dX10_state_1 : decode cX10_state 1 = .ok (.getfield 16, 3) := by decide +kernel
theorem dX10_state_4 : decode cX10_state 4 = .ok (.iconst 0, 1) := by decide +kernel
theorem dX10_state_5 : decode cX10_state 5 = .ok (.iaload, 1) := by decide +kernel
theorem dX10_state_6 : decode cX10_state 6 = .ok (.sipush 400, 3) := by decide +kernel
theorem dX10_state_9 : decode cX10_state 9 = .ok (.if_icmp .eq 8, 3) := by decide +kernel
theorem dX10_state_12 : decode cX10_state 12 = .ok (.iload_n 2, 1) := by decide +kernel
theorem dX10_state_13 : decode cX10_state 13 = .ok (.iconst (-1), 1) := by decide +kernel
theorem dX10_state_14 : decode cX10_state 14 = .ok (.if_icmp .ne 10, 3) := by decide +kernel
theorem dX10_state_17 : decode cX10_state 17 = .ok (.aload_n 0, 1) := by decide +kernel
theorem dX10_state_18 : decode cX10_state 18 = .ok (.bipush 8, 2) := by decide +kernel
theorem dX10_state_20 : decode cX10_state 20 = .ok (.invokevirtual 152, 3) := by decide +kernel
theorem dX10_state_23 : decode cX10_state 23 = .ok (.ireturn, 1) := by decide +kernel
theorem dX10_state_24 : decode cX10_state 24 = .ok (.bipush 6, 2) := by decide +kernel
theorem dX10_state_26 : decode cX10_state 26 = .ok (.aload_n 0, 1) := by decide +kernel
theorem dX10_state_27 : decode cX10_state 27 = .ok (.getfield 16, 3) := by decide +kernel
theorem dX10_state_30 : decode cX10_state 30 = .ok (.iconst 0, 1) := by decide +kernel
theorem dX10_state_31 : decode cX10_state 31 = .ok (.iaload, 1) := by decide +kernel
theorem dX10_state_32 : decode cX10_state 32 = .ok (.imul, 1) := by decide +kernel
theorem dX10_state_33 : decode cX10_state 33 = .ok (.istore_n 3, 1) := by decide +kernel
theorem dX10_state_34 : decode cX10_state 34 = .ok (.aload_n 0, 1) := by decide +kernel
theorem dX10_state_35 : decode cX10_state 35 = .ok (.getfield 19, 3) := by decide +kernel
theorem dX10_state_38 : decode cX10_state 38 = .ok (.iload_n 3, 1) := by decide +kernel
theorem dX10_state_39 : decode cX10_state 39 = .ok (.iload_n 1, 1) := by decide +kernel
theorem dX10_state_40 : decode cX10_state 40 = .ok (.iastore, 1) := by decide +kernel
theorem dX10_state_41 : decode cX10_state 41 = .ok (.aload_n 0, 1) := by decide +kernel
theorem dX10_state_42 : decode cX10_state 42 = .ok (.getfield 19, 3) := by decide +kernel
theorem dX10_state_45 : decode cX10_state 45 = .ok (.iload_n 3, 1) := by decide +kernel
theorem dX10_state_46 : decode cX10_state 46 = .ok (.iconst 1, 1) := by decide +kernel
theorem dX10_state_47 : decode cX10_state 47 = .ok (.iadd, 1) := by decide +kernel
theorem dX10_state_48 : decode cX10_state 48 = .ok (.iload_n 2, 1) := by decide +kernel
theorem dX10_state_49 : decode cX10_state 49 = .ok (.iastore, 1) := by decide +kernel
theorem dX10_state_50 : decode cX10_state 50 = .ok (.aload_n 0, 1) := by decide +kernel
theorem dX10_state_51 : decode cX10_state 51 = .ok (.getfield 19, 3) := by decide +kernel
theorem dX10_state_54 : decode cX10_state 54 = .ok (.iload_n 3, 1) := by decide +kernel
theorem dX10_state_55 : decode cX10_state 55 = .ok (.iconst 2, 1) := by decide +kernel
theorem dX10_state_56 : decode cX10_state 56 = .ok (.iadd, 1) := by decide +kernel
theorem dX10_state_57 : decode cX10_state 57 = .ok (.aload_n 0, 1) := by decide +kernel
theorem dX10_state_58 : decode cX10_state 58 = .ok (.getfield 16, 3) := by decide +kernel
theorem dX10_state_61 : decode cX10_state 61 = .ok (.iconst 1, 1) := by decide +kernel
theorem dX10_state_62 : decode cX10_state 62 = .ok (.iaload, 1) := by decide +kernel
theorem dX10_state_63 : decode cX10_state 63 = .ok (.iastore, 1) := by decide +kernel
theorem dX10_state_64 : decode cX10_state 64 = .ok (.aload_n 0, 1) := by decide +kernel
theorem dX10_state_65 : decode cX10_state 65 = .ok (.getfield 19, 3) := by decide +kernel
theorem dX10_state_68 : decode cX10_state 68 = .ok (.iload_n 3, 1) := by decide +kernel
theorem dX10_state_69 : decode cX10_state 69 = .ok (.iconst 3, 1) := by decide +kernel
theorem dX10_state_70 : decode cX10_state 70 = .ok (.iadd, 1) := by decide +kernel
theorem dX10_state_71 : decode cX10_state 71 = .ok (.iconst 0, 1) := by decide +kernel
theorem dX10_state_72 : decode cX10_state 72 = .ok (.iastore, 1) := by decide +kernel
theorem dX10_state_73 : decode cX10_state 73 = .ok (.aload_n 0, 1) := by decide +kernel
theorem dX10_state_74 : decode cX10_state 74 = .ok (.getfield 19, 3) := by decide +kernel
theorem dX10_state_77 : decode cX10_state 77 = .ok (.iload_n 3, 1) := by decide +kernel
theorem dX10_state_78 : decode cX10_state 78 = .ok (.iconst 4, 1) := by decide +kernel
theorem dX10_state_79 : decode cX10_state 79 = .ok (.iadd, 1) := by decide +kernel
theorem dX10_state_80 : decode cX10_state 80 = .ok (.aload_n 0, 1) := by decide +kernel
theorem dX10_state_81 : decode cX10_state 81 = .ok (.getfield 85, 3) := by decide +kernel
theorem dX10_state_84 : decode cX10_state 84 = .ok (.iastore, 1) := by decide +kernel
theorem dX10_state_85 : decode cX10_state 85 = .ok (.aload_n 0, 1) := by decide +kernel
theorem dX10_state_86 : decode cX10_state 86 = .ok (.getfield 19, 3) := by decide +kernel
theorem dX10_state_89 : decode cX10_state 89 = .ok (.iload_n 3, 1) := by decide +kernel
theorem dX10_state_90 : decode cX10_state 90 = .ok (.iconst 5, 1) := by decide +kernel
theorem dX10_state_91 : decode cX10_state 91 = .ok (.iadd, 1) := by decide +kernel
theorem dX10_state_92 : decode cX10_state 92 = .ok (.aload_n 0, 1) := by decide +kernel
theorem dX10_state_93 : decode cX10_state 93 = .ok (.getfield 220, 3) := by decide +kernel
theorem dX10_state_96 : decode cX10_state 96 = .ok (.iastore, 1) := by decide +kernel
theorem dX10_state_97 : decode cX10_state 97 = .ok (.aload_n 0, 1) := by decide +kernel
theorem dX10_state_98 : decode cX10_state 98 = .ok (.getfield 16, 3) := by decide +kernel
theorem dX10_state_101 : decode cX10_state 101 = .ok (.iconst 0, 1) := by decide +kernel
theorem dX10_state_102 : decode cX10_state 102 = .ok (.dup2, 1) := by decide +kernel
theorem dX10_state_103 : decode cX10_state 103 = .ok (.iaload, 1) := by decide +kernel
theorem dX10_state_104 : decode cX10_state 104 = .ok (.iconst 1, 1) := by decide +kernel
theorem dX10_state_105 : decode cX10_state 105 = .ok (.iadd, 1) := by decide +kernel
theorem dX10_state_106 : decode cX10_state 106 = .ok (.iastore, 1) := by decide +kernel
theorem dX10_state_107 : decode cX10_state 107 = .ok (.iconst 1, 1) := by decide +kernel
theorem dX10_state_108 : decode cX10_state 108 = .ok (.ireturn, 1) := by decide +kernel
theorem dX10_operands_0 : decode cX10_operands 0 = .ok (.aload_n 0, 1) := by decide +kernel
theorem dX10_operands_1 : decode cX10_operands 1 = .ok (.getfield 79, 3) := by decide +kernel
theorem dX10_operands_4 : decode cX10_operands 4 = .ok (.ifCond .ne 5, 3) := by decide +kernel
theorem dX10_operands_7 : decode cX10_operands 7 = .ok (.iconst 1, 1) := by decide +kernel
theorem dX10_operands_8 : decode cX10_operands 8 = .ok (.ireturn, 1) := by decide +kernel
theorem dX10_operands_9 : decode cX10_operands 9 = .ok (.iconst 1, 1) := by decide +kernel
theorem dX10_operands_10 : decode cX10_operands 10 = .ok (.istore_n 2, 1) := by decide +kernel
theorem dX10_operands_11 : decode cX10_operands 11 = .ok (.iload_n 2, 1) := by decide +kernel
theorem dX10_operands_12 : decode cX10_operands 12 = .ok (.ifCond .eq 45, 3) := by decide +kernel
theorem dX10_operands_15 : decode cX10_operands 15 = .ok (.aload_n 0, 1) := by decide +kernel
theorem dX10_operands_16 : decode cX10_operands 16 = .ok (.invokevirtual 223, 3) := by decide +kernel
theorem dX10_operands_19 : decode cX10_operands 19 = .ok (.ifCond .ne 5, 3) := by decide +kernel
theorem dX10_operands_22 : decode cX10_operands 22 = .ok (.iconst 0, 1) := by decide +kernel
theorem dX10_operands_23 : decode cX10_operands 23 = .ok (.ireturn, 1) := by decide +kernel
theorem dX10_operands_24 : decode cX10_operands 24 = .ok (.aload_n 0, 1) := by decide +kernel
theorem dX10_operands_25 : decode cX10_operands 25 = .ok (.getfield 19, 3) := by decide +kernel
theorem dX10_operands_28 : decode cX10_operands 28 = .ok (.bipush 6, 2) := by decide +kernel
theorem dX10_operands_30 : decode cX10_operands 30 = .ok (.iload_n 1, 1) := by decide +kernel
theorem dX10_operands_31 : decode cX10_operands 31 = .ok (.imul, 1) := by decide +kernel
theorem dX10_operands_32 : decode cX10_operands 32 = .ok (.iconst 3, 1) := by decide +kernel
theorem dX10_operands_33 : decode cX10_operands 33 = .ok (.iadd, 1) := by decide +kernel
theorem dX10_operands_34 : decode cX10_operands 34 = .ok (.dup2, 1) := by decide +kernel
theorem dX10_operands_35 : decode cX10_operands 35 = .ok (.iaload, 1) := by decide +kernel
theorem dX10_operands_36 : decode cX10_operands 36 = .ok (.iconst 1, 1) := by decide +kernel
theorem dX10_operands_37 : decode cX10_operands 37 = .ok (.iadd, 1) := by decide +kernel
theorem dX10_operands_38 : decode cX10_operands 38 = .ok (.iastore, 1) := by decide +kernel
theorem dX10_operands_39 : decode cX10_operands 39 = .ok (.aload_n 0, 1) := by decide +kernel
theorem dX10_operands_40 : decode cX10_operands 40 = .ok (.bipush 44, 2) := by decide +kernel
theorem dX10_operands_42 : decode cX10_operands 42 = .ok (.invokevirtual 167, 3) := by decide +kernel
theorem dX10_operands_45 : decode cX10_operands 45 = .ok (.istore_n 2, 1) := by decide +kernel
theorem dX10_operands_46 : decode cX10_operands 46 = .ok (.iload_n 2, 1) := by decide +kernel
theorem dX10_operands_47 : decode cX10_operands 47 = .ok (.ifCond .eq (-36), 3) := by decide +kernel
theorem dX10_operands_50 : decode cX10_operands 50 = .ok (.aload_n 0, 1) := by decide +kernel
theorem dX10_operands_51 : decode cX10_operands 51 = .ok (.invokevirtual 177, 3) := by decide +kernel
theorem dX10_operands_54 : decode cX10_operands 54 = .ok (.goto (-43), 3) := by decide +kernel
theorem dX10_operands_57 : decode cX10_operands 57 = .ok (.aload_n 0, 1) := by decide +kernel
theorem dX10_operands_58 : decode cX10_operands 58 = .ok (.getfield 79, 3) := by decide +kernel
theorem dX10_operands_61 : decode cX10_operands 61 = .ok (.ifCond .eq 11, 3) := by decide +kernel
theorem dX10_operands_64 : decode cX10_operands 64 = .ok (.aload_n 0, 1) := by decide +kernel
theorem dX10_operands_65 : decode cX10_operands 65 = .ok (.iconst 5, 1) := by decide +kernel
theorem dX10_operands_66 : decode cX10_operands 66 = .ok (.invokevirtual 152, 3) := by decide +kernel
theorem dX10_operands_69 : decode cX10_operands 69 = .ok (.ifCond .eq 7, 3) := by decide +kernel
theorem dX10_operands_72 : decode cX10_operands 72 = .ok (.iconst 1, 1) := by decide +kernel
theorem dX10_operands_73 : decode cX10_operands 73 = .ok (.goto 4, 3) := by decide +kernel
theorem dX10_operands_76 : decode cX10_operands 76 = .ok (.iconst 0, 1) := by decide +kernel
theorem dX10_operands_77 : decode cX10_operands 77 = .ok (.ireturn, 1) := by decide +kernel
theorem dX10_readLine_0 : decode cX10_readLine 0 = .ok (.iconst 1, 1) := by decide +kernel
theorem dX10_readLine_1 : decode cX10_readLine 1 = .ok (.istore_n 1, 1) := by decide +kernel
theorem dX10_readLine_2 : decode cX10_readLine 2 = .ok (.iload_n 1, 1) := by decide +kernel
theorem dX10_readLine_3 : decode cX10_readLine 3 = .ok (.ifCond .eq 210, 3) := by decide +kernel
theorem dX10_readLine_6 : decode cX10_readLine 6 = .ok (.aload_n 0, 1) := by decide +kernel
theorem dX10_readLine_7 : decode cX10_readLine 7 = .ok (.getfield 79, 3) := by decide +kernel
theorem dX10_readLine_10 : decode cX10_readLine 10 = .ok (.ifCond .ne 5, 3) := by decide +kernel
theorem dX10_readLine_13 : decode cX10_readLine 13 = .ok (.iconst 1, 1) := by decide +kernel
theorem dX10_readLine_14 : decode cX10_readLine 14 = .ok (.ireturn, 1) := by decide +kernel
theorem dX10_readLine_15 : decode cX10_readLine 15 = .ok (.aload_n 0, 1) := by decide +kernel
theorem dX10_readLine_16 : decode cX10_readLine 16 = .ok (.getfield 79, 3) := by decide +kernel
theorem dX10_readLine_19 : decode cX10_readLine 19 = .ok (.iconst 2, 1) := by decide +kernel
theorem dX10_readLine_20 : decode cX10_readLine 20 = .ok (.if_icmp .ne 20, 3) := by decide +kernel
theorem dX10_readLine_23 : decode cX10_readLine 23 = .ok (.aload_n 0, 1) := by decide +kernel
theorem dX10_readLine_24 : decode cX10_readLine 24 = .ok (.getfield 88, 3) := by decide +kernel
theorem dX10_readLine_27 : decode cX10_readLine 27 = .ok (.aload_n 0, 1) := by decide +kernel
theorem dX10_readLine_28 : decode cX10_readLine 28 = .ok (.getfield 85, 3) := by decide +kernel
theorem dX10_readLine_31 : decode cX10_readLine 31 = .ok (.isub, 1) := by decide +kernel
theorem dX10_readLine_32 : decode cX10_readLine 32 = .ok (.iconst 1, 1) := by decide +kernel
theorem dX10_readLine_33 : decode cX10_readLine 33 = .ok (.if_icmp .ne 7, 3) := by decide +kernel
theorem dX10_readLine_36 : decode cX10_readLine 36 = .ok (.iconst 1, 1) := by decide +kernel
theorem dX10_readLine_37 : decode cX10_readLine 37 = .ok (.goto 4, 3) := by decide +kernel
theorem dX10_readLine_40 : decode cX10_readLine 40 = .ok (.iconst 0, 1) := by decide +kernel
theorem dX10_readLine_41 : decode cX10_readLine 41 = .ok (.istore_n 2, 1) := by decide +kernel
theorem dX10_readLine_42 : decode cX10_readLine 42 = .ok (.aload_n 0, 1) := by decide +kernel
theorem dX10_readLine_43 : decode cX10_readLine 43 = .ok (.getfield 79, 3) := by decide +kernel
theorem dX10_readLine_46 : decode cX10_readLine 46 = .ok (.iconst 1, 1) := by decide +kernel
theorem dX10_readLine_47 : decode cX10_readLine 47 = .ok (.if_icmp .eq 13, 3) := by decide +kernel
theorem dX10_readLine_50 : decode cX10_readLine 50 = .ok (.iload_n 2, 1) := by decide +kernel
theorem dX10_readLine_51 : decode cX10_readLine 51 = .ok (.ifCond .ne 9, 3) := by decide +kernel
theorem dX10_readLine_54 : decode cX10_readLine 54 = .ok (.aload_n 0, 1) := by decide +kernel
theorem dX10_readLine_55 : decode cX10_readLine 55 = .ok (.iconst 5, 1) := by decide +kernel
theorem dX10_readLine_56 : decode cX10_readLine 56 = .ok (.invokevirtual 152, 3) := by decide +kernel
theorem dX10_readLine_59 : decode cX10_readLine 59 = .ok (.ireturn, 1) := by decide +kernel
theorem dX10_readLine_60 : decode cX10_readLine 60 = .ok (.iload_n 2, 1) := by decide +kernel
theorem dX10_readLine_61 : decode cX10_readLine 61 = .ok (.ifCond .ne 11, 3) := by decide +kernel
theorem dX10_readLine_64 : decode cX10_readLine 64 = .ok (.aload_n 0, 1) := by decide +kernel
theorem dX10_readLine_65 : decode cX10_readLine 65 = .ok (.invokevirtual 170, 3) := by decide +kernel
theorem dX10_readLine_68 : decode cX10_readLine 68 = .ok (.iconst (-1), 1) := by decide +kernel
theorem dX10_readLine_69 : decode cX10_readLine 69 = .ok (.if_icmp .ne 7, 3) := by decide +kernel
theorem dX10_readLine_72 : decode cX10_readLine 72 = .ok (.iconst 1, 1) := by decide +kernel
theorem dX10_readLine_73 : decode cX10_readLine 73 = .ok (.goto 4, 3) := by decide +kernel
theorem dX10_readLine_76 : decode cX10_readLine 76 = .ok (.iconst 0, 1) := by decide +kernel
theorem dX10_readLine_77 : decode cX10_readLine 77 = .ok (.istore_n 3, 1) := by decide +kernel
theorem dX10_readLine_78 : decode cX10_readLine 78 = .ok (.aload_n 0, 1) := by decide +kernel
theorem dX10_readLine_79 : decode cX10_readLine 79 = .ok (.getfield 16, 3) := by decide +kernel
theorem dX10_readLine_82 : decode cX10_readLine 82 = .ok (.iconst 0, 1) := by decide +kernel
theorem dX10_readLine_83 : decode cX10_readLine 83 = .ok (.iaload, 1) := by decide +kernel
theorem dX10_readLine_84 : decode cX10_readLine 84 = .ok (.sipush 400, 3) := by decide +kernel
theorem dX10_readLine_87 : decode cX10_readLine 87 = .ok (.if_icmp .ne 10, 3) := by decide +kernel
theorem dX10_readLine_90 : decode cX10_readLine 90 = .ok (.aload_n 0, 1) := by decide +kernel
theorem dX10_readLine_91 : decode cX10_readLine 91 = .ok (.bipush 8, 2) := by decide +kernel
theorem dX10_readLine_93 : decode cX10_readLine 93 = .ok (.invokevirtual 152, 3) := by decide +kernel
theorem dX10_readLine_96 : decode cX10_readLine 96 = .ok (.ireturn, 1) := by decide +kernel
theorem dX10_readLine_97 : decode cX10_readLine 97 = .ok (.iload_n 2, 1) := by decide +kernel
theorem dX10_readLine_98 : decode cX10_readLine 98 = .ok (.ifCond .eq 10, 3) := by decide +kernel
theorem dX10_readLine_101 : decode cX10_readLine 101 = .ok (.aload_n 0, 1) := by decide +kernel
theorem dX10_readLine_102 : decode cX10_readLine 102 = .ok (.getfield 82, 3) := by decide +kernel
theorem dX10_readLine_105 : decode cX10_readLine 105 = .ok (.goto 7, 3) := by decide +kernel
theorem dX10_readLine_108 : decode cX10_readLine 108 = .ok (.aload_n 0, 1) := by decide +kernel
theorem dX10_readLine_109 : decode cX10_readLine 109 = .ok (.invokevirtual 184, 3) := by decide +kernel
theorem dX10_readLine_112 : decode cX10_readLine 112 = .ok (.istore 4, 2) := by decide +kernel
theorem dX10_readLine_114 : decode cX10_readLine 114 = .ok (.aload_n 0, 1) := by decide +kernel
theorem dX10_readLine_115 : decode cX10_readLine 115 = .ok (.iload_n 2, 1) := by decide +kernel
theorem dX10_readLine_116 : decode cX10_readLine 116 = .ok (.ifCond .eq 7, 3) := by decide +kernel
theorem dX10_readLine_119 : decode cX10_readLine 119 = .ok (.iconst 0, 1) := by decide +kernel
theorem dX10_readLine_120 : decode cX10_readLine 120 = .ok (.goto 4, 3) := by decide +kernel
theorem dX10_readLine_123 : decode cX10_readLine 123 = .ok (.iconst 2, 1) := by decide +kernel
theorem dX10_readLine_124 : decode cX10_readLine 124 = .ok (.iload 4, 2) := by decide +kernel
theorem dX10_readLine_126 : decode cX10_readLine 126 = .ok (.invokevirtual 226, 3) := by decide +kernel
theorem dX10_readLine_129 : decode cX10_readLine 129 = .ok (.ifCond .ne 5, 3) := by decide +kernel
theorem dX10_readLine_132 : decode cX10_readLine 132 = .ok (.iconst 0, 1) := by decide +kernel
theorem dX10_readLine_133 : decode cX10_readLine 133 = .ok (.ireturn, 1) := by decide +kernel
theorem dX10_readLine_134 : decode cX10_readLine 134 = .ok (.aload_n 0, 1) := by decide +kernel
theorem dX10_readLine_135 : decode cX10_readLine 135 = .ok (.getfield 16, 3) := by decide +kernel
theorem dX10_readLine_138 : decode cX10_readLine 138 = .ok (.iconst 0, 1) := by decide +kernel
theorem dX10_readLine_139 : decode cX10_readLine 139 = .ok (.iaload, 1) := by decide +kernel
theorem dX10_readLine_140 : decode cX10_readLine 140 = .ok (.iconst 1, 1) := by decide +kernel
theorem dX10_readLine_141 : decode cX10_readLine 141 = .ok (.isub, 1) := by decide +kernel
theorem dX10_readLine_142 : decode cX10_readLine 142 = .ok (.istore 5, 2) := by decide +kernel
theorem dX10_readLine_144 : decode cX10_readLine 144 = .ok (.aload_n 0, 1) := by decide +kernel
theorem dX10_readLine_145 : decode cX10_readLine 145 = .ok (.invokevirtual 177, 3) := by decide +kernel
theorem dX10_readLine_148 : decode cX10_readLine 148 = .ok (.iload_n 2, 1) := by decide +kernel
theorem dX10_readLine_149 : decode cX10_readLine 149 = .ok (.ifCond .eq 18, 3) := by decide +kernel
theorem dX10_readLine_152 : decode cX10_readLine 152 = .ok (.aload_n 0, 1) := by decide +kernel
theorem dX10_readLine_153 : decode cX10_readLine 153 = .ok (.bipush 58, 2) := by decide +kernel
theorem dX10_readLine_155 : decode cX10_readLine 155 = .ok (.invokevirtual 167, 3) := by decide +kernel
theorem dX10_readLine_158 : decode cX10_readLine 158 = .ok (.ifCond .ne 9, 3) := by decide +kernel
theorem dX10_readLine_161 : decode cX10_readLine 161 = .ok (.aload_n 0, 1) := by decide +kernel
theorem dX10_readLine_162 : decode cX10_readLine 162 = .ok (.iconst 5, 1) := by decide +kernel
theorem dX10_readLine_163 : decode cX10_readLine 163 = .ok (.invokevirtual 152, 3) := by decide +kernel
theorem dX10_readLine_166 : decode cX10_readLine 166 = .ok (.ireturn, 1) := by decide +kernel
theorem dX10_readLine_167 : decode cX10_readLine 167 = .ok (.iload_n 3, 1) := by decide +kernel
theorem dX10_readLine_168 : decode cX10_readLine 168 = .ok (.ifCond .eq 12, 3) := by decide +kernel
theorem dX10_readLine_171 : decode cX10_readLine 171 = .ok (.aload_n 0, 1) := by decide +kernel
theorem dX10_readLine_172 : decode cX10_readLine 172 = .ok (.bipush 58, 2) := by decide +kernel
theorem dX10_readLine_174 : decode cX10_readLine 174 = .ok (.invokevirtual 167, 3) := by decide +kernel
theorem dX10_readLine_177 : decode cX10_readLine 177 = .ok (.ifCond .ne 10, 3) := by decide +kernel
theorem dX10_readLine_180 : decode cX10_readLine 180 = .ok (.aload_n 0, 1) := by decide +kernel
theorem dX10_readLine_181 : decode cX10_readLine 181 = .ok (.iload 5, 2) := by decide +kernel
theorem dX10_readLine_183 : decode cX10_readLine 183 = .ok (.invokevirtual 229, 3) := by decide +kernel
theorem dX10_readLine_186 : decode cX10_readLine 186 = .ok (.ireturn, 1) := by decide +kernel
theorem dX10_readLine_187 : decode cX10_readLine 187 = .ok (.aload_n 0, 1) := by decide +kernel
theorem dX10_readLine_188 : decode cX10_readLine 188 = .ok (.getfield 19, 3) := by decide +kernel
theorem dX10_readLine_191 : decode cX10_readLine 191 = .ok (.bipush 6, 2) := by decide +kernel
theorem dX10_readLine_193 : decode cX10_readLine 193 = .ok (.iload 5, 2) := by decide +kernel
theorem dX10_readLine_195 : decode cX10_readLine 195 = .ok (.imul, 1) := by decide +kernel
theorem dX10_readLine_196 : decode cX10_readLine 196 = .ok (.iload_n 2, 1) := by decide +kernel
theorem dX10_readLine_197 : decode cX10_readLine 197 = .ok (.ifCond .eq 7, 3) := by decide +kernel
theorem dX10_readLine_200 : decode cX10_readLine 200 = .ok (.iconst 1, 1) := by decide +kernel
theorem dX10_readLine_201 : decode cX10_readLine 201 = .ok (.goto 4, 3) := by decide +kernel
theorem dX10_readLine_204 : decode cX10_readLine 204 = .ok (.iconst 0, 1) := by decide +kernel
theorem dX10_readLine_205 : decode cX10_readLine 205 = .ok (.iastore, 1) := by decide +kernel
theorem dX10_readLine_206 : decode cX10_readLine 206 = .ok (.aload_n 0, 1) := by decide +kernel
theorem dX10_readLine_207 : decode cX10_readLine 207 = .ok (.invokevirtual 177, 3) := by decide +kernel
theorem dX10_readLine_210 : decode cX10_readLine 210 = .ok (.goto (-208), 3) := by decide +kernel
theorem dX10_readLine_213 : decode cX10_readLine 213 = .ok (.iconst 1, 1) := by decide +kernel
theorem dX10_readLine_214 : decode cX10_readLine 214 = .ok (.ireturn, 1) := by decide +kernel
theorem dX10_read_0 : decode cX10_read 0 = .ok (.iconst 0, 1) := by decide +kernel
theorem dX10_read_1 : decode cX10_read 1 = .ok (.istore_n 1, 1) := by decide +kernel
theorem dX10_read_2 : decode cX10_read 2 = .ok (.iload_n 1, 1) := by decide +kernel
theorem dX10_read_3 : decode cX10_read 3 = .ok (.iconst 4, 1) := by decide +kernel
theorem dX10_read_4 : decode cX10_read 4 = .ok (.if_icmp .ge 16, 3) := by decide +kernel
theorem dX10_read_7 : decode cX10_read 7 = .ok (.aload_n 0, 1) := by decide +kernel
theorem dX10_read_8 : decode cX10_read 8 = .ok (.getfield 16, 3) := by decide +kernel
theorem dX10_read_11 : decode cX10_read 11 = .ok (.iload_n 1, 1) := by decide +kernel
theorem dX10_read_12 : decode cX10_read 12 = .ok (.iconst 0, 1) := by decide +kernel
theorem dX10_read_13 : decode cX10_read 13 = .ok (.iastore, 1) := by decide +kernel
theorem dX10_read_14 : decode cX10_read 14 = .ok (.iinc 1 1, 3) := by decide +kernel
theorem dX10_read_17 : decode cX10_read 17 = .ok (.goto (-15), 3) := by decide +kernel
theorem dX10_read_20 : decode cX10_read 20 = .ok (.aload_n 0, 1) := by decide +kernel
theorem dX10_read_21 : decode cX10_read 21 = .ok (.iconst 0, 1) := by decide +kernel
theorem dX10_read_22 : decode cX10_read 22 = .ok (.putfield 208, 3) := by decide +kernel
theorem dX10_read_25 : decode cX10_read 25 = .ok (.aload_n 0, 1) := by decide +kernel
theorem dX10_read_26 : decode cX10_read 26 = .ok (.iconst 0, 1) := by decide +kernel
theorem dX10_read_27 : decode cX10_read 27 = .ok (.putfield 146, 3) := by decide +kernel
theorem dX10_read_30 : decode cX10_read 30 = .ok (.aload_n 0, 1) := by decide +kernel
theorem dX10_read_31 : decode cX10_read 31 = .ok (.iconst 0, 1) := by decide +kernel
theorem dX10_read_32 : decode cX10_read 32 = .ok (.putfield 136, 3) := by decide +kernel
theorem dX10_read_35 : decode cX10_read 35 = .ok (.aload_n 0, 1) := by decide +kernel
theorem dX10_read_36 : decode cX10_read 36 = .ok (.iconst (-1), 1) := by decide +kernel
theorem dX10_read_37 : decode cX10_read 37 = .ok (.putfield 139, 3) := by decide +kernel
theorem dX10_read_40 : decode cX10_read 40 = .ok (.aload_n 0, 1) := by decide +kernel
theorem dX10_read_41 : decode cX10_read 41 = .ok (.iconst 0, 1) := by decide +kernel
theorem dX10_read_42 : decode cX10_read 42 = .ok (.putfield 220, 3) := by decide +kernel
theorem dX10_read_45 : decode cX10_read 45 = .ok (.aload_n 0, 1) := by decide +kernel
theorem dX10_read_46 : decode cX10_read 46 = .ok (.iconst 0, 1) := by decide +kernel
theorem dX10_read_47 : decode cX10_read 47 = .ok (.putfield 88, 3) := by decide +kernel
theorem dX10_read_50 : decode cX10_read 50 = .ok (.iconst 1, 1) := by decide +kernel
theorem dX10_read_51 : decode cX10_read 51 = .ok (.istore_n 1, 1) := by decide +kernel
theorem dX10_read_52 : decode cX10_read 52 = .ok (.iload_n 1, 1) := by decide +kernel
theorem dX10_read_53 : decode cX10_read 53 = .ok (.ifCond .eq 54, 3) := by decide +kernel
theorem dX10_read_56 : decode cX10_read 56 = .ok (.aload_n 0, 1) := by decide +kernel
theorem dX10_read_57 : decode cX10_read 57 = .ok (.invokevirtual 177, 3) := by decide +kernel
theorem dX10_read_60 : decode cX10_read 60 = .ok (.aload_n 0, 1) := by decide +kernel
theorem dX10_read_61 : decode cX10_read 61 = .ok (.invokevirtual 232, 3) := by decide +kernel
theorem dX10_read_64 : decode cX10_read 64 = .ok (.ifCond .eq 18, 3) := by decide +kernel
theorem dX10_read_67 : decode cX10_read 67 = .ok (.aload_n 0, 1) := by decide +kernel
theorem dX10_read_68 : decode cX10_read 68 = .ok (.getfield 88, 3) := by decide +kernel
theorem dX10_read_71 : decode cX10_read 71 = .ok (.aload_n 0, 1) := by decide +kernel
theorem dX10_read_72 : decode cX10_read 72 = .ok (.getfield 69, 3) := by decide +kernel
theorem dX10_read_75 : decode cX10_read 75 = .ok (.if_icmp .ge 7, 3) := by decide +kernel
theorem dX10_read_78 : decode cX10_read 78 = .ok (.iconst 1, 1) := by decide +kernel
theorem dX10_read_79 : decode cX10_read 79 = .ok (.goto 4, 3) := by decide +kernel
theorem dX10_read_82 : decode cX10_read 82 = .ok (.iconst 0, 1) := by decide +kernel
theorem dX10_read_83 : decode cX10_read 83 = .ok (.istore_n 1, 1) := by decide +kernel
theorem dX10_read_84 : decode cX10_read 84 = .ok (.aload_n 0, 1) := by decide +kernel
theorem dX10_read_85 : decode cX10_read 85 = .ok (.dup, 1) := by decide +kernel
theorem dX10_read_86 : decode cX10_read 86 = .ok (.getfield 88, 3) := by decide +kernel
theorem dX10_read_89 : decode cX10_read 89 = .ok (.iconst 1, 1) := by decide +kernel
theorem dX10_read_90 : decode cX10_read 90 = .ok (.iadd, 1) := by decide +kernel
theorem dX10_read_91 : decode cX10_read 91 = .ok (.putfield 88, 3) := by decide +kernel
theorem dX10_read_94 : decode cX10_read 94 = .ok (.aload_n 0, 1) := by decide +kernel
theorem dX10_read_95 : decode cX10_read 95 = .ok (.dup, 1) := by decide +kernel
theorem dX10_read_96 : decode cX10_read 96 = .ok (.getfield 220, 3) := by decide +kernel
theorem dX10_read_99 : decode cX10_read 99 = .ok (.iconst 1, 1) := by decide +kernel
theorem dX10_read_100 : decode cX10_read 100 = .ok (.iadd, 1) := by decide +kernel
theorem dX10_read_101 : decode cX10_read 101 = .ok (.putfield 220, 3) := by decide +kernel
theorem dX10_read_104 : decode cX10_read 104 = .ok (.goto (-52), 3) := by decide +kernel
theorem dX10_read_107 : decode cX10_read 107 = .ok (.aload_n 0, 1) := by decide +kernel
theorem dX10_read_108 : decode cX10_read 108 = .ok (.iconst 0, 1) := by decide +kernel
theorem dX10_read_109 : decode cX10_read 109 = .ok (.putfield 69, 3) := by decide +kernel
theorem dX10_read_112 : decode cX10_read 112 = .ok (.aload_n 0, 1) := by decide +kernel
theorem dX10_read_113 : decode cX10_read 113 = .ok (.aload_n 0, 1) := by decide +kernel
theorem dX10_read_114 : decode cX10_read 114 = .ok (.getfield 136, 3) := by decide +kernel
theorem dX10_read_117 : decode cX10_read 117 = .ok (.putfield 235, 3) := by decide +kernel
theorem dX10_read_120 : decode cX10_read 120 = .ok (.aload_n 0, 1) := by decide +kernel
theorem dX10_read_121 : decode cX10_read 121 = .ok (.aload_n 0, 1) := by decide +kernel
theorem dX10_read_122 : decode cX10_read 122 = .ok (.getfield 136, 3) := by decide +kernel
theorem dX10_read_125 : decode cX10_read 125 = .ok (.ifCond .ne 7, 3) := by decide +kernel
theorem dX10_read_128 : decode cX10_read 128 = .ok (.iconst (-1), 1) := by decide +kernel
theorem dX10_read_129 : decode cX10_read 129 = .ok (.goto 7, 3) := by decide +kernel
theorem dX10_read_132 : decode cX10_read 132 = .ok (.aload_n 0, 1) := by decide +kernel
theorem dX10_read_133 : decode cX10_read 133 = .ok (.getfield 139, 3) := by decide +kernel
theorem dX10_read_136 : decode cX10_read 136 = .ok (.putfield 37, 3) := by decide +kernel
theorem dX10_read_139 : decode cX10_read 139 = .ok (.aload_n 0, 1) := by decide +kernel
theorem dX10_read_140 : decode cX10_read 140 = .ok (.aload_n 0, 1) := by decide +kernel
theorem dX10_read_141 : decode cX10_read 141 = .ok (.getfield 136, 3) := by decide +kernel
theorem dX10_read_144 : decode cX10_read 144 = .ok (.ifCond .ne 7, 3) := by decide +kernel
theorem dX10_read_147 : decode cX10_read 147 = .ok (.iconst 0, 1) := by decide +kernel
theorem dX10_read_148 : decode cX10_read 148 = .ok (.goto 4, 3) := by decide +kernel
theorem dX10_read_151 : decode cX10_read 151 = .ok (.iconst 1, 1) := by decide +kernel
theorem dX10_read_152 : decode cX10_read 152 = .ok (.putfield 62, 3) := by decide +kernel
theorem dX10_read_155 : decode cX10_read 155 = .ok (.aload_n 0, 1) := by decide +kernel
theorem dX10_read_156 : decode cX10_read 156 = .ok (.getfield 136, 3) := by decide +kernel
theorem dX10_read_159 : decode cX10_read 159 = .ok (.ifCond .eq 5, 3) := by decide +kernel
theorem dX10_read_162 : decode cX10_read 162 = .ok (.iconst 0, 1) := by decide +kernel
theorem dX10_read_163 : decode cX10_read 163 = .ok (.ireturn, 1) := by decide +kernel
theorem dX10_read_164 : decode cX10_read 164 = .ok (.aload_n 0, 1) := by decide +kernel
theorem dX10_read_165 : decode cX10_read 165 = .ok (.invokevirtual 238, 3) := by decide +kernel
theorem dX10_read_168 : decode cX10_read 168 = .ok (.aload_n 0, 1) := by decide +kernel
theorem dX10_read_169 : decode cX10_read 169 = .ok (.getfield 16, 3) := by decide +kernel
theorem dX10_read_172 : decode cX10_read 172 = .ok (.iconst 0, 1) := by decide +kernel
theorem dX10_read_173 : decode cX10_read 173 = .ok (.iaload, 1) := by decide +kernel
theorem dX10_read_174 : decode cX10_read 174 = .ok (.ireturn, 1) := by decide +kernel
theorem dX10_keep_0 : decode cX10_keep 0 = .ok (.iconst 0, 1) := by decide +kernel
theorem dX10_keep_1 : decode cX10_keep 1 = .ok (.istore_n 1, 1) := by decide +kernel
theorem dX10_keep_2 : decode cX10_keep 2 = .ok (.iload_n 1, 1) := by decide +kernel
theorem dX10_keep_3 : decode cX10_keep 3 = .ok (.iconst 4, 1) := by decide +kernel
theorem dX10_keep_4 : decode cX10_keep 4 = .ok (.if_icmp .ge 23, 3) := by decide +kernel
theorem dX10_keep_7 : decode cX10_keep 7 = .ok (.aload_n 0, 1) := by decide +kernel
theorem dX10_keep_8 : decode cX10_keep 8 = .ok (.getfield 16, 3) := by decide +kernel
theorem dX10_keep_11 : decode cX10_keep 11 = .ok (.iconst 4, 1) := by decide +kernel
theorem dX10_keep_12 : decode cX10_keep 12 = .ok (.iload_n 1, 1) := by decide +kernel
theorem dX10_keep_13 : decode cX10_keep 13 = .ok (.iadd, 1) := by decide +kernel
theorem dX10_keep_14 : decode cX10_keep 14 = .ok (.aload_n 0, 1) := by decide +kernel
theorem dX10_keep_15 : decode cX10_keep 15 = .ok (.getfield 16, 3) := by decide +kernel
theorem dX10_keep_18 : decode cX10_keep 18 = .ok (.iload_n 1, 1) := by decide +kernel
theorem dX10_keep_19 : decode cX10_keep 19 = .ok (.iaload, 1) := by decide +kernel
theorem dX10_keep_20 : decode cX10_keep 20 = .ok (.iastore, 1) := by decide +kernel
theorem dX10_keep_21 : decode cX10_keep 21 = .ok (.iinc 1 1, 3) := by decide +kernel
theorem dX10_keep_24 : decode cX10_keep 24 = .ok (.goto (-22), 3) := by decide +kernel
theorem dX10_keep_27 : decode cX10_keep 27 = .ok (.iconst 0, 1) := by decide +kernel
theorem dX10_keep_28 : decode cX10_keep 28 = .ok (.istore_n 1, 1) := by decide +kernel
theorem dX10_keep_29 : decode cX10_keep 29 = .ok (.iload_n 1, 1) := by decide +kernel
theorem dX10_keep_30 : decode cX10_keep 30 = .ok (.sipush 2400, 3) := by decide +kernel
theorem dX10_keep_33 : decode cX10_keep 33 = .ok (.if_icmp .ge 25, 3) := by decide +kernel
theorem dX10_keep_36 : decode cX10_keep 36 = .ok (.aload_n 0, 1) := by decide +kernel
theorem dX10_keep_37 : decode cX10_keep 37 = .ok (.getfield 19, 3) := by decide +kernel
theorem dX10_keep_40 : decode cX10_keep 40 = .ok (.sipush 2400, 3) := by decide +kernel
theorem dX10_keep_43 : decode cX10_keep 43 = .ok (.iload_n 1, 1) := by decide +kernel
theorem dX10_keep_44 : decode cX10_keep 44 = .ok (.iadd, 1) := by decide +kernel
theorem dX10_keep_45 : decode cX10_keep 45 = .ok (.aload_n 0, 1) := by decide +kernel
theorem dX10_keep_46 : decode cX10_keep 46 = .ok (.getfield 19, 3) := by decide +kernel
theorem dX10_keep_49 : decode cX10_keep 49 = .ok (.iload_n 1, 1) := by decide +kernel
theorem dX10_keep_50 : decode cX10_keep 50 = .ok (.iaload, 1) := by decide +kernel
theorem dX10_keep_51 : decode cX10_keep 51 = .ok (.iastore, 1) := by decide +kernel
theorem dX10_keep_52 : decode cX10_keep 52 = .ok (.iinc 1 1, 3) := by decide +kernel
theorem dX10_keep_55 : decode cX10_keep 55 = .ok (.goto (-26), 3) := by decide +kernel
theorem dX10_keep_58 : decode cX10_keep 58 = .ok (.iconst 0, 1) := by decide +kernel
theorem dX10_keep_59 : decode cX10_keep 59 = .ok (.istore_n 1, 1) := by decide +kernel
theorem dX10_keep_60 : decode cX10_keep 60 = .ok (.iload_n 1, 1) := by decide +kernel
theorem dX10_keep_61 : decode cX10_keep 61 = .ok (.sipush 5600, 3) := by decide +kernel
theorem dX10_keep_64 : decode cX10_keep 64 = .ok (.if_icmp .ge 25, 3) := by decide +kernel
theorem dX10_keep_67 : decode cX10_keep 67 = .ok (.aload_n 0, 1) := by decide +kernel
theorem dX10_keep_68 : decode cX10_keep 68 = .ok (.getfield 22, 3) := by decide +kernel
theorem dX10_keep_71 : decode cX10_keep 71 = .ok (.sipush 5600, 3) := by decide +kernel
theorem dX10_keep_74 : decode cX10_keep 74 = .ok (.iload_n 1, 1) := by decide +kernel
theorem dX10_keep_75 : decode cX10_keep 75 = .ok (.iadd, 1) := by decide +kernel
theorem dX10_keep_76 : decode cX10_keep 76 = .ok (.aload_n 0, 1) := by decide +kernel
theorem dX10_keep_77 : decode cX10_keep 77 = .ok (.getfield 22, 3) := by decide +kernel
theorem dX10_keep_80 : decode cX10_keep 80 = .ok (.iload_n 1, 1) := by decide +kernel
theorem dX10_keep_81 : decode cX10_keep 81 = .ok (.iaload, 1) := by decide +kernel
theorem dX10_keep_82 : decode cX10_keep 82 = .ok (.iastore, 1) := by decide +kernel
theorem dX10_keep_83 : decode cX10_keep 83 = .ok (.iinc 1 1, 3) := by decide +kernel
theorem dX10_keep_86 : decode cX10_keep 86 = .ok (.goto (-26), 3) := by decide +kernel
theorem dX10_keep_89 : decode cX10_keep 89 = .ok (.iconst 0, 1) := by decide +kernel
theorem dX10_keep_90 : decode cX10_keep 90 = .ok (.istore_n 1, 1) := by decide +kernel
theorem dX10_keep_91 : decode cX10_keep 91 = .ok (.iload_n 1, 1) := by decide +kernel
theorem dX10_keep_92 : decode cX10_keep 92 = .ok (.sipush 4000, 3) := by decide +kernel
theorem dX10_keep_95 : decode cX10_keep 95 = .ok (.if_icmp .ge 25, 3) := by decide +kernel
theorem dX10_keep_98 : decode cX10_keep 98 = .ok (.aload_n 0, 1) := by decide +kernel
theorem dX10_keep_99 : decode cX10_keep 99 = .ok (.getfield 25, 3) := by decide +kernel
theorem dX10_keep_102 : decode cX10_keep 102 = .ok (.sipush 4000, 3) := by decide +kernel
theorem dX10_keep_105 : decode cX10_keep 105 = .ok (.iload_n 1, 1) := by decide +kernel
theorem dX10_keep_106 : decode cX10_keep 106 = .ok (.iadd, 1) := by decide +kernel
theorem dX10_keep_107 : decode cX10_keep 107 = .ok (.aload_n 0, 1) := by decide +kernel
theorem dX10_keep_108 : decode cX10_keep 108 = .ok (.getfield 25, 3) := by decide +kernel
theorem dX10_keep_111 : decode cX10_keep 111 = .ok (.iload_n 1, 1) := by decide +kernel
theorem dX10_keep_112 : decode cX10_keep 112 = .ok (.iaload, 1) := by decide +kernel
theorem dX10_keep_113 : decode cX10_keep 113 = .ok (.iastore, 1) := by decide +kernel
theorem dX10_keep_114 : decode cX10_keep 114 = .ok (.iinc 1 1, 3) := by decide +kernel
theorem dX10_keep_117 : decode cX10_keep 117 = .ok (.goto (-26), 3) := by decide +kernel
theorem dX10_keep_120 : decode cX10_keep 120 = .ok (.iconst 0, 1) := by decide +kernel
theorem dX10_keep_121 : decode cX10_keep 121 = .ok (.istore_n 1, 1) := by decide +kernel
theorem dX10_keep_122 : decode cX10_keep 122 = .ok (.iload_n 1, 1) := by decide +kernel
theorem dX10_keep_123 : decode cX10_keep 123 = .ok (.sipush 2400, 3) := by decide +kernel
theorem dX10_keep_126 : decode cX10_keep 126 = .ok (.if_icmp .ge 25, 3) := by decide +kernel
theorem dX10_keep_129 : decode cX10_keep 129 = .ok (.aload_n 0, 1) := by decide +kernel
theorem dX10_keep_130 : decode cX10_keep 130 = .ok (.getfield 28, 3) := by decide +kernel
theorem dX10_keep_133 : decode cX10_keep 133 = .ok (.sipush 2400, 3) := by decide +kernel
theorem dX10_keep_136 : decode cX10_keep 136 = .ok (.iload_n 1, 1) := by decide +kernel
theorem dX10_keep_137 : decode cX10_keep 137 = .ok (.iadd, 1) := by decide +kernel
theorem dX10_keep_138 : decode cX10_keep 138 = .ok (.aload_n 0, 1) := by decide +kernel
theorem dX10_keep_139 : decode cX10_keep 139 = .ok (.getfield 28, 3) := by decide +kernel
theorem dX10_keep_142 : decode cX10_keep 142 = .ok (.iload_n 1, 1) := by decide +kernel
theorem dX10_keep_143 : decode cX10_keep 143 = .ok (.iaload, 1) := by decide +kernel
theorem dX10_keep_144 : decode cX10_keep 144 = .ok (.iastore, 1) := by decide +kernel
theorem dX10_keep_145 : decode cX10_keep 145 = .ok (.iinc 1 1, 3) := by decide +kernel
theorem dX10_keep_148 : decode cX10_keep 148 = .ok (.goto (-26), 3) := by decide +kernel
theorem dX10_keep_151 : decode cX10_keep 151 = .ok (.iconst 0, 1) := by decide +kernel
theorem dX10_keep_152 : decode cX10_keep 152 = .ok (.istore_n 1, 1) := by decide +kernel
theorem dX10_keep_153 : decode cX10_keep 153 = .ok (.iload_n 1, 1) := by decide +kernel
theorem dX10_keep_154 : decode cX10_keep 154 = .ok (.sipush 150, 3) := by decide +kernel
theorem dX10_keep_157 : decode cX10_keep 157 = .ok (.if_icmp .ge 25, 3) := by decide +kernel
theorem dX10_keep_160 : decode cX10_keep 160 = .ok (.aload_n 0, 1) := by decide +kernel
theorem dX10_keep_161 : decode cX10_keep 161 = .ok (.getfield 31, 3) := by decide +kernel
theorem dX10_keep_164 : decode cX10_keep 164 = .ok (.sipush 150, 3) := by decide +kernel
theorem dX10_keep_167 : decode cX10_keep 167 = .ok (.iload_n 1, 1) := by decide +kernel
theorem dX10_keep_168 : decode cX10_keep 168 = .ok (.iadd, 1) := by decide +kernel
theorem dX10_keep_169 : decode cX10_keep 169 = .ok (.aload_n 0, 1) := by decide +kernel
theorem dX10_keep_170 : decode cX10_keep 170 = .ok (.getfield 31, 3) := by decide +kernel
theorem dX10_keep_173 : decode cX10_keep 173 = .ok (.iload_n 1, 1) := by decide +kernel
theorem dX10_keep_174 : decode cX10_keep 174 = .ok (.iaload, 1) := by decide +kernel
theorem dX10_keep_175 : decode cX10_keep 175 = .ok (.iastore, 1) := by decide +kernel
theorem dX10_keep_176 : decode cX10_keep 176 = .ok (.iinc 1 1, 3) := by decide +kernel
theorem dX10_keep_179 : decode cX10_keep 179 = .ok (.goto (-26), 3) := by decide +kernel
theorem dX10_keep_182 : decode cX10_keep 182 = .ok (.iconst 0, 1) := by decide +kernel
theorem dX10_keep_183 : decode cX10_keep 183 = .ok (.istore_n 1, 1) := by decide +kernel
theorem dX10_keep_184 : decode cX10_keep 184 = .ok (.iload_n 1, 1) := by decide +kernel
theorem dX10_keep_185 : decode cX10_keep 185 = .ok (.sipush 3000, 3) := by decide +kernel
theorem dX10_keep_188 : decode cX10_keep 188 = .ok (.if_icmp .ge 25, 3) := by decide +kernel
theorem dX10_keep_191 : decode cX10_keep 191 = .ok (.aload_n 0, 1) := by decide +kernel
theorem dX10_keep_192 : decode cX10_keep 192 = .ok (.getfield 34, 3) := by decide +kernel
theorem dX10_keep_195 : decode cX10_keep 195 = .ok (.sipush 3000, 3) := by decide +kernel
theorem dX10_keep_198 : decode cX10_keep 198 = .ok (.iload_n 1, 1) := by decide +kernel
theorem dX10_keep_199 : decode cX10_keep 199 = .ok (.iadd, 1) := by decide +kernel
theorem dX10_keep_200 : decode cX10_keep 200 = .ok (.aload_n 0, 1) := by decide +kernel
theorem dX10_keep_201 : decode cX10_keep 201 = .ok (.getfield 34, 3) := by decide +kernel
theorem dX10_keep_204 : decode cX10_keep 204 = .ok (.iload_n 1, 1) := by decide +kernel
theorem dX10_keep_205 : decode cX10_keep 205 = .ok (.iaload, 1) := by decide +kernel
theorem dX10_keep_206 : decode cX10_keep 206 = .ok (.iastore, 1) := by decide +kernel
theorem dX10_keep_207 : decode cX10_keep 207 = .ok (.iinc 1 1, 3) := by decide +kernel
theorem dX10_keep_210 : decode cX10_keep 210 = .ok (.goto (-26), 3) := by decide +kernel
theorem dX10_keep_213 : decode cX10_keep 213 = .ok (.iconst 0, 1) := by decide +kernel
theorem dX10_keep_214 : decode cX10_keep 214 = .ok (.istore_n 1, 1) := by decide +kernel
theorem dX10_keep_215 : decode cX10_keep 215 = .ok (.iload_n 1, 1) := by decide +kernel
theorem dX10_keep_216 : decode cX10_keep 216 = .ok (.sipush 800, 3) := by decide +kernel
theorem dX10_keep_219 : decode cX10_keep 219 = .ok (.if_icmp .ge 25, 3) := by decide +kernel
theorem dX10_keep_222 : decode cX10_keep 222 = .ok (.aload_n 0, 1) := by decide +kernel
theorem dX10_keep_223 : decode cX10_keep 223 = .ok (.getfield 59, 3) := by decide +kernel
theorem dX10_keep_226 : decode cX10_keep 226 = .ok (.sipush 800, 3) := by decide +kernel
theorem dX10_keep_229 : decode cX10_keep 229 = .ok (.iload_n 1, 1) := by decide +kernel
theorem dX10_keep_230 : decode cX10_keep 230 = .ok (.iadd, 1) := by decide +kernel
theorem dX10_keep_231 : decode cX10_keep 231 = .ok (.aload_n 0, 1) := by decide +kernel
theorem dX10_keep_232 : decode cX10_keep 232 = .ok (.getfield 59, 3) := by decide +kernel
theorem dX10_keep_235 : decode cX10_keep 235 = .ok (.iload_n 1, 1) := by decide +kernel
theorem dX10_keep_236 : decode cX10_keep 236 = .ok (.iaload, 1) := by decide +kernel
theorem dX10_keep_237 : decode cX10_keep 237 = .ok (.iastore, 1) := by decide +kernel
theorem dX10_keep_238 : decode cX10_keep 238 = .ok (.iinc 1 1, 3) := by decide +kernel
theorem dX10_keep_241 : decode cX10_keep 241 = .ok (.goto (-26), 3) := by decide +kernel
theorem dX10_keep_244 : decode cX10_keep 244 = .ok (.return_, 1) := by decide +kernel
theorem dX10_fault_0 : decode cX10_fault 0 = .ok (.aload_n 0, 1) := by decide +kernel
theorem dX10_fault_1 : decode cX10_fault 1 = .ok (.iconst 0, 1) := by decide +kernel
theorem dX10_fault_2 : decode cX10_fault 2 = .ok (.putfield 62, 3) := by decide +kernel
theorem dX10_fault_5 : decode cX10_fault 5 = .ok (.iload_n 1, 1) := by decide +kernel
theorem dX10_fault_6 : decode cX10_fault 6 = .ok (.ifCond .ne 10, 3) := by decide +kernel
theorem dX10_fault_9 : decode cX10_fault 9 = .ok (.aload_n 0, 1) := by decide +kernel
theorem dX10_fault_10 : decode cX10_fault 10 = .ok (.getfield 235, 3) := by decide +kernel
theorem dX10_fault_13 : decode cX10_fault 13 = .ok (.goto 16, 3) := by decide +kernel
theorem dX10_fault_16 : decode cX10_fault 16 = .ok (.iload_n 1, 1) := by decide +kernel
theorem dX10_fault_17 : decode cX10_fault 17 = .ok (.iconst 1, 1) := by decide +kernel
theorem dX10_fault_18 : decode cX10_fault 18 = .ok (.if_icmp .ne 10, 3) := by decide +kernel
theorem dX10_fault_21 : decode cX10_fault 21 = .ok (.aload_n 0, 1) := by decide +kernel
theorem dX10_fault_22 : decode cX10_fault 22 = .ok (.getfield 37, 3) := by decide +kernel
theorem dX10_fault_25 : decode cX10_fault 25 = .ok (.goto 4, 3) := by decide +kernel
theorem dX10_fault_28 : decode cX10_fault 28 = .ok (.iconst (-1), 1) := by decide +kernel
theorem dX10_fault_29 : decode cX10_fault 29 = .ok (.ireturn, 1) := by decide +kernel
theorem dX10_count_0 : decode cX10_count 0 = .ok (.aload_n 0, 1) := by decide +kernel
theorem dX10_count_1 : decode cX10_count 1 = .ok (.iconst 0, 1) := by decide +kernel
theorem dX10_count_2 : decode cX10_count 2 = .ok (.putfield 62, 3) := by decide +kernel
theorem dX10_count_5 : decode cX10_count 5 = .ok (.iload_n 1, 1) := by decide +kernel
theorem dX10_count_6 : decode cX10_count 6 = .ok (.ifCond .lt 19, 3) := by decide +kernel
theorem dX10_count_9 : decode cX10_count 9 = .ok (.iload_n 1, 1) := by decide +kernel
theorem dX10_count_10 : decode cX10_count 10 = .ok (.iconst 4, 1) := by decide +kernel
theorem dX10_count_11 : decode cX10_count 11 = .ok (.if_icmp .ge 14, 3) := by decide +kernel
theorem dX10_count_14 : decode cX10_count 14 = .ok (.aload_n 0, 1) := by decide +kernel
theorem dX10_count_15 : decode cX10_count 15 = .ok (.getfield 16, 3) := by decide +kernel
theorem dX10_count_18 : decode cX10_count 18 = .ok (.iconst 4, 1) := by decide +kernel
theorem dX10_count_19 : decode cX10_count 19 = .ok (.iload_n 1, 1) := by decide +kernel
theorem dX10_count_20 : decode cX10_count 20 = .ok (.iadd, 1) := by decide +kernel
theorem dX10_count_21 : decode cX10_count 21 = .ok (.iaload, 1) := by decide +kernel
theorem dX10_count_22 : decode cX10_count 22 = .ok (.goto 4, 3) := by decide +kernel
theorem dX10_count_25 : decode cX10_count 25 = .ok (.iconst (-1), 1) := by decide +kernel
theorem dX10_count_26 : decode cX10_count 26 = .ok (.ireturn, 1) := by decide +kernel
theorem dX10_statement_0 : decode cX10_statement 0 = .ok (.aload_n 0, 1) := by decide +kernel
theorem dX10_statement_1 : decode cX10_statement 1 = .ok (.iconst 0, 1) := by decide +kernel
theorem dX10_statement_2 : decode cX10_statement 2 = .ok (.putfield 62, 3) := by decide +kernel
theorem dX10_statement_5 : decode cX10_statement 5 = .ok (.iload_n 1, 1) := by decide +kernel
theorem dX10_statement_6 : decode cX10_statement 6 = .ok (.ifCond .lt 41, 3) := by decide +kernel
theorem dX10_statement_9 : decode cX10_statement 9 = .ok (.iload_n 1, 1) := by decide +kernel
theorem dX10_statement_10 : decode cX10_statement 10 = .ok (.aload_n 0, 1) := by decide +kernel
theorem dX10_statement_11 : decode cX10_statement 11 = .ok (.getfield 16, 3) := by decide +kernel
theorem dX10_statement_14 : decode cX10_statement 14 = .ok (.iconst 4, 1) := by decide +kernel
theorem dX10_statement_15 : decode cX10_statement 15 = .ok (.iaload, 1) := by decide +kernel
theorem dX10_statement_16 : decode cX10_statement 16 = .ok (.if_icmp .ge 31, 3) := by decide +kernel
theorem dX10_statement_19 : decode cX10_statement 19 = .ok (.iload_n 2, 1) := by decide +kernel
theorem dX10_statement_20 : decode cX10_statement 20 = .ok (.ifCond .lt 27, 3) := by decide +kernel
theorem dX10_statement_23 : decode cX10_statement 23 = .ok (.iload_n 2, 1) := by decide +kernel
theorem dX10_statement_24 : decode cX10_statement 24 = .ok (.bipush 6, 2) := by decide +kernel
theorem dX10_statement_26 : decode cX10_statement 26 = .ok (.if_icmp .ge 21, 3) := by decide +kernel
theorem dX10_statement_29 : decode cX10_statement 29 = .ok (.aload_n 0, 1) := by decide +kernel
theorem dX10_statement_30 : decode cX10_statement 30 = .ok (.getfield 19, 3) := by decide +kernel
theorem dX10_statement_33 : decode cX10_statement 33 = .ok (.sipush 2400, 3) := by decide +kernel
theorem dX10_statement_36 : decode cX10_statement 36 = .ok (.bipush 6, 2) := by decide +kernel
theorem dX10_statement_38 : decode cX10_statement 38 = .ok (.iload_n 1, 1) := by decide +kernel
theorem dX10_statement_39 : decode cX10_statement 39 = .ok (.imul, 1) := by decide +kernel
theorem dX10_statement_40 : decode cX10_statement 40 = .ok (.iadd, 1) := by decide +kernel
theorem dX10_statement_41 : decode cX10_statement 41 = .ok (.iload_n 2, 1) := by decide +kernel
theorem dX10_statement_42 : decode cX10_statement 42 = .ok (.iadd, 1) := by decide +kernel
theorem dX10_statement_43 : decode cX10_statement 43 = .ok (.iaload, 1) := by decide +kernel
theorem dX10_statement_44 : decode cX10_statement 44 = .ok (.goto 4, 3) := by decide +kernel
theorem dX10_statement_47 : decode cX10_statement 47 = .ok (.iconst (-1), 1) := by decide +kernel
theorem dX10_statement_48 : decode cX10_statement 48 = .ok (.ireturn, 1) := by decide +kernel
theorem dX10_operand_0 : decode cX10_operand 0 = .ok (.aload_n 0, 1) := by decide +kernel
theorem dX10_operand_1 : decode cX10_operand 1 = .ok (.iconst 0, 1) := by decide +kernel
theorem dX10_operand_2 : decode cX10_operand 2 = .ok (.putfield 62, 3) := by decide +kernel
theorem dX10_operand_5 : decode cX10_operand 5 = .ok (.iload_n 1, 1) := by decide +kernel
theorem dX10_operand_6 : decode cX10_operand 6 = .ok (.ifCond .lt 41, 3) := by decide +kernel
theorem dX10_operand_9 : decode cX10_operand 9 = .ok (.iload_n 1, 1) := by decide +kernel
theorem dX10_operand_10 : decode cX10_operand 10 = .ok (.aload_n 0, 1) := by decide +kernel
theorem dX10_operand_11 : decode cX10_operand 11 = .ok (.getfield 16, 3) := by decide +kernel
theorem dX10_operand_14 : decode cX10_operand 14 = .ok (.iconst 5, 1) := by decide +kernel
theorem dX10_operand_15 : decode cX10_operand 15 = .ok (.iaload, 1) := by decide +kernel
theorem dX10_operand_16 : decode cX10_operand 16 = .ok (.if_icmp .ge 31, 3) := by decide +kernel
theorem dX10_operand_19 : decode cX10_operand 19 = .ok (.iload_n 2, 1) := by decide +kernel
theorem dX10_operand_20 : decode cX10_operand 20 = .ok (.ifCond .lt 27, 3) := by decide +kernel
theorem dX10_operand_23 : decode cX10_operand 23 = .ok (.iload_n 2, 1) := by decide +kernel
theorem dX10_operand_24 : decode cX10_operand 24 = .ok (.bipush 7, 2) := by decide +kernel
theorem dX10_operand_26 : decode cX10_operand 26 = .ok (.if_icmp .ge 21, 3) := by decide +kernel
theorem dX10_operand_29 : decode cX10_operand 29 = .ok (.aload_n 0, 1) := by decide +kernel
theorem dX10_operand_30 : decode cX10_operand 30 = .ok (.getfield 22, 3) := by decide +kernel
theorem dX10_operand_33 : decode cX10_operand 33 = .ok (.sipush 5600, 3) := by decide +kernel
theorem dX10_operand_36 : decode cX10_operand 36 = .ok (.bipush 7, 2) := by decide +kernel
theorem dX10_operand_38 : decode cX10_operand 38 = .ok (.iload_n 1, 1) := by decide +kernel
theorem dX10_operand_39 : decode cX10_operand 39 = .ok (.imul, 1) := by decide +kernel
theorem dX10_operand_40 : decode cX10_operand 40 = .ok (.iadd, 1) := by decide +kernel
theorem dX10_operand_41 : decode cX10_operand 41 = .ok (.iload_n 2, 1) := by decide +kernel
theorem dX10_operand_42 : decode cX10_operand 42 = .ok (.iadd, 1) := by decide +kernel
theorem dX10_operand_43 : decode cX10_operand 43 = .ok (.iaload, 1) := by decide +kernel
theorem dX10_operand_44 : decode cX10_operand 44 = .ok (.goto 4, 3) := by decide +kernel
theorem dX10_operand_47 : decode cX10_operand 47 = .ok (.iconst (-1), 1) := by decide +kernel
theorem dX10_operand_48 : decode cX10_operand 48 = .ok (.ireturn, 1) := by decide +kernel
theorem dX10_item_0 : decode cX10_item 0 = .ok (.aload_n 0, 1) := by decide +kernel
theorem dX10_item_1 : decode cX10_item 1 = .ok (.iconst 0, 1) := by decide +kernel
theorem dX10_item_2 : decode cX10_item 2 = .ok (.putfield 62, 3) := by decide +kernel
theorem dX10_item_5 : decode cX10_item 5 = .ok (.iload_n 1, 1) := by decide +kernel
theorem dX10_item_6 : decode cX10_item 6 = .ok (.ifCond .lt 40, 3) := by decide +kernel
theorem dX10_item_9 : decode cX10_item 9 = .ok (.iload_n 1, 1) := by decide +kernel
theorem dX10_item_10 : decode cX10_item 10 = .ok (.aload_n 0, 1) := by decide +kernel
theorem dX10_item_11 : decode cX10_item 11 = .ok (.getfield 16, 3) := by decide +kernel
theorem dX10_item_14 : decode cX10_item 14 = .ok (.bipush 6, 2) := by decide +kernel
theorem dX10_item_16 : decode cX10_item 16 = .ok (.iaload, 1) := by decide +kernel
theorem dX10_item_17 : decode cX10_item 17 = .ok (.if_icmp .ge 29, 3) := by decide +kernel
theorem dX10_item_20 : decode cX10_item 20 = .ok (.iload_n 2, 1) := by decide +kernel
theorem dX10_item_21 : decode cX10_item 21 = .ok (.ifCond .lt 25, 3) := by decide +kernel
theorem dX10_item_24 : decode cX10_item 24 = .ok (.iload_n 2, 1) := by decide +kernel
theorem dX10_item_25 : decode cX10_item 25 = .ok (.iconst 2, 1) := by decide +kernel
theorem dX10_item_26 : decode cX10_item 26 = .ok (.if_icmp .ge 20, 3) := by decide +kernel
theorem dX10_item_29 : decode cX10_item 29 = .ok (.aload_n 0, 1) := by decide +kernel
theorem dX10_item_30 : decode cX10_item 30 = .ok (.getfield 25, 3) := by decide +kernel
theorem dX10_item_33 : decode cX10_item 33 = .ok (.sipush 4000, 3) := by decide +kernel
theorem dX10_item_36 : decode cX10_item 36 = .ok (.iconst 2, 1) := by decide +kernel
theorem dX10_item_37 : decode cX10_item 37 = .ok (.iload_n 1, 1) := by decide +kernel
theorem dX10_item_38 : decode cX10_item 38 = .ok (.imul, 1) := by decide +kernel
theorem dX10_item_39 : decode cX10_item 39 = .ok (.iadd, 1) := by decide +kernel
theorem dX10_item_40 : decode cX10_item 40 = .ok (.iload_n 2, 1) := by decide +kernel
theorem dX10_item_41 : decode cX10_item 41 = .ok (.iadd, 1) := by decide +kernel
theorem dX10_item_42 : decode cX10_item 42 = .ok (.iaload, 1) := by decide +kernel
theorem dX10_item_43 : decode cX10_item 43 = .ok (.goto 4, 3) := by decide +kernel
theorem dX10_item_46 : decode cX10_item 46 = .ok (.iconst 0, 1) := by decide +kernel
theorem dX10_item_47 : decode cX10_item 47 = .ok (.ireturn, 1) := by decide +kernel
theorem dX10_worked_0 : decode cX10_worked 0 = .ok (.iload_n 0, 1) := by decide +kernel
theorem dX10_worked_1 : decode cX10_worked 1 = .ok (.tableswitch 112 12 20 #[51, 55, 59, 63, 77, 90, 97, 104, 108], 51) := by decide +kernel
theorem dX10_worked_52 : decode cX10_worked 52 = .ok (.iload_n 1, 1) := by decide +kernel
theorem dX10_worked_53 : decode cX10_worked 53 = .ok (.iload_n 2, 1) := by decide +kernel
theorem dX10_worked_54 : decode cX10_worked 54 = .ok (.iadd, 1) := by decide +kernel
theorem dX10_worked_55 : decode cX10_worked 55 = .ok (.ireturn, 1) := by decide +kernel
theorem dX10_worked_56 : decode cX10_worked 56 = .ok (.iload_n 1, 1) := by decide +kernel
theorem dX10_worked_57 : decode cX10_worked 57 = .ok (.iload_n 2, 1) := by decide +kernel
theorem dX10_worked_58 : decode cX10_worked 58 = .ok (.isub, 1) := by decide +kernel
theorem dX10_worked_59 : decode cX10_worked 59 = .ok (.ireturn, 1) := by decide +kernel
theorem dX10_worked_60 : decode cX10_worked 60 = .ok (.iload_n 1, 1) := by decide +kernel
theorem dX10_worked_61 : decode cX10_worked 61 = .ok (.iload_n 2, 1) := by decide +kernel
theorem dX10_worked_62 : decode cX10_worked 62 = .ok (.imul, 1) := by decide +kernel
theorem dX10_worked_63 : decode cX10_worked 63 = .ok (.ireturn, 1) := by decide +kernel
theorem dX10_worked_64 : decode cX10_worked 64 = .ok (.iload_n 2, 1) := by decide +kernel
theorem dX10_worked_65 : decode cX10_worked 65 = .ok (.iconst (-1), 1) := by decide +kernel
theorem dX10_worked_66 : decode cX10_worked 66 = .ok (.if_icmp .ne 8, 3) := by decide +kernel
theorem dX10_worked_69 : decode cX10_worked 69 = .ok (.iload_n 1, 1) := by decide +kernel
theorem dX10_worked_70 : decode cX10_worked 70 = .ok (.ineg, 1) := by decide +kernel
theorem dX10_worked_71 : decode cX10_worked 71 = .ok (.goto 6, 3) := by decide +kernel
theorem dX10_worked_74 : decode cX10_worked 74 = .ok (.iload_n 1, 1) := by decide +kernel
theorem dX10_worked_75 : decode cX10_worked 75 = .ok (.iload_n 2, 1) := by decide +kernel
theorem dX10_worked_76 : decode cX10_worked 76 = .ok (.idiv, 1) := by decide +kernel
theorem dX10_worked_77 : decode cX10_worked 77 = .ok (.ireturn, 1) := by decide +kernel
theorem dX10_worked_78 : decode cX10_worked 78 = .ok (.iload_n 2, 1) := by decide +kernel
theorem dX10_worked_79 : decode cX10_worked 79 = .ok (.iconst (-1), 1) := by decide +kernel
theorem dX10_worked_80 : decode cX10_worked 80 = .ok (.if_icmp .ne 7, 3) := by decide +kernel
theorem dX10_worked_83 : decode cX10_worked 83 = .ok (.iconst 0, 1) := by decide +kernel
theorem dX10_worked_84 : decode cX10_worked 84 = .ok (.goto 6, 3) := by decide +kernel
theorem dX10_worked_87 : decode cX10_worked 87 = .ok (.iload_n 1, 1) := by decide +kernel
theorem dX10_worked_88 : decode cX10_worked 88 = .ok (.iload_n 2, 1) := by decide +kernel
theorem dX10_worked_89 : decode cX10_worked 89 = .ok (.irem, 1) := by decide +kernel
theorem dX10_worked_90 : decode cX10_worked 90 = .ok (.ireturn, 1) := by decide +kernel
theorem dX10_worked_91 : decode cX10_worked 91 = .ok (.iload_n 1, 1) := by decide +kernel
theorem dX10_worked_92 : decode cX10_worked 92 = .ok (.iload_n 2, 1) := by decide +kernel
theorem dX10_worked_93 : decode cX10_worked 93 = .ok (.bipush 31, 2) := by decide +kernel
theorem dX10_worked_95 : decode cX10_worked 95 = .ok (.iand, 1) := by decide +kernel
theorem dX10_worked_96 : decode cX10_worked 96 = .ok (.ishl, 1) := by decide +kernel
theorem dX10_worked_97 : decode cX10_worked 97 = .ok (.ireturn, 1) := by decide +kernel
theorem dX10_worked_98 : decode cX10_worked 98 = .ok (.iload_n 1, 1) := by decide +kernel
theorem dX10_worked_99 : decode cX10_worked 99 = .ok (.iload_n 2, 1) := by decide +kernel
theorem dX10_worked_100 : decode cX10_worked 100 = .ok (.bipush 31, 2) := by decide +kernel
theorem dX10_worked_102 : decode cX10_worked 102 = .ok (.iand, 1) := by decide +kernel
theorem dX10_worked_103 : decode cX10_worked 103 = .ok (.iushr, 1) := by decide +kernel
theorem dX10_worked_104 : decode cX10_worked 104 = .ok (.ireturn, 1) := by decide +kernel
theorem dX10_worked_105 : decode cX10_worked 105 = .ok (.iload_n 1, 1) := by decide +kernel
theorem dX10_worked_106 : decode cX10_worked 106 = .ok (.iload_n 2, 1) := by decide +kernel
theorem dX10_worked_107 : decode cX10_worked 107 = .ok (.iand, 1) := by decide +kernel
theorem dX10_worked_108 : decode cX10_worked 108 = .ok (.ireturn, 1) := by decide +kernel
theorem dX10_worked_109 : decode cX10_worked 109 = .ok (.iload_n 1, 1) := by decide +kernel
theorem dX10_worked_110 : decode cX10_worked 110 = .ok (.iload_n 2, 1) := by decide +kernel
theorem dX10_worked_111 : decode cX10_worked 111 = .ok (.ixor, 1) := by decide +kernel
theorem dX10_worked_112 : decode cX10_worked 112 = .ok (.ireturn, 1) := by decide +kernel
theorem dX10_worked_113 : decode cX10_worked 113 = .ok (.iload_n 1, 1) := by decide +kernel
theorem dX10_worked_114 : decode cX10_worked 114 = .ok (.iload_n 2, 1) := by decide +kernel
theorem dX10_worked_115 : decode cX10_worked 115 = .ok (.ior, 1) := by decide +kernel
theorem dX10_worked_116 : decode cX10_worked 116 = .ok (.ireturn, 1) := by decide +kernel
theorem dX10_constant_0 : decode cX10_constant 0 = .ok (.aload_n 0, 1) := by decide +kernel
theorem dX10_constant_1 : decode cX10_constant 1 = .ok (.iconst 0, 1) := by decide +kernel
theorem dX10_constant_2 : decode cX10_constant 2 = .ok (.putfield 62, 3) := by decide +kernel
theorem dX10_constant_5 : decode cX10_constant 5 = .ok (.iload_n 1, 1) := by decide +kernel
theorem dX10_constant_6 : decode cX10_constant 6 = .ok (.ifCond .lt 13, 3) := by decide +kernel
theorem dX10_constant_9 : decode cX10_constant 9 = .ok (.iload_n 1, 1) := by decide +kernel
theorem dX10_constant_10 : decode cX10_constant 10 = .ok (.aload_n 0, 1) := by decide +kernel
theorem dX10_constant_11 : decode cX10_constant 11 = .ok (.getfield 16, 3) := by decide +kernel
theorem dX10_constant_14 : decode cX10_constant 14 = .ok (.iconst 5, 1) := by decide +kernel
theorem dX10_constant_15 : decode cX10_constant 15 = .ok (.iaload, 1) := by decide +kernel
theorem dX10_constant_16 : decode cX10_constant 16 = .ok (.if_icmp .lt 7, 3) := by decide +kernel
theorem dX10_constant_19 : decode cX10_constant 19 = .ok (.ldc2_w 241, 3) := by decide +kernel
theorem dX10_constant_22 : decode cX10_constant 22 = .ok (.lreturn, 1) := by decide +kernel
theorem dX10_constant_23 : decode cX10_constant 23 = .ok (.aload_n 0, 1) := by decide +kernel
theorem dX10_constant_24 : decode cX10_constant 24 = .ok (.getfield 22, 3) := by decide +kernel
theorem dX10_constant_27 : decode cX10_constant 27 = .ok (.sipush 5600, 3) := by decide +kernel
theorem dX10_constant_30 : decode cX10_constant 30 = .ok (.bipush 7, 2) := by decide +kernel
theorem dX10_constant_32 : decode cX10_constant 32 = .ok (.iload_n 1, 1) := by decide +kernel
theorem dX10_constant_33 : decode cX10_constant 33 = .ok (.imul, 1) := by decide +kernel
theorem dX10_constant_34 : decode cX10_constant 34 = .ok (.iadd, 1) := by decide +kernel
theorem dX10_constant_35 : decode cX10_constant 35 = .ok (.iconst 3, 1) := by decide +kernel
theorem dX10_constant_36 : decode cX10_constant 36 = .ok (.iadd, 1) := by decide +kernel
theorem dX10_constant_37 : decode cX10_constant 37 = .ok (.iaload, 1) := by decide +kernel
theorem dX10_constant_38 : decode cX10_constant 38 = .ok (.istore_n 2, 1) := by decide +kernel
theorem dX10_constant_39 : decode cX10_constant 39 = .ok (.aload_n 0, 1) := by decide +kernel
theorem dX10_constant_40 : decode cX10_constant 40 = .ok (.getfield 22, 3) := by decide +kernel
theorem dX10_constant_43 : decode cX10_constant 43 = .ok (.sipush 5600, 3) := by decide +kernel
theorem dX10_constant_46 : decode cX10_constant 46 = .ok (.bipush 7, 2) := by decide +kernel
theorem dX10_constant_48 : decode cX10_constant 48 = .ok (.iload_n 1, 1) := by decide +kernel
theorem dX10_constant_49 : decode cX10_constant 49 = .ok (.imul, 1) := by decide +kernel
theorem dX10_constant_50 : decode cX10_constant 50 = .ok (.iadd, 1) := by decide +kernel
theorem dX10_constant_51 : decode cX10_constant 51 = .ok (.iconst 4, 1) := by decide +kernel
theorem dX10_constant_52 : decode cX10_constant 52 = .ok (.iadd, 1) := by decide +kernel
theorem dX10_constant_53 : decode cX10_constant 53 = .ok (.iaload, 1) := by decide +kernel
theorem dX10_constant_54 : decode cX10_constant 54 = .ok (.istore_n 3, 1) := by decide +kernel
theorem dX10_constant_55 : decode cX10_constant 55 = .ok (.iconst 0, 1) := by decide +kernel
theorem dX10_constant_56 : decode cX10_constant 56 = .ok (.istore 4, 2) := by decide +kernel
theorem dX10_constant_58 : decode cX10_constant 58 = .ok (.iload_n 2, 1) := by decide +kernel
theorem dX10_constant_59 : decode cX10_constant 59 = .ok (.istore 5, 2) := by decide +kernel
theorem dX10_constant_61 : decode cX10_constant 61 = .ok (.iload 5, 2) := by decide +kernel
theorem dX10_constant_63 : decode cX10_constant 63 = .ok (.iload_n 2, 1) := by decide +kernel
theorem dX10_constant_64 : decode cX10_constant 64 = .ok (.iload_n 3, 1) := by decide +kernel
theorem dX10_constant_65 : decode cX10_constant 65 = .ok (.iadd, 1) := by decide +kernel
theorem dX10_constant_66 : decode cX10_constant 66 = .ok (.if_icmp .ge 185, 3) := by decide +kernel
theorem dX10_constant_69 : decode cX10_constant 69 = .ok (.aload_n 0, 1) := by decide +kernel
theorem dX10_constant_70 : decode cX10_constant 70 = .ok (.getfield 25, 3) := by decide +kernel
theorem dX10_constant_73 : decode cX10_constant 73 = .ok (.sipush 4000, 3) := by decide +kernel
theorem dX10_constant_76 : decode cX10_constant 76 = .ok (.iconst 2, 1) := by decide +kernel
theorem dX10_constant_77 : decode cX10_constant 77 = .ok (.iload 5, 2) := by decide +kernel
theorem dX10_constant_79 : decode cX10_constant 79 = .ok (.imul, 1) := by decide +kernel
theorem dX10_constant_80 : decode cX10_constant 80 = .ok (.iadd, 1) := by decide +kernel
theorem dX10_constant_81 : decode cX10_constant 81 = .ok (.iaload, 1) := by decide +kernel
theorem dX10_constant_82 : decode cX10_constant 82 = .ok (.istore 6, 2) := by decide +kernel
theorem dX10_constant_84 : decode cX10_constant 84 = .ok (.aload_n 0, 1) := by decide +kernel
theorem dX10_constant_85 : decode cX10_constant 85 = .ok (.getfield 25, 3) := by decide +kernel
theorem dX10_constant_88 : decode cX10_constant 88 = .ok (.sipush 4001, 3) := by decide +kernel
theorem dX10_constant_91 : decode cX10_constant 91 = .ok (.iconst 2, 1) := by decide +kernel
theorem dX10_constant_92 : decode cX10_constant 92 = .ok (.iload 5, 2) := by decide +kernel
theorem dX10_constant_94 : decode cX10_constant 94 = .ok (.imul, 1) := by decide +kernel
theorem dX10_constant_95 : decode cX10_constant 95 = .ok (.iadd, 1) := by decide +kernel
theorem dX10_constant_96 : decode cX10_constant 96 = .ok (.iaload, 1) := by decide +kernel
theorem dX10_constant_97 : decode cX10_constant 97 = .ok (.istore 7, 2) := by decide +kernel
theorem dX10_constant_99 : decode cX10_constant 99 = .ok (.iload 6, 2) := by decide +kernel
theorem dX10_constant_101 : decode cX10_constant 101 = .ok (.ifCond .le 13, 3) := by decide +kernel
theorem dX10_constant_104 : decode cX10_constant 104 = .ok (.iload 6, 2) := by decide +kernel
theorem dX10_constant_106 : decode cX10_constant 106 = .ok (.iconst 4, 1) := by decide +kernel
theorem dX10_constant_107 : decode cX10_constant 107 = .ok (.if_icmp .ge 7, 3) := by decide +kernel
theorem dX10_constant_110 : decode cX10_constant 110 = .ok (.ldc2_w 241, 3) := by decide +kernel
theorem dX10_constant_113 : decode cX10_constant 113 = .ok (.lreturn, 1) := by decide +kernel
theorem dX10_constant_114 : decode cX10_constant 114 = .ok (.iload 6, 2) := by decide +kernel
theorem dX10_constant_116 : decode cX10_constant 116 = .ok (.ifCond .ne 18, 3) := by decide +kernel
theorem dX10_constant_119 : decode cX10_constant 119 = .ok (.aload_n 0, 1) := by decide +kernel
theorem dX10_constant_120 : decode cX10_constant 120 = .ok (.getfield 53, 3) := by decide +kernel
theorem dX10_constant_123 : decode cX10_constant 123 = .ok (.iload 4, 2) := by decide +kernel
theorem dX10_constant_125 : decode cX10_constant 125 = .ok (.iload 7, 2) := by decide +kernel
theorem dX10_constant_127 : decode cX10_constant 127 = .ok (.iastore, 1) := by decide +kernel
theorem dX10_constant_128 : decode cX10_constant 128 = .ok (.iinc 4 1, 3) := by decide +kernel
theorem dX10_constant_131 : decode cX10_constant 131 = .ok (.goto 114, 3) := by decide +kernel
theorem dX10_constant_134 : decode cX10_constant 134 = .ok (.iload 6, 2) := by decide +kernel
theorem dX10_constant_136 : decode cX10_constant 136 = .ok (.bipush 12, 2) := by decide +kernel
theorem dX10_constant_138 : decode cX10_constant 138 = .ok (.if_icmp .ge 46, 3) := by decide +kernel
theorem dX10_constant_141 : decode cX10_constant 141 = .ok (.aload_n 0, 1) := by decide +kernel
