theorem dX10_register_58 : decode cX10_register 58 = .ok (.bipush 103, 2) := by decide +kernel
theorem dX10_register_60 : decode cX10_register 60 = .ok (.bipush 112, 2) := by decide +kernel
theorem dX10_register_62 : decode cX10_register 62 = .ok (.iconst 0, 1) := by decide +kernel
theorem dX10_register_63 : decode cX10_register 63 = .ok (.iconst 0, 1) := by decide +kernel
theorem dX10_register_64 : decode cX10_register 64 = .ok (.invokevirtual 132, 3) := by decide +kernel
theorem dX10_register_67 : decode cX10_register 67 = .ok (.ifCond .eq 5, 3) := by decide +kernel
theorem dX10_register_70 : decode cX10_register 70 = .ok (.iconst 3, 1) := by decide +kernel
theorem dX10_register_71 : decode cX10_register 71 = .ok (.ireturn, 1) := by decide +kernel
theorem dX10_register_72 : decode cX10_register 72 = .ok (.aload_n 0, 1) := by decide +kernel
theorem dX10_register_73 : decode cX10_register 73 = .ok (.bipush 116, 2) := by decide +kernel
theorem dX10_register_75 : decode cX10_register 75 = .ok (.bipush 112, 2) := by decide +kernel
theorem dX10_register_77 : decode cX10_register 77 = .ok (.iconst 0, 1) := by decide +kernel
theorem dX10_register_78 : decode cX10_register 78 = .ok (.iconst 0, 1) := by decide +kernel
theorem dX10_register_79 : decode cX10_register 79 = .ok (.invokevirtual 132, 3) := by decide +kernel
theorem dX10_register_82 : decode cX10_register 82 = .ok (.ifCond .eq 5, 3) := by decide +kernel
theorem dX10_register_85 : decode cX10_register 85 = .ok (.iconst 4, 1) := by decide +kernel
theorem dX10_register_86 : decode cX10_register 86 = .ok (.ireturn, 1) := by decide +kernel
theorem dX10_register_87 : decode cX10_register 87 = .ok (.aload_n 0, 1) := by decide +kernel
theorem dX10_register_88 : decode cX10_register 88 = .ok (.bipush 102, 2) := by decide +kernel
theorem dX10_register_90 : decode cX10_register 90 = .ok (.bipush 112, 2) := by decide +kernel
theorem dX10_register_92 : decode cX10_register 92 = .ok (.iconst 0, 1) := by decide +kernel
theorem dX10_register_93 : decode cX10_register 93 = .ok (.iconst 0, 1) := by decide +kernel
theorem dX10_register_94 : decode cX10_register 94 = .ok (.invokevirtual 132, 3) := by decide +kernel
theorem dX10_register_97 : decode cX10_register 97 = .ok (.ifCond .eq 6, 3) := by decide +kernel
theorem dX10_register_100 : decode cX10_register 100 = .ok (.bipush 8, 2) := by decide +kernel
theorem dX10_register_102 : decode cX10_register 102 = .ok (.ireturn, 1) := by decide +kernel
theorem dX10_register_103 : decode cX10_register 103 = .ok (.aload_n 0, 1) := by decide +kernel
theorem dX10_register_104 : decode cX10_register 104 = .ok (.getfield 88, 3) := by decide +kernel
theorem dX10_register_107 : decode cX10_register 107 = .ok (.aload_n 0, 1) := by decide +kernel
theorem dX10_register_108 : decode cX10_register 108 = .ok (.getfield 85, 3) := by decide +kernel
theorem dX10_register_111 : decode cX10_register 111 = .ok (.isub, 1) := by decide +kernel
theorem dX10_register_112 : decode cX10_register 112 = .ok (.iconst 1, 1) := by decide +kernel
theorem dX10_register_113 : decode cX10_register 113 = .ok (.isub, 1) := by decide +kernel
theorem dX10_register_114 : decode cX10_register 114 = .ok (.istore_n 1, 1) := by decide +kernel
theorem dX10_register_115 : decode cX10_register 115 = .ok (.iload_n 1, 1) := by decide +kernel
theorem dX10_register_116 : decode cX10_register 116 = .ok (.iconst 1, 1) := by decide +kernel
theorem dX10_register_117 : decode cX10_register 117 = .ok (.if_icmp .lt 45, 3) := by decide +kernel
theorem dX10_register_120 : decode cX10_register 120 = .ok (.iload_n 1, 1) := by decide +kernel
theorem dX10_register_121 : decode cX10_register 121 = .ok (.iconst 2, 1) := by decide +kernel
theorem dX10_register_122 : decode cX10_register 122 = .ok (.if_icmp .gt 40, 3) := by decide +kernel
theorem dX10_register_125 : decode cX10_register 125 = .ok (.aload_n 0, 1) := by decide +kernel
theorem dX10_register_126 : decode cX10_register 126 = .ok (.iconst 1, 1) := by decide +kernel
theorem dX10_register_127 : decode cX10_register 127 = .ok (.invokevirtual 129, 3) := by decide +kernel
theorem dX10_register_130 : decode cX10_register 130 = .ok (.invokestatic 76, 3) := by decide +kernel
theorem dX10_register_133 : decode cX10_register 133 = .ok (.ifCond .eq 29, 3) := by decide +kernel
theorem dX10_register_136 : decode cX10_register 136 = .ok (.iload_n 1, 1) := by decide +kernel
theorem dX10_register_137 : decode cX10_register 137 = .ok (.iconst 2, 1) := by decide +kernel
theorem dX10_register_138 : decode cX10_register 138 = .ok (.if_icmp .ne 26, 3) := by decide +kernel
theorem dX10_register_141 : decode cX10_register 141 = .ok (.aload_n 0, 1) := by decide +kernel
theorem dX10_register_142 : decode cX10_register 142 = .ok (.iconst 2, 1) := by decide +kernel
theorem dX10_register_143 : decode cX10_register 143 = .ok (.invokevirtual 129, 3) := by decide +kernel
theorem dX10_register_146 : decode cX10_register 146 = .ok (.invokestatic 76, 3) := by decide +kernel
theorem dX10_register_149 : decode cX10_register 149 = .ok (.ifCond .eq 13, 3) := by decide +kernel
theorem dX10_register_152 : decode cX10_register 152 = .ok (.aload_n 0, 1) := by decide +kernel
theorem dX10_register_153 : decode cX10_register 153 = .ok (.iconst 1, 1) := by decide +kernel
theorem dX10_register_154 : decode cX10_register 154 = .ok (.invokevirtual 129, 3) := by decide +kernel
theorem dX10_register_157 : decode cX10_register 157 = .ok (.bipush 48, 2) := by decide +kernel
theorem dX10_register_159 : decode cX10_register 159 = .ok (.if_icmp .ne 5, 3) := by decide +kernel
theorem dX10_register_162 : decode cX10_register 162 = .ok (.iconst (-1), 1) := by decide +kernel
theorem dX10_register_163 : decode cX10_register 163 = .ok (.ireturn, 1) := by decide +kernel
theorem dX10_register_164 : decode cX10_register 164 = .ok (.iload_n 1, 1) := by decide +kernel
theorem dX10_register_165 : decode cX10_register 165 = .ok (.iconst 1, 1) := by decide +kernel
theorem dX10_register_166 : decode cX10_register 166 = .ok (.if_icmp .ne 14, 3) := by decide +kernel
theorem dX10_register_169 : decode cX10_register 169 = .ok (.aload_n 0, 1) := by decide +kernel
theorem dX10_register_170 : decode cX10_register 170 = .ok (.iconst 1, 1) := by decide +kernel
theorem dX10_register_171 : decode cX10_register 171 = .ok (.invokevirtual 129, 3) := by decide +kernel
theorem dX10_register_174 : decode cX10_register 174 = .ok (.bipush 48, 2) := by decide +kernel
theorem dX10_register_176 : decode cX10_register 176 = .ok (.isub, 1) := by decide +kernel
theorem dX10_register_177 : decode cX10_register 177 = .ok (.goto 23, 3) := by decide +kernel
theorem dX10_register_180 : decode cX10_register 180 = .ok (.bipush 10, 2) := by decide +kernel
theorem dX10_register_182 : decode cX10_register 182 = .ok (.aload_n 0, 1) := by decide +kernel
theorem dX10_register_183 : decode cX10_register 183 = .ok (.iconst 1, 1) := by decide +kernel
theorem dX10_register_184 : decode cX10_register 184 = .ok (.invokevirtual 129, 3) := by decide +kernel
theorem dX10_register_187 : decode cX10_register 187 = .ok (.bipush 48, 2) := by decide +kernel
theorem dX10_register_189 : decode cX10_register 189 = .ok (.isub, 1) := by decide +kernel
theorem dX10_register_190 : decode cX10_register 190 = .ok (.imul, 1) := by decide +kernel
theorem dX10_register_191 : decode cX10_register 191 = .ok (.aload_n 0, 1) := by decide +kernel
theorem dX10_register_192 : decode cX10_register 192 = .ok (.iconst 2, 1) := by decide +kernel
theorem dX10_register_193 : decode cX10_register 193 = .ok (.invokevirtual 129, 3) := by decide +kernel
theorem dX10_register_196 : decode cX10_register 196 = .ok (.iadd, 1) := by decide +kernel
theorem dX10_register_197 : decode cX10_register 197 = .ok (.bipush 48, 2) := by decide +kernel
theorem dX10_register_199 : decode cX10_register 199 = .ok (.isub, 1) := by decide +kernel
theorem dX10_register_200 : decode cX10_register 200 = .ok (.istore_n 2, 1) := by decide +kernel
theorem dX10_register_201 : decode cX10_register 201 = .ok (.aload_n 0, 1) := by decide +kernel
theorem dX10_register_202 : decode cX10_register 202 = .ok (.iconst 0, 1) := by decide +kernel
theorem dX10_register_203 : decode cX10_register 203 = .ok (.invokevirtual 129, 3) := by decide +kernel
theorem dX10_register_206 : decode cX10_register 206 = .ok (.lookupswitch 122 #[(97, 107), (115, 80), (116, 54), (120, 42)], 42) := by decide +kernel
theorem dX10_register_248 : decode cX10_register 248 = .ok (.iload_n 2, 1) := by decide +kernel
theorem dX10_register_249 : decode cX10_register 249 = .ok (.bipush 32, 2) := by decide +kernel
theorem dX10_register_251 : decode cX10_register 251 = .ok (.if_icmp .ge 7, 3) := by decide +kernel
theorem dX10_register_254 : decode cX10_register 254 = .ok (.iload_n 2, 1) := by decide +kernel
theorem dX10_register_255 : decode cX10_register 255 = .ok (.goto 4, 3) := by decide +kernel
theorem dX10_register_258 : decode cX10_register 258 = .ok (.iconst (-1), 1) := by decide +kernel
theorem dX10_register_259 : decode cX10_register 259 = .ok (.ireturn, 1) := by decide +kernel
theorem dX10_register_260 : decode cX10_register 260 = .ok (.iload_n 2, 1) := by decide +kernel
theorem dX10_register_261 : decode cX10_register 261 = .ok (.iconst 3, 1) := by decide +kernel
theorem dX10_register_262 : decode cX10_register 262 = .ok (.if_icmp .ge 9, 3) := by decide +kernel
theorem dX10_register_265 : decode cX10_register 265 = .ok (.iconst 5, 1) := by decide +kernel
theorem dX10_register_266 : decode cX10_register 266 = .ok (.iload_n 2, 1) := by decide +kernel
theorem dX10_register_267 : decode cX10_register 267 = .ok (.iadd, 1) := by decide +kernel
theorem dX10_register_268 : decode cX10_register 268 = .ok (.goto 17, 3) := by decide +kernel
theorem dX10_register_271 : decode cX10_register 271 = .ok (.iload_n 2, 1) := by decide +kernel
theorem dX10_register_272 : decode cX10_register 272 = .ok (.bipush 7, 2) := by decide +kernel
theorem dX10_register_274 : decode cX10_register 274 = .ok (.if_icmp .ge 10, 3) := by decide +kernel
theorem dX10_register_277 : decode cX10_register 277 = .ok (.bipush 25, 2) := by decide +kernel
theorem dX10_register_279 : decode cX10_register 279 = .ok (.iload_n 2, 1) := by decide +kernel
theorem dX10_register_280 : decode cX10_register 280 = .ok (.iadd, 1) := by decide +kernel
theorem dX10_register_281 : decode cX10_register 281 = .ok (.goto 4, 3) := by decide +kernel
theorem dX10_register_284 : decode cX10_register 284 = .ok (.iconst (-1), 1) := by decide +kernel
theorem dX10_register_285 : decode cX10_register 285 = .ok (.ireturn, 1) := by decide +kernel
theorem dX10_register_286 : decode cX10_register 286 = .ok (.iload_n 2, 1) := by decide +kernel
theorem dX10_register_287 : decode cX10_register 287 = .ok (.iconst 2, 1) := by decide +kernel
theorem dX10_register_288 : decode cX10_register 288 = .ok (.if_icmp .ge 10, 3) := by decide +kernel
theorem dX10_register_291 : decode cX10_register 291 = .ok (.bipush 8, 2) := by decide +kernel
theorem dX10_register_293 : decode cX10_register 293 = .ok (.iload_n 2, 1) := by decide +kernel
theorem dX10_register_294 : decode cX10_register 294 = .ok (.iadd, 1) := by decide +kernel
theorem dX10_register_295 : decode cX10_register 295 = .ok (.goto 17, 3) := by decide +kernel
theorem dX10_register_298 : decode cX10_register 298 = .ok (.iload_n 2, 1) := by decide +kernel
theorem dX10_register_299 : decode cX10_register 299 = .ok (.bipush 12, 2) := by decide +kernel
theorem dX10_register_301 : decode cX10_register 301 = .ok (.if_icmp .ge 10, 3) := by decide +kernel
theorem dX10_register_304 : decode cX10_register 304 = .ok (.bipush 16, 2) := by decide +kernel
theorem dX10_register_306 : decode cX10_register 306 = .ok (.iload_n 2, 1) := by decide +kernel
theorem dX10_register_307 : decode cX10_register 307 = .ok (.iadd, 1) := by decide +kernel
theorem dX10_register_308 : decode cX10_register 308 = .ok (.goto 4, 3) := by decide +kernel
theorem dX10_register_311 : decode cX10_register 311 = .ok (.iconst (-1), 1) := by decide +kernel
theorem dX10_register_312 : decode cX10_register 312 = .ok (.ireturn, 1) := by decide +kernel
theorem dX10_register_313 : decode cX10_register 313 = .ok (.iload_n 2, 1) := by decide +kernel
theorem dX10_register_314 : decode cX10_register 314 = .ok (.bipush 8, 2) := by decide +kernel
theorem dX10_register_316 : decode cX10_register 316 = .ok (.if_icmp .ge 10, 3) := by decide +kernel
theorem dX10_register_319 : decode cX10_register 319 = .ok (.bipush 10, 2) := by decide +kernel
theorem dX10_register_321 : decode cX10_register 321 = .ok (.iload_n 2, 1) := by decide +kernel
theorem dX10_register_322 : decode cX10_register 322 = .ok (.iadd, 1) := by decide +kernel
theorem dX10_register_323 : decode cX10_register 323 = .ok (.goto 4, 3) := by decide +kernel
theorem dX10_register_326 : decode cX10_register 326 = .ok (.iconst (-1), 1) := by decide +kernel
theorem dX10_register_327 : decode cX10_register 327 = .ok (.ireturn, 1) := by decide +kernel
theorem dX10_register_328 : decode cX10_register 328 = .ok (.iconst (-1), 1) := by decide +kernel
theorem dX10_register_329 : decode cX10_register 329 = .ok (.ireturn, 1) := by decide +kernel
theorem dX10_mark_0 : decode cX10_mark 0 = .ok (.aload_n 0, 1) := by decide +kernel
theorem dX10_mark_1 : decode cX10_mark 1 = .ok (.getfield 79, 3) := by decide +kernel
theorem dX10_mark_4 : decode cX10_mark 4 = .ok (.iconst 1, 1) := by decide +kernel
theorem dX10_mark_5 : decode cX10_mark 5 = .ok (.if_icmp .eq 5, 3) := by decide +kernel
theorem dX10_mark_8 : decode cX10_mark 8 = .ok (.iconst 0, 1) := by decide +kernel
theorem dX10_mark_9 : decode cX10_mark 9 = .ok (.ireturn, 1) := by decide +kernel
theorem dX10_mark_10 : decode cX10_mark 10 = .ok (.aload_n 0, 1) := by decide +kernel
theorem dX10_mark_11 : decode cX10_mark 11 = .ok (.bipush 104, 2) := by decide +kernel
theorem dX10_mark_13 : decode cX10_mark 13 = .ok (.bipush 105, 2) := by decide +kernel
theorem dX10_mark_15 : decode cX10_mark 15 = .ok (.iconst 0, 1) := by decide +kernel
theorem dX10_mark_16 : decode cX10_mark 16 = .ok (.iconst 0, 1) := by decide +kernel
theorem dX10_mark_17 : decode cX10_mark 17 = .ok (.invokevirtual 132, 3) := by decide +kernel
theorem dX10_mark_20 : decode cX10_mark 20 = .ok (.ifCond .eq 5, 3) := by decide +kernel
theorem dX10_mark_23 : decode cX10_mark 23 = .ok (.iconst 1, 1) := by decide +kernel
theorem dX10_mark_24 : decode cX10_mark 24 = .ok (.ireturn, 1) := by decide +kernel
theorem dX10_mark_25 : decode cX10_mark 25 = .ok (.aload_n 0, 1) := by decide +kernel
theorem dX10_mark_26 : decode cX10_mark 26 = .ok (.bipush 108, 2) := by decide +kernel
theorem dX10_mark_28 : decode cX10_mark 28 = .ok (.bipush 111, 2) := by decide +kernel
theorem dX10_mark_30 : decode cX10_mark 30 = .ok (.iconst 0, 1) := by decide +kernel
theorem dX10_mark_31 : decode cX10_mark 31 = .ok (.iconst 0, 1) := by decide +kernel
theorem dX10_mark_32 : decode cX10_mark 32 = .ok (.invokevirtual 132, 3) := by decide +kernel
theorem dX10_mark_35 : decode cX10_mark 35 = .ok (.ifCond .eq 5, 3) := by decide +kernel
theorem dX10_mark_38 : decode cX10_mark 38 = .ok (.iconst 2, 1) := by decide +kernel
theorem dX10_mark_39 : decode cX10_mark 39 = .ok (.ireturn, 1) := by decide +kernel
theorem dX10_mark_40 : decode cX10_mark 40 = .ok (.aload_n 0, 1) := by decide +kernel
theorem dX10_mark_41 : decode cX10_mark 41 = .ok (.iconst 0, 1) := by decide +kernel
theorem dX10_mark_42 : decode cX10_mark 42 = .ok (.invokevirtual 129, 3) := by decide +kernel
theorem dX10_mark_45 : decode cX10_mark 45 = .ok (.bipush 112, 2) := by decide +kernel
theorem dX10_mark_47 : decode cX10_mark 47 = .ok (.if_icmp .ne 71, 3) := by decide +kernel
theorem dX10_mark_50 : decode cX10_mark 50 = .ok (.aload_n 0, 1) := by decide +kernel
theorem dX10_mark_51 : decode cX10_mark 51 = .ok (.iconst 1, 1) := by decide +kernel
theorem dX10_mark_52 : decode cX10_mark 52 = .ok (.invokevirtual 129, 3) := by decide +kernel
theorem dX10_mark_55 : decode cX10_mark 55 = .ok (.bipush 99, 2) := by decide +kernel
theorem dX10_mark_57 : decode cX10_mark 57 = .ok (.if_icmp .ne 61, 3) := by decide +kernel
theorem dX10_mark_60 : decode cX10_mark 60 = .ok (.aload_n 0, 1) := by decide +kernel
theorem dX10_mark_61 : decode cX10_mark 61 = .ok (.iconst 2, 1) := by decide +kernel
theorem dX10_mark_62 : decode cX10_mark 62 = .ok (.invokevirtual 129, 3) := by decide +kernel
theorem dX10_mark_65 : decode cX10_mark 65 = .ok (.bipush 114, 2) := by decide +kernel
theorem dX10_mark_67 : decode cX10_mark 67 = .ok (.if_icmp .ne 51, 3) := by decide +kernel
theorem dX10_mark_70 : decode cX10_mark 70 = .ok (.aload_n 0, 1) := by decide +kernel
theorem dX10_mark_71 : decode cX10_mark 71 = .ok (.iconst 3, 1) := by decide +kernel
theorem dX10_mark_72 : decode cX10_mark 72 = .ok (.invokevirtual 129, 3) := by decide +kernel
theorem dX10_mark_75 : decode cX10_mark 75 = .ok (.bipush 101, 2) := by decide +kernel
theorem dX10_mark_77 : decode cX10_mark 77 = .ok (.if_icmp .ne 41, 3) := by decide +kernel
theorem dX10_mark_80 : decode cX10_mark 80 = .ok (.aload_n 0, 1) := by decide +kernel
theorem dX10_mark_81 : decode cX10_mark 81 = .ok (.iconst 4, 1) := by decide +kernel
theorem dX10_mark_82 : decode cX10_mark 82 = .ok (.invokevirtual 129, 3) := by decide +kernel
theorem dX10_mark_85 : decode cX10_mark 85 = .ok (.bipush 108, 2) := by decide +kernel
theorem dX10_mark_87 : decode cX10_mark 87 = .ok (.if_icmp .ne 31, 3) := by decide +kernel
theorem dX10_mark_90 : decode cX10_mark 90 = .ok (.aload_n 0, 1) := by decide +kernel
theorem dX10_mark_91 : decode cX10_mark 91 = .ok (.iconst 5, 1) := by decide +kernel
theorem dX10_mark_92 : decode cX10_mark 92 = .ok (.invokevirtual 129, 3) := by decide +kernel
theorem dX10_mark_95 : decode cX10_mark 95 = .ok (.bipush 95, 2) := by decide +kernel
theorem dX10_mark_97 : decode cX10_mark 97 = .ok (.if_icmp .ne 21, 3) := by decide +kernel
theorem dX10_mark_100 : decode cX10_mark 100 = .ok (.aload_n 0, 1) := by decide +kernel
theorem dX10_mark_101 : decode cX10_mark 101 = .ok (.getfield 88, 3) := by decide +kernel
theorem dX10_mark_104 : decode cX10_mark 104 = .ok (.aload_n 0, 1) := by decide +kernel
theorem dX10_mark_105 : decode cX10_mark 105 = .ok (.getfield 85, 3) := by decide +kernel
theorem dX10_mark_108 : decode cX10_mark 108 = .ok (.isub, 1) := by decide +kernel
theorem dX10_mark_109 : decode cX10_mark 109 = .ok (.bipush 8, 2) := by decide +kernel
theorem dX10_mark_111 : decode cX10_mark 111 = .ok (.if_icmp .ne 7, 3) := by decide +kernel
theorem dX10_mark_114 : decode cX10_mark 114 = .ok (.iconst 1, 1) := by decide +kernel
theorem dX10_mark_115 : decode cX10_mark 115 = .ok (.goto 4, 3) := by decide +kernel
theorem dX10_mark_118 : decode cX10_mark 118 = .ok (.iconst 0, 1) := by decide +kernel
theorem dX10_mark_119 : decode cX10_mark 119 = .ok (.istore_n 1, 1) := by decide +kernel
theorem dX10_mark_120 : decode cX10_mark 120 = .ok (.iload_n 1, 1) := by decide +kernel
theorem dX10_mark_121 : decode cX10_mark 121 = .ok (.ifCond .eq 27, 3) := by decide +kernel
theorem dX10_mark_124 : decode cX10_mark 124 = .ok (.aload_n 0, 1) := by decide +kernel
theorem dX10_mark_125 : decode cX10_mark 125 = .ok (.bipush 6, 2) := by decide +kernel
theorem dX10_mark_127 : decode cX10_mark 127 = .ok (.invokevirtual 129, 3) := by decide +kernel
theorem dX10_mark_130 : decode cX10_mark 130 = .ok (.bipush 104, 2) := by decide +kernel
theorem dX10_mark_132 : decode cX10_mark 132 = .ok (.if_icmp .ne 16, 3) := by decide +kernel
theorem dX10_mark_135 : decode cX10_mark 135 = .ok (.aload_n 0, 1) := by decide +kernel
theorem dX10_mark_136 : decode cX10_mark 136 = .ok (.bipush 7, 2) := by decide +kernel
theorem dX10_mark_138 : decode cX10_mark 138 = .ok (.invokevirtual 129, 3) := by decide +kernel
theorem dX10_mark_141 : decode cX10_mark 141 = .ok (.bipush 105, 2) := by decide +kernel
theorem dX10_mark_143 : decode cX10_mark 143 = .ok (.if_icmp .ne 5, 3) := by decide +kernel
theorem dX10_mark_146 : decode cX10_mark 146 = .ok (.iconst 3, 1) := by decide +kernel
theorem dX10_mark_147 : decode cX10_mark 147 = .ok (.ireturn, 1) := by decide +kernel
theorem dX10_mark_148 : decode cX10_mark 148 = .ok (.iload_n 1, 1) := by decide +kernel
theorem dX10_mark_149 : decode cX10_mark 149 = .ok (.ifCond .eq 29, 3) := by decide +kernel
theorem dX10_mark_152 : decode cX10_mark 152 = .ok (.aload_n 0, 1) := by decide +kernel
theorem dX10_mark_153 : decode cX10_mark 153 = .ok (.bipush 6, 2) := by decide +kernel
theorem dX10_mark_155 : decode cX10_mark 155 = .ok (.invokevirtual 129, 3) := by decide +kernel
theorem dX10_mark_158 : decode cX10_mark 158 = .ok (.bipush 108, 2) := by decide +kernel
theorem dX10_mark_160 : decode cX10_mark 160 = .ok (.if_icmp .ne 18, 3) := by decide +kernel
theorem dX10_mark_163 : decode cX10_mark 163 = .ok (.aload_n 0, 1) := by decide +kernel
theorem dX10_mark_164 : decode cX10_mark 164 = .ok (.bipush 7, 2) := by decide +kernel
theorem dX10_mark_166 : decode cX10_mark 166 = .ok (.invokevirtual 129, 3) := by decide +kernel
theorem dX10_mark_169 : decode cX10_mark 169 = .ok (.bipush 111, 2) := by decide +kernel
theorem dX10_mark_171 : decode cX10_mark 171 = .ok (.if_icmp .ne 7, 3) := by decide +kernel
theorem dX10_mark_174 : decode cX10_mark 174 = .ok (.iconst 4, 1) := by decide +kernel
theorem dX10_mark_175 : decode cX10_mark 175 = .ok (.goto 4, 3) := by decide +kernel
theorem dX10_mark_178 : decode cX10_mark 178 = .ok (.iconst 0, 1) := by decide +kernel
theorem dX10_mark_179 : decode cX10_mark 179 = .ok (.ireturn, 1) := by decide +kernel
theorem dX10_fail_0 : decode cX10_fail 0 = .ok (.aload_n 0, 1) := by decide +kernel
theorem dX10_fail_1 : decode cX10_fail 1 = .ok (.getfield 136, 3) := by decide +kernel
theorem dX10_fail_4 : decode cX10_fail 4 = .ok (.ifCond .eq 5, 3) := by decide +kernel
theorem dX10_fail_7 : decode cX10_fail 7 = .ok (.iconst 0, 1) := by decide +kernel
theorem dX10_fail_8 : decode cX10_fail 8 = .ok (.ireturn, 1) := by decide +kernel
theorem dX10_fail_9 : decode cX10_fail 9 = .ok (.aload_n 0, 1) := by decide +kernel
theorem dX10_fail_10 : decode cX10_fail 10 = .ok (.aload_n 0, 1) := by decide +kernel
theorem dX10_fail_11 : decode cX10_fail 11 = .ok (.getfield 79, 3) := by decide +kernel
theorem dX10_fail_14 : decode cX10_fail 14 = .ok (.bipush 6, 2) := by decide +kernel
theorem dX10_fail_16 : decode cX10_fail 16 = .ok (.if_icmp .ne 10, 3) := by decide +kernel
theorem dX10_fail_19 : decode cX10_fail 19 = .ok (.aload_n 0, 1) := by decide +kernel
theorem dX10_fail_20 : decode cX10_fail 20 = .ok (.getfield 82, 3) := by decide +kernel
theorem dX10_fail_23 : decode cX10_fail 23 = .ok (.goto 4, 3) := by decide +kernel
theorem dX10_fail_26 : decode cX10_fail 26 = .ok (.iload_n 1, 1) := by decide +kernel
theorem dX10_fail_27 : decode cX10_fail 27 = .ok (.putfield 136, 3) := by decide +kernel
theorem dX10_fail_30 : decode cX10_fail 30 = .ok (.aload_n 0, 1) := by decide +kernel
theorem dX10_fail_31 : decode cX10_fail 31 = .ok (.aload_n 0, 1) := by decide +kernel
theorem dX10_fail_32 : decode cX10_fail 32 = .ok (.getfield 85, 3) := by decide +kernel
theorem dX10_fail_35 : decode cX10_fail 35 = .ok (.putfield 139, 3) := by decide +kernel
theorem dX10_fail_38 : decode cX10_fail 38 = .ok (.iconst 0, 1) := by decide +kernel
theorem dX10_fail_39 : decode cX10_fail 39 = .ok (.ireturn, 1) := by decide +kernel
theorem dX10_isName_0 : decode cX10_isName 0 = .ok (.aload_n 0, 1) := by decide +kernel
theorem dX10_isName_1 : decode cX10_isName 1 = .ok (.getfield 31, 3) := by decide +kernel
theorem dX10_isName_4 : decode cX10_isName 4 = .ok (.sipush 150, 3) := by decide +kernel
theorem dX10_isName_7 : decode cX10_isName 7 = .ok (.iload_n 2, 1) := by decide +kernel
theorem dX10_isName_8 : decode cX10_isName 8 = .ok (.imul, 1) := by decide +kernel
theorem dX10_isName_9 : decode cX10_isName 9 = .ok (.iload_n 1, 1) := by decide +kernel
theorem dX10_isName_10 : decode cX10_isName 10 = .ok (.iadd, 1) := by decide +kernel
theorem dX10_isName_11 : decode cX10_isName 11 = .ok (.iaload, 1) := by decide +kernel
theorem dX10_isName_12 : decode cX10_isName 12 = .ok (.aload_n 0, 1) := by decide +kernel
theorem dX10_isName_13 : decode cX10_isName 13 = .ok (.getfield 88, 3) := by decide +kernel
theorem dX10_isName_16 : decode cX10_isName 16 = .ok (.aload_n 0, 1) := by decide +kernel
theorem dX10_isName_17 : decode cX10_isName 17 = .ok (.getfield 85, 3) := by decide +kernel
theorem dX10_isName_20 : decode cX10_isName 20 = .ok (.isub, 1) := by decide +kernel
theorem dX10_isName_21 : decode cX10_isName 21 = .ok (.if_icmp .eq 5, 3) := by decide +kernel
theorem dX10_isName_24 : decode cX10_isName 24 = .ok (.iconst 0, 1) := by decide +kernel
theorem dX10_isName_25 : decode cX10_isName 25 = .ok (.ireturn, 1) := by decide +kernel
theorem dX10_isName_26 : decode cX10_isName 26 = .ok (.iconst 0, 1) := by decide +kernel
theorem dX10_isName_27 : decode cX10_isName 27 = .ok (.istore_n 3, 1) := by decide +kernel
theorem dX10_isName_28 : decode cX10_isName 28 = .ok (.iload_n 3, 1) := by decide +kernel
theorem dX10_isName_29 : decode cX10_isName 29 = .ok (.aload_n 0, 1) := by decide +kernel
theorem dX10_isName_30 : decode cX10_isName 30 = .ok (.getfield 88, 3) := by decide +kernel
theorem dX10_isName_33 : decode cX10_isName 33 = .ok (.aload_n 0, 1) := by decide +kernel
theorem dX10_isName_34 : decode cX10_isName 34 = .ok (.getfield 85, 3) := by decide +kernel
theorem dX10_isName_37 : decode cX10_isName 37 = .ok (.isub, 1) := by decide +kernel
theorem dX10_isName_38 : decode cX10_isName 38 = .ok (.if_icmp .ge 42, 3) := by decide +kernel
theorem dX10_isName_41 : decode cX10_isName 41 = .ok (.aload_n 0, 1) := by decide +kernel
theorem dX10_isName_42 : decode cX10_isName 42 = .ok (.getfield 28, 3) := by decide +kernel
theorem dX10_isName_45 : decode cX10_isName 45 = .ok (.sipush 2400, 3) := by decide +kernel
theorem dX10_isName_48 : decode cX10_isName 48 = .ok (.iload_n 2, 1) := by decide +kernel
theorem dX10_isName_49 : decode cX10_isName 49 = .ok (.imul, 1) := by decide +kernel
theorem dX10_isName_50 : decode cX10_isName 50 = .ok (.bipush 16, 2) := by decide +kernel
theorem dX10_isName_52 : decode cX10_isName 52 = .ok (.iload_n 1, 1) := by decide +kernel
theorem dX10_isName_53 : decode cX10_isName 53 = .ok (.imul, 1) := by decide +kernel
theorem dX10_isName_54 : decode cX10_isName 54 = .ok (.iadd, 1) := by decide +kernel
theorem dX10_isName_55 : decode cX10_isName 55 = .ok (.iload_n 3, 1) := by decide +kernel
theorem dX10_isName_56 : decode cX10_isName 56 = .ok (.iadd, 1) := by decide +kernel
theorem dX10_isName_57 : decode cX10_isName 57 = .ok (.iaload, 1) := by decide +kernel
theorem dX10_isName_58 : decode cX10_isName 58 = .ok (.aload_n 0, 1) := by decide +kernel
theorem dX10_isName_59 : decode cX10_isName 59 = .ok (.getfield 13, 3) := by decide +kernel
theorem dX10_isName_62 : decode cX10_isName 62 = .ok (.aload_n 0, 1) := by decide +kernel
theorem dX10_isName_63 : decode cX10_isName 63 = .ok (.getfield 85, 3) := by decide +kernel
theorem dX10_isName_66 : decode cX10_isName 66 = .ok (.iload_n 3, 1) := by decide +kernel
theorem dX10_isName_67 : decode cX10_isName 67 = .ok (.iadd, 1) := by decide +kernel
theorem dX10_isName_68 : decode cX10_isName 68 = .ok (.iaload, 1) := by decide +kernel
theorem dX10_isName_69 : decode cX10_isName 69 = .ok (.if_icmp .eq 5, 3) := by decide +kernel
theorem dX10_isName_72 : decode cX10_isName 72 = .ok (.iconst 0, 1) := by decide +kernel
theorem dX10_isName_73 : decode cX10_isName 73 = .ok (.ireturn, 1) := by decide +kernel
theorem dX10_isName_74 : decode cX10_isName 74 = .ok (.iinc 3 1, 3) := by decide +kernel
theorem dX10_isName_77 : decode cX10_isName 77 = .ok (.goto (-49), 3) := by decide +kernel
theorem dX10_isName_80 : decode cX10_isName 80 = .ok (.iconst 1, 1) := by decide +kernel
theorem dX10_isName_81 : decode cX10_isName 81 = .ok (.ireturn, 1) := by decide +kernel
theorem dX10_number_0 : decode cX10_number 0 = .ok (.iconst 0, 1) := by decide +kernel
theorem dX10_number_1 : decode cX10_number 1 = .ok (.istore_n 1, 1) := by decide +kernel
theorem dX10_number_2 : decode cX10_number 2 = .ok (.iload_n 1, 1) := by decide +kernel
theorem dX10_number_3 : decode cX10_number 3 = .ok (.aload_n 0, 1) := by decide +kernel
theorem dX10_number_4 : decode cX10_number 4 = .ok (.getfield 16, 3) := by decide +kernel
theorem dX10_number_7 : decode cX10_number 7 = .ok (.iconst 3, 1) := by decide +kernel
theorem dX10_number_8 : decode cX10_number 8 = .ok (.iaload, 1) := by decide +kernel
theorem dX10_number_9 : decode cX10_number 9 = .ok (.if_icmp .ge 20, 3) := by decide +kernel
theorem dX10_number_12 : decode cX10_number 12 = .ok (.aload_n 0, 1) := by decide +kernel
theorem dX10_number_13 : decode cX10_number 13 = .ok (.iload_n 1, 1) := by decide +kernel
theorem dX10_number_14 : decode cX10_number 14 = .ok (.iconst 0, 1) := by decide +kernel
theorem dX10_number_15 : decode cX10_number 15 = .ok (.invokevirtual 142, 3) := by decide +kernel
theorem dX10_number_18 : decode cX10_number 18 = .ok (.ifCond .eq 5, 3) := by decide +kernel
theorem dX10_number_21 : decode cX10_number 21 = .ok (.iload_n 1, 1) := by decide +kernel
theorem dX10_number_22 : decode cX10_number 22 = .ok (.ireturn, 1) := by decide +kernel
theorem dX10_number_23 : decode cX10_number 23 = .ok (.iinc 1 1, 3) := by decide +kernel
theorem dX10_number_26 : decode cX10_number 26 = .ok (.goto (-24), 3) := by decide +kernel
theorem dX10_number_29 : decode cX10_number 29 = .ok (.aload_n 0, 1) := by decide +kernel
theorem dX10_number_30 : decode cX10_number 30 = .ok (.getfield 16, 3) := by decide +kernel
theorem dX10_number_33 : decode cX10_number 33 = .ok (.iconst 3, 1) := by decide +kernel
theorem dX10_number_34 : decode cX10_number 34 = .ok (.iaload, 1) := by decide +kernel
theorem dX10_number_35 : decode cX10_number 35 = .ok (.sipush 150, 3) := by decide +kernel
theorem dX10_number_38 : decode cX10_number 38 = .ok (.if_icmp .ne 5, 3) := by decide +kernel
theorem dX10_number_41 : decode cX10_number 41 = .ok (.iconst (-1), 1) := by decide +kernel
theorem dX10_number_42 : decode cX10_number 42 = .ok (.ireturn, 1) := by decide +kernel
theorem dX10_number_43 : decode cX10_number 43 = .ok (.aload_n 0, 1) := by decide +kernel
theorem dX10_number_44 : decode cX10_number 44 = .ok (.getfield 16, 3) := by decide +kernel
theorem dX10_number_47 : decode cX10_number 47 = .ok (.iconst 3, 1) := by decide +kernel
theorem dX10_number_48 : decode cX10_number 48 = .ok (.iaload, 1) := by decide +kernel
theorem dX10_number_49 : decode cX10_number 49 = .ok (.istore_n 1, 1) := by decide +kernel
theorem dX10_number_50 : decode cX10_number 50 = .ok (.aload_n 0, 1) := by decide +kernel
theorem dX10_number_51 : decode cX10_number 51 = .ok (.getfield 31, 3) := by decide +kernel
theorem dX10_number_54 : decode cX10_number 54 = .ok (.iload_n 1, 1) := by decide +kernel
theorem dX10_number_55 : decode cX10_number 55 = .ok (.aload_n 0, 1) := by decide +kernel
theorem dX10_number_56 : decode cX10_number 56 = .ok (.getfield 88, 3) := by decide +kernel
theorem dX10_number_59 : decode cX10_number 59 = .ok (.aload_n 0, 1) := by decide +kernel
theorem dX10_number_60 : decode cX10_number 60 = .ok (.getfield 85, 3) := by decide +kernel
theorem dX10_number_63 : decode cX10_number 63 = .ok (.isub, 1) := by decide +kernel
theorem dX10_number_64 : decode cX10_number 64 = .ok (.iastore, 1) := by decide +kernel
theorem dX10_number_65 : decode cX10_number 65 = .ok (.iconst 0, 1) := by decide +kernel
theorem dX10_number_66 : decode cX10_number 66 = .ok (.istore_n 2, 1) := by decide +kernel
theorem dX10_number_67 : decode cX10_number 67 = .ok (.iload_n 2, 1) := by decide +kernel
theorem dX10_number_68 : decode cX10_number 68 = .ok (.aload_n 0, 1) := by decide +kernel
theorem dX10_number_69 : decode cX10_number 69 = .ok (.getfield 88, 3) := by decide +kernel
theorem dX10_number_72 : decode cX10_number 72 = .ok (.aload_n 0, 1) := by decide +kernel
theorem dX10_number_73 : decode cX10_number 73 = .ok (.getfield 85, 3) := by decide +kernel
theorem dX10_number_76 : decode cX10_number 76 = .ok (.isub, 1) := by decide +kernel
theorem dX10_number_77 : decode cX10_number 77 = .ok (.if_icmp .ge 31, 3) := by decide +kernel
theorem dX10_number_80 : decode cX10_number 80 = .ok (.aload_n 0, 1) := by decide +kernel
theorem dX10_number_81 : decode cX10_number 81 = .ok (.getfield 28, 3) := by decide +kernel
theorem dX10_number_84 : decode cX10_number 84 = .ok (.bipush 16, 2) := by decide +kernel
theorem dX10_number_86 : decode cX10_number 86 = .ok (.iload_n 1, 1) := by decide +kernel
theorem dX10_number_87 : decode cX10_number 87 = .ok (.imul, 1) := by decide +kernel
theorem dX10_number_88 : decode cX10_number 88 = .ok (.iload_n 2, 1) := by decide +kernel
theorem dX10_number_89 : decode cX10_number 89 = .ok (.iadd, 1) := by decide +kernel
theorem dX10_number_90 : decode cX10_number 90 = .ok (.aload_n 0, 1) := by decide +kernel
theorem dX10_number_91 : decode cX10_number 91 = .ok (.getfield 13, 3) := by decide +kernel
theorem dX10_number_94 : decode cX10_number 94 = .ok (.aload_n 0, 1) := by decide +kernel
theorem dX10_number_95 : decode cX10_number 95 = .ok (.getfield 85, 3) := by decide +kernel
theorem dX10_number_98 : decode cX10_number 98 = .ok (.iload_n 2, 1) := by decide +kernel
theorem dX10_number_99 : decode cX10_number 99 = .ok (.iadd, 1) := by decide +kernel
theorem dX10_number_100 : decode cX10_number 100 = .ok (.iaload, 1) := by decide +kernel
theorem dX10_number_101 : decode cX10_number 101 = .ok (.iastore, 1) := by decide +kernel
theorem dX10_number_102 : decode cX10_number 102 = .ok (.iinc 2 1, 3) := by decide +kernel
theorem dX10_number_105 : decode cX10_number 105 = .ok (.goto (-38), 3) := by decide +kernel
theorem dX10_number_108 : decode cX10_number 108 = .ok (.aload_n 0, 1) := by decide +kernel
theorem dX10_number_109 : decode cX10_number 109 = .ok (.getfield 16, 3) := by decide +kernel
theorem dX10_number_112 : decode cX10_number 112 = .ok (.iconst 3, 1) := by decide +kernel
theorem dX10_number_113 : decode cX10_number 113 = .ok (.dup2, 1) := by decide +kernel
theorem dX10_number_114 : decode cX10_number 114 = .ok (.iaload, 1) := by decide +kernel
theorem dX10_number_115 : decode cX10_number 115 = .ok (.iconst 1, 1) := by decide +kernel
theorem dX10_number_116 : decode cX10_number 116 = .ok (.iadd, 1) := by decide +kernel
theorem dX10_number_117 : decode cX10_number 117 = .ok (.iastore, 1) := by decide +kernel
theorem dX10_number_118 : decode cX10_number 118 = .ok (.iload_n 1, 1) := by decide +kernel
theorem dX10_number_119 : decode cX10_number 119 = .ok (.ireturn, 1) := by decide +kernel
theorem dX10_emit_0 : decode cX10_emit 0 = .ok (.iconst 2, 1) := by decide +kernel
theorem dX10_emit_1 : decode cX10_emit 1 = .ok (.aload_n 0, 1) := by decide +kernel
theorem dX10_emit_2 : decode cX10_emit 2 = .ok (.getfield 16, 3) := by decide +kernel
theorem dX10_emit_5 : decode cX10_emit 5 = .ok (.iconst 2, 1) := by decide +kernel
theorem dX10_emit_6 : decode cX10_emit 6 = .ok (.iaload, 1) := by decide +kernel
theorem dX10_emit_7 : decode cX10_emit 7 = .ok (.imul, 1) := by decide +kernel
theorem dX10_emit_8 : decode cX10_emit 8 = .ok (.istore_n 3, 1) := by decide +kernel
theorem dX10_emit_9 : decode cX10_emit 9 = .ok (.aload_n 0, 1) := by decide +kernel
theorem dX10_emit_10 : decode cX10_emit 10 = .ok (.getfield 25, 3) := by decide +kernel
theorem dX10_emit_13 : decode cX10_emit 13 = .ok (.iload_n 3, 1) := by decide +kernel
theorem dX10_emit_14 : decode cX10_emit 14 = .ok (.iload_n 1, 1) := by decide +kernel
theorem dX10_emit_15 : decode cX10_emit 15 = .ok (.iastore, 1) := by decide +kernel
theorem dX10_emit_16 : decode cX10_emit 16 = .ok (.aload_n 0, 1) := by decide +kernel
theorem dX10_emit_17 : decode cX10_emit 17 = .ok (.getfield 25, 3) := by decide +kernel
theorem dX10_emit_20 : decode cX10_emit 20 = .ok (.iload_n 3, 1) := by decide +kernel
theorem dX10_emit_21 : decode cX10_emit 21 = .ok (.iconst 1, 1) := by decide +kernel
theorem dX10_emit_22 : decode cX10_emit 22 = .ok (.iadd, 1) := by decide +kernel
theorem dX10_emit_23 : decode cX10_emit 23 = .ok (.iload_n 2, 1) := by decide +kernel
theorem dX10_emit_24 : decode cX10_emit 24 = .ok (.iastore, 1) := by decide +kernel
theorem dX10_emit_25 : decode cX10_emit 25 = .ok (.aload_n 0, 1) := by decide +kernel
theorem dX10_emit_26 : decode cX10_emit 26 = .ok (.getfield 16, 3) := by decide +kernel
theorem dX10_emit_29 : decode cX10_emit 29 = .ok (.iconst 2, 1) := by decide +kernel
theorem dX10_emit_30 : decode cX10_emit 30 = .ok (.dup2, 1) := by decide +kernel
theorem dX10_emit_31 : decode cX10_emit 31 = .ok (.iaload, 1) := by decide +kernel
theorem dX10_emit_32 : decode cX10_emit 32 = .ok (.iconst 1, 1) := by decide +kernel
theorem dX10_emit_33 : decode cX10_emit 33 = .ok (.iadd, 1) := by decide +kernel
theorem dX10_emit_34 : decode cX10_emit 34 = .ok (.iastore, 1) := by decide +kernel
theorem dX10_emit_35 : decode cX10_emit 35 = .ok (.return_, 1) := by decide +kernel
theorem dX10_tally_0 : decode cX10_tally 0 = .ok (.aload_n 0, 1) := by decide +kernel
theorem dX10_tally_1 : decode cX10_tally 1 = .ok (.getfield 146, 3) := by decide +kernel
theorem dX10_tally_4 : decode cX10_tally 4 = .ok (.sipush 2000, 3) := by decide +kernel
theorem dX10_tally_7 : decode cX10_tally 7 = .ok (.if_icmp .eq 12, 3) := by decide +kernel
theorem dX10_tally_10 : decode cX10_tally 10 = .ok (.aload_n 0, 1) := by decide +kernel
theorem dX10_tally_11 : decode cX10_tally 11 = .ok (.getfield 149, 3) := by decide +kernel
theorem dX10_tally_14 : decode cX10_tally 14 = .ok (.bipush 60, 2) := by decide +kernel
theorem dX10_tally_16 : decode cX10_tally 16 = .ok (.if_icmp .ne 10, 3) := by decide +kernel
theorem dX10_tally_19 : decode cX10_tally 19 = .ok (.aload_n 0, 1) := by decide +kernel
theorem dX10_tally_20 : decode cX10_tally 20 = .ok (.bipush 8, 2) := by decide +kernel
theorem dX10_tally_22 : decode cX10_tally 22 = .ok (.invokevirtual 152, 3) := by decide +kernel
theorem dX10_tally_25 : decode cX10_tally 25 = .ok (.ireturn, 1) := by decide +kernel
theorem dX10_tally_26 : decode cX10_tally 26 = .ok (.aload_n 0, 1) := by decide +kernel
theorem dX10_tally_27 : decode cX10_tally 27 = .ok (.dup, 1) := by decide +kernel
theorem dX10_tally_28 : decode cX10_tally 28 = .ok (.getfield 146, 3) := by decide +kernel
theorem dX10_tally_31 : decode cX10_tally 31 = .ok (.iconst 1, 1) := by decide +kernel
theorem dX10_tally_32 : decode cX10_tally 32 = .ok (.iadd, 1) := by decide +kernel
theorem dX10_tally_33 : decode cX10_tally 33 = .ok (.putfield 146, 3) := by decide +kernel
theorem dX10_tally_36 : decode cX10_tally 36 = .ok (.aload_n 0, 1) := by decide +kernel
theorem dX10_tally_37 : decode cX10_tally 37 = .ok (.dup, 1) := by decide +kernel
theorem dX10_tally_38 : decode cX10_tally 38 = .ok (.getfield 149, 3) := by decide +kernel
theorem dX10_tally_41 : decode cX10_tally 41 = .ok (.iconst 1, 1) := by decide +kernel
theorem dX10_tally_42 : decode cX10_tally 42 = .ok (.iadd, 1) := by decide +kernel
theorem dX10_tally_43 : decode cX10_tally 43 = .ok (.putfield 149, 3) := by decide +kernel
theorem dX10_tally_46 : decode cX10_tally 46 = .ok (.iconst 1, 1) := by decide +kernel
theorem dX10_tally_47 : decode cX10_tally 47 = .ok (.ireturn, 1) := by decide +kernel
theorem dX10_binds_0 : decode cX10_binds 0 = .ok (.iload_n 0, 1) := by decide +kernel
theorem dX10_binds_1 : decode cX10_binds 1 = .ok (.tableswitch 68 12 21 #[63, 63, 65, 65, 65, 61, 61, 59, 57, 55], 55) := by decide +kernel
theorem dX10_binds_56 : decode cX10_binds 56 = .ok (.iconst 1, 1) := by decide +kernel
theorem dX10_binds_57 : decode cX10_binds 57 = .ok (.ireturn, 1) := by decide +kernel
theorem dX10_binds_58 : decode cX10_binds 58 = .ok (.iconst 2, 1) := by decide +kernel
theorem dX10_binds_59 : decode cX10_binds 59 = .ok (.ireturn, 1) := by decide +kernel
theorem dX10_binds_60 : decode cX10_binds 60 = .ok (.iconst 3, 1) := by decide +kernel
theorem dX10_binds_61 : decode cX10_binds 61 = .ok (.ireturn, 1) := by decide +kernel
theorem dX10_binds_62 : decode cX10_binds 62 = .ok (.iconst 4, 1) := by decide +kernel
theorem dX10_binds_63 : decode cX10_binds 63 = .ok (.ireturn, 1) := by decide +kernel
theorem dX10_binds_64 : decode cX10_binds 64 = .ok (.iconst 5, 1) := by decide +kernel
theorem dX10_binds_65 : decode cX10_binds 65 = .ok (.ireturn, 1) := by decide +kernel
theorem dX10_binds_66 : decode cX10_binds 66 = .ok (.bipush 6, 2) := by decide +kernel
theorem dX10_binds_68 : decode cX10_binds 68 = .ok (.ireturn, 1) := by decide +kernel
theorem dX10_binds_69 : decode cX10_binds 69 = .ok (.bipush 7, 2) := by decide +kernel
theorem dX10_binds_71 : decode cX10_binds 71 = .ok (.ireturn, 1) := by decide +kernel
theorem dX10_operator_0 : decode cX10_operator 0 = .ok (.aload_n 0, 1) := by decide +kernel
theorem dX10_operator_1 : decode cX10_operator 1 = .ok (.getfield 79, 3) := by decide +kernel
theorem dX10_operator_4 : decode cX10_operator 4 = .ok (.iconst 5, 1) := by decide +kernel
theorem dX10_operator_5 : decode cX10_operator 5 = .ok (.if_icmp .eq 5, 3) := by decide +kernel
theorem dX10_operator_8 : decode cX10_operator 8 = .ok (.iconst 0, 1) := by decide +kernel
theorem dX10_operator_9 : decode cX10_operator 9 = .ok (.ireturn, 1) := by decide +kernel
theorem dX10_operator_10 : decode cX10_operator 10 = .ok (.aload_n 0, 1) := by decide +kernel
theorem dX10_operator_11 : decode cX10_operator 11 = .ok (.getfield 82, 3) := by decide +kernel
theorem dX10_operator_14 : decode cX10_operator 14 = .ok (.lookupswitch 120 #[(37, 102), (38, 111), (42, 96), (43, 90), (45, 93), (47, 99), (94, 114), (124, 117), (300, 105), (301, 108)], 90) := by decide +kernel
theorem dX10_operator_104 : decode cX10_operator 104 = .ok (.bipush 12, 2) := by decide +kernel
theorem dX10_operator_106 : decode cX10_operator 106 = .ok (.ireturn, 1) := by decide +kernel
theorem dX10_operator_107 : decode cX10_operator 107 = .ok (.bipush 13, 2) := by decide +kernel
theorem dX10_operator_109 : decode cX10_operator 109 = .ok (.ireturn, 1) := by decide +kernel
theorem dX10_operator_110 : decode cX10_operator 110 = .ok (.bipush 14, 2) := by decide +kernel
theorem dX10_operator_112 : decode cX10_operator 112 = .ok (.ireturn, 1) := by decide +kernel
theorem dX10_operator_113 : decode cX10_operator 113 = .ok (.bipush 15, 2) := by decide +kernel
theorem dX10_operator_115 : decode cX10_operator 115 = .ok (.ireturn, 1) := by decide +kernel
theorem dX10_operator_116 : decode cX10_operator 116 = .ok (.bipush 16, 2) := by decide +kernel
theorem dX10_operator_118 : decode cX10_operator 118 = .ok (.ireturn, 1) := by decide +kernel
theorem dX10_operator_119 : decode cX10_operator 119 = .ok (.bipush 17, 2) := by decide +kernel
theorem dX10_operator_121 : decode cX10_operator 121 = .ok (.ireturn, 1) := by decide +kernel
theorem dX10_operator_122 : decode cX10_operator 122 = .ok (.bipush 18, 2) := by decide +kernel
theorem dX10_operator_124 : decode cX10_operator 124 = .ok (.ireturn, 1) := by decide +kernel
theorem dX10_operator_125 : decode cX10_operator 125 = .ok (.bipush 19, 2) := by decide +kernel
theorem dX10_operator_127 : decode cX10_operator 127 = .ok (.ireturn, 1) := by decide +kernel
theorem dX10_operator_128 : decode cX10_operator 128 = .ok (.bipush 20, 2) := by decide +kernel
theorem dX10_operator_130 : decode cX10_operator 130 = .ok (.ireturn, 1) := by decide +kernel
theorem dX10_operator_131 : decode cX10_operator 131 = .ok (.bipush 21, 2) := by decide +kernel
theorem dX10_operator_133 : decode cX10_operator 133 = .ok (.ireturn, 1) := by decide +kernel
theorem dX10_operator_134 : decode cX10_operator 134 = .ok (.iconst 0, 1) := by decide +kernel
theorem dX10_operator_135 : decode cX10_operator 135 = .ok (.ireturn, 1) := by decide +kernel
theorem dX10_ahead_0 : decode cX10_ahead 0 = .ok (.aload_n 0, 1) := by decide +kernel
theorem dX10_ahead_1 : decode cX10_ahead 1 = .ok (.getfield 155, 3) := by decide +kernel
theorem dX10_ahead_4 : decode cX10_ahead 4 = .ok (.ifCond .le 72, 3) := by decide +kernel
theorem dX10_ahead_7 : decode cX10_ahead 7 = .ok (.aload_n 0, 1) := by decide +kernel
theorem dX10_ahead_8 : decode cX10_ahead 8 = .ok (.getfield 41, 3) := by decide +kernel
theorem dX10_ahead_11 : decode cX10_ahead 11 = .ok (.aload_n 0, 1) := by decide +kernel
theorem dX10_ahead_12 : decode cX10_ahead 12 = .ok (.getfield 155, 3) := by decide +kernel
theorem dX10_ahead_15 : decode cX10_ahead 15 = .ok (.iconst 1, 1) := by decide +kernel
theorem dX10_ahead_16 : decode cX10_ahead 16 = .ok (.isub, 1) := by decide +kernel
theorem dX10_ahead_17 : decode cX10_ahead 17 = .ok (.iaload, 1) := by decide +kernel
theorem dX10_ahead_18 : decode cX10_ahead 18 = .ok (.bipush 10, 2) := by decide +kernel
theorem dX10_ahead_20 : decode cX10_ahead 20 = .ok (.if_icmp .eq 19, 3) := by decide +kernel
theorem dX10_ahead_23 : decode cX10_ahead 23 = .ok (.aload_n 0, 1) := by decide +kernel
theorem dX10_ahead_24 : decode cX10_ahead 24 = .ok (.getfield 41, 3) := by decide +kernel
theorem dX10_ahead_27 : decode cX10_ahead 27 = .ok (.aload_n 0, 1) := by decide +kernel
theorem dX10_ahead_28 : decode cX10_ahead 28 = .ok (.getfield 155, 3) := by decide +kernel
theorem dX10_ahead_31 : decode cX10_ahead 31 = .ok (.iconst 1, 1) := by decide +kernel
theorem dX10_ahead_32 : decode cX10_ahead 32 = .ok (.isub, 1) := by decide +kernel
theorem dX10_ahead_33 : decode cX10_ahead 33 = .ok (.iaload, 1) := by decide +kernel
theorem dX10_ahead_34 : decode cX10_ahead 34 = .ok (.bipush 11, 2) := by decide +kernel
theorem dX10_ahead_36 : decode cX10_ahead 36 = .ok (.if_icmp .ne 40, 3) := by decide +kernel
theorem dX10_ahead_39 : decode cX10_ahead 39 = .ok (.aload_n 0, 1) := by decide +kernel
theorem dX10_ahead_40 : decode cX10_ahead 40 = .ok (.dup, 1) := by decide +kernel
theorem dX10_ahead_41 : decode cX10_ahead 41 = .ok (.getfield 155, 3) := by decide +kernel
theorem dX10_ahead_44 : decode cX10_ahead 44 = .ok (.iconst 1, 1) := by decide +kernel
theorem dX10_ahead_45 : decode cX10_ahead 45 = .ok (.isub, 1) := by decide +kernel
theorem dX10_ahead_46 : decode cX10_ahead 46 = .ok (.putfield 155, 3) := by decide +kernel
theorem dX10_ahead_49 : decode cX10_ahead 49 = .ok (.aload_n 0, 1) := by decide +kernel
theorem dX10_ahead_50 : decode cX10_ahead 50 = .ok (.aload_n 0, 1) := by decide +kernel
theorem dX10_ahead_51 : decode cX10_ahead 51 = .ok (.getfield 41, 3) := by decide +kernel
theorem dX10_ahead_54 : decode cX10_ahead 54 = .ok (.aload_n 0, 1) := by decide +kernel
theorem dX10_ahead_55 : decode cX10_ahead 55 = .ok (.getfield 155, 3) := by decide +kernel
theorem dX10_ahead_58 : decode cX10_ahead 58 = .ok (.iaload, 1) := by decide +kernel
theorem dX10_ahead_59 : decode cX10_ahead 59 = .ok (.iconst 0, 1) := by decide +kernel
theorem dX10_ahead_60 : decode cX10_ahead 60 = .ok (.invokevirtual 158, 3) := by decide +kernel
theorem dX10_ahead_63 : decode cX10_ahead 63 = .ok (.aload_n 0, 1) := by decide +kernel
theorem dX10_ahead_64 : decode cX10_ahead 64 = .ok (.dup, 1) := by decide +kernel
theorem dX10_ahead_65 : decode cX10_ahead 65 = .ok (.getfield 161, 3) := by decide +kernel
theorem dX10_ahead_68 : decode cX10_ahead 68 = .ok (.iconst 1, 1) := by decide +kernel
theorem dX10_ahead_69 : decode cX10_ahead 69 = .ok (.isub, 1) := by decide +kernel
theorem dX10_ahead_70 : decode cX10_ahead 70 = .ok (.putfield 161, 3) := by decide +kernel
theorem dX10_ahead_73 : decode cX10_ahead 73 = .ok (.goto (-73), 3) := by decide +kernel
theorem dX10_ahead_76 : decode cX10_ahead 76 = .ok (.return_, 1) := by decide +kernel
theorem dX10_reduce_0 : decode cX10_reduce 0 = .ok (.aload_n 0, 1) := by decide +kernel
theorem dX10_reduce_1 : decode cX10_reduce 1 = .ok (.getfield 155, 3) := by decide +kernel
theorem dX10_reduce_4 : decode cX10_reduce 4 = .ok (.ifCond .le 64, 3) := by decide +kernel
theorem dX10_reduce_7 : decode cX10_reduce 7 = .ok (.aload_n 0, 1) := by decide +kernel
theorem dX10_reduce_8 : decode cX10_reduce 8 = .ok (.getfield 41, 3) := by decide +kernel
theorem dX10_reduce_11 : decode cX10_reduce 11 = .ok (.aload_n 0, 1) := by decide +kernel
theorem dX10_reduce_12 : decode cX10_reduce 12 = .ok (.getfield 155, 3) := by decide +kernel
theorem dX10_reduce_15 : decode cX10_reduce 15 = .ok (.iconst 1, 1) := by decide +kernel
theorem dX10_reduce_16 : decode cX10_reduce 16 = .ok (.isub, 1) := by decide +kernel
theorem dX10_reduce_17 : decode cX10_reduce 17 = .ok (.iaload, 1) := by decide +kernel
theorem dX10_reduce_18 : decode cX10_reduce 18 = .ok (.bipush 11, 2) := by decide +kernel
theorem dX10_reduce_20 : decode cX10_reduce 20 = .ok (.if_icmp .le 48, 3) := by decide +kernel
theorem dX10_reduce_23 : decode cX10_reduce 23 = .ok (.aload_n 0, 1) := by decide +kernel
theorem dX10_reduce_24 : decode cX10_reduce 24 = .ok (.getfield 41, 3) := by decide +kernel
theorem dX10_reduce_27 : decode cX10_reduce 27 = .ok (.aload_n 0, 1) := by decide +kernel
theorem dX10_reduce_28 : decode cX10_reduce 28 = .ok (.getfield 155, 3) := by decide +kernel
theorem dX10_reduce_31 : decode cX10_reduce 31 = .ok (.iconst 1, 1) := by decide +kernel
theorem dX10_reduce_32 : decode cX10_reduce 32 = .ok (.isub, 1) := by decide +kernel
theorem dX10_reduce_33 : decode cX10_reduce 33 = .ok (.iaload, 1) := by decide +kernel
theorem dX10_reduce_34 : decode cX10_reduce 34 = .ok (.invokestatic 164, 3) := by decide +kernel
theorem dX10_reduce_37 : decode cX10_reduce 37 = .ok (.iload_n 1, 1) := by decide +kernel
theorem dX10_reduce_38 : decode cX10_reduce 38 = .ok (.if_icmp .lt 30, 3) := by decide +kernel
theorem dX10_reduce_41 : decode cX10_reduce 41 = .ok (.aload_n 0, 1) := by decide +kernel
theorem dX10_reduce_42 : decode cX10_reduce 42 = .ok (.dup, 1) := by decide +kernel
theorem dX10_reduce_43 : decode cX10_reduce 43 = .ok (.getfield 155, 3) := by decide +kernel
theorem dX10_reduce_46 : decode cX10_reduce 46 = .ok (.iconst 1, 1) := by decide +kernel
theorem dX10_reduce_47 : decode cX10_reduce 47 = .ok (.isub, 1) := by decide +kernel
theorem dX10_reduce_48 : decode cX10_reduce 48 = .ok (.putfield 155, 3) := by decide +kernel
theorem dX10_reduce_51 : decode cX10_reduce 51 = .ok (.aload_n 0, 1) := by decide +kernel
theorem dX10_reduce_52 : decode cX10_reduce 52 = .ok (.aload_n 0, 1) := by decide +kernel
theorem dX10_reduce_53 : decode cX10_reduce 53 = .ok (.getfield 41, 3) := by decide +kernel
theorem dX10_reduce_56 : decode cX10_reduce 56 = .ok (.aload_n 0, 1) := by decide +kernel
theorem dX10_reduce_57 : decode cX10_reduce 57 = .ok (.getfield 155, 3) := by decide +kernel
theorem dX10_reduce_60 : decode cX10_reduce 60 = .ok (.iaload, 1) := by decide +kernel
theorem dX10_reduce_61 : decode cX10_reduce 61 = .ok (.iconst 0, 1) := by decide +kernel
theorem dX10_reduce_62 : decode cX10_reduce 62 = .ok (.invokevirtual 158, 3) := by decide +kernel
theorem dX10_reduce_65 : decode cX10_reduce 65 = .ok (.goto (-65), 3) := by decide +kernel
theorem dX10_reduce_68 : decode cX10_reduce 68 = .ok (.return_, 1) := by decide +kernel
theorem dX10_wanted_0 : decode cX10_wanted 0 = .ok (.aload_n 0, 1) := by decide +kernel
theorem dX10_wanted_1 : decode cX10_wanted 1 = .ok (.bipush 45, 2) := by decide +kernel
theorem dX10_wanted_3 : decode cX10_wanted 3 = .ok (.invokevirtual 167, 3) := by decide +kernel
theorem dX10_wanted_6 : decode cX10_wanted 6 = .ok (.ifCond .ne 12, 3) := by decide +kernel
theorem dX10_wanted_9 : decode cX10_wanted 9 = .ok (.aload_n 0, 1) := by decide +kernel
theorem dX10_wanted_10 : decode cX10_wanted 10 = .ok (.bipush 126, 2) := by decide +kernel
theorem dX10_wanted_12 : decode cX10_wanted 12 = .ok (.invokevirtual 167, 3) := by decide +kernel
theorem dX10_wanted_15 : decode cX10_wanted 15 = .ok (.ifCond .eq 7, 3) := by decide +kernel
theorem dX10_wanted_18 : decode cX10_wanted 18 = .ok (.iconst 1, 1) := by decide +kernel
theorem dX10_wanted_19 : decode cX10_wanted 19 = .ok (.goto 4, 3) := by decide +kernel
theorem dX10_wanted_22 : decode cX10_wanted 22 = .ok (.iconst 0, 1) := by decide +kernel
theorem dX10_wanted_23 : decode cX10_wanted 23 = .ok (.istore_n 1, 1) := by decide +kernel
theorem dX10_wanted_24 : decode cX10_wanted 24 = .ok (.aload_n 0, 1) := by decide +kernel
theorem dX10_wanted_25 : decode cX10_wanted 25 = .ok (.getfield 79, 3) := by decide +kernel
theorem dX10_wanted_28 : decode cX10_wanted 28 = .ok (.iconst 2, 1) := by decide +kernel
theorem dX10_wanted_29 : decode cX10_wanted 29 = .ok (.if_icmp .eq 28, 3) := by decide +kernel
theorem dX10_wanted_32 : decode cX10_wanted 32 = .ok (.aload_n 0, 1) := by decide +kernel
theorem dX10_wanted_33 : decode cX10_wanted 33 = .ok (.getfield 79, 3) := by decide +kernel
theorem dX10_wanted_36 : decode cX10_wanted 36 = .ok (.iconst 3, 1) := by decide +kernel
theorem dX10_wanted_37 : decode cX10_wanted 37 = .ok (.if_icmp .eq 20, 3) := by decide +kernel
theorem dX10_wanted_40 : decode cX10_wanted 40 = .ok (.aload_n 0, 1) := by decide +kernel
theorem dX10_wanted_41 : decode cX10_wanted 41 = .ok (.getfield 79, 3) := by decide +kernel
theorem dX10_wanted_44 : decode cX10_wanted 44 = .ok (.bipush 7, 2) := by decide +kernel
theorem dX10_wanted_46 : decode cX10_wanted 46 = .ok (.if_icmp .eq 11, 3) := by decide +kernel
theorem dX10_wanted_49 : decode cX10_wanted 49 = .ok (.aload_n 0, 1) := by decide +kernel
theorem dX10_wanted_50 : decode cX10_wanted 50 = .ok (.getfield 79, 3) := by decide +kernel
theorem dX10_wanted_53 : decode cX10_wanted 53 = .ok (.iconst 1, 1) := by decide +kernel
theorem dX10_wanted_54 : decode cX10_wanted 54 = .ok (.if_icmp .ne 7, 3) := by decide +kernel
theorem dX10_wanted_57 : decode cX10_wanted 57 = .ok (.iconst 1, 1) := by decide +kernel
theorem dX10_wanted_58 : decode cX10_wanted 58 = .ok (.goto 4, 3) := by decide +kernel
theorem dX10_wanted_61 : decode cX10_wanted 61 = .ok (.iconst 0, 1) := by decide +kernel
theorem dX10_wanted_62 : decode cX10_wanted 62 = .ok (.istore_n 2, 1) := by decide +kernel
theorem dX10_wanted_63 : decode cX10_wanted 63 = .ok (.aload_n 0, 1) := by decide +kernel
theorem dX10_wanted_64 : decode cX10_wanted 64 = .ok (.invokevirtual 170, 3) := by decide +kernel
theorem dX10_wanted_67 : decode cX10_wanted 67 = .ok (.iconst (-1), 1) := by decide +kernel
theorem dX10_wanted_68 : decode cX10_wanted 68 = .ok (.if_icmp .eq 12, 3) := by decide +kernel
theorem dX10_wanted_71 : decode cX10_wanted 71 = .ok (.aload_n 0, 1) := by decide +kernel
theorem dX10_wanted_72 : decode cX10_wanted 72 = .ok (.bipush 6, 2) := by decide +kernel
theorem dX10_wanted_74 : decode cX10_wanted 74 = .ok (.invokevirtual 152, 3) := by decide +kernel
theorem dX10_wanted_77 : decode cX10_wanted 77 = .ok (.pop, 1) := by decide +kernel
theorem dX10_wanted_78 : decode cX10_wanted 78 = .ok (.iconst 0, 1) := by decide +kernel
theorem dX10_wanted_79 : decode cX10_wanted 79 = .ok (.ireturn, 1) := by decide +kernel
theorem dX10_wanted_80 : decode cX10_wanted 80 = .ok (.iload_n 1, 1) := by decide +kernel
theorem dX10_wanted_81 : decode cX10_wanted 81 = .ok (.ifCond .ne 24, 3) := by decide +kernel
theorem dX10_wanted_84 : decode cX10_wanted 84 = .ok (.iload_n 2, 1) := by decide +kernel
theorem dX10_wanted_85 : decode cX10_wanted 85 = .ok (.ifCond .ne 20, 3) := by decide +kernel
theorem dX10_wanted_88 : decode cX10_wanted 88 = .ok (.aload_n 0, 1) := by decide +kernel
theorem dX10_wanted_89 : decode cX10_wanted 89 = .ok (.bipush 40, 2) := by decide +kernel
theorem dX10_wanted_91 : decode cX10_wanted 91 = .ok (.invokevirtual 167, 3) := by decide +kernel
theorem dX10_wanted_94 : decode cX10_wanted 94 = .ok (.ifCond .ne 11, 3) := by decide +kernel
theorem dX10_wanted_97 : decode cX10_wanted 97 = .ok (.aload_n 0, 1) := by decide +kernel
theorem dX10_wanted_98 : decode cX10_wanted 98 = .ok (.iconst 5, 1) := by decide +kernel
theorem dX10_wanted_99 : decode cX10_wanted 99 = .ok (.invokevirtual 152, 3) := by decide +kernel
theorem dX10_wanted_102 : decode cX10_wanted 102 = .ok (.pop, 1) := by decide +kernel
theorem dX10_wanted_103 : decode cX10_wanted 103 = .ok (.iconst 0, 1) := by decide +kernel
theorem dX10_wanted_104 : decode cX10_wanted 104 = .ok (.ireturn, 1) := by decide +kernel
theorem dX10_wanted_105 : decode cX10_wanted 105 = .ok (.aload_n 0, 1) := by decide +kernel
theorem dX10_wanted_106 : decode cX10_wanted 106 = .ok (.getfield 161, 3) := by decide +kernel
theorem dX10_wanted_109 : decode cX10_wanted 109 = .ok (.bipush 20, 2) := by decide +kernel
theorem dX10_wanted_111 : decode cX10_wanted 111 = .ok (.if_icmp .le 12, 3) := by decide +kernel
theorem dX10_wanted_114 : decode cX10_wanted 114 = .ok (.aload_n 0, 1) := by decide +kernel
theorem dX10_wanted_115 : decode cX10_wanted 115 = .ok (.bipush 7, 2) := by decide +kernel
theorem dX10_wanted_117 : decode cX10_wanted 117 = .ok (.invokevirtual 152, 3) := by decide +kernel
theorem dX10_wanted_120 : decode cX10_wanted 120 = .ok (.pop, 1) := by decide +kernel
theorem dX10_wanted_121 : decode cX10_wanted 121 = .ok (.iconst 0, 1) := by decide +kernel
theorem dX10_wanted_122 : decode cX10_wanted 122 = .ok (.ireturn, 1) := by decide +kernel
theorem dX10_wanted_123 : decode cX10_wanted 123 = .ok (.aload_n 0, 1) := by decide +kernel
theorem dX10_wanted_124 : decode cX10_wanted 124 = .ok (.bipush 40, 2) := by decide +kernel
theorem dX10_wanted_126 : decode cX10_wanted 126 = .ok (.invokevirtual 167, 3) := by decide +kernel
theorem dX10_wanted_129 : decode cX10_wanted 129 = .ok (.ifCond .eq 49, 3) := by decide +kernel
theorem dX10_wanted_132 : decode cX10_wanted 132 = .ok (.aload_n 0, 1) := by decide +kernel
theorem dX10_wanted_133 : decode cX10_wanted 133 = .ok (.getfield 41, 3) := by decide +kernel
theorem dX10_wanted_136 : decode cX10_wanted 136 = .ok (.aload_n 0, 1) := by decide +kernel
theorem dX10_wanted_137 : decode cX10_wanted 137 = .ok (.getfield 155, 3) := by decide +kernel
theorem dX10_wanted_140 : decode cX10_wanted 140 = .ok (.iconst 1, 1) := by decide +kernel
theorem dX10_wanted_141 : decode cX10_wanted 141 = .ok (.iastore, 1) := by decide +kernel
theorem dX10_wanted_142 : decode cX10_wanted 142 = .ok (.aload_n 0, 1) := by decide +kernel
theorem dX10_wanted_143 : decode cX10_wanted 143 = .ok (.dup, 1) := by decide +kernel
theorem dX10_wanted_144 : decode cX10_wanted 144 = .ok (.getfield 155, 3) := by decide +kernel
theorem dX10_wanted_147 : decode cX10_wanted 147 = .ok (.iconst 1, 1) := by decide +kernel
theorem dX10_wanted_148 : decode cX10_wanted 148 = .ok (.iadd, 1) := by decide +kernel
theorem dX10_wanted_149 : decode cX10_wanted 149 = .ok (.putfield 155, 3) := by decide +kernel
theorem dX10_wanted_152 : decode cX10_wanted 152 = .ok (.aload_n 0, 1) := by decide +kernel
theorem dX10_wanted_153 : decode cX10_wanted 153 = .ok (.dup, 1) := by decide +kernel
theorem dX10_wanted_154 : decode cX10_wanted 154 = .ok (.getfield 174, 3) := by decide +kernel
theorem dX10_wanted_157 : decode cX10_wanted 157 = .ok (.iconst 1, 1) := by decide +kernel
theorem dX10_wanted_158 : decode cX10_wanted 158 = .ok (.iadd, 1) := by decide +kernel
theorem dX10_wanted_159 : decode cX10_wanted 159 = .ok (.putfield 174, 3) := by decide +kernel
theorem dX10_wanted_162 : decode cX10_wanted 162 = .ok (.aload_n 0, 1) := by decide +kernel
theorem dX10_wanted_163 : decode cX10_wanted 163 = .ok (.dup, 1) := by decide +kernel
theorem dX10_wanted_164 : decode cX10_wanted 164 = .ok (.getfield 161, 3) := by decide +kernel
theorem dX10_wanted_167 : decode cX10_wanted 167 = .ok (.iconst 1, 1) := by decide +kernel
theorem dX10_wanted_168 : decode cX10_wanted 168 = .ok (.iadd, 1) := by decide +kernel
theorem dX10_wanted_169 : decode cX10_wanted 169 = .ok (.putfield 161, 3) := by decide +kernel
theorem dX10_wanted_172 : decode cX10_wanted 172 = .ok (.aload_n 0, 1) := by decide +kernel
theorem dX10_wanted_173 : decode cX10_wanted 173 = .ok (.invokevirtual 177, 3) := by decide +kernel
theorem dX10_wanted_176 : decode cX10_wanted 176 = .ok (.iconst 2, 1) := by decide +kernel
theorem dX10_wanted_177 : decode cX10_wanted 177 = .ok (.ireturn, 1) := by decide +kernel
theorem dX10_wanted_178 : decode cX10_wanted 178 = .ok (.aload_n 0, 1) := by decide +kernel
theorem dX10_wanted_179 : decode cX10_wanted 179 = .ok (.invokevirtual 180, 3) := by decide +kernel
theorem dX10_wanted_182 : decode cX10_wanted 182 = .ok (.ifCond .ne 5, 3) := by decide +kernel
theorem dX10_wanted_185 : decode cX10_wanted 185 = .ok (.iconst 0, 1) := by decide +kernel
theorem dX10_wanted_186 : decode cX10_wanted 186 = .ok (.ireturn, 1) := by decide +kernel
theorem dX10_wanted_187 : decode cX10_wanted 187 = .ok (.iload_n 1, 1) := by decide +kernel
theorem dX10_wanted_188 : decode cX10_wanted 188 = .ok (.ifCond .eq 54, 3) := by decide +kernel
theorem dX10_wanted_191 : decode cX10_wanted 191 = .ok (.aload_n 0, 1) := by decide +kernel
theorem dX10_wanted_192 : decode cX10_wanted 192 = .ok (.getfield 41, 3) := by decide +kernel
theorem dX10_wanted_195 : decode cX10_wanted 195 = .ok (.aload_n 0, 1) := by decide +kernel
theorem dX10_wanted_196 : decode cX10_wanted 196 = .ok (.getfield 155, 3) := by decide +kernel
theorem dX10_wanted_199 : decode cX10_wanted 199 = .ok (.aload_n 0, 1) := by decide +kernel
theorem dX10_wanted_200 : decode cX10_wanted 200 = .ok (.getfield 82, 3) := by decide +kernel
theorem dX10_wanted_203 : decode cX10_wanted 203 = .ok (.bipush 45, 2) := by decide +kernel
theorem dX10_wanted_205 : decode cX10_wanted 205 = .ok (.if_icmp .ne 8, 3) := by decide +kernel
theorem dX10_wanted_208 : decode cX10_wanted 208 = .ok (.bipush 10, 2) := by decide +kernel
theorem dX10_wanted_210 : decode cX10_wanted 210 = .ok (.goto 5, 3) := by decide +kernel
theorem dX10_wanted_213 : decode cX10_wanted 213 = .ok (.bipush 11, 2) := by decide +kernel
theorem dX10_wanted_215 : decode cX10_wanted 215 = .ok (.iastore, 1) := by decide +kernel
theorem dX10_wanted_216 : decode cX10_wanted 216 = .ok (.aload_n 0, 1) := by decide +kernel
theorem dX10_wanted_217 : decode cX10_wanted 217 = .ok (.dup, 1) := by decide +kernel
theorem dX10_wanted_218 : decode cX10_wanted 218 = .ok (.getfield 155, 3) := by decide +kernel
theorem dX10_wanted_221 : decode cX10_wanted 221 = .ok (.iconst 1, 1) := by decide +kernel
theorem dX10_wanted_222 : decode cX10_wanted 222 = .ok (.iadd, 1) := by decide +kernel
theorem dX10_wanted_223 : decode cX10_wanted 223 = .ok (.putfield 155, 3) := by decide +kernel
theorem dX10_wanted_226 : decode cX10_wanted 226 = .ok (.aload_n 0, 1) := by decide +kernel
theorem dX10_wanted_227 : decode cX10_wanted 227 = .ok (.dup, 1) := by decide +kernel
theorem dX10_wanted_228 : decode cX10_wanted 228 = .ok (.getfield 161, 3) := by decide +kernel
theorem dX10_wanted_231 : decode cX10_wanted 231 = .ok (.iconst 1, 1) := by decide +kernel
theorem dX10_wanted_232 : decode cX10_wanted 232 = .ok (.iadd, 1) := by decide +kernel
theorem dX10_wanted_233 : decode cX10_wanted 233 = .ok (.putfield 161, 3) := by decide +kernel
theorem dX10_wanted_236 : decode cX10_wanted 236 = .ok (.aload_n 0, 1) := by decide +kernel
theorem dX10_wanted_237 : decode cX10_wanted 237 = .ok (.invokevirtual 177, 3) := by decide +kernel
theorem dX10_wanted_240 : decode cX10_wanted 240 = .ok (.iconst 2, 1) := by decide +kernel
theorem dX10_wanted_241 : decode cX10_wanted 241 = .ok (.ireturn, 1) := by decide +kernel
theorem dX10_wanted_242 : decode cX10_wanted 242 = .ok (.aload_n 0, 1) := by decide +kernel
theorem dX10_wanted_243 : decode cX10_wanted 243 = .ok (.getfield 79, 3) := by decide +kernel
theorem dX10_wanted_246 : decode cX10_wanted 246 = .ok (.iconst 1, 1) := by decide +kernel
theorem dX10_wanted_247 : decode cX10_wanted 247 = .ok (.if_icmp .ne 10, 3) := by decide +kernel
theorem dX10_wanted_250 : decode cX10_wanted 250 = .ok (.aload_n 0, 1) := by decide +kernel
theorem dX10_wanted_251 : decode cX10_wanted 251 = .ok (.invokevirtual 184, 3) := by decide +kernel
theorem dX10_wanted_254 : decode cX10_wanted 254 = .ok (.goto 20, 3) := by decide +kernel
theorem dX10_wanted_257 : decode cX10_wanted 257 = .ok (.aload_n 0, 1) := by decide +kernel
theorem dX10_wanted_258 : decode cX10_wanted 258 = .ok (.getfield 79, 3) := by decide +kernel
theorem dX10_wanted_261 : decode cX10_wanted 261 = .ok (.bipush 7, 2) := by decide +kernel
theorem dX10_wanted_263 : decode cX10_wanted 263 = .ok (.if_icmp .ne 7, 3) := by decide +kernel
theorem dX10_wanted_266 : decode cX10_wanted 266 = .ok (.iconst 0, 1) := by decide +kernel
theorem dX10_wanted_267 : decode cX10_wanted 267 = .ok (.goto 7, 3) := by decide +kernel
theorem dX10_wanted_270 : decode cX10_wanted 270 = .ok (.aload_n 0, 1) := by decide +kernel
theorem dX10_wanted_271 : decode cX10_wanted 271 = .ok (.getfield 82, 3) := by decide +kernel
theorem dX10_wanted_274 : decode cX10_wanted 274 = .ok (.istore_n 3, 1) := by decide +kernel
theorem dX10_wanted_275 : decode cX10_wanted 275 = .ok (.aload_n 0, 1) := by decide +kernel
theorem dX10_wanted_276 : decode cX10_wanted 276 = .ok (.getfield 79, 3) := by decide +kernel
theorem dX10_wanted_279 : decode cX10_wanted 279 = .ok (.iconst 1, 1) := by decide +kernel
theorem dX10_wanted_280 : decode cX10_wanted 280 = .ok (.if_icmp .ne 17, 3) := by decide +kernel
theorem dX10_wanted_283 : decode cX10_wanted 283 = .ok (.iload_n 3, 1) := by decide +kernel
theorem dX10_wanted_284 : decode cX10_wanted 284 = .ok (.iconst (-1), 1) := by decide +kernel
theorem dX10_wanted_285 : decode cX10_wanted 285 = .ok (.if_icmp .ne 12, 3) := by decide +kernel
theorem dX10_wanted_288 : decode cX10_wanted 288 = .ok (.aload_n 0, 1) := by decide +kernel
theorem dX10_wanted_289 : decode cX10_wanted 289 = .ok (.bipush 8, 2) := by decide +kernel
theorem dX10_wanted_291 : decode cX10_wanted 291 = .ok (.invokevirtual 152, 3) := by decide +kernel
theorem dX10_wanted_294 : decode cX10_wanted 294 = .ok (.pop, 1) := by decide +kernel
theorem dX10_wanted_295 : decode cX10_wanted 295 = .ok (.iconst 0, 1) := by decide +kernel
theorem dX10_wanted_296 : decode cX10_wanted 296 = .ok (.ireturn, 1) := by decide +kernel
theorem dX10_wanted_297 : decode cX10_wanted 297 = .ok (.aload_n 0, 1) := by decide +kernel
theorem dX10_wanted_298 : decode cX10_wanted 298 = .ok (.aload_n 0, 1) := by decide +kernel
theorem dX10_wanted_299 : decode cX10_wanted 299 = .ok (.getfield 79, 3) := by decide +kernel
theorem dX10_wanted_302 : decode cX10_wanted 302 = .ok (.iconst 2, 1) := by decide +kernel
theorem dX10_wanted_303 : decode cX10_wanted 303 = .ok (.if_icmp .ne 7, 3) := by decide +kernel
theorem dX10_wanted_306 : decode cX10_wanted 306 = .ok (.iconst 0, 1) := by decide +kernel
theorem dX10_wanted_307 : decode cX10_wanted 307 = .ok (.goto 28, 3) := by decide +kernel
theorem dX10_wanted_310 : decode cX10_wanted 310 = .ok (.aload_n 0, 1) := by decide +kernel
theorem dX10_wanted_311 : decode cX10_wanted 311 = .ok (.getfield 79, 3) := by decide +kernel
theorem dX10_wanted_314 : decode cX10_wanted 314 = .ok (.iconst 1, 1) := by decide +kernel
theorem dX10_wanted_315 : decode cX10_wanted 315 = .ok (.if_icmp .ne 7, 3) := by decide +kernel
theorem dX10_wanted_318 : decode cX10_wanted 318 = .ok (.iconst 1, 1) := by decide +kernel
theorem dX10_wanted_319 : decode cX10_wanted 319 = .ok (.goto 16, 3) := by decide +kernel
theorem dX10_wanted_322 : decode cX10_wanted 322 = .ok (.aload_n 0, 1) := by decide +kernel
theorem dX10_wanted_323 : decode cX10_wanted 323 = .ok (.getfield 79, 3) := by decide +kernel
theorem dX10_wanted_326 : decode cX10_wanted 326 = .ok (.iconst 3, 1) := by decide +kernel
theorem dX10_wanted_327 : decode cX10_wanted 327 = .ok (.if_icmp .ne 7, 3) := by decide +kernel
theorem dX10_wanted_330 : decode cX10_wanted 330 = .ok (.iconst 2, 1) := by decide +kernel
theorem dX10_wanted_331 : decode cX10_wanted 331 = .ok (.goto 4, 3) := by decide +kernel
theorem dX10_wanted_334 : decode cX10_wanted 334 = .ok (.iconst 3, 1) := by decide +kernel
theorem dX10_wanted_335 : decode cX10_wanted 335 = .ok (.iload_n 3, 1) := by decide +kernel
theorem dX10_wanted_336 : decode cX10_wanted 336 = .ok (.invokevirtual 158, 3) := by decide +kernel
theorem dX10_wanted_339 : decode cX10_wanted 339 = .ok (.aload_n 0, 1) := by decide +kernel
theorem dX10_wanted_340 : decode cX10_wanted 340 = .ok (.invokevirtual 187, 3) := by decide +kernel
theorem dX10_wanted_343 : decode cX10_wanted 343 = .ok (.aload_n 0, 1) := by decide +kernel
theorem dX10_wanted_344 : decode cX10_wanted 344 = .ok (.invokevirtual 177, 3) := by decide +kernel
theorem dX10_wanted_347 : decode cX10_wanted 347 = .ok (.iconst 1, 1) := by decide +kernel
theorem dX10_wanted_348 : decode cX10_wanted 348 = .ok (.ireturn, 1) := by decide +kernel
theorem dX10_expression_0 : decode cX10_expression 0 = .ok (.aload_n 0, 1) := by decide +kernel
theorem dX10_expression_1 : decode cX10_expression 1 = .ok (.iconst 0, 1) := by decide +kernel
theorem dX10_expression_2 : decode cX10_expression 2 = .ok (.putfield 155, 3) := by decide +kernel
theorem dX10_expression_5 : decode cX10_expression 5 = .ok (.aload_n 0, 1) := by decide +kernel
theorem dX10_expression_6 : decode cX10_expression 6 = .ok (.iconst 0, 1) := by decide +kernel
theorem dX10_expression_7 : decode cX10_expression 7 = .ok (.putfield 174, 3) := by decide +kernel
theorem dX10_expression_10 : decode cX10_expression 10 = .ok (.aload_n 0, 1) := by decide +kernel
theorem dX10_expression_11 : decode cX10_expression 11 = .ok (.iconst 1, 1) := by decide +kernel
theorem dX10_expression_12 : decode cX10_expression 12 = .ok (.putfield 161, 3) := by decide +kernel
theorem dX10_expression_15 : decode cX10_expression 15 = .ok (.iconst 1, 1) := by decide +kernel
theorem dX10_expression_16 : decode cX10_expression 16 = .ok (.istore_n 1, 1) := by decide +kernel
theorem dX10_expression_17 : decode cX10_expression 17 = .ok (.iconst 1, 1) := by decide +kernel
theorem dX10_expression_18 : decode cX10_expression 18 = .ok (.istore_n 2, 1) := by decide +kernel
theorem dX10_expression_19 : decode cX10_expression 19 = .ok (.iload_n 2, 1) := by decide +kernel
theorem dX10_expression_20 : decode cX10_expression 20 = .ok (.ifCond .eq 176, 3) := by decide +kernel
theorem dX10_expression_23 : decode cX10_expression 23 = .ok (.iload_n 1, 1) := by decide +kernel
theorem dX10_expression_24 : decode cX10_expression 24 = .ok (.ifCond .eq 28, 3) := by decide +kernel
theorem dX10_expression_27 : decode cX10_expression 27 = .ok (.aload_n 0, 1) := by decide +kernel
theorem dX10_expression_28 : decode cX10_expression 28 = .ok (.invokevirtual 190, 3) := by decide +kernel
theorem dX10_expression_31 : decode cX10_expression 31 = .ok (.istore_n 3, 1) := by decide +kernel
theorem dX10_expression_32 : decode cX10_expression 32 = .ok (.iload_n 3, 1) := by decide +kernel
theorem dX10_expression_33 : decode cX10_expression 33 = .ok (.ifCond .ne 5, 3) := by decide +kernel
theorem dX10_expression_36 : decode cX10_expression 36 = .ok (.iconst 0, 1) := by decide +kernel
theorem dX10_expression_37 : decode cX10_expression 37 = .ok (.ireturn, 1) := by decide +kernel
theorem dX10_expression_38 : decode cX10_expression 38 = .ok (.iload_n 3, 1) := by decide +kernel
theorem dX10_expression_39 : decode cX10_expression 39 = .ok (.iconst 2, 1) := by decide +kernel
theorem dX10_expression_40 : decode cX10_expression 40 = .ok (.if_icmp .ne 7, 3) := by decide +kernel
theorem dX10_expression_43 : decode cX10_expression 43 = .ok (.iconst 1, 1) := by decide +kernel
theorem dX10_expression_44 : decode cX10_expression 44 = .ok (.goto 4, 3) := by decide +kernel
theorem dX10_expression_47 : decode cX10_expression 47 = .ok (.iconst 0, 1) := by decide +kernel
theorem dX10_expression_48 : decode cX10_expression 48 = .ok (.istore_n 1, 1) := by decide +kernel
theorem dX10_expression_49 : decode cX10_expression 49 = .ok (.goto (-30), 3) := by decide +kernel
theorem dX10_expression_52 : decode cX10_expression 52 = .ok (.aload_n 0, 1) := by decide +kernel
theorem dX10_expression_53 : decode cX10_expression 53 = .ok (.invokevirtual 193, 3) := by decide +kernel
theorem dX10_expression_56 : decode cX10_expression 56 = .ok (.istore_n 3, 1) := by decide +kernel
theorem dX10_expression_57 : decode cX10_expression 57 = .ok (.iload_n 3, 1) := by decide +kernel
theorem dX10_expression_58 : decode cX10_expression 58 = .ok (.ifCond .le 49, 3) := by decide +kernel
theorem dX10_expression_61 : decode cX10_expression 61 = .ok (.aload_n 0, 1) := by decide +kernel
theorem dX10_expression_62 : decode cX10_expression 62 = .ok (.iload_n 3, 1) := by decide +kernel
theorem dX10_expression_63 : decode cX10_expression 63 = .ok (.invokestatic 164, 3) := by decide +kernel
theorem dX10_expression_66 : decode cX10_expression 66 = .ok (.invokevirtual 196, 3) := by decide +kernel
theorem dX10_expression_69 : decode cX10_expression 69 = .ok (.aload_n 0, 1) := by decide +kernel
theorem dX10_expression_70 : decode cX10_expression 70 = .ok (.invokevirtual 180, 3) := by decide +kernel
theorem dX10_expression_73 : decode cX10_expression 73 = .ok (.ifCond .ne 5, 3) := by decide +kernel
theorem dX10_expression_76 : decode cX10_expression 76 = .ok (.iconst 0, 1) := by decide +kernel
theorem dX10_expression_77 : decode cX10_expression 77 = .ok (.ireturn, 1) := by decide +kernel
theorem dX10_expression_78 : decode cX10_expression 78 = .ok (.aload_n 0, 1) := by decide +kernel
theorem dX10_expression_79 : decode cX10_expression 79 = .ok (.getfield 41, 3) := by decide +kernel
theorem dX10_expression_82 : decode cX10_expression 82 = .ok (.aload_n 0, 1) := by decide +kernel
theorem dX10_expression_83 : decode cX10_expression 83 = .ok (.getfield 155, 3) := by decide +kernel
theorem dX10_expression_86 : decode cX10_expression 86 = .ok (.iload_n 3, 1) := by decide +kernel
theorem dX10_expression_87 : decode cX10_expression 87 = .ok (.iastore, 1) := by decide +kernel
theorem dX10_expression_88 : decode cX10_expression 88 = .ok (.aload_n 0, 1) := by decide +kernel
theorem dX10_expression_89 : decode cX10_expression 89 = .ok (.dup, 1) := by decide +kernel
theorem dX10_expression_90 : decode cX10_expression 90 = .ok (.getfield 155, 3) := by decide +kernel
theorem dX10_expression_93 : decode cX10_expression 93 = .ok (.iconst 1, 1) := by decide +kernel
theorem dX10_expression_94 : decode cX10_expression 94 = .ok (.iadd, 1) := by decide +kernel
theorem dX10_expression_95 : decode cX10_expression 95 = .ok (.putfield 155, 3) := by decide +kernel
theorem dX10_expression_98 : decode cX10_expression 98 = .ok (.aload_n 0, 1) := by decide +kernel
theorem dX10_expression_99 : decode cX10_expression 99 = .ok (.invokevirtual 177, 3) := by decide +kernel
theorem dX10_expression_102 : decode cX10_expression 102 = .ok (.iconst 1, 1) := by decide +kernel
theorem dX10_expression_103 : decode cX10_expression 103 = .ok (.istore_n 1, 1) := by decide +kernel
theorem dX10_expression_104 : decode cX10_expression 104 = .ok (.goto 89, 3) := by decide +kernel
theorem dX10_expression_107 : decode cX10_expression 107 = .ok (.aload_n 0, 1) := by decide +kernel
theorem dX10_expression_108 : decode cX10_expression 108 = .ok (.bipush 41, 2) := by decide +kernel
theorem dX10_expression_110 : decode cX10_expression 110 = .ok (.invokevirtual 167, 3) := by decide +kernel
theorem dX10_expression_113 : decode cX10_expression 113 = .ok (.ifCond .eq 56, 3) := by decide +kernel
theorem dX10_expression_116 : decode cX10_expression 116 = .ok (.aload_n 0, 1) := by decide +kernel
theorem dX10_expression_117 : decode cX10_expression 117 = .ok (.getfield 174, 3) := by decide +kernel
theorem dX10_expression_120 : decode cX10_expression 120 = .ok (.ifCond .le 49, 3) := by decide +kernel
theorem dX10_expression_123 : decode cX10_expression 123 = .ok (.aload_n 0, 1) := by decide +kernel
theorem dX10_expression_124 : decode cX10_expression 124 = .ok (.iconst 0, 1) := by decide +kernel
theorem dX10_expression_125 : decode cX10_expression 125 = .ok (.invokevirtual 196, 3) := by decide +kernel
theorem dX10_expression_128 : decode cX10_expression 128 = .ok (.aload_n 0, 1) := by decide +kernel
theorem dX10_expression_129 : decode cX10_expression 129 = .ok (.dup, 1) := by decide +kernel
theorem dX10_expression_130 : decode cX10_expression 130 = .ok (.getfield 155, 3) := by decide +kernel
theorem dX10_expression_133 : decode cX10_expression 133 = .ok (.iconst 1, 1) := by decide +kernel
theorem dX10_expression_134 : decode cX10_expression 134 = .ok (.isub, 1) := by decide +kernel
theorem dX10_expression_135 : decode cX10_expression 135 = .ok (.putfield 155, 3) := by decide +kernel
theorem dX10_expression_138 : decode cX10_expression 138 = .ok (.aload_n 0, 1) := by decide +kernel
theorem dX10_expression_139 : decode cX10_expression 139 = .ok (.dup, 1) := by decide +kernel
theorem dX10_expression_140 : decode cX10_expression 140 = .ok (.getfield 174, 3) := by decide +kernel
theorem dX10_expression_143 : decode cX10_expression 143 = .ok (.iconst 1, 1) := by decide +kernel
theorem dX10_expression_144 : decode cX10_expression 144 = .ok (.isub, 1) := by decide +kernel
theorem dX10_expression_145 : decode cX10_expression 145 = .ok (.putfield 174, 3) := by decide +kernel
theorem dX10_expression_148 : decode cX10_expression 148 = .ok (.aload_n 0, 1) := by decide +kernel
theorem dX10_expression_149 : decode cX10_expression 149 = .ok (.dup, 1) := by decide +kernel
theorem dX10_expression_150 : decode cX10_expression 150 = .ok (.getfield 161, 3) := by decide +kernel
theorem dX10_expression_153 : decode cX10_expression 153 = .ok (.iconst 1, 1) := by decide +kernel
theorem dX10_expression_154 : decode cX10_expression 154 = .ok (.isub, 1) := by decide +kernel
theorem dX10_expression_155 : decode cX10_expression 155 = .ok (.putfield 161, 3) := by decide +kernel
theorem dX10_expression_158 : decode cX10_expression 158 = .ok (.aload_n 0, 1) := by decide +kernel
theorem dX10_expression_159 : decode cX10_expression 159 = .ok (.invokevirtual 187, 3) := by decide +kernel
theorem dX10_expression_162 : decode cX10_expression 162 = .ok (.aload_n 0, 1) := by decide +kernel
theorem dX10_expression_163 : decode cX10_expression 163 = .ok (.invokevirtual 177, 3) := by decide +kernel
theorem dX10_expression_166 : decode cX10_expression 166 = .ok (.goto 27, 3) := by decide +kernel
theorem dX10_expression_169 : decode cX10_expression 169 = .ok (.aload_n 0, 1) := by decide +kernel
theorem dX10_expression_170 : decode cX10_expression 170 = .ok (.getfield 174, 3) := by decide +kernel
theorem dX10_expression_173 : decode cX10_expression 173 = .ok (.ifCond .gt 12, 3) := by decide +kernel
theorem dX10_expression_176 : decode cX10_expression 176 = .ok (.aload_n 0, 1) := by decide +kernel
theorem dX10_expression_177 : decode cX10_expression 177 = .ok (.getfield 79, 3) := by decide +kernel
theorem dX10_expression_180 : decode cX10_expression 180 = .ok (.bipush 6, 2) := by decide +kernel
theorem dX10_expression_182 : decode cX10_expression 182 = .ok (.if_icmp .ne 9, 3) := by decide +kernel
theorem dX10_expression_185 : decode cX10_expression 185 = .ok (.aload_n 0, 1) := by decide +kernel
theorem dX10_expression_186 : decode cX10_expression 186 = .ok (.iconst 5, 1) := by decide +kernel
theorem dX10_expression_187 : decode cX10_expression 187 = .ok (.invokevirtual 152, 3) := by decide +kernel
theorem dX10_expression_190 : decode cX10_expression 190 = .ok (.ireturn, 1) := by decide +kernel
theorem dX10_expression_191 : decode cX10_expression 191 = .ok (.iconst 0, 1) := by decide +kernel
theorem dX10_expression_192 : decode cX10_expression 192 = .ok (.istore_n 2, 1) := by decide +kernel
theorem dX10_expression_193 : decode cX10_expression 193 = .ok (.goto (-174), 3) := by decide +kernel
theorem dX10_expression_196 : decode cX10_expression 196 = .ok (.aload_n 0, 1) := by decide +kernel
theorem dX10_expression_197 : decode cX10_expression 197 = .ok (.iconst 0, 1) := by decide +kernel
theorem dX10_expression_198 : decode cX10_expression 198 = .ok (.invokevirtual 196, 3) := by decide +kernel
theorem dX10_expression_201 : decode cX10_expression 201 = .ok (.iconst 1, 1) := by decide +kernel
theorem dX10_expression_202 : decode cX10_expression 202 = .ok (.ireturn, 1) := by decide +kernel
theorem dX10_closes_0 : decode cX10_closes 0 = .ok (.aload_n 0, 1) := by decide +kernel
theorem dX10_closes_1 : decode cX10_closes 1 = .ok (.bipush 41, 2) := by decide +kernel
theorem dX10_closes_3 : decode cX10_closes 3 = .ok (.invokevirtual 167, 3) := by decide +kernel
theorem dX10_closes_6 : decode cX10_closes 6 = .ok (.ifCond .ne 9, 3) := by decide +kernel
theorem dX10_closes_9 : decode cX10_closes 9 = .ok (.aload_n 0, 1) := by decide +kernel
theorem dX10_closes_10 : decode cX10_closes 10 = .ok (.iconst 5, 1) := by decide +kernel
theorem dX10_closes_11 : decode cX10_closes 11 = .ok (.invokevirtual 152, 3) := by decide +kernel
theorem dX10_closes_14 : decode cX10_closes 14 = .ok (.ireturn, 1) := by decide +kernel
theorem dX10_closes_15 : decode cX10_closes 15 = .ok (.aload_n 0, 1) := by decide +kernel
theorem dX10_closes_16 : decode cX10_closes 16 = .ok (.invokevirtual 177, 3) := by decide +kernel
theorem dX10_closes_19 : decode cX10_closes 19 = .ok (.iconst 1, 1) := by decide +kernel
theorem dX10_closes_20 : decode cX10_closes 20 = .ok (.ireturn, 1) := by decide +kernel
theorem dX10_based_0 : decode cX10_based 0 = .ok (.aload_n 0, 1) := by decide +kernel
theorem dX10_based_1 : decode cX10_based 1 = .ok (.invokevirtual 177, 3) := by decide +kernel
theorem dX10_based_4 : decode cX10_based 4 = .ok (.aload_n 0, 1) := by decide +kernel
theorem dX10_based_5 : decode cX10_based 5 = .ok (.invokevirtual 170, 3) := by decide +kernel
theorem dX10_based_8 : decode cX10_based 8 = .ok (.istore_n 2, 1) := by decide +kernel
theorem dX10_based_9 : decode cX10_based 9 = .ok (.iload_n 2, 1) := by decide +kernel
theorem dX10_based_10 : decode cX10_based 10 = .ok (.iconst (-1), 1) := by decide +kernel
theorem dX10_based_11 : decode cX10_based 11 = .ok (.if_icmp .ne 9, 3) := by decide +kernel
theorem dX10_based_14 : decode cX10_based 14 = .ok (.aload_n 0, 1) := by decide +kernel
theorem dX10_based_15 : decode cX10_based 15 = .ok (.iconst 5, 1) := by decide +kernel
theorem dX10_based_16 : decode cX10_based 16 = .ok (.invokevirtual 152, 3) := by decide +kernel
theorem dX10_based_19 : decode cX10_based 19 = .ok (.ireturn, 1) := by decide +kernel
theorem dX10_based_20 : decode cX10_based 20 = .ok (.aload_n 0, 1) := by decide +kernel
theorem dX10_based_21 : decode cX10_based 21 = .ok (.getfield 22, 3) := by decide +kernel
theorem dX10_based_24 : decode cX10_based 24 = .ok (.iload_n 1, 1) := by decide +kernel
theorem dX10_based_25 : decode cX10_based 25 = .ok (.iconst 2, 1) := by decide +kernel
theorem dX10_based_26 : decode cX10_based 26 = .ok (.iastore, 1) := by decide +kernel
theorem dX10_based_27 : decode cX10_based 27 = .ok (.aload_n 0, 1) := by decide +kernel
theorem dX10_based_28 : decode cX10_based 28 = .ok (.getfield 22, 3) := by decide +kernel
theorem dX10_based_31 : decode cX10_based 31 = .ok (.iload_n 1, 1) := by decide +kernel
theorem dX10_based_32 : decode cX10_based 32 = .ok (.iconst 1, 1) := by decide +kernel
theorem dX10_based_33 : decode cX10_based 33 = .ok (.iadd, 1) := by decide +kernel
theorem dX10_based_34 : decode cX10_based 34 = .ok (.iload_n 2, 1) := by decide +kernel
theorem dX10_based_35 : decode cX10_based 35 = .ok (.iastore, 1) := by decide +kernel
theorem dX10_based_36 : decode cX10_based 36 = .ok (.aload_n 0, 1) := by decide +kernel
theorem dX10_based_37 : decode cX10_based 37 = .ok (.invokevirtual 177, 3) := by decide +kernel
theorem dX10_based_40 : decode cX10_based 40 = .ok (.aload_n 0, 1) := by decide +kernel
theorem dX10_based_41 : decode cX10_based 41 = .ok (.invokevirtual 199, 3) := by decide +kernel
theorem dX10_based_44 : decode cX10_based 44 = .ok (.ireturn, 1) := by decide +kernel
theorem dX10_isBase_0 : decode cX10_isBase 0 = .ok (.aload_n 0, 1) := by decide +kernel
theorem dX10_isBase_1 : decode cX10_isBase 1 = .ok (.bipush 40, 2) := by decide +kernel
theorem dX10_isBase_3 : decode cX10_isBase 3 = .ok (.invokevirtual 167, 3) := by decide +kernel
theorem dX10_isBase_6 : decode cX10_isBase 6 = .ok (.ifCond .ne 5, 3) := by decide +kernel
theorem dX10_isBase_9 : decode cX10_isBase 9 = .ok (.iconst 0, 1) := by decide +kernel
theorem dX10_isBase_10 : decode cX10_isBase 10 = .ok (.ireturn, 1) := by decide +kernel
theorem dX10_isBase_11 : decode cX10_isBase 11 = .ok (.aload_n 0, 1) := by decide +kernel
theorem dX10_isBase_12 : decode cX10_isBase 12 = .ok (.getfield 79, 3) := by decide +kernel
theorem dX10_isBase_15 : decode cX10_isBase 15 = .ok (.istore_n 1, 1) := by decide +kernel
theorem dX10_isBase_16 : decode cX10_isBase 16 = .ok (.aload_n 0, 1) := by decide +kernel
theorem dX10_isBase_17 : decode cX10_isBase 17 = .ok (.getfield 82, 3) := by decide +kernel
theorem dX10_isBase_20 : decode cX10_isBase 20 = .ok (.istore_n 2, 1) := by decide +kernel
theorem dX10_isBase_21 : decode cX10_isBase 21 = .ok (.aload_n 0, 1) := by decide +kernel
theorem dX10_isBase_22 : decode cX10_isBase 22 = .ok (.getfield 85, 3) := by decide +kernel
theorem dX10_isBase_25 : decode cX10_isBase 25 = .ok (.istore_n 3, 1) := by decide +kernel
theorem dX10_isBase_26 : decode cX10_isBase 26 = .ok (.aload_n 0, 1) := by decide +kernel
theorem dX10_isBase_27 : decode cX10_isBase 27 = .ok (.getfield 88, 3) := by decide +kernel
theorem dX10_isBase_30 : decode cX10_isBase 30 = .ok (.istore 4, 2) := by decide +kernel
theorem dX10_isBase_32 : decode cX10_isBase 32 = .ok (.aload_n 0, 1) := by decide +kernel
theorem dX10_isBase_33 : decode cX10_isBase 33 = .ok (.invokevirtual 177, 3) := by decide +kernel
theorem dX10_isBase_36 : decode cX10_isBase 36 = .ok (.aload_n 0, 1) := by decide +kernel
theorem dX10_isBase_37 : decode cX10_isBase 37 = .ok (.invokevirtual 170, 3) := by decide +kernel
theorem dX10_isBase_40 : decode cX10_isBase 40 = .ok (.iconst (-1), 1) := by decide +kernel
theorem dX10_isBase_41 : decode cX10_isBase 41 = .ok (.if_icmp .eq 7, 3) := by decide +kernel
theorem dX10_isBase_44 : decode cX10_isBase 44 = .ok (.iconst 1, 1) := by decide +kernel
theorem dX10_isBase_45 : decode cX10_isBase 45 = .ok (.goto 4, 3) := by decide +kernel
theorem dX10_isBase_48 : decode cX10_isBase 48 = .ok (.iconst 0, 1) := by decide +kernel
theorem dX10_isBase_49 : decode cX10_isBase 49 = .ok (.istore 5, 2) := by decide +kernel
theorem dX10_isBase_51 : decode cX10_isBase 51 = .ok (.aload_n 0, 1) := by decide +kernel
theorem dX10_isBase_52 : decode cX10_isBase 52 = .ok (.iload_n 1, 1) := by decide +kernel
theorem dX10_isBase_53 : decode cX10_isBase 53 = .ok (.putfield 79, 3) := by decide +kernel
theorem dX10_isBase_56 : decode cX10_isBase 56 = .ok (.aload_n 0, 1) := by decide +kernel
theorem dX10_isBase_57 : decode cX10_isBase 57 = .ok (.iload_n 2, 1) := by decide +kernel
theorem dX10_isBase_58 : decode cX10_isBase 58 = .ok (.putfield 82, 3) := by decide +kernel
theorem dX10_isBase_61 : decode cX10_isBase 61 = .ok (.aload_n 0, 1) := by decide +kernel
theorem dX10_isBase_62 : decode cX10_isBase 62 = .ok (.iload_n 3, 1) := by decide +kernel
theorem dX10_isBase_63 : decode cX10_isBase 63 = .ok (.putfield 85, 3) := by decide +kernel
theorem dX10_isBase_66 : decode cX10_isBase 66 = .ok (.aload_n 0, 1) := by decide +kernel
theorem dX10_isBase_67 : decode cX10_isBase 67 = .ok (.iload 4, 2) := by decide +kernel
theorem dX10_isBase_69 : decode cX10_isBase 69 = .ok (.putfield 88, 3) := by decide +kernel
theorem dX10_isBase_72 : decode cX10_isBase 72 = .ok (.iload 5, 2) := by decide +kernel
theorem dX10_isBase_74 : decode cX10_isBase 74 = .ok (.ireturn, 1) := by decide +kernel
theorem dX10_marked_0 : decode cX10_marked 0 = .ok (.aload_n 0, 1) := by decide +kernel
theorem dX10_marked_1 : decode cX10_marked 1 = .ok (.invokevirtual 177, 3) := by decide +kernel
theorem dX10_marked_4 : decode cX10_marked 4 = .ok (.aload_n 0, 1) := by decide +kernel
theorem dX10_marked_5 : decode cX10_marked 5 = .ok (.getfield 79, 3) := by decide +kernel
theorem dX10_marked_8 : decode cX10_marked 8 = .ok (.iconst 1, 1) := by decide +kernel
theorem dX10_marked_9 : decode cX10_marked 9 = .ok (.if_icmp .eq 18, 3) := by decide +kernel
theorem dX10_marked_12 : decode cX10_marked 12 = .ok (.aload_n 0, 1) := by decide +kernel
theorem dX10_marked_13 : decode cX10_marked 13 = .ok (.getfield 79, 3) := by decide +kernel
theorem dX10_marked_16 : decode cX10_marked 16 = .ok (.bipush 7, 2) := by decide +kernel
theorem dX10_marked_18 : decode cX10_marked 18 = .ok (.if_icmp .eq 9, 3) := by decide +kernel
theorem dX10_marked_21 : decode cX10_marked 21 = .ok (.aload_n 0, 1) := by decide +kernel
theorem dX10_marked_22 : decode cX10_marked 22 = .ok (.iconst 5, 1) := by decide +kernel
theorem dX10_marked_23 : decode cX10_marked 23 = .ok (.invokevirtual 152, 3) := by decide +kernel
theorem dX10_marked_26 : decode cX10_marked 26 = .ok (.ireturn, 1) := by decide +kernel
theorem dX10_marked_27 : decode cX10_marked 27 = .ok (.aload_n 0, 1) := by decide +kernel
theorem dX10_marked_28 : decode cX10_marked 28 = .ok (.invokevirtual 202, 3) := by decide +kernel
theorem dX10_marked_31 : decode cX10_marked 31 = .ok (.istore_n 2, 1) := by decide +kernel
theorem dX10_marked_32 : decode cX10_marked 32 = .ok (.iload_n 2, 1) := by decide +kernel
theorem dX10_marked_33 : decode cX10_marked 33 = .ok (.ifCond .ne 10, 3) := by decide +kernel
theorem dX10_marked_36 : decode cX10_marked 36 = .ok (.aload_n 0, 1) := by decide +kernel
theorem dX10_marked_37 : decode cX10_marked 37 = .ok (.bipush 6, 2) := by decide +kernel
theorem dX10_marked_39 : decode cX10_marked 39 = .ok (.invokevirtual 152, 3) := by decide +kernel
theorem dX10_marked_42 : decode cX10_marked 42 = .ok (.ireturn, 1) := by decide +kernel
theorem dX10_marked_43 : decode cX10_marked 43 = .ok (.aload_n 0, 1) := by decide +kernel
theorem dX10_marked_44 : decode cX10_marked 44 = .ok (.getfield 22, 3) := by decide +kernel
theorem dX10_marked_47 : decode cX10_marked 47 = .ok (.iload_n 1, 1) := by decide +kernel
theorem dX10_marked_48 : decode cX10_marked 48 = .ok (.iconst 2, 1) := by decide +kernel
theorem dX10_marked_49 : decode cX10_marked 49 = .ok (.iadd, 1) := by decide +kernel
theorem dX10_marked_50 : decode cX10_marked 50 = .ok (.iload_n 2, 1) := by decide +kernel
theorem dX10_marked_51 : decode cX10_marked 51 = .ok (.iastore, 1) := by decide +kernel
theorem dX10_marked_52 : decode cX10_marked 52 = .ok (.aload_n 0, 1) := by decide +kernel
theorem dX10_marked_53 : decode cX10_marked 53 = .ok (.invokevirtual 177, 3) := by decide +kernel
theorem dX10_marked_56 : decode cX10_marked 56 = .ok (.aload_n 0, 1) := by decide +kernel
theorem dX10_marked_57 : decode cX10_marked 57 = .ok (.bipush 40, 2) := by decide +kernel
theorem dX10_marked_59 : decode cX10_marked 59 = .ok (.invokevirtual 167, 3) := by decide +kernel
theorem dX10_marked_62 : decode cX10_marked 62 = .ok (.ifCond .ne 9, 3) := by decide +kernel
theorem dX10_marked_65 : decode cX10_marked 65 = .ok (.aload_n 0, 1) := by decide +kernel
theorem dX10_marked_66 : decode cX10_marked 66 = .ok (.iconst 5, 1) := by decide +kernel
theorem dX10_marked_67 : decode cX10_marked 67 = .ok (.invokevirtual 152, 3) := by decide +kernel
theorem dX10_marked_70 : decode cX10_marked 70 = .ok (.ireturn, 1) := by decide +kernel
theorem dX10_marked_71 : decode cX10_marked 71 = .ok (.aload_n 0, 1) := by decide +kernel
theorem dX10_marked_72 : decode cX10_marked 72 = .ok (.invokevirtual 177, 3) := by decide +kernel
theorem dX10_marked_75 : decode cX10_marked 75 = .ok (.aload_n 0, 1) := by decide +kernel
theorem dX10_marked_76 : decode cX10_marked 76 = .ok (.invokevirtual 205, 3) := by decide +kernel
theorem dX10_marked_79 : decode cX10_marked 79 = .ok (.ifCond .eq 14, 3) := by decide +kernel
theorem dX10_marked_82 : decode cX10_marked 82 = .ok (.aload_n 0, 1) := by decide +kernel
theorem dX10_marked_83 : decode cX10_marked 83 = .ok (.invokevirtual 199, 3) := by decide +kernel
theorem dX10_marked_86 : decode cX10_marked 86 = .ok (.ifCond .eq 7, 3) := by decide +kernel
theorem dX10_marked_89 : decode cX10_marked 89 = .ok (.iconst 1, 1) := by decide +kernel
