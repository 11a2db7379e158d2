theorem dX10_constant_142 : decode cX10_constant 142 = .ok (.getfield 53, 3) := by decide +kernel
theorem dX10_constant_145 : decode cX10_constant 145 = .ok (.iload 4, 2) := by decide +kernel
theorem dX10_constant_147 : decode cX10_constant 147 = .ok (.iconst 1, 1) := by decide +kernel
theorem dX10_constant_148 : decode cX10_constant 148 = .ok (.isub, 1) := by decide +kernel
theorem dX10_constant_149 : decode cX10_constant 149 = .ok (.iload 6, 2) := by decide +kernel
theorem dX10_constant_151 : decode cX10_constant 151 = .ok (.bipush 10, 2) := by decide +kernel
theorem dX10_constant_153 : decode cX10_constant 153 = .ok (.if_icmp .ne 16, 3) := by decide +kernel
theorem dX10_constant_156 : decode cX10_constant 156 = .ok (.aload_n 0, 1) := by decide +kernel
theorem dX10_constant_157 : decode cX10_constant 157 = .ok (.getfield 53, 3) := by decide +kernel
theorem dX10_constant_160 : decode cX10_constant 160 = .ok (.iload 4, 2) := by decide +kernel
theorem dX10_constant_162 : decode cX10_constant 162 = .ok (.iconst 1, 1) := by decide +kernel
theorem dX10_constant_163 : decode cX10_constant 163 = .ok (.isub, 1) := by decide +kernel
theorem dX10_constant_164 : decode cX10_constant 164 = .ok (.iaload, 1) := by decide +kernel
theorem dX10_constant_165 : decode cX10_constant 165 = .ok (.ineg, 1) := by decide +kernel
theorem dX10_constant_166 : decode cX10_constant 166 = .ok (.goto 14, 3) := by decide +kernel
theorem dX10_constant_169 : decode cX10_constant 169 = .ok (.aload_n 0, 1) := by decide +kernel
theorem dX10_constant_170 : decode cX10_constant 170 = .ok (.getfield 53, 3) := by decide +kernel
theorem dX10_constant_173 : decode cX10_constant 173 = .ok (.iload 4, 2) := by decide +kernel
theorem dX10_constant_175 : decode cX10_constant 175 = .ok (.iconst 1, 1) := by decide +kernel
theorem dX10_constant_176 : decode cX10_constant 176 = .ok (.isub, 1) := by decide +kernel
theorem dX10_constant_177 : decode cX10_constant 177 = .ok (.iaload, 1) := by decide +kernel
theorem dX10_constant_178 : decode cX10_constant 178 = .ok (.iconst (-1), 1) := by decide +kernel
theorem dX10_constant_179 : decode cX10_constant 179 = .ok (.ixor, 1) := by decide +kernel
theorem dX10_constant_180 : decode cX10_constant 180 = .ok (.iastore, 1) := by decide +kernel
theorem dX10_constant_181 : decode cX10_constant 181 = .ok (.goto 64, 3) := by decide +kernel
theorem dX10_constant_184 : decode cX10_constant 184 = .ok (.iinc 4 (-1), 3) := by decide +kernel
theorem dX10_constant_187 : decode cX10_constant 187 = .ok (.aload_n 0, 1) := by decide +kernel
theorem dX10_constant_188 : decode cX10_constant 188 = .ok (.getfield 53, 3) := by decide +kernel
theorem dX10_constant_191 : decode cX10_constant 191 = .ok (.iload 4, 2) := by decide +kernel
theorem dX10_constant_193 : decode cX10_constant 193 = .ok (.iaload, 1) := by decide +kernel
theorem dX10_constant_194 : decode cX10_constant 194 = .ok (.ifCond .ne 21, 3) := by decide +kernel
theorem dX10_constant_197 : decode cX10_constant 197 = .ok (.iload 6, 2) := by decide +kernel
theorem dX10_constant_199 : decode cX10_constant 199 = .ok (.bipush 15, 2) := by decide +kernel
theorem dX10_constant_201 : decode cX10_constant 201 = .ok (.if_icmp .eq 10, 3) := by decide +kernel
theorem dX10_constant_204 : decode cX10_constant 204 = .ok (.iload 6, 2) := by decide +kernel
theorem dX10_constant_206 : decode cX10_constant 206 = .ok (.bipush 16, 2) := by decide +kernel
theorem dX10_constant_208 : decode cX10_constant 208 = .ok (.if_icmp .ne 7, 3) := by decide +kernel
theorem dX10_constant_211 : decode cX10_constant 211 = .ok (.ldc2_w 241, 3) := by decide +kernel
theorem dX10_constant_214 : decode cX10_constant 214 = .ok (.lreturn, 1) := by decide +kernel
theorem dX10_constant_215 : decode cX10_constant 215 = .ok (.aload_n 0, 1) := by decide +kernel
theorem dX10_constant_216 : decode cX10_constant 216 = .ok (.getfield 53, 3) := by decide +kernel
theorem dX10_constant_219 : decode cX10_constant 219 = .ok (.iload 4, 2) := by decide +kernel
theorem dX10_constant_221 : decode cX10_constant 221 = .ok (.iconst 1, 1) := by decide +kernel
theorem dX10_constant_222 : decode cX10_constant 222 = .ok (.isub, 1) := by decide +kernel
theorem dX10_constant_223 : decode cX10_constant 223 = .ok (.iload 6, 2) := by decide +kernel
theorem dX10_constant_225 : decode cX10_constant 225 = .ok (.aload_n 0, 1) := by decide +kernel
theorem dX10_constant_226 : decode cX10_constant 226 = .ok (.getfield 53, 3) := by decide +kernel
theorem dX10_constant_229 : decode cX10_constant 229 = .ok (.iload 4, 2) := by decide +kernel
theorem dX10_constant_231 : decode cX10_constant 231 = .ok (.iconst 1, 1) := by decide +kernel
theorem dX10_constant_232 : decode cX10_constant 232 = .ok (.isub, 1) := by decide +kernel
theorem dX10_constant_233 : decode cX10_constant 233 = .ok (.iaload, 1) := by decide +kernel
theorem dX10_constant_234 : decode cX10_constant 234 = .ok (.aload_n 0, 1) := by decide +kernel
theorem dX10_constant_235 : decode cX10_constant 235 = .ok (.getfield 53, 3) := by decide +kernel
theorem dX10_constant_238 : decode cX10_constant 238 = .ok (.iload 4, 2) := by decide +kernel
theorem dX10_constant_240 : decode cX10_constant 240 = .ok (.iaload, 1) := by decide +kernel
theorem dX10_constant_241 : decode cX10_constant 241 = .ok (.invokestatic 243, 3) := by decide +kernel
theorem dX10_constant_244 : decode cX10_constant 244 = .ok (.iastore, 1) := by decide +kernel
theorem dX10_constant_245 : decode cX10_constant 245 = .ok (.iinc 5 1, 3) := by decide +kernel
theorem dX10_constant_248 : decode cX10_constant 248 = .ok (.goto (-187), 3) := by decide +kernel
theorem dX10_constant_251 : decode cX10_constant 251 = .ok (.iload_n 3, 1) := by decide +kernel
theorem dX10_constant_252 : decode cX10_constant 252 = .ok (.ifCond .ne 9, 3) := by decide +kernel
theorem dX10_constant_255 : decode cX10_constant 255 = .ok (.ldc2_w 241, 3) := by decide +kernel
theorem dX10_constant_258 : decode cX10_constant 258 = .ok (.goto 10, 3) := by decide +kernel
theorem dX10_constant_261 : decode cX10_constant 261 = .ok (.aload_n 0, 1) := by decide +kernel
theorem dX10_constant_262 : decode cX10_constant 262 = .ok (.getfield 53, 3) := by decide +kernel
theorem dX10_constant_265 : decode cX10_constant 265 = .ok (.iconst 0, 1) := by decide +kernel
theorem dX10_constant_266 : decode cX10_constant 266 = .ok (.iaload, 1) := by decide +kernel
theorem dX10_constant_267 : decode cX10_constant 267 = .ok (.i2l, 1) := by decide +kernel
theorem dX10_constant_268 : decode cX10_constant 268 = .ok (.lreturn, 1) := by decide +kernel
theorem dX10_name_0 : decode cX10_name 0 = .ok (.aload_n 0, 1) := by decide +kernel
theorem dX10_name_1 : decode cX10_name 1 = .ok (.iconst 0, 1) := by decide +kernel
theorem dX10_name_2 : decode cX10_name 2 = .ok (.putfield 62, 3) := by decide +kernel
theorem dX10_name_5 : decode cX10_name 5 = .ok (.iload_n 1, 1) := by decide +kernel
theorem dX10_name_6 : decode cX10_name 6 = .ok (.ifCond .lt 50, 3) := by decide +kernel
theorem dX10_name_9 : decode cX10_name 9 = .ok (.iload_n 1, 1) := by decide +kernel
theorem dX10_name_10 : decode cX10_name 10 = .ok (.aload_n 0, 1) := by decide +kernel
theorem dX10_name_11 : decode cX10_name 11 = .ok (.getfield 16, 3) := by decide +kernel
theorem dX10_name_14 : decode cX10_name 14 = .ok (.bipush 7, 2) := by decide +kernel
theorem dX10_name_16 : decode cX10_name 16 = .ok (.iaload, 1) := by decide +kernel
theorem dX10_name_17 : decode cX10_name 17 = .ok (.if_icmp .ge 39, 3) := by decide +kernel
theorem dX10_name_20 : decode cX10_name 20 = .ok (.iload_n 2, 1) := by decide +kernel
theorem dX10_name_21 : decode cX10_name 21 = .ok (.ifCond .lt 35, 3) := by decide +kernel
theorem dX10_name_24 : decode cX10_name 24 = .ok (.iload_n 2, 1) := by decide +kernel
theorem dX10_name_25 : decode cX10_name 25 = .ok (.aload_n 0, 1) := by decide +kernel
theorem dX10_name_26 : decode cX10_name 26 = .ok (.getfield 31, 3) := by decide +kernel
theorem dX10_name_29 : decode cX10_name 29 = .ok (.sipush 150, 3) := by decide +kernel
theorem dX10_name_32 : decode cX10_name 32 = .ok (.iload_n 1, 1) := by decide +kernel
theorem dX10_name_33 : decode cX10_name 33 = .ok (.iadd, 1) := by decide +kernel
theorem dX10_name_34 : decode cX10_name 34 = .ok (.iaload, 1) := by decide +kernel
theorem dX10_name_35 : decode cX10_name 35 = .ok (.if_icmp .ge 21, 3) := by decide +kernel
theorem dX10_name_38 : decode cX10_name 38 = .ok (.aload_n 0, 1) := by decide +kernel
theorem dX10_name_39 : decode cX10_name 39 = .ok (.getfield 28, 3) := by decide +kernel
theorem dX10_name_42 : decode cX10_name 42 = .ok (.sipush 2400, 3) := by decide +kernel
theorem dX10_name_45 : decode cX10_name 45 = .ok (.bipush 16, 2) := by decide +kernel
theorem dX10_name_47 : decode cX10_name 47 = .ok (.iload_n 1, 1) := by decide +kernel
theorem dX10_name_48 : decode cX10_name 48 = .ok (.imul, 1) := by decide +kernel
theorem dX10_name_49 : decode cX10_name 49 = .ok (.iadd, 1) := by decide +kernel
theorem dX10_name_50 : decode cX10_name 50 = .ok (.iload_n 2, 1) := by decide +kernel
theorem dX10_name_51 : decode cX10_name 51 = .ok (.iadd, 1) := by decide +kernel
theorem dX10_name_52 : decode cX10_name 52 = .ok (.iaload, 1) := by decide +kernel
theorem dX10_name_53 : decode cX10_name 53 = .ok (.goto 4, 3) := by decide +kernel
theorem dX10_name_56 : decode cX10_name 56 = .ok (.iconst (-1), 1) := by decide +kernel
theorem dX10_name_57 : decode cX10_name 57 = .ok (.ireturn, 1) := by decide +kernel
theorem dX10_string_0 : decode cX10_string 0 = .ok (.aload_n 0, 1) := by decide +kernel
theorem dX10_string_1 : decode cX10_string 1 = .ok (.iconst 0, 1) := by decide +kernel
theorem dX10_string_2 : decode cX10_string 2 = .ok (.putfield 62, 3) := by decide +kernel
theorem dX10_string_5 : decode cX10_string 5 = .ok (.iload_n 1, 1) := by decide +kernel
theorem dX10_string_6 : decode cX10_string 6 = .ok (.ifCond .lt 37, 3) := by decide +kernel
theorem dX10_string_9 : decode cX10_string 9 = .ok (.iload_n 1, 1) := by decide +kernel
theorem dX10_string_10 : decode cX10_string 10 = .ok (.aload_n 0, 1) := by decide +kernel
theorem dX10_string_11 : decode cX10_string 11 = .ok (.getfield 16, 3) := by decide +kernel
theorem dX10_string_14 : decode cX10_string 14 = .ok (.iconst 5, 1) := by decide +kernel
theorem dX10_string_15 : decode cX10_string 15 = .ok (.iaload, 1) := by decide +kernel
theorem dX10_string_16 : decode cX10_string 16 = .ok (.if_icmp .ge 27, 3) := by decide +kernel
theorem dX10_string_19 : decode cX10_string 19 = .ok (.iload_n 2, 1) := by decide +kernel
theorem dX10_string_20 : decode cX10_string 20 = .ok (.ifCond .lt 23, 3) := by decide +kernel
theorem dX10_string_23 : decode cX10_string 23 = .ok (.iload_n 2, 1) := by decide +kernel
theorem dX10_string_24 : decode cX10_string 24 = .ok (.aload_n 0, 1) := by decide +kernel
theorem dX10_string_25 : decode cX10_string 25 = .ok (.getfield 22, 3) := by decide +kernel
theorem dX10_string_28 : decode cX10_string 28 = .ok (.sipush 5600, 3) := by decide +kernel
theorem dX10_string_31 : decode cX10_string 31 = .ok (.bipush 7, 2) := by decide +kernel
theorem dX10_string_33 : decode cX10_string 33 = .ok (.iload_n 1, 1) := by decide +kernel
theorem dX10_string_34 : decode cX10_string 34 = .ok (.imul, 1) := by decide +kernel
theorem dX10_string_35 : decode cX10_string 35 = .ok (.iadd, 1) := by decide +kernel
theorem dX10_string_36 : decode cX10_string 36 = .ok (.bipush 6, 2) := by decide +kernel
theorem dX10_string_38 : decode cX10_string 38 = .ok (.iadd, 1) := by decide +kernel
theorem dX10_string_39 : decode cX10_string 39 = .ok (.iaload, 1) := by decide +kernel
theorem dX10_string_40 : decode cX10_string 40 = .ok (.if_icmp .lt 5, 3) := by decide +kernel
theorem dX10_string_43 : decode cX10_string 43 = .ok (.iconst (-1), 1) := by decide +kernel
theorem dX10_string_44 : decode cX10_string 44 = .ok (.ireturn, 1) := by decide +kernel
theorem dX10_string_45 : decode cX10_string 45 = .ok (.aload_n 0, 1) := by decide +kernel
theorem dX10_string_46 : decode cX10_string 46 = .ok (.getfield 34, 3) := by decide +kernel
theorem dX10_string_49 : decode cX10_string 49 = .ok (.sipush 3000, 3) := by decide +kernel
theorem dX10_string_52 : decode cX10_string 52 = .ok (.aload_n 0, 1) := by decide +kernel
theorem dX10_string_53 : decode cX10_string 53 = .ok (.getfield 59, 3) := by decide +kernel
theorem dX10_string_56 : decode cX10_string 56 = .ok (.sipush 800, 3) := by decide +kernel
theorem dX10_string_59 : decode cX10_string 59 = .ok (.iload_n 1, 1) := by decide +kernel
theorem dX10_string_60 : decode cX10_string 60 = .ok (.iadd, 1) := by decide +kernel
theorem dX10_string_61 : decode cX10_string 61 = .ok (.iaload, 1) := by decide +kernel
theorem dX10_string_62 : decode cX10_string 62 = .ok (.iadd, 1) := by decide +kernel
theorem dX10_string_63 : decode cX10_string 63 = .ok (.iload_n 2, 1) := by decide +kernel
theorem dX10_string_64 : decode cX10_string 64 = .ok (.iadd, 1) := by decide +kernel
theorem dX10_string_65 : decode cX10_string 65 = .ok (.iaload, 1) := by decide +kernel
theorem dX10_string_66 : decode cX10_string 66 = .ok (.ireturn, 1) := by decide +kernel
theorem dX10_find_0 : decode cX10_find 0 = .ok (.aload_n 0, 1) := by decide +kernel
theorem dX10_find_1 : decode cX10_find 1 = .ok (.iconst 0, 1) := by decide +kernel
theorem dX10_find_2 : decode cX10_find 2 = .ok (.putfield 62, 3) := by decide +kernel
theorem dX10_find_5 : decode cX10_find 5 = .ok (.iconst 0, 1) := by decide +kernel
theorem dX10_find_6 : decode cX10_find 6 = .ok (.istore 5, 2) := by decide +kernel
theorem dX10_find_8 : decode cX10_find 8 = .ok (.iconst 0, 1) := by decide +kernel
theorem dX10_find_9 : decode cX10_find 9 = .ok (.istore 6, 2) := by decide +kernel
theorem dX10_find_11 : decode cX10_find 11 = .ok (.iload 6, 2) := by decide +kernel
theorem dX10_find_13 : decode cX10_find 13 = .ok (.bipush 16, 2) := by decide +kernel
theorem dX10_find_15 : decode cX10_find 15 = .ok (.if_icmp .ge 60, 3) := by decide +kernel
theorem dX10_find_18 : decode cX10_find 18 = .ok (.iload 6, 2) := by decide +kernel
theorem dX10_find_20 : decode cX10_find 20 = .ok (.bipush 8, 2) := by decide +kernel
theorem dX10_find_22 : decode cX10_find 22 = .ok (.if_icmp .ge 7, 3) := by decide +kernel
theorem dX10_find_25 : decode cX10_find 25 = .ok (.lload_n 1, 1) := by decide +kernel
theorem dX10_find_26 : decode cX10_find 26 = .ok (.goto 4, 3) := by decide +kernel
theorem dX10_find_29 : decode cX10_find 29 = .ok (.lload_n 3, 1) := by decide +kernel
theorem dX10_find_30 : decode cX10_find 30 = .ok (.bipush 56, 2) := by decide +kernel
theorem dX10_find_32 : decode cX10_find 32 = .ok (.bipush 8, 2) := by decide +kernel
theorem dX10_find_34 : decode cX10_find 34 = .ok (.iload 6, 2) := by decide +kernel
theorem dX10_find_36 : decode cX10_find 36 = .ok (.bipush 8, 2) := by decide +kernel
theorem dX10_find_38 : decode cX10_find 38 = .ok (.irem, 1) := by decide +kernel
theorem dX10_find_39 : decode cX10_find 39 = .ok (.imul, 1) := by decide +kernel
theorem dX10_find_40 : decode cX10_find 40 = .ok (.isub, 1) := by decide +kernel
theorem dX10_find_41 : decode cX10_find 41 = .ok (.lshr, 1) := by decide +kernel
theorem dX10_find_42 : decode cX10_find 42 = .ok (.ldc2_w 247, 3) := by decide +kernel
theorem dX10_find_45 : decode cX10_find 45 = .ok (.land, 1) := by decide +kernel
theorem dX10_find_46 : decode cX10_find 46 = .ok (.l2i, 1) := by decide +kernel
theorem dX10_find_47 : decode cX10_find 47 = .ok (.istore 7, 2) := by decide +kernel
theorem dX10_find_49 : decode cX10_find 49 = .ok (.iload 7, 2) := by decide +kernel
theorem dX10_find_51 : decode cX10_find 51 = .ok (.ifCond .ne 6, 3) := by decide +kernel
theorem dX10_find_54 : decode cX10_find 54 = .ok (.goto 15, 3) := by decide +kernel
theorem dX10_find_57 : decode cX10_find 57 = .ok (.aload_n 0, 1) := by decide +kernel
theorem dX10_find_58 : decode cX10_find 58 = .ok (.getfield 53, 3) := by decide +kernel
theorem dX10_find_61 : decode cX10_find 61 = .ok (.iload 5, 2) := by decide +kernel
theorem dX10_find_63 : decode cX10_find 63 = .ok (.iload 7, 2) := by decide +kernel
theorem dX10_find_65 : decode cX10_find 65 = .ok (.iastore, 1) := by decide +kernel
theorem dX10_find_66 : decode cX10_find 66 = .ok (.iinc 5 1, 3) := by decide +kernel
theorem dX10_find_69 : decode cX10_find 69 = .ok (.iinc 6 1, 3) := by decide +kernel
theorem dX10_find_72 : decode cX10_find 72 = .ok (.goto (-61), 3) := by decide +kernel
theorem dX10_find_75 : decode cX10_find 75 = .ok (.iconst 0, 1) := by decide +kernel
theorem dX10_find_76 : decode cX10_find 76 = .ok (.istore 6, 2) := by decide +kernel
theorem dX10_find_78 : decode cX10_find 78 = .ok (.iload 6, 2) := by decide +kernel
theorem dX10_find_80 : decode cX10_find 80 = .ok (.aload_n 0, 1) := by decide +kernel
theorem dX10_find_81 : decode cX10_find 81 = .ok (.getfield 16, 3) := by decide +kernel
theorem dX10_find_84 : decode cX10_find 84 = .ok (.bipush 7, 2) := by decide +kernel
theorem dX10_find_86 : decode cX10_find 86 = .ok (.iaload, 1) := by decide +kernel
theorem dX10_find_87 : decode cX10_find 87 = .ok (.if_icmp .ge 95, 3) := by decide +kernel
theorem dX10_find_90 : decode cX10_find 90 = .ok (.aload_n 0, 1) := by decide +kernel
theorem dX10_find_91 : decode cX10_find 91 = .ok (.getfield 31, 3) := by decide +kernel
theorem dX10_find_94 : decode cX10_find 94 = .ok (.sipush 150, 3) := by decide +kernel
theorem dX10_find_97 : decode cX10_find 97 = .ok (.iload 6, 2) := by decide +kernel
theorem dX10_find_99 : decode cX10_find 99 = .ok (.iadd, 1) := by decide +kernel
theorem dX10_find_100 : decode cX10_find 100 = .ok (.iaload, 1) := by decide +kernel
theorem dX10_find_101 : decode cX10_find 101 = .ok (.iload 5, 2) := by decide +kernel
theorem dX10_find_103 : decode cX10_find 103 = .ok (.if_icmp .ne 7, 3) := by decide +kernel
theorem dX10_find_106 : decode cX10_find 106 = .ok (.iconst 1, 1) := by decide +kernel
theorem dX10_find_107 : decode cX10_find 107 = .ok (.goto 4, 3) := by decide +kernel
theorem dX10_find_110 : decode cX10_find 110 = .ok (.iconst 0, 1) := by decide +kernel
theorem dX10_find_111 : decode cX10_find 111 = .ok (.istore 7, 2) := by decide +kernel
theorem dX10_find_113 : decode cX10_find 113 = .ok (.iconst 0, 1) := by decide +kernel
theorem dX10_find_114 : decode cX10_find 114 = .ok (.istore 8, 2) := by decide +kernel
theorem dX10_find_116 : decode cX10_find 116 = .ok (.iload 8, 2) := by decide +kernel
theorem dX10_find_118 : decode cX10_find 118 = .ok (.iload 5, 2) := by decide +kernel
theorem dX10_find_120 : decode cX10_find 120 = .ok (.if_icmp .ge 48, 3) := by decide +kernel
theorem dX10_find_123 : decode cX10_find 123 = .ok (.iload 7, 2) := by decide +kernel
theorem dX10_find_125 : decode cX10_find 125 = .ok (.ifCond .eq 43, 3) := by decide +kernel
theorem dX10_find_128 : decode cX10_find 128 = .ok (.aload_n 0, 1) := by decide +kernel
theorem dX10_find_129 : decode cX10_find 129 = .ok (.getfield 28, 3) := by decide +kernel
theorem dX10_find_132 : decode cX10_find 132 = .ok (.sipush 2400, 3) := by decide +kernel
theorem dX10_find_135 : decode cX10_find 135 = .ok (.bipush 16, 2) := by decide +kernel
theorem dX10_find_137 : decode cX10_find 137 = .ok (.iload 6, 2) := by decide +kernel
theorem dX10_find_139 : decode cX10_find 139 = .ok (.imul, 1) := by decide +kernel
theorem dX10_find_140 : decode cX10_find 140 = .ok (.iadd, 1) := by decide +kernel
theorem dX10_find_141 : decode cX10_find 141 = .ok (.iload 8, 2) := by decide +kernel
theorem dX10_find_143 : decode cX10_find 143 = .ok (.iadd, 1) := by decide +kernel
theorem dX10_find_144 : decode cX10_find 144 = .ok (.iaload, 1) := by decide +kernel
theorem dX10_find_145 : decode cX10_find 145 = .ok (.aload_n 0, 1) := by decide +kernel
theorem dX10_find_146 : decode cX10_find 146 = .ok (.getfield 53, 3) := by decide +kernel
theorem dX10_find_149 : decode cX10_find 149 = .ok (.iload 8, 2) := by decide +kernel
theorem dX10_find_151 : decode cX10_find 151 = .ok (.iaload, 1) := by decide +kernel
theorem dX10_find_152 : decode cX10_find 152 = .ok (.if_icmp .ne 7, 3) := by decide +kernel
theorem dX10_find_155 : decode cX10_find 155 = .ok (.iconst 1, 1) := by decide +kernel
theorem dX10_find_156 : decode cX10_find 156 = .ok (.goto 4, 3) := by decide +kernel
theorem dX10_find_159 : decode cX10_find 159 = .ok (.iconst 0, 1) := by decide +kernel
theorem dX10_find_160 : decode cX10_find 160 = .ok (.istore 7, 2) := by decide +kernel
theorem dX10_find_162 : decode cX10_find 162 = .ok (.iinc 8 1, 3) := by decide +kernel
theorem dX10_find_165 : decode cX10_find 165 = .ok (.goto (-49), 3) := by decide +kernel
theorem dX10_find_168 : decode cX10_find 168 = .ok (.iload 7, 2) := by decide +kernel
theorem dX10_find_170 : decode cX10_find 170 = .ok (.ifCond .eq 6, 3) := by decide +kernel
theorem dX10_find_173 : decode cX10_find 173 = .ok (.iload 6, 2) := by decide +kernel
theorem dX10_find_175 : decode cX10_find 175 = .ok (.ireturn, 1) := by decide +kernel
theorem dX10_find_176 : decode cX10_find 176 = .ok (.iinc 6 1, 3) := by decide +kernel
theorem dX10_find_179 : decode cX10_find 179 = .ok (.goto (-101), 3) := by decide +kernel
theorem dX10_find_182 : decode cX10_find 182 = .ok (.iconst (-1), 1) := by decide +kernel
theorem dX10_find_183 : decode cX10_find 183 = .ok (.ireturn, 1) := by decide +kernel
theorem dX10_say_0 : decode cX10_say 0 = .ok (.aload_n 0, 1) := by decide +kernel
theorem dX10_say_1 : decode cX10_say 1 = .ok (.getfield 44, 3) := by decide +kernel
theorem dX10_say_4 : decode cX10_say 4 = .ok (.aload_n 0, 1) := by decide +kernel
theorem dX10_say_5 : decode cX10_say 5 = .ok (.getfield 249, 3) := by decide +kernel
theorem dX10_say_8 : decode cX10_say 8 = .ok (.iload_n 1, 1) := by decide +kernel
theorem dX10_say_9 : decode cX10_say 9 = .ok (.iastore, 1) := by decide +kernel
theorem dX10_say_10 : decode cX10_say 10 = .ok (.aload_n 0, 1) := by decide +kernel
theorem dX10_say_11 : decode cX10_say 11 = .ok (.dup, 1) := by decide +kernel
theorem dX10_say_12 : decode cX10_say 12 = .ok (.getfield 249, 3) := by decide +kernel
theorem dX10_say_15 : decode cX10_say 15 = .ok (.iconst 1, 1) := by decide +kernel
theorem dX10_say_16 : decode cX10_say 16 = .ok (.iadd, 1) := by decide +kernel
theorem dX10_say_17 : decode cX10_say 17 = .ok (.putfield 249, 3) := by decide +kernel
theorem dX10_say_20 : decode cX10_say 20 = .ok (.return_, 1) := by decide +kernel
theorem dX10_sayNumber_0 : decode cX10_sayNumber 0 = .ok (.lconst 1, 1) := by decide +kernel
theorem dX10_sayNumber_1 : decode cX10_sayNumber 1 = .ok (.lstore_n 3, 1) := by decide +kernel
theorem dX10_sayNumber_2 : decode cX10_sayNumber 2 = .ok (.lload_n 1, 1) := by decide +kernel
theorem dX10_sayNumber_3 : decode cX10_sayNumber 3 = .ok (.lload_n 3, 1) := by decide +kernel
theorem dX10_sayNumber_4 : decode cX10_sayNumber 4 = .ok (.ldiv, 1) := by decide +kernel
theorem dX10_sayNumber_5 : decode cX10_sayNumber 5 = .ok (.ldc2_w 252, 3) := by decide +kernel
theorem dX10_sayNumber_8 : decode cX10_sayNumber 8 = .ok (.lcmp, 1) := by decide +kernel
theorem dX10_sayNumber_9 : decode cX10_sayNumber 9 = .ok (.ifCond .le 12, 3) := by decide +kernel
theorem dX10_sayNumber_12 : decode cX10_sayNumber 12 = .ok (.ldc2_w 254, 3) := by decide +kernel
theorem dX10_sayNumber_15 : decode cX10_sayNumber 15 = .ok (.lload_n 3, 1) := by decide +kernel
theorem dX10_sayNumber_16 : decode cX10_sayNumber 16 = .ok (.lmul, 1) := by decide +kernel
theorem dX10_sayNumber_17 : decode cX10_sayNumber 17 = .ok (.lstore_n 3, 1) := by decide +kernel
theorem dX10_sayNumber_18 : decode cX10_sayNumber 18 = .ok (.goto (-16), 3) := by decide +kernel
theorem dX10_sayNumber_21 : decode cX10_sayNumber 21 = .ok (.lload_n 3, 1) := by decide +kernel
theorem dX10_sayNumber_22 : decode cX10_sayNumber 22 = .ok (.lconst 0, 1) := by decide +kernel
theorem dX10_sayNumber_23 : decode cX10_sayNumber 23 = .ok (.lcmp, 1) := by decide +kernel
theorem dX10_sayNumber_24 : decode cX10_sayNumber 24 = .ok (.ifCond .le 27, 3) := by decide +kernel
theorem dX10_sayNumber_27 : decode cX10_sayNumber 27 = .ok (.aload_n 0, 1) := by decide +kernel
theorem dX10_sayNumber_28 : decode cX10_sayNumber 28 = .ok (.bipush 48, 2) := by decide +kernel
theorem dX10_sayNumber_30 : decode cX10_sayNumber 30 = .ok (.lload_n 1, 1) := by decide +kernel
theorem dX10_sayNumber_31 : decode cX10_sayNumber 31 = .ok (.lload_n 3, 1) := by decide +kernel
theorem dX10_sayNumber_32 : decode cX10_sayNumber 32 = .ok (.ldiv, 1) := by decide +kernel
theorem dX10_sayNumber_33 : decode cX10_sayNumber 33 = .ok (.ldc2_w 254, 3) := by decide +kernel
theorem dX10_sayNumber_36 : decode cX10_sayNumber 36 = .ok (.lrem, 1) := by decide +kernel
theorem dX10_sayNumber_37 : decode cX10_sayNumber 37 = .ok (.l2i, 1) := by decide +kernel
theorem dX10_sayNumber_38 : decode cX10_sayNumber 38 = .ok (.iadd, 1) := by decide +kernel
theorem dX10_sayNumber_39 : decode cX10_sayNumber 39 = .ok (.invokevirtual 256, 3) := by decide +kernel
theorem dX10_sayNumber_42 : decode cX10_sayNumber 42 = .ok (.lload_n 3, 1) := by decide +kernel
theorem dX10_sayNumber_43 : decode cX10_sayNumber 43 = .ok (.ldc2_w 254, 3) := by decide +kernel
theorem dX10_sayNumber_46 : decode cX10_sayNumber 46 = .ok (.ldiv, 1) := by decide +kernel
theorem dX10_sayNumber_47 : decode cX10_sayNumber 47 = .ok (.lstore_n 3, 1) := by decide +kernel
theorem dX10_sayNumber_48 : decode cX10_sayNumber 48 = .ok (.goto (-27), 3) := by decide +kernel
theorem dX10_sayNumber_51 : decode cX10_sayNumber 51 = .ok (.return_, 1) := by decide +kernel
theorem dX10_sayName_0 : decode cX10_sayName 0 = .ok (.iconst 0, 1) := by decide +kernel
theorem dX10_sayName_1 : decode cX10_sayName 1 = .ok (.istore_n 2, 1) := by decide +kernel
theorem dX10_sayName_2 : decode cX10_sayName 2 = .ok (.iload_n 2, 1) := by decide +kernel
theorem dX10_sayName_3 : decode cX10_sayName 3 = .ok (.aload_n 0, 1) := by decide +kernel
theorem dX10_sayName_4 : decode cX10_sayName 4 = .ok (.getfield 31, 3) := by decide +kernel
theorem dX10_sayName_7 : decode cX10_sayName 7 = .ok (.sipush 150, 3) := by decide +kernel
theorem dX10_sayName_10 : decode cX10_sayName 10 = .ok (.iload_n 1, 1) := by decide +kernel
theorem dX10_sayName_11 : decode cX10_sayName 11 = .ok (.iadd, 1) := by decide +kernel
theorem dX10_sayName_12 : decode cX10_sayName 12 = .ok (.iaload, 1) := by decide +kernel
theorem dX10_sayName_13 : decode cX10_sayName 13 = .ok (.if_icmp .ge 28, 3) := by decide +kernel
theorem dX10_sayName_16 : decode cX10_sayName 16 = .ok (.aload_n 0, 1) := by decide +kernel
theorem dX10_sayName_17 : decode cX10_sayName 17 = .ok (.aload_n 0, 1) := by decide +kernel
theorem dX10_sayName_18 : decode cX10_sayName 18 = .ok (.getfield 28, 3) := by decide +kernel
theorem dX10_sayName_21 : decode cX10_sayName 21 = .ok (.sipush 2400, 3) := by decide +kernel
theorem dX10_sayName_24 : decode cX10_sayName 24 = .ok (.bipush 16, 2) := by decide +kernel
theorem dX10_sayName_26 : decode cX10_sayName 26 = .ok (.iload_n 1, 1) := by decide +kernel
theorem dX10_sayName_27 : decode cX10_sayName 27 = .ok (.imul, 1) := by decide +kernel
theorem dX10_sayName_28 : decode cX10_sayName 28 = .ok (.iadd, 1) := by decide +kernel
theorem dX10_sayName_29 : decode cX10_sayName 29 = .ok (.iload_n 2, 1) := by decide +kernel
theorem dX10_sayName_30 : decode cX10_sayName 30 = .ok (.iadd, 1) := by decide +kernel
theorem dX10_sayName_31 : decode cX10_sayName 31 = .ok (.iaload, 1) := by decide +kernel
theorem dX10_sayName_32 : decode cX10_sayName 32 = .ok (.invokevirtual 256, 3) := by decide +kernel
theorem dX10_sayName_35 : decode cX10_sayName 35 = .ok (.iinc 2 1, 3) := by decide +kernel
theorem dX10_sayName_38 : decode cX10_sayName 38 = .ok (.goto (-36), 3) := by decide +kernel
theorem dX10_sayName_41 : decode cX10_sayName 41 = .ok (.return_, 1) := by decide +kernel
theorem dX10_sayRegister_0 : decode cX10_sayRegister 0 = .ok (.aload_n 0, 1) := by decide +kernel
theorem dX10_sayRegister_1 : decode cX10_sayRegister 1 = .ok (.bipush 120, 2) := by decide +kernel
theorem dX10_sayRegister_3 : decode cX10_sayRegister 3 = .ok (.invokevirtual 256, 3) := by decide +kernel
theorem dX10_sayRegister_6 : decode cX10_sayRegister 6 = .ok (.aload_n 0, 1) := by decide +kernel
theorem dX10_sayRegister_7 : decode cX10_sayRegister 7 = .ok (.iload_n 1, 1) := by decide +kernel
theorem dX10_sayRegister_8 : decode cX10_sayRegister 8 = .ok (.i2l, 1) := by decide +kernel
theorem dX10_sayRegister_9 : decode cX10_sayRegister 9 = .ok (.invokevirtual 259, 3) := by decide +kernel
theorem dX10_sayRegister_12 : decode cX10_sayRegister 12 = .ok (.return_, 1) := by decide +kernel
theorem dX10_sayString_0 : decode cX10_sayString 0 = .ok (.aload_n 0, 1) := by decide +kernel
theorem dX10_sayString_1 : decode cX10_sayString 1 = .ok (.bipush 34, 2) := by decide +kernel
theorem dX10_sayString_3 : decode cX10_sayString 3 = .ok (.invokevirtual 256, 3) := by decide +kernel
theorem dX10_sayString_6 : decode cX10_sayString 6 = .ok (.iconst 0, 1) := by decide +kernel
theorem dX10_sayString_7 : decode cX10_sayString 7 = .ok (.istore_n 2, 1) := by decide +kernel
theorem dX10_sayString_8 : decode cX10_sayString 8 = .ok (.iload_n 2, 1) := by decide +kernel
theorem dX10_sayString_9 : decode cX10_sayString 9 = .ok (.aload_n 0, 1) := by decide +kernel
theorem dX10_sayString_10 : decode cX10_sayString 10 = .ok (.getfield 22, 3) := by decide +kernel
theorem dX10_sayString_13 : decode cX10_sayString 13 = .ok (.sipush 5600, 3) := by decide +kernel
theorem dX10_sayString_16 : decode cX10_sayString 16 = .ok (.bipush 7, 2) := by decide +kernel
theorem dX10_sayString_18 : decode cX10_sayString 18 = .ok (.iload_n 1, 1) := by decide +kernel
theorem dX10_sayString_19 : decode cX10_sayString 19 = .ok (.imul, 1) := by decide +kernel
theorem dX10_sayString_20 : decode cX10_sayString 20 = .ok (.iadd, 1) := by decide +kernel
theorem dX10_sayString_21 : decode cX10_sayString 21 = .ok (.bipush 6, 2) := by decide +kernel
theorem dX10_sayString_23 : decode cX10_sayString 23 = .ok (.iadd, 1) := by decide +kernel
theorem dX10_sayString_24 : decode cX10_sayString 24 = .ok (.iaload, 1) := by decide +kernel
theorem dX10_sayString_25 : decode cX10_sayString 25 = .ok (.if_icmp .ge 101, 3) := by decide +kernel
theorem dX10_sayString_28 : decode cX10_sayString 28 = .ok (.aload_n 0, 1) := by decide +kernel
theorem dX10_sayString_29 : decode cX10_sayString 29 = .ok (.getfield 34, 3) := by decide +kernel
theorem dX10_sayString_32 : decode cX10_sayString 32 = .ok (.sipush 3000, 3) := by decide +kernel
theorem dX10_sayString_35 : decode cX10_sayString 35 = .ok (.aload_n 0, 1) := by decide +kernel
theorem dX10_sayString_36 : decode cX10_sayString 36 = .ok (.getfield 59, 3) := by decide +kernel
theorem dX10_sayString_39 : decode cX10_sayString 39 = .ok (.sipush 800, 3) := by decide +kernel
theorem dX10_sayString_42 : decode cX10_sayString 42 = .ok (.iload_n 1, 1) := by decide +kernel
theorem dX10_sayString_43 : decode cX10_sayString 43 = .ok (.iadd, 1) := by decide +kernel
theorem dX10_sayString_44 : decode cX10_sayString 44 = .ok (.iaload, 1) := by decide +kernel
theorem dX10_sayString_45 : decode cX10_sayString 45 = .ok (.iadd, 1) := by decide +kernel
theorem dX10_sayString_46 : decode cX10_sayString 46 = .ok (.iload_n 2, 1) := by decide +kernel
theorem dX10_sayString_47 : decode cX10_sayString 47 = .ok (.iadd, 1) := by decide +kernel
theorem dX10_sayString_48 : decode cX10_sayString 48 = .ok (.iaload, 1) := by decide +kernel
theorem dX10_sayString_49 : decode cX10_sayString 49 = .ok (.istore_n 3, 1) := by decide +kernel
theorem dX10_sayString_50 : decode cX10_sayString 50 = .ok (.iload_n 3, 1) := by decide +kernel
theorem dX10_sayString_51 : decode cX10_sayString 51 = .ok (.bipush 10, 2) := by decide +kernel
theorem dX10_sayString_53 : decode cX10_sayString 53 = .ok (.if_icmp .eq 25, 3) := by decide +kernel
theorem dX10_sayString_56 : decode cX10_sayString 56 = .ok (.iload_n 3, 1) := by decide +kernel
theorem dX10_sayString_57 : decode cX10_sayString 57 = .ok (.bipush 9, 2) := by decide +kernel
theorem dX10_sayString_59 : decode cX10_sayString 59 = .ok (.if_icmp .eq 19, 3) := by decide +kernel
theorem dX10_sayString_62 : decode cX10_sayString 62 = .ok (.iload_n 3, 1) := by decide +kernel
theorem dX10_sayString_63 : decode cX10_sayString 63 = .ok (.ifCond .eq 15, 3) := by decide +kernel
theorem dX10_sayString_66 : decode cX10_sayString 66 = .ok (.iload_n 3, 1) := by decide +kernel
theorem dX10_sayString_67 : decode cX10_sayString 67 = .ok (.bipush 92, 2) := by decide +kernel
theorem dX10_sayString_69 : decode cX10_sayString 69 = .ok (.if_icmp .eq 9, 3) := by decide +kernel
theorem dX10_sayString_72 : decode cX10_sayString 72 = .ok (.iload_n 3, 1) := by decide +kernel
theorem dX10_sayString_73 : decode cX10_sayString 73 = .ok (.bipush 34, 2) := by decide +kernel
theorem dX10_sayString_75 : decode cX10_sayString 75 = .ok (.if_icmp .ne 9, 3) := by decide +kernel
theorem dX10_sayString_78 : decode cX10_sayString 78 = .ok (.aload_n 0, 1) := by decide +kernel
theorem dX10_sayString_79 : decode cX10_sayString 79 = .ok (.bipush 92, 2) := by decide +kernel
theorem dX10_sayString_81 : decode cX10_sayString 81 = .ok (.invokevirtual 256, 3) := by decide +kernel
theorem dX10_sayString_84 : decode cX10_sayString 84 = .ok (.aload_n 0, 1) := by decide +kernel
theorem dX10_sayString_85 : decode cX10_sayString 85 = .ok (.iload_n 3, 1) := by decide +kernel
theorem dX10_sayString_86 : decode cX10_sayString 86 = .ok (.bipush 10, 2) := by decide +kernel
theorem dX10_sayString_88 : decode cX10_sayString 88 = .ok (.if_icmp .ne 8, 3) := by decide +kernel
theorem dX10_sayString_91 : decode cX10_sayString 91 = .ok (.bipush 110, 2) := by decide +kernel
theorem dX10_sayString_93 : decode cX10_sayString 93 = .ok (.goto 24, 3) := by decide +kernel
theorem dX10_sayString_96 : decode cX10_sayString 96 = .ok (.iload_n 3, 1) := by decide +kernel
theorem dX10_sayString_97 : decode cX10_sayString 97 = .ok (.bipush 9, 2) := by decide +kernel
theorem dX10_sayString_99 : decode cX10_sayString 99 = .ok (.if_icmp .ne 8, 3) := by decide +kernel
theorem dX10_sayString_102 : decode cX10_sayString 102 = .ok (.bipush 116, 2) := by decide +kernel
theorem dX10_sayString_104 : decode cX10_sayString 104 = .ok (.goto 13, 3) := by decide +kernel
theorem dX10_sayString_107 : decode cX10_sayString 107 = .ok (.iload_n 3, 1) := by decide +kernel
theorem dX10_sayString_108 : decode cX10_sayString 108 = .ok (.ifCond .ne 8, 3) := by decide +kernel
theorem dX10_sayString_111 : decode cX10_sayString 111 = .ok (.bipush 48, 2) := by decide +kernel
theorem dX10_sayString_113 : decode cX10_sayString 113 = .ok (.goto 4, 3) := by decide +kernel
theorem dX10_sayString_116 : decode cX10_sayString 116 = .ok (.iload_n 3, 1) := by decide +kernel
theorem dX10_sayString_117 : decode cX10_sayString 117 = .ok (.invokevirtual 256, 3) := by decide +kernel
theorem dX10_sayString_120 : decode cX10_sayString 120 = .ok (.iinc 2 1, 3) := by decide +kernel
theorem dX10_sayString_123 : decode cX10_sayString 123 = .ok (.goto (-115), 3) := by decide +kernel
theorem dX10_sayString_126 : decode cX10_sayString 126 = .ok (.aload_n 0, 1) := by decide +kernel
theorem dX10_sayString_127 : decode cX10_sayString 127 = .ok (.bipush 34, 2) := by decide +kernel
theorem dX10_sayString_129 : decode cX10_sayString 129 = .ok (.invokevirtual 256, 3) := by decide +kernel
theorem dX10_sayString_132 : decode cX10_sayString 132 = .ok (.return_, 1) := by decide +kernel
theorem dX10_saySign_0 : decode cX10_saySign 0 = .ok (.iload_n 1, 1) := by decide +kernel
theorem dX10_saySign_1 : decode cX10_saySign 1 = .ok (.tableswitch 161 10 20 #[59, 68, 77, 59, 86, 95, 104, 113, 128, 143, 152], 59) := by decide +kernel
theorem dX10_saySign_60 : decode cX10_saySign 60 = .ok (.aload_n 0, 1) := by decide +kernel
theorem dX10_saySign_61 : decode cX10_saySign 61 = .ok (.bipush 45, 2) := by decide +kernel
theorem dX10_saySign_63 : decode cX10_saySign 63 = .ok (.invokevirtual 256, 3) := by decide +kernel
theorem dX10_saySign_66 : decode cX10_saySign 66 = .ok (.goto 102, 3) := by decide +kernel
theorem dX10_saySign_69 : decode cX10_saySign 69 = .ok (.aload_n 0, 1) := by decide +kernel
theorem dX10_saySign_70 : decode cX10_saySign 70 = .ok (.bipush 126, 2) := by decide +kernel
theorem dX10_saySign_72 : decode cX10_saySign 72 = .ok (.invokevirtual 256, 3) := by decide +kernel
theorem dX10_saySign_75 : decode cX10_saySign 75 = .ok (.goto 93, 3) := by decide +kernel
theorem dX10_saySign_78 : decode cX10_saySign 78 = .ok (.aload_n 0, 1) := by decide +kernel
theorem dX10_saySign_79 : decode cX10_saySign 79 = .ok (.bipush 43, 2) := by decide +kernel
theorem dX10_saySign_81 : decode cX10_saySign 81 = .ok (.invokevirtual 256, 3) := by decide +kernel
theorem dX10_saySign_84 : decode cX10_saySign 84 = .ok (.goto 84, 3) := by decide +kernel
theorem dX10_saySign_87 : decode cX10_saySign 87 = .ok (.aload_n 0, 1) := by decide +kernel
theorem dX10_saySign_88 : decode cX10_saySign 88 = .ok (.bipush 42, 2) := by decide +kernel
theorem dX10_saySign_90 : decode cX10_saySign 90 = .ok (.invokevirtual 256, 3) := by decide +kernel
theorem dX10_saySign_93 : decode cX10_saySign 93 = .ok (.goto 75, 3) := by decide +kernel
theorem dX10_saySign_96 : decode cX10_saySign 96 = .ok (.aload_n 0, 1) := by decide +kernel
theorem dX10_saySign_97 : decode cX10_saySign 97 = .ok (.bipush 47, 2) := by decide +kernel
theorem dX10_saySign_99 : decode cX10_saySign 99 = .ok (.invokevirtual 256, 3) := by decide +kernel
theorem dX10_saySign_102 : decode cX10_saySign 102 = .ok (.goto 66, 3) := by decide +kernel
theorem dX10_saySign_105 : decode cX10_saySign 105 = .ok (.aload_n 0, 1) := by decide +kernel
theorem dX10_saySign_106 : decode cX10_saySign 106 = .ok (.bipush 37, 2) := by decide +kernel
theorem dX10_saySign_108 : decode cX10_saySign 108 = .ok (.invokevirtual 256, 3) := by decide +kernel
theorem dX10_saySign_111 : decode cX10_saySign 111 = .ok (.goto 57, 3) := by decide +kernel
theorem dX10_saySign_114 : decode cX10_saySign 114 = .ok (.aload_n 0, 1) := by decide +kernel
theorem dX10_saySign_115 : decode cX10_saySign 115 = .ok (.bipush 60, 2) := by decide +kernel
theorem dX10_saySign_117 : decode cX10_saySign 117 = .ok (.invokevirtual 256, 3) := by decide +kernel
theorem dX10_saySign_120 : decode cX10_saySign 120 = .ok (.aload_n 0, 1) := by decide +kernel
theorem dX10_saySign_121 : decode cX10_saySign 121 = .ok (.bipush 60, 2) := by decide +kernel
theorem dX10_saySign_123 : decode cX10_saySign 123 = .ok (.invokevirtual 256, 3) := by decide +kernel
theorem dX10_saySign_126 : decode cX10_saySign 126 = .ok (.goto 42, 3) := by decide +kernel
theorem dX10_saySign_129 : decode cX10_saySign 129 = .ok (.aload_n 0, 1) := by decide +kernel
theorem dX10_saySign_130 : decode cX10_saySign 130 = .ok (.bipush 62, 2) := by decide +kernel
theorem dX10_saySign_132 : decode cX10_saySign 132 = .ok (.invokevirtual 256, 3) := by decide +kernel
theorem dX10_saySign_135 : decode cX10_saySign 135 = .ok (.aload_n 0, 1) := by decide +kernel
theorem dX10_saySign_136 : decode cX10_saySign 136 = .ok (.bipush 62, 2) := by decide +kernel
theorem dX10_saySign_138 : decode cX10_saySign 138 = .ok (.invokevirtual 256, 3) := by decide +kernel
theorem dX10_saySign_141 : decode cX10_saySign 141 = .ok (.goto 27, 3) := by decide +kernel
theorem dX10_saySign_144 : decode cX10_saySign 144 = .ok (.aload_n 0, 1) := by decide +kernel
theorem dX10_saySign_145 : decode cX10_saySign 145 = .ok (.bipush 38, 2) := by decide +kernel
theorem dX10_saySign_147 : decode cX10_saySign 147 = .ok (.invokevirtual 256, 3) := by decide +kernel
theorem dX10_saySign_150 : decode cX10_saySign 150 = .ok (.goto 18, 3) := by decide +kernel
theorem dX10_saySign_153 : decode cX10_saySign 153 = .ok (.aload_n 0, 1) := by decide +kernel
theorem dX10_saySign_154 : decode cX10_saySign 154 = .ok (.bipush 94, 2) := by decide +kernel
theorem dX10_saySign_156 : decode cX10_saySign 156 = .ok (.invokevirtual 256, 3) := by decide +kernel
theorem dX10_saySign_159 : decode cX10_saySign 159 = .ok (.goto 9, 3) := by decide +kernel
theorem dX10_saySign_162 : decode cX10_saySign 162 = .ok (.aload_n 0, 1) := by decide +kernel
theorem dX10_saySign_163 : decode cX10_saySign 163 = .ok (.bipush 124, 2) := by decide +kernel
theorem dX10_saySign_165 : decode cX10_saySign 165 = .ok (.invokevirtual 256, 3) := by decide +kernel
theorem dX10_saySign_168 : decode cX10_saySign 168 = .ok (.return_, 1) := by decide +kernel
theorem dX10_whatOf_0 : decode cX10_whatOf 0 = .ok (.aload_n 0, 1) := by decide +kernel
theorem dX10_whatOf_1 : decode cX10_whatOf 1 = .ok (.getfield 25, 3) := by decide +kernel
theorem dX10_whatOf_4 : decode cX10_whatOf 4 = .ok (.sipush 4000, 3) := by decide +kernel
theorem dX10_whatOf_7 : decode cX10_whatOf 7 = .ok (.iconst 2, 1) := by decide +kernel
theorem dX10_whatOf_8 : decode cX10_whatOf 8 = .ok (.iload_n 1, 1) := by decide +kernel
theorem dX10_whatOf_9 : decode cX10_whatOf 9 = .ok (.imul, 1) := by decide +kernel
theorem dX10_whatOf_10 : decode cX10_whatOf 10 = .ok (.iadd, 1) := by decide +kernel
theorem dX10_whatOf_11 : decode cX10_whatOf 11 = .ok (.iaload, 1) := by decide +kernel
theorem dX10_whatOf_12 : decode cX10_whatOf 12 = .ok (.ireturn, 1) := by decide +kernel
theorem dX10_findBegins_0 : decode cX10_findBegins 0 = .ok (.iconst 0, 1) := by decide +kernel
theorem dX10_findBegins_1 : decode cX10_findBegins 1 = .ok (.istore_n 3, 1) := by decide +kernel
theorem dX10_findBegins_2 : decode cX10_findBegins 2 = .ok (.iload_n 1, 1) := by decide +kernel
theorem dX10_findBegins_3 : decode cX10_findBegins 3 = .ok (.istore 4, 2) := by decide +kernel
theorem dX10_findBegins_5 : decode cX10_findBegins 5 = .ok (.iload 4, 2) := by decide +kernel
theorem dX10_findBegins_7 : decode cX10_findBegins 7 = .ok (.iload_n 1, 1) := by decide +kernel
theorem dX10_findBegins_8 : decode cX10_findBegins 8 = .ok (.iload_n 2, 1) := by decide +kernel
theorem dX10_findBegins_9 : decode cX10_findBegins 9 = .ok (.iadd, 1) := by decide +kernel
theorem dX10_findBegins_10 : decode cX10_findBegins 10 = .ok (.if_icmp .ge 82, 3) := by decide +kernel
theorem dX10_findBegins_13 : decode cX10_findBegins 13 = .ok (.aload_n 0, 1) := by decide +kernel
theorem dX10_findBegins_14 : decode cX10_findBegins 14 = .ok (.iload 4, 2) := by decide +kernel
theorem dX10_findBegins_16 : decode cX10_findBegins 16 = .ok (.invokevirtual 263, 3) := by decide +kernel
theorem dX10_findBegins_19 : decode cX10_findBegins 19 = .ok (.istore 5, 2) := by decide +kernel
theorem dX10_findBegins_21 : decode cX10_findBegins 21 = .ok (.iload 4, 2) := by decide +kernel
theorem dX10_findBegins_23 : decode cX10_findBegins 23 = .ok (.istore 6, 2) := by decide +kernel
theorem dX10_findBegins_25 : decode cX10_findBegins 25 = .ok (.iload 5, 2) := by decide +kernel
theorem dX10_findBegins_27 : decode cX10_findBegins 27 = .ok (.bipush 11, 2) := by decide +kernel
theorem dX10_findBegins_29 : decode cX10_findBegins 29 = .ok (.if_icmp .le 17, 3) := by decide +kernel
theorem dX10_findBegins_32 : decode cX10_findBegins 32 = .ok (.iinc 3 (-2), 3) := by decide +kernel
theorem dX10_findBegins_35 : decode cX10_findBegins 35 = .ok (.aload_n 0, 1) := by decide +kernel
theorem dX10_findBegins_36 : decode cX10_findBegins 36 = .ok (.getfield 53, 3) := by decide +kernel
theorem dX10_findBegins_39 : decode cX10_findBegins 39 = .ok (.iload_n 3, 1) := by decide +kernel
theorem dX10_findBegins_40 : decode cX10_findBegins 40 = .ok (.iaload, 1) := by decide +kernel
theorem dX10_findBegins_41 : decode cX10_findBegins 41 = .ok (.istore 6, 2) := by decide +kernel
theorem dX10_findBegins_43 : decode cX10_findBegins 43 = .ok (.goto 21, 3) := by decide +kernel
theorem dX10_findBegins_46 : decode cX10_findBegins 46 = .ok (.iload 5, 2) := by decide +kernel
theorem dX10_findBegins_48 : decode cX10_findBegins 48 = .ok (.bipush 9, 2) := by decide +kernel
theorem dX10_findBegins_50 : decode cX10_findBegins 50 = .ok (.if_icmp .le 14, 3) := by decide +kernel
theorem dX10_findBegins_53 : decode cX10_findBegins 53 = .ok (.iinc 3 (-1), 3) := by decide +kernel
theorem dX10_findBegins_56 : decode cX10_findBegins 56 = .ok (.aload_n 0, 1) := by decide +kernel
theorem dX10_findBegins_57 : decode cX10_findBegins 57 = .ok (.getfield 53, 3) := by decide +kernel
theorem dX10_findBegins_60 : decode cX10_findBegins 60 = .ok (.iload_n 3, 1) := by decide +kernel
theorem dX10_findBegins_61 : decode cX10_findBegins 61 = .ok (.iaload, 1) := by decide +kernel
theorem dX10_findBegins_62 : decode cX10_findBegins 62 = .ok (.istore 6, 2) := by decide +kernel
theorem dX10_findBegins_64 : decode cX10_findBegins 64 = .ok (.aload_n 0, 1) := by decide +kernel
theorem dX10_findBegins_65 : decode cX10_findBegins 65 = .ok (.getfield 47, 3) := by decide +kernel
theorem dX10_findBegins_68 : decode cX10_findBegins 68 = .ok (.iload 4, 2) := by decide +kernel
theorem dX10_findBegins_70 : decode cX10_findBegins 70 = .ok (.iload_n 1, 1) := by decide +kernel
theorem dX10_findBegins_71 : decode cX10_findBegins 71 = .ok (.isub, 1) := by decide +kernel
theorem dX10_findBegins_72 : decode cX10_findBegins 72 = .ok (.iload 6, 2) := by decide +kernel
theorem dX10_findBegins_74 : decode cX10_findBegins 74 = .ok (.iastore, 1) := by decide +kernel
theorem dX10_findBegins_75 : decode cX10_findBegins 75 = .ok (.aload_n 0, 1) := by decide +kernel
theorem dX10_findBegins_76 : decode cX10_findBegins 76 = .ok (.getfield 53, 3) := by decide +kernel
theorem dX10_findBegins_79 : decode cX10_findBegins 79 = .ok (.iload_n 3, 1) := by decide +kernel
theorem dX10_findBegins_80 : decode cX10_findBegins 80 = .ok (.iload 6, 2) := by decide +kernel
theorem dX10_findBegins_82 : decode cX10_findBegins 82 = .ok (.iastore, 1) := by decide +kernel
theorem dX10_findBegins_83 : decode cX10_findBegins 83 = .ok (.iinc 3 1, 3) := by decide +kernel
theorem dX10_findBegins_86 : decode cX10_findBegins 86 = .ok (.iinc 4 1, 3) := by decide +kernel
theorem dX10_findBegins_89 : decode cX10_findBegins 89 = .ok (.goto (-84), 3) := by decide +kernel
theorem dX10_findBegins_92 : decode cX10_findBegins 92 = .ok (.return_, 1) := by decide +kernel
theorem dX10_add_0 : decode cX10_add 0 = .ok (.aload_n 0, 1) := by decide +kernel
theorem dX10_add_1 : decode cX10_add 1 = .ok (.getfield 50, 3) := by decide +kernel
theorem dX10_add_4 : decode cX10_add 4 = .ok (.aload_n 0, 1) := by decide +kernel
theorem dX10_add_5 : decode cX10_add 5 = .ok (.getfield 266, 3) := by decide +kernel
theorem dX10_add_8 : decode cX10_add 8 = .ok (.iload_n 1, 1) := by decide +kernel
theorem dX10_add_9 : decode cX10_add 9 = .ok (.iastore, 1) := by decide +kernel
theorem dX10_add_10 : decode cX10_add 10 = .ok (.aload_n 0, 1) := by decide +kernel
theorem dX10_add_11 : decode cX10_add 11 = .ok (.dup, 1) := by decide +kernel
theorem dX10_add_12 : decode cX10_add 12 = .ok (.getfield 266, 3) := by decide +kernel
theorem dX10_add_15 : decode cX10_add 15 = .ok (.iconst 1, 1) := by decide +kernel
theorem dX10_add_16 : decode cX10_add 16 = .ok (.iadd, 1) := by decide +kernel
theorem dX10_add_17 : decode cX10_add 17 = .ok (.putfield 266, 3) := by decide +kernel
theorem dX10_add_20 : decode cX10_add 20 = .ok (.return_, 1) := by decide +kernel
theorem dX10_addSide_0 : decode cX10_addSide 0 = .ok (.iload_n 2, 1) := by decide +kernel
theorem dX10_addSide_1 : decode cX10_addSide 1 = .ok (.ifCond .eq 8, 3) := by decide +kernel
theorem dX10_addSide_4 : decode cX10_addSide 4 = .ok (.aload_n 0, 1) := by decide +kernel
theorem dX10_addSide_5 : decode cX10_addSide 5 = .ok (.iconst 3, 1) := by decide +kernel
theorem dX10_addSide_6 : decode cX10_addSide 6 = .ok (.invokevirtual 269, 3) := by decide +kernel
theorem dX10_addSide_9 : decode cX10_addSide 9 = .ok (.aload_n 0, 1) := by decide +kernel
theorem dX10_addSide_10 : decode cX10_addSide 10 = .ok (.iconst 2, 1) := by decide +kernel
theorem dX10_addSide_11 : decode cX10_addSide 11 = .ok (.iload_n 1, 1) := by decide +kernel
theorem dX10_addSide_12 : decode cX10_addSide 12 = .ok (.imul, 1) := by decide +kernel
theorem dX10_addSide_13 : decode cX10_addSide 13 = .ok (.invokevirtual 269, 3) := by decide +kernel
theorem dX10_addSide_16 : decode cX10_addSide 16 = .ok (.iload_n 2, 1) := by decide +kernel
theorem dX10_addSide_17 : decode cX10_addSide 17 = .ok (.ifCond .eq 8, 3) := by decide +kernel
theorem dX10_addSide_20 : decode cX10_addSide 20 = .ok (.aload_n 0, 1) := by decide +kernel
theorem dX10_addSide_21 : decode cX10_addSide 21 = .ok (.iconst 1, 1) := by decide +kernel
theorem dX10_addSide_22 : decode cX10_addSide 22 = .ok (.invokevirtual 269, 3) := by decide +kernel
theorem dX10_addSide_25 : decode cX10_addSide 25 = .ok (.return_, 1) := by decide +kernel
theorem dX10_sayLeaf_0 : decode cX10_sayLeaf 0 = .ok (.aload_n 0, 1) := by decide +kernel
theorem dX10_sayLeaf_1 : decode cX10_sayLeaf 1 = .ok (.getfield 25, 3) := by decide +kernel
theorem dX10_sayLeaf_4 : decode cX10_sayLeaf 4 = .ok (.sipush 4001, 3) := by decide +kernel
theorem dX10_sayLeaf_7 : decode cX10_sayLeaf 7 = .ok (.iconst 2, 1) := by decide +kernel
theorem dX10_sayLeaf_8 : decode cX10_sayLeaf 8 = .ok (.iload_n 1, 1) := by decide +kernel
theorem dX10_sayLeaf_9 : decode cX10_sayLeaf 9 = .ok (.imul, 1) := by decide +kernel
theorem dX10_sayLeaf_10 : decode cX10_sayLeaf 10 = .ok (.iadd, 1) := by decide +kernel
theorem dX10_sayLeaf_11 : decode cX10_sayLeaf 11 = .ok (.iaload, 1) := by decide +kernel
theorem dX10_sayLeaf_12 : decode cX10_sayLeaf 12 = .ok (.istore_n 2, 1) := by decide +kernel
theorem dX10_sayLeaf_13 : decode cX10_sayLeaf 13 = .ok (.aload_n 0, 1) := by decide +kernel
theorem dX10_sayLeaf_14 : decode cX10_sayLeaf 14 = .ok (.iload_n 1, 1) := by decide +kernel
theorem dX10_sayLeaf_15 : decode cX10_sayLeaf 15 = .ok (.invokevirtual 263, 3) := by decide +kernel
theorem dX10_sayLeaf_18 : decode cX10_sayLeaf 18 = .ok (.istore_n 3, 1) := by decide +kernel
theorem dX10_sayLeaf_19 : decode cX10_sayLeaf 19 = .ok (.iload_n 3, 1) := by decide +kernel
theorem dX10_sayLeaf_20 : decode cX10_sayLeaf 20 = .ok (.ifCond .ne 13, 3) := by decide +kernel
theorem dX10_sayLeaf_23 : decode cX10_sayLeaf 23 = .ok (.aload_n 0, 1) := by decide +kernel
theorem dX10_sayLeaf_24 : decode cX10_sayLeaf 24 = .ok (.iload_n 2, 1) := by decide +kernel
theorem dX10_sayLeaf_25 : decode cX10_sayLeaf 25 = .ok (.i2l, 1) := by decide +kernel
theorem dX10_sayLeaf_26 : decode cX10_sayLeaf 26 = .ok (.ldc2_w 272, 3) := by decide +kernel
theorem dX10_sayLeaf_29 : decode cX10_sayLeaf 29 = .ok (.land, 1) := by decide +kernel
theorem dX10_sayLeaf_30 : decode cX10_sayLeaf 30 = .ok (.invokevirtual 259, 3) := by decide +kernel
theorem dX10_sayLeaf_33 : decode cX10_sayLeaf 33 = .ok (.iload_n 3, 1) := by decide +kernel
theorem dX10_sayLeaf_34 : decode cX10_sayLeaf 34 = .ok (.iconst 1, 1) := by decide +kernel
theorem dX10_sayLeaf_35 : decode cX10_sayLeaf 35 = .ok (.if_icmp .ne 8, 3) := by decide +kernel
theorem dX10_sayLeaf_38 : decode cX10_sayLeaf 38 = .ok (.aload_n 0, 1) := by decide +kernel
theorem dX10_sayLeaf_39 : decode cX10_sayLeaf 39 = .ok (.iload_n 2, 1) := by decide +kernel
theorem dX10_sayLeaf_40 : decode cX10_sayLeaf 40 = .ok (.invokevirtual 274, 3) := by decide +kernel
theorem dX10_sayLeaf_43 : decode cX10_sayLeaf 43 = .ok (.iload_n 3, 1) := by decide +kernel
theorem dX10_sayLeaf_44 : decode cX10_sayLeaf 44 = .ok (.iconst 2, 1) := by decide +kernel
theorem dX10_sayLeaf_45 : decode cX10_sayLeaf 45 = .ok (.if_icmp .ne 31, 3) := by decide +kernel
theorem dX10_sayLeaf_48 : decode cX10_sayLeaf 48 = .ok (.aload_n 0, 1) := by decide +kernel
theorem dX10_sayLeaf_49 : decode cX10_sayLeaf 49 = .ok (.bipush 48, 2) := by decide +kernel
theorem dX10_sayLeaf_51 : decode cX10_sayLeaf 51 = .ok (.iload_n 2, 1) := by decide +kernel
theorem dX10_sayLeaf_52 : decode cX10_sayLeaf 52 = .ok (.iconst 2, 1) := by decide +kernel
theorem dX10_sayLeaf_53 : decode cX10_sayLeaf 53 = .ok (.idiv, 1) := by decide +kernel
theorem dX10_sayLeaf_54 : decode cX10_sayLeaf 54 = .ok (.iadd, 1) := by decide +kernel
theorem dX10_sayLeaf_55 : decode cX10_sayLeaf 55 = .ok (.invokevirtual 256, 3) := by decide +kernel
theorem dX10_sayLeaf_58 : decode cX10_sayLeaf 58 = .ok (.aload_n 0, 1) := by decide +kernel
theorem dX10_sayLeaf_59 : decode cX10_sayLeaf 59 = .ok (.iload_n 2, 1) := by decide +kernel
theorem dX10_sayLeaf_60 : decode cX10_sayLeaf 60 = .ok (.iconst 2, 1) := by decide +kernel
theorem dX10_sayLeaf_61 : decode cX10_sayLeaf 61 = .ok (.irem, 1) := by decide +kernel
theorem dX10_sayLeaf_62 : decode cX10_sayLeaf 62 = .ok (.iconst 1, 1) := by decide +kernel
theorem dX10_sayLeaf_63 : decode cX10_sayLeaf 63 = .ok (.if_icmp .ne 8, 3) := by decide +kernel
theorem dX10_sayLeaf_66 : decode cX10_sayLeaf 66 = .ok (.bipush 102, 2) := by decide +kernel
theorem dX10_sayLeaf_68 : decode cX10_sayLeaf 68 = .ok (.goto 5, 3) := by decide +kernel
theorem dX10_sayLeaf_71 : decode cX10_sayLeaf 71 = .ok (.bipush 98, 2) := by decide +kernel
theorem dX10_sayLeaf_73 : decode cX10_sayLeaf 73 = .ok (.invokevirtual 256, 3) := by decide +kernel
theorem dX10_sayLeaf_76 : decode cX10_sayLeaf 76 = .ok (.iload_n 3, 1) := by decide +kernel
theorem dX10_sayLeaf_77 : decode cX10_sayLeaf 77 = .ok (.iconst 3, 1) := by decide +kernel
theorem dX10_sayLeaf_78 : decode cX10_sayLeaf 78 = .ok (.if_icmp .ne 9, 3) := by decide +kernel
theorem dX10_sayLeaf_81 : decode cX10_sayLeaf 81 = .ok (.aload_n 0, 1) := by decide +kernel
theorem dX10_sayLeaf_82 : decode cX10_sayLeaf 82 = .ok (.bipush 46, 2) := by decide +kernel
theorem dX10_sayLeaf_84 : decode cX10_sayLeaf 84 = .ok (.invokevirtual 256, 3) := by decide +kernel
theorem dX10_sayLeaf_87 : decode cX10_sayLeaf 87 = .ok (.return_, 1) := by decide +kernel
theorem dX10_sayItems_0 : decode cX10_sayItems 0 = .ok (.aload_n 0, 1) := by decide +kernel
theorem dX10_sayItems_1 : decode cX10_sayItems 1 = .ok (.iload_n 1, 1) := by decide +kernel
theorem dX10_sayItems_2 : decode cX10_sayItems 2 = .ok (.iload_n 2, 1) := by decide +kernel
theorem dX10_sayItems_3 : decode cX10_sayItems 3 = .ok (.invokevirtual 277, 3) := by decide +kernel
theorem dX10_sayItems_6 : decode cX10_sayItems 6 = .ok (.aload_n 0, 1) := by decide +kernel
theorem dX10_sayItems_7 : decode cX10_sayItems 7 = .ok (.iconst 0, 1) := by decide +kernel
theorem dX10_sayItems_8 : decode cX10_sayItems 8 = .ok (.putfield 266, 3) := by decide +kernel
theorem dX10_sayItems_11 : decode cX10_sayItems 11 = .ok (.aload_n 0, 1) := by decide +kernel
theorem dX10_sayItems_12 : decode cX10_sayItems 12 = .ok (.iconst 2, 1) := by decide +kernel
theorem dX10_sayItems_13 : decode cX10_sayItems 13 = .ok (.iload_n 1, 1) := by decide +kernel
theorem dX10_sayItems_14 : decode cX10_sayItems 14 = .ok (.iload_n 2, 1) := by decide +kernel
theorem dX10_sayItems_15 : decode cX10_sayItems 15 = .ok (.iadd, 1) := by decide +kernel
theorem dX10_sayItems_16 : decode cX10_sayItems 16 = .ok (.iconst 1, 1) := by decide +kernel
theorem dX10_sayItems_17 : decode cX10_sayItems 17 = .ok (.isub, 1) := by decide +kernel
theorem dX10_sayItems_18 : decode cX10_sayItems 18 = .ok (.imul, 1) := by decide +kernel
theorem dX10_sayItems_19 : decode cX10_sayItems 19 = .ok (.invokevirtual 269, 3) := by decide +kernel
theorem dX10_sayItems_22 : decode cX10_sayItems 22 = .ok (.aload_n 0, 1) := by decide +kernel
theorem dX10_sayItems_23 : decode cX10_sayItems 23 = .ok (.getfield 266, 3) := by decide +kernel
theorem dX10_sayItems_26 : decode cX10_sayItems 26 = .ok (.ifCond .le 285, 3) := by decide +kernel
theorem dX10_sayItems_29 : decode cX10_sayItems 29 = .ok (.aload_n 0, 1) := by decide +kernel
theorem dX10_sayItems_30 : decode cX10_sayItems 30 = .ok (.dup, 1) := by decide +kernel
theorem dX10_sayItems_31 : decode cX10_sayItems 31 = .ok (.getfield 266, 3) := by decide +kernel
theorem dX10_sayItems_34 : decode cX10_sayItems 34 = .ok (.iconst 1, 1) := by decide +kernel
theorem dX10_sayItems_35 : decode cX10_sayItems 35 = .ok (.isub, 1) := by decide +kernel
theorem dX10_sayItems_36 : decode cX10_sayItems 36 = .ok (.putfield 266, 3) := by decide +kernel
theorem dX10_sayItems_39 : decode cX10_sayItems 39 = .ok (.aload_n 0, 1) := by decide +kernel
theorem dX10_sayItems_40 : decode cX10_sayItems 40 = .ok (.getfield 50, 3) := by decide +kernel
theorem dX10_sayItems_43 : decode cX10_sayItems 43 = .ok (.aload_n 0, 1) := by decide +kernel
theorem dX10_sayItems_44 : decode cX10_sayItems 44 = .ok (.getfield 266, 3) := by decide +kernel
theorem dX10_sayItems_47 : decode cX10_sayItems 47 = .ok (.iaload, 1) := by decide +kernel
theorem dX10_sayItems_48 : decode cX10_sayItems 48 = .ok (.istore_n 3, 1) := by decide +kernel
theorem dX10_sayItems_49 : decode cX10_sayItems 49 = .ok (.iload_n 3, 1) := by decide +kernel
theorem dX10_sayItems_50 : decode cX10_sayItems 50 = .ok (.iconst 2, 1) := by decide +kernel
theorem dX10_sayItems_51 : decode cX10_sayItems 51 = .ok (.irem, 1) := by decide +kernel
theorem dX10_sayItems_52 : decode cX10_sayItems 52 = .ok (.iconst 1, 1) := by decide +kernel
theorem dX10_sayItems_53 : decode cX10_sayItems 53 = .ok (.if_icmp .ne 58, 3) := by decide +kernel
theorem dX10_sayItems_56 : decode cX10_sayItems 56 = .ok (.iload_n 3, 1) := by decide +kernel
theorem dX10_sayItems_57 : decode cX10_sayItems 57 = .ok (.iconst 1, 1) := by decide +kernel
theorem dX10_sayItems_58 : decode cX10_sayItems 58 = .ok (.if_icmp .ne 12, 3) := by decide +kernel
theorem dX10_sayItems_61 : decode cX10_sayItems 61 = .ok (.aload_n 0, 1) := by decide +kernel
theorem dX10_sayItems_62 : decode cX10_sayItems 62 = .ok (.bipush 40, 2) := by decide +kernel
theorem dX10_sayItems_64 : decode cX10_sayItems 64 = .ok (.invokevirtual 256, 3) := by decide +kernel
theorem dX10_sayItems_67 : decode cX10_sayItems 67 = .ok (.goto (-45), 3) := by decide +kernel
theorem dX10_sayItems_70 : decode cX10_sayItems 70 = .ok (.iload_n 3, 1) := by decide +kernel
theorem dX10_sayItems_71 : decode cX10_sayItems 71 = .ok (.iconst 3, 1) := by decide +kernel
theorem dX10_sayItems_72 : decode cX10_sayItems 72 = .ok (.if_icmp .ne 12, 3) := by decide +kernel
theorem dX10_sayItems_75 : decode cX10_sayItems 75 = .ok (.aload_n 0, 1) := by decide +kernel
theorem dX10_sayItems_76 : decode cX10_sayItems 76 = .ok (.bipush 41, 2) := by decide +kernel
theorem dX10_sayItems_78 : decode cX10_sayItems 78 = .ok (.invokevirtual 256, 3) := by decide +kernel
theorem dX10_sayItems_81 : decode cX10_sayItems 81 = .ok (.goto (-59), 3) := by decide +kernel
theorem dX10_sayItems_84 : decode cX10_sayItems 84 = .ok (.iload_n 3, 1) := by decide +kernel
theorem dX10_sayItems_85 : decode cX10_sayItems 85 = .ok (.iconst 5, 1) := by decide +kernel
theorem dX10_sayItems_86 : decode cX10_sayItems 86 = .ok (.if_icmp .ne 12, 3) := by decide +kernel
theorem dX10_sayItems_89 : decode cX10_sayItems 89 = .ok (.aload_n 0, 1) := by decide +kernel
theorem dX10_sayItems_90 : decode cX10_sayItems 90 = .ok (.bipush 32, 2) := by decide +kernel
theorem dX10_sayItems_92 : decode cX10_sayItems 92 = .ok (.invokevirtual 256, 3) := by decide +kernel
theorem dX10_sayItems_95 : decode cX10_sayItems 95 = .ok (.goto (-73), 3) := by decide +kernel
theorem dX10_sayItems_98 : decode cX10_sayItems 98 = .ok (.aload_n 0, 1) := by decide +kernel
theorem dX10_sayItems_99 : decode cX10_sayItems 99 = .ok (.iload_n 3, 1) := by decide +kernel
theorem dX10_sayItems_100 : decode cX10_sayItems 100 = .ok (.bipush 101, 2) := by decide +kernel
theorem dX10_sayItems_102 : decode cX10_sayItems 102 = .ok (.isub, 1) := by decide +kernel
theorem dX10_sayItems_103 : decode cX10_sayItems 103 = .ok (.iconst 2, 1) := by decide +kernel
theorem dX10_sayItems_104 : decode cX10_sayItems 104 = .ok (.idiv, 1) := by decide +kernel
theorem dX10_sayItems_105 : decode cX10_sayItems 105 = .ok (.invokevirtual 280, 3) := by decide +kernel
theorem dX10_sayItems_108 : decode cX10_sayItems 108 = .ok (.goto (-86), 3) := by decide +kernel
theorem dX10_sayItems_111 : decode cX10_sayItems 111 = .ok (.iload_n 3, 1) := by decide +kernel
theorem dX10_sayItems_112 : decode cX10_sayItems 112 = .ok (.iconst 2, 1) := by decide +kernel
theorem dX10_sayItems_113 : decode cX10_sayItems 113 = .ok (.idiv, 1) := by decide +kernel
theorem dX10_sayItems_114 : decode cX10_sayItems 114 = .ok (.istore 4, 2) := by decide +kernel
theorem dX10_sayItems_116 : decode cX10_sayItems 116 = .ok (.aload_n 0, 1) := by decide +kernel
theorem dX10_sayItems_117 : decode cX10_sayItems 117 = .ok (.iload 4, 2) := by decide +kernel
theorem dX10_sayItems_119 : decode cX10_sayItems 119 = .ok (.invokevirtual 263, 3) := by decide +kernel
theorem dX10_sayItems_122 : decode cX10_sayItems 122 = .ok (.istore 5, 2) := by decide +kernel
theorem dX10_sayItems_124 : decode cX10_sayItems 124 = .ok (.iload 5, 2) := by decide +kernel
theorem dX10_sayItems_126 : decode cX10_sayItems 126 = .ok (.bipush 10, 2) := by decide +kernel
theorem dX10_sayItems_128 : decode cX10_sayItems 128 = .ok (.if_icmp .ge 12, 3) := by decide +kernel
theorem dX10_sayItems_131 : decode cX10_sayItems 131 = .ok (.aload_n 0, 1) := by decide +kernel
theorem dX10_sayItems_132 : decode cX10_sayItems 132 = .ok (.iload 4, 2) := by decide +kernel
theorem dX10_sayItems_134 : decode cX10_sayItems 134 = .ok (.invokevirtual 283, 3) := by decide +kernel
theorem dX10_sayItems_137 : decode cX10_sayItems 137 = .ok (.goto 171, 3) := by decide +kernel
theorem dX10_sayItems_140 : decode cX10_sayItems 140 = .ok (.iload 5, 2) := by decide +kernel
theorem dX10_sayItems_142 : decode cX10_sayItems 142 = .ok (.bipush 12, 2) := by decide +kernel
theorem dX10_sayItems_144 : decode cX10_sayItems 144 = .ok (.if_icmp .ge 38, 3) := by decide +kernel
theorem dX10_sayItems_147 : decode cX10_sayItems 147 = .ok (.aload_n 0, 1) := by decide +kernel
theorem dX10_sayItems_148 : decode cX10_sayItems 148 = .ok (.iload 5, 2) := by decide +kernel
theorem dX10_sayItems_150 : decode cX10_sayItems 150 = .ok (.invokevirtual 280, 3) := by decide +kernel
theorem dX10_sayItems_153 : decode cX10_sayItems 153 = .ok (.aload_n 0, 1) := by decide +kernel
theorem dX10_sayItems_154 : decode cX10_sayItems 154 = .ok (.iload 4, 2) := by decide +kernel
theorem dX10_sayItems_156 : decode cX10_sayItems 156 = .ok (.iconst 1, 1) := by decide +kernel
theorem dX10_sayItems_157 : decode cX10_sayItems 157 = .ok (.isub, 1) := by decide +kernel
theorem dX10_sayItems_158 : decode cX10_sayItems 158 = .ok (.aload_n 0, 1) := by decide +kernel
theorem dX10_sayItems_159 : decode cX10_sayItems 159 = .ok (.iload 4, 2) := by decide +kernel
theorem dX10_sayItems_161 : decode cX10_sayItems 161 = .ok (.iconst 1, 1) := by decide +kernel
theorem dX10_sayItems_162 : decode cX10_sayItems 162 = .ok (.isub, 1) := by decide +kernel
theorem dX10_sayItems_163 : decode cX10_sayItems 163 = .ok (.invokevirtual 263, 3) := by decide +kernel
theorem dX10_sayItems_166 : decode cX10_sayItems 166 = .ok (.bipush 11, 2) := by decide +kernel
theorem dX10_sayItems_168 : decode cX10_sayItems 168 = .ok (.if_icmp .le 7, 3) := by decide +kernel
theorem dX10_sayItems_171 : decode cX10_sayItems 171 = .ok (.iconst 1, 1) := by decide +kernel
theorem dX10_sayItems_172 : decode cX10_sayItems 172 = .ok (.goto 4, 3) := by decide +kernel
theorem dX10_sayItems_175 : decode cX10_sayItems 175 = .ok (.iconst 0, 1) := by decide +kernel
theorem dX10_sayItems_176 : decode cX10_sayItems 176 = .ok (.invokevirtual 286, 3) := by decide +kernel
theorem dX10_sayItems_179 : decode cX10_sayItems 179 = .ok (.goto 129, 3) := by decide +kernel
theorem dX10_sayItems_182 : decode cX10_sayItems 182 = .ok (.iload 4, 2) := by decide +kernel
theorem dX10_sayItems_184 : decode cX10_sayItems 184 = .ok (.iconst 1, 1) := by decide +kernel
theorem dX10_sayItems_185 : decode cX10_sayItems 185 = .ok (.isub, 1) := by decide +kernel
theorem dX10_sayItems_186 : decode cX10_sayItems 186 = .ok (.istore 6, 2) := by decide +kernel
theorem dX10_sayItems_188 : decode cX10_sayItems 188 = .ok (.aload_n 0, 1) := by decide +kernel
theorem dX10_sayItems_189 : decode cX10_sayItems 189 = .ok (.getfield 47, 3) := by decide +kernel
theorem dX10_sayItems_192 : decode cX10_sayItems 192 = .ok (.iload 6, 2) := by decide +kernel
theorem dX10_sayItems_194 : decode cX10_sayItems 194 = .ok (.iload_n 1, 1) := by decide +kernel
theorem dX10_sayItems_195 : decode cX10_sayItems 195 = .ok (.isub, 1) := by decide +kernel
theorem dX10_sayItems_196 : decode cX10_sayItems 196 = .ok (.iaload, 1) := by decide +kernel
theorem dX10_sayItems_197 : decode cX10_sayItems 197 = .ok (.iconst 1, 1) := by decide +kernel
theorem dX10_sayItems_198 : decode cX10_sayItems 198 = .ok (.isub, 1) := by decide +kernel
theorem dX10_sayItems_199 : decode cX10_sayItems 199 = .ok (.istore 7, 2) := by decide +kernel
theorem dX10_sayItems_201 : decode cX10_sayItems 201 = .ok (.aload_n 0, 1) := by decide +kernel
theorem dX10_sayItems_202 : decode cX10_sayItems 202 = .ok (.iload 7, 2) := by decide +kernel
theorem dX10_sayItems_204 : decode cX10_sayItems 204 = .ok (.invokevirtual 263, 3) := by decide +kernel
theorem dX10_sayItems_207 : decode cX10_sayItems 207 = .ok (.bipush 11, 2) := by decide +kernel
theorem dX10_sayItems_209 : decode cX10_sayItems 209 = .ok (.if_icmp .le 24, 3) := by decide +kernel
theorem dX10_sayItems_212 : decode cX10_sayItems 212 = .ok (.aload_n 0, 1) := by decide +kernel
theorem dX10_sayItems_213 : decode cX10_sayItems 213 = .ok (.iload 7, 2) := by decide +kernel
theorem dX10_sayItems_215 : decode cX10_sayItems 215 = .ok (.invokevirtual 263, 3) := by decide +kernel
theorem dX10_sayItems_218 : decode cX10_sayItems 218 = .ok (.invokestatic 164, 3) := by decide +kernel
theorem dX10_sayItems_221 : decode cX10_sayItems 221 = .ok (.iload 5, 2) := by decide +kernel
theorem dX10_sayItems_223 : decode cX10_sayItems 223 = .ok (.invokestatic 164, 3) := by decide +kernel
theorem dX10_sayItems_226 : decode cX10_sayItems 226 = .ok (.if_icmp .ge 7, 3) := by decide +kernel
theorem dX10_sayItems_229 : decode cX10_sayItems 229 = .ok (.iconst 1, 1) := by decide +kernel
theorem dX10_sayItems_230 : decode cX10_sayItems 230 = .ok (.goto 4, 3) := by decide +kernel
theorem dX10_sayItems_233 : decode cX10_sayItems 233 = .ok (.iconst 0, 1) := by decide +kernel
theorem dX10_sayItems_234 : decode cX10_sayItems 234 = .ok (.istore 8, 2) := by decide +kernel
theorem dX10_sayItems_236 : decode cX10_sayItems 236 = .ok (.aload_n 0, 1) := by decide +kernel
theorem dX10_sayItems_237 : decode cX10_sayItems 237 = .ok (.iload 6, 2) := by decide +kernel
theorem dX10_sayItems_239 : decode cX10_sayItems 239 = .ok (.invokevirtual 263, 3) := by decide +kernel
theorem dX10_sayItems_242 : decode cX10_sayItems 242 = .ok (.bipush 11, 2) := by decide +kernel
theorem dX10_sayItems_244 : decode cX10_sayItems 244 = .ok (.if_icmp .le 24, 3) := by decide +kernel
theorem dX10_sayItems_247 : decode cX10_sayItems 247 = .ok (.aload_n 0, 1) := by decide +kernel
theorem dX10_sayItems_248 : decode cX10_sayItems 248 = .ok (.iload 6, 2) := by decide +kernel
theorem dX10_sayItems_250 : decode cX10_sayItems 250 = .ok (.invokevirtual 263, 3) := by decide +kernel
theorem dX10_sayItems_253 : decode cX10_sayItems 253 = .ok (.invokestatic 164, 3) := by decide +kernel
theorem dX10_sayItems_256 : decode cX10_sayItems 256 = .ok (.iload 5, 2) := by decide +kernel
theorem dX10_sayItems_258 : decode cX10_sayItems 258 = .ok (.invokestatic 164, 3) := by decide +kernel
theorem dX10_sayItems_261 : decode cX10_sayItems 261 = .ok (.if_icmp .gt 7, 3) := by decide +kernel
theorem dX10_sayItems_264 : decode cX10_sayItems 264 = .ok (.iconst 1, 1) := by decide +kernel
theorem dX10_sayItems_265 : decode cX10_sayItems 265 = .ok (.goto 4, 3) := by decide +kernel
theorem dX10_sayItems_268 : decode cX10_sayItems 268 = .ok (.iconst 0, 1) := by decide +kernel
theorem dX10_sayItems_269 : decode cX10_sayItems 269 = .ok (.istore 9, 2) := by decide +kernel
theorem dX10_sayItems_271 : decode cX10_sayItems 271 = .ok (.aload_n 0, 1) := by decide +kernel
theorem dX10_sayItems_272 : decode cX10_sayItems 272 = .ok (.iload 6, 2) := by decide +kernel
theorem dX10_sayItems_274 : decode cX10_sayItems 274 = .ok (.iload 9, 2) := by decide +kernel
theorem dX10_sayItems_276 : decode cX10_sayItems 276 = .ok (.invokevirtual 286, 3) := by decide +kernel
theorem dX10_sayItems_279 : decode cX10_sayItems 279 = .ok (.aload_n 0, 1) := by decide +kernel
theorem dX10_sayItems_280 : decode cX10_sayItems 280 = .ok (.iconst 5, 1) := by decide +kernel
theorem dX10_sayItems_281 : decode cX10_sayItems 281 = .ok (.invokevirtual 269, 3) := by decide +kernel
theorem dX10_sayItems_284 : decode cX10_sayItems 284 = .ok (.aload_n 0, 1) := by decide +kernel
theorem dX10_sayItems_285 : decode cX10_sayItems 285 = .ok (.iconst 2, 1) := by decide +kernel
theorem dX10_sayItems_286 : decode cX10_sayItems 286 = .ok (.iload 5, 2) := by decide +kernel
theorem dX10_sayItems_288 : decode cX10_sayItems 288 = .ok (.imul, 1) := by decide +kernel
theorem dX10_sayItems_289 : decode cX10_sayItems 289 = .ok (.bipush 101, 2) := by decide +kernel
theorem dX10_sayItems_291 : decode cX10_sayItems 291 = .ok (.iadd, 1) := by decide +kernel
theorem dX10_sayItems_292 : decode cX10_sayItems 292 = .ok (.invokevirtual 269, 3) := by decide +kernel
theorem dX10_sayItems_295 : decode cX10_sayItems 295 = .ok (.aload_n 0, 1) := by decide +kernel
theorem dX10_sayItems_296 : decode cX10_sayItems 296 = .ok (.iconst 5, 1) := by decide +kernel
theorem dX10_sayItems_297 : decode cX10_sayItems 297 = .ok (.invokevirtual 269, 3) := by decide +kernel
theorem dX10_sayItems_300 : decode cX10_sayItems 300 = .ok (.aload_n 0, 1) := by decide +kernel
theorem dX10_sayItems_301 : decode cX10_sayItems 301 = .ok (.iload 7, 2) := by decide +kernel
theorem dX10_sayItems_303 : decode cX10_sayItems 303 = .ok (.iload 8, 2) := by decide +kernel
theorem dX10_sayItems_305 : decode cX10_sayItems 305 = .ok (.invokevirtual 286, 3) := by decide +kernel
theorem dX10_sayItems_308 : decode cX10_sayItems 308 = .ok (.goto (-286), 3) := by decide +kernel
theorem dX10_sayItems_311 : decode cX10_sayItems 311 = .ok (.return_, 1) := by decide +kernel
theorem dX10_sayMark_0 : decode cX10_sayMark 0 = .ok (.aload_n 0, 1) := by decide +kernel
theorem dX10_sayMark_1 : decode cX10_sayMark 1 = .ok (.bipush 37, 2) := by decide +kernel
theorem dX10_sayMark_3 : decode cX10_sayMark 3 = .ok (.invokevirtual 256, 3) := by decide +kernel
theorem dX10_sayMark_6 : decode cX10_sayMark 6 = .ok (.iload_n 1, 1) := by decide +kernel
theorem dX10_sayMark_7 : decode cX10_sayMark 7 = .ok (.iconst 2, 1) := by decide +kernel
theorem dX10_sayMark_8 : decode cX10_sayMark 8 = .ok (.if_icmp .le 39, 3) := by decide +kernel
theorem dX10_sayMark_11 : decode cX10_sayMark 11 = .ok (.aload_n 0, 1) := by decide +kernel
theorem dX10_sayMark_12 : decode cX10_sayMark 12 = .ok (.bipush 112, 2) := by decide +kernel
theorem dX10_sayMark_14 : decode cX10_sayMark 14 = .ok (.invokevirtual 256, 3) := by decide +kernel
theorem dX10_sayMark_17 : decode cX10_sayMark 17 = .ok (.aload_n 0, 1) := by decide +kernel
theorem dX10_sayMark_18 : decode cX10_sayMark 18 = .ok (.bipush 99, 2) := by decide +kernel
theorem dX10_sayMark_20 : decode cX10_sayMark 20 = .ok (.invokevirtual 256, 3) := by decide +kernel
theorem dX10_sayMark_23 : decode cX10_sayMark 23 = .ok (.aload_n 0, 1) := by decide +kernel
theorem dX10_sayMark_24 : decode cX10_sayMark 24 = .ok (.bipush 114, 2) := by decide +kernel
theorem dX10_sayMark_26 : decode cX10_sayMark 26 = .ok (.invokevirtual 256, 3) := by decide +kernel
theorem dX10_sayMark_29 : decode cX10_sayMark 29 = .ok (.aload_n 0, 1) := by decide +kernel
theorem dX10_sayMark_30 : decode cX10_sayMark 30 = .ok (.bipush 101, 2) := by decide +kernel
theorem dX10_sayMark_32 : decode cX10_sayMark 32 = .ok (.invokevirtual 256, 3) := by decide +kernel
theorem dX10_sayMark_35 : decode cX10_sayMark 35 = .ok (.aload_n 0, 1) := by decide +kernel
theorem dX10_sayMark_36 : decode cX10_sayMark 36 = .ok (.bipush 108, 2) := by decide +kernel
theorem dX10_sayMark_38 : decode cX10_sayMark 38 = .ok (.invokevirtual 256, 3) := by decide +kernel
theorem dX10_sayMark_41 : decode cX10_sayMark 41 = .ok (.aload_n 0, 1) := by decide +kernel
theorem dX10_sayMark_42 : decode cX10_sayMark 42 = .ok (.bipush 95, 2) := by decide +kernel
theorem dX10_sayMark_44 : decode cX10_sayMark 44 = .ok (.invokevirtual 256, 3) := by decide +kernel
theorem dX10_sayMark_47 : decode cX10_sayMark 47 = .ok (.aload_n 0, 1) := by decide +kernel
theorem dX10_sayMark_48 : decode cX10_sayMark 48 = .ok (.iload_n 1, 1) := by decide +kernel
theorem dX10_sayMark_49 : decode cX10_sayMark 49 = .ok (.iconst 2, 1) := by decide +kernel
theorem dX10_sayMark_50 : decode cX10_sayMark 50 = .ok (.irem, 1) := by decide +kernel
theorem dX10_sayMark_51 : decode cX10_sayMark 51 = .ok (.iconst 1, 1) := by decide +kernel
theorem dX10_sayMark_52 : decode cX10_sayMark 52 = .ok (.if_icmp .ne 8, 3) := by decide +kernel
theorem dX10_sayMark_55 : decode cX10_sayMark 55 = .ok (.bipush 104, 2) := by decide +kernel
theorem dX10_sayMark_57 : decode cX10_sayMark 57 = .ok (.goto 5, 3) := by decide +kernel
theorem dX10_sayMark_60 : decode cX10_sayMark 60 = .ok (.bipush 108, 2) := by decide +kernel
theorem dX10_sayMark_62 : decode cX10_sayMark 62 = .ok (.invokevirtual 256, 3) := by decide +kernel
theorem dX10_sayMark_65 : decode cX10_sayMark 65 = .ok (.aload_n 0, 1) := by decide +kernel
theorem dX10_sayMark_66 : decode cX10_sayMark 66 = .ok (.iload_n 1, 1) := by decide +kernel
theorem dX10_sayMark_67 : decode cX10_sayMark 67 = .ok (.iconst 2, 1) := by decide +kernel
theorem dX10_sayMark_68 : decode cX10_sayMark 68 = .ok (.irem, 1) := by decide +kernel
theorem dX10_sayMark_69 : decode cX10_sayMark 69 = .ok (.iconst 1, 1) := by decide +kernel
theorem dX10_sayMark_70 : decode cX10_sayMark 70 = .ok (.if_icmp .ne 8, 3) := by decide +kernel
theorem dX10_sayMark_73 : decode cX10_sayMark 73 = .ok (.bipush 105, 2) := by decide +kernel
theorem dX10_sayMark_75 : decode cX10_sayMark 75 = .ok (.goto 5, 3) := by decide +kernel
theorem dX10_sayMark_78 : decode cX10_sayMark 78 = .ok (.bipush 111, 2) := by decide +kernel
theorem dX10_sayMark_80 : decode cX10_sayMark 80 = .ok (.invokevirtual 256, 3) := by decide +kernel
theorem dX10_sayMark_83 : decode cX10_sayMark 83 = .ok (.aload_n 0, 1) := by decide +kernel
theorem dX10_sayMark_84 : decode cX10_sayMark 84 = .ok (.bipush 40, 2) := by decide +kernel
theorem dX10_sayMark_86 : decode cX10_sayMark 86 = .ok (.invokevirtual 256, 3) := by decide +kernel
theorem dX10_sayMark_89 : decode cX10_sayMark 89 = .ok (.return_, 1) := by decide +kernel
theorem dX10_sayOperand_0 : decode cX10_sayOperand 0 = .ok (.sipush 5600, 3) := by decide +kernel
theorem dX10_sayOperand_3 : decode cX10_sayOperand 3 = .ok (.bipush 7, 2) := by decide +kernel
theorem dX10_sayOperand_5 : decode cX10_sayOperand 5 = .ok (.iload_n 1, 1) := by decide +kernel
theorem dX10_sayOperand_6 : decode cX10_sayOperand 6 = .ok (.imul, 1) := by decide +kernel
theorem dX10_sayOperand_7 : decode cX10_sayOperand 7 = .ok (.iadd, 1) := by decide +kernel
theorem dX10_sayOperand_8 : decode cX10_sayOperand 8 = .ok (.istore_n 2, 1) := by decide +kernel
theorem dX10_sayOperand_9 : decode cX10_sayOperand 9 = .ok (.aload_n 0, 1) := by decide +kernel
theorem dX10_sayOperand_10 : decode cX10_sayOperand 10 = .ok (.getfield 22, 3) := by decide +kernel
theorem dX10_sayOperand_13 : decode cX10_sayOperand 13 = .ok (.iload_n 2, 1) := by decide +kernel
theorem dX10_sayOperand_14 : decode cX10_sayOperand 14 = .ok (.iaload, 1) := by decide +kernel
theorem dX10_sayOperand_15 : decode cX10_sayOperand 15 = .ok (.iconst 1, 1) := by decide +kernel
theorem dX10_sayOperand_16 : decode cX10_sayOperand 16 = .ok (.if_icmp .ne 18, 3) := by decide +kernel
theorem dX10_sayOperand_19 : decode cX10_sayOperand 19 = .ok (.aload_n 0, 1) := by decide +kernel
theorem dX10_sayOperand_20 : decode cX10_sayOperand 20 = .ok (.aload_n 0, 1) := by decide +kernel
theorem dX10_sayOperand_21 : decode cX10_sayOperand 21 = .ok (.getfield 22, 3) := by decide +kernel
theorem dX10_sayOperand_24 : decode cX10_sayOperand 24 = .ok (.iload_n 2, 1) := by decide +kernel
theorem dX10_sayOperand_25 : decode cX10_sayOperand 25 = .ok (.iconst 1, 1) := by decide +kernel
theorem dX10_sayOperand_26 : decode cX10_sayOperand 26 = .ok (.iadd, 1) := by decide +kernel
theorem dX10_sayOperand_27 : decode cX10_sayOperand 27 = .ok (.iaload, 1) := by decide +kernel
theorem dX10_sayOperand_28 : decode cX10_sayOperand 28 = .ok (.invokevirtual 290, 3) := by decide +kernel
theorem dX10_sayOperand_31 : decode cX10_sayOperand 31 = .ok (.goto 115, 3) := by decide +kernel
theorem dX10_sayOperand_34 : decode cX10_sayOperand 34 = .ok (.aload_n 0, 1) := by decide +kernel
theorem dX10_sayOperand_35 : decode cX10_sayOperand 35 = .ok (.getfield 22, 3) := by decide +kernel
theorem dX10_sayOperand_38 : decode cX10_sayOperand 38 = .ok (.iload_n 2, 1) := by decide +kernel
theorem dX10_sayOperand_39 : decode cX10_sayOperand 39 = .ok (.iaload, 1) := by decide +kernel
theorem dX10_sayOperand_40 : decode cX10_sayOperand 40 = .ok (.iconst 3, 1) := by decide +kernel
theorem dX10_sayOperand_41 : decode cX10_sayOperand 41 = .ok (.if_icmp .ne 11, 3) := by decide +kernel
theorem dX10_sayOperand_44 : decode cX10_sayOperand 44 = .ok (.aload_n 0, 1) := by decide +kernel
theorem dX10_sayOperand_45 : decode cX10_sayOperand 45 = .ok (.iload_n 1, 1) := by decide +kernel
theorem dX10_sayOperand_46 : decode cX10_sayOperand 46 = .ok (.invokevirtual 293, 3) := by decide +kernel
theorem dX10_sayOperand_49 : decode cX10_sayOperand 49 = .ok (.goto 97, 3) := by decide +kernel
theorem dX10_sayOperand_52 : decode cX10_sayOperand 52 = .ok (.aload_n 0, 1) := by decide +kernel
theorem dX10_sayOperand_53 : decode cX10_sayOperand 53 = .ok (.getfield 22, 3) := by decide +kernel
theorem dX10_sayOperand_56 : decode cX10_sayOperand 56 = .ok (.iload_n 2, 1) := by decide +kernel
theorem dX10_sayOperand_57 : decode cX10_sayOperand 57 = .ok (.iconst 2, 1) := by decide +kernel
theorem dX10_sayOperand_58 : decode cX10_sayOperand 58 = .ok (.iadd, 1) := by decide +kernel
theorem dX10_sayOperand_59 : decode cX10_sayOperand 59 = .ok (.iaload, 1) := by decide +kernel
theorem dX10_sayOperand_60 : decode cX10_sayOperand 60 = .ok (.ifCond .le 15, 3) := by decide +kernel
theorem dX10_sayOperand_63 : decode cX10_sayOperand 63 = .ok (.aload_n 0, 1) := by decide +kernel
theorem dX10_sayOperand_64 : decode cX10_sayOperand 64 = .ok (.aload_n 0, 1) := by decide +kernel
theorem dX10_sayOperand_65 : decode cX10_sayOperand 65 = .ok (.getfield 22, 3) := by decide +kernel
theorem dX10_sayOperand_68 : decode cX10_sayOperand 68 = .ok (.iload_n 2, 1) := by decide +kernel
theorem dX10_sayOperand_69 : decode cX10_sayOperand 69 = .ok (.iconst 2, 1) := by decide +kernel
theorem dX10_sayOperand_70 : decode cX10_sayOperand 70 = .ok (.iadd, 1) := by decide +kernel
theorem dX10_sayOperand_71 : decode cX10_sayOperand 71 = .ok (.iaload, 1) := by decide +kernel
theorem dX10_sayOperand_72 : decode cX10_sayOperand 72 = .ok (.invokevirtual 296, 3) := by decide +kernel
theorem dX10_sayOperand_75 : decode cX10_sayOperand 75 = .ok (.aload_n 0, 1) := by decide +kernel
theorem dX10_sayOperand_76 : decode cX10_sayOperand 76 = .ok (.aload_n 0, 1) := by decide +kernel
theorem dX10_sayOperand_77 : decode cX10_sayOperand 77 = .ok (.getfield 22, 3) := by decide +kernel
theorem dX10_sayOperand_80 : decode cX10_sayOperand 80 = .ok (.iload_n 2, 1) := by decide +kernel
theorem dX10_sayOperand_81 : decode cX10_sayOperand 81 = .ok (.iconst 3, 1) := by decide +kernel
theorem dX10_sayOperand_82 : decode cX10_sayOperand 82 = .ok (.iadd, 1) := by decide +kernel
theorem dX10_sayOperand_83 : decode cX10_sayOperand 83 = .ok (.iaload, 1) := by decide +kernel
theorem dX10_sayOperand_84 : decode cX10_sayOperand 84 = .ok (.aload_n 0, 1) := by decide +kernel
theorem dX10_sayOperand_85 : decode cX10_sayOperand 85 = .ok (.getfield 22, 3) := by decide +kernel
theorem dX10_sayOperand_88 : decode cX10_sayOperand 88 = .ok (.iload_n 2, 1) := by decide +kernel
theorem dX10_sayOperand_89 : decode cX10_sayOperand 89 = .ok (.iconst 4, 1) := by decide +kernel
theorem dX10_sayOperand_90 : decode cX10_sayOperand 90 = .ok (.iadd, 1) := by decide +kernel
theorem dX10_sayOperand_91 : decode cX10_sayOperand 91 = .ok (.iaload, 1) := by decide +kernel
theorem dX10_sayOperand_92 : decode cX10_sayOperand 92 = .ok (.invokevirtual 299, 3) := by decide +kernel
theorem dX10_sayOperand_95 : decode cX10_sayOperand 95 = .ok (.aload_n 0, 1) := by decide +kernel
theorem dX10_sayOperand_96 : decode cX10_sayOperand 96 = .ok (.getfield 22, 3) := by decide +kernel
theorem dX10_sayOperand_99 : decode cX10_sayOperand 99 = .ok (.iload_n 2, 1) := by decide +kernel
theorem dX10_sayOperand_100 : decode cX10_sayOperand 100 = .ok (.iconst 2, 1) := by decide +kernel
theorem dX10_sayOperand_101 : decode cX10_sayOperand 101 = .ok (.iadd, 1) := by decide +kernel
theorem dX10_sayOperand_102 : decode cX10_sayOperand 102 = .ok (.iaload, 1) := by decide +kernel
theorem dX10_sayOperand_103 : decode cX10_sayOperand 103 = .ok (.ifCond .le 9, 3) := by decide +kernel
theorem dX10_sayOperand_106 : decode cX10_sayOperand 106 = .ok (.aload_n 0, 1) := by decide +kernel
theorem dX10_sayOperand_107 : decode cX10_sayOperand 107 = .ok (.bipush 41, 2) := by decide +kernel
theorem dX10_sayOperand_109 : decode cX10_sayOperand 109 = .ok (.invokevirtual 256, 3) := by decide +kernel
theorem dX10_sayOperand_112 : decode cX10_sayOperand 112 = .ok (.aload_n 0, 1) := by decide +kernel
theorem dX10_sayOperand_113 : decode cX10_sayOperand 113 = .ok (.getfield 22, 3) := by decide +kernel
theorem dX10_sayOperand_116 : decode cX10_sayOperand 116 = .ok (.iload_n 2, 1) := by decide +kernel
theorem dX10_sayOperand_117 : decode cX10_sayOperand 117 = .ok (.iaload, 1) := by decide +kernel
theorem dX10_sayOperand_118 : decode cX10_sayOperand 118 = .ok (.iconst 2, 1) := by decide +kernel
theorem dX10_sayOperand_119 : decode cX10_sayOperand 119 = .ok (.if_icmp .ne 27, 3) := by decide +kernel
theorem dX10_sayOperand_122 : decode cX10_sayOperand 122 = .ok (.aload_n 0, 1) := by decide +kernel
theorem dX10_sayOperand_123 : decode cX10_sayOperand 123 = .ok (.bipush 40, 2) := by decide +kernel
theorem dX10_sayOperand_125 : decode cX10_sayOperand 125 = .ok (.invokevirtual 256, 3) := by decide +kernel
theorem dX10_sayOperand_128 : decode cX10_sayOperand 128 = .ok (.aload_n 0, 1) := by decide +kernel
theorem dX10_sayOperand_129 : decode cX10_sayOperand 129 = .ok (.aload_n 0, 1) := by decide +kernel
theorem dX10_sayOperand_130 : decode cX10_sayOperand 130 = .ok (.getfield 22, 3) := by decide +kernel
theorem dX10_sayOperand_133 : decode cX10_sayOperand 133 = .ok (.iload_n 2, 1) := by decide +kernel
theorem dX10_sayOperand_134 : decode cX10_sayOperand 134 = .ok (.iconst 1, 1) := by decide +kernel
theorem dX10_sayOperand_135 : decode cX10_sayOperand 135 = .ok (.iadd, 1) := by decide +kernel
theorem dX10_sayOperand_136 : decode cX10_sayOperand 136 = .ok (.iaload, 1) := by decide +kernel
theorem dX10_sayOperand_137 : decode cX10_sayOperand 137 = .ok (.invokevirtual 290, 3) := by decide +kernel
theorem dX10_sayOperand_140 : decode cX10_sayOperand 140 = .ok (.aload_n 0, 1) := by decide +kernel
theorem dX10_sayOperand_141 : decode cX10_sayOperand 141 = .ok (.bipush 41, 2) := by decide +kernel
theorem dX10_sayOperand_143 : decode cX10_sayOperand 143 = .ok (.invokevirtual 256, 3) := by decide +kernel
theorem dX10_sayOperand_146 : decode cX10_sayOperand 146 = .ok (.return_, 1) := by decide +kernel
theorem dX10_tell_0 : decode cX10_tell 0 = .ok (.aload_n 0, 1) := by decide +kernel
theorem dX10_tell_1 : decode cX10_tell 1 = .ok (.iconst 0, 1) := by decide +kernel
theorem dX10_tell_2 : decode cX10_tell 2 = .ok (.putfield 62, 3) := by decide +kernel
theorem dX10_tell_5 : decode cX10_tell 5 = .ok (.iload_n 1, 1) := by decide +kernel
theorem dX10_tell_6 : decode cX10_tell 6 = .ok (.ifCond .lt 13, 3) := by decide +kernel
theorem dX10_tell_9 : decode cX10_tell 9 = .ok (.iload_n 1, 1) := by decide +kernel
theorem dX10_tell_10 : decode cX10_tell 10 = .ok (.aload_n 0, 1) := by decide +kernel
theorem dX10_tell_11 : decode cX10_tell 11 = .ok (.getfield 16, 3) := by decide +kernel
theorem dX10_tell_14 : decode cX10_tell 14 = .ok (.iconst 4, 1) := by decide +kernel
theorem dX10_tell_15 : decode cX10_tell 15 = .ok (.iaload, 1) := by decide +kernel
theorem dX10_tell_16 : decode cX10_tell 16 = .ok (.if_icmp .lt 5, 3) := by decide +kernel
theorem dX10_tell_19 : decode cX10_tell 19 = .ok (.iconst (-1), 1) := by decide +kernel
theorem dX10_tell_20 : decode cX10_tell 20 = .ok (.ireturn, 1) := by decide +kernel
theorem dX10_tell_21 : decode cX10_tell 21 = .ok (.aload_n 0, 1) := by decide +kernel
theorem dX10_tell_22 : decode cX10_tell 22 = .ok (.iconst 0, 1) := by decide +kernel
theorem dX10_tell_23 : decode cX10_tell 23 = .ok (.putfield 249, 3) := by decide +kernel
theorem dX10_tell_26 : decode cX10_tell 26 = .ok (.sipush 2400, 3) := by decide +kernel
theorem dX10_tell_29 : decode cX10_tell 29 = .ok (.bipush 6, 2) := by decide +kernel
theorem dX10_tell_31 : decode cX10_tell 31 = .ok (.iload_n 1, 1) := by decide +kernel
theorem dX10_tell_32 : decode cX10_tell 32 = .ok (.imul, 1) := by decide +kernel
theorem dX10_tell_33 : decode cX10_tell 33 = .ok (.iadd, 1) := by decide +kernel
theorem dX10_tell_34 : decode cX10_tell 34 = .ok (.istore_n 2, 1) := by decide +kernel
theorem dX10_tell_35 : decode cX10_tell 35 = .ok (.aload_n 0, 1) := by decide +kernel
theorem dX10_tell_36 : decode cX10_tell 36 = .ok (.getfield 19, 3) := by decide +kernel
theorem dX10_tell_39 : decode cX10_tell 39 = .ok (.iload_n 2, 1) := by decide +kernel
theorem dX10_tell_40 : decode cX10_tell 40 = .ok (.iaload, 1) := by decide +kernel
theorem dX10_tell_41 : decode cX10_tell 41 = .ok (.iconst 1, 1) := by decide +kernel
theorem dX10_tell_42 : decode cX10_tell 42 = .ok (.if_icmp .ne 19, 3) := by decide +kernel
theorem dX10_tell_45 : decode cX10_tell 45 = .ok (.aload_n 0, 1) := by decide +kernel
theorem dX10_tell_46 : decode cX10_tell 46 = .ok (.aload_n 0, 1) := by decide +kernel
theorem dX10_tell_47 : decode cX10_tell 47 = .ok (.getfield 19, 3) := by decide +kernel
theorem dX10_tell_50 : decode cX10_tell 50 = .ok (.iload_n 2, 1) := by decide +kernel
theorem dX10_tell_51 : decode cX10_tell 51 = .ok (.iconst 1, 1) := by decide +kernel
theorem dX10_tell_52 : decode cX10_tell 52 = .ok (.iadd, 1) := by decide +kernel
theorem dX10_tell_53 : decode cX10_tell 53 = .ok (.iaload, 1) := by decide +kernel
theorem dX10_tell_54 : decode cX10_tell 54 = .ok (.i2l, 1) := by decide +kernel
theorem dX10_tell_55 : decode cX10_tell 55 = .ok (.invokevirtual 259, 3) := by decide +kernel
theorem dX10_tell_58 : decode cX10_tell 58 = .ok (.goto 15, 3) := by decide +kernel
theorem dX10_tell_61 : decode cX10_tell 61 = .ok (.aload_n 0, 1) := by decide +kernel
theorem dX10_tell_62 : decode cX10_tell 62 = .ok (.aload_n 0, 1) := by decide +kernel
theorem dX10_tell_63 : decode cX10_tell 63 = .ok (.getfield 19, 3) := by decide +kernel
theorem dX10_tell_66 : decode cX10_tell 66 = .ok (.iload_n 2, 1) := by decide +kernel
theorem dX10_tell_67 : decode cX10_tell 67 = .ok (.iconst 1, 1) := by decide +kernel
theorem dX10_tell_68 : decode cX10_tell 68 = .ok (.iadd, 1) := by decide +kernel
theorem dX10_tell_69 : decode cX10_tell 69 = .ok (.iaload, 1) := by decide +kernel
theorem dX10_tell_70 : decode cX10_tell 70 = .ok (.invokevirtual 274, 3) := by decide +kernel
theorem dX10_tell_73 : decode cX10_tell 73 = .ok (.aload_n 0, 1) := by decide +kernel
theorem dX10_tell_74 : decode cX10_tell 74 = .ok (.getfield 19, 3) := by decide +kernel
theorem dX10_tell_77 : decode cX10_tell 77 = .ok (.iload_n 2, 1) := by decide +kernel
theorem dX10_tell_78 : decode cX10_tell 78 = .ok (.iaload, 1) := by decide +kernel
theorem dX10_tell_79 : decode cX10_tell 79 = .ok (.iconst 2, 1) := by decide +kernel
theorem dX10_tell_80 : decode cX10_tell 80 = .ok (.if_icmp .ge 9, 3) := by decide +kernel
theorem dX10_tell_83 : decode cX10_tell 83 = .ok (.aload_n 0, 1) := by decide +kernel
theorem dX10_tell_84 : decode cX10_tell 84 = .ok (.bipush 58, 2) := by decide +kernel
theorem dX10_tell_86 : decode cX10_tell 86 = .ok (.invokevirtual 256, 3) := by decide +kernel
theorem dX10_tell_89 : decode cX10_tell 89 = .ok (.iconst 0, 1) := by decide +kernel
theorem dX10_tell_90 : decode cX10_tell 90 = .ok (.istore_n 3, 1) := by decide +kernel
theorem dX10_tell_91 : decode cX10_tell 91 = .ok (.iload_n 3, 1) := by decide +kernel
theorem dX10_tell_92 : decode cX10_tell 92 = .ok (.aload_n 0, 1) := by decide +kernel
theorem dX10_tell_93 : decode cX10_tell 93 = .ok (.getfield 19, 3) := by decide +kernel
theorem dX10_tell_96 : decode cX10_tell 96 = .ok (.iload_n 2, 1) := by decide +kernel
theorem dX10_tell_97 : decode cX10_tell 97 = .ok (.iconst 3, 1) := by decide +kernel
theorem dX10_tell_98 : decode cX10_tell 98 = .ok (.iadd, 1) := by decide +kernel
theorem dX10_tell_99 : decode cX10_tell 99 = .ok (.iaload, 1) := by decide +kernel
theorem dX10_tell_100 : decode cX10_tell 100 = .ok (.if_icmp .ge 39, 3) := by decide +kernel
theorem dX10_tell_103 : decode cX10_tell 103 = .ok (.iload_n 3, 1) := by decide +kernel
theorem dX10_tell_104 : decode cX10_tell 104 = .ok (.ifCond .le 9, 3) := by decide +kernel
theorem dX10_tell_107 : decode cX10_tell 107 = .ok (.aload_n 0, 1) := by decide +kernel
theorem dX10_tell_108 : decode cX10_tell 108 = .ok (.bipush 44, 2) := by decide +kernel
theorem dX10_tell_110 : decode cX10_tell 110 = .ok (.invokevirtual 256, 3) := by decide +kernel
theorem dX10_tell_113 : decode cX10_tell 113 = .ok (.aload_n 0, 1) := by decide +kernel
theorem dX10_tell_114 : decode cX10_tell 114 = .ok (.bipush 32, 2) := by decide +kernel
theorem dX10_tell_116 : decode cX10_tell 116 = .ok (.invokevirtual 256, 3) := by decide +kernel
theorem dX10_tell_119 : decode cX10_tell 119 = .ok (.aload_n 0, 1) := by decide +kernel
theorem dX10_tell_120 : decode cX10_tell 120 = .ok (.aload_n 0, 1) := by decide +kernel
theorem dX10_tell_121 : decode cX10_tell 121 = .ok (.getfield 19, 3) := by decide +kernel
theorem dX10_tell_124 : decode cX10_tell 124 = .ok (.iload_n 2, 1) := by decide +kernel
theorem dX10_tell_125 : decode cX10_tell 125 = .ok (.iconst 2, 1) := by decide +kernel
theorem dX10_tell_126 : decode cX10_tell 126 = .ok (.iadd, 1) := by decide +kernel
theorem dX10_tell_127 : decode cX10_tell 127 = .ok (.iaload, 1) := by decide +kernel
theorem dX10_tell_128 : decode cX10_tell 128 = .ok (.iload_n 3, 1) := by decide +kernel
theorem dX10_tell_129 : decode cX10_tell 129 = .ok (.iadd, 1) := by decide +kernel
theorem dX10_tell_130 : decode cX10_tell 130 = .ok (.invokevirtual 302, 3) := by decide +kernel
theorem dX10_tell_133 : decode cX10_tell 133 = .ok (.iinc 3 1, 3) := by decide +kernel
theorem dX10_tell_136 : decode cX10_tell 136 = .ok (.goto (-45), 3) := by decide +kernel
theorem dX10_tell_139 : decode cX10_tell 139 = .ok (.aload_n 0, 1) := by decide +kernel
theorem dX10_tell_140 : decode cX10_tell 140 = .ok (.getfield 249, 3) := by decide +kernel
theorem dX10_tell_143 : decode cX10_tell 143 = .ok (.ireturn, 1) := by decide +kernel
theorem dX10_letter_0 : decode cX10_letter 0 = .ok (.aload_n 0, 1) := by decide +kernel
theorem dX10_letter_1 : decode cX10_letter 1 = .ok (.iconst 0, 1) := by decide +kernel
theorem dX10_letter_2 : decode cX10_letter 2 = .ok (.putfield 62, 3) := by decide +kernel
theorem dX10_letter_5 : decode cX10_letter 5 = .ok (.iload_n 1, 1) := by decide +kernel
theorem dX10_letter_6 : decode cX10_letter 6 = .ok (.ifCond .lt 20, 3) := by decide +kernel
theorem dX10_letter_9 : decode cX10_letter 9 = .ok (.iload_n 1, 1) := by decide +kernel
theorem dX10_letter_10 : decode cX10_letter 10 = .ok (.aload_n 0, 1) := by decide +kernel
theorem dX10_letter_11 : decode cX10_letter 11 = .ok (.getfield 249, 3) := by decide +kernel
theorem dX10_letter_14 : decode cX10_letter 14 = .ok (.if_icmp .ge 12, 3) := by decide +kernel
theorem dX10_letter_17 : decode cX10_letter 17 = .ok (.aload_n 0, 1) := by decide +kernel
theorem dX10_letter_18 : decode cX10_letter 18 = .ok (.getfield 44, 3) := by decide +kernel
theorem dX10_letter_21 : decode cX10_letter 21 = .ok (.iload_n 1, 1) := by decide +kernel
theorem dX10_letter_22 : decode cX10_letter 22 = .ok (.iaload, 1) := by decide +kernel
theorem dX10_letter_23 : decode cX10_letter 23 = .ok (.goto 4, 3) := by decide +kernel
theorem dX10_letter_26 : decode cX10_letter 26 = .ok (.iconst (-1), 1) := by decide +kernel
theorem dX10_letter_27 : decode cX10_letter 27 = .ok (.ireturn, 1) := by decide +kernel
