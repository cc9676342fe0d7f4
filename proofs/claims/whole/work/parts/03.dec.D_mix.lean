theorem d_D_mix_0 : decode b_D_mix 0 = .ok (.aload_n 0, 1) := by decide +kernel
theorem d_D_mix_1 : decode b_D_mix 1 = .ok (.getfield 11, 3) := by decide +kernel
theorem d_D_mix_4 : decode b_D_mix 4 = .ok (.iconst 0, 1) := by decide +kernel
theorem d_D_mix_5 : decode b_D_mix 5 = .ok (.iaload, 1) := by decide +kernel
theorem d_D_mix_6 : decode b_D_mix 6 = .ok (.istore_n 1, 1) := by decide +kernel
theorem d_D_mix_7 : decode b_D_mix 7 = .ok (.aload_n 0, 1) := by decide +kernel
theorem d_D_mix_8 : decode b_D_mix 8 = .ok (.getfield 11, 3) := by decide +kernel
theorem d_D_mix_11 : decode b_D_mix 11 = .ok (.iconst 1, 1) := by decide +kernel
theorem d_D_mix_12 : decode b_D_mix 12 = .ok (.iaload, 1) := by decide +kernel
theorem d_D_mix_13 : decode b_D_mix 13 = .ok (.istore_n 2, 1) := by decide +kernel
theorem d_D_mix_14 : decode b_D_mix 14 = .ok (.aload_n 0, 1) := by decide +kernel
theorem d_D_mix_15 : decode b_D_mix 15 = .ok (.getfield 11, 3) := by decide +kernel
theorem d_D_mix_18 : decode b_D_mix 18 = .ok (.iconst 2, 1) := by decide +kernel
theorem d_D_mix_19 : decode b_D_mix 19 = .ok (.iaload, 1) := by decide +kernel
theorem d_D_mix_20 : decode b_D_mix 20 = .ok (.istore_n 3, 1) := by decide +kernel
theorem d_D_mix_21 : decode b_D_mix 21 = .ok (.aload_n 0, 1) := by decide +kernel
theorem d_D_mix_22 : decode b_D_mix 22 = .ok (.getfield 11, 3) := by decide +kernel
theorem d_D_mix_25 : decode b_D_mix 25 = .ok (.iconst 3, 1) := by decide +kernel
theorem d_D_mix_26 : decode b_D_mix 26 = .ok (.iaload, 1) := by decide +kernel
theorem d_D_mix_27 : decode b_D_mix 27 = .ok (.istore 4, 2) := by decide +kernel
theorem d_D_mix_29 : decode b_D_mix 29 = .ok (.aload_n 0, 1) := by decide +kernel
theorem d_D_mix_30 : decode b_D_mix 30 = .ok (.getfield 11, 3) := by decide +kernel
theorem d_D_mix_33 : decode b_D_mix 33 = .ok (.iconst 4, 1) := by decide +kernel
theorem d_D_mix_34 : decode b_D_mix 34 = .ok (.iaload, 1) := by decide +kernel
theorem d_D_mix_35 : decode b_D_mix 35 = .ok (.istore 5, 2) := by decide +kernel
theorem d_D_mix_37 : decode b_D_mix 37 = .ok (.aload_n 0, 1) := by decide +kernel
theorem d_D_mix_38 : decode b_D_mix 38 = .ok (.getfield 11, 3) := by decide +kernel
theorem d_D_mix_41 : decode b_D_mix 41 = .ok (.iconst 5, 1) := by decide +kernel
theorem d_D_mix_42 : decode b_D_mix 42 = .ok (.iaload, 1) := by decide +kernel
theorem d_D_mix_43 : decode b_D_mix 43 = .ok (.istore 6, 2) := by decide +kernel
theorem d_D_mix_45 : decode b_D_mix 45 = .ok (.aload_n 0, 1) := by decide +kernel
theorem d_D_mix_46 : decode b_D_mix 46 = .ok (.getfield 11, 3) := by decide +kernel
theorem d_D_mix_49 : decode b_D_mix 49 = .ok (.bipush 6, 2) := by decide +kernel
theorem d_D_mix_51 : decode b_D_mix 51 = .ok (.iaload, 1) := by decide +kernel
theorem d_D_mix_52 : decode b_D_mix 52 = .ok (.istore 7, 2) := by decide +kernel
theorem d_D_mix_54 : decode b_D_mix 54 = .ok (.aload_n 0, 1) := by decide +kernel
theorem d_D_mix_55 : decode b_D_mix 55 = .ok (.getfield 11, 3) := by decide +kernel
theorem d_D_mix_58 : decode b_D_mix 58 = .ok (.bipush 7, 2) := by decide +kernel
theorem d_D_mix_60 : decode b_D_mix 60 = .ok (.iaload, 1) := by decide +kernel
theorem d_D_mix_61 : decode b_D_mix 61 = .ok (.istore 8, 2) := by decide +kernel
theorem d_D_mix_63 : decode b_D_mix 63 = .ok (.iconst 0, 1) := by decide +kernel
theorem d_D_mix_64 : decode b_D_mix 64 = .ok (.istore 9, 2) := by decide +kernel
theorem d_D_mix_66 : decode b_D_mix 66 = .ok (.iload 9, 2) := by decide +kernel
theorem d_D_mix_68 : decode b_D_mix 68 = .ok (.bipush 64, 2) := by decide +kernel
theorem d_D_mix_70 : decode b_D_mix 70 = .ok (.if_icmp .ge 139, 3) := by decide +kernel
theorem d_D_mix_73 : decode b_D_mix 73 = .ok (.iload 5, 2) := by decide +kernel
theorem d_D_mix_75 : decode b_D_mix 75 = .ok (.bipush 6, 2) := by decide +kernel
theorem d_D_mix_77 : decode b_D_mix 77 = .ok (.invokestatic 59, 3) := by decide +kernel
theorem d_D_mix_80 : decode b_D_mix 80 = .ok (.iload 5, 2) := by decide +kernel
theorem d_D_mix_82 : decode b_D_mix 82 = .ok (.bipush 11, 2) := by decide +kernel
theorem d_D_mix_84 : decode b_D_mix 84 = .ok (.invokestatic 59, 3) := by decide +kernel
theorem d_D_mix_87 : decode b_D_mix 87 = .ok (.ixor, 1) := by decide +kernel
theorem d_D_mix_88 : decode b_D_mix 88 = .ok (.iload 5, 2) := by decide +kernel
theorem d_D_mix_90 : decode b_D_mix 90 = .ok (.bipush 25, 2) := by decide +kernel
theorem d_D_mix_92 : decode b_D_mix 92 = .ok (.invokestatic 59, 3) := by decide +kernel
theorem d_D_mix_95 : decode b_D_mix 95 = .ok (.ixor, 1) := by decide +kernel
theorem d_D_mix_96 : decode b_D_mix 96 = .ok (.istore 10, 2) := by decide +kernel
theorem d_D_mix_98 : decode b_D_mix 98 = .ok (.iload_n 1, 1) := by decide +kernel
theorem d_D_mix_99 : decode b_D_mix 99 = .ok (.iconst 2, 1) := by decide +kernel
theorem d_D_mix_100 : decode b_D_mix 100 = .ok (.invokestatic 59, 3) := by decide +kernel
theorem d_D_mix_103 : decode b_D_mix 103 = .ok (.iload_n 1, 1) := by decide +kernel
theorem d_D_mix_104 : decode b_D_mix 104 = .ok (.bipush 13, 2) := by decide +kernel
theorem d_D_mix_106 : decode b_D_mix 106 = .ok (.invokestatic 59, 3) := by decide +kernel
theorem d_D_mix_109 : decode b_D_mix 109 = .ok (.ixor, 1) := by decide +kernel
theorem d_D_mix_110 : decode b_D_mix 110 = .ok (.iload_n 1, 1) := by decide +kernel
theorem d_D_mix_111 : decode b_D_mix 111 = .ok (.bipush 22, 2) := by decide +kernel
theorem d_D_mix_113 : decode b_D_mix 113 = .ok (.invokestatic 59, 3) := by decide +kernel
theorem d_D_mix_116 : decode b_D_mix 116 = .ok (.ixor, 1) := by decide +kernel
theorem d_D_mix_117 : decode b_D_mix 117 = .ok (.istore 11, 2) := by decide +kernel
theorem d_D_mix_119 : decode b_D_mix 119 = .ok (.iload 8, 2) := by decide +kernel
theorem d_D_mix_121 : decode b_D_mix 121 = .ok (.iload 10, 2) := by decide +kernel
theorem d_D_mix_123 : decode b_D_mix 123 = .ok (.iadd, 1) := by decide +kernel
theorem d_D_mix_124 : decode b_D_mix 124 = .ok (.iload 5, 2) := by decide +kernel
theorem d_D_mix_126 : decode b_D_mix 126 = .ok (.iload 6, 2) := by decide +kernel
theorem d_D_mix_128 : decode b_D_mix 128 = .ok (.iand, 1) := by decide +kernel
theorem d_D_mix_129 : decode b_D_mix 129 = .ok (.iload 5, 2) := by decide +kernel
theorem d_D_mix_131 : decode b_D_mix 131 = .ok (.iconst (-1), 1) := by decide +kernel
theorem d_D_mix_132 : decode b_D_mix 132 = .ok (.ixor, 1) := by decide +kernel
theorem d_D_mix_133 : decode b_D_mix 133 = .ok (.iload 7, 2) := by decide +kernel
theorem d_D_mix_135 : decode b_D_mix 135 = .ok (.iand, 1) := by decide +kernel
theorem d_D_mix_136 : decode b_D_mix 136 = .ok (.ixor, 1) := by decide +kernel
theorem d_D_mix_137 : decode b_D_mix 137 = .ok (.iadd, 1) := by decide +kernel
theorem d_D_mix_138 : decode b_D_mix 138 = .ok (.getstatic 65, 3) := by decide +kernel
theorem d_D_mix_141 : decode b_D_mix 141 = .ok (.iload 9, 2) := by decide +kernel
theorem d_D_mix_143 : decode b_D_mix 143 = .ok (.iaload, 1) := by decide +kernel
theorem d_D_mix_144 : decode b_D_mix 144 = .ok (.iadd, 1) := by decide +kernel
theorem d_D_mix_145 : decode b_D_mix 145 = .ok (.aload_n 0, 1) := by decide +kernel
theorem d_D_mix_146 : decode b_D_mix 146 = .ok (.getfield 15, 3) := by decide +kernel
theorem d_D_mix_149 : decode b_D_mix 149 = .ok (.iload 9, 2) := by decide +kernel
theorem d_D_mix_151 : decode b_D_mix 151 = .ok (.iaload, 1) := by decide +kernel
theorem d_D_mix_152 : decode b_D_mix 152 = .ok (.iadd, 1) := by decide +kernel
theorem d_D_mix_153 : decode b_D_mix 153 = .ok (.istore 12, 2) := by decide +kernel
theorem d_D_mix_155 : decode b_D_mix 155 = .ok (.iload 11, 2) := by decide +kernel
theorem d_D_mix_157 : decode b_D_mix 157 = .ok (.iload_n 1, 1) := by decide +kernel
theorem d_D_mix_158 : decode b_D_mix 158 = .ok (.iload_n 2, 1) := by decide +kernel
theorem d_D_mix_159 : decode b_D_mix 159 = .ok (.iand, 1) := by decide +kernel
theorem d_D_mix_160 : decode b_D_mix 160 = .ok (.iload_n 1, 1) := by decide +kernel
theorem d_D_mix_161 : decode b_D_mix 161 = .ok (.iload_n 3, 1) := by decide +kernel
theorem d_D_mix_162 : decode b_D_mix 162 = .ok (.iand, 1) := by decide +kernel
theorem d_D_mix_163 : decode b_D_mix 163 = .ok (.ixor, 1) := by decide +kernel
theorem d_D_mix_164 : decode b_D_mix 164 = .ok (.iload_n 2, 1) := by decide +kernel
theorem d_D_mix_165 : decode b_D_mix 165 = .ok (.iload_n 3, 1) := by decide +kernel
theorem d_D_mix_166 : decode b_D_mix 166 = .ok (.iand, 1) := by decide +kernel
theorem d_D_mix_167 : decode b_D_mix 167 = .ok (.ixor, 1) := by decide +kernel
theorem d_D_mix_168 : decode b_D_mix 168 = .ok (.iadd, 1) := by decide +kernel
theorem d_D_mix_169 : decode b_D_mix 169 = .ok (.istore 13, 2) := by decide +kernel
theorem d_D_mix_171 : decode b_D_mix 171 = .ok (.iload 7, 2) := by decide +kernel
theorem d_D_mix_173 : decode b_D_mix 173 = .ok (.istore 8, 2) := by decide +kernel
theorem d_D_mix_175 : decode b_D_mix 175 = .ok (.iload 6, 2) := by decide +kernel
theorem d_D_mix_177 : decode b_D_mix 177 = .ok (.istore 7, 2) := by decide +kernel
theorem d_D_mix_179 : decode b_D_mix 179 = .ok (.iload 5, 2) := by decide +kernel
theorem d_D_mix_181 : decode b_D_mix 181 = .ok (.istore 6, 2) := by decide +kernel
theorem d_D_mix_183 : decode b_D_mix 183 = .ok (.iload 4, 2) := by decide +kernel
theorem d_D_mix_185 : decode b_D_mix 185 = .ok (.iload 12, 2) := by decide +kernel
theorem d_D_mix_187 : decode b_D_mix 187 = .ok (.iadd, 1) := by decide +kernel
theorem d_D_mix_188 : decode b_D_mix 188 = .ok (.istore 5, 2) := by decide +kernel
theorem d_D_mix_190 : decode b_D_mix 190 = .ok (.iload_n 3, 1) := by decide +kernel
theorem d_D_mix_191 : decode b_D_mix 191 = .ok (.istore 4, 2) := by decide +kernel
theorem d_D_mix_193 : decode b_D_mix 193 = .ok (.iload_n 2, 1) := by decide +kernel
theorem d_D_mix_194 : decode b_D_mix 194 = .ok (.istore_n 3, 1) := by decide +kernel
theorem d_D_mix_195 : decode b_D_mix 195 = .ok (.iload_n 1, 1) := by decide +kernel
theorem d_D_mix_196 : decode b_D_mix 196 = .ok (.istore_n 2, 1) := by decide +kernel
theorem d_D_mix_197 : decode b_D_mix 197 = .ok (.iload 12, 2) := by decide +kernel
theorem d_D_mix_199 : decode b_D_mix 199 = .ok (.iload 13, 2) := by decide +kernel
theorem d_D_mix_201 : decode b_D_mix 201 = .ok (.iadd, 1) := by decide +kernel
theorem d_D_mix_202 : decode b_D_mix 202 = .ok (.istore_n 1, 1) := by decide +kernel
theorem d_D_mix_203 : decode b_D_mix 203 = .ok (.iinc 9 1, 3) := by decide +kernel
theorem d_D_mix_206 : decode b_D_mix 206 = .ok (.goto (-140), 3) := by decide +kernel
theorem d_D_mix_209 : decode b_D_mix 209 = .ok (.aload_n 0, 1) := by decide +kernel
theorem d_D_mix_210 : decode b_D_mix 210 = .ok (.getfield 11, 3) := by decide +kernel
theorem d_D_mix_213 : decode b_D_mix 213 = .ok (.iconst 0, 1) := by decide +kernel
theorem d_D_mix_214 : decode b_D_mix 214 = .ok (.dup2, 1) := by decide +kernel
theorem d_D_mix_215 : decode b_D_mix 215 = .ok (.iaload, 1) := by decide +kernel
theorem d_D_mix_216 : decode b_D_mix 216 = .ok (.iload_n 1, 1) := by decide +kernel
theorem d_D_mix_217 : decode b_D_mix 217 = .ok (.iadd, 1) := by decide +kernel
theorem d_D_mix_218 : decode b_D_mix 218 = .ok (.iastore, 1) := by decide +kernel
theorem d_D_mix_219 : decode b_D_mix 219 = .ok (.aload_n 0, 1) := by decide +kernel
theorem d_D_mix_220 : decode b_D_mix 220 = .ok (.getfield 11, 3) := by decide +kernel
theorem d_D_mix_223 : decode b_D_mix 223 = .ok (.iconst 1, 1) := by decide +kernel
theorem d_D_mix_224 : decode b_D_mix 224 = .ok (.dup2, 1) := by decide +kernel
theorem d_D_mix_225 : decode b_D_mix 225 = .ok (.iaload, 1) := by decide +kernel
theorem d_D_mix_226 : decode b_D_mix 226 = .ok (.iload_n 2, 1) := by decide +kernel
theorem d_D_mix_227 : decode b_D_mix 227 = .ok (.iadd, 1) := by decide +kernel
theorem d_D_mix_228 : decode b_D_mix 228 = .ok (.iastore, 1) := by decide +kernel
theorem d_D_mix_229 : decode b_D_mix 229 = .ok (.aload_n 0, 1) := by decide +kernel
theorem d_D_mix_230 : decode b_D_mix 230 = .ok (.getfield 11, 3) := by decide +kernel
theorem d_D_mix_233 : decode b_D_mix 233 = .ok (.iconst 2, 1) := by decide +kernel
theorem d_D_mix_234 : decode b_D_mix 234 = .ok (.dup2, 1) := by decide +kernel
theorem d_D_mix_235 : decode b_D_mix 235 = .ok (.iaload, 1) := by decide +kernel
theorem d_D_mix_236 : decode b_D_mix 236 = .ok (.iload_n 3, 1) := by decide +kernel
theorem d_D_mix_237 : decode b_D_mix 237 = .ok (.iadd, 1) := by decide +kernel
theorem d_D_mix_238 : decode b_D_mix 238 = .ok (.iastore, 1) := by decide +kernel
theorem d_D_mix_239 : decode b_D_mix 239 = .ok (.aload_n 0, 1) := by decide +kernel
theorem d_D_mix_240 : decode b_D_mix 240 = .ok (.getfield 11, 3) := by decide +kernel
theorem d_D_mix_243 : decode b_D_mix 243 = .ok (.iconst 3, 1) := by decide +kernel
theorem d_D_mix_244 : decode b_D_mix 244 = .ok (.dup2, 1) := by decide +kernel
theorem d_D_mix_245 : decode b_D_mix 245 = .ok (.iaload, 1) := by decide +kernel
theorem d_D_mix_246 : decode b_D_mix 246 = .ok (.iload 4, 2) := by decide +kernel
theorem d_D_mix_248 : decode b_D_mix 248 = .ok (.iadd, 1) := by decide +kernel
theorem d_D_mix_249 : decode b_D_mix 249 = .ok (.iastore, 1) := by decide +kernel
theorem d_D_mix_250 : decode b_D_mix 250 = .ok (.aload_n 0, 1) := by decide +kernel
theorem d_D_mix_251 : decode b_D_mix 251 = .ok (.getfield 11, 3) := by decide +kernel
theorem d_D_mix_254 : decode b_D_mix 254 = .ok (.iconst 4, 1) := by decide +kernel
theorem d_D_mix_255 : decode b_D_mix 255 = .ok (.dup2, 1) := by decide +kernel
theorem d_D_mix_256 : decode b_D_mix 256 = .ok (.iaload, 1) := by decide +kernel
theorem d_D_mix_257 : decode b_D_mix 257 = .ok (.iload 5, 2) := by decide +kernel
theorem d_D_mix_259 : decode b_D_mix 259 = .ok (.iadd, 1) := by decide +kernel
theorem d_D_mix_260 : decode b_D_mix 260 = .ok (.iastore, 1) := by decide +kernel
theorem d_D_mix_261 : decode b_D_mix 261 = .ok (.aload_n 0, 1) := by decide +kernel
theorem d_D_mix_262 : decode b_D_mix 262 = .ok (.getfield 11, 3) := by decide +kernel
theorem d_D_mix_265 : decode b_D_mix 265 = .ok (.iconst 5, 1) := by decide +kernel
theorem d_D_mix_266 : decode b_D_mix 266 = .ok (.dup2, 1) := by decide +kernel
theorem d_D_mix_267 : decode b_D_mix 267 = .ok (.iaload, 1) := by decide +kernel
theorem d_D_mix_268 : decode b_D_mix 268 = .ok (.iload 6, 2) := by decide +kernel
theorem d_D_mix_270 : decode b_D_mix 270 = .ok (.iadd, 1) := by decide +kernel
theorem d_D_mix_271 : decode b_D_mix 271 = .ok (.iastore, 1) := by decide +kernel
theorem d_D_mix_272 : decode b_D_mix 272 = .ok (.aload_n 0, 1) := by decide +kernel
theorem d_D_mix_273 : decode b_D_mix 273 = .ok (.getfield 11, 3) := by decide +kernel
theorem d_D_mix_276 : decode b_D_mix 276 = .ok (.bipush 6, 2) := by decide +kernel
theorem d_D_mix_278 : decode b_D_mix 278 = .ok (.dup2, 1) := by decide +kernel
theorem d_D_mix_279 : decode b_D_mix 279 = .ok (.iaload, 1) := by decide +kernel
theorem d_D_mix_280 : decode b_D_mix 280 = .ok (.iload 7, 2) := by decide +kernel
theorem d_D_mix_282 : decode b_D_mix 282 = .ok (.iadd, 1) := by decide +kernel
theorem d_D_mix_283 : decode b_D_mix 283 = .ok (.iastore, 1) := by decide +kernel
theorem d_D_mix_284 : decode b_D_mix 284 = .ok (.aload_n 0, 1) := by decide +kernel
theorem d_D_mix_285 : decode b_D_mix 285 = .ok (.getfield 11, 3) := by decide +kernel
theorem d_D_mix_288 : decode b_D_mix 288 = .ok (.bipush 7, 2) := by decide +kernel
theorem d_D_mix_290 : decode b_D_mix 290 = .ok (.dup2, 1) := by decide +kernel
theorem d_D_mix_291 : decode b_D_mix 291 = .ok (.iaload, 1) := by decide +kernel
theorem d_D_mix_292 : decode b_D_mix 292 = .ok (.iload 8, 2) := by decide +kernel
theorem d_D_mix_294 : decode b_D_mix 294 = .ok (.iadd, 1) := by decide +kernel
theorem d_D_mix_295 : decode b_D_mix 295 = .ok (.iastore, 1) := by decide +kernel
theorem d_D_mix_296 : decode b_D_mix 296 = .ok (.return_, 1) := by decide +kernel
