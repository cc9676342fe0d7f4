theorem d_M_block_0 : decode b_M_block 0 = .ok (.iconst 0, 1) := by decide +kernel
theorem d_M_block_1 : decode b_M_block 1 = .ok (.istore_n 2, 1) := by decide +kernel
theorem d_M_block_2 : decode b_M_block 2 = .ok (.iload_n 2, 1) := by decide +kernel
theorem d_M_block_3 : decode b_M_block 3 = .ok (.bipush 16, 2) := by decide +kernel
theorem d_M_block_5 : decode b_M_block 5 = .ok (.if_icmp .ge 58, 3) := by decide +kernel
theorem d_M_block_8 : decode b_M_block 8 = .ok (.lconst 0, 1) := by decide +kernel
theorem d_M_block_9 : decode b_M_block 9 = .ok (.lstore_n 3, 1) := by decide +kernel
theorem d_M_block_10 : decode b_M_block 10 = .ok (.iconst 0, 1) := by decide +kernel
theorem d_M_block_11 : decode b_M_block 11 = .ok (.istore 5, 2) := by decide +kernel
theorem d_M_block_13 : decode b_M_block 13 = .ok (.iload 5, 2) := by decide +kernel
theorem d_M_block_15 : decode b_M_block 15 = .ok (.iconst 4, 1) := by decide +kernel
theorem d_M_block_16 : decode b_M_block 16 = .ok (.if_icmp .ge 34, 3) := by decide +kernel
theorem d_M_block_19 : decode b_M_block 19 = .ok (.ldc2_w 93, 3) := by decide +kernel
theorem d_M_block_22 : decode b_M_block 22 = .ok (.lload_n 3, 1) := by decide +kernel
theorem d_M_block_23 : decode b_M_block 23 = .ok (.lmul, 1) := by decide +kernel
theorem d_M_block_24 : decode b_M_block 24 = .ok (.aload_n 0, 1) := by decide +kernel
theorem d_M_block_25 : decode b_M_block 25 = .ok (.getfield 42, 3) := by decide +kernel
theorem d_M_block_28 : decode b_M_block 28 = .ok (.iload_n 1, 1) := by decide +kernel
theorem d_M_block_29 : decode b_M_block 29 = .ok (.iconst 4, 1) := by decide +kernel
theorem d_M_block_30 : decode b_M_block 30 = .ok (.iload_n 2, 1) := by decide +kernel
theorem d_M_block_31 : decode b_M_block 31 = .ok (.imul, 1) := by decide +kernel
theorem d_M_block_32 : decode b_M_block 32 = .ok (.iadd, 1) := by decide +kernel
theorem d_M_block_33 : decode b_M_block 33 = .ok (.iload 5, 2) := by decide +kernel
theorem d_M_block_35 : decode b_M_block 35 = .ok (.iadd, 1) := by decide +kernel
theorem d_M_block_36 : decode b_M_block 36 = .ok (.baload, 1) := by decide +kernel
theorem d_M_block_37 : decode b_M_block 37 = .ok (.sipush 255, 3) := by decide +kernel
theorem d_M_block_40 : decode b_M_block 40 = .ok (.iand, 1) := by decide +kernel
theorem d_M_block_41 : decode b_M_block 41 = .ok (.i2l, 1) := by decide +kernel
theorem d_M_block_42 : decode b_M_block 42 = .ok (.ladd, 1) := by decide +kernel
theorem d_M_block_43 : decode b_M_block 43 = .ok (.lstore_n 3, 1) := by decide +kernel
theorem d_M_block_44 : decode b_M_block 44 = .ok (.iinc 5 1, 3) := by decide +kernel
theorem d_M_block_47 : decode b_M_block 47 = .ok (.goto (-34), 3) := by decide +kernel
theorem d_M_block_50 : decode b_M_block 50 = .ok (.aload_n 0, 1) := by decide +kernel
theorem d_M_block_51 : decode b_M_block 51 = .ok (.getfield 66, 3) := by decide +kernel
theorem d_M_block_54 : decode b_M_block 54 = .ok (.iload_n 2, 1) := by decide +kernel
theorem d_M_block_55 : decode b_M_block 55 = .ok (.lload_n 3, 1) := by decide +kernel
theorem d_M_block_56 : decode b_M_block 56 = .ok (.lastore, 1) := by decide +kernel
theorem d_M_block_57 : decode b_M_block 57 = .ok (.iinc 2 1, 3) := by decide +kernel
theorem d_M_block_60 : decode b_M_block 60 = .ok (.goto (-58), 3) := by decide +kernel
theorem d_M_block_63 : decode b_M_block 63 = .ok (.bipush 16, 2) := by decide +kernel
theorem d_M_block_65 : decode b_M_block 65 = .ok (.istore_n 2, 1) := by decide +kernel
theorem d_M_block_66 : decode b_M_block 66 = .ok (.iload_n 2, 1) := by decide +kernel
theorem d_M_block_67 : decode b_M_block 67 = .ok (.bipush 64, 2) := by decide +kernel
theorem d_M_block_69 : decode b_M_block 69 = .ok (.if_icmp .ge 106, 3) := by decide +kernel
theorem d_M_block_72 : decode b_M_block 72 = .ok (.aload_n 0, 1) := by decide +kernel
theorem d_M_block_73 : decode b_M_block 73 = .ok (.getfield 66, 3) := by decide +kernel
theorem d_M_block_76 : decode b_M_block 76 = .ok (.iload_n 2, 1) := by decide +kernel
theorem d_M_block_77 : decode b_M_block 77 = .ok (.bipush 15, 2) := by decide +kernel
theorem d_M_block_79 : decode b_M_block 79 = .ok (.isub, 1) := by decide +kernel
theorem d_M_block_80 : decode b_M_block 80 = .ok (.laload, 1) := by decide +kernel
theorem d_M_block_81 : decode b_M_block 81 = .ok (.lstore_n 3, 1) := by decide +kernel
theorem d_M_block_82 : decode b_M_block 82 = .ok (.aload_n 0, 1) := by decide +kernel
theorem d_M_block_83 : decode b_M_block 83 = .ok (.getfield 66, 3) := by decide +kernel
theorem d_M_block_86 : decode b_M_block 86 = .ok (.iload_n 2, 1) := by decide +kernel
theorem d_M_block_87 : decode b_M_block 87 = .ok (.iconst 2, 1) := by decide +kernel
theorem d_M_block_88 : decode b_M_block 88 = .ok (.isub, 1) := by decide +kernel
theorem d_M_block_89 : decode b_M_block 89 = .ok (.laload, 1) := by decide +kernel
theorem d_M_block_90 : decode b_M_block 90 = .ok (.lstore 5, 2) := by decide +kernel
theorem d_M_block_92 : decode b_M_block 92 = .ok (.lload_n 3, 1) := by decide +kernel
theorem d_M_block_93 : decode b_M_block 93 = .ok (.bipush 7, 2) := by decide +kernel
theorem d_M_block_95 : decode b_M_block 95 = .ok (.invokestatic 95, 3) := by decide +kernel
theorem d_M_block_98 : decode b_M_block 98 = .ok (.lload_n 3, 1) := by decide +kernel
theorem d_M_block_99 : decode b_M_block 99 = .ok (.bipush 18, 2) := by decide +kernel
theorem d_M_block_101 : decode b_M_block 101 = .ok (.invokestatic 95, 3) := by decide +kernel
theorem d_M_block_104 : decode b_M_block 104 = .ok (.lxor, 1) := by decide +kernel
theorem d_M_block_105 : decode b_M_block 105 = .ok (.lload_n 3, 1) := by decide +kernel
theorem d_M_block_106 : decode b_M_block 106 = .ok (.iconst 3, 1) := by decide +kernel
theorem d_M_block_107 : decode b_M_block 107 = .ok (.lshr, 1) := by decide +kernel
theorem d_M_block_108 : decode b_M_block 108 = .ok (.lxor, 1) := by decide +kernel
theorem d_M_block_109 : decode b_M_block 109 = .ok (.lstore 7, 2) := by decide +kernel
theorem d_M_block_111 : decode b_M_block 111 = .ok (.lload 5, 2) := by decide +kernel
theorem d_M_block_113 : decode b_M_block 113 = .ok (.bipush 17, 2) := by decide +kernel
theorem d_M_block_115 : decode b_M_block 115 = .ok (.invokestatic 95, 3) := by decide +kernel
theorem d_M_block_118 : decode b_M_block 118 = .ok (.lload 5, 2) := by decide +kernel
theorem d_M_block_120 : decode b_M_block 120 = .ok (.bipush 19, 2) := by decide +kernel
theorem d_M_block_122 : decode b_M_block 122 = .ok (.invokestatic 95, 3) := by decide +kernel
theorem d_M_block_125 : decode b_M_block 125 = .ok (.lxor, 1) := by decide +kernel
theorem d_M_block_126 : decode b_M_block 126 = .ok (.lload 5, 2) := by decide +kernel
theorem d_M_block_128 : decode b_M_block 128 = .ok (.bipush 10, 2) := by decide +kernel
theorem d_M_block_130 : decode b_M_block 130 = .ok (.lshr, 1) := by decide +kernel
theorem d_M_block_131 : decode b_M_block 131 = .ok (.lxor, 1) := by decide +kernel
theorem d_M_block_132 : decode b_M_block 132 = .ok (.lstore 9, 2) := by decide +kernel
theorem d_M_block_134 : decode b_M_block 134 = .ok (.aload_n 0, 1) := by decide +kernel
theorem d_M_block_135 : decode b_M_block 135 = .ok (.getfield 66, 3) := by decide +kernel
theorem d_M_block_138 : decode b_M_block 138 = .ok (.iload_n 2, 1) := by decide +kernel
theorem d_M_block_139 : decode b_M_block 139 = .ok (.aload_n 0, 1) := by decide +kernel
theorem d_M_block_140 : decode b_M_block 140 = .ok (.getfield 66, 3) := by decide +kernel
theorem d_M_block_143 : decode b_M_block 143 = .ok (.iload_n 2, 1) := by decide +kernel
theorem d_M_block_144 : decode b_M_block 144 = .ok (.bipush 16, 2) := by decide +kernel
theorem d_M_block_146 : decode b_M_block 146 = .ok (.isub, 1) := by decide +kernel
theorem d_M_block_147 : decode b_M_block 147 = .ok (.laload, 1) := by decide +kernel
theorem d_M_block_148 : decode b_M_block 148 = .ok (.lload 7, 2) := by decide +kernel
theorem d_M_block_150 : decode b_M_block 150 = .ok (.ladd, 1) := by decide +kernel
theorem d_M_block_151 : decode b_M_block 151 = .ok (.aload_n 0, 1) := by decide +kernel
theorem d_M_block_152 : decode b_M_block 152 = .ok (.getfield 66, 3) := by decide +kernel
theorem d_M_block_155 : decode b_M_block 155 = .ok (.iload_n 2, 1) := by decide +kernel
theorem d_M_block_156 : decode b_M_block 156 = .ok (.bipush 7, 2) := by decide +kernel
theorem d_M_block_158 : decode b_M_block 158 = .ok (.isub, 1) := by decide +kernel
theorem d_M_block_159 : decode b_M_block 159 = .ok (.laload, 1) := by decide +kernel
theorem d_M_block_160 : decode b_M_block 160 = .ok (.ladd, 1) := by decide +kernel
theorem d_M_block_161 : decode b_M_block 161 = .ok (.lload 9, 2) := by decide +kernel
theorem d_M_block_163 : decode b_M_block 163 = .ok (.ladd, 1) := by decide +kernel
theorem d_M_block_164 : decode b_M_block 164 = .ok (.ldc2_w 69, 3) := by decide +kernel
theorem d_M_block_167 : decode b_M_block 167 = .ok (.land, 1) := by decide +kernel
theorem d_M_block_168 : decode b_M_block 168 = .ok (.lastore, 1) := by decide +kernel
theorem d_M_block_169 : decode b_M_block 169 = .ok (.iinc 2 1, 3) := by decide +kernel
theorem d_M_block_172 : decode b_M_block 172 = .ok (.goto (-106), 3) := by decide +kernel
theorem d_M_block_175 : decode b_M_block 175 = .ok (.aload_n 0, 1) := by decide +kernel
theorem d_M_block_176 : decode b_M_block 176 = .ok (.getfield 46, 3) := by decide +kernel
theorem d_M_block_179 : decode b_M_block 179 = .ok (.iconst 0, 1) := by decide +kernel
theorem d_M_block_180 : decode b_M_block 180 = .ok (.laload, 1) := by decide +kernel
theorem d_M_block_181 : decode b_M_block 181 = .ok (.lstore_n 2, 1) := by decide +kernel
theorem d_M_block_182 : decode b_M_block 182 = .ok (.aload_n 0, 1) := by decide +kernel
theorem d_M_block_183 : decode b_M_block 183 = .ok (.getfield 46, 3) := by decide +kernel
theorem d_M_block_186 : decode b_M_block 186 = .ok (.iconst 1, 1) := by decide +kernel
theorem d_M_block_187 : decode b_M_block 187 = .ok (.laload, 1) := by decide +kernel
theorem d_M_block_188 : decode b_M_block 188 = .ok (.lstore 4, 2) := by decide +kernel
theorem d_M_block_190 : decode b_M_block 190 = .ok (.aload_n 0, 1) := by decide +kernel
theorem d_M_block_191 : decode b_M_block 191 = .ok (.getfield 46, 3) := by decide +kernel
theorem d_M_block_194 : decode b_M_block 194 = .ok (.iconst 2, 1) := by decide +kernel
theorem d_M_block_195 : decode b_M_block 195 = .ok (.laload, 1) := by decide +kernel
theorem d_M_block_196 : decode b_M_block 196 = .ok (.lstore 6, 2) := by decide +kernel
theorem d_M_block_198 : decode b_M_block 198 = .ok (.aload_n 0, 1) := by decide +kernel
theorem d_M_block_199 : decode b_M_block 199 = .ok (.getfield 46, 3) := by decide +kernel
theorem d_M_block_202 : decode b_M_block 202 = .ok (.iconst 3, 1) := by decide +kernel
theorem d_M_block_203 : decode b_M_block 203 = .ok (.laload, 1) := by decide +kernel
theorem d_M_block_204 : decode b_M_block 204 = .ok (.lstore 8, 2) := by decide +kernel
theorem d_M_block_206 : decode b_M_block 206 = .ok (.aload_n 0, 1) := by decide +kernel
theorem d_M_block_207 : decode b_M_block 207 = .ok (.getfield 46, 3) := by decide +kernel
theorem d_M_block_210 : decode b_M_block 210 = .ok (.iconst 4, 1) := by decide +kernel
theorem d_M_block_211 : decode b_M_block 211 = .ok (.laload, 1) := by decide +kernel
theorem d_M_block_212 : decode b_M_block 212 = .ok (.lstore 10, 2) := by decide +kernel
theorem d_M_block_214 : decode b_M_block 214 = .ok (.aload_n 0, 1) := by decide +kernel
theorem d_M_block_215 : decode b_M_block 215 = .ok (.getfield 46, 3) := by decide +kernel
theorem d_M_block_218 : decode b_M_block 218 = .ok (.iconst 5, 1) := by decide +kernel
theorem d_M_block_219 : decode b_M_block 219 = .ok (.laload, 1) := by decide +kernel
theorem d_M_block_220 : decode b_M_block 220 = .ok (.lstore 12, 2) := by decide +kernel
theorem d_M_block_222 : decode b_M_block 222 = .ok (.aload_n 0, 1) := by decide +kernel
theorem d_M_block_223 : decode b_M_block 223 = .ok (.getfield 46, 3) := by decide +kernel
theorem d_M_block_226 : decode b_M_block 226 = .ok (.bipush 6, 2) := by decide +kernel
theorem d_M_block_228 : decode b_M_block 228 = .ok (.laload, 1) := by decide +kernel
theorem d_M_block_229 : decode b_M_block 229 = .ok (.lstore 14, 2) := by decide +kernel
theorem d_M_block_231 : decode b_M_block 231 = .ok (.aload_n 0, 1) := by decide +kernel
theorem d_M_block_232 : decode b_M_block 232 = .ok (.getfield 46, 3) := by decide +kernel
theorem d_M_block_235 : decode b_M_block 235 = .ok (.bipush 7, 2) := by decide +kernel
theorem d_M_block_237 : decode b_M_block 237 = .ok (.laload, 1) := by decide +kernel
theorem d_M_block_238 : decode b_M_block 238 = .ok (.lstore 16, 2) := by decide +kernel
theorem d_M_block_240 : decode b_M_block 240 = .ok (.iconst 0, 1) := by decide +kernel
theorem d_M_block_241 : decode b_M_block 241 = .ok (.istore 18, 2) := by decide +kernel
theorem d_M_block_243 : decode b_M_block 243 = .ok (.iload 18, 2) := by decide +kernel
theorem d_M_block_245 : decode b_M_block 245 = .ok (.bipush 64, 2) := by decide +kernel
theorem d_M_block_247 : decode b_M_block 247 = .ok (.if_icmp .ge 149, 3) := by decide +kernel
theorem d_M_block_250 : decode b_M_block 250 = .ok (.lload 16, 2) := by decide +kernel
theorem d_M_block_252 : decode b_M_block 252 = .ok (.lload 10, 2) := by decide +kernel
theorem d_M_block_254 : decode b_M_block 254 = .ok (.bipush 6, 2) := by decide +kernel
theorem d_M_block_256 : decode b_M_block 256 = .ok (.invokestatic 95, 3) := by decide +kernel
theorem d_M_block_259 : decode b_M_block 259 = .ok (.lload 10, 2) := by decide +kernel
theorem d_M_block_261 : decode b_M_block 261 = .ok (.bipush 11, 2) := by decide +kernel
theorem d_M_block_263 : decode b_M_block 263 = .ok (.invokestatic 95, 3) := by decide +kernel
theorem d_M_block_266 : decode b_M_block 266 = .ok (.lxor, 1) := by decide +kernel
theorem d_M_block_267 : decode b_M_block 267 = .ok (.lload 10, 2) := by decide +kernel
theorem d_M_block_269 : decode b_M_block 269 = .ok (.bipush 25, 2) := by decide +kernel
theorem d_M_block_271 : decode b_M_block 271 = .ok (.invokestatic 95, 3) := by decide +kernel
theorem d_M_block_274 : decode b_M_block 274 = .ok (.lxor, 1) := by decide +kernel
theorem d_M_block_275 : decode b_M_block 275 = .ok (.ladd, 1) := by decide +kernel
theorem d_M_block_276 : decode b_M_block 276 = .ok (.lload 10, 2) := by decide +kernel
theorem d_M_block_278 : decode b_M_block 278 = .ok (.lload 12, 2) := by decide +kernel
theorem d_M_block_280 : decode b_M_block 280 = .ok (.land, 1) := by decide +kernel
theorem d_M_block_281 : decode b_M_block 281 = .ok (.ldc2_w 69, 3) := by decide +kernel
theorem d_M_block_284 : decode b_M_block 284 = .ok (.lload 10, 2) := by decide +kernel
theorem d_M_block_286 : decode b_M_block 286 = .ok (.lsub, 1) := by decide +kernel
theorem d_M_block_287 : decode b_M_block 287 = .ok (.lload 14, 2) := by decide +kernel
theorem d_M_block_289 : decode b_M_block 289 = .ok (.land, 1) := by decide +kernel
theorem d_M_block_290 : decode b_M_block 290 = .ok (.lxor, 1) := by decide +kernel
theorem d_M_block_291 : decode b_M_block 291 = .ok (.ladd, 1) := by decide +kernel
theorem d_M_block_292 : decode b_M_block 292 = .ok (.getstatic 99, 3) := by decide +kernel
theorem d_M_block_295 : decode b_M_block 295 = .ok (.iload 18, 2) := by decide +kernel
theorem d_M_block_297 : decode b_M_block 297 = .ok (.laload, 1) := by decide +kernel
theorem d_M_block_298 : decode b_M_block 298 = .ok (.ladd, 1) := by decide +kernel
theorem d_M_block_299 : decode b_M_block 299 = .ok (.aload_n 0, 1) := by decide +kernel
theorem d_M_block_300 : decode b_M_block 300 = .ok (.getfield 66, 3) := by decide +kernel
theorem d_M_block_303 : decode b_M_block 303 = .ok (.iload 18, 2) := by decide +kernel
theorem d_M_block_305 : decode b_M_block 305 = .ok (.laload, 1) := by decide +kernel
theorem d_M_block_306 : decode b_M_block 306 = .ok (.ladd, 1) := by decide +kernel
theorem d_M_block_307 : decode b_M_block 307 = .ok (.lstore 19, 2) := by decide +kernel
theorem d_M_block_309 : decode b_M_block 309 = .ok (.lload_n 2, 1) := by decide +kernel
theorem d_M_block_310 : decode b_M_block 310 = .ok (.iconst 2, 1) := by decide +kernel
theorem d_M_block_311 : decode b_M_block 311 = .ok (.invokestatic 95, 3) := by decide +kernel
theorem d_M_block_314 : decode b_M_block 314 = .ok (.lload_n 2, 1) := by decide +kernel
theorem d_M_block_315 : decode b_M_block 315 = .ok (.bipush 13, 2) := by decide +kernel
theorem d_M_block_317 : decode b_M_block 317 = .ok (.invokestatic 95, 3) := by decide +kernel
theorem d_M_block_320 : decode b_M_block 320 = .ok (.lxor, 1) := by decide +kernel
theorem d_M_block_321 : decode b_M_block 321 = .ok (.lload_n 2, 1) := by decide +kernel
theorem d_M_block_322 : decode b_M_block 322 = .ok (.bipush 22, 2) := by decide +kernel
theorem d_M_block_324 : decode b_M_block 324 = .ok (.invokestatic 95, 3) := by decide +kernel
theorem d_M_block_327 : decode b_M_block 327 = .ok (.lxor, 1) := by decide +kernel
theorem d_M_block_328 : decode b_M_block 328 = .ok (.lload_n 2, 1) := by decide +kernel
theorem d_M_block_329 : decode b_M_block 329 = .ok (.lload 4, 2) := by decide +kernel
theorem d_M_block_331 : decode b_M_block 331 = .ok (.land, 1) := by decide +kernel
theorem d_M_block_332 : decode b_M_block 332 = .ok (.lload_n 2, 1) := by decide +kernel
theorem d_M_block_333 : decode b_M_block 333 = .ok (.lload 6, 2) := by decide +kernel
theorem d_M_block_335 : decode b_M_block 335 = .ok (.land, 1) := by decide +kernel
theorem d_M_block_336 : decode b_M_block 336 = .ok (.lxor, 1) := by decide +kernel
theorem d_M_block_337 : decode b_M_block 337 = .ok (.lload 4, 2) := by decide +kernel
theorem d_M_block_339 : decode b_M_block 339 = .ok (.lload 6, 2) := by decide +kernel
theorem d_M_block_341 : decode b_M_block 341 = .ok (.land, 1) := by decide +kernel
theorem d_M_block_342 : decode b_M_block 342 = .ok (.lxor, 1) := by decide +kernel
theorem d_M_block_343 : decode b_M_block 343 = .ok (.ladd, 1) := by decide +kernel
theorem d_M_block_344 : decode b_M_block 344 = .ok (.lstore 21, 2) := by decide +kernel
theorem d_M_block_346 : decode b_M_block 346 = .ok (.lload 14, 2) := by decide +kernel
theorem d_M_block_348 : decode b_M_block 348 = .ok (.lstore 16, 2) := by decide +kernel
theorem d_M_block_350 : decode b_M_block 350 = .ok (.lload 12, 2) := by decide +kernel
theorem d_M_block_352 : decode b_M_block 352 = .ok (.lstore 14, 2) := by decide +kernel
theorem d_M_block_354 : decode b_M_block 354 = .ok (.lload 10, 2) := by decide +kernel
theorem d_M_block_356 : decode b_M_block 356 = .ok (.lstore 12, 2) := by decide +kernel
theorem d_M_block_358 : decode b_M_block 358 = .ok (.lload 8, 2) := by decide +kernel
theorem d_M_block_360 : decode b_M_block 360 = .ok (.lload 19, 2) := by decide +kernel
theorem d_M_block_362 : decode b_M_block 362 = .ok (.ladd, 1) := by decide +kernel
theorem d_M_block_363 : decode b_M_block 363 = .ok (.ldc2_w 69, 3) := by decide +kernel
theorem d_M_block_366 : decode b_M_block 366 = .ok (.land, 1) := by decide +kernel
theorem d_M_block_367 : decode b_M_block 367 = .ok (.lstore 10, 2) := by decide +kernel
theorem d_M_block_369 : decode b_M_block 369 = .ok (.lload 6, 2) := by decide +kernel
theorem d_M_block_371 : decode b_M_block 371 = .ok (.lstore 8, 2) := by decide +kernel
theorem d_M_block_373 : decode b_M_block 373 = .ok (.lload 4, 2) := by decide +kernel
theorem d_M_block_375 : decode b_M_block 375 = .ok (.lstore 6, 2) := by decide +kernel
theorem d_M_block_377 : decode b_M_block 377 = .ok (.lload_n 2, 1) := by decide +kernel
theorem d_M_block_378 : decode b_M_block 378 = .ok (.lstore 4, 2) := by decide +kernel
theorem d_M_block_380 : decode b_M_block 380 = .ok (.lload 19, 2) := by decide +kernel
theorem d_M_block_382 : decode b_M_block 382 = .ok (.lload 21, 2) := by decide +kernel
theorem d_M_block_384 : decode b_M_block 384 = .ok (.ladd, 1) := by decide +kernel
theorem d_M_block_385 : decode b_M_block 385 = .ok (.ldc2_w 69, 3) := by decide +kernel
theorem d_M_block_388 : decode b_M_block 388 = .ok (.land, 1) := by decide +kernel
theorem d_M_block_389 : decode b_M_block 389 = .ok (.lstore_n 2, 1) := by decide +kernel
theorem d_M_block_390 : decode b_M_block 390 = .ok (.iinc 18 1, 3) := by decide +kernel
theorem d_M_block_393 : decode b_M_block 393 = .ok (.goto (-150), 3) := by decide +kernel
theorem d_M_block_396 : decode b_M_block 396 = .ok (.aload_n 0, 1) := by decide +kernel
theorem d_M_block_397 : decode b_M_block 397 = .ok (.getfield 46, 3) := by decide +kernel
theorem d_M_block_400 : decode b_M_block 400 = .ok (.iconst 0, 1) := by decide +kernel
theorem d_M_block_401 : decode b_M_block 401 = .ok (.aload_n 0, 1) := by decide +kernel
theorem d_M_block_402 : decode b_M_block 402 = .ok (.getfield 46, 3) := by decide +kernel
theorem d_M_block_405 : decode b_M_block 405 = .ok (.iconst 0, 1) := by decide +kernel
theorem d_M_block_406 : decode b_M_block 406 = .ok (.laload, 1) := by decide +kernel
theorem d_M_block_407 : decode b_M_block 407 = .ok (.lload_n 2, 1) := by decide +kernel
theorem d_M_block_408 : decode b_M_block 408 = .ok (.ladd, 1) := by decide +kernel
theorem d_M_block_409 : decode b_M_block 409 = .ok (.ldc2_w 69, 3) := by decide +kernel
theorem d_M_block_412 : decode b_M_block 412 = .ok (.land, 1) := by decide +kernel
theorem d_M_block_413 : decode b_M_block 413 = .ok (.lastore, 1) := by decide +kernel
theorem d_M_block_414 : decode b_M_block 414 = .ok (.aload_n 0, 1) := by decide +kernel
theorem d_M_block_415 : decode b_M_block 415 = .ok (.getfield 46, 3) := by decide +kernel
theorem d_M_block_418 : decode b_M_block 418 = .ok (.iconst 1, 1) := by decide +kernel
theorem d_M_block_419 : decode b_M_block 419 = .ok (.aload_n 0, 1) := by decide +kernel
theorem d_M_block_420 : decode b_M_block 420 = .ok (.getfield 46, 3) := by decide +kernel
theorem d_M_block_423 : decode b_M_block 423 = .ok (.iconst 1, 1) := by decide +kernel
theorem d_M_block_424 : decode b_M_block 424 = .ok (.laload, 1) := by decide +kernel
theorem d_M_block_425 : decode b_M_block 425 = .ok (.lload 4, 2) := by decide +kernel
theorem d_M_block_427 : decode b_M_block 427 = .ok (.ladd, 1) := by decide +kernel
theorem d_M_block_428 : decode b_M_block 428 = .ok (.ldc2_w 69, 3) := by decide +kernel
theorem d_M_block_431 : decode b_M_block 431 = .ok (.land, 1) := by decide +kernel
theorem d_M_block_432 : decode b_M_block 432 = .ok (.lastore, 1) := by decide +kernel
theorem d_M_block_433 : decode b_M_block 433 = .ok (.aload_n 0, 1) := by decide +kernel
theorem d_M_block_434 : decode b_M_block 434 = .ok (.getfield 46, 3) := by decide +kernel
theorem d_M_block_437 : decode b_M_block 437 = .ok (.iconst 2, 1) := by decide +kernel
theorem d_M_block_438 : decode b_M_block 438 = .ok (.aload_n 0, 1) := by decide +kernel
theorem d_M_block_439 : decode b_M_block 439 = .ok (.getfield 46, 3) := by decide +kernel
theorem d_M_block_442 : decode b_M_block 442 = .ok (.iconst 2, 1) := by decide +kernel
theorem d_M_block_443 : decode b_M_block 443 = .ok (.laload, 1) := by decide +kernel
theorem d_M_block_444 : decode b_M_block 444 = .ok (.lload 6, 2) := by decide +kernel
theorem d_M_block_446 : decode b_M_block 446 = .ok (.ladd, 1) := by decide +kernel
theorem d_M_block_447 : decode b_M_block 447 = .ok (.ldc2_w 69, 3) := by decide +kernel
theorem d_M_block_450 : decode b_M_block 450 = .ok (.land, 1) := by decide +kernel
theorem d_M_block_451 : decode b_M_block 451 = .ok (.lastore, 1) := by decide +kernel
theorem d_M_block_452 : decode b_M_block 452 = .ok (.aload_n 0, 1) := by decide +kernel
theorem d_M_block_453 : decode b_M_block 453 = .ok (.getfield 46, 3) := by decide +kernel
theorem d_M_block_456 : decode b_M_block 456 = .ok (.iconst 3, 1) := by decide +kernel
theorem d_M_block_457 : decode b_M_block 457 = .ok (.aload_n 0, 1) := by decide +kernel
theorem d_M_block_458 : decode b_M_block 458 = .ok (.getfield 46, 3) := by decide +kernel
theorem d_M_block_461 : decode b_M_block 461 = .ok (.iconst 3, 1) := by decide +kernel
theorem d_M_block_462 : decode b_M_block 462 = .ok (.laload, 1) := by decide +kernel
theorem d_M_block_463 : decode b_M_block 463 = .ok (.lload 8, 2) := by decide +kernel
theorem d_M_block_465 : decode b_M_block 465 = .ok (.ladd, 1) := by decide +kernel
theorem d_M_block_466 : decode b_M_block 466 = .ok (.ldc2_w 69, 3) := by decide +kernel
theorem d_M_block_469 : decode b_M_block 469 = .ok (.land, 1) := by decide +kernel
theorem d_M_block_470 : decode b_M_block 470 = .ok (.lastore, 1) := by decide +kernel
theorem d_M_block_471 : decode b_M_block 471 = .ok (.aload_n 0, 1) := by decide +kernel
theorem d_M_block_472 : decode b_M_block 472 = .ok (.getfield 46, 3) := by decide +kernel
theorem d_M_block_475 : decode b_M_block 475 = .ok (.iconst 4, 1) := by decide +kernel
theorem d_M_block_476 : decode b_M_block 476 = .ok (.aload_n 0, 1) := by decide +kernel
theorem d_M_block_477 : decode b_M_block 477 = .ok (.getfield 46, 3) := by decide +kernel
theorem d_M_block_480 : decode b_M_block 480 = .ok (.iconst 4, 1) := by decide +kernel
theorem d_M_block_481 : decode b_M_block 481 = .ok (.laload, 1) := by decide +kernel
theorem d_M_block_482 : decode b_M_block 482 = .ok (.lload 10, 2) := by decide +kernel
theorem d_M_block_484 : decode b_M_block 484 = .ok (.ladd, 1) := by decide +kernel
theorem d_M_block_485 : decode b_M_block 485 = .ok (.ldc2_w 69, 3) := by decide +kernel
theorem d_M_block_488 : decode b_M_block 488 = .ok (.land, 1) := by decide +kernel
theorem d_M_block_489 : decode b_M_block 489 = .ok (.lastore, 1) := by decide +kernel
theorem d_M_block_490 : decode b_M_block 490 = .ok (.aload_n 0, 1) := by decide +kernel
theorem d_M_block_491 : decode b_M_block 491 = .ok (.getfield 46, 3) := by decide +kernel
theorem d_M_block_494 : decode b_M_block 494 = .ok (.iconst 5, 1) := by decide +kernel
theorem d_M_block_495 : decode b_M_block 495 = .ok (.aload_n 0, 1) := by decide +kernel
theorem d_M_block_496 : decode b_M_block 496 = .ok (.getfield 46, 3) := by decide +kernel
theorem d_M_block_499 : decode b_M_block 499 = .ok (.iconst 5, 1) := by decide +kernel
theorem d_M_block_500 : decode b_M_block 500 = .ok (.laload, 1) := by decide +kernel
theorem d_M_block_501 : decode b_M_block 501 = .ok (.lload 12, 2) := by decide +kernel
theorem d_M_block_503 : decode b_M_block 503 = .ok (.ladd, 1) := by decide +kernel
theorem d_M_block_504 : decode b_M_block 504 = .ok (.ldc2_w 69, 3) := by decide +kernel
theorem d_M_block_507 : decode b_M_block 507 = .ok (.land, 1) := by decide +kernel
theorem d_M_block_508 : decode b_M_block 508 = .ok (.lastore, 1) := by decide +kernel
theorem d_M_block_509 : decode b_M_block 509 = .ok (.aload_n 0, 1) := by decide +kernel
theorem d_M_block_510 : decode b_M_block 510 = .ok (.getfield 46, 3) := by decide +kernel
theorem d_M_block_513 : decode b_M_block 513 = .ok (.bipush 6, 2) := by decide +kernel
theorem d_M_block_515 : decode b_M_block 515 = .ok (.aload_n 0, 1) := by decide +kernel
theorem d_M_block_516 : decode b_M_block 516 = .ok (.getfield 46, 3) := by decide +kernel
theorem d_M_block_519 : decode b_M_block 519 = .ok (.bipush 6, 2) := by decide +kernel
theorem d_M_block_521 : decode b_M_block 521 = .ok (.laload, 1) := by decide +kernel
theorem d_M_block_522 : decode b_M_block 522 = .ok (.lload 14, 2) := by decide +kernel
theorem d_M_block_524 : decode b_M_block 524 = .ok (.ladd, 1) := by decide +kernel
theorem d_M_block_525 : decode b_M_block 525 = .ok (.ldc2_w 69, 3) := by decide +kernel
theorem d_M_block_528 : decode b_M_block 528 = .ok (.land, 1) := by decide +kernel
theorem d_M_block_529 : decode b_M_block 529 = .ok (.lastore, 1) := by decide +kernel
theorem d_M_block_530 : decode b_M_block 530 = .ok (.aload_n 0, 1) := by decide +kernel
theorem d_M_block_531 : decode b_M_block 531 = .ok (.getfield 46, 3) := by decide +kernel
theorem d_M_block_534 : decode b_M_block 534 = .ok (.bipush 7, 2) := by decide +kernel
theorem d_M_block_536 : decode b_M_block 536 = .ok (.aload_n 0, 1) := by decide +kernel
theorem d_M_block_537 : decode b_M_block 537 = .ok (.getfield 46, 3) := by decide +kernel
theorem d_M_block_540 : decode b_M_block 540 = .ok (.bipush 7, 2) := by decide +kernel
theorem d_M_block_542 : decode b_M_block 542 = .ok (.laload, 1) := by decide +kernel
theorem d_M_block_543 : decode b_M_block 543 = .ok (.lload 16, 2) := by decide +kernel
theorem d_M_block_545 : decode b_M_block 545 = .ok (.ladd, 1) := by decide +kernel
theorem d_M_block_546 : decode b_M_block 546 = .ok (.ldc2_w 69, 3) := by decide +kernel
theorem d_M_block_549 : decode b_M_block 549 = .ok (.land, 1) := by decide +kernel
theorem d_M_block_550 : decode b_M_block 550 = .ok (.lastore, 1) := by decide +kernel
theorem d_M_block_551 : decode b_M_block 551 = .ok (.return_, 1) := by decide +kernel
