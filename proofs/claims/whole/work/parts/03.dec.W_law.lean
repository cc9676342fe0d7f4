theorem d_W_law_0 : decode b_W_law 0 = .ok (.new 7, 3) := by decide +kernel
theorem d_W_law_3 : decode b_W_law 3 = .ok (.dup, 1) := by decide +kernel
theorem d_W_law_4 : decode b_W_law 4 = .ok (.invokespecial 9, 3) := by decide +kernel
theorem d_W_law_7 : decode b_W_law 7 = .ok (.astore_n 1, 1) := by decide +kernel
theorem d_W_law_8 : decode b_W_law 8 = .ok (.new 10, 3) := by decide +kernel
theorem d_W_law_11 : decode b_W_law 11 = .ok (.dup, 1) := by decide +kernel
theorem d_W_law_12 : decode b_W_law 12 = .ok (.invokespecial 12, 3) := by decide +kernel
theorem d_W_law_15 : decode b_W_law 15 = .ok (.astore_n 2, 1) := by decide +kernel
theorem d_W_law_16 : decode b_W_law 16 = .ok (.iconst 0, 1) := by decide +kernel
theorem d_W_law_17 : decode b_W_law 17 = .ok (.istore_n 3, 1) := by decide +kernel
theorem d_W_law_18 : decode b_W_law 18 = .ok (.iload_n 3, 1) := by decide +kernel
theorem d_W_law_19 : decode b_W_law 19 = .ok (.aload_n 0, 1) := by decide +kernel
theorem d_W_law_20 : decode b_W_law 20 = .ok (.arraylength, 1) := by decide +kernel
theorem d_W_law_21 : decode b_W_law 21 = .ok (.bipush 9, 2) := by decide +kernel
theorem d_W_law_23 : decode b_W_law 23 = .ok (.isub, 1) := by decide +kernel
theorem d_W_law_24 : decode b_W_law 24 = .ok (.if_icmp .gt 699, 3) := by decide +kernel
theorem d_W_law_27 : decode b_W_law 27 = .ok (.aload_n 0, 1) := by decide +kernel
theorem d_W_law_28 : decode b_W_law 28 = .ok (.iload_n 3, 1) := by decide +kernel
theorem d_W_law_29 : decode b_W_law 29 = .ok (.iaload, 1) := by decide +kernel
theorem d_W_law_30 : decode b_W_law 30 = .ok (.bipush 15, 2) := by decide +kernel
theorem d_W_law_32 : decode b_W_law 32 = .ok (.iand, 1) := by decide +kernel
theorem d_W_law_33 : decode b_W_law 33 = .ok (.tableswitch 684 0 11 #[63, 240, 419, 432, 445, 469, 482, 506, 519, 553, 566, 600], 63) := by decide +kernel
theorem d_W_law_96 : decode b_W_law 96 = .ok (.aload_n 1, 1) := by decide +kernel
theorem d_W_law_97 : decode b_W_law 97 = .ok (.aload_n 0, 1) := by decide +kernel
theorem d_W_law_98 : decode b_W_law 98 = .ok (.iload_n 3, 1) := by decide +kernel
theorem d_W_law_99 : decode b_W_law 99 = .ok (.iconst 1, 1) := by decide +kernel
theorem d_W_law_100 : decode b_W_law 100 = .ok (.iadd, 1) := by decide +kernel
theorem d_W_law_101 : decode b_W_law 101 = .ok (.iaload, 1) := by decide +kernel
theorem d_W_law_102 : decode b_W_law 102 = .ok (.i2l, 1) := by decide +kernel
theorem d_W_law_103 : decode b_W_law 103 = .ok (.bipush 32, 2) := by decide +kernel
theorem d_W_law_105 : decode b_W_law 105 = .ok (.lshl, 1) := by decide +kernel
theorem d_W_law_106 : decode b_W_law 106 = .ok (.aload_n 0, 1) := by decide +kernel
theorem d_W_law_107 : decode b_W_law 107 = .ok (.iload_n 3, 1) := by decide +kernel
theorem d_W_law_108 : decode b_W_law 108 = .ok (.iconst 2, 1) := by decide +kernel
theorem d_W_law_109 : decode b_W_law 109 = .ok (.iadd, 1) := by decide +kernel
theorem d_W_law_110 : decode b_W_law 110 = .ok (.iaload, 1) := by decide +kernel
theorem d_W_law_111 : decode b_W_law 111 = .ok (.i2l, 1) := by decide +kernel
theorem d_W_law_112 : decode b_W_law 112 = .ok (.ldc2_w 13, 3) := by decide +kernel
theorem d_W_law_115 : decode b_W_law 115 = .ok (.land, 1) := by decide +kernel
theorem d_W_law_116 : decode b_W_law 116 = .ok (.lor, 1) := by decide +kernel
theorem d_W_law_117 : decode b_W_law 117 = .ok (.aload_n 0, 1) := by decide +kernel
theorem d_W_law_118 : decode b_W_law 118 = .ok (.iload_n 3, 1) := by decide +kernel
theorem d_W_law_119 : decode b_W_law 119 = .ok (.iconst 3, 1) := by decide +kernel
theorem d_W_law_120 : decode b_W_law 120 = .ok (.iadd, 1) := by decide +kernel
theorem d_W_law_121 : decode b_W_law 121 = .ok (.iaload, 1) := by decide +kernel
theorem d_W_law_122 : decode b_W_law 122 = .ok (.i2l, 1) := by decide +kernel
theorem d_W_law_123 : decode b_W_law 123 = .ok (.bipush 32, 2) := by decide +kernel
theorem d_W_law_125 : decode b_W_law 125 = .ok (.lshl, 1) := by decide +kernel
theorem d_W_law_126 : decode b_W_law 126 = .ok (.aload_n 0, 1) := by decide +kernel
theorem d_W_law_127 : decode b_W_law 127 = .ok (.iload_n 3, 1) := by decide +kernel
theorem d_W_law_128 : decode b_W_law 128 = .ok (.iconst 4, 1) := by decide +kernel
theorem d_W_law_129 : decode b_W_law 129 = .ok (.iadd, 1) := by decide +kernel
theorem d_W_law_130 : decode b_W_law 130 = .ok (.iaload, 1) := by decide +kernel
theorem d_W_law_131 : decode b_W_law 131 = .ok (.i2l, 1) := by decide +kernel
theorem d_W_law_132 : decode b_W_law 132 = .ok (.ldc2_w 13, 3) := by decide +kernel
theorem d_W_law_135 : decode b_W_law 135 = .ok (.land, 1) := by decide +kernel
theorem d_W_law_136 : decode b_W_law 136 = .ok (.lor, 1) := by decide +kernel
theorem d_W_law_137 : decode b_W_law 137 = .ok (.aload_n 0, 1) := by decide +kernel
theorem d_W_law_138 : decode b_W_law 138 = .ok (.iload_n 3, 1) := by decide +kernel
theorem d_W_law_139 : decode b_W_law 139 = .ok (.iconst 5, 1) := by decide +kernel
theorem d_W_law_140 : decode b_W_law 140 = .ok (.iadd, 1) := by decide +kernel
theorem d_W_law_141 : decode b_W_law 141 = .ok (.iaload, 1) := by decide +kernel
theorem d_W_law_142 : decode b_W_law 142 = .ok (.i2l, 1) := by decide +kernel
theorem d_W_law_143 : decode b_W_law 143 = .ok (.bipush 32, 2) := by decide +kernel
theorem d_W_law_145 : decode b_W_law 145 = .ok (.lshl, 1) := by decide +kernel
theorem d_W_law_146 : decode b_W_law 146 = .ok (.aload_n 0, 1) := by decide +kernel
theorem d_W_law_147 : decode b_W_law 147 = .ok (.iload_n 3, 1) := by decide +kernel
theorem d_W_law_148 : decode b_W_law 148 = .ok (.bipush 6, 2) := by decide +kernel
theorem d_W_law_150 : decode b_W_law 150 = .ok (.iadd, 1) := by decide +kernel
theorem d_W_law_151 : decode b_W_law 151 = .ok (.iaload, 1) := by decide +kernel
theorem d_W_law_152 : decode b_W_law 152 = .ok (.i2l, 1) := by decide +kernel
theorem d_W_law_153 : decode b_W_law 153 = .ok (.ldc2_w 13, 3) := by decide +kernel
theorem d_W_law_156 : decode b_W_law 156 = .ok (.land, 1) := by decide +kernel
theorem d_W_law_157 : decode b_W_law 157 = .ok (.lor, 1) := by decide +kernel
theorem d_W_law_158 : decode b_W_law 158 = .ok (.aload_n 0, 1) := by decide +kernel
theorem d_W_law_159 : decode b_W_law 159 = .ok (.iload_n 3, 1) := by decide +kernel
theorem d_W_law_160 : decode b_W_law 160 = .ok (.bipush 7, 2) := by decide +kernel
theorem d_W_law_162 : decode b_W_law 162 = .ok (.iadd, 1) := by decide +kernel
theorem d_W_law_163 : decode b_W_law 163 = .ok (.iaload, 1) := by decide +kernel
theorem d_W_law_164 : decode b_W_law 164 = .ok (.i2l, 1) := by decide +kernel
theorem d_W_law_165 : decode b_W_law 165 = .ok (.bipush 32, 2) := by decide +kernel
theorem d_W_law_167 : decode b_W_law 167 = .ok (.lshl, 1) := by decide +kernel
theorem d_W_law_168 : decode b_W_law 168 = .ok (.aload_n 0, 1) := by decide +kernel
theorem d_W_law_169 : decode b_W_law 169 = .ok (.iload_n 3, 1) := by decide +kernel
theorem d_W_law_170 : decode b_W_law 170 = .ok (.bipush 8, 2) := by decide +kernel
theorem d_W_law_172 : decode b_W_law 172 = .ok (.iadd, 1) := by decide +kernel
theorem d_W_law_173 : decode b_W_law 173 = .ok (.iaload, 1) := by decide +kernel
theorem d_W_law_174 : decode b_W_law 174 = .ok (.i2l, 1) := by decide +kernel
theorem d_W_law_175 : decode b_W_law 175 = .ok (.ldc2_w 13, 3) := by decide +kernel
theorem d_W_law_178 : decode b_W_law 178 = .ok (.land, 1) := by decide +kernel
theorem d_W_law_179 : decode b_W_law 179 = .ok (.lor, 1) := by decide +kernel
theorem d_W_law_180 : decode b_W_law 180 = .ok (.invokevirtual 15, 3) := by decide +kernel
theorem d_W_law_183 : decode b_W_law 183 = .ok (.aload_n 2, 1) := by decide +kernel
theorem d_W_law_184 : decode b_W_law 184 = .ok (.aload_n 0, 1) := by decide +kernel
theorem d_W_law_185 : decode b_W_law 185 = .ok (.iload_n 3, 1) := by decide +kernel
theorem d_W_law_186 : decode b_W_law 186 = .ok (.iconst 1, 1) := by decide +kernel
theorem d_W_law_187 : decode b_W_law 187 = .ok (.iadd, 1) := by decide +kernel
theorem d_W_law_188 : decode b_W_law 188 = .ok (.iaload, 1) := by decide +kernel
theorem d_W_law_189 : decode b_W_law 189 = .ok (.i2l, 1) := by decide +kernel
theorem d_W_law_190 : decode b_W_law 190 = .ok (.bipush 32, 2) := by decide +kernel
theorem d_W_law_192 : decode b_W_law 192 = .ok (.lshl, 1) := by decide +kernel
theorem d_W_law_193 : decode b_W_law 193 = .ok (.aload_n 0, 1) := by decide +kernel
theorem d_W_law_194 : decode b_W_law 194 = .ok (.iload_n 3, 1) := by decide +kernel
theorem d_W_law_195 : decode b_W_law 195 = .ok (.iconst 2, 1) := by decide +kernel
theorem d_W_law_196 : decode b_W_law 196 = .ok (.iadd, 1) := by decide +kernel
theorem d_W_law_197 : decode b_W_law 197 = .ok (.iaload, 1) := by decide +kernel
theorem d_W_law_198 : decode b_W_law 198 = .ok (.i2l, 1) := by decide +kernel
theorem d_W_law_199 : decode b_W_law 199 = .ok (.ldc2_w 13, 3) := by decide +kernel
theorem d_W_law_202 : decode b_W_law 202 = .ok (.land, 1) := by decide +kernel
theorem d_W_law_203 : decode b_W_law 203 = .ok (.lor, 1) := by decide +kernel
theorem d_W_law_204 : decode b_W_law 204 = .ok (.aload_n 0, 1) := by decide +kernel
theorem d_W_law_205 : decode b_W_law 205 = .ok (.iload_n 3, 1) := by decide +kernel
theorem d_W_law_206 : decode b_W_law 206 = .ok (.iconst 3, 1) := by decide +kernel
theorem d_W_law_207 : decode b_W_law 207 = .ok (.iadd, 1) := by decide +kernel
theorem d_W_law_208 : decode b_W_law 208 = .ok (.iaload, 1) := by decide +kernel
theorem d_W_law_209 : decode b_W_law 209 = .ok (.i2l, 1) := by decide +kernel
theorem d_W_law_210 : decode b_W_law 210 = .ok (.bipush 32, 2) := by decide +kernel
theorem d_W_law_212 : decode b_W_law 212 = .ok (.lshl, 1) := by decide +kernel
theorem d_W_law_213 : decode b_W_law 213 = .ok (.aload_n 0, 1) := by decide +kernel
theorem d_W_law_214 : decode b_W_law 214 = .ok (.iload_n 3, 1) := by decide +kernel
theorem d_W_law_215 : decode b_W_law 215 = .ok (.iconst 4, 1) := by decide +kernel
theorem d_W_law_216 : decode b_W_law 216 = .ok (.iadd, 1) := by decide +kernel
theorem d_W_law_217 : decode b_W_law 217 = .ok (.iaload, 1) := by decide +kernel
theorem d_W_law_218 : decode b_W_law 218 = .ok (.i2l, 1) := by decide +kernel
theorem d_W_law_219 : decode b_W_law 219 = .ok (.ldc2_w 13, 3) := by decide +kernel
theorem d_W_law_222 : decode b_W_law 222 = .ok (.land, 1) := by decide +kernel
theorem d_W_law_223 : decode b_W_law 223 = .ok (.lor, 1) := by decide +kernel
theorem d_W_law_224 : decode b_W_law 224 = .ok (.aload_n 0, 1) := by decide +kernel
theorem d_W_law_225 : decode b_W_law 225 = .ok (.iload_n 3, 1) := by decide +kernel
theorem d_W_law_226 : decode b_W_law 226 = .ok (.iconst 5, 1) := by decide +kernel
theorem d_W_law_227 : decode b_W_law 227 = .ok (.iadd, 1) := by decide +kernel
theorem d_W_law_228 : decode b_W_law 228 = .ok (.iaload, 1) := by decide +kernel
theorem d_W_law_229 : decode b_W_law 229 = .ok (.i2l, 1) := by decide +kernel
theorem d_W_law_230 : decode b_W_law 230 = .ok (.bipush 32, 2) := by decide +kernel
theorem d_W_law_232 : decode b_W_law 232 = .ok (.lshl, 1) := by decide +kernel
theorem d_W_law_233 : decode b_W_law 233 = .ok (.aload_n 0, 1) := by decide +kernel
theorem d_W_law_234 : decode b_W_law 234 = .ok (.iload_n 3, 1) := by decide +kernel
theorem d_W_law_235 : decode b_W_law 235 = .ok (.bipush 6, 2) := by decide +kernel
theorem d_W_law_237 : decode b_W_law 237 = .ok (.iadd, 1) := by decide +kernel
theorem d_W_law_238 : decode b_W_law 238 = .ok (.iaload, 1) := by decide +kernel
theorem d_W_law_239 : decode b_W_law 239 = .ok (.i2l, 1) := by decide +kernel
theorem d_W_law_240 : decode b_W_law 240 = .ok (.ldc2_w 13, 3) := by decide +kernel
theorem d_W_law_243 : decode b_W_law 243 = .ok (.land, 1) := by decide +kernel
theorem d_W_law_244 : decode b_W_law 244 = .ok (.lor, 1) := by decide +kernel
theorem d_W_law_245 : decode b_W_law 245 = .ok (.aload_n 0, 1) := by decide +kernel
theorem d_W_law_246 : decode b_W_law 246 = .ok (.iload_n 3, 1) := by decide +kernel
theorem d_W_law_247 : decode b_W_law 247 = .ok (.bipush 7, 2) := by decide +kernel
theorem d_W_law_249 : decode b_W_law 249 = .ok (.iadd, 1) := by decide +kernel
theorem d_W_law_250 : decode b_W_law 250 = .ok (.iaload, 1) := by decide +kernel
theorem d_W_law_251 : decode b_W_law 251 = .ok (.i2l, 1) := by decide +kernel
theorem d_W_law_252 : decode b_W_law 252 = .ok (.bipush 32, 2) := by decide +kernel
theorem d_W_law_254 : decode b_W_law 254 = .ok (.lshl, 1) := by decide +kernel
theorem d_W_law_255 : decode b_W_law 255 = .ok (.aload_n 0, 1) := by decide +kernel
theorem d_W_law_256 : decode b_W_law 256 = .ok (.iload_n 3, 1) := by decide +kernel
theorem d_W_law_257 : decode b_W_law 257 = .ok (.bipush 8, 2) := by decide +kernel
theorem d_W_law_259 : decode b_W_law 259 = .ok (.iadd, 1) := by decide +kernel
theorem d_W_law_260 : decode b_W_law 260 = .ok (.iaload, 1) := by decide +kernel
theorem d_W_law_261 : decode b_W_law 261 = .ok (.i2l, 1) := by decide +kernel
theorem d_W_law_262 : decode b_W_law 262 = .ok (.ldc2_w 13, 3) := by decide +kernel
theorem d_W_law_265 : decode b_W_law 265 = .ok (.land, 1) := by decide +kernel
theorem d_W_law_266 : decode b_W_law 266 = .ok (.lor, 1) := by decide +kernel
theorem d_W_law_267 : decode b_W_law 267 = .ok (.invokevirtual 19, 3) := by decide +kernel
theorem d_W_law_270 : decode b_W_law 270 = .ok (.goto 447, 3) := by decide +kernel
theorem d_W_law_273 : decode b_W_law 273 = .ok (.aload_n 1, 1) := by decide +kernel
theorem d_W_law_274 : decode b_W_law 274 = .ok (.aload_n 0, 1) := by decide +kernel
theorem d_W_law_275 : decode b_W_law 275 = .ok (.iload_n 3, 1) := by decide +kernel
theorem d_W_law_276 : decode b_W_law 276 = .ok (.iconst 1, 1) := by decide +kernel
theorem d_W_law_277 : decode b_W_law 277 = .ok (.iadd, 1) := by decide +kernel
theorem d_W_law_278 : decode b_W_law 278 = .ok (.iaload, 1) := by decide +kernel
theorem d_W_law_279 : decode b_W_law 279 = .ok (.i2l, 1) := by decide +kernel
theorem d_W_law_280 : decode b_W_law 280 = .ok (.bipush 32, 2) := by decide +kernel
theorem d_W_law_282 : decode b_W_law 282 = .ok (.lshl, 1) := by decide +kernel
theorem d_W_law_283 : decode b_W_law 283 = .ok (.aload_n 0, 1) := by decide +kernel
theorem d_W_law_284 : decode b_W_law 284 = .ok (.iload_n 3, 1) := by decide +kernel
theorem d_W_law_285 : decode b_W_law 285 = .ok (.iconst 2, 1) := by decide +kernel
theorem d_W_law_286 : decode b_W_law 286 = .ok (.iadd, 1) := by decide +kernel
theorem d_W_law_287 : decode b_W_law 287 = .ok (.iaload, 1) := by decide +kernel
theorem d_W_law_288 : decode b_W_law 288 = .ok (.i2l, 1) := by decide +kernel
theorem d_W_law_289 : decode b_W_law 289 = .ok (.ldc2_w 13, 3) := by decide +kernel
theorem d_W_law_292 : decode b_W_law 292 = .ok (.land, 1) := by decide +kernel
theorem d_W_law_293 : decode b_W_law 293 = .ok (.lor, 1) := by decide +kernel
theorem d_W_law_294 : decode b_W_law 294 = .ok (.aload_n 0, 1) := by decide +kernel
theorem d_W_law_295 : decode b_W_law 295 = .ok (.iload_n 3, 1) := by decide +kernel
theorem d_W_law_296 : decode b_W_law 296 = .ok (.iconst 3, 1) := by decide +kernel
theorem d_W_law_297 : decode b_W_law 297 = .ok (.iadd, 1) := by decide +kernel
theorem d_W_law_298 : decode b_W_law 298 = .ok (.iaload, 1) := by decide +kernel
theorem d_W_law_299 : decode b_W_law 299 = .ok (.i2l, 1) := by decide +kernel
theorem d_W_law_300 : decode b_W_law 300 = .ok (.bipush 32, 2) := by decide +kernel
theorem d_W_law_302 : decode b_W_law 302 = .ok (.lshl, 1) := by decide +kernel
theorem d_W_law_303 : decode b_W_law 303 = .ok (.aload_n 0, 1) := by decide +kernel
theorem d_W_law_304 : decode b_W_law 304 = .ok (.iload_n 3, 1) := by decide +kernel
theorem d_W_law_305 : decode b_W_law 305 = .ok (.iconst 4, 1) := by decide +kernel
theorem d_W_law_306 : decode b_W_law 306 = .ok (.iadd, 1) := by decide +kernel
theorem d_W_law_307 : decode b_W_law 307 = .ok (.iaload, 1) := by decide +kernel
theorem d_W_law_308 : decode b_W_law 308 = .ok (.i2l, 1) := by decide +kernel
theorem d_W_law_309 : decode b_W_law 309 = .ok (.ldc2_w 13, 3) := by decide +kernel
theorem d_W_law_312 : decode b_W_law 312 = .ok (.land, 1) := by decide +kernel
theorem d_W_law_313 : decode b_W_law 313 = .ok (.lor, 1) := by decide +kernel
theorem d_W_law_314 : decode b_W_law 314 = .ok (.aload_n 0, 1) := by decide +kernel
theorem d_W_law_315 : decode b_W_law 315 = .ok (.iload_n 3, 1) := by decide +kernel
theorem d_W_law_316 : decode b_W_law 316 = .ok (.iconst 5, 1) := by decide +kernel
theorem d_W_law_317 : decode b_W_law 317 = .ok (.iadd, 1) := by decide +kernel
theorem d_W_law_318 : decode b_W_law 318 = .ok (.iaload, 1) := by decide +kernel
theorem d_W_law_319 : decode b_W_law 319 = .ok (.i2l, 1) := by decide +kernel
theorem d_W_law_320 : decode b_W_law 320 = .ok (.bipush 32, 2) := by decide +kernel
theorem d_W_law_322 : decode b_W_law 322 = .ok (.lshl, 1) := by decide +kernel
theorem d_W_law_323 : decode b_W_law 323 = .ok (.aload_n 0, 1) := by decide +kernel
theorem d_W_law_324 : decode b_W_law 324 = .ok (.iload_n 3, 1) := by decide +kernel
theorem d_W_law_325 : decode b_W_law 325 = .ok (.bipush 6, 2) := by decide +kernel
theorem d_W_law_327 : decode b_W_law 327 = .ok (.iadd, 1) := by decide +kernel
theorem d_W_law_328 : decode b_W_law 328 = .ok (.iaload, 1) := by decide +kernel
theorem d_W_law_329 : decode b_W_law 329 = .ok (.i2l, 1) := by decide +kernel
theorem d_W_law_330 : decode b_W_law 330 = .ok (.ldc2_w 13, 3) := by decide +kernel
theorem d_W_law_333 : decode b_W_law 333 = .ok (.land, 1) := by decide +kernel
theorem d_W_law_334 : decode b_W_law 334 = .ok (.lor, 1) := by decide +kernel
theorem d_W_law_335 : decode b_W_law 335 = .ok (.aload_n 0, 1) := by decide +kernel
theorem d_W_law_336 : decode b_W_law 336 = .ok (.iload_n 3, 1) := by decide +kernel
theorem d_W_law_337 : decode b_W_law 337 = .ok (.bipush 7, 2) := by decide +kernel
theorem d_W_law_339 : decode b_W_law 339 = .ok (.iadd, 1) := by decide +kernel
theorem d_W_law_340 : decode b_W_law 340 = .ok (.iaload, 1) := by decide +kernel
theorem d_W_law_341 : decode b_W_law 341 = .ok (.i2l, 1) := by decide +kernel
theorem d_W_law_342 : decode b_W_law 342 = .ok (.bipush 32, 2) := by decide +kernel
theorem d_W_law_344 : decode b_W_law 344 = .ok (.lshl, 1) := by decide +kernel
theorem d_W_law_345 : decode b_W_law 345 = .ok (.aload_n 0, 1) := by decide +kernel
theorem d_W_law_346 : decode b_W_law 346 = .ok (.iload_n 3, 1) := by decide +kernel
theorem d_W_law_347 : decode b_W_law 347 = .ok (.bipush 8, 2) := by decide +kernel
theorem d_W_law_349 : decode b_W_law 349 = .ok (.iadd, 1) := by decide +kernel
theorem d_W_law_350 : decode b_W_law 350 = .ok (.iaload, 1) := by decide +kernel
theorem d_W_law_351 : decode b_W_law 351 = .ok (.i2l, 1) := by decide +kernel
theorem d_W_law_352 : decode b_W_law 352 = .ok (.ldc2_w 13, 3) := by decide +kernel
theorem d_W_law_355 : decode b_W_law 355 = .ok (.land, 1) := by decide +kernel
theorem d_W_law_356 : decode b_W_law 356 = .ok (.lor, 1) := by decide +kernel
theorem d_W_law_357 : decode b_W_law 357 = .ok (.invokevirtual 20, 3) := by decide +kernel
theorem d_W_law_360 : decode b_W_law 360 = .ok (.aload_n 2, 1) := by decide +kernel
theorem d_W_law_361 : decode b_W_law 361 = .ok (.aload_n 0, 1) := by decide +kernel
theorem d_W_law_362 : decode b_W_law 362 = .ok (.iload_n 3, 1) := by decide +kernel
theorem d_W_law_363 : decode b_W_law 363 = .ok (.iconst 1, 1) := by decide +kernel
theorem d_W_law_364 : decode b_W_law 364 = .ok (.iadd, 1) := by decide +kernel
theorem d_W_law_365 : decode b_W_law 365 = .ok (.iaload, 1) := by decide +kernel
theorem d_W_law_366 : decode b_W_law 366 = .ok (.i2l, 1) := by decide +kernel
theorem d_W_law_367 : decode b_W_law 367 = .ok (.bipush 32, 2) := by decide +kernel
theorem d_W_law_369 : decode b_W_law 369 = .ok (.lshl, 1) := by decide +kernel
theorem d_W_law_370 : decode b_W_law 370 = .ok (.aload_n 0, 1) := by decide +kernel
theorem d_W_law_371 : decode b_W_law 371 = .ok (.iload_n 3, 1) := by decide +kernel
theorem d_W_law_372 : decode b_W_law 372 = .ok (.iconst 2, 1) := by decide +kernel
theorem d_W_law_373 : decode b_W_law 373 = .ok (.iadd, 1) := by decide +kernel
theorem d_W_law_374 : decode b_W_law 374 = .ok (.iaload, 1) := by decide +kernel
theorem d_W_law_375 : decode b_W_law 375 = .ok (.i2l, 1) := by decide +kernel
theorem d_W_law_376 : decode b_W_law 376 = .ok (.ldc2_w 13, 3) := by decide +kernel
theorem d_W_law_379 : decode b_W_law 379 = .ok (.land, 1) := by decide +kernel
theorem d_W_law_380 : decode b_W_law 380 = .ok (.lor, 1) := by decide +kernel
theorem d_W_law_381 : decode b_W_law 381 = .ok (.aload_n 0, 1) := by decide +kernel
theorem d_W_law_382 : decode b_W_law 382 = .ok (.iload_n 3, 1) := by decide +kernel
theorem d_W_law_383 : decode b_W_law 383 = .ok (.iconst 3, 1) := by decide +kernel
theorem d_W_law_384 : decode b_W_law 384 = .ok (.iadd, 1) := by decide +kernel
theorem d_W_law_385 : decode b_W_law 385 = .ok (.iaload, 1) := by decide +kernel
theorem d_W_law_386 : decode b_W_law 386 = .ok (.i2l, 1) := by decide +kernel
theorem d_W_law_387 : decode b_W_law 387 = .ok (.bipush 32, 2) := by decide +kernel
theorem d_W_law_389 : decode b_W_law 389 = .ok (.lshl, 1) := by decide +kernel
theorem d_W_law_390 : decode b_W_law 390 = .ok (.aload_n 0, 1) := by decide +kernel
theorem d_W_law_391 : decode b_W_law 391 = .ok (.iload_n 3, 1) := by decide +kernel
theorem d_W_law_392 : decode b_W_law 392 = .ok (.iconst 4, 1) := by decide +kernel
theorem d_W_law_393 : decode b_W_law 393 = .ok (.iadd, 1) := by decide +kernel
theorem d_W_law_394 : decode b_W_law 394 = .ok (.iaload, 1) := by decide +kernel
theorem d_W_law_395 : decode b_W_law 395 = .ok (.i2l, 1) := by decide +kernel
theorem d_W_law_396 : decode b_W_law 396 = .ok (.ldc2_w 13, 3) := by decide +kernel
theorem d_W_law_399 : decode b_W_law 399 = .ok (.land, 1) := by decide +kernel
theorem d_W_law_400 : decode b_W_law 400 = .ok (.lor, 1) := by decide +kernel
theorem d_W_law_401 : decode b_W_law 401 = .ok (.aload_n 0, 1) := by decide +kernel
theorem d_W_law_402 : decode b_W_law 402 = .ok (.iload_n 3, 1) := by decide +kernel
theorem d_W_law_403 : decode b_W_law 403 = .ok (.iconst 5, 1) := by decide +kernel
theorem d_W_law_404 : decode b_W_law 404 = .ok (.iadd, 1) := by decide +kernel
theorem d_W_law_405 : decode b_W_law 405 = .ok (.iaload, 1) := by decide +kernel
theorem d_W_law_406 : decode b_W_law 406 = .ok (.i2l, 1) := by decide +kernel
theorem d_W_law_407 : decode b_W_law 407 = .ok (.bipush 32, 2) := by decide +kernel
theorem d_W_law_409 : decode b_W_law 409 = .ok (.lshl, 1) := by decide +kernel
theorem d_W_law_410 : decode b_W_law 410 = .ok (.aload_n 0, 1) := by decide +kernel
theorem d_W_law_411 : decode b_W_law 411 = .ok (.iload_n 3, 1) := by decide +kernel
theorem d_W_law_412 : decode b_W_law 412 = .ok (.bipush 6, 2) := by decide +kernel
theorem d_W_law_414 : decode b_W_law 414 = .ok (.iadd, 1) := by decide +kernel
theorem d_W_law_415 : decode b_W_law 415 = .ok (.iaload, 1) := by decide +kernel
theorem d_W_law_416 : decode b_W_law 416 = .ok (.i2l, 1) := by decide +kernel
theorem d_W_law_417 : decode b_W_law 417 = .ok (.ldc2_w 13, 3) := by decide +kernel
theorem d_W_law_420 : decode b_W_law 420 = .ok (.land, 1) := by decide +kernel
theorem d_W_law_421 : decode b_W_law 421 = .ok (.lor, 1) := by decide +kernel
theorem d_W_law_422 : decode b_W_law 422 = .ok (.aload_n 0, 1) := by decide +kernel
theorem d_W_law_423 : decode b_W_law 423 = .ok (.iload_n 3, 1) := by decide +kernel
theorem d_W_law_424 : decode b_W_law 424 = .ok (.bipush 7, 2) := by decide +kernel
theorem d_W_law_426 : decode b_W_law 426 = .ok (.iadd, 1) := by decide +kernel
theorem d_W_law_427 : decode b_W_law 427 = .ok (.iaload, 1) := by decide +kernel
theorem d_W_law_428 : decode b_W_law 428 = .ok (.i2l, 1) := by decide +kernel
theorem d_W_law_429 : decode b_W_law 429 = .ok (.bipush 32, 2) := by decide +kernel
theorem d_W_law_431 : decode b_W_law 431 = .ok (.lshl, 1) := by decide +kernel
theorem d_W_law_432 : decode b_W_law 432 = .ok (.aload_n 0, 1) := by decide +kernel
theorem d_W_law_433 : decode b_W_law 433 = .ok (.iload_n 3, 1) := by decide +kernel
theorem d_W_law_434 : decode b_W_law 434 = .ok (.bipush 8, 2) := by decide +kernel
theorem d_W_law_436 : decode b_W_law 436 = .ok (.iadd, 1) := by decide +kernel
theorem d_W_law_437 : decode b_W_law 437 = .ok (.iaload, 1) := by decide +kernel
theorem d_W_law_438 : decode b_W_law 438 = .ok (.i2l, 1) := by decide +kernel
theorem d_W_law_439 : decode b_W_law 439 = .ok (.ldc2_w 13, 3) := by decide +kernel
theorem d_W_law_442 : decode b_W_law 442 = .ok (.land, 1) := by decide +kernel
theorem d_W_law_443 : decode b_W_law 443 = .ok (.lor, 1) := by decide +kernel
theorem d_W_law_444 : decode b_W_law 444 = .ok (.invokevirtual 24, 3) := by decide +kernel
theorem d_W_law_447 : decode b_W_law 447 = .ok (.if_icmp .eq 270, 3) := by decide +kernel
theorem d_W_law_450 : decode b_W_law 450 = .ok (.iconst 0, 1) := by decide +kernel
theorem d_W_law_451 : decode b_W_law 451 = .ok (.ireturn, 1) := by decide +kernel
theorem d_W_law_452 : decode b_W_law 452 = .ok (.aload_n 1, 1) := by decide +kernel
theorem d_W_law_453 : decode b_W_law 453 = .ok (.invokevirtual 25, 3) := by decide +kernel
theorem d_W_law_456 : decode b_W_law 456 = .ok (.aload_n 2, 1) := by decide +kernel
theorem d_W_law_457 : decode b_W_law 457 = .ok (.invokevirtual 29, 3) := by decide +kernel
theorem d_W_law_460 : decode b_W_law 460 = .ok (.if_icmp .eq 257, 3) := by decide +kernel
theorem d_W_law_463 : decode b_W_law 463 = .ok (.iconst 0, 1) := by decide +kernel
theorem d_W_law_464 : decode b_W_law 464 = .ok (.ireturn, 1) := by decide +kernel
theorem d_W_law_465 : decode b_W_law 465 = .ok (.aload_n 1, 1) := by decide +kernel
theorem d_W_law_466 : decode b_W_law 466 = .ok (.invokevirtual 30, 3) := by decide +kernel
theorem d_W_law_469 : decode b_W_law 469 = .ok (.aload_n 2, 1) := by decide +kernel
theorem d_W_law_470 : decode b_W_law 470 = .ok (.invokevirtual 34, 3) := by decide +kernel
theorem d_W_law_473 : decode b_W_law 473 = .ok (.if_icmp .eq 244, 3) := by decide +kernel
theorem d_W_law_476 : decode b_W_law 476 = .ok (.iconst 0, 1) := by decide +kernel
theorem d_W_law_477 : decode b_W_law 477 = .ok (.ireturn, 1) := by decide +kernel
theorem d_W_law_478 : decode b_W_law 478 = .ok (.aload_n 1, 1) := by decide +kernel
theorem d_W_law_479 : decode b_W_law 479 = .ok (.aload_n 0, 1) := by decide +kernel
theorem d_W_law_480 : decode b_W_law 480 = .ok (.iload_n 3, 1) := by decide +kernel
theorem d_W_law_481 : decode b_W_law 481 = .ok (.iconst 1, 1) := by decide +kernel
theorem d_W_law_482 : decode b_W_law 482 = .ok (.iadd, 1) := by decide +kernel
theorem d_W_law_483 : decode b_W_law 483 = .ok (.iaload, 1) := by decide +kernel
theorem d_W_law_484 : decode b_W_law 484 = .ok (.invokevirtual 35, 3) := by decide +kernel
theorem d_W_law_487 : decode b_W_law 487 = .ok (.aload_n 2, 1) := by decide +kernel
theorem d_W_law_488 : decode b_W_law 488 = .ok (.aload_n 0, 1) := by decide +kernel
theorem d_W_law_489 : decode b_W_law 489 = .ok (.iload_n 3, 1) := by decide +kernel
theorem d_W_law_490 : decode b_W_law 490 = .ok (.iconst 1, 1) := by decide +kernel
theorem d_W_law_491 : decode b_W_law 491 = .ok (.iadd, 1) := by decide +kernel
theorem d_W_law_492 : decode b_W_law 492 = .ok (.iaload, 1) := by decide +kernel
theorem d_W_law_493 : decode b_W_law 493 = .ok (.invokevirtual 39, 3) := by decide +kernel
theorem d_W_law_496 : decode b_W_law 496 = .ok (.lcmp, 1) := by decide +kernel
theorem d_W_law_497 : decode b_W_law 497 = .ok (.ifCond .eq 220, 3) := by decide +kernel
theorem d_W_law_500 : decode b_W_law 500 = .ok (.iconst 0, 1) := by decide +kernel
theorem d_W_law_501 : decode b_W_law 501 = .ok (.ireturn, 1) := by decide +kernel
theorem d_W_law_502 : decode b_W_law 502 = .ok (.aload_n 1, 1) := by decide +kernel
theorem d_W_law_503 : decode b_W_law 503 = .ok (.invokevirtual 40, 3) := by decide +kernel
theorem d_W_law_506 : decode b_W_law 506 = .ok (.aload_n 2, 1) := by decide +kernel
theorem d_W_law_507 : decode b_W_law 507 = .ok (.invokevirtual 43, 3) := by decide +kernel
theorem d_W_law_510 : decode b_W_law 510 = .ok (.if_icmp .eq 207, 3) := by decide +kernel
theorem d_W_law_513 : decode b_W_law 513 = .ok (.iconst 0, 1) := by decide +kernel
theorem d_W_law_514 : decode b_W_law 514 = .ok (.ireturn, 1) := by decide +kernel
theorem d_W_law_515 : decode b_W_law 515 = .ok (.aload_n 1, 1) := by decide +kernel
theorem d_W_law_516 : decode b_W_law 516 = .ok (.aload_n 0, 1) := by decide +kernel
theorem d_W_law_517 : decode b_W_law 517 = .ok (.iload_n 3, 1) := by decide +kernel
theorem d_W_law_518 : decode b_W_law 518 = .ok (.iconst 1, 1) := by decide +kernel
theorem d_W_law_519 : decode b_W_law 519 = .ok (.iadd, 1) := by decide +kernel
theorem d_W_law_520 : decode b_W_law 520 = .ok (.iaload, 1) := by decide +kernel
theorem d_W_law_521 : decode b_W_law 521 = .ok (.invokevirtual 44, 3) := by decide +kernel
theorem d_W_law_524 : decode b_W_law 524 = .ok (.aload_n 2, 1) := by decide +kernel
theorem d_W_law_525 : decode b_W_law 525 = .ok (.aload_n 0, 1) := by decide +kernel
theorem d_W_law_526 : decode b_W_law 526 = .ok (.iload_n 3, 1) := by decide +kernel
theorem d_W_law_527 : decode b_W_law 527 = .ok (.iconst 1, 1) := by decide +kernel
theorem d_W_law_528 : decode b_W_law 528 = .ok (.iadd, 1) := by decide +kernel
theorem d_W_law_529 : decode b_W_law 529 = .ok (.iaload, 1) := by decide +kernel
theorem d_W_law_530 : decode b_W_law 530 = .ok (.invokevirtual 47, 3) := by decide +kernel
theorem d_W_law_533 : decode b_W_law 533 = .ok (.lcmp, 1) := by decide +kernel
theorem d_W_law_534 : decode b_W_law 534 = .ok (.ifCond .eq 183, 3) := by decide +kernel
theorem d_W_law_537 : decode b_W_law 537 = .ok (.iconst 0, 1) := by decide +kernel
theorem d_W_law_538 : decode b_W_law 538 = .ok (.ireturn, 1) := by decide +kernel
theorem d_W_law_539 : decode b_W_law 539 = .ok (.aload_n 1, 1) := by decide +kernel
theorem d_W_law_540 : decode b_W_law 540 = .ok (.invokevirtual 48, 3) := by decide +kernel
theorem d_W_law_543 : decode b_W_law 543 = .ok (.aload_n 2, 1) := by decide +kernel
theorem d_W_law_544 : decode b_W_law 544 = .ok (.invokevirtual 51, 3) := by decide +kernel
theorem d_W_law_547 : decode b_W_law 547 = .ok (.if_icmp .eq 170, 3) := by decide +kernel
theorem d_W_law_550 : decode b_W_law 550 = .ok (.iconst 0, 1) := by decide +kernel
theorem d_W_law_551 : decode b_W_law 551 = .ok (.ireturn, 1) := by decide +kernel
theorem d_W_law_552 : decode b_W_law 552 = .ok (.aload_n 1, 1) := by decide +kernel
theorem d_W_law_553 : decode b_W_law 553 = .ok (.aload_n 0, 1) := by decide +kernel
theorem d_W_law_554 : decode b_W_law 554 = .ok (.iload_n 3, 1) := by decide +kernel
theorem d_W_law_555 : decode b_W_law 555 = .ok (.iconst 1, 1) := by decide +kernel
theorem d_W_law_556 : decode b_W_law 556 = .ok (.iadd, 1) := by decide +kernel
theorem d_W_law_557 : decode b_W_law 557 = .ok (.iaload, 1) := by decide +kernel
theorem d_W_law_558 : decode b_W_law 558 = .ok (.aload_n 0, 1) := by decide +kernel
theorem d_W_law_559 : decode b_W_law 559 = .ok (.iload_n 3, 1) := by decide +kernel
theorem d_W_law_560 : decode b_W_law 560 = .ok (.iconst 2, 1) := by decide +kernel
theorem d_W_law_561 : decode b_W_law 561 = .ok (.iadd, 1) := by decide +kernel
theorem d_W_law_562 : decode b_W_law 562 = .ok (.iaload, 1) := by decide +kernel
theorem d_W_law_563 : decode b_W_law 563 = .ok (.invokevirtual 52, 3) := by decide +kernel
theorem d_W_law_566 : decode b_W_law 566 = .ok (.aload_n 2, 1) := by decide +kernel
theorem d_W_law_567 : decode b_W_law 567 = .ok (.aload_n 0, 1) := by decide +kernel
theorem d_W_law_568 : decode b_W_law 568 = .ok (.iload_n 3, 1) := by decide +kernel
theorem d_W_law_569 : decode b_W_law 569 = .ok (.iconst 1, 1) := by decide +kernel
theorem d_W_law_570 : decode b_W_law 570 = .ok (.iadd, 1) := by decide +kernel
theorem d_W_law_571 : decode b_W_law 571 = .ok (.iaload, 1) := by decide +kernel
theorem d_W_law_572 : decode b_W_law 572 = .ok (.aload_n 0, 1) := by decide +kernel
theorem d_W_law_573 : decode b_W_law 573 = .ok (.iload_n 3, 1) := by decide +kernel
theorem d_W_law_574 : decode b_W_law 574 = .ok (.iconst 2, 1) := by decide +kernel
theorem d_W_law_575 : decode b_W_law 575 = .ok (.iadd, 1) := by decide +kernel
theorem d_W_law_576 : decode b_W_law 576 = .ok (.iaload, 1) := by decide +kernel
theorem d_W_law_577 : decode b_W_law 577 = .ok (.invokevirtual 56, 3) := by decide +kernel
theorem d_W_law_580 : decode b_W_law 580 = .ok (.lcmp, 1) := by decide +kernel
theorem d_W_law_581 : decode b_W_law 581 = .ok (.ifCond .eq 136, 3) := by decide +kernel
theorem d_W_law_584 : decode b_W_law 584 = .ok (.iconst 0, 1) := by decide +kernel
theorem d_W_law_585 : decode b_W_law 585 = .ok (.ireturn, 1) := by decide +kernel
theorem d_W_law_586 : decode b_W_law 586 = .ok (.aload_n 1, 1) := by decide +kernel
theorem d_W_law_587 : decode b_W_law 587 = .ok (.invokevirtual 57, 3) := by decide +kernel
theorem d_W_law_590 : decode b_W_law 590 = .ok (.aload_n 2, 1) := by decide +kernel
theorem d_W_law_591 : decode b_W_law 591 = .ok (.invokevirtual 60, 3) := by decide +kernel
theorem d_W_law_594 : decode b_W_law 594 = .ok (.if_icmp .eq 123, 3) := by decide +kernel
theorem d_W_law_597 : decode b_W_law 597 = .ok (.iconst 0, 1) := by decide +kernel
theorem d_W_law_598 : decode b_W_law 598 = .ok (.ireturn, 1) := by decide +kernel
theorem d_W_law_599 : decode b_W_law 599 = .ok (.aload_n 1, 1) := by decide +kernel
theorem d_W_law_600 : decode b_W_law 600 = .ok (.aload_n 0, 1) := by decide +kernel
theorem d_W_law_601 : decode b_W_law 601 = .ok (.iload_n 3, 1) := by decide +kernel
theorem d_W_law_602 : decode b_W_law 602 = .ok (.iconst 1, 1) := by decide +kernel
theorem d_W_law_603 : decode b_W_law 603 = .ok (.iadd, 1) := by decide +kernel
theorem d_W_law_604 : decode b_W_law 604 = .ok (.iaload, 1) := by decide +kernel
theorem d_W_law_605 : decode b_W_law 605 = .ok (.aload_n 0, 1) := by decide +kernel
theorem d_W_law_606 : decode b_W_law 606 = .ok (.iload_n 3, 1) := by decide +kernel
theorem d_W_law_607 : decode b_W_law 607 = .ok (.iconst 2, 1) := by decide +kernel
theorem d_W_law_608 : decode b_W_law 608 = .ok (.iadd, 1) := by decide +kernel
theorem d_W_law_609 : decode b_W_law 609 = .ok (.iaload, 1) := by decide +kernel
theorem d_W_law_610 : decode b_W_law 610 = .ok (.invokevirtual 61, 3) := by decide +kernel
theorem d_W_law_613 : decode b_W_law 613 = .ok (.aload_n 2, 1) := by decide +kernel
theorem d_W_law_614 : decode b_W_law 614 = .ok (.aload_n 0, 1) := by decide +kernel
theorem d_W_law_615 : decode b_W_law 615 = .ok (.iload_n 3, 1) := by decide +kernel
theorem d_W_law_616 : decode b_W_law 616 = .ok (.iconst 1, 1) := by decide +kernel
theorem d_W_law_617 : decode b_W_law 617 = .ok (.iadd, 1) := by decide +kernel
theorem d_W_law_618 : decode b_W_law 618 = .ok (.iaload, 1) := by decide +kernel
theorem d_W_law_619 : decode b_W_law 619 = .ok (.aload_n 0, 1) := by decide +kernel
theorem d_W_law_620 : decode b_W_law 620 = .ok (.iload_n 3, 1) := by decide +kernel
theorem d_W_law_621 : decode b_W_law 621 = .ok (.iconst 2, 1) := by decide +kernel
theorem d_W_law_622 : decode b_W_law 622 = .ok (.iadd, 1) := by decide +kernel
theorem d_W_law_623 : decode b_W_law 623 = .ok (.iaload, 1) := by decide +kernel
theorem d_W_law_624 : decode b_W_law 624 = .ok (.invokevirtual 64, 3) := by decide +kernel
theorem d_W_law_627 : decode b_W_law 627 = .ok (.lcmp, 1) := by decide +kernel
theorem d_W_law_628 : decode b_W_law 628 = .ok (.ifCond .eq 89, 3) := by decide +kernel
theorem d_W_law_631 : decode b_W_law 631 = .ok (.iconst 0, 1) := by decide +kernel
theorem d_W_law_632 : decode b_W_law 632 = .ok (.ireturn, 1) := by decide +kernel
theorem d_W_law_633 : decode b_W_law 633 = .ok (.aload_n 1, 1) := by decide +kernel
theorem d_W_law_634 : decode b_W_law 634 = .ok (.aload_n 0, 1) := by decide +kernel
theorem d_W_law_635 : decode b_W_law 635 = .ok (.iload_n 3, 1) := by decide +kernel
theorem d_W_law_636 : decode b_W_law 636 = .ok (.iconst 1, 1) := by decide +kernel
theorem d_W_law_637 : decode b_W_law 637 = .ok (.iadd, 1) := by decide +kernel
theorem d_W_law_638 : decode b_W_law 638 = .ok (.iaload, 1) := by decide +kernel
theorem d_W_law_639 : decode b_W_law 639 = .ok (.i2l, 1) := by decide +kernel
theorem d_W_law_640 : decode b_W_law 640 = .ok (.bipush 32, 2) := by decide +kernel
theorem d_W_law_642 : decode b_W_law 642 = .ok (.lshl, 1) := by decide +kernel
theorem d_W_law_643 : decode b_W_law 643 = .ok (.aload_n 0, 1) := by decide +kernel
theorem d_W_law_644 : decode b_W_law 644 = .ok (.iload_n 3, 1) := by decide +kernel
theorem d_W_law_645 : decode b_W_law 645 = .ok (.iconst 2, 1) := by decide +kernel
theorem d_W_law_646 : decode b_W_law 646 = .ok (.iadd, 1) := by decide +kernel
theorem d_W_law_647 : decode b_W_law 647 = .ok (.iaload, 1) := by decide +kernel
theorem d_W_law_648 : decode b_W_law 648 = .ok (.i2l, 1) := by decide +kernel
theorem d_W_law_649 : decode b_W_law 649 = .ok (.ldc2_w 13, 3) := by decide +kernel
theorem d_W_law_652 : decode b_W_law 652 = .ok (.land, 1) := by decide +kernel
theorem d_W_law_653 : decode b_W_law 653 = .ok (.lor, 1) := by decide +kernel
theorem d_W_law_654 : decode b_W_law 654 = .ok (.aload_n 0, 1) := by decide +kernel
theorem d_W_law_655 : decode b_W_law 655 = .ok (.iload_n 3, 1) := by decide +kernel
theorem d_W_law_656 : decode b_W_law 656 = .ok (.iconst 3, 1) := by decide +kernel
theorem d_W_law_657 : decode b_W_law 657 = .ok (.iadd, 1) := by decide +kernel
theorem d_W_law_658 : decode b_W_law 658 = .ok (.iaload, 1) := by decide +kernel
theorem d_W_law_659 : decode b_W_law 659 = .ok (.aload_n 0, 1) := by decide +kernel
theorem d_W_law_660 : decode b_W_law 660 = .ok (.iload_n 3, 1) := by decide +kernel
theorem d_W_law_661 : decode b_W_law 661 = .ok (.iconst 4, 1) := by decide +kernel
theorem d_W_law_662 : decode b_W_law 662 = .ok (.iadd, 1) := by decide +kernel
theorem d_W_law_663 : decode b_W_law 663 = .ok (.iaload, 1) := by decide +kernel
theorem d_W_law_664 : decode b_W_law 664 = .ok (.aload_n 0, 1) := by decide +kernel
theorem d_W_law_665 : decode b_W_law 665 = .ok (.iload_n 3, 1) := by decide +kernel
theorem d_W_law_666 : decode b_W_law 666 = .ok (.iconst 5, 1) := by decide +kernel
theorem d_W_law_667 : decode b_W_law 667 = .ok (.iadd, 1) := by decide +kernel
theorem d_W_law_668 : decode b_W_law 668 = .ok (.iaload, 1) := by decide +kernel
theorem d_W_law_669 : decode b_W_law 669 = .ok (.invokevirtual 65, 3) := by decide +kernel
theorem d_W_law_672 : decode b_W_law 672 = .ok (.aload_n 2, 1) := by decide +kernel
theorem d_W_law_673 : decode b_W_law 673 = .ok (.aload_n 0, 1) := by decide +kernel
theorem d_W_law_674 : decode b_W_law 674 = .ok (.iload_n 3, 1) := by decide +kernel
theorem d_W_law_675 : decode b_W_law 675 = .ok (.iconst 1, 1) := by decide +kernel
theorem d_W_law_676 : decode b_W_law 676 = .ok (.iadd, 1) := by decide +kernel
theorem d_W_law_677 : decode b_W_law 677 = .ok (.iaload, 1) := by decide +kernel
theorem d_W_law_678 : decode b_W_law 678 = .ok (.i2l, 1) := by decide +kernel
theorem d_W_law_679 : decode b_W_law 679 = .ok (.bipush 32, 2) := by decide +kernel
theorem d_W_law_681 : decode b_W_law 681 = .ok (.lshl, 1) := by decide +kernel
theorem d_W_law_682 : decode b_W_law 682 = .ok (.aload_n 0, 1) := by decide +kernel
theorem d_W_law_683 : decode b_W_law 683 = .ok (.iload_n 3, 1) := by decide +kernel
theorem d_W_law_684 : decode b_W_law 684 = .ok (.iconst 2, 1) := by decide +kernel
theorem d_W_law_685 : decode b_W_law 685 = .ok (.iadd, 1) := by decide +kernel
theorem d_W_law_686 : decode b_W_law 686 = .ok (.iaload, 1) := by decide +kernel
theorem d_W_law_687 : decode b_W_law 687 = .ok (.i2l, 1) := by decide +kernel
theorem d_W_law_688 : decode b_W_law 688 = .ok (.ldc2_w 13, 3) := by decide +kernel
theorem d_W_law_691 : decode b_W_law 691 = .ok (.land, 1) := by decide +kernel
theorem d_W_law_692 : decode b_W_law 692 = .ok (.lor, 1) := by decide +kernel
theorem d_W_law_693 : decode b_W_law 693 = .ok (.aload_n 0, 1) := by decide +kernel
theorem d_W_law_694 : decode b_W_law 694 = .ok (.iload_n 3, 1) := by decide +kernel
theorem d_W_law_695 : decode b_W_law 695 = .ok (.iconst 3, 1) := by decide +kernel
theorem d_W_law_696 : decode b_W_law 696 = .ok (.iadd, 1) := by decide +kernel
theorem d_W_law_697 : decode b_W_law 697 = .ok (.iaload, 1) := by decide +kernel
theorem d_W_law_698 : decode b_W_law 698 = .ok (.aload_n 0, 1) := by decide +kernel
theorem d_W_law_699 : decode b_W_law 699 = .ok (.iload_n 3, 1) := by decide +kernel
theorem d_W_law_700 : decode b_W_law 700 = .ok (.iconst 4, 1) := by decide +kernel
theorem d_W_law_701 : decode b_W_law 701 = .ok (.iadd, 1) := by decide +kernel
theorem d_W_law_702 : decode b_W_law 702 = .ok (.iaload, 1) := by decide +kernel
theorem d_W_law_703 : decode b_W_law 703 = .ok (.aload_n 0, 1) := by decide +kernel
theorem d_W_law_704 : decode b_W_law 704 = .ok (.iload_n 3, 1) := by decide +kernel
theorem d_W_law_705 : decode b_W_law 705 = .ok (.iconst 5, 1) := by decide +kernel
theorem d_W_law_706 : decode b_W_law 706 = .ok (.iadd, 1) := by decide +kernel
theorem d_W_law_707 : decode b_W_law 707 = .ok (.iaload, 1) := by decide +kernel
theorem d_W_law_708 : decode b_W_law 708 = .ok (.invokevirtual 69, 3) := by decide +kernel
theorem d_W_law_711 : decode b_W_law 711 = .ok (.lcmp, 1) := by decide +kernel
theorem d_W_law_712 : decode b_W_law 712 = .ok (.ifCond .eq 5, 3) := by decide +kernel
theorem d_W_law_715 : decode b_W_law 715 = .ok (.iconst 0, 1) := by decide +kernel
theorem d_W_law_716 : decode b_W_law 716 = .ok (.ireturn, 1) := by decide +kernel
theorem d_W_law_717 : decode b_W_law 717 = .ok (.iinc 3 9, 3) := by decide +kernel
theorem d_W_law_720 : decode b_W_law 720 = .ok (.goto (-702), 3) := by decide +kernel
theorem d_W_law_723 : decode b_W_law 723 = .ok (.iconst 1, 1) := by decide +kernel
theorem d_W_law_724 : decode b_W_law 724 = .ok (.ireturn, 1) := by decide +kernel
