theorem d_M_join_0 : decode b_M_join 0 = .ok (.iload_n 1, 1) := by decide +kernel
theorem d_M_join_1 : decode b_M_join 1 = .ok (.i2l, 1) := by decide +kernel
theorem d_M_join_2 : decode b_M_join 2 = .ok (.lstore 6, 2) := by decide +kernel
theorem d_M_join_4 : decode b_M_join 4 = .ok (.iconst 0, 1) := by decide +kernel
theorem d_M_join_5 : decode b_M_join 5 = .ok (.istore 8, 2) := by decide +kernel
theorem d_M_join_7 : decode b_M_join 7 = .ok (.iload 8, 2) := by decide +kernel
theorem d_M_join_9 : decode b_M_join 9 = .ok (.iconst 4, 1) := by decide +kernel
theorem d_M_join_10 : decode b_M_join 10 = .ok (.if_icmp .ge 86, 3) := by decide +kernel
theorem d_M_join_13 : decode b_M_join 13 = .ok (.aload_n 0, 1) := by decide +kernel
theorem d_M_join_14 : decode b_M_join 14 = .ok (.getfield 60, 3) := by decide +kernel
theorem d_M_join_17 : decode b_M_join 17 = .ok (.iload 8, 2) := by decide +kernel
theorem d_M_join_19 : decode b_M_join 19 = .ok (.aload_n 2, 1) := by decide +kernel
theorem d_M_join_20 : decode b_M_join 20 = .ok (.ifnonnull 7, 3) := by decide +kernel
theorem d_M_join_23 : decode b_M_join 23 = .ok (.lconst 0, 1) := by decide +kernel
theorem d_M_join_24 : decode b_M_join 24 = .ok (.goto 9, 3) := by decide +kernel
theorem d_M_join_27 : decode b_M_join 27 = .ok (.aload_n 2, 1) := by decide +kernel
theorem d_M_join_28 : decode b_M_join 28 = .ok (.iload_n 3, 1) := by decide +kernel
theorem d_M_join_29 : decode b_M_join 29 = .ok (.iload 8, 2) := by decide +kernel
theorem d_M_join_31 : decode b_M_join 31 = .ok (.iadd, 1) := by decide +kernel
theorem d_M_join_32 : decode b_M_join 32 = .ok (.laload, 1) := by decide +kernel
theorem d_M_join_33 : decode b_M_join 33 = .ok (.lastore, 1) := by decide +kernel
theorem d_M_join_34 : decode b_M_join 34 = .ok (.aload_n 0, 1) := by decide +kernel
theorem d_M_join_35 : decode b_M_join 35 = .ok (.getfield 60, 3) := by decide +kernel
theorem d_M_join_38 : decode b_M_join 38 = .ok (.iconst 4, 1) := by decide +kernel
theorem d_M_join_39 : decode b_M_join 39 = .ok (.iload 8, 2) := by decide +kernel
theorem d_M_join_41 : decode b_M_join 41 = .ok (.iadd, 1) := by decide +kernel
theorem d_M_join_42 : decode b_M_join 42 = .ok (.aload 4, 2) := by decide +kernel
theorem d_M_join_44 : decode b_M_join 44 = .ok (.ifnonnull 7, 3) := by decide +kernel
theorem d_M_join_47 : decode b_M_join 47 = .ok (.lconst 0, 1) := by decide +kernel
theorem d_M_join_48 : decode b_M_join 48 = .ok (.goto 11, 3) := by decide +kernel
theorem d_M_join_51 : decode b_M_join 51 = .ok (.aload 4, 2) := by decide +kernel
theorem d_M_join_53 : decode b_M_join 53 = .ok (.iload 5, 2) := by decide +kernel
theorem d_M_join_55 : decode b_M_join 55 = .ok (.iload 8, 2) := by decide +kernel
theorem d_M_join_57 : decode b_M_join 57 = .ok (.iadd, 1) := by decide +kernel
theorem d_M_join_58 : decode b_M_join 58 = .ok (.laload, 1) := by decide +kernel
theorem d_M_join_59 : decode b_M_join 59 = .ok (.lastore, 1) := by decide +kernel
theorem d_M_join_60 : decode b_M_join 60 = .ok (.ldc2_w 113, 3) := by decide +kernel
theorem d_M_join_63 : decode b_M_join 63 = .ok (.lload 6, 2) := by decide +kernel
theorem d_M_join_65 : decode b_M_join 65 = .ok (.lmul, 1) := by decide +kernel
theorem d_M_join_66 : decode b_M_join 66 = .ok (.aload_n 0, 1) := by decide +kernel
theorem d_M_join_67 : decode b_M_join 67 = .ok (.getfield 60, 3) := by decide +kernel
theorem d_M_join_70 : decode b_M_join 70 = .ok (.iload 8, 2) := by decide +kernel
theorem d_M_join_72 : decode b_M_join 72 = .ok (.laload, 1) := by decide +kernel
theorem d_M_join_73 : decode b_M_join 73 = .ok (.ladd, 1) := by decide +kernel
theorem d_M_join_74 : decode b_M_join 74 = .ok (.ldc2_w 115, 3) := by decide +kernel
theorem d_M_join_77 : decode b_M_join 77 = .ok (.aload_n 0, 1) := by decide +kernel
theorem d_M_join_78 : decode b_M_join 78 = .ok (.getfield 60, 3) := by decide +kernel
theorem d_M_join_81 : decode b_M_join 81 = .ok (.iconst 4, 1) := by decide +kernel
theorem d_M_join_82 : decode b_M_join 82 = .ok (.iload 8, 2) := by decide +kernel
theorem d_M_join_84 : decode b_M_join 84 = .ok (.iadd, 1) := by decide +kernel
theorem d_M_join_85 : decode b_M_join 85 = .ok (.laload, 1) := by decide +kernel
theorem d_M_join_86 : decode b_M_join 86 = .ok (.lmul, 1) := by decide +kernel
theorem d_M_join_87 : decode b_M_join 87 = .ok (.ladd, 1) := by decide +kernel
theorem d_M_join_88 : decode b_M_join 88 = .ok (.lstore 6, 2) := by decide +kernel
theorem d_M_join_90 : decode b_M_join 90 = .ok (.iinc 8 1, 3) := by decide +kernel
theorem d_M_join_93 : decode b_M_join 93 = .ok (.goto (-86), 3) := by decide +kernel
theorem d_M_join_96 : decode b_M_join 96 = .ok (.lload 6, 2) := by decide +kernel
theorem d_M_join_98 : decode b_M_join 98 = .ok (.lload 6, 2) := by decide +kernel
theorem d_M_join_100 : decode b_M_join 100 = .ok (.bipush 29, 2) := by decide +kernel
theorem d_M_join_102 : decode b_M_join 102 = .ok (.lshr, 1) := by decide +kernel
theorem d_M_join_103 : decode b_M_join 103 = .ok (.lxor, 1) := by decide +kernel
theorem d_M_join_104 : decode b_M_join 104 = .ok (.ldc2_w 117, 3) := by decide +kernel
theorem d_M_join_107 : decode b_M_join 107 = .ok (.invokestatic 119, 3) := by decide +kernel
theorem d_M_join_110 : decode b_M_join 110 = .ok (.l2i, 1) := by decide +kernel
theorem d_M_join_111 : decode b_M_join 111 = .ok (.istore 8, 2) := by decide +kernel
theorem d_M_join_113 : decode b_M_join 113 = .ok (.aload_n 0, 1) := by decide +kernel
theorem d_M_join_114 : decode b_M_join 114 = .ok (.getfield 49, 3) := by decide +kernel
theorem d_M_join_117 : decode b_M_join 117 = .ok (.iload 8, 2) := by decide +kernel
theorem d_M_join_119 : decode b_M_join 119 = .ok (.baload, 1) := by decide +kernel
theorem d_M_join_120 : decode b_M_join 120 = .ok (.iload_n 1, 1) := by decide +kernel
theorem d_M_join_121 : decode b_M_join 121 = .ok (.iconst 1, 1) := by decide +kernel
theorem d_M_join_122 : decode b_M_join 122 = .ok (.iadd, 1) := by decide +kernel
theorem d_M_join_123 : decode b_M_join 123 = .ok (.if_icmp .ne 7, 3) := by decide +kernel
theorem d_M_join_126 : decode b_M_join 126 = .ok (.iconst 1, 1) := by decide +kernel
theorem d_M_join_127 : decode b_M_join 127 = .ok (.goto 4, 3) := by decide +kernel
theorem d_M_join_130 : decode b_M_join 130 = .ok (.iconst 0, 1) := by decide +kernel
theorem d_M_join_131 : decode b_M_join 131 = .ok (.istore 9, 2) := by decide +kernel
theorem d_M_join_133 : decode b_M_join 133 = .ok (.iconst 0, 1) := by decide +kernel
theorem d_M_join_134 : decode b_M_join 134 = .ok (.istore 10, 2) := by decide +kernel
theorem d_M_join_136 : decode b_M_join 136 = .ok (.iload 10, 2) := by decide +kernel
theorem d_M_join_138 : decode b_M_join 138 = .ok (.bipush 8, 2) := by decide +kernel
theorem d_M_join_140 : decode b_M_join 140 = .ok (.if_icmp .ge 45, 3) := by decide +kernel
theorem d_M_join_143 : decode b_M_join 143 = .ok (.iload 9, 2) := by decide +kernel
theorem d_M_join_145 : decode b_M_join 145 = .ok (.ifCond .eq 40, 3) := by decide +kernel
theorem d_M_join_148 : decode b_M_join 148 = .ok (.aload_n 0, 1) := by decide +kernel
theorem d_M_join_149 : decode b_M_join 149 = .ok (.getfield 53, 3) := by decide +kernel
theorem d_M_join_152 : decode b_M_join 152 = .ok (.bipush 8, 2) := by decide +kernel
theorem d_M_join_154 : decode b_M_join 154 = .ok (.iload 8, 2) := by decide +kernel
theorem d_M_join_156 : decode b_M_join 156 = .ok (.imul, 1) := by decide +kernel
theorem d_M_join_157 : decode b_M_join 157 = .ok (.iload 10, 2) := by decide +kernel
theorem d_M_join_159 : decode b_M_join 159 = .ok (.iadd, 1) := by decide +kernel
theorem d_M_join_160 : decode b_M_join 160 = .ok (.laload, 1) := by decide +kernel
theorem d_M_join_161 : decode b_M_join 161 = .ok (.aload_n 0, 1) := by decide +kernel
theorem d_M_join_162 : decode b_M_join 162 = .ok (.getfield 60, 3) := by decide +kernel
theorem d_M_join_165 : decode b_M_join 165 = .ok (.iload 10, 2) := by decide +kernel
theorem d_M_join_167 : decode b_M_join 167 = .ok (.laload, 1) := by decide +kernel
theorem d_M_join_168 : decode b_M_join 168 = .ok (.lcmp, 1) := by decide +kernel
theorem d_M_join_169 : decode b_M_join 169 = .ok (.ifCond .ne 7, 3) := by decide +kernel
theorem d_M_join_172 : decode b_M_join 172 = .ok (.iconst 1, 1) := by decide +kernel
theorem d_M_join_173 : decode b_M_join 173 = .ok (.goto 4, 3) := by decide +kernel
theorem d_M_join_176 : decode b_M_join 176 = .ok (.iconst 0, 1) := by decide +kernel
theorem d_M_join_177 : decode b_M_join 177 = .ok (.istore 9, 2) := by decide +kernel
theorem d_M_join_179 : decode b_M_join 179 = .ok (.iinc 10 1, 3) := by decide +kernel
theorem d_M_join_182 : decode b_M_join 182 = .ok (.goto (-46), 3) := by decide +kernel
theorem d_M_join_185 : decode b_M_join 185 = .ok (.iload 9, 2) := by decide +kernel
theorem d_M_join_187 : decode b_M_join 187 = .ok (.ifCond .ne 118, 3) := by decide +kernel
theorem d_M_join_190 : decode b_M_join 190 = .ok (.aload_n 0, 1) := by decide +kernel
theorem d_M_join_191 : decode b_M_join 191 = .ok (.getfield 42, 3) := by decide +kernel
theorem d_M_join_194 : decode b_M_join 194 = .ok (.iconst 0, 1) := by decide +kernel
theorem d_M_join_195 : decode b_M_join 195 = .ok (.iload_n 1, 1) := by decide +kernel
theorem d_M_join_196 : decode b_M_join 196 = .ok (.i2b, 1) := by decide +kernel
theorem d_M_join_197 : decode b_M_join 197 = .ok (.bastore, 1) := by decide +kernel
theorem d_M_join_198 : decode b_M_join 198 = .ok (.aload_n 0, 1) := by decide +kernel
theorem d_M_join_199 : decode b_M_join 199 = .ok (.iconst 1, 1) := by decide +kernel
theorem d_M_join_200 : decode b_M_join 200 = .ok (.aload_n 0, 1) := by decide +kernel
theorem d_M_join_201 : decode b_M_join 201 = .ok (.getfield 60, 3) := by decide +kernel
theorem d_M_join_204 : decode b_M_join 204 = .ok (.iconst 0, 1) := by decide +kernel
theorem d_M_join_205 : decode b_M_join 205 = .ok (.invokevirtual 125, 3) := by decide +kernel
theorem d_M_join_208 : decode b_M_join 208 = .ok (.aload_n 0, 1) := by decide +kernel
theorem d_M_join_209 : decode b_M_join 209 = .ok (.bipush 33, 2) := by decide +kernel
theorem d_M_join_211 : decode b_M_join 211 = .ok (.aload_n 0, 1) := by decide +kernel
theorem d_M_join_212 : decode b_M_join 212 = .ok (.getfield 60, 3) := by decide +kernel
theorem d_M_join_215 : decode b_M_join 215 = .ok (.iconst 4, 1) := by decide +kernel
theorem d_M_join_216 : decode b_M_join 216 = .ok (.invokevirtual 125, 3) := by decide +kernel
theorem d_M_join_219 : decode b_M_join 219 = .ok (.aload_n 0, 1) := by decide +kernel
theorem d_M_join_220 : decode b_M_join 220 = .ok (.bipush 65, 2) := by decide +kernel
theorem d_M_join_222 : decode b_M_join 222 = .ok (.invokevirtual 129, 3) := by decide +kernel
theorem d_M_join_225 : decode b_M_join 225 = .ok (.aload_n 0, 1) := by decide +kernel
theorem d_M_join_226 : decode b_M_join 226 = .ok (.getfield 49, 3) := by decide +kernel
theorem d_M_join_229 : decode b_M_join 229 = .ok (.iload 8, 2) := by decide +kernel
theorem d_M_join_231 : decode b_M_join 231 = .ok (.iload_n 1, 1) := by decide +kernel
theorem d_M_join_232 : decode b_M_join 232 = .ok (.iconst 1, 1) := by decide +kernel
theorem d_M_join_233 : decode b_M_join 233 = .ok (.iadd, 1) := by decide +kernel
theorem d_M_join_234 : decode b_M_join 234 = .ok (.i2b, 1) := by decide +kernel
theorem d_M_join_235 : decode b_M_join 235 = .ok (.bastore, 1) := by decide +kernel
theorem d_M_join_236 : decode b_M_join 236 = .ok (.iconst 0, 1) := by decide +kernel
theorem d_M_join_237 : decode b_M_join 237 = .ok (.istore 10, 2) := by decide +kernel
theorem d_M_join_239 : decode b_M_join 239 = .ok (.iload 10, 2) := by decide +kernel
theorem d_M_join_241 : decode b_M_join 241 = .ok (.bipush 8, 2) := by decide +kernel
theorem d_M_join_243 : decode b_M_join 243 = .ok (.if_icmp .ge 29, 3) := by decide +kernel
theorem d_M_join_246 : decode b_M_join 246 = .ok (.aload_n 0, 1) := by decide +kernel
theorem d_M_join_247 : decode b_M_join 247 = .ok (.getfield 53, 3) := by decide +kernel
theorem d_M_join_250 : decode b_M_join 250 = .ok (.bipush 8, 2) := by decide +kernel
theorem d_M_join_252 : decode b_M_join 252 = .ok (.iload 8, 2) := by decide +kernel
theorem d_M_join_254 : decode b_M_join 254 = .ok (.imul, 1) := by decide +kernel
theorem d_M_join_255 : decode b_M_join 255 = .ok (.iload 10, 2) := by decide +kernel
theorem d_M_join_257 : decode b_M_join 257 = .ok (.iadd, 1) := by decide +kernel
theorem d_M_join_258 : decode b_M_join 258 = .ok (.aload_n 0, 1) := by decide +kernel
theorem d_M_join_259 : decode b_M_join 259 = .ok (.getfield 60, 3) := by decide +kernel
theorem d_M_join_262 : decode b_M_join 262 = .ok (.iload 10, 2) := by decide +kernel
theorem d_M_join_264 : decode b_M_join 264 = .ok (.laload, 1) := by decide +kernel
theorem d_M_join_265 : decode b_M_join 265 = .ok (.lastore, 1) := by decide +kernel
theorem d_M_join_266 : decode b_M_join 266 = .ok (.iinc 10 1, 3) := by decide +kernel
theorem d_M_join_269 : decode b_M_join 269 = .ok (.goto (-30), 3) := by decide +kernel
theorem d_M_join_272 : decode b_M_join 272 = .ok (.iconst 0, 1) := by decide +kernel
theorem d_M_join_273 : decode b_M_join 273 = .ok (.istore 10, 2) := by decide +kernel
theorem d_M_join_275 : decode b_M_join 275 = .ok (.iload 10, 2) := by decide +kernel
theorem d_M_join_277 : decode b_M_join 277 = .ok (.iconst 4, 1) := by decide +kernel
theorem d_M_join_278 : decode b_M_join 278 = .ok (.if_icmp .ge 27, 3) := by decide +kernel
theorem d_M_join_281 : decode b_M_join 281 = .ok (.aload_n 0, 1) := by decide +kernel
theorem d_M_join_282 : decode b_M_join 282 = .ok (.getfield 57, 3) := by decide +kernel
theorem d_M_join_285 : decode b_M_join 285 = .ok (.iconst 4, 1) := by decide +kernel
theorem d_M_join_286 : decode b_M_join 286 = .ok (.iload 8, 2) := by decide +kernel
theorem d_M_join_288 : decode b_M_join 288 = .ok (.imul, 1) := by decide +kernel
theorem d_M_join_289 : decode b_M_join 289 = .ok (.iload 10, 2) := by decide +kernel
theorem d_M_join_291 : decode b_M_join 291 = .ok (.iadd, 1) := by decide +kernel
theorem d_M_join_292 : decode b_M_join 292 = .ok (.aload_n 0, 1) := by decide +kernel
theorem d_M_join_293 : decode b_M_join 293 = .ok (.iload 10, 2) := by decide +kernel
theorem d_M_join_295 : decode b_M_join 295 = .ok (.invokevirtual 132, 3) := by decide +kernel
theorem d_M_join_298 : decode b_M_join 298 = .ok (.lastore, 1) := by decide +kernel
theorem d_M_join_299 : decode b_M_join 299 = .ok (.iinc 10 1, 3) := by decide +kernel
theorem d_M_join_302 : decode b_M_join 302 = .ok (.goto (-27), 3) := by decide +kernel
theorem d_M_join_305 : decode b_M_join 305 = .ok (.iconst 0, 1) := by decide +kernel
theorem d_M_join_306 : decode b_M_join 306 = .ok (.istore 10, 2) := by decide +kernel
theorem d_M_join_308 : decode b_M_join 308 = .ok (.iload 10, 2) := by decide +kernel
theorem d_M_join_310 : decode b_M_join 310 = .ok (.iconst 4, 1) := by decide +kernel
theorem d_M_join_311 : decode b_M_join 311 = .ok (.if_icmp .ge 28, 3) := by decide +kernel
theorem d_M_join_314 : decode b_M_join 314 = .ok (.aload_n 0, 1) := by decide +kernel
theorem d_M_join_315 : decode b_M_join 315 = .ok (.getfield 63, 3) := by decide +kernel
theorem d_M_join_318 : decode b_M_join 318 = .ok (.iload 10, 2) := by decide +kernel
theorem d_M_join_320 : decode b_M_join 320 = .ok (.aload_n 0, 1) := by decide +kernel
theorem d_M_join_321 : decode b_M_join 321 = .ok (.getfield 57, 3) := by decide +kernel
theorem d_M_join_324 : decode b_M_join 324 = .ok (.iconst 4, 1) := by decide +kernel
theorem d_M_join_325 : decode b_M_join 325 = .ok (.iload 8, 2) := by decide +kernel
theorem d_M_join_327 : decode b_M_join 327 = .ok (.imul, 1) := by decide +kernel
theorem d_M_join_328 : decode b_M_join 328 = .ok (.iload 10, 2) := by decide +kernel
theorem d_M_join_330 : decode b_M_join 330 = .ok (.iadd, 1) := by decide +kernel
theorem d_M_join_331 : decode b_M_join 331 = .ok (.laload, 1) := by decide +kernel
theorem d_M_join_332 : decode b_M_join 332 = .ok (.lastore, 1) := by decide +kernel
theorem d_M_join_333 : decode b_M_join 333 = .ok (.iinc 10 1, 3) := by decide +kernel
theorem d_M_join_336 : decode b_M_join 336 = .ok (.goto (-28), 3) := by decide +kernel
theorem d_M_join_339 : decode b_M_join 339 = .ok (.return_, 1) := by decide +kernel
