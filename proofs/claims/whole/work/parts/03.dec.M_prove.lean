theorem d_M_prove_0 : decode b_M_prove 0 = .ok (.iconst 0, 1) := by decide +kernel
theorem d_M_prove_1 : decode b_M_prove 1 = .ok (.istore_n 1, 1) := by decide +kernel
theorem d_M_prove_2 : decode b_M_prove 2 = .ok (.aload_n 0, 1) := by decide +kernel
theorem d_M_prove_3 : decode b_M_prove 3 = .ok (.getfield 106, 3) := by decide +kernel
theorem d_M_prove_6 : decode b_M_prove 6 = .ok (.istore_n 2, 1) := by decide +kernel
theorem d_M_prove_7 : decode b_M_prove 7 = .ok (.aload_n 0, 1) := by decide +kernel
theorem d_M_prove_8 : decode b_M_prove 8 = .ok (.iconst 0, 1) := by decide +kernel
theorem d_M_prove_9 : decode b_M_prove 9 = .ok (.putfield 180, 3) := by decide +kernel
theorem d_M_prove_12 : decode b_M_prove 12 = .ok (.iload_n 2, 1) := by decide +kernel
theorem d_M_prove_13 : decode b_M_prove 13 = .ok (.iload_n 1, 1) := by decide +kernel
theorem d_M_prove_14 : decode b_M_prove 14 = .ok (.isub, 1) := by decide +kernel
theorem d_M_prove_15 : decode b_M_prove 15 = .ok (.iconst 1, 1) := by decide +kernel
theorem d_M_prove_16 : decode b_M_prove 16 = .ok (.if_icmp .le 176, 3) := by decide +kernel
theorem d_M_prove_19 : decode b_M_prove 19 = .ok (.iload_n 1, 1) := by decide +kernel
theorem d_M_prove_20 : decode b_M_prove 20 = .ok (.istore_n 3, 1) := by decide +kernel
theorem d_M_prove_21 : decode b_M_prove 21 = .ok (.iload_n 3, 1) := by decide +kernel
theorem d_M_prove_22 : decode b_M_prove 22 = .ok (.iload_n 2, 1) := by decide +kernel
theorem d_M_prove_23 : decode b_M_prove 23 = .ok (.if_icmp .ge 26, 3) := by decide +kernel
theorem d_M_prove_26 : decode b_M_prove 26 = .ok (.aload_n 0, 1) := by decide +kernel
theorem d_M_prove_27 : decode b_M_prove 27 = .ok (.getfield 7, 3) := by decide +kernel
theorem d_M_prove_30 : decode b_M_prove 30 = .ok (.iconst 4, 1) := by decide +kernel
theorem d_M_prove_31 : decode b_M_prove 31 = .ok (.iload_n 3, 1) := by decide +kernel
theorem d_M_prove_32 : decode b_M_prove 32 = .ok (.imul, 1) := by decide +kernel
theorem d_M_prove_33 : decode b_M_prove 33 = .ok (.aload_n 0, 1) := by decide +kernel
theorem d_M_prove_34 : decode b_M_prove 34 = .ok (.getfield 180, 3) := by decide +kernel
theorem d_M_prove_37 : decode b_M_prove 37 = .ok (.invokestatic 158, 3) := by decide +kernel
theorem d_M_prove_40 : decode b_M_prove 40 = .ok (.ifCond .ne 9, 3) := by decide +kernel
theorem d_M_prove_43 : decode b_M_prove 43 = .ok (.iinc 3 1, 3) := by decide +kernel
theorem d_M_prove_46 : decode b_M_prove 46 = .ok (.goto (-25), 3) := by decide +kernel
theorem d_M_prove_49 : decode b_M_prove 49 = .ok (.aload_n 0, 1) := by decide +kernel
theorem d_M_prove_50 : decode b_M_prove 50 = .ok (.getfield 16, 3) := by decide +kernel
theorem d_M_prove_53 : decode b_M_prove 53 = .ok (.iconst 0, 1) := by decide +kernel
theorem d_M_prove_54 : decode b_M_prove 54 = .ok (.aload_n 0, 1) := by decide +kernel
theorem d_M_prove_55 : decode b_M_prove 55 = .ok (.getfield 180, 3) := by decide +kernel
theorem d_M_prove_58 : decode b_M_prove 58 = .ok (.invokestatic 158, 3) := by decide +kernel
theorem d_M_prove_61 : decode b_M_prove 61 = .ok (.iconst 1, 1) := by decide +kernel
theorem d_M_prove_62 : decode b_M_prove 62 = .ok (.if_icmp .ne 7, 3) := by decide +kernel
theorem d_M_prove_65 : decode b_M_prove 65 = .ok (.iconst 1, 1) := by decide +kernel
theorem d_M_prove_66 : decode b_M_prove 66 = .ok (.goto 4, 3) := by decide +kernel
theorem d_M_prove_69 : decode b_M_prove 69 = .ok (.iconst 0, 1) := by decide +kernel
theorem d_M_prove_70 : decode b_M_prove 70 = .ok (.istore 4, 2) := by decide +kernel
theorem d_M_prove_72 : decode b_M_prove 72 = .ok (.iload 4, 2) := by decide +kernel
theorem d_M_prove_74 : decode b_M_prove 74 = .ok (.ifCond .eq 7, 3) := by decide +kernel
theorem d_M_prove_77 : decode b_M_prove 77 = .ok (.iload_n 1, 1) := by decide +kernel
theorem d_M_prove_78 : decode b_M_prove 78 = .ok (.goto 4, 3) := by decide +kernel
theorem d_M_prove_81 : decode b_M_prove 81 = .ok (.iload_n 3, 1) := by decide +kernel
theorem d_M_prove_82 : decode b_M_prove 82 = .ok (.istore 5, 2) := by decide +kernel
theorem d_M_prove_84 : decode b_M_prove 84 = .ok (.iload 4, 2) := by decide +kernel
theorem d_M_prove_86 : decode b_M_prove 86 = .ok (.ifCond .eq 7, 3) := by decide +kernel
theorem d_M_prove_89 : decode b_M_prove 89 = .ok (.iload_n 3, 1) := by decide +kernel
theorem d_M_prove_90 : decode b_M_prove 90 = .ok (.goto 4, 3) := by decide +kernel
theorem d_M_prove_93 : decode b_M_prove 93 = .ok (.iload_n 2, 1) := by decide +kernel
theorem d_M_prove_94 : decode b_M_prove 94 = .ok (.istore 6, 2) := by decide +kernel
theorem d_M_prove_96 : decode b_M_prove 96 = .ok (.aload_n 0, 1) := by decide +kernel
theorem d_M_prove_97 : decode b_M_prove 97 = .ok (.iload 5, 2) := by decide +kernel
theorem d_M_prove_99 : decode b_M_prove 99 = .ok (.iload 6, 2) := by decide +kernel
theorem d_M_prove_101 : decode b_M_prove 101 = .ok (.aload_n 0, 1) := by decide +kernel
theorem d_M_prove_102 : decode b_M_prove 102 = .ok (.getfield 180, 3) := by decide +kernel
theorem d_M_prove_105 : decode b_M_prove 105 = .ok (.iconst 1, 1) := by decide +kernel
theorem d_M_prove_106 : decode b_M_prove 106 = .ok (.iadd, 1) := by decide +kernel
theorem d_M_prove_107 : decode b_M_prove 107 = .ok (.invokevirtual 177, 3) := by decide +kernel
theorem d_M_prove_110 : decode b_M_prove 110 = .ok (.iconst 0, 1) := by decide +kernel
theorem d_M_prove_111 : decode b_M_prove 111 = .ok (.istore 7, 2) := by decide +kernel
theorem d_M_prove_113 : decode b_M_prove 113 = .ok (.iload 7, 2) := by decide +kernel
theorem d_M_prove_115 : decode b_M_prove 115 = .ok (.iconst 4, 1) := by decide +kernel
theorem d_M_prove_116 : decode b_M_prove 116 = .ok (.if_icmp .ge 41, 3) := by decide +kernel
theorem d_M_prove_119 : decode b_M_prove 119 = .ok (.aload_n 0, 1) := by decide +kernel
theorem d_M_prove_120 : decode b_M_prove 120 = .ok (.getfield 32, 3) := by decide +kernel
theorem d_M_prove_123 : decode b_M_prove 123 = .ok (.iconst 4, 1) := by decide +kernel
theorem d_M_prove_124 : decode b_M_prove 124 = .ok (.aload_n 0, 1) := by decide +kernel
theorem d_M_prove_125 : decode b_M_prove 125 = .ok (.getfield 180, 3) := by decide +kernel
theorem d_M_prove_128 : decode b_M_prove 128 = .ok (.imul, 1) := by decide +kernel
theorem d_M_prove_129 : decode b_M_prove 129 = .ok (.iload 7, 2) := by decide +kernel
theorem d_M_prove_131 : decode b_M_prove 131 = .ok (.iadd, 1) := by decide +kernel
theorem d_M_prove_132 : decode b_M_prove 132 = .ok (.iload 5, 2) := by decide +kernel
theorem d_M_prove_134 : decode b_M_prove 134 = .ok (.iload 6, 2) := by decide +kernel
theorem d_M_prove_136 : decode b_M_prove 136 = .ok (.if_icmp .ne 7, 3) := by decide +kernel
theorem d_M_prove_139 : decode b_M_prove 139 = .ok (.lconst 0, 1) := by decide +kernel
theorem d_M_prove_140 : decode b_M_prove 140 = .ok (.goto 10, 3) := by decide +kernel
theorem d_M_prove_143 : decode b_M_prove 143 = .ok (.aload_n 0, 1) := by decide +kernel
theorem d_M_prove_144 : decode b_M_prove 144 = .ok (.getfield 26, 3) := by decide +kernel
theorem d_M_prove_147 : decode b_M_prove 147 = .ok (.iload 7, 2) := by decide +kernel
theorem d_M_prove_149 : decode b_M_prove 149 = .ok (.laload, 1) := by decide +kernel
theorem d_M_prove_150 : decode b_M_prove 150 = .ok (.lastore, 1) := by decide +kernel
theorem d_M_prove_151 : decode b_M_prove 151 = .ok (.iinc 7 1, 3) := by decide +kernel
theorem d_M_prove_154 : decode b_M_prove 154 = .ok (.goto (-41), 3) := by decide +kernel
theorem d_M_prove_157 : decode b_M_prove 157 = .ok (.iload 4, 2) := by decide +kernel
theorem d_M_prove_159 : decode b_M_prove 159 = .ok (.ifCond .eq 7, 3) := by decide +kernel
theorem d_M_prove_162 : decode b_M_prove 162 = .ok (.iload_n 3, 1) := by decide +kernel
theorem d_M_prove_163 : decode b_M_prove 163 = .ok (.goto 4, 3) := by decide +kernel
theorem d_M_prove_166 : decode b_M_prove 166 = .ok (.iload_n 1, 1) := by decide +kernel
theorem d_M_prove_167 : decode b_M_prove 167 = .ok (.istore_n 1, 1) := by decide +kernel
theorem d_M_prove_168 : decode b_M_prove 168 = .ok (.iload 4, 2) := by decide +kernel
theorem d_M_prove_170 : decode b_M_prove 170 = .ok (.ifCond .eq 7, 3) := by decide +kernel
theorem d_M_prove_173 : decode b_M_prove 173 = .ok (.iload_n 2, 1) := by decide +kernel
theorem d_M_prove_174 : decode b_M_prove 174 = .ok (.goto 4, 3) := by decide +kernel
theorem d_M_prove_177 : decode b_M_prove 177 = .ok (.iload_n 3, 1) := by decide +kernel
theorem d_M_prove_178 : decode b_M_prove 178 = .ok (.istore_n 2, 1) := by decide +kernel
theorem d_M_prove_179 : decode b_M_prove 179 = .ok (.aload_n 0, 1) := by decide +kernel
theorem d_M_prove_180 : decode b_M_prove 180 = .ok (.dup, 1) := by decide +kernel
theorem d_M_prove_181 : decode b_M_prove 181 = .ok (.getfield 180, 3) := by decide +kernel
theorem d_M_prove_184 : decode b_M_prove 184 = .ok (.iconst 1, 1) := by decide +kernel
theorem d_M_prove_185 : decode b_M_prove 185 = .ok (.iadd, 1) := by decide +kernel
theorem d_M_prove_186 : decode b_M_prove 186 = .ok (.putfield 180, 3) := by decide +kernel
theorem d_M_prove_189 : decode b_M_prove 189 = .ok (.goto (-177), 3) := by decide +kernel
theorem d_M_prove_192 : decode b_M_prove 192 = .ok (.aload_n 0, 1) := by decide +kernel
theorem d_M_prove_193 : decode b_M_prove 193 = .ok (.iload_n 1, 1) := by decide +kernel
theorem d_M_prove_194 : decode b_M_prove 194 = .ok (.iload_n 2, 1) := by decide +kernel
theorem d_M_prove_195 : decode b_M_prove 195 = .ok (.if_icmp .ne 7, 3) := by decide +kernel
theorem d_M_prove_198 : decode b_M_prove 198 = .ok (.iconst 0, 1) := by decide +kernel
theorem d_M_prove_199 : decode b_M_prove 199 = .ok (.goto 16, 3) := by decide +kernel
theorem d_M_prove_202 : decode b_M_prove 202 = .ok (.aload_n 0, 1) := by decide +kernel
theorem d_M_prove_203 : decode b_M_prove 203 = .ok (.iload_n 1, 1) := by decide +kernel
theorem d_M_prove_204 : decode b_M_prove 204 = .ok (.invokevirtual 166, 3) := by decide +kernel
theorem d_M_prove_207 : decode b_M_prove 207 = .ok (.ifCond .eq 7, 3) := by decide +kernel
theorem d_M_prove_210 : decode b_M_prove 210 = .ok (.iconst 1, 1) := by decide +kernel
theorem d_M_prove_211 : decode b_M_prove 211 = .ok (.goto 4, 3) := by decide +kernel
theorem d_M_prove_214 : decode b_M_prove 214 = .ok (.iconst 2, 1) := by decide +kernel
theorem d_M_prove_215 : decode b_M_prove 215 = .ok (.putfield 35, 3) := by decide +kernel
theorem d_M_prove_218 : decode b_M_prove 218 = .ok (.iconst 0, 1) := by decide +kernel
theorem d_M_prove_219 : decode b_M_prove 219 = .ok (.istore_n 3, 1) := by decide +kernel
theorem d_M_prove_220 : decode b_M_prove 220 = .ok (.iload_n 3, 1) := by decide +kernel
theorem d_M_prove_221 : decode b_M_prove 221 = .ok (.iconst 4, 1) := by decide +kernel
theorem d_M_prove_222 : decode b_M_prove 222 = .ok (.if_icmp .ge 61, 3) := by decide +kernel
theorem d_M_prove_225 : decode b_M_prove 225 = .ok (.aload_n 0, 1) := by decide +kernel
theorem d_M_prove_226 : decode b_M_prove 226 = .ok (.getfield 39, 3) := by decide +kernel
theorem d_M_prove_229 : decode b_M_prove 229 = .ok (.iload_n 3, 1) := by decide +kernel
theorem d_M_prove_230 : decode b_M_prove 230 = .ok (.iload_n 1, 1) := by decide +kernel
theorem d_M_prove_231 : decode b_M_prove 231 = .ok (.iload_n 2, 1) := by decide +kernel
theorem d_M_prove_232 : decode b_M_prove 232 = .ok (.if_icmp .ne 7, 3) := by decide +kernel
theorem d_M_prove_235 : decode b_M_prove 235 = .ok (.lconst 0, 1) := by decide +kernel
theorem d_M_prove_236 : decode b_M_prove 236 = .ok (.goto 13, 3) := by decide +kernel
theorem d_M_prove_239 : decode b_M_prove 239 = .ok (.aload_n 0, 1) := by decide +kernel
theorem d_M_prove_240 : decode b_M_prove 240 = .ok (.getfield 7, 3) := by decide +kernel
theorem d_M_prove_243 : decode b_M_prove 243 = .ok (.iconst 4, 1) := by decide +kernel
theorem d_M_prove_244 : decode b_M_prove 244 = .ok (.iload_n 1, 1) := by decide +kernel
theorem d_M_prove_245 : decode b_M_prove 245 = .ok (.imul, 1) := by decide +kernel
theorem d_M_prove_246 : decode b_M_prove 246 = .ok (.iload_n 3, 1) := by decide +kernel
theorem d_M_prove_247 : decode b_M_prove 247 = .ok (.iadd, 1) := by decide +kernel
theorem d_M_prove_248 : decode b_M_prove 248 = .ok (.laload, 1) := by decide +kernel
theorem d_M_prove_249 : decode b_M_prove 249 = .ok (.lastore, 1) := by decide +kernel
theorem d_M_prove_250 : decode b_M_prove 250 = .ok (.aload_n 0, 1) := by decide +kernel
theorem d_M_prove_251 : decode b_M_prove 251 = .ok (.getfield 39, 3) := by decide +kernel
theorem d_M_prove_254 : decode b_M_prove 254 = .ok (.iconst 4, 1) := by decide +kernel
theorem d_M_prove_255 : decode b_M_prove 255 = .ok (.iload_n 3, 1) := by decide +kernel
theorem d_M_prove_256 : decode b_M_prove 256 = .ok (.iadd, 1) := by decide +kernel
theorem d_M_prove_257 : decode b_M_prove 257 = .ok (.iload_n 1, 1) := by decide +kernel
theorem d_M_prove_258 : decode b_M_prove 258 = .ok (.iload_n 2, 1) := by decide +kernel
theorem d_M_prove_259 : decode b_M_prove 259 = .ok (.if_icmp .ne 7, 3) := by decide +kernel
theorem d_M_prove_262 : decode b_M_prove 262 = .ok (.lconst 0, 1) := by decide +kernel
theorem d_M_prove_263 : decode b_M_prove 263 = .ok (.goto 13, 3) := by decide +kernel
theorem d_M_prove_266 : decode b_M_prove 266 = .ok (.aload_n 0, 1) := by decide +kernel
theorem d_M_prove_267 : decode b_M_prove 267 = .ok (.getfield 13, 3) := by decide +kernel
theorem d_M_prove_270 : decode b_M_prove 270 = .ok (.iconst 4, 1) := by decide +kernel
theorem d_M_prove_271 : decode b_M_prove 271 = .ok (.iload_n 1, 1) := by decide +kernel
theorem d_M_prove_272 : decode b_M_prove 272 = .ok (.imul, 1) := by decide +kernel
theorem d_M_prove_273 : decode b_M_prove 273 = .ok (.iload_n 3, 1) := by decide +kernel
theorem d_M_prove_274 : decode b_M_prove 274 = .ok (.iadd, 1) := by decide +kernel
theorem d_M_prove_275 : decode b_M_prove 275 = .ok (.laload, 1) := by decide +kernel
theorem d_M_prove_276 : decode b_M_prove 276 = .ok (.lastore, 1) := by decide +kernel
theorem d_M_prove_277 : decode b_M_prove 277 = .ok (.iinc 3 1, 3) := by decide +kernel
theorem d_M_prove_280 : decode b_M_prove 280 = .ok (.goto (-60), 3) := by decide +kernel
theorem d_M_prove_283 : decode b_M_prove 283 = .ok (.aload_n 0, 1) := by decide +kernel
theorem d_M_prove_284 : decode b_M_prove 284 = .ok (.getfield 180, 3) := by decide +kernel
theorem d_M_prove_287 : decode b_M_prove 287 = .ok (.ireturn, 1) := by decide +kernel
