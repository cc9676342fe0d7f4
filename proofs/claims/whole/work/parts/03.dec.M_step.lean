theorem d_M_step_0 : decode b_M_step 0 = .ok (.iconst 0, 1) := by decide +kernel
theorem d_M_step_1 : decode b_M_step 1 = .ok (.istore_n 2, 1) := by decide +kernel
theorem d_M_step_2 : decode b_M_step 2 = .ok (.iconst 0, 1) := by decide +kernel
theorem d_M_step_3 : decode b_M_step 3 = .ok (.istore_n 3, 1) := by decide +kernel
theorem d_M_step_4 : decode b_M_step 4 = .ok (.iload_n 3, 1) := by decide +kernel
theorem d_M_step_5 : decode b_M_step 5 = .ok (.aload_n 0, 1) := by decide +kernel
theorem d_M_step_6 : decode b_M_step 6 = .ok (.getfield 140, 3) := by decide +kernel
theorem d_M_step_9 : decode b_M_step 9 = .ok (.if_icmp .ge 227, 3) := by decide +kernel
theorem d_M_step_12 : decode b_M_step 12 = .ok (.iload_n 3, 1) := by decide +kernel
theorem d_M_step_13 : decode b_M_step 13 = .ok (.iconst 1, 1) := by decide +kernel
theorem d_M_step_14 : decode b_M_step 14 = .ok (.iadd, 1) := by decide +kernel
theorem d_M_step_15 : decode b_M_step 15 = .ok (.aload_n 0, 1) := by decide +kernel
theorem d_M_step_16 : decode b_M_step 16 = .ok (.getfield 140, 3) := by decide +kernel
theorem d_M_step_19 : decode b_M_step 19 = .ok (.if_icmp .ge 29, 3) := by decide +kernel
theorem d_M_step_22 : decode b_M_step 22 = .ok (.aload_n 0, 1) := by decide +kernel
theorem d_M_step_23 : decode b_M_step 23 = .ok (.aload_n 0, 1) := by decide +kernel
theorem d_M_step_24 : decode b_M_step 24 = .ok (.getfield 19, 3) := by decide +kernel
theorem d_M_step_27 : decode b_M_step 27 = .ok (.iload_n 3, 1) := by decide +kernel
theorem d_M_step_28 : decode b_M_step 28 = .ok (.iaload, 1) := by decide +kernel
theorem d_M_step_29 : decode b_M_step 29 = .ok (.aload_n 0, 1) := by decide +kernel
theorem d_M_step_30 : decode b_M_step 30 = .ok (.getfield 19, 3) := by decide +kernel
theorem d_M_step_33 : decode b_M_step 33 = .ok (.iload_n 3, 1) := by decide +kernel
theorem d_M_step_34 : decode b_M_step 34 = .ok (.iconst 1, 1) := by decide +kernel
theorem d_M_step_35 : decode b_M_step 35 = .ok (.iadd, 1) := by decide +kernel
theorem d_M_step_36 : decode b_M_step 36 = .ok (.iaload, 1) := by decide +kernel
theorem d_M_step_37 : decode b_M_step 37 = .ok (.iload_n 1, 1) := by decide +kernel
theorem d_M_step_38 : decode b_M_step 38 = .ok (.invokevirtual 150, 3) := by decide +kernel
theorem d_M_step_41 : decode b_M_step 41 = .ok (.ifCond .eq 7, 3) := by decide +kernel
theorem d_M_step_44 : decode b_M_step 44 = .ok (.iconst 1, 1) := by decide +kernel
theorem d_M_step_45 : decode b_M_step 45 = .ok (.goto 4, 3) := by decide +kernel
theorem d_M_step_48 : decode b_M_step 48 = .ok (.iconst 0, 1) := by decide +kernel
theorem d_M_step_49 : decode b_M_step 49 = .ok (.istore 4, 2) := by decide +kernel
theorem d_M_step_51 : decode b_M_step 51 = .ok (.iload 4, 2) := by decide +kernel
theorem d_M_step_53 : decode b_M_step 53 = .ok (.ifCond .eq 21, 3) := by decide +kernel
theorem d_M_step_56 : decode b_M_step 56 = .ok (.aload_n 0, 1) := by decide +kernel
theorem d_M_step_57 : decode b_M_step 57 = .ok (.getfield 23, 3) := by decide +kernel
theorem d_M_step_60 : decode b_M_step 60 = .ok (.iload_n 3, 1) := by decide +kernel
theorem d_M_step_61 : decode b_M_step 61 = .ok (.iaload, 1) := by decide +kernel
theorem d_M_step_62 : decode b_M_step 62 = .ok (.aload_n 0, 1) := by decide +kernel
theorem d_M_step_63 : decode b_M_step 63 = .ok (.getfield 23, 3) := by decide +kernel
theorem d_M_step_66 : decode b_M_step 66 = .ok (.iload_n 3, 1) := by decide +kernel
theorem d_M_step_67 : decode b_M_step 67 = .ok (.iconst 1, 1) := by decide +kernel
theorem d_M_step_68 : decode b_M_step 68 = .ok (.iadd, 1) := by decide +kernel
theorem d_M_step_69 : decode b_M_step 69 = .ok (.iaload, 1) := by decide +kernel
theorem d_M_step_70 : decode b_M_step 70 = .ok (.iadd, 1) := by decide +kernel
theorem d_M_step_71 : decode b_M_step 71 = .ok (.goto 9, 3) := by decide +kernel
theorem d_M_step_74 : decode b_M_step 74 = .ok (.aload_n 0, 1) := by decide +kernel
theorem d_M_step_75 : decode b_M_step 75 = .ok (.getfield 23, 3) := by decide +kernel
theorem d_M_step_78 : decode b_M_step 78 = .ok (.iload_n 3, 1) := by decide +kernel
theorem d_M_step_79 : decode b_M_step 79 = .ok (.iaload, 1) := by decide +kernel
theorem d_M_step_80 : decode b_M_step 80 = .ok (.istore 5, 2) := by decide +kernel
theorem d_M_step_82 : decode b_M_step 82 = .ok (.aload_n 0, 1) := by decide +kernel
theorem d_M_step_83 : decode b_M_step 83 = .ok (.getfield 19, 3) := by decide +kernel
theorem d_M_step_86 : decode b_M_step 86 = .ok (.iload_n 3, 1) := by decide +kernel
theorem d_M_step_87 : decode b_M_step 87 = .ok (.iaload, 1) := by decide +kernel
theorem d_M_step_88 : decode b_M_step 88 = .ok (.istore 6, 2) := by decide +kernel
theorem d_M_step_90 : decode b_M_step 90 = .ok (.iload 4, 2) := by decide +kernel
theorem d_M_step_92 : decode b_M_step 92 = .ok (.ifCond .eq 15, 3) := by decide +kernel
theorem d_M_step_95 : decode b_M_step 95 = .ok (.aload_n 0, 1) := by decide +kernel
theorem d_M_step_96 : decode b_M_step 96 = .ok (.iload_n 2, 1) := by decide +kernel
theorem d_M_step_97 : decode b_M_step 97 = .ok (.iload_n 3, 1) := by decide +kernel
theorem d_M_step_98 : decode b_M_step 98 = .ok (.iload_n 3, 1) := by decide +kernel
theorem d_M_step_99 : decode b_M_step 99 = .ok (.iconst 1, 1) := by decide +kernel
theorem d_M_step_100 : decode b_M_step 100 = .ok (.iadd, 1) := by decide +kernel
theorem d_M_step_101 : decode b_M_step 101 = .ok (.invokevirtual 154, 3) := by decide +kernel
theorem d_M_step_104 : decode b_M_step 104 = .ok (.goto 97, 3) := by decide +kernel
theorem d_M_step_107 : decode b_M_step 107 = .ok (.iload 5, 2) := by decide +kernel
theorem d_M_step_109 : decode b_M_step 109 = .ok (.iconst 1, 1) := by decide +kernel
theorem d_M_step_110 : decode b_M_step 110 = .ok (.if_icmp .le 54, 3) := by decide +kernel
theorem d_M_step_113 : decode b_M_step 113 = .ok (.aload_n 0, 1) := by decide +kernel
theorem d_M_step_114 : decode b_M_step 114 = .ok (.getfield 7, 3) := by decide +kernel
theorem d_M_step_117 : decode b_M_step 117 = .ok (.iconst 4, 1) := by decide +kernel
theorem d_M_step_118 : decode b_M_step 118 = .ok (.iload 6, 2) := by decide +kernel
theorem d_M_step_120 : decode b_M_step 120 = .ok (.imul, 1) := by decide +kernel
theorem d_M_step_121 : decode b_M_step 121 = .ok (.iload_n 1, 1) := by decide +kernel
theorem d_M_step_122 : decode b_M_step 122 = .ok (.invokestatic 158, 3) := by decide +kernel
theorem d_M_step_125 : decode b_M_step 125 = .ok (.iconst 1, 1) := by decide +kernel
theorem d_M_step_126 : decode b_M_step 126 = .ok (.if_icmp .ne 7, 3) := by decide +kernel
theorem d_M_step_129 : decode b_M_step 129 = .ok (.iconst 1, 1) := by decide +kernel
theorem d_M_step_130 : decode b_M_step 130 = .ok (.goto 4, 3) := by decide +kernel
theorem d_M_step_133 : decode b_M_step 133 = .ok (.iconst 0, 1) := by decide +kernel
theorem d_M_step_134 : decode b_M_step 134 = .ok (.istore 7, 2) := by decide +kernel
theorem d_M_step_136 : decode b_M_step 136 = .ok (.aload_n 0, 1) := by decide +kernel
theorem d_M_step_137 : decode b_M_step 137 = .ok (.iload_n 2, 1) := by decide +kernel
theorem d_M_step_138 : decode b_M_step 138 = .ok (.iload 7, 2) := by decide +kernel
theorem d_M_step_140 : decode b_M_step 140 = .ok (.ifCond .eq 7, 3) := by decide +kernel
theorem d_M_step_143 : decode b_M_step 143 = .ok (.iconst (-1), 1) := by decide +kernel
theorem d_M_step_144 : decode b_M_step 144 = .ok (.goto 4, 3) := by decide +kernel
theorem d_M_step_147 : decode b_M_step 147 = .ok (.iload_n 3, 1) := by decide +kernel
theorem d_M_step_148 : decode b_M_step 148 = .ok (.iload 7, 2) := by decide +kernel
theorem d_M_step_150 : decode b_M_step 150 = .ok (.ifCond .eq 7, 3) := by decide +kernel
theorem d_M_step_153 : decode b_M_step 153 = .ok (.iload_n 3, 1) := by decide +kernel
theorem d_M_step_154 : decode b_M_step 154 = .ok (.goto 4, 3) := by decide +kernel
theorem d_M_step_157 : decode b_M_step 157 = .ok (.iconst (-1), 1) := by decide +kernel
theorem d_M_step_158 : decode b_M_step 158 = .ok (.invokevirtual 154, 3) := by decide +kernel
theorem d_M_step_161 : decode b_M_step 161 = .ok (.goto 40, 3) := by decide +kernel
theorem d_M_step_164 : decode b_M_step 164 = .ok (.iconst 0, 1) := by decide +kernel
theorem d_M_step_165 : decode b_M_step 165 = .ok (.istore 7, 2) := by decide +kernel
theorem d_M_step_167 : decode b_M_step 167 = .ok (.iload 7, 2) := by decide +kernel
theorem d_M_step_169 : decode b_M_step 169 = .ok (.iconst 4, 1) := by decide +kernel
theorem d_M_step_170 : decode b_M_step 170 = .ok (.if_icmp .ge 31, 3) := by decide +kernel
theorem d_M_step_173 : decode b_M_step 173 = .ok (.aload_n 0, 1) := by decide +kernel
theorem d_M_step_174 : decode b_M_step 174 = .ok (.getfield 26, 3) := by decide +kernel
theorem d_M_step_177 : decode b_M_step 177 = .ok (.iconst 4, 1) := by decide +kernel
theorem d_M_step_178 : decode b_M_step 178 = .ok (.iload_n 2, 1) := by decide +kernel
theorem d_M_step_179 : decode b_M_step 179 = .ok (.imul, 1) := by decide +kernel
theorem d_M_step_180 : decode b_M_step 180 = .ok (.iload 7, 2) := by decide +kernel
theorem d_M_step_182 : decode b_M_step 182 = .ok (.iadd, 1) := by decide +kernel
theorem d_M_step_183 : decode b_M_step 183 = .ok (.aload_n 0, 1) := by decide +kernel
theorem d_M_step_184 : decode b_M_step 184 = .ok (.getfield 26, 3) := by decide +kernel
theorem d_M_step_187 : decode b_M_step 187 = .ok (.iconst 4, 1) := by decide +kernel
theorem d_M_step_188 : decode b_M_step 188 = .ok (.iload_n 3, 1) := by decide +kernel
theorem d_M_step_189 : decode b_M_step 189 = .ok (.imul, 1) := by decide +kernel
theorem d_M_step_190 : decode b_M_step 190 = .ok (.iload 7, 2) := by decide +kernel
theorem d_M_step_192 : decode b_M_step 192 = .ok (.iadd, 1) := by decide +kernel
theorem d_M_step_193 : decode b_M_step 193 = .ok (.laload, 1) := by decide +kernel
theorem d_M_step_194 : decode b_M_step 194 = .ok (.lastore, 1) := by decide +kernel
theorem d_M_step_195 : decode b_M_step 195 = .ok (.iinc 7 1, 3) := by decide +kernel
theorem d_M_step_198 : decode b_M_step 198 = .ok (.goto (-31), 3) := by decide +kernel
theorem d_M_step_201 : decode b_M_step 201 = .ok (.aload_n 0, 1) := by decide +kernel
theorem d_M_step_202 : decode b_M_step 202 = .ok (.getfield 19, 3) := by decide +kernel
theorem d_M_step_205 : decode b_M_step 205 = .ok (.iload_n 2, 1) := by decide +kernel
theorem d_M_step_206 : decode b_M_step 206 = .ok (.iload 6, 2) := by decide +kernel
theorem d_M_step_208 : decode b_M_step 208 = .ok (.iastore, 1) := by decide +kernel
theorem d_M_step_209 : decode b_M_step 209 = .ok (.aload_n 0, 1) := by decide +kernel
theorem d_M_step_210 : decode b_M_step 210 = .ok (.getfield 23, 3) := by decide +kernel
theorem d_M_step_213 : decode b_M_step 213 = .ok (.iload_n 2, 1) := by decide +kernel
theorem d_M_step_214 : decode b_M_step 214 = .ok (.iload 5, 2) := by decide +kernel
theorem d_M_step_216 : decode b_M_step 216 = .ok (.iastore, 1) := by decide +kernel
theorem d_M_step_217 : decode b_M_step 217 = .ok (.iinc 2 1, 3) := by decide +kernel
theorem d_M_step_220 : decode b_M_step 220 = .ok (.iload_n 3, 1) := by decide +kernel
theorem d_M_step_221 : decode b_M_step 221 = .ok (.iload 4, 2) := by decide +kernel
theorem d_M_step_223 : decode b_M_step 223 = .ok (.ifCond .eq 7, 3) := by decide +kernel
theorem d_M_step_226 : decode b_M_step 226 = .ok (.iconst 2, 1) := by decide +kernel
theorem d_M_step_227 : decode b_M_step 227 = .ok (.goto 4, 3) := by decide +kernel
theorem d_M_step_230 : decode b_M_step 230 = .ok (.iconst 1, 1) := by decide +kernel
theorem d_M_step_231 : decode b_M_step 231 = .ok (.iadd, 1) := by decide +kernel
theorem d_M_step_232 : decode b_M_step 232 = .ok (.istore_n 3, 1) := by decide +kernel
theorem d_M_step_233 : decode b_M_step 233 = .ok (.goto (-229), 3) := by decide +kernel
theorem d_M_step_236 : decode b_M_step 236 = .ok (.aload_n 0, 1) := by decide +kernel
theorem d_M_step_237 : decode b_M_step 237 = .ok (.iload_n 2, 1) := by decide +kernel
theorem d_M_step_238 : decode b_M_step 238 = .ok (.putfield 140, 3) := by decide +kernel
theorem d_M_step_241 : decode b_M_step 241 = .ok (.return_, 1) := by decide +kernel
