theorem d_X_prove_0 : decode b_X_prove 0 = .ok (.aload_n 0, 1) := by decide +kernel
theorem d_X_prove_1 : decode b_X_prove 1 = .ok (.getfield 34, 3) := by decide +kernel
theorem d_X_prove_4 : decode b_X_prove 4 = .ok (.lconst 0, 1) := by decide +kernel
theorem d_X_prove_5 : decode b_X_prove 5 = .ok (.invokestatic 107, 3) := by decide +kernel
theorem d_X_prove_8 : decode b_X_prove 8 = .ok (.aload_n 0, 1) := by decide +kernel
theorem d_X_prove_9 : decode b_X_prove 9 = .ok (.getfield 40, 3) := by decide +kernel
theorem d_X_prove_12 : decode b_X_prove 12 = .ok (.lconst 0, 1) := by decide +kernel
theorem d_X_prove_13 : decode b_X_prove 13 = .ok (.invokestatic 107, 3) := by decide +kernel
theorem d_X_prove_16 : decode b_X_prove 16 = .ok (.aload_n 0, 1) := by decide +kernel
theorem d_X_prove_17 : decode b_X_prove 17 = .ok (.iconst 0, 1) := by decide +kernel
theorem d_X_prove_18 : decode b_X_prove 18 = .ok (.putfield 43, 3) := by decide +kernel
theorem d_X_prove_21 : decode b_X_prove 21 = .ok (.aload_n 0, 1) := by decide +kernel
theorem d_X_prove_22 : decode b_X_prove 22 = .ok (.invokevirtual 112, 3) := by decide +kernel
theorem d_X_prove_25 : decode b_X_prove 25 = .ok (.astore_n 1, 1) := by decide +kernel
theorem d_X_prove_26 : decode b_X_prove 26 = .ok (.aload_n 1, 1) := by decide +kernel
theorem d_X_prove_27 : decode b_X_prove 27 = .ok (.ifnonnull 5, 3) := by decide +kernel
theorem d_X_prove_30 : decode b_X_prove 30 = .ok (.iconst 0, 1) := by decide +kernel
theorem d_X_prove_31 : decode b_X_prove 31 = .ok (.ireturn, 1) := by decide +kernel
theorem d_X_prove_32 : decode b_X_prove 32 = .ok (.aload_n 0, 1) := by decide +kernel
theorem d_X_prove_33 : decode b_X_prove 33 = .ok (.invokevirtual 101, 3) := by decide +kernel
theorem d_X_prove_36 : decode b_X_prove 36 = .ok (.aload_n 0, 1) := by decide +kernel
theorem d_X_prove_37 : decode b_X_prove 37 = .ok (.getfield 9, 3) := by decide +kernel
theorem d_X_prove_40 : decode b_X_prove 40 = .ok (.aload_n 1, 1) := by decide +kernel
theorem d_X_prove_41 : decode b_X_prove 41 = .ok (.getfield 115, 3) := by decide +kernel
theorem d_X_prove_44 : decode b_X_prove 44 = .ok (.invokestatic 116, 3) := by decide +kernel
theorem d_X_prove_47 : decode b_X_prove 47 = .ok (.istore_n 2, 1) := by decide +kernel
theorem d_X_prove_48 : decode b_X_prove 48 = .ok (.iconst 0, 1) := by decide +kernel
theorem d_X_prove_49 : decode b_X_prove 49 = .ok (.istore_n 3, 1) := by decide +kernel
theorem d_X_prove_50 : decode b_X_prove 50 = .ok (.aload_n 0, 1) := by decide +kernel
theorem d_X_prove_51 : decode b_X_prove 51 = .ok (.getfield 26, 3) := by decide +kernel
theorem d_X_prove_54 : decode b_X_prove 54 = .ok (.astore 4, 2) := by decide +kernel
theorem d_X_prove_56 : decode b_X_prove 56 = .ok (.aload 4, 2) := by decide +kernel
theorem d_X_prove_58 : decode b_X_prove 58 = .ok (.instanceof 80, 3) := by decide +kernel
theorem d_X_prove_61 : decode b_X_prove 61 = .ok (.ifCond .eq 80, 3) := by decide +kernel
theorem d_X_prove_64 : decode b_X_prove 64 = .ok (.aload 4, 2) := by decide +kernel
theorem d_X_prove_66 : decode b_X_prove 66 = .ok (.checkcast 80, 3) := by decide +kernel
theorem d_X_prove_69 : decode b_X_prove 69 = .ok (.astore 5, 2) := by decide +kernel
theorem d_X_prove_71 : decode b_X_prove 71 = .ok (.aload 5, 2) := by decide +kernel
theorem d_X_prove_73 : decode b_X_prove 73 = .ok (.getfield 79, 3) := by decide +kernel
theorem d_X_prove_76 : decode b_X_prove 76 = .ok (.iload_n 2, 1) := by decide +kernel
theorem d_X_prove_77 : decode b_X_prove 77 = .ok (.if_icmp .ge 64, 3) := by decide +kernel
theorem d_X_prove_80 : decode b_X_prove 80 = .ok (.aload_n 0, 1) := by decide +kernel
theorem d_X_prove_81 : decode b_X_prove 81 = .ok (.getfield 9, 3) := by decide +kernel
theorem d_X_prove_84 : decode b_X_prove 84 = .ok (.aload 5, 2) := by decide +kernel
theorem d_X_prove_86 : decode b_X_prove 86 = .ok (.getfield 79, 3) := by decide +kernel
theorem d_X_prove_89 : decode b_X_prove 89 = .ok (.invokestatic 84, 3) := by decide +kernel
theorem d_X_prove_92 : decode b_X_prove 92 = .ok (.istore 6, 2) := by decide +kernel
theorem d_X_prove_94 : decode b_X_prove 94 = .ok (.aload_n 0, 1) := by decide +kernel
theorem d_X_prove_95 : decode b_X_prove 95 = .ok (.aload 5, 2) := by decide +kernel
theorem d_X_prove_97 : decode b_X_prove 97 = .ok (.getfield 79, 3) := by decide +kernel
theorem d_X_prove_100 : decode b_X_prove 100 = .ok (.aload 5, 2) := by decide +kernel
theorem d_X_prove_102 : decode b_X_prove 102 = .ok (.iload 6, 2) := by decide +kernel
theorem d_X_prove_104 : decode b_X_prove 104 = .ok (.ifCond .ne 7, 3) := by decide +kernel
theorem d_X_prove_107 : decode b_X_prove 107 = .ok (.iconst 1, 1) := by decide +kernel
theorem d_X_prove_108 : decode b_X_prove 108 = .ok (.goto 4, 3) := by decide +kernel
theorem d_X_prove_111 : decode b_X_prove 111 = .ok (.iconst 0, 1) := by decide +kernel
theorem d_X_prove_112 : decode b_X_prove 112 = .ok (.invokevirtual 88, 3) := by decide +kernel
theorem d_X_prove_115 : decode b_X_prove 115 = .ok (.getfield 104, 3) := by decide +kernel
theorem d_X_prove_118 : decode b_X_prove 118 = .ok (.invokevirtual 120, 3) := by decide +kernel
theorem d_X_prove_121 : decode b_X_prove 121 = .ok (.aload 5, 2) := by decide +kernel
theorem d_X_prove_123 : decode b_X_prove 123 = .ok (.getfield 79, 3) := by decide +kernel
theorem d_X_prove_126 : decode b_X_prove 126 = .ok (.iconst 1, 1) := by decide +kernel
theorem d_X_prove_127 : decode b_X_prove 127 = .ok (.iadd, 1) := by decide +kernel
theorem d_X_prove_128 : decode b_X_prove 128 = .ok (.istore_n 3, 1) := by decide +kernel
theorem d_X_prove_129 : decode b_X_prove 129 = .ok (.aload 5, 2) := by decide +kernel
theorem d_X_prove_131 : decode b_X_prove 131 = .ok (.iload 6, 2) := by decide +kernel
theorem d_X_prove_133 : decode b_X_prove 133 = .ok (.invokevirtual 88, 3) := by decide +kernel
theorem d_X_prove_136 : decode b_X_prove 136 = .ok (.astore 4, 2) := by decide +kernel
theorem d_X_prove_138 : decode b_X_prove 138 = .ok (.goto (-82), 3) := by decide +kernel
theorem d_X_prove_141 : decode b_X_prove 141 = .ok (.aload 4, 2) := by decide +kernel
theorem d_X_prove_143 : decode b_X_prove 143 = .ok (.instanceof 80, 3) := by decide +kernel
theorem d_X_prove_146 : decode b_X_prove 146 = .ok (.ifCond .eq 36, 3) := by decide +kernel
theorem d_X_prove_149 : decode b_X_prove 149 = .ok (.aload 4, 2) := by decide +kernel
theorem d_X_prove_151 : decode b_X_prove 151 = .ok (.checkcast 80, 3) := by decide +kernel
theorem d_X_prove_154 : decode b_X_prove 154 = .ok (.astore 5, 2) := by decide +kernel
theorem d_X_prove_156 : decode b_X_prove 156 = .ok (.aload_n 0, 1) := by decide +kernel
theorem d_X_prove_157 : decode b_X_prove 157 = .ok (.aload 5, 2) := by decide +kernel
theorem d_X_prove_159 : decode b_X_prove 159 = .ok (.iload_n 2, 1) := by decide +kernel
theorem d_X_prove_160 : decode b_X_prove 160 = .ok (.iconst 1, 1) := by decide +kernel
theorem d_X_prove_161 : decode b_X_prove 161 = .ok (.iadd, 1) := by decide +kernel
theorem d_X_prove_162 : decode b_X_prove 162 = .ok (.aload_n 0, 1) := by decide +kernel
theorem d_X_prove_163 : decode b_X_prove 163 = .ok (.getfield 37, 3) := by decide +kernel
theorem d_X_prove_166 : decode b_X_prove 166 = .ok (.invokevirtual 124, 3) := by decide +kernel
theorem d_X_prove_169 : decode b_X_prove 169 = .ok (.aload_n 0, 1) := by decide +kernel
theorem d_X_prove_170 : decode b_X_prove 170 = .ok (.iload_n 2, 1) := by decide +kernel
theorem d_X_prove_171 : decode b_X_prove 171 = .ok (.aload_n 0, 1) := by decide +kernel
theorem d_X_prove_172 : decode b_X_prove 172 = .ok (.getfield 37, 3) := by decide +kernel
theorem d_X_prove_175 : decode b_X_prove 175 = .ok (.invokevirtual 120, 3) := by decide +kernel
theorem d_X_prove_178 : decode b_X_prove 178 = .ok (.iload_n 2, 1) := by decide +kernel
theorem d_X_prove_179 : decode b_X_prove 179 = .ok (.iconst 1, 1) := by decide +kernel
theorem d_X_prove_180 : decode b_X_prove 180 = .ok (.iadd, 1) := by decide +kernel
theorem d_X_prove_181 : decode b_X_prove 181 = .ok (.ireturn, 1) := by decide +kernel
theorem d_X_prove_182 : decode b_X_prove 182 = .ok (.aload_n 0, 1) := by decide +kernel
theorem d_X_prove_183 : decode b_X_prove 183 = .ok (.aload_n 1, 1) := by decide +kernel
theorem d_X_prove_184 : decode b_X_prove 184 = .ok (.invokevirtual 128, 3) := by decide +kernel
theorem d_X_prove_187 : decode b_X_prove 187 = .ok (.aload_n 0, 1) := by decide +kernel
theorem d_X_prove_188 : decode b_X_prove 188 = .ok (.iload_n 2, 1) := by decide +kernel
theorem d_X_prove_189 : decode b_X_prove 189 = .ok (.sipush 256, 3) := by decide +kernel
theorem d_X_prove_192 : decode b_X_prove 192 = .ok (.if_icmp .ne 7, 3) := by decide +kernel
theorem d_X_prove_195 : decode b_X_prove 195 = .ok (.iconst 1, 1) := by decide +kernel
theorem d_X_prove_196 : decode b_X_prove 196 = .ok (.goto 4, 3) := by decide +kernel
theorem d_X_prove_199 : decode b_X_prove 199 = .ok (.iconst 2, 1) := by decide +kernel
theorem d_X_prove_200 : decode b_X_prove 200 = .ok (.putfield 43, 3) := by decide +kernel
theorem d_X_prove_203 : decode b_X_prove 203 = .ok (.iload_n 3, 1) := by decide +kernel
theorem d_X_prove_204 : decode b_X_prove 204 = .ok (.ireturn, 1) := by decide +kernel
