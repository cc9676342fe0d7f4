theorem d_M_set_0 : decode b_M_set 0 = .ok (.aload_n 0, 1) := by decide +kernel
theorem d_M_set_1 : decode b_M_set 1 = .ok (.invokevirtual 162, 3) := by decide +kernel
theorem d_M_set_4 : decode b_M_set 4 = .ok (.istore 9, 2) := by decide +kernel
theorem d_M_set_6 : decode b_M_set 6 = .ok (.aload_n 0, 1) := by decide +kernel
theorem d_M_set_7 : decode b_M_set 7 = .ok (.iload 9, 2) := by decide +kernel
theorem d_M_set_9 : decode b_M_set 9 = .ok (.invokevirtual 166, 3) := by decide +kernel
theorem d_M_set_12 : decode b_M_set 12 = .ok (.istore 10, 2) := by decide +kernel
theorem d_M_set_14 : decode b_M_set 14 = .ok (.iload 10, 2) := by decide +kernel
theorem d_M_set_16 : decode b_M_set 16 = .ok (.ifCond .ne 16, 3) := by decide +kernel
theorem d_M_set_19 : decode b_M_set 19 = .ok (.aload_n 0, 1) := by decide +kernel
theorem d_M_set_20 : decode b_M_set 20 = .ok (.getfield 106, 3) := by decide +kernel
theorem d_M_set_23 : decode b_M_set 23 = .ok (.sipush 512, 3) := by decide +kernel
theorem d_M_set_26 : decode b_M_set 26 = .ok (.if_icmp .ne 6, 3) := by decide +kernel
theorem d_M_set_29 : decode b_M_set 29 = .ok (.bipush (-3), 2) := by decide +kernel
theorem d_M_set_31 : decode b_M_set 31 = .ok (.ireturn, 1) := by decide +kernel
theorem d_M_set_32 : decode b_M_set 32 = .ok (.iload 10, 2) := by decide +kernel
theorem d_M_set_34 : decode b_M_set 34 = .ok (.ifCond .ne 104, 3) := by decide +kernel
theorem d_M_set_37 : decode b_M_set 37 = .ok (.iconst 4, 1) := by decide +kernel
theorem d_M_set_38 : decode b_M_set 38 = .ok (.aload_n 0, 1) := by decide +kernel
theorem d_M_set_39 : decode b_M_set 39 = .ok (.getfield 106, 3) := by decide +kernel
theorem d_M_set_42 : decode b_M_set 42 = .ok (.imul, 1) := by decide +kernel
theorem d_M_set_43 : decode b_M_set 43 = .ok (.iconst 1, 1) := by decide +kernel
theorem d_M_set_44 : decode b_M_set 44 = .ok (.isub, 1) := by decide +kernel
theorem d_M_set_45 : decode b_M_set 45 = .ok (.istore 11, 2) := by decide +kernel
theorem d_M_set_47 : decode b_M_set 47 = .ok (.iload 11, 2) := by decide +kernel
theorem d_M_set_49 : decode b_M_set 49 = .ok (.iconst 4, 1) := by decide +kernel
theorem d_M_set_50 : decode b_M_set 50 = .ok (.iload 9, 2) := by decide +kernel
theorem d_M_set_52 : decode b_M_set 52 = .ok (.imul, 1) := by decide +kernel
theorem d_M_set_53 : decode b_M_set 53 = .ok (.if_icmp .lt 41, 3) := by decide +kernel
theorem d_M_set_56 : decode b_M_set 56 = .ok (.aload_n 0, 1) := by decide +kernel
theorem d_M_set_57 : decode b_M_set 57 = .ok (.getfield 7, 3) := by decide +kernel
theorem d_M_set_60 : decode b_M_set 60 = .ok (.iload 11, 2) := by decide +kernel
theorem d_M_set_62 : decode b_M_set 62 = .ok (.iconst 4, 1) := by decide +kernel
theorem d_M_set_63 : decode b_M_set 63 = .ok (.iadd, 1) := by decide +kernel
theorem d_M_set_64 : decode b_M_set 64 = .ok (.aload_n 0, 1) := by decide +kernel
theorem d_M_set_65 : decode b_M_set 65 = .ok (.getfield 7, 3) := by decide +kernel
theorem d_M_set_68 : decode b_M_set 68 = .ok (.iload 11, 2) := by decide +kernel
theorem d_M_set_70 : decode b_M_set 70 = .ok (.laload, 1) := by decide +kernel
theorem d_M_set_71 : decode b_M_set 71 = .ok (.lastore, 1) := by decide +kernel
theorem d_M_set_72 : decode b_M_set 72 = .ok (.aload_n 0, 1) := by decide +kernel
theorem d_M_set_73 : decode b_M_set 73 = .ok (.getfield 13, 3) := by decide +kernel
theorem d_M_set_76 : decode b_M_set 76 = .ok (.iload 11, 2) := by decide +kernel
theorem d_M_set_78 : decode b_M_set 78 = .ok (.iconst 4, 1) := by decide +kernel
theorem d_M_set_79 : decode b_M_set 79 = .ok (.iadd, 1) := by decide +kernel
theorem d_M_set_80 : decode b_M_set 80 = .ok (.aload_n 0, 1) := by decide +kernel
theorem d_M_set_81 : decode b_M_set 81 = .ok (.getfield 13, 3) := by decide +kernel
theorem d_M_set_84 : decode b_M_set 84 = .ok (.iload 11, 2) := by decide +kernel
theorem d_M_set_86 : decode b_M_set 86 = .ok (.laload, 1) := by decide +kernel
theorem d_M_set_87 : decode b_M_set 87 = .ok (.lastore, 1) := by decide +kernel
theorem d_M_set_88 : decode b_M_set 88 = .ok (.iinc 11 (-1), 3) := by decide +kernel
theorem d_M_set_91 : decode b_M_set 91 = .ok (.goto (-44), 3) := by decide +kernel
theorem d_M_set_94 : decode b_M_set 94 = .ok (.aload_n 0, 1) := by decide +kernel
theorem d_M_set_95 : decode b_M_set 95 = .ok (.dup, 1) := by decide +kernel
theorem d_M_set_96 : decode b_M_set 96 = .ok (.getfield 106, 3) := by decide +kernel
theorem d_M_set_99 : decode b_M_set 99 = .ok (.iconst 1, 1) := by decide +kernel
theorem d_M_set_100 : decode b_M_set 100 = .ok (.iadd, 1) := by decide +kernel
theorem d_M_set_101 : decode b_M_set 101 = .ok (.putfield 106, 3) := by decide +kernel
theorem d_M_set_104 : decode b_M_set 104 = .ok (.iconst 0, 1) := by decide +kernel
theorem d_M_set_105 : decode b_M_set 105 = .ok (.istore 11, 2) := by decide +kernel
theorem d_M_set_107 : decode b_M_set 107 = .ok (.iload 11, 2) := by decide +kernel
theorem d_M_set_109 : decode b_M_set 109 = .ok (.iconst 4, 1) := by decide +kernel
theorem d_M_set_110 : decode b_M_set 110 = .ok (.if_icmp .ge 28, 3) := by decide +kernel
theorem d_M_set_113 : decode b_M_set 113 = .ok (.aload_n 0, 1) := by decide +kernel
theorem d_M_set_114 : decode b_M_set 114 = .ok (.getfield 7, 3) := by decide +kernel
theorem d_M_set_117 : decode b_M_set 117 = .ok (.iconst 4, 1) := by decide +kernel
theorem d_M_set_118 : decode b_M_set 118 = .ok (.iload 9, 2) := by decide +kernel
theorem d_M_set_120 : decode b_M_set 120 = .ok (.imul, 1) := by decide +kernel
theorem d_M_set_121 : decode b_M_set 121 = .ok (.iload 11, 2) := by decide +kernel
theorem d_M_set_123 : decode b_M_set 123 = .ok (.iadd, 1) := by decide +kernel
theorem d_M_set_124 : decode b_M_set 124 = .ok (.aload_n 0, 1) := by decide +kernel
theorem d_M_set_125 : decode b_M_set 125 = .ok (.getfield 16, 3) := by decide +kernel
theorem d_M_set_128 : decode b_M_set 128 = .ok (.iload 11, 2) := by decide +kernel
theorem d_M_set_130 : decode b_M_set 130 = .ok (.laload, 1) := by decide +kernel
theorem d_M_set_131 : decode b_M_set 131 = .ok (.lastore, 1) := by decide +kernel
theorem d_M_set_132 : decode b_M_set 132 = .ok (.iinc 11 1, 3) := by decide +kernel
theorem d_M_set_135 : decode b_M_set 135 = .ok (.goto (-28), 3) := by decide +kernel
theorem d_M_set_138 : decode b_M_set 138 = .ok (.aload_n 0, 1) := by decide +kernel
theorem d_M_set_139 : decode b_M_set 139 = .ok (.getfield 13, 3) := by decide +kernel
theorem d_M_set_142 : decode b_M_set 142 = .ok (.iconst 4, 1) := by decide +kernel
theorem d_M_set_143 : decode b_M_set 143 = .ok (.iload 9, 2) := by decide +kernel
theorem d_M_set_145 : decode b_M_set 145 = .ok (.imul, 1) := by decide +kernel
theorem d_M_set_146 : decode b_M_set 146 = .ok (.lload_n 1, 1) := by decide +kernel
theorem d_M_set_147 : decode b_M_set 147 = .ok (.lastore, 1) := by decide +kernel
theorem d_M_set_148 : decode b_M_set 148 = .ok (.aload_n 0, 1) := by decide +kernel
theorem d_M_set_149 : decode b_M_set 149 = .ok (.getfield 13, 3) := by decide +kernel
theorem d_M_set_152 : decode b_M_set 152 = .ok (.iconst 4, 1) := by decide +kernel
theorem d_M_set_153 : decode b_M_set 153 = .ok (.iload 9, 2) := by decide +kernel
theorem d_M_set_155 : decode b_M_set 155 = .ok (.imul, 1) := by decide +kernel
theorem d_M_set_156 : decode b_M_set 156 = .ok (.iconst 1, 1) := by decide +kernel
theorem d_M_set_157 : decode b_M_set 157 = .ok (.iadd, 1) := by decide +kernel
theorem d_M_set_158 : decode b_M_set 158 = .ok (.lload_n 3, 1) := by decide +kernel
theorem d_M_set_159 : decode b_M_set 159 = .ok (.lastore, 1) := by decide +kernel
theorem d_M_set_160 : decode b_M_set 160 = .ok (.aload_n 0, 1) := by decide +kernel
theorem d_M_set_161 : decode b_M_set 161 = .ok (.getfield 13, 3) := by decide +kernel
theorem d_M_set_164 : decode b_M_set 164 = .ok (.iconst 4, 1) := by decide +kernel
theorem d_M_set_165 : decode b_M_set 165 = .ok (.iload 9, 2) := by decide +kernel
theorem d_M_set_167 : decode b_M_set 167 = .ok (.imul, 1) := by decide +kernel
theorem d_M_set_168 : decode b_M_set 168 = .ok (.iconst 2, 1) := by decide +kernel
theorem d_M_set_169 : decode b_M_set 169 = .ok (.iadd, 1) := by decide +kernel
theorem d_M_set_170 : decode b_M_set 170 = .ok (.lload 5, 2) := by decide +kernel
theorem d_M_set_172 : decode b_M_set 172 = .ok (.lastore, 1) := by decide +kernel
theorem d_M_set_173 : decode b_M_set 173 = .ok (.aload_n 0, 1) := by decide +kernel
theorem d_M_set_174 : decode b_M_set 174 = .ok (.getfield 13, 3) := by decide +kernel
theorem d_M_set_177 : decode b_M_set 177 = .ok (.iconst 4, 1) := by decide +kernel
theorem d_M_set_178 : decode b_M_set 178 = .ok (.iload 9, 2) := by decide +kernel
theorem d_M_set_180 : decode b_M_set 180 = .ok (.imul, 1) := by decide +kernel
theorem d_M_set_181 : decode b_M_set 181 = .ok (.iconst 3, 1) := by decide +kernel
theorem d_M_set_182 : decode b_M_set 182 = .ok (.iadd, 1) := by decide +kernel
theorem d_M_set_183 : decode b_M_set 183 = .ok (.lload 7, 2) := by decide +kernel
theorem d_M_set_185 : decode b_M_set 185 = .ok (.lastore, 1) := by decide +kernel
theorem d_M_set_186 : decode b_M_set 186 = .ok (.aload_n 0, 1) := by decide +kernel
theorem d_M_set_187 : decode b_M_set 187 = .ok (.iconst 0, 1) := by decide +kernel
theorem d_M_set_188 : decode b_M_set 188 = .ok (.putfield 170, 3) := by decide +kernel
theorem d_M_set_191 : decode b_M_set 191 = .ok (.iload 10, 2) := by decide +kernel
theorem d_M_set_193 : decode b_M_set 193 = .ok (.ifCond .eq 7, 3) := by decide +kernel
theorem d_M_set_196 : decode b_M_set 196 = .ok (.iconst 0, 1) := by decide +kernel
theorem d_M_set_197 : decode b_M_set 197 = .ok (.goto 4, 3) := by decide +kernel
theorem d_M_set_200 : decode b_M_set 200 = .ok (.iconst 1, 1) := by decide +kernel
theorem d_M_set_201 : decode b_M_set 201 = .ok (.ireturn, 1) := by decide +kernel
