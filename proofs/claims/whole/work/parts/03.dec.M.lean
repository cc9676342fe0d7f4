theorem d_M_init_0 : decode b_M_init 0 = .ok (.aload_n 0, 1) := by decide +kernel
theorem d_M_init_1 : decode b_M_init 1 = .ok (.invokespecial 1, 3) := by decide +kernel
theorem d_M_init_4 : decode b_M_init 4 = .ok (.aload_n 0, 1) := by decide +kernel
theorem d_M_init_5 : decode b_M_init 5 = .ok (.sipush 2048, 3) := by decide +kernel
theorem d_M_init_8 : decode b_M_init 8 = .ok (.newarray .long, 2) := by decide +kernel
theorem d_M_init_10 : decode b_M_init 10 = .ok (.putfield 7, 3) := by decide +kernel
theorem d_M_init_13 : decode b_M_init 13 = .ok (.aload_n 0, 1) := by decide +kernel
theorem d_M_init_14 : decode b_M_init 14 = .ok (.sipush 2048, 3) := by decide +kernel
theorem d_M_init_17 : decode b_M_init 17 = .ok (.newarray .long, 2) := by decide +kernel
theorem d_M_init_19 : decode b_M_init 19 = .ok (.putfield 13, 3) := by decide +kernel
theorem d_M_init_22 : decode b_M_init 22 = .ok (.aload_n 0, 1) := by decide +kernel
theorem d_M_init_23 : decode b_M_init 23 = .ok (.iconst 4, 1) := by decide +kernel
theorem d_M_init_24 : decode b_M_init 24 = .ok (.newarray .long, 2) := by decide +kernel
theorem d_M_init_26 : decode b_M_init 26 = .ok (.putfield 16, 3) := by decide +kernel
theorem d_M_init_29 : decode b_M_init 29 = .ok (.aload_n 0, 1) := by decide +kernel
theorem d_M_init_30 : decode b_M_init 30 = .ok (.sipush 512, 3) := by decide +kernel
theorem d_M_init_33 : decode b_M_init 33 = .ok (.newarray .int, 2) := by decide +kernel
theorem d_M_init_35 : decode b_M_init 35 = .ok (.putfield 19, 3) := by decide +kernel
theorem d_M_init_38 : decode b_M_init 38 = .ok (.aload_n 0, 1) := by decide +kernel
theorem d_M_init_39 : decode b_M_init 39 = .ok (.sipush 512, 3) := by decide +kernel
theorem d_M_init_42 : decode b_M_init 42 = .ok (.newarray .int, 2) := by decide +kernel
theorem d_M_init_44 : decode b_M_init 44 = .ok (.putfield 23, 3) := by decide +kernel
theorem d_M_init_47 : decode b_M_init 47 = .ok (.aload_n 0, 1) := by decide +kernel
theorem d_M_init_48 : decode b_M_init 48 = .ok (.sipush 2048, 3) := by decide +kernel
theorem d_M_init_51 : decode b_M_init 51 = .ok (.newarray .long, 2) := by decide +kernel
theorem d_M_init_53 : decode b_M_init 53 = .ok (.putfield 26, 3) := by decide +kernel
theorem d_M_init_56 : decode b_M_init 56 = .ok (.aload_n 0, 1) := by decide +kernel
theorem d_M_init_57 : decode b_M_init 57 = .ok (.iconst 4, 1) := by decide +kernel
theorem d_M_init_58 : decode b_M_init 58 = .ok (.newarray .long, 2) := by decide +kernel
theorem d_M_init_60 : decode b_M_init 60 = .ok (.putfield 29, 3) := by decide +kernel
theorem d_M_init_63 : decode b_M_init 63 = .ok (.aload_n 0, 1) := by decide +kernel
theorem d_M_init_64 : decode b_M_init 64 = .ok (.sipush 1024, 3) := by decide +kernel
theorem d_M_init_67 : decode b_M_init 67 = .ok (.newarray .long, 2) := by decide +kernel
theorem d_M_init_69 : decode b_M_init 69 = .ok (.putfield 32, 3) := by decide +kernel
theorem d_M_init_72 : decode b_M_init 72 = .ok (.aload_n 0, 1) := by decide +kernel
theorem d_M_init_73 : decode b_M_init 73 = .ok (.iconst (-1), 1) := by decide +kernel
theorem d_M_init_74 : decode b_M_init 74 = .ok (.putfield 35, 3) := by decide +kernel
theorem d_M_init_77 : decode b_M_init 77 = .ok (.aload_n 0, 1) := by decide +kernel
theorem d_M_init_78 : decode b_M_init 78 = .ok (.bipush 8, 2) := by decide +kernel
theorem d_M_init_80 : decode b_M_init 80 = .ok (.newarray .long, 2) := by decide +kernel
theorem d_M_init_82 : decode b_M_init 82 = .ok (.putfield 39, 3) := by decide +kernel
theorem d_M_init_85 : decode b_M_init 85 = .ok (.aload_n 0, 1) := by decide +kernel
theorem d_M_init_86 : decode b_M_init 86 = .ok (.sipush 4096, 3) := by decide +kernel
theorem d_M_init_89 : decode b_M_init 89 = .ok (.newarray .byte, 2) := by decide +kernel
theorem d_M_init_91 : decode b_M_init 91 = .ok (.putfield 42, 3) := by decide +kernel
theorem d_M_init_94 : decode b_M_init 94 = .ok (.aload_n 0, 1) := by decide +kernel
theorem d_M_init_95 : decode b_M_init 95 = .ok (.bipush 8, 2) := by decide +kernel
theorem d_M_init_97 : decode b_M_init 97 = .ok (.newarray .long, 2) := by decide +kernel
theorem d_M_init_99 : decode b_M_init 99 = .ok (.putfield 46, 3) := by decide +kernel
theorem d_M_init_102 : decode b_M_init 102 = .ok (.aload_n 0, 1) := by decide +kernel
theorem d_M_init_103 : decode b_M_init 103 = .ok (.sipush 16384, 3) := by decide +kernel
theorem d_M_init_106 : decode b_M_init 106 = .ok (.newarray .byte, 2) := by decide +kernel
theorem d_M_init_108 : decode b_M_init 108 = .ok (.putfield 49, 3) := by decide +kernel
theorem d_M_init_111 : decode b_M_init 111 = .ok (.aload_n 0, 1) := by decide +kernel
theorem d_M_init_112 : decode b_M_init 112 = .ok (.ldc 52, 2) := by decide +kernel
theorem d_M_init_114 : decode b_M_init 114 = .ok (.newarray .long, 2) := by decide +kernel
theorem d_M_init_116 : decode b_M_init 116 = .ok (.putfield 53, 3) := by decide +kernel
theorem d_M_init_119 : decode b_M_init 119 = .ok (.aload_n 0, 1) := by decide +kernel
theorem d_M_init_120 : decode b_M_init 120 = .ok (.ldc 56, 2) := by decide +kernel
theorem d_M_init_122 : decode b_M_init 122 = .ok (.newarray .long, 2) := by decide +kernel
theorem d_M_init_124 : decode b_M_init 124 = .ok (.putfield 57, 3) := by decide +kernel
theorem d_M_init_127 : decode b_M_init 127 = .ok (.aload_n 0, 1) := by decide +kernel
theorem d_M_init_128 : decode b_M_init 128 = .ok (.bipush 8, 2) := by decide +kernel
theorem d_M_init_130 : decode b_M_init 130 = .ok (.newarray .long, 2) := by decide +kernel
theorem d_M_init_132 : decode b_M_init 132 = .ok (.putfield 60, 3) := by decide +kernel
theorem d_M_init_135 : decode b_M_init 135 = .ok (.aload_n 0, 1) := by decide +kernel
theorem d_M_init_136 : decode b_M_init 136 = .ok (.iconst 4, 1) := by decide +kernel
theorem d_M_init_137 : decode b_M_init 137 = .ok (.newarray .long, 2) := by decide +kernel
theorem d_M_init_139 : decode b_M_init 139 = .ok (.putfield 63, 3) := by decide +kernel
theorem d_M_init_142 : decode b_M_init 142 = .ok (.aload_n 0, 1) := by decide +kernel
theorem d_M_init_143 : decode b_M_init 143 = .ok (.bipush 64, 2) := by decide +kernel
theorem d_M_init_145 : decode b_M_init 145 = .ok (.newarray .long, 2) := by decide +kernel
theorem d_M_init_147 : decode b_M_init 147 = .ok (.putfield 66, 3) := by decide +kernel
theorem d_M_init_150 : decode b_M_init 150 = .ok (.return_, 1) := by decide +kernel
theorem d_M_key_0 : decode b_M_key 0 = .ok (.aload_n 0, 1) := by decide +kernel
theorem d_M_key_1 : decode b_M_key 1 = .ok (.getfield 16, 3) := by decide +kernel
theorem d_M_key_4 : decode b_M_key 4 = .ok (.iconst 0, 1) := by decide +kernel
theorem d_M_key_5 : decode b_M_key 5 = .ok (.lload_n 1, 1) := by decide +kernel
theorem d_M_key_6 : decode b_M_key 6 = .ok (.lastore, 1) := by decide +kernel
theorem d_M_key_7 : decode b_M_key 7 = .ok (.aload_n 0, 1) := by decide +kernel
theorem d_M_key_8 : decode b_M_key 8 = .ok (.getfield 16, 3) := by decide +kernel
theorem d_M_key_11 : decode b_M_key 11 = .ok (.iconst 1, 1) := by decide +kernel
theorem d_M_key_12 : decode b_M_key 12 = .ok (.lload_n 3, 1) := by decide +kernel
theorem d_M_key_13 : decode b_M_key 13 = .ok (.lastore, 1) := by decide +kernel
theorem d_M_key_14 : decode b_M_key 14 = .ok (.aload_n 0, 1) := by decide +kernel
theorem d_M_key_15 : decode b_M_key 15 = .ok (.getfield 16, 3) := by decide +kernel
theorem d_M_key_18 : decode b_M_key 18 = .ok (.iconst 2, 1) := by decide +kernel
theorem d_M_key_19 : decode b_M_key 19 = .ok (.lload 5, 2) := by decide +kernel
theorem d_M_key_21 : decode b_M_key 21 = .ok (.lastore, 1) := by decide +kernel
theorem d_M_key_22 : decode b_M_key 22 = .ok (.aload_n 0, 1) := by decide +kernel
theorem d_M_key_23 : decode b_M_key 23 = .ok (.getfield 16, 3) := by decide +kernel
theorem d_M_key_26 : decode b_M_key 26 = .ok (.iconst 3, 1) := by decide +kernel
theorem d_M_key_27 : decode b_M_key 27 = .ok (.lload 7, 2) := by decide +kernel
theorem d_M_key_29 : decode b_M_key 29 = .ok (.lastore, 1) := by decide +kernel
theorem d_M_key_30 : decode b_M_key 30 = .ok (.return_, 1) := by decide +kernel
theorem d_M_place_0 : decode b_M_place 0 = .ok (.iconst 0, 1) := by decide +kernel
theorem d_M_place_1 : decode b_M_place 1 = .ok (.istore_n 1, 1) := by decide +kernel
theorem d_M_place_2 : decode b_M_place 2 = .ok (.iload_n 1, 1) := by decide +kernel
theorem d_M_place_3 : decode b_M_place 3 = .ok (.aload_n 0, 1) := by decide +kernel
theorem d_M_place_4 : decode b_M_place 4 = .ok (.getfield 106, 3) := by decide +kernel
theorem d_M_place_7 : decode b_M_place 7 = .ok (.if_icmp .ge 27, 3) := by decide +kernel
theorem d_M_place_10 : decode b_M_place 10 = .ok (.aload_n 0, 1) := by decide +kernel
theorem d_M_place_11 : decode b_M_place 11 = .ok (.getfield 7, 3) := by decide +kernel
theorem d_M_place_14 : decode b_M_place 14 = .ok (.iconst 4, 1) := by decide +kernel
theorem d_M_place_15 : decode b_M_place 15 = .ok (.iload_n 1, 1) := by decide +kernel
theorem d_M_place_16 : decode b_M_place 16 = .ok (.imul, 1) := by decide +kernel
theorem d_M_place_17 : decode b_M_place 17 = .ok (.aload_n 0, 1) := by decide +kernel
theorem d_M_place_18 : decode b_M_place 18 = .ok (.getfield 16, 3) := by decide +kernel
theorem d_M_place_21 : decode b_M_place 21 = .ok (.iconst 0, 1) := by decide +kernel
theorem d_M_place_22 : decode b_M_place 22 = .ok (.invokestatic 109, 3) := by decide +kernel
theorem d_M_place_25 : decode b_M_place 25 = .ok (.ifCond .ge 9, 3) := by decide +kernel
theorem d_M_place_28 : decode b_M_place 28 = .ok (.iinc 1 1, 3) := by decide +kernel
theorem d_M_place_31 : decode b_M_place 31 = .ok (.goto (-29), 3) := by decide +kernel
theorem d_M_place_34 : decode b_M_place 34 = .ok (.iload_n 1, 1) := by decide +kernel
theorem d_M_place_35 : decode b_M_place 35 = .ok (.ireturn, 1) := by decide +kernel
theorem d_M_compare_0 : decode b_M_compare 0 = .ok (.iconst 0, 1) := by decide +kernel
theorem d_M_compare_1 : decode b_M_compare 1 = .ok (.istore 4, 2) := by decide +kernel
theorem d_M_compare_3 : decode b_M_compare 3 = .ok (.iload 4, 2) := by decide +kernel
theorem d_M_compare_5 : decode b_M_compare 5 = .ok (.iconst 4, 1) := by decide +kernel
theorem d_M_compare_6 : decode b_M_compare 6 = .ok (.if_icmp .ge 58, 3) := by decide +kernel
theorem d_M_compare_9 : decode b_M_compare 9 = .ok (.aload_n 0, 1) := by decide +kernel
theorem d_M_compare_10 : decode b_M_compare 10 = .ok (.iload_n 1, 1) := by decide +kernel
theorem d_M_compare_11 : decode b_M_compare 11 = .ok (.iload 4, 2) := by decide +kernel
theorem d_M_compare_13 : decode b_M_compare 13 = .ok (.iadd, 1) := by decide +kernel
theorem d_M_compare_14 : decode b_M_compare 14 = .ok (.laload, 1) := by decide +kernel
theorem d_M_compare_15 : decode b_M_compare 15 = .ok (.aload_n 2, 1) := by decide +kernel
theorem d_M_compare_16 : decode b_M_compare 16 = .ok (.iload_n 3, 1) := by decide +kernel
theorem d_M_compare_17 : decode b_M_compare 17 = .ok (.iload 4, 2) := by decide +kernel
theorem d_M_compare_19 : decode b_M_compare 19 = .ok (.iadd, 1) := by decide +kernel
theorem d_M_compare_20 : decode b_M_compare 20 = .ok (.laload, 1) := by decide +kernel
theorem d_M_compare_21 : decode b_M_compare 21 = .ok (.lcmp, 1) := by decide +kernel
theorem d_M_compare_22 : decode b_M_compare 22 = .ok (.ifCond .ne 6, 3) := by decide +kernel
theorem d_M_compare_25 : decode b_M_compare 25 = .ok (.goto 33, 3) := by decide +kernel
theorem d_M_compare_28 : decode b_M_compare 28 = .ok (.aload_n 0, 1) := by decide +kernel
theorem d_M_compare_29 : decode b_M_compare 29 = .ok (.iload_n 1, 1) := by decide +kernel
theorem d_M_compare_30 : decode b_M_compare 30 = .ok (.iload 4, 2) := by decide +kernel
theorem d_M_compare_32 : decode b_M_compare 32 = .ok (.iadd, 1) := by decide +kernel
theorem d_M_compare_33 : decode b_M_compare 33 = .ok (.laload, 1) := by decide +kernel
theorem d_M_compare_34 : decode b_M_compare 34 = .ok (.ldc2_w 104, 3) := by decide +kernel
theorem d_M_compare_37 : decode b_M_compare 37 = .ok (.ladd, 1) := by decide +kernel
theorem d_M_compare_38 : decode b_M_compare 38 = .ok (.aload_n 2, 1) := by decide +kernel
theorem d_M_compare_39 : decode b_M_compare 39 = .ok (.iload_n 3, 1) := by decide +kernel
theorem d_M_compare_40 : decode b_M_compare 40 = .ok (.iload 4, 2) := by decide +kernel
theorem d_M_compare_42 : decode b_M_compare 42 = .ok (.iadd, 1) := by decide +kernel
theorem d_M_compare_43 : decode b_M_compare 43 = .ok (.laload, 1) := by decide +kernel
theorem d_M_compare_44 : decode b_M_compare 44 = .ok (.ldc2_w 104, 3) := by decide +kernel
theorem d_M_compare_47 : decode b_M_compare 47 = .ok (.ladd, 1) := by decide +kernel
theorem d_M_compare_48 : decode b_M_compare 48 = .ok (.lcmp, 1) := by decide +kernel
theorem d_M_compare_49 : decode b_M_compare 49 = .ok (.ifCond .ge 7, 3) := by decide +kernel
theorem d_M_compare_52 : decode b_M_compare 52 = .ok (.iconst (-1), 1) := by decide +kernel
theorem d_M_compare_53 : decode b_M_compare 53 = .ok (.goto 4, 3) := by decide +kernel
theorem d_M_compare_56 : decode b_M_compare 56 = .ok (.iconst 1, 1) := by decide +kernel
theorem d_M_compare_57 : decode b_M_compare 57 = .ok (.ireturn, 1) := by decide +kernel
theorem d_M_compare_58 : decode b_M_compare 58 = .ok (.iinc 4 1, 3) := by decide +kernel
theorem d_M_compare_61 : decode b_M_compare 61 = .ok (.goto (-58), 3) := by decide +kernel
theorem d_M_compare_64 : decode b_M_compare 64 = .ok (.iconst 0, 1) := by decide +kernel
theorem d_M_compare_65 : decode b_M_compare 65 = .ok (.ireturn, 1) := by decide +kernel
theorem d_M_isAt_0 : decode b_M_isAt 0 = .ok (.iload_n 1, 1) := by decide +kernel
theorem d_M_isAt_1 : decode b_M_isAt 1 = .ok (.aload_n 0, 1) := by decide +kernel
theorem d_M_isAt_2 : decode b_M_isAt 2 = .ok (.getfield 106, 3) := by decide +kernel
theorem d_M_isAt_5 : decode b_M_isAt 5 = .ok (.if_icmp .ge 25, 3) := by decide +kernel
theorem d_M_isAt_8 : decode b_M_isAt 8 = .ok (.aload_n 0, 1) := by decide +kernel
theorem d_M_isAt_9 : decode b_M_isAt 9 = .ok (.getfield 7, 3) := by decide +kernel
theorem d_M_isAt_12 : decode b_M_isAt 12 = .ok (.iconst 4, 1) := by decide +kernel
theorem d_M_isAt_13 : decode b_M_isAt 13 = .ok (.iload_n 1, 1) := by decide +kernel
theorem d_M_isAt_14 : decode b_M_isAt 14 = .ok (.imul, 1) := by decide +kernel
theorem d_M_isAt_15 : decode b_M_isAt 15 = .ok (.aload_n 0, 1) := by decide +kernel
theorem d_M_isAt_16 : decode b_M_isAt 16 = .ok (.getfield 16, 3) := by decide +kernel
theorem d_M_isAt_19 : decode b_M_isAt 19 = .ok (.iconst 0, 1) := by decide +kernel
theorem d_M_isAt_20 : decode b_M_isAt 20 = .ok (.invokestatic 109, 3) := by decide +kernel
theorem d_M_isAt_23 : decode b_M_isAt 23 = .ok (.ifCond .ne 7, 3) := by decide +kernel
theorem d_M_isAt_26 : decode b_M_isAt 26 = .ok (.iconst 1, 1) := by decide +kernel
theorem d_M_isAt_27 : decode b_M_isAt 27 = .ok (.goto 4, 3) := by decide +kernel
theorem d_M_isAt_30 : decode b_M_isAt 30 = .ok (.iconst 0, 1) := by decide +kernel
theorem d_M_isAt_31 : decode b_M_isAt 31 = .ok (.ireturn, 1) := by decide +kernel
theorem d_M_remove_0 : decode b_M_remove 0 = .ok (.aload_n 0, 1) := by decide +kernel
theorem d_M_remove_1 : decode b_M_remove 1 = .ok (.invokevirtual 162, 3) := by decide +kernel
theorem d_M_remove_4 : decode b_M_remove 4 = .ok (.istore_n 1, 1) := by decide +kernel
theorem d_M_remove_5 : decode b_M_remove 5 = .ok (.aload_n 0, 1) := by decide +kernel
theorem d_M_remove_6 : decode b_M_remove 6 = .ok (.iload_n 1, 1) := by decide +kernel
theorem d_M_remove_7 : decode b_M_remove 7 = .ok (.invokevirtual 166, 3) := by decide +kernel
theorem d_M_remove_10 : decode b_M_remove 10 = .ok (.ifCond .ne 6, 3) := by decide +kernel
theorem d_M_remove_13 : decode b_M_remove 13 = .ok (.bipush (-2), 2) := by decide +kernel
theorem d_M_remove_15 : decode b_M_remove 15 = .ok (.ireturn, 1) := by decide +kernel
theorem d_M_remove_16 : decode b_M_remove 16 = .ok (.aload_n 0, 1) := by decide +kernel
theorem d_M_remove_17 : decode b_M_remove 17 = .ok (.dup, 1) := by decide +kernel
theorem d_M_remove_18 : decode b_M_remove 18 = .ok (.getfield 106, 3) := by decide +kernel
theorem d_M_remove_21 : decode b_M_remove 21 = .ok (.iconst 1, 1) := by decide +kernel
theorem d_M_remove_22 : decode b_M_remove 22 = .ok (.isub, 1) := by decide +kernel
theorem d_M_remove_23 : decode b_M_remove 23 = .ok (.putfield 106, 3) := by decide +kernel
theorem d_M_remove_26 : decode b_M_remove 26 = .ok (.iconst 4, 1) := by decide +kernel
theorem d_M_remove_27 : decode b_M_remove 27 = .ok (.iload_n 1, 1) := by decide +kernel
theorem d_M_remove_28 : decode b_M_remove 28 = .ok (.imul, 1) := by decide +kernel
theorem d_M_remove_29 : decode b_M_remove 29 = .ok (.istore_n 2, 1) := by decide +kernel
theorem d_M_remove_30 : decode b_M_remove 30 = .ok (.iload_n 2, 1) := by decide +kernel
theorem d_M_remove_31 : decode b_M_remove 31 = .ok (.iconst 4, 1) := by decide +kernel
theorem d_M_remove_32 : decode b_M_remove 32 = .ok (.aload_n 0, 1) := by decide +kernel
theorem d_M_remove_33 : decode b_M_remove 33 = .ok (.getfield 106, 3) := by decide +kernel
theorem d_M_remove_36 : decode b_M_remove 36 = .ok (.imul, 1) := by decide +kernel
theorem d_M_remove_37 : decode b_M_remove 37 = .ok (.if_icmp .ge 37, 3) := by decide +kernel
theorem d_M_remove_40 : decode b_M_remove 40 = .ok (.aload_n 0, 1) := by decide +kernel
theorem d_M_remove_41 : decode b_M_remove 41 = .ok (.getfield 7, 3) := by decide +kernel
theorem d_M_remove_44 : decode b_M_remove 44 = .ok (.iload_n 2, 1) := by decide +kernel
theorem d_M_remove_45 : decode b_M_remove 45 = .ok (.aload_n 0, 1) := by decide +kernel
theorem d_M_remove_46 : decode b_M_remove 46 = .ok (.getfield 7, 3) := by decide +kernel
theorem d_M_remove_49 : decode b_M_remove 49 = .ok (.iload_n 2, 1) := by decide +kernel
theorem d_M_remove_50 : decode b_M_remove 50 = .ok (.iconst 4, 1) := by decide +kernel
theorem d_M_remove_51 : decode b_M_remove 51 = .ok (.iadd, 1) := by decide +kernel
theorem d_M_remove_52 : decode b_M_remove 52 = .ok (.laload, 1) := by decide +kernel
theorem d_M_remove_53 : decode b_M_remove 53 = .ok (.lastore, 1) := by decide +kernel
theorem d_M_remove_54 : decode b_M_remove 54 = .ok (.aload_n 0, 1) := by decide +kernel
theorem d_M_remove_55 : decode b_M_remove 55 = .ok (.getfield 13, 3) := by decide +kernel
theorem d_M_remove_58 : decode b_M_remove 58 = .ok (.iload_n 2, 1) := by decide +kernel
theorem d_M_remove_59 : decode b_M_remove 59 = .ok (.aload_n 0, 1) := by decide +kernel
theorem d_M_remove_60 : decode b_M_remove 60 = .ok (.getfield 13, 3) := by decide +kernel
theorem d_M_remove_63 : decode b_M_remove 63 = .ok (.iload_n 2, 1) := by decide +kernel
theorem d_M_remove_64 : decode b_M_remove 64 = .ok (.iconst 4, 1) := by decide +kernel
theorem d_M_remove_65 : decode b_M_remove 65 = .ok (.iadd, 1) := by decide +kernel
theorem d_M_remove_66 : decode b_M_remove 66 = .ok (.laload, 1) := by decide +kernel
theorem d_M_remove_67 : decode b_M_remove 67 = .ok (.lastore, 1) := by decide +kernel
theorem d_M_remove_68 : decode b_M_remove 68 = .ok (.iinc 2 1, 3) := by decide +kernel
theorem d_M_remove_71 : decode b_M_remove 71 = .ok (.goto (-41), 3) := by decide +kernel
theorem d_M_remove_74 : decode b_M_remove 74 = .ok (.aload_n 0, 1) := by decide +kernel
theorem d_M_remove_75 : decode b_M_remove 75 = .ok (.iconst 0, 1) := by decide +kernel
theorem d_M_remove_76 : decode b_M_remove 76 = .ok (.putfield 170, 3) := by decide +kernel
theorem d_M_remove_79 : decode b_M_remove 79 = .ok (.iconst 1, 1) := by decide +kernel
theorem d_M_remove_80 : decode b_M_remove 80 = .ok (.ireturn, 1) := by decide +kernel
theorem d_M_has_0 : decode b_M_has 0 = .ok (.aload_n 0, 1) := by decide +kernel
theorem d_M_has_1 : decode b_M_has 1 = .ok (.aload_n 0, 1) := by decide +kernel
theorem d_M_has_2 : decode b_M_has 2 = .ok (.invokevirtual 162, 3) := by decide +kernel
theorem d_M_has_5 : decode b_M_has 5 = .ok (.invokevirtual 166, 3) := by decide +kernel
theorem d_M_has_8 : decode b_M_has 8 = .ok (.ireturn, 1) := by decide +kernel
theorem d_M_value_0 : decode b_M_value 0 = .ok (.aload_n 0, 1) := by decide +kernel
theorem d_M_value_1 : decode b_M_value 1 = .ok (.invokevirtual 162, 3) := by decide +kernel
theorem d_M_value_4 : decode b_M_value 4 = .ok (.istore_n 2, 1) := by decide +kernel
theorem d_M_value_5 : decode b_M_value 5 = .ok (.iload_n 1, 1) := by decide +kernel
theorem d_M_value_6 : decode b_M_value 6 = .ok (.invokestatic 174, 3) := by decide +kernel
theorem d_M_value_9 : decode b_M_value 9 = .ok (.ifCond .eq 24, 3) := by decide +kernel
theorem d_M_value_12 : decode b_M_value 12 = .ok (.aload_n 0, 1) := by decide +kernel
theorem d_M_value_13 : decode b_M_value 13 = .ok (.iload_n 2, 1) := by decide +kernel
theorem d_M_value_14 : decode b_M_value 14 = .ok (.invokevirtual 166, 3) := by decide +kernel
theorem d_M_value_17 : decode b_M_value 17 = .ok (.ifCond .eq 16, 3) := by decide +kernel
theorem d_M_value_20 : decode b_M_value 20 = .ok (.aload_n 0, 1) := by decide +kernel
theorem d_M_value_21 : decode b_M_value 21 = .ok (.getfield 13, 3) := by decide +kernel
theorem d_M_value_24 : decode b_M_value 24 = .ok (.iconst 4, 1) := by decide +kernel
theorem d_M_value_25 : decode b_M_value 25 = .ok (.iload_n 2, 1) := by decide +kernel
theorem d_M_value_26 : decode b_M_value 26 = .ok (.imul, 1) := by decide +kernel
theorem d_M_value_27 : decode b_M_value 27 = .ok (.iload_n 1, 1) := by decide +kernel
theorem d_M_value_28 : decode b_M_value 28 = .ok (.iadd, 1) := by decide +kernel
theorem d_M_value_29 : decode b_M_value 29 = .ok (.laload, 1) := by decide +kernel
theorem d_M_value_30 : decode b_M_value 30 = .ok (.goto 4, 3) := by decide +kernel
theorem d_M_value_33 : decode b_M_value 33 = .ok (.lconst 0, 1) := by decide +kernel
theorem d_M_value_34 : decode b_M_value 34 = .ok (.lreturn, 1) := by decide +kernel
theorem d_M_isNumber_0 : decode b_M_isNumber 0 = .ok (.iload_n 0, 1) := by decide +kernel
theorem d_M_isNumber_1 : decode b_M_isNumber 1 = .ok (.ifCond .lt 12, 3) := by decide +kernel
theorem d_M_isNumber_4 : decode b_M_isNumber 4 = .ok (.iload_n 0, 1) := by decide +kernel
theorem d_M_isNumber_5 : decode b_M_isNumber 5 = .ok (.iconst 4, 1) := by decide +kernel
theorem d_M_isNumber_6 : decode b_M_isNumber 6 = .ok (.if_icmp .ge 7, 3) := by decide +kernel
theorem d_M_isNumber_9 : decode b_M_isNumber 9 = .ok (.iconst 1, 1) := by decide +kernel
theorem d_M_isNumber_10 : decode b_M_isNumber 10 = .ok (.goto 4, 3) := by decide +kernel
theorem d_M_isNumber_13 : decode b_M_isNumber 13 = .ok (.iconst 0, 1) := by decide +kernel
theorem d_M_isNumber_14 : decode b_M_isNumber 14 = .ok (.ireturn, 1) := by decide +kernel
theorem d_M_count_0 : decode b_M_count 0 = .ok (.aload_n 0, 1) := by decide +kernel
theorem d_M_count_1 : decode b_M_count 1 = .ok (.getfield 106, 3) := by decide +kernel
theorem d_M_count_4 : decode b_M_count 4 = .ok (.ireturn, 1) := by decide +kernel
theorem d_M_root_0 : decode b_M_root 0 = .ok (.iload_n 1, 1) := by decide +kernel
theorem d_M_root_1 : decode b_M_root 1 = .ok (.invokestatic 174, 3) := by decide +kernel
theorem d_M_root_4 : decode b_M_root 4 = .ok (.ifCond .ne 5, 3) := by decide +kernel
theorem d_M_root_7 : decode b_M_root 7 = .ok (.lconst 0, 1) := by decide +kernel
theorem d_M_root_8 : decode b_M_root 8 = .ok (.lreturn, 1) := by decide +kernel
theorem d_M_root_9 : decode b_M_root 9 = .ok (.aload_n 0, 1) := by decide +kernel
theorem d_M_root_10 : decode b_M_root 10 = .ok (.getfield 170, 3) := by decide +kernel
theorem d_M_root_13 : decode b_M_root 13 = .ok (.ifCond .ne 54, 3) := by decide +kernel
theorem d_M_root_16 : decode b_M_root 16 = .ok (.aload_n 0, 1) := by decide +kernel
theorem d_M_root_17 : decode b_M_root 17 = .ok (.iconst 0, 1) := by decide +kernel
theorem d_M_root_18 : decode b_M_root 18 = .ok (.aload_n 0, 1) := by decide +kernel
theorem d_M_root_19 : decode b_M_root 19 = .ok (.getfield 106, 3) := by decide +kernel
theorem d_M_root_22 : decode b_M_root 22 = .ok (.iconst 0, 1) := by decide +kernel
theorem d_M_root_23 : decode b_M_root 23 = .ok (.invokevirtual 177, 3) := by decide +kernel
theorem d_M_root_26 : decode b_M_root 26 = .ok (.iconst 0, 1) := by decide +kernel
theorem d_M_root_27 : decode b_M_root 27 = .ok (.istore_n 2, 1) := by decide +kernel
theorem d_M_root_28 : decode b_M_root 28 = .ok (.iload_n 2, 1) := by decide +kernel
theorem d_M_root_29 : decode b_M_root 29 = .ok (.iconst 4, 1) := by decide +kernel
theorem d_M_root_30 : decode b_M_root 30 = .ok (.if_icmp .ge 32, 3) := by decide +kernel
theorem d_M_root_33 : decode b_M_root 33 = .ok (.aload_n 0, 1) := by decide +kernel
theorem d_M_root_34 : decode b_M_root 34 = .ok (.getfield 29, 3) := by decide +kernel
theorem d_M_root_37 : decode b_M_root 37 = .ok (.iload_n 2, 1) := by decide +kernel
theorem d_M_root_38 : decode b_M_root 38 = .ok (.aload_n 0, 1) := by decide +kernel
theorem d_M_root_39 : decode b_M_root 39 = .ok (.getfield 106, 3) := by decide +kernel
theorem d_M_root_42 : decode b_M_root 42 = .ok (.ifCond .ne 7, 3) := by decide +kernel
theorem d_M_root_45 : decode b_M_root 45 = .ok (.lconst 0, 1) := by decide +kernel
theorem d_M_root_46 : decode b_M_root 46 = .ok (.goto 9, 3) := by decide +kernel
theorem d_M_root_49 : decode b_M_root 49 = .ok (.aload_n 0, 1) := by decide +kernel
theorem d_M_root_50 : decode b_M_root 50 = .ok (.getfield 26, 3) := by decide +kernel
theorem d_M_root_53 : decode b_M_root 53 = .ok (.iload_n 2, 1) := by decide +kernel
theorem d_M_root_54 : decode b_M_root 54 = .ok (.laload, 1) := by decide +kernel
theorem d_M_root_55 : decode b_M_root 55 = .ok (.lastore, 1) := by decide +kernel
theorem d_M_root_56 : decode b_M_root 56 = .ok (.iinc 2 1, 3) := by decide +kernel
theorem d_M_root_59 : decode b_M_root 59 = .ok (.goto (-31), 3) := by decide +kernel
theorem d_M_root_62 : decode b_M_root 62 = .ok (.aload_n 0, 1) := by decide +kernel
theorem d_M_root_63 : decode b_M_root 63 = .ok (.iconst 1, 1) := by decide +kernel
theorem d_M_root_64 : decode b_M_root 64 = .ok (.putfield 170, 3) := by decide +kernel
theorem d_M_root_67 : decode b_M_root 67 = .ok (.aload_n 0, 1) := by decide +kernel
theorem d_M_root_68 : decode b_M_root 68 = .ok (.getfield 29, 3) := by decide +kernel
theorem d_M_root_71 : decode b_M_root 71 = .ok (.iload_n 1, 1) := by decide +kernel
theorem d_M_root_72 : decode b_M_root 72 = .ok (.laload, 1) := by decide +kernel
theorem d_M_root_73 : decode b_M_root 73 = .ok (.lreturn, 1) := by decide +kernel
theorem d_M_hash_0 : decode b_M_hash 0 = .ok (.aload_n 0, 1) := by decide +kernel
theorem d_M_hash_1 : decode b_M_hash 1 = .ok (.iload_n 2, 1) := by decide +kernel
theorem d_M_hash_2 : decode b_M_hash 2 = .ok (.iload_n 1, 1) := by decide +kernel
theorem d_M_hash_3 : decode b_M_hash 3 = .ok (.isub, 1) := by decide +kernel
theorem d_M_hash_4 : decode b_M_hash 4 = .ok (.putfield 140, 3) := by decide +kernel
theorem d_M_hash_7 : decode b_M_hash 7 = .ok (.iconst 0, 1) := by decide +kernel
theorem d_M_hash_8 : decode b_M_hash 8 = .ok (.istore 4, 2) := by decide +kernel
theorem d_M_hash_10 : decode b_M_hash 10 = .ok (.iload 4, 2) := by decide +kernel
theorem d_M_hash_12 : decode b_M_hash 12 = .ok (.aload_n 0, 1) := by decide +kernel
theorem d_M_hash_13 : decode b_M_hash 13 = .ok (.getfield 140, 3) := by decide +kernel
theorem d_M_hash_16 : decode b_M_hash 16 = .ok (.if_icmp .ge 38, 3) := by decide +kernel
theorem d_M_hash_19 : decode b_M_hash 19 = .ok (.aload_n 0, 1) := by decide +kernel
theorem d_M_hash_20 : decode b_M_hash 20 = .ok (.getfield 19, 3) := by decide +kernel
theorem d_M_hash_23 : decode b_M_hash 23 = .ok (.iload 4, 2) := by decide +kernel
theorem d_M_hash_25 : decode b_M_hash 25 = .ok (.iload_n 1, 1) := by decide +kernel
theorem d_M_hash_26 : decode b_M_hash 26 = .ok (.iload 4, 2) := by decide +kernel
theorem d_M_hash_28 : decode b_M_hash 28 = .ok (.iadd, 1) := by decide +kernel
theorem d_M_hash_29 : decode b_M_hash 29 = .ok (.iastore, 1) := by decide +kernel
theorem d_M_hash_30 : decode b_M_hash 30 = .ok (.aload_n 0, 1) := by decide +kernel
theorem d_M_hash_31 : decode b_M_hash 31 = .ok (.getfield 23, 3) := by decide +kernel
theorem d_M_hash_34 : decode b_M_hash 34 = .ok (.iload 4, 2) := by decide +kernel
theorem d_M_hash_36 : decode b_M_hash 36 = .ok (.iconst 1, 1) := by decide +kernel
theorem d_M_hash_37 : decode b_M_hash 37 = .ok (.iastore, 1) := by decide +kernel
theorem d_M_hash_38 : decode b_M_hash 38 = .ok (.aload_n 0, 1) := by decide +kernel
theorem d_M_hash_39 : decode b_M_hash 39 = .ok (.iload 4, 2) := by decide +kernel
theorem d_M_hash_41 : decode b_M_hash 41 = .ok (.iload_n 1, 1) := by decide +kernel
theorem d_M_hash_42 : decode b_M_hash 42 = .ok (.iload 4, 2) := by decide +kernel
theorem d_M_hash_44 : decode b_M_hash 44 = .ok (.iadd, 1) := by decide +kernel
theorem d_M_hash_45 : decode b_M_hash 45 = .ok (.invokevirtual 143, 3) := by decide +kernel
theorem d_M_hash_48 : decode b_M_hash 48 = .ok (.iinc 4 1, 3) := by decide +kernel
theorem d_M_hash_51 : decode b_M_hash 51 = .ok (.goto (-41), 3) := by decide +kernel
theorem d_M_hash_54 : decode b_M_hash 54 = .ok (.sipush 255, 3) := by decide +kernel
theorem d_M_hash_57 : decode b_M_hash 57 = .ok (.istore 4, 2) := by decide +kernel
theorem d_M_hash_59 : decode b_M_hash 59 = .ok (.iload 4, 2) := by decide +kernel
theorem d_M_hash_61 : decode b_M_hash 61 = .ok (.iload_n 3, 1) := by decide +kernel
theorem d_M_hash_62 : decode b_M_hash 62 = .ok (.if_icmp .lt 15, 3) := by decide +kernel
theorem d_M_hash_65 : decode b_M_hash 65 = .ok (.aload_n 0, 1) := by decide +kernel
theorem d_M_hash_66 : decode b_M_hash 66 = .ok (.iload 4, 2) := by decide +kernel
theorem d_M_hash_68 : decode b_M_hash 68 = .ok (.invokevirtual 147, 3) := by decide +kernel
theorem d_M_hash_71 : decode b_M_hash 71 = .ok (.iinc 4 (-1), 3) := by decide +kernel
theorem d_M_hash_74 : decode b_M_hash 74 = .ok (.goto (-15), 3) := by decide +kernel
theorem d_M_hash_77 : decode b_M_hash 77 = .ok (.return_, 1) := by decide +kernel
theorem d_M_leaf_0 : decode b_M_leaf 0 = .ok (.aload_n 0, 1) := by decide +kernel
theorem d_M_leaf_1 : decode b_M_leaf 1 = .ok (.iconst 0, 1) := by decide +kernel
theorem d_M_leaf_2 : decode b_M_leaf 2 = .ok (.aload_n 0, 1) := by decide +kernel
theorem d_M_leaf_3 : decode b_M_leaf 3 = .ok (.getfield 7, 3) := by decide +kernel
theorem d_M_leaf_6 : decode b_M_leaf 6 = .ok (.iconst 4, 1) := by decide +kernel
theorem d_M_leaf_7 : decode b_M_leaf 7 = .ok (.iload_n 2, 1) := by decide +kernel
theorem d_M_leaf_8 : decode b_M_leaf 8 = .ok (.imul, 1) := by decide +kernel
theorem d_M_leaf_9 : decode b_M_leaf 9 = .ok (.aload_n 0, 1) := by decide +kernel
theorem d_M_leaf_10 : decode b_M_leaf 10 = .ok (.getfield 13, 3) := by decide +kernel
theorem d_M_leaf_13 : decode b_M_leaf 13 = .ok (.iconst 4, 1) := by decide +kernel
theorem d_M_leaf_14 : decode b_M_leaf 14 = .ok (.iload_n 2, 1) := by decide +kernel
theorem d_M_leaf_15 : decode b_M_leaf 15 = .ok (.imul, 1) := by decide +kernel
theorem d_M_leaf_16 : decode b_M_leaf 16 = .ok (.invokevirtual 136, 3) := by decide +kernel
theorem d_M_leaf_19 : decode b_M_leaf 19 = .ok (.iconst 0, 1) := by decide +kernel
theorem d_M_leaf_20 : decode b_M_leaf 20 = .ok (.istore_n 3, 1) := by decide +kernel
theorem d_M_leaf_21 : decode b_M_leaf 21 = .ok (.iload_n 3, 1) := by decide +kernel
theorem d_M_leaf_22 : decode b_M_leaf 22 = .ok (.iconst 4, 1) := by decide +kernel
theorem d_M_leaf_23 : decode b_M_leaf 23 = .ok (.if_icmp .ge 25, 3) := by decide +kernel
theorem d_M_leaf_26 : decode b_M_leaf 26 = .ok (.aload_n 0, 1) := by decide +kernel
theorem d_M_leaf_27 : decode b_M_leaf 27 = .ok (.getfield 26, 3) := by decide +kernel
theorem d_M_leaf_30 : decode b_M_leaf 30 = .ok (.iconst 4, 1) := by decide +kernel
theorem d_M_leaf_31 : decode b_M_leaf 31 = .ok (.iload_n 1, 1) := by decide +kernel
theorem d_M_leaf_32 : decode b_M_leaf 32 = .ok (.imul, 1) := by decide +kernel
theorem d_M_leaf_33 : decode b_M_leaf 33 = .ok (.iload_n 3, 1) := by decide +kernel
theorem d_M_leaf_34 : decode b_M_leaf 34 = .ok (.iadd, 1) := by decide +kernel
theorem d_M_leaf_35 : decode b_M_leaf 35 = .ok (.aload_n 0, 1) := by decide +kernel
theorem d_M_leaf_36 : decode b_M_leaf 36 = .ok (.getfield 63, 3) := by decide +kernel
theorem d_M_leaf_39 : decode b_M_leaf 39 = .ok (.iload_n 3, 1) := by decide +kernel
theorem d_M_leaf_40 : decode b_M_leaf 40 = .ok (.laload, 1) := by decide +kernel
theorem d_M_leaf_41 : decode b_M_leaf 41 = .ok (.lastore, 1) := by decide +kernel
theorem d_M_leaf_42 : decode b_M_leaf 42 = .ok (.iinc 3 1, 3) := by decide +kernel
theorem d_M_leaf_45 : decode b_M_leaf 45 = .ok (.goto (-24), 3) := by decide +kernel
theorem d_M_leaf_48 : decode b_M_leaf 48 = .ok (.return_, 1) := by decide +kernel
theorem d_M_put_0 : decode b_M_put 0 = .ok (.iconst 0, 1) := by decide +kernel
theorem d_M_put_1 : decode b_M_put 1 = .ok (.istore 4, 2) := by decide +kernel
theorem d_M_put_3 : decode b_M_put 3 = .ok (.iload 4, 2) := by decide +kernel
theorem d_M_put_5 : decode b_M_put 5 = .ok (.bipush 32, 2) := by decide +kernel
theorem d_M_put_7 : decode b_M_put 7 = .ok (.if_icmp .ge 41, 3) := by decide +kernel
theorem d_M_put_10 : decode b_M_put 10 = .ok (.aload_n 0, 1) := by decide +kernel
theorem d_M_put_11 : decode b_M_put 11 = .ok (.getfield 42, 3) := by decide +kernel
theorem d_M_put_14 : decode b_M_put 14 = .ok (.iload_n 1, 1) := by decide +kernel
theorem d_M_put_15 : decode b_M_put 15 = .ok (.iload 4, 2) := by decide +kernel
theorem d_M_put_17 : decode b_M_put 17 = .ok (.iadd, 1) := by decide +kernel
theorem d_M_put_18 : decode b_M_put 18 = .ok (.aload_n 2, 1) := by decide +kernel
theorem d_M_put_19 : decode b_M_put 19 = .ok (.iload_n 3, 1) := by decide +kernel
theorem d_M_put_20 : decode b_M_put 20 = .ok (.iload 4, 2) := by decide +kernel
theorem d_M_put_22 : decode b_M_put 22 = .ok (.bipush 8, 2) := by decide +kernel
theorem d_M_put_24 : decode b_M_put 24 = .ok (.idiv, 1) := by decide +kernel
theorem d_M_put_25 : decode b_M_put 25 = .ok (.iadd, 1) := by decide +kernel
theorem d_M_put_26 : decode b_M_put 26 = .ok (.laload, 1) := by decide +kernel
theorem d_M_put_27 : decode b_M_put 27 = .ok (.bipush 56, 2) := by decide +kernel
theorem d_M_put_29 : decode b_M_put 29 = .ok (.bipush 8, 2) := by decide +kernel
theorem d_M_put_31 : decode b_M_put 31 = .ok (.iload 4, 2) := by decide +kernel
theorem d_M_put_33 : decode b_M_put 33 = .ok (.bipush 8, 2) := by decide +kernel
theorem d_M_put_35 : decode b_M_put 35 = .ok (.irem, 1) := by decide +kernel
theorem d_M_put_36 : decode b_M_put 36 = .ok (.imul, 1) := by decide +kernel
theorem d_M_put_37 : decode b_M_put 37 = .ok (.isub, 1) := by decide +kernel
theorem d_M_put_38 : decode b_M_put 38 = .ok (.lshr, 1) := by decide +kernel
theorem d_M_put_39 : decode b_M_put 39 = .ok (.l2i, 1) := by decide +kernel
theorem d_M_put_40 : decode b_M_put 40 = .ok (.i2b, 1) := by decide +kernel
theorem d_M_put_41 : decode b_M_put 41 = .ok (.bastore, 1) := by decide +kernel
theorem d_M_put_42 : decode b_M_put 42 = .ok (.iinc 4 1, 3) := by decide +kernel
theorem d_M_put_45 : decode b_M_put 45 = .ok (.goto (-42), 3) := by decide +kernel
theorem d_M_put_48 : decode b_M_put 48 = .ok (.return_, 1) := by decide +kernel
theorem d_M_digestOf_0 : decode b_M_digestOf 0 = .ok (.aload_n 0, 1) := by decide +kernel
theorem d_M_digestOf_1 : decode b_M_digestOf 1 = .ok (.getfield 46, 3) := by decide +kernel
theorem d_M_digestOf_4 : decode b_M_digestOf 4 = .ok (.iconst 0, 1) := by decide +kernel
theorem d_M_digestOf_5 : decode b_M_digestOf 5 = .ok (.ldc2_w 71, 3) := by decide +kernel
theorem d_M_digestOf_8 : decode b_M_digestOf 8 = .ok (.lastore, 1) := by decide +kernel
theorem d_M_digestOf_9 : decode b_M_digestOf 9 = .ok (.aload_n 0, 1) := by decide +kernel
theorem d_M_digestOf_10 : decode b_M_digestOf 10 = .ok (.getfield 46, 3) := by decide +kernel
theorem d_M_digestOf_13 : decode b_M_digestOf 13 = .ok (.iconst 1, 1) := by decide +kernel
theorem d_M_digestOf_14 : decode b_M_digestOf 14 = .ok (.ldc2_w 73, 3) := by decide +kernel
theorem d_M_digestOf_17 : decode b_M_digestOf 17 = .ok (.lastore, 1) := by decide +kernel
theorem d_M_digestOf_18 : decode b_M_digestOf 18 = .ok (.aload_n 0, 1) := by decide +kernel
theorem d_M_digestOf_19 : decode b_M_digestOf 19 = .ok (.getfield 46, 3) := by decide +kernel
theorem d_M_digestOf_22 : decode b_M_digestOf 22 = .ok (.iconst 2, 1) := by decide +kernel
theorem d_M_digestOf_23 : decode b_M_digestOf 23 = .ok (.ldc2_w 75, 3) := by decide +kernel
theorem d_M_digestOf_26 : decode b_M_digestOf 26 = .ok (.lastore, 1) := by decide +kernel
theorem d_M_digestOf_27 : decode b_M_digestOf 27 = .ok (.aload_n 0, 1) := by decide +kernel
theorem d_M_digestOf_28 : decode b_M_digestOf 28 = .ok (.getfield 46, 3) := by decide +kernel
theorem d_M_digestOf_31 : decode b_M_digestOf 31 = .ok (.iconst 3, 1) := by decide +kernel
theorem d_M_digestOf_32 : decode b_M_digestOf 32 = .ok (.ldc2_w 77, 3) := by decide +kernel
theorem d_M_digestOf_35 : decode b_M_digestOf 35 = .ok (.lastore, 1) := by decide +kernel
theorem d_M_digestOf_36 : decode b_M_digestOf 36 = .ok (.aload_n 0, 1) := by decide +kernel
theorem d_M_digestOf_37 : decode b_M_digestOf 37 = .ok (.getfield 46, 3) := by decide +kernel
theorem d_M_digestOf_40 : decode b_M_digestOf 40 = .ok (.iconst 4, 1) := by decide +kernel
theorem d_M_digestOf_41 : decode b_M_digestOf 41 = .ok (.ldc2_w 79, 3) := by decide +kernel
theorem d_M_digestOf_44 : decode b_M_digestOf 44 = .ok (.lastore, 1) := by decide +kernel
theorem d_M_digestOf_45 : decode b_M_digestOf 45 = .ok (.aload_n 0, 1) := by decide +kernel
theorem d_M_digestOf_46 : decode b_M_digestOf 46 = .ok (.getfield 46, 3) := by decide +kernel
theorem d_M_digestOf_49 : decode b_M_digestOf 49 = .ok (.iconst 5, 1) := by decide +kernel
theorem d_M_digestOf_50 : decode b_M_digestOf 50 = .ok (.ldc2_w 81, 3) := by decide +kernel
theorem d_M_digestOf_53 : decode b_M_digestOf 53 = .ok (.lastore, 1) := by decide +kernel
theorem d_M_digestOf_54 : decode b_M_digestOf 54 = .ok (.aload_n 0, 1) := by decide +kernel
theorem d_M_digestOf_55 : decode b_M_digestOf 55 = .ok (.getfield 46, 3) := by decide +kernel
theorem d_M_digestOf_58 : decode b_M_digestOf 58 = .ok (.bipush 6, 2) := by decide +kernel
theorem d_M_digestOf_60 : decode b_M_digestOf 60 = .ok (.ldc2_w 83, 3) := by decide +kernel
theorem d_M_digestOf_63 : decode b_M_digestOf 63 = .ok (.lastore, 1) := by decide +kernel
theorem d_M_digestOf_64 : decode b_M_digestOf 64 = .ok (.aload_n 0, 1) := by decide +kernel
theorem d_M_digestOf_65 : decode b_M_digestOf 65 = .ok (.getfield 46, 3) := by decide +kernel
theorem d_M_digestOf_68 : decode b_M_digestOf 68 = .ok (.bipush 7, 2) := by decide +kernel
theorem d_M_digestOf_70 : decode b_M_digestOf 70 = .ok (.ldc2_w 85, 3) := by decide +kernel
theorem d_M_digestOf_73 : decode b_M_digestOf 73 = .ok (.lastore, 1) := by decide +kernel
theorem d_M_digestOf_74 : decode b_M_digestOf 74 = .ok (.iload_n 1, 1) := by decide +kernel
theorem d_M_digestOf_75 : decode b_M_digestOf 75 = .ok (.istore_n 2, 1) := by decide +kernel
theorem d_M_digestOf_76 : decode b_M_digestOf 76 = .ok (.aload_n 0, 1) := by decide +kernel
theorem d_M_digestOf_77 : decode b_M_digestOf 77 = .ok (.getfield 42, 3) := by decide +kernel
theorem d_M_digestOf_80 : decode b_M_digestOf 80 = .ok (.iload_n 2, 1) := by decide +kernel
theorem d_M_digestOf_81 : decode b_M_digestOf 81 = .ok (.bipush (-128), 2) := by decide +kernel
theorem d_M_digestOf_83 : decode b_M_digestOf 83 = .ok (.bastore, 1) := by decide +kernel
theorem d_M_digestOf_84 : decode b_M_digestOf 84 = .ok (.iinc 2 1, 3) := by decide +kernel
theorem d_M_digestOf_87 : decode b_M_digestOf 87 = .ok (.iload_n 2, 1) := by decide +kernel
theorem d_M_digestOf_88 : decode b_M_digestOf 88 = .ok (.bipush 64, 2) := by decide +kernel
theorem d_M_digestOf_90 : decode b_M_digestOf 90 = .ok (.irem, 1) := by decide +kernel
theorem d_M_digestOf_91 : decode b_M_digestOf 91 = .ok (.bipush 56, 2) := by decide +kernel
theorem d_M_digestOf_93 : decode b_M_digestOf 93 = .ok (.if_icmp .eq 16, 3) := by decide +kernel
theorem d_M_digestOf_96 : decode b_M_digestOf 96 = .ok (.aload_n 0, 1) := by decide +kernel
theorem d_M_digestOf_97 : decode b_M_digestOf 97 = .ok (.getfield 42, 3) := by decide +kernel
theorem d_M_digestOf_100 : decode b_M_digestOf 100 = .ok (.iload_n 2, 1) := by decide +kernel
theorem d_M_digestOf_101 : decode b_M_digestOf 101 = .ok (.iconst 0, 1) := by decide +kernel
theorem d_M_digestOf_102 : decode b_M_digestOf 102 = .ok (.bastore, 1) := by decide +kernel
theorem d_M_digestOf_103 : decode b_M_digestOf 103 = .ok (.iinc 2 1, 3) := by decide +kernel
theorem d_M_digestOf_106 : decode b_M_digestOf 106 = .ok (.goto (-19), 3) := by decide +kernel
theorem d_M_digestOf_109 : decode b_M_digestOf 109 = .ok (.bipush 7, 2) := by decide +kernel
theorem d_M_digestOf_111 : decode b_M_digestOf 111 = .ok (.istore_n 3, 1) := by decide +kernel
theorem d_M_digestOf_112 : decode b_M_digestOf 112 = .ok (.iload_n 3, 1) := by decide +kernel
theorem d_M_digestOf_113 : decode b_M_digestOf 113 = .ok (.ifCond .lt 31, 3) := by decide +kernel
theorem d_M_digestOf_116 : decode b_M_digestOf 116 = .ok (.aload_n 0, 1) := by decide +kernel
theorem d_M_digestOf_117 : decode b_M_digestOf 117 = .ok (.getfield 42, 3) := by decide +kernel
theorem d_M_digestOf_120 : decode b_M_digestOf 120 = .ok (.iload_n 2, 1) := by decide +kernel
theorem d_M_digestOf_121 : decode b_M_digestOf 121 = .ok (.ldc2_w 87, 3) := by decide +kernel
theorem d_M_digestOf_124 : decode b_M_digestOf 124 = .ok (.iload_n 1, 1) := by decide +kernel
theorem d_M_digestOf_125 : decode b_M_digestOf 125 = .ok (.i2l, 1) := by decide +kernel
theorem d_M_digestOf_126 : decode b_M_digestOf 126 = .ok (.lmul, 1) := by decide +kernel
theorem d_M_digestOf_127 : decode b_M_digestOf 127 = .ok (.bipush 8, 2) := by decide +kernel
theorem d_M_digestOf_129 : decode b_M_digestOf 129 = .ok (.iload_n 3, 1) := by decide +kernel
theorem d_M_digestOf_130 : decode b_M_digestOf 130 = .ok (.imul, 1) := by decide +kernel
theorem d_M_digestOf_131 : decode b_M_digestOf 131 = .ok (.lshr, 1) := by decide +kernel
theorem d_M_digestOf_132 : decode b_M_digestOf 132 = .ok (.l2i, 1) := by decide +kernel
theorem d_M_digestOf_133 : decode b_M_digestOf 133 = .ok (.i2b, 1) := by decide +kernel
theorem d_M_digestOf_134 : decode b_M_digestOf 134 = .ok (.bastore, 1) := by decide +kernel
theorem d_M_digestOf_135 : decode b_M_digestOf 135 = .ok (.iinc 2 1, 3) := by decide +kernel
theorem d_M_digestOf_138 : decode b_M_digestOf 138 = .ok (.iinc 3 (-1), 3) := by decide +kernel
theorem d_M_digestOf_141 : decode b_M_digestOf 141 = .ok (.goto (-29), 3) := by decide +kernel
theorem d_M_digestOf_144 : decode b_M_digestOf 144 = .ok (.iconst 0, 1) := by decide +kernel
theorem d_M_digestOf_145 : decode b_M_digestOf 145 = .ok (.istore_n 3, 1) := by decide +kernel
theorem d_M_digestOf_146 : decode b_M_digestOf 146 = .ok (.iload_n 3, 1) := by decide +kernel
theorem d_M_digestOf_147 : decode b_M_digestOf 147 = .ok (.iload_n 2, 1) := by decide +kernel
theorem d_M_digestOf_148 : decode b_M_digestOf 148 = .ok (.if_icmp .ge 14, 3) := by decide +kernel
theorem d_M_digestOf_151 : decode b_M_digestOf 151 = .ok (.aload_n 0, 1) := by decide +kernel
theorem d_M_digestOf_152 : decode b_M_digestOf 152 = .ok (.iload_n 3, 1) := by decide +kernel
theorem d_M_digestOf_153 : decode b_M_digestOf 153 = .ok (.invokevirtual 89, 3) := by decide +kernel
theorem d_M_digestOf_156 : decode b_M_digestOf 156 = .ok (.iinc 3 64, 3) := by decide +kernel
theorem d_M_digestOf_159 : decode b_M_digestOf 159 = .ok (.goto (-13), 3) := by decide +kernel
theorem d_M_digestOf_162 : decode b_M_digestOf 162 = .ok (.return_, 1) := by decide +kernel
theorem d_M_turned_0 : decode b_M_turned 0 = .ok (.lload_n 0, 1) := by decide +kernel
theorem d_M_turned_1 : decode b_M_turned 1 = .ok (.iload_n 2, 1) := by decide +kernel
theorem d_M_turned_2 : decode b_M_turned 2 = .ok (.lshr, 1) := by decide +kernel
theorem d_M_turned_3 : decode b_M_turned 3 = .ok (.lload_n 0, 1) := by decide +kernel
theorem d_M_turned_4 : decode b_M_turned 4 = .ok (.bipush 32, 2) := by decide +kernel
theorem d_M_turned_6 : decode b_M_turned 6 = .ok (.iload_n 2, 1) := by decide +kernel
theorem d_M_turned_7 : decode b_M_turned 7 = .ok (.isub, 1) := by decide +kernel
theorem d_M_turned_8 : decode b_M_turned 8 = .ok (.lshl, 1) := by decide +kernel
theorem d_M_turned_9 : decode b_M_turned 9 = .ok (.lor, 1) := by decide +kernel
theorem d_M_turned_10 : decode b_M_turned 10 = .ok (.ldc2_w 69, 3) := by decide +kernel
theorem d_M_turned_13 : decode b_M_turned 13 = .ok (.land, 1) := by decide +kernel
theorem d_M_turned_14 : decode b_M_turned 14 = .ok (.lreturn, 1) := by decide +kernel
theorem d_M_wordPair_0 : decode b_M_wordPair 0 = .ok (.aload_n 0, 1) := by decide +kernel
theorem d_M_wordPair_1 : decode b_M_wordPair 1 = .ok (.getfield 46, 3) := by decide +kernel
theorem d_M_wordPair_4 : decode b_M_wordPair 4 = .ok (.iconst 2, 1) := by decide +kernel
theorem d_M_wordPair_5 : decode b_M_wordPair 5 = .ok (.iload_n 1, 1) := by decide +kernel
theorem d_M_wordPair_6 : decode b_M_wordPair 6 = .ok (.imul, 1) := by decide +kernel
theorem d_M_wordPair_7 : decode b_M_wordPair 7 = .ok (.laload, 1) := by decide +kernel
theorem d_M_wordPair_8 : decode b_M_wordPair 8 = .ok (.bipush 32, 2) := by decide +kernel
theorem d_M_wordPair_10 : decode b_M_wordPair 10 = .ok (.lshl, 1) := by decide +kernel
theorem d_M_wordPair_11 : decode b_M_wordPair 11 = .ok (.aload_n 0, 1) := by decide +kernel
theorem d_M_wordPair_12 : decode b_M_wordPair 12 = .ok (.getfield 46, 3) := by decide +kernel
theorem d_M_wordPair_15 : decode b_M_wordPair 15 = .ok (.iconst 2, 1) := by decide +kernel
theorem d_M_wordPair_16 : decode b_M_wordPair 16 = .ok (.iload_n 1, 1) := by decide +kernel
theorem d_M_wordPair_17 : decode b_M_wordPair 17 = .ok (.imul, 1) := by decide +kernel
theorem d_M_wordPair_18 : decode b_M_wordPair 18 = .ok (.iconst 1, 1) := by decide +kernel
theorem d_M_wordPair_19 : decode b_M_wordPair 19 = .ok (.iadd, 1) := by decide +kernel
theorem d_M_wordPair_20 : decode b_M_wordPair 20 = .ok (.laload, 1) := by decide +kernel
theorem d_M_wordPair_21 : decode b_M_wordPair 21 = .ok (.lor, 1) := by decide +kernel
theorem d_M_wordPair_22 : decode b_M_wordPair 22 = .ok (.lreturn, 1) := by decide +kernel
theorem d_M_agree_0 : decode b_M_agree 0 = .ok (.iconst 1, 1) := by decide +kernel
theorem d_M_agree_1 : decode b_M_agree 1 = .ok (.istore 4, 2) := by decide +kernel
theorem d_M_agree_3 : decode b_M_agree 3 = .ok (.iconst 0, 1) := by decide +kernel
theorem d_M_agree_4 : decode b_M_agree 4 = .ok (.istore 5, 2) := by decide +kernel
theorem d_M_agree_6 : decode b_M_agree 6 = .ok (.iload 5, 2) := by decide +kernel
theorem d_M_agree_8 : decode b_M_agree 8 = .ok (.iconst 4, 1) := by decide +kernel
theorem d_M_agree_9 : decode b_M_agree 9 = .ok (.if_icmp .ge 116, 3) := by decide +kernel
theorem d_M_agree_12 : decode b_M_agree 12 = .ok (.iload 4, 2) := by decide +kernel
theorem d_M_agree_14 : decode b_M_agree 14 = .ok (.ifCond .eq 111, 3) := by decide +kernel
theorem d_M_agree_17 : decode b_M_agree 17 = .ok (.iload_n 3, 1) := by decide +kernel
theorem d_M_agree_18 : decode b_M_agree 18 = .ok (.bipush 64, 2) := by decide +kernel
theorem d_M_agree_20 : decode b_M_agree 20 = .ok (.iload 5, 2) := by decide +kernel
theorem d_M_agree_22 : decode b_M_agree 22 = .ok (.imul, 1) := by decide +kernel
theorem d_M_agree_23 : decode b_M_agree 23 = .ok (.isub, 1) := by decide +kernel
theorem d_M_agree_24 : decode b_M_agree 24 = .ok (.istore 6, 2) := by decide +kernel
theorem d_M_agree_26 : decode b_M_agree 26 = .ok (.iload 6, 2) := by decide +kernel
theorem d_M_agree_28 : decode b_M_agree 28 = .ok (.bipush 64, 2) := by decide +kernel
theorem d_M_agree_30 : decode b_M_agree 30 = .ok (.if_icmp .lt 39, 3) := by decide +kernel
theorem d_M_agree_33 : decode b_M_agree 33 = .ok (.aload_n 0, 1) := by decide +kernel
theorem d_M_agree_34 : decode b_M_agree 34 = .ok (.getfield 7, 3) := by decide +kernel
theorem d_M_agree_37 : decode b_M_agree 37 = .ok (.iconst 4, 1) := by decide +kernel
theorem d_M_agree_38 : decode b_M_agree 38 = .ok (.iload_n 1, 1) := by decide +kernel
theorem d_M_agree_39 : decode b_M_agree 39 = .ok (.imul, 1) := by decide +kernel
theorem d_M_agree_40 : decode b_M_agree 40 = .ok (.iload 5, 2) := by decide +kernel
theorem d_M_agree_42 : decode b_M_agree 42 = .ok (.iadd, 1) := by decide +kernel
theorem d_M_agree_43 : decode b_M_agree 43 = .ok (.laload, 1) := by decide +kernel
theorem d_M_agree_44 : decode b_M_agree 44 = .ok (.aload_n 0, 1) := by decide +kernel
theorem d_M_agree_45 : decode b_M_agree 45 = .ok (.getfield 7, 3) := by decide +kernel
theorem d_M_agree_48 : decode b_M_agree 48 = .ok (.iconst 4, 1) := by decide +kernel
theorem d_M_agree_49 : decode b_M_agree 49 = .ok (.iload_n 2, 1) := by decide +kernel
theorem d_M_agree_50 : decode b_M_agree 50 = .ok (.imul, 1) := by decide +kernel
theorem d_M_agree_51 : decode b_M_agree 51 = .ok (.iload 5, 2) := by decide +kernel
theorem d_M_agree_53 : decode b_M_agree 53 = .ok (.iadd, 1) := by decide +kernel
theorem d_M_agree_54 : decode b_M_agree 54 = .ok (.laload, 1) := by decide +kernel
theorem d_M_agree_55 : decode b_M_agree 55 = .ok (.lcmp, 1) := by decide +kernel
theorem d_M_agree_56 : decode b_M_agree 56 = .ok (.ifCond .ne 7, 3) := by decide +kernel
theorem d_M_agree_59 : decode b_M_agree 59 = .ok (.iconst 1, 1) := by decide +kernel
theorem d_M_agree_60 : decode b_M_agree 60 = .ok (.goto 4, 3) := by decide +kernel
theorem d_M_agree_63 : decode b_M_agree 63 = .ok (.iconst 0, 1) := by decide +kernel
theorem d_M_agree_64 : decode b_M_agree 64 = .ok (.istore 4, 2) := by decide +kernel
theorem d_M_agree_66 : decode b_M_agree 66 = .ok (.goto 53, 3) := by decide +kernel
theorem d_M_agree_69 : decode b_M_agree 69 = .ok (.iload 6, 2) := by decide +kernel
theorem d_M_agree_71 : decode b_M_agree 71 = .ok (.ifCond .le 48, 3) := by decide +kernel
theorem d_M_agree_74 : decode b_M_agree 74 = .ok (.aload_n 0, 1) := by decide +kernel
theorem d_M_agree_75 : decode b_M_agree 75 = .ok (.getfield 7, 3) := by decide +kernel
theorem d_M_agree_78 : decode b_M_agree 78 = .ok (.iconst 4, 1) := by decide +kernel
theorem d_M_agree_79 : decode b_M_agree 79 = .ok (.iload_n 1, 1) := by decide +kernel
theorem d_M_agree_80 : decode b_M_agree 80 = .ok (.imul, 1) := by decide +kernel
theorem d_M_agree_81 : decode b_M_agree 81 = .ok (.iload 5, 2) := by decide +kernel
theorem d_M_agree_83 : decode b_M_agree 83 = .ok (.iadd, 1) := by decide +kernel
theorem d_M_agree_84 : decode b_M_agree 84 = .ok (.laload, 1) := by decide +kernel
theorem d_M_agree_85 : decode b_M_agree 85 = .ok (.bipush 64, 2) := by decide +kernel
theorem d_M_agree_87 : decode b_M_agree 87 = .ok (.iload 6, 2) := by decide +kernel
theorem d_M_agree_89 : decode b_M_agree 89 = .ok (.isub, 1) := by decide +kernel
theorem d_M_agree_90 : decode b_M_agree 90 = .ok (.lushr, 1) := by decide +kernel
theorem d_M_agree_91 : decode b_M_agree 91 = .ok (.aload_n 0, 1) := by decide +kernel
theorem d_M_agree_92 : decode b_M_agree 92 = .ok (.getfield 7, 3) := by decide +kernel
theorem d_M_agree_95 : decode b_M_agree 95 = .ok (.iconst 4, 1) := by decide +kernel
theorem d_M_agree_96 : decode b_M_agree 96 = .ok (.iload_n 2, 1) := by decide +kernel
theorem d_M_agree_97 : decode b_M_agree 97 = .ok (.imul, 1) := by decide +kernel
theorem d_M_agree_98 : decode b_M_agree 98 = .ok (.iload 5, 2) := by decide +kernel
theorem d_M_agree_100 : decode b_M_agree 100 = .ok (.iadd, 1) := by decide +kernel
theorem d_M_agree_101 : decode b_M_agree 101 = .ok (.laload, 1) := by decide +kernel
theorem d_M_agree_102 : decode b_M_agree 102 = .ok (.bipush 64, 2) := by decide +kernel
theorem d_M_agree_104 : decode b_M_agree 104 = .ok (.iload 6, 2) := by decide +kernel
theorem d_M_agree_106 : decode b_M_agree 106 = .ok (.isub, 1) := by decide +kernel
theorem d_M_agree_107 : decode b_M_agree 107 = .ok (.lushr, 1) := by decide +kernel
theorem d_M_agree_108 : decode b_M_agree 108 = .ok (.lcmp, 1) := by decide +kernel
theorem d_M_agree_109 : decode b_M_agree 109 = .ok (.ifCond .ne 7, 3) := by decide +kernel
theorem d_M_agree_112 : decode b_M_agree 112 = .ok (.iconst 1, 1) := by decide +kernel
theorem d_M_agree_113 : decode b_M_agree 113 = .ok (.goto 4, 3) := by decide +kernel
theorem d_M_agree_116 : decode b_M_agree 116 = .ok (.iconst 0, 1) := by decide +kernel
theorem d_M_agree_117 : decode b_M_agree 117 = .ok (.istore 4, 2) := by decide +kernel
theorem d_M_agree_119 : decode b_M_agree 119 = .ok (.iinc 5 1, 3) := by decide +kernel
theorem d_M_agree_122 : decode b_M_agree 122 = .ok (.goto (-116), 3) := by decide +kernel
theorem d_M_agree_125 : decode b_M_agree 125 = .ok (.iload 4, 2) := by decide +kernel
theorem d_M_agree_127 : decode b_M_agree 127 = .ok (.ireturn, 1) := by decide +kernel
theorem d_M_fork_0 : decode b_M_fork 0 = .ok (.aload_n 0, 1) := by decide +kernel
theorem d_M_fork_1 : decode b_M_fork 1 = .ok (.iconst 1, 1) := by decide +kernel
theorem d_M_fork_2 : decode b_M_fork 2 = .ok (.iload_n 2, 1) := by decide +kernel
theorem d_M_fork_3 : decode b_M_fork 3 = .ok (.ifCond .ge 7, 3) := by decide +kernel
theorem d_M_fork_6 : decode b_M_fork 6 = .ok (.aconst_null, 1) := by decide +kernel
theorem d_M_fork_7 : decode b_M_fork 7 = .ok (.goto 7, 3) := by decide +kernel
theorem d_M_fork_10 : decode b_M_fork 10 = .ok (.aload_n 0, 1) := by decide +kernel
theorem d_M_fork_11 : decode b_M_fork 11 = .ok (.getfield 26, 3) := by decide +kernel
theorem d_M_fork_14 : decode b_M_fork 14 = .ok (.iconst 4, 1) := by decide +kernel
theorem d_M_fork_15 : decode b_M_fork 15 = .ok (.iload_n 2, 1) := by decide +kernel
theorem d_M_fork_16 : decode b_M_fork 16 = .ok (.imul, 1) := by decide +kernel
theorem d_M_fork_17 : decode b_M_fork 17 = .ok (.iload_n 3, 1) := by decide +kernel
theorem d_M_fork_18 : decode b_M_fork 18 = .ok (.ifCond .ge 7, 3) := by decide +kernel
theorem d_M_fork_21 : decode b_M_fork 21 = .ok (.aconst_null, 1) := by decide +kernel
theorem d_M_fork_22 : decode b_M_fork 22 = .ok (.goto 7, 3) := by decide +kernel
theorem d_M_fork_25 : decode b_M_fork 25 = .ok (.aload_n 0, 1) := by decide +kernel
theorem d_M_fork_26 : decode b_M_fork 26 = .ok (.getfield 26, 3) := by decide +kernel
theorem d_M_fork_29 : decode b_M_fork 29 = .ok (.iconst 4, 1) := by decide +kernel
theorem d_M_fork_30 : decode b_M_fork 30 = .ok (.iload_n 3, 1) := by decide +kernel
theorem d_M_fork_31 : decode b_M_fork 31 = .ok (.imul, 1) := by decide +kernel
theorem d_M_fork_32 : decode b_M_fork 32 = .ok (.invokevirtual 136, 3) := by decide +kernel
theorem d_M_fork_35 : decode b_M_fork 35 = .ok (.iconst 0, 1) := by decide +kernel
theorem d_M_fork_36 : decode b_M_fork 36 = .ok (.istore 4, 2) := by decide +kernel
theorem d_M_fork_38 : decode b_M_fork 38 = .ok (.iload 4, 2) := by decide +kernel
theorem d_M_fork_40 : decode b_M_fork 40 = .ok (.iconst 4, 1) := by decide +kernel
theorem d_M_fork_41 : decode b_M_fork 41 = .ok (.if_icmp .ge 27, 3) := by decide +kernel
theorem d_M_fork_44 : decode b_M_fork 44 = .ok (.aload_n 0, 1) := by decide +kernel
theorem d_M_fork_45 : decode b_M_fork 45 = .ok (.getfield 26, 3) := by decide +kernel
theorem d_M_fork_48 : decode b_M_fork 48 = .ok (.iconst 4, 1) := by decide +kernel
theorem d_M_fork_49 : decode b_M_fork 49 = .ok (.iload_n 1, 1) := by decide +kernel
theorem d_M_fork_50 : decode b_M_fork 50 = .ok (.imul, 1) := by decide +kernel
theorem d_M_fork_51 : decode b_M_fork 51 = .ok (.iload 4, 2) := by decide +kernel
theorem d_M_fork_53 : decode b_M_fork 53 = .ok (.iadd, 1) := by decide +kernel
theorem d_M_fork_54 : decode b_M_fork 54 = .ok (.aload_n 0, 1) := by decide +kernel
theorem d_M_fork_55 : decode b_M_fork 55 = .ok (.getfield 63, 3) := by decide +kernel
theorem d_M_fork_58 : decode b_M_fork 58 = .ok (.iload 4, 2) := by decide +kernel
theorem d_M_fork_60 : decode b_M_fork 60 = .ok (.laload, 1) := by decide +kernel
theorem d_M_fork_61 : decode b_M_fork 61 = .ok (.lastore, 1) := by decide +kernel
theorem d_M_fork_62 : decode b_M_fork 62 = .ok (.iinc 4 1, 3) := by decide +kernel
theorem d_M_fork_65 : decode b_M_fork 65 = .ok (.goto (-27), 3) := by decide +kernel
theorem d_M_fork_68 : decode b_M_fork 68 = .ok (.return_, 1) := by decide +kernel
theorem d_M_bit_0 : decode b_M_bit 0 = .ok (.aload_n 0, 1) := by decide +kernel
theorem d_M_bit_1 : decode b_M_bit 1 = .ok (.iload_n 1, 1) := by decide +kernel
theorem d_M_bit_2 : decode b_M_bit 2 = .ok (.iload_n 2, 1) := by decide +kernel
theorem d_M_bit_3 : decode b_M_bit 3 = .ok (.bipush 64, 2) := by decide +kernel
theorem d_M_bit_5 : decode b_M_bit 5 = .ok (.idiv, 1) := by decide +kernel
theorem d_M_bit_6 : decode b_M_bit 6 = .ok (.iadd, 1) := by decide +kernel
theorem d_M_bit_7 : decode b_M_bit 7 = .ok (.laload, 1) := by decide +kernel
theorem d_M_bit_8 : decode b_M_bit 8 = .ok (.bipush 63, 2) := by decide +kernel
theorem d_M_bit_10 : decode b_M_bit 10 = .ok (.iload_n 2, 1) := by decide +kernel
theorem d_M_bit_11 : decode b_M_bit 11 = .ok (.bipush 64, 2) := by decide +kernel
theorem d_M_bit_13 : decode b_M_bit 13 = .ok (.irem, 1) := by decide +kernel
theorem d_M_bit_14 : decode b_M_bit 14 = .ok (.isub, 1) := by decide +kernel
theorem d_M_bit_15 : decode b_M_bit 15 = .ok (.lshr, 1) := by decide +kernel
theorem d_M_bit_16 : decode b_M_bit 16 = .ok (.lconst 1, 1) := by decide +kernel
theorem d_M_bit_17 : decode b_M_bit 17 = .ok (.land, 1) := by decide +kernel
theorem d_M_bit_18 : decode b_M_bit 18 = .ok (.l2i, 1) := by decide +kernel
theorem d_M_bit_19 : decode b_M_bit 19 = .ok (.ireturn, 1) := by decide +kernel
theorem d_M_sibling_0 : decode b_M_sibling 0 = .ok (.iload_n 1, 1) := by decide +kernel
theorem d_M_sibling_1 : decode b_M_sibling 1 = .ok (.ifCond .lt 31, 3) := by decide +kernel
theorem d_M_sibling_4 : decode b_M_sibling 4 = .ok (.iload_n 1, 1) := by decide +kernel
theorem d_M_sibling_5 : decode b_M_sibling 5 = .ok (.aload_n 0, 1) := by decide +kernel
theorem d_M_sibling_6 : decode b_M_sibling 6 = .ok (.getfield 180, 3) := by decide +kernel
theorem d_M_sibling_9 : decode b_M_sibling 9 = .ok (.if_icmp .ge 23, 3) := by decide +kernel
theorem d_M_sibling_12 : decode b_M_sibling 12 = .ok (.iload_n 2, 1) := by decide +kernel
theorem d_M_sibling_13 : decode b_M_sibling 13 = .ok (.invokestatic 174, 3) := by decide +kernel
theorem d_M_sibling_16 : decode b_M_sibling 16 = .ok (.ifCond .eq 16, 3) := by decide +kernel
theorem d_M_sibling_19 : decode b_M_sibling 19 = .ok (.aload_n 0, 1) := by decide +kernel
theorem d_M_sibling_20 : decode b_M_sibling 20 = .ok (.getfield 32, 3) := by decide +kernel
theorem d_M_sibling_23 : decode b_M_sibling 23 = .ok (.iconst 4, 1) := by decide +kernel
theorem d_M_sibling_24 : decode b_M_sibling 24 = .ok (.iload_n 1, 1) := by decide +kernel
theorem d_M_sibling_25 : decode b_M_sibling 25 = .ok (.imul, 1) := by decide +kernel
theorem d_M_sibling_26 : decode b_M_sibling 26 = .ok (.iload_n 2, 1) := by decide +kernel
theorem d_M_sibling_27 : decode b_M_sibling 27 = .ok (.iadd, 1) := by decide +kernel
theorem d_M_sibling_28 : decode b_M_sibling 28 = .ok (.laload, 1) := by decide +kernel
theorem d_M_sibling_29 : decode b_M_sibling 29 = .ok (.goto 4, 3) := by decide +kernel
theorem d_M_sibling_32 : decode b_M_sibling 32 = .ok (.lconst 0, 1) := by decide +kernel
theorem d_M_sibling_33 : decode b_M_sibling 33 = .ok (.lreturn, 1) := by decide +kernel
theorem d_M_ending_0 : decode b_M_ending 0 = .ok (.aload_n 0, 1) := by decide +kernel
theorem d_M_ending_1 : decode b_M_ending 1 = .ok (.getfield 35, 3) := by decide +kernel
theorem d_M_ending_4 : decode b_M_ending 4 = .ok (.ireturn, 1) := by decide +kernel
theorem d_M_endNumber_0 : decode b_M_endNumber 0 = .ok (.iload_n 1, 1) := by decide +kernel
theorem d_M_endNumber_1 : decode b_M_endNumber 1 = .ok (.ifCond .eq 8, 3) := by decide +kernel
theorem d_M_endNumber_4 : decode b_M_endNumber 4 = .ok (.iload_n 1, 1) := by decide +kernel
theorem d_M_endNumber_5 : decode b_M_endNumber 5 = .ok (.iconst 1, 1) := by decide +kernel
theorem d_M_endNumber_6 : decode b_M_endNumber 6 = .ok (.if_icmp .ne 23, 3) := by decide +kernel
theorem d_M_endNumber_9 : decode b_M_endNumber 9 = .ok (.iload_n 2, 1) := by decide +kernel
theorem d_M_endNumber_10 : decode b_M_endNumber 10 = .ok (.invokestatic 174, 3) := by decide +kernel
theorem d_M_endNumber_13 : decode b_M_endNumber 13 = .ok (.ifCond .eq 16, 3) := by decide +kernel
theorem d_M_endNumber_16 : decode b_M_endNumber 16 = .ok (.aload_n 0, 1) := by decide +kernel
theorem d_M_endNumber_17 : decode b_M_endNumber 17 = .ok (.getfield 39, 3) := by decide +kernel
theorem d_M_endNumber_20 : decode b_M_endNumber 20 = .ok (.iconst 4, 1) := by decide +kernel
theorem d_M_endNumber_21 : decode b_M_endNumber 21 = .ok (.iload_n 1, 1) := by decide +kernel
theorem d_M_endNumber_22 : decode b_M_endNumber 22 = .ok (.imul, 1) := by decide +kernel
theorem d_M_endNumber_23 : decode b_M_endNumber 23 = .ok (.iload_n 2, 1) := by decide +kernel
theorem d_M_endNumber_24 : decode b_M_endNumber 24 = .ok (.iadd, 1) := by decide +kernel
theorem d_M_endNumber_25 : decode b_M_endNumber 25 = .ok (.laload, 1) := by decide +kernel
theorem d_M_endNumber_26 : decode b_M_endNumber 26 = .ok (.goto 4, 3) := by decide +kernel
theorem d_M_endNumber_29 : decode b_M_endNumber 29 = .ok (.lconst 0, 1) := by decide +kernel
theorem d_M_endNumber_30 : decode b_M_endNumber 30 = .ok (.lreturn, 1) := by decide +kernel
theorem d_M_digest_0 : decode b_M_digest 0 = .ok (.iload_n 3, 1) := by decide +kernel
theorem d_M_digest_1 : decode b_M_digest 1 = .ok (.ifCond .lt 30, 3) := by decide +kernel
theorem d_M_digest_4 : decode b_M_digest 4 = .ok (.iload_n 3, 1) := by decide +kernel
theorem d_M_digest_5 : decode b_M_digest 5 = .ok (.bipush 8, 2) := by decide +kernel
theorem d_M_digest_7 : decode b_M_digest 7 = .ok (.if_icmp .gt 24, 3) := by decide +kernel
theorem d_M_digest_10 : decode b_M_digest 10 = .ok (.iload 4, 2) := by decide +kernel
theorem d_M_digest_12 : decode b_M_digest 12 = .ok (.ifCond .lt 19, 3) := by decide +kernel
theorem d_M_digest_15 : decode b_M_digest 15 = .ok (.iload 4, 2) := by decide +kernel
theorem d_M_digest_17 : decode b_M_digest 17 = .ok (.sipush 500, 3) := by decide +kernel
theorem d_M_digest_20 : decode b_M_digest 20 = .ok (.if_icmp .gt 11, 3) := by decide +kernel
theorem d_M_digest_23 : decode b_M_digest 23 = .ok (.iload 5, 2) := by decide +kernel
theorem d_M_digest_25 : decode b_M_digest 25 = .ok (.invokestatic 174, 3) := by decide +kernel
theorem d_M_digest_28 : decode b_M_digest 28 = .ok (.ifCond .ne 5, 3) := by decide +kernel
theorem d_M_digest_31 : decode b_M_digest 31 = .ok (.lconst 0, 1) := by decide +kernel
theorem d_M_digest_32 : decode b_M_digest 32 = .ok (.lreturn, 1) := by decide +kernel
theorem d_M_digest_33 : decode b_M_digest 33 = .ok (.iconst 0, 1) := by decide +kernel
theorem d_M_digest_34 : decode b_M_digest 34 = .ok (.istore 6, 2) := by decide +kernel
theorem d_M_digest_36 : decode b_M_digest 36 = .ok (.iconst 0, 1) := by decide +kernel
theorem d_M_digest_37 : decode b_M_digest 37 = .ok (.istore 7, 2) := by decide +kernel
theorem d_M_digest_39 : decode b_M_digest 39 = .ok (.iload 7, 2) := by decide +kernel
theorem d_M_digest_41 : decode b_M_digest 41 = .ok (.iload 4, 2) := by decide +kernel
theorem d_M_digest_43 : decode b_M_digest 43 = .ok (.if_icmp .ge 44, 3) := by decide +kernel
theorem d_M_digest_46 : decode b_M_digest 46 = .ok (.iload_n 3, 1) := by decide +kernel
theorem d_M_digest_47 : decode b_M_digest 47 = .ok (.iconst 1, 1) := by decide +kernel
theorem d_M_digest_48 : decode b_M_digest 48 = .ok (.isub, 1) := by decide +kernel
theorem d_M_digest_49 : decode b_M_digest 49 = .ok (.istore 8, 2) := by decide +kernel
theorem d_M_digest_51 : decode b_M_digest 51 = .ok (.iload 8, 2) := by decide +kernel
theorem d_M_digest_53 : decode b_M_digest 53 = .ok (.ifCond .lt 28, 3) := by decide +kernel
theorem d_M_digest_56 : decode b_M_digest 56 = .ok (.aload_n 0, 1) := by decide +kernel
theorem d_M_digest_57 : decode b_M_digest 57 = .ok (.getfield 42, 3) := by decide +kernel
theorem d_M_digest_60 : decode b_M_digest 60 = .ok (.iload 6, 2) := by decide +kernel
theorem d_M_digest_62 : decode b_M_digest 62 = .ok (.lload_n 1, 1) := by decide +kernel
theorem d_M_digest_63 : decode b_M_digest 63 = .ok (.bipush 8, 2) := by decide +kernel
theorem d_M_digest_65 : decode b_M_digest 65 = .ok (.iload 8, 2) := by decide +kernel
theorem d_M_digest_67 : decode b_M_digest 67 = .ok (.imul, 1) := by decide +kernel
theorem d_M_digest_68 : decode b_M_digest 68 = .ok (.lshr, 1) := by decide +kernel
theorem d_M_digest_69 : decode b_M_digest 69 = .ok (.l2i, 1) := by decide +kernel
theorem d_M_digest_70 : decode b_M_digest 70 = .ok (.i2b, 1) := by decide +kernel
theorem d_M_digest_71 : decode b_M_digest 71 = .ok (.bastore, 1) := by decide +kernel
theorem d_M_digest_72 : decode b_M_digest 72 = .ok (.iinc 6 1, 3) := by decide +kernel
theorem d_M_digest_75 : decode b_M_digest 75 = .ok (.iinc 8 (-1), 3) := by decide +kernel
theorem d_M_digest_78 : decode b_M_digest 78 = .ok (.goto (-27), 3) := by decide +kernel
theorem d_M_digest_81 : decode b_M_digest 81 = .ok (.iinc 7 1, 3) := by decide +kernel
theorem d_M_digest_84 : decode b_M_digest 84 = .ok (.goto (-45), 3) := by decide +kernel
theorem d_M_digest_87 : decode b_M_digest 87 = .ok (.aload_n 0, 1) := by decide +kernel
theorem d_M_digest_88 : decode b_M_digest 88 = .ok (.iload 6, 2) := by decide +kernel
theorem d_M_digest_90 : decode b_M_digest 90 = .ok (.invokevirtual 129, 3) := by decide +kernel
theorem d_M_digest_93 : decode b_M_digest 93 = .ok (.aload_n 0, 1) := by decide +kernel
theorem d_M_digest_94 : decode b_M_digest 94 = .ok (.iload 5, 2) := by decide +kernel
theorem d_M_digest_96 : decode b_M_digest 96 = .ok (.invokevirtual 132, 3) := by decide +kernel
theorem d_M_digest_99 : decode b_M_digest 99 = .ok (.lreturn, 1) := by decide +kernel
