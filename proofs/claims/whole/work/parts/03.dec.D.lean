theorem d_D_init_0 : decode b_D_init 0 = .ok (.aload_n 0, 1) := by decide +kernel
theorem d_D_init_1 : decode b_D_init 1 = .ok (.invokespecial 3, 3) := by decide +kernel
theorem d_D_init_4 : decode b_D_init 4 = .ok (.aload_n 0, 1) := by decide +kernel
theorem d_D_init_5 : decode b_D_init 5 = .ok (.bipush 8, 2) := by decide +kernel
theorem d_D_init_7 : decode b_D_init 7 = .ok (.newarray .int, 2) := by decide +kernel
theorem d_D_init_9 : decode b_D_init 9 = .ok (.putfield 11, 3) := by decide +kernel
theorem d_D_init_12 : decode b_D_init 12 = .ok (.aload_n 0, 1) := by decide +kernel
theorem d_D_init_13 : decode b_D_init 13 = .ok (.bipush 64, 2) := by decide +kernel
theorem d_D_init_15 : decode b_D_init 15 = .ok (.newarray .int, 2) := by decide +kernel
theorem d_D_init_17 : decode b_D_init 17 = .ok (.putfield 15, 3) := by decide +kernel
theorem d_D_init_20 : decode b_D_init 20 = .ok (.aload_n 0, 1) := by decide +kernel
theorem d_D_init_21 : decode b_D_init 21 = .ok (.iconst 0, 1) := by decide +kernel
theorem d_D_init_22 : decode b_D_init 22 = .ok (.putfield 18, 3) := by decide +kernel
theorem d_D_init_25 : decode b_D_init 25 = .ok (.return_, 1) := by decide +kernel
theorem d_D_join_0 : decode b_D_join 0 = .ok (.aload_n 0, 1) := by decide +kernel
theorem d_D_join_1 : decode b_D_join 1 = .ok (.invokevirtual 45, 3) := by decide +kernel
theorem d_D_join_4 : decode b_D_join 4 = .ok (.aload_n 0, 1) := by decide +kernel
theorem d_D_join_5 : decode b_D_join 5 = .ok (.iload_n 1, 1) := by decide +kernel
theorem d_D_join_6 : decode b_D_join 6 = .ok (.invokevirtual 37, 3) := by decide +kernel
theorem d_D_join_9 : decode b_D_join 9 = .ok (.iconst 0, 1) := by decide +kernel
theorem d_D_join_10 : decode b_D_join 10 = .ok (.istore 5, 2) := by decide +kernel
theorem d_D_join_12 : decode b_D_join 12 = .ok (.iload 5, 2) := by decide +kernel
theorem d_D_join_14 : decode b_D_join 14 = .ok (.iconst 4, 1) := by decide +kernel
theorem d_D_join_15 : decode b_D_join 15 = .ok (.if_icmp .ge 19, 3) := by decide +kernel
theorem d_D_join_18 : decode b_D_join 18 = .ok (.aload_n 0, 1) := by decide +kernel
theorem d_D_join_19 : decode b_D_join 19 = .ok (.aload_n 2, 1) := by decide +kernel
theorem d_D_join_20 : decode b_D_join 20 = .ok (.iload 5, 2) := by decide +kernel
theorem d_D_join_22 : decode b_D_join 22 = .ok (.laload, 1) := by decide +kernel
theorem d_D_join_23 : decode b_D_join 23 = .ok (.bipush 8, 2) := by decide +kernel
theorem d_D_join_25 : decode b_D_join 25 = .ok (.invokevirtual 48, 3) := by decide +kernel
theorem d_D_join_28 : decode b_D_join 28 = .ok (.iinc 5 1, 3) := by decide +kernel
theorem d_D_join_31 : decode b_D_join 31 = .ok (.goto (-19), 3) := by decide +kernel
theorem d_D_join_34 : decode b_D_join 34 = .ok (.iconst 0, 1) := by decide +kernel
theorem d_D_join_35 : decode b_D_join 35 = .ok (.istore 5, 2) := by decide +kernel
theorem d_D_join_37 : decode b_D_join 37 = .ok (.iload 5, 2) := by decide +kernel
theorem d_D_join_39 : decode b_D_join 39 = .ok (.iconst 4, 1) := by decide +kernel
theorem d_D_join_40 : decode b_D_join 40 = .ok (.if_icmp .ge 19, 3) := by decide +kernel
theorem d_D_join_43 : decode b_D_join 43 = .ok (.aload_n 0, 1) := by decide +kernel
theorem d_D_join_44 : decode b_D_join 44 = .ok (.aload_n 3, 1) := by decide +kernel
theorem d_D_join_45 : decode b_D_join 45 = .ok (.iload 5, 2) := by decide +kernel
theorem d_D_join_47 : decode b_D_join 47 = .ok (.laload, 1) := by decide +kernel
theorem d_D_join_48 : decode b_D_join 48 = .ok (.bipush 8, 2) := by decide +kernel
theorem d_D_join_50 : decode b_D_join 50 = .ok (.invokevirtual 48, 3) := by decide +kernel
theorem d_D_join_53 : decode b_D_join 53 = .ok (.iinc 5 1, 3) := by decide +kernel
theorem d_D_join_56 : decode b_D_join 56 = .ok (.goto (-19), 3) := by decide +kernel
theorem d_D_join_59 : decode b_D_join 59 = .ok (.aload_n 0, 1) := by decide +kernel
theorem d_D_join_60 : decode b_D_join 60 = .ok (.invokevirtual 52, 3) := by decide +kernel
theorem d_D_join_63 : decode b_D_join 63 = .ok (.iconst 0, 1) := by decide +kernel
theorem d_D_join_64 : decode b_D_join 64 = .ok (.istore 5, 2) := by decide +kernel
theorem d_D_join_66 : decode b_D_join 66 = .ok (.iload 5, 2) := by decide +kernel
theorem d_D_join_68 : decode b_D_join 68 = .ok (.iconst 4, 1) := by decide +kernel
theorem d_D_join_69 : decode b_D_join 69 = .ok (.if_icmp .ge 20, 3) := by decide +kernel
theorem d_D_join_72 : decode b_D_join 72 = .ok (.aload 4, 2) := by decide +kernel
theorem d_D_join_74 : decode b_D_join 74 = .ok (.iload 5, 2) := by decide +kernel
theorem d_D_join_76 : decode b_D_join 76 = .ok (.aload_n 0, 1) := by decide +kernel
theorem d_D_join_77 : decode b_D_join 77 = .ok (.iload 5, 2) := by decide +kernel
theorem d_D_join_79 : decode b_D_join 79 = .ok (.invokevirtual 55, 3) := by decide +kernel
theorem d_D_join_82 : decode b_D_join 82 = .ok (.lastore, 1) := by decide +kernel
theorem d_D_join_83 : decode b_D_join 83 = .ok (.iinc 5 1, 3) := by decide +kernel
theorem d_D_join_86 : decode b_D_join 86 = .ok (.goto (-20), 3) := by decide +kernel
theorem d_D_join_89 : decode b_D_join 89 = .ok (.return_, 1) := by decide +kernel
theorem d_D_begin_0 : decode b_D_begin 0 = .ok (.getstatic 22, 3) := by decide +kernel
theorem d_D_begin_3 : decode b_D_begin 3 = .ok (.iconst 0, 1) := by decide +kernel
theorem d_D_begin_4 : decode b_D_begin 4 = .ok (.aload_n 0, 1) := by decide +kernel
theorem d_D_begin_5 : decode b_D_begin 5 = .ok (.getfield 11, 3) := by decide +kernel
theorem d_D_begin_8 : decode b_D_begin 8 = .ok (.iconst 0, 1) := by decide +kernel
theorem d_D_begin_9 : decode b_D_begin 9 = .ok (.bipush 8, 2) := by decide +kernel
theorem d_D_begin_11 : decode b_D_begin 11 = .ok (.invokestatic 25, 3) := by decide +kernel
theorem d_D_begin_14 : decode b_D_begin 14 = .ok (.aload_n 0, 1) := by decide +kernel
theorem d_D_begin_15 : decode b_D_begin 15 = .ok (.iconst 0, 1) := by decide +kernel
theorem d_D_begin_16 : decode b_D_begin 16 = .ok (.putfield 18, 3) := by decide +kernel
theorem d_D_begin_19 : decode b_D_begin 19 = .ok (.return_, 1) := by decide +kernel
theorem d_D_take_0 : decode b_D_take 0 = .ok (.aload_n 0, 1) := by decide +kernel
theorem d_D_take_1 : decode b_D_take 1 = .ok (.getfield 18, 3) := by decide +kernel
theorem d_D_take_4 : decode b_D_take 4 = .ok (.bipush 63, 2) := by decide +kernel
theorem d_D_take_6 : decode b_D_take 6 = .ok (.iand, 1) := by decide +kernel
theorem d_D_take_7 : decode b_D_take 7 = .ok (.iconst 2, 1) := by decide +kernel
theorem d_D_take_8 : decode b_D_take 8 = .ok (.ishr, 1) := by decide +kernel
theorem d_D_take_9 : decode b_D_take 9 = .ok (.istore_n 2, 1) := by decide +kernel
theorem d_D_take_10 : decode b_D_take 10 = .ok (.aload_n 0, 1) := by decide +kernel
theorem d_D_take_11 : decode b_D_take 11 = .ok (.getfield 15, 3) := by decide +kernel
theorem d_D_take_14 : decode b_D_take 14 = .ok (.iload_n 2, 1) := by decide +kernel
theorem d_D_take_15 : decode b_D_take 15 = .ok (.aload_n 0, 1) := by decide +kernel
theorem d_D_take_16 : decode b_D_take 16 = .ok (.getfield 15, 3) := by decide +kernel
theorem d_D_take_19 : decode b_D_take 19 = .ok (.iload_n 2, 1) := by decide +kernel
theorem d_D_take_20 : decode b_D_take 20 = .ok (.iaload, 1) := by decide +kernel
theorem d_D_take_21 : decode b_D_take 21 = .ok (.bipush 8, 2) := by decide +kernel
theorem d_D_take_23 : decode b_D_take 23 = .ok (.ishl, 1) := by decide +kernel
theorem d_D_take_24 : decode b_D_take 24 = .ok (.iload_n 1, 1) := by decide +kernel
theorem d_D_take_25 : decode b_D_take 25 = .ok (.sipush 255, 3) := by decide +kernel
theorem d_D_take_28 : decode b_D_take 28 = .ok (.iand, 1) := by decide +kernel
theorem d_D_take_29 : decode b_D_take 29 = .ok (.ior, 1) := by decide +kernel
theorem d_D_take_30 : decode b_D_take 30 = .ok (.iastore, 1) := by decide +kernel
theorem d_D_take_31 : decode b_D_take 31 = .ok (.aload_n 0, 1) := by decide +kernel
theorem d_D_take_32 : decode b_D_take 32 = .ok (.dup, 1) := by decide +kernel
theorem d_D_take_33 : decode b_D_take 33 = .ok (.getfield 18, 3) := by decide +kernel
theorem d_D_take_36 : decode b_D_take 36 = .ok (.iconst 1, 1) := by decide +kernel
theorem d_D_take_37 : decode b_D_take 37 = .ok (.iadd, 1) := by decide +kernel
theorem d_D_take_38 : decode b_D_take 38 = .ok (.putfield 18, 3) := by decide +kernel
theorem d_D_take_41 : decode b_D_take 41 = .ok (.aload_n 0, 1) := by decide +kernel
theorem d_D_take_42 : decode b_D_take 42 = .ok (.getfield 18, 3) := by decide +kernel
theorem d_D_take_45 : decode b_D_take 45 = .ok (.bipush 63, 2) := by decide +kernel
theorem d_D_take_47 : decode b_D_take 47 = .ok (.iand, 1) := by decide +kernel
theorem d_D_take_48 : decode b_D_take 48 = .ok (.ifCond .ne 11, 3) := by decide +kernel
theorem d_D_take_51 : decode b_D_take 51 = .ok (.aload_n 0, 1) := by decide +kernel
theorem d_D_take_52 : decode b_D_take 52 = .ok (.invokevirtual 31, 3) := by decide +kernel
theorem d_D_take_55 : decode b_D_take 55 = .ok (.aload_n 0, 1) := by decide +kernel
theorem d_D_take_56 : decode b_D_take 56 = .ok (.invokevirtual 34, 3) := by decide +kernel
theorem d_D_take_59 : decode b_D_take 59 = .ok (.return_, 1) := by decide +kernel
theorem d_D_spread_0 : decode b_D_spread 0 = .ok (.bipush 16, 2) := by decide +kernel
theorem d_D_spread_2 : decode b_D_spread 2 = .ok (.istore_n 1, 1) := by decide +kernel
theorem d_D_spread_3 : decode b_D_spread 3 = .ok (.iload_n 1, 1) := by decide +kernel
theorem d_D_spread_4 : decode b_D_spread 4 = .ok (.bipush 64, 2) := by decide +kernel
theorem d_D_spread_6 : decode b_D_spread 6 = .ok (.if_icmp .ge 98, 3) := by decide +kernel
theorem d_D_spread_9 : decode b_D_spread 9 = .ok (.aload_n 0, 1) := by decide +kernel
theorem d_D_spread_10 : decode b_D_spread 10 = .ok (.getfield 15, 3) := by decide +kernel
theorem d_D_spread_13 : decode b_D_spread 13 = .ok (.iload_n 1, 1) := by decide +kernel
theorem d_D_spread_14 : decode b_D_spread 14 = .ok (.bipush 15, 2) := by decide +kernel
theorem d_D_spread_16 : decode b_D_spread 16 = .ok (.isub, 1) := by decide +kernel
theorem d_D_spread_17 : decode b_D_spread 17 = .ok (.iaload, 1) := by decide +kernel
theorem d_D_spread_18 : decode b_D_spread 18 = .ok (.istore_n 2, 1) := by decide +kernel
theorem d_D_spread_19 : decode b_D_spread 19 = .ok (.aload_n 0, 1) := by decide +kernel
theorem d_D_spread_20 : decode b_D_spread 20 = .ok (.getfield 15, 3) := by decide +kernel
theorem d_D_spread_23 : decode b_D_spread 23 = .ok (.iload_n 1, 1) := by decide +kernel
theorem d_D_spread_24 : decode b_D_spread 24 = .ok (.iconst 2, 1) := by decide +kernel
theorem d_D_spread_25 : decode b_D_spread 25 = .ok (.isub, 1) := by decide +kernel
theorem d_D_spread_26 : decode b_D_spread 26 = .ok (.iaload, 1) := by decide +kernel
theorem d_D_spread_27 : decode b_D_spread 27 = .ok (.istore_n 3, 1) := by decide +kernel
theorem d_D_spread_28 : decode b_D_spread 28 = .ok (.iload_n 2, 1) := by decide +kernel
theorem d_D_spread_29 : decode b_D_spread 29 = .ok (.bipush 7, 2) := by decide +kernel
theorem d_D_spread_31 : decode b_D_spread 31 = .ok (.invokestatic 59, 3) := by decide +kernel
theorem d_D_spread_34 : decode b_D_spread 34 = .ok (.iload_n 2, 1) := by decide +kernel
theorem d_D_spread_35 : decode b_D_spread 35 = .ok (.bipush 18, 2) := by decide +kernel
theorem d_D_spread_37 : decode b_D_spread 37 = .ok (.invokestatic 59, 3) := by decide +kernel
theorem d_D_spread_40 : decode b_D_spread 40 = .ok (.ixor, 1) := by decide +kernel
theorem d_D_spread_41 : decode b_D_spread 41 = .ok (.iload_n 2, 1) := by decide +kernel
theorem d_D_spread_42 : decode b_D_spread 42 = .ok (.iconst 3, 1) := by decide +kernel
theorem d_D_spread_43 : decode b_D_spread 43 = .ok (.iushr, 1) := by decide +kernel
theorem d_D_spread_44 : decode b_D_spread 44 = .ok (.ixor, 1) := by decide +kernel
theorem d_D_spread_45 : decode b_D_spread 45 = .ok (.istore 4, 2) := by decide +kernel
theorem d_D_spread_47 : decode b_D_spread 47 = .ok (.iload_n 3, 1) := by decide +kernel
theorem d_D_spread_48 : decode b_D_spread 48 = .ok (.bipush 17, 2) := by decide +kernel
theorem d_D_spread_50 : decode b_D_spread 50 = .ok (.invokestatic 59, 3) := by decide +kernel
theorem d_D_spread_53 : decode b_D_spread 53 = .ok (.iload_n 3, 1) := by decide +kernel
theorem d_D_spread_54 : decode b_D_spread 54 = .ok (.bipush 19, 2) := by decide +kernel
theorem d_D_spread_56 : decode b_D_spread 56 = .ok (.invokestatic 59, 3) := by decide +kernel
theorem d_D_spread_59 : decode b_D_spread 59 = .ok (.ixor, 1) := by decide +kernel
theorem d_D_spread_60 : decode b_D_spread 60 = .ok (.iload_n 3, 1) := by decide +kernel
theorem d_D_spread_61 : decode b_D_spread 61 = .ok (.bipush 10, 2) := by decide +kernel
theorem d_D_spread_63 : decode b_D_spread 63 = .ok (.iushr, 1) := by decide +kernel
theorem d_D_spread_64 : decode b_D_spread 64 = .ok (.ixor, 1) := by decide +kernel
theorem d_D_spread_65 : decode b_D_spread 65 = .ok (.istore 5, 2) := by decide +kernel
theorem d_D_spread_67 : decode b_D_spread 67 = .ok (.aload_n 0, 1) := by decide +kernel
theorem d_D_spread_68 : decode b_D_spread 68 = .ok (.getfield 15, 3) := by decide +kernel
theorem d_D_spread_71 : decode b_D_spread 71 = .ok (.iload_n 1, 1) := by decide +kernel
theorem d_D_spread_72 : decode b_D_spread 72 = .ok (.aload_n 0, 1) := by decide +kernel
theorem d_D_spread_73 : decode b_D_spread 73 = .ok (.getfield 15, 3) := by decide +kernel
theorem d_D_spread_76 : decode b_D_spread 76 = .ok (.iload_n 1, 1) := by decide +kernel
theorem d_D_spread_77 : decode b_D_spread 77 = .ok (.bipush 16, 2) := by decide +kernel
theorem d_D_spread_79 : decode b_D_spread 79 = .ok (.isub, 1) := by decide +kernel
theorem d_D_spread_80 : decode b_D_spread 80 = .ok (.iaload, 1) := by decide +kernel
theorem d_D_spread_81 : decode b_D_spread 81 = .ok (.iload 4, 2) := by decide +kernel
theorem d_D_spread_83 : decode b_D_spread 83 = .ok (.iadd, 1) := by decide +kernel
theorem d_D_spread_84 : decode b_D_spread 84 = .ok (.aload_n 0, 1) := by decide +kernel
theorem d_D_spread_85 : decode b_D_spread 85 = .ok (.getfield 15, 3) := by decide +kernel
theorem d_D_spread_88 : decode b_D_spread 88 = .ok (.iload_n 1, 1) := by decide +kernel
theorem d_D_spread_89 : decode b_D_spread 89 = .ok (.bipush 7, 2) := by decide +kernel
theorem d_D_spread_91 : decode b_D_spread 91 = .ok (.isub, 1) := by decide +kernel
theorem d_D_spread_92 : decode b_D_spread 92 = .ok (.iaload, 1) := by decide +kernel
theorem d_D_spread_93 : decode b_D_spread 93 = .ok (.iadd, 1) := by decide +kernel
theorem d_D_spread_94 : decode b_D_spread 94 = .ok (.iload 5, 2) := by decide +kernel
theorem d_D_spread_96 : decode b_D_spread 96 = .ok (.iadd, 1) := by decide +kernel
theorem d_D_spread_97 : decode b_D_spread 97 = .ok (.iastore, 1) := by decide +kernel
theorem d_D_spread_98 : decode b_D_spread 98 = .ok (.iinc 1 1, 3) := by decide +kernel
theorem d_D_spread_101 : decode b_D_spread 101 = .ok (.goto (-98), 3) := by decide +kernel
theorem d_D_spread_104 : decode b_D_spread 104 = .ok (.return_, 1) := by decide +kernel
theorem d_D_takeLowest_0 : decode b_D_takeLowest 0 = .ok (.iload_n 3, 1) := by decide +kernel
theorem d_D_takeLowest_1 : decode b_D_takeLowest 1 = .ok (.iconst 1, 1) := by decide +kernel
theorem d_D_takeLowest_2 : decode b_D_takeLowest 2 = .ok (.isub, 1) := by decide +kernel
theorem d_D_takeLowest_3 : decode b_D_takeLowest 3 = .ok (.istore 4, 2) := by decide +kernel
theorem d_D_takeLowest_5 : decode b_D_takeLowest 5 = .ok (.iload 4, 2) := by decide +kernel
theorem d_D_takeLowest_7 : decode b_D_takeLowest 7 = .ok (.ifCond .lt 21, 3) := by decide +kernel
theorem d_D_takeLowest_10 : decode b_D_takeLowest 10 = .ok (.aload_n 0, 1) := by decide +kernel
theorem d_D_takeLowest_11 : decode b_D_takeLowest 11 = .ok (.lload_n 1, 1) := by decide +kernel
theorem d_D_takeLowest_12 : decode b_D_takeLowest 12 = .ok (.bipush 8, 2) := by decide +kernel
theorem d_D_takeLowest_14 : decode b_D_takeLowest 14 = .ok (.iload 4, 2) := by decide +kernel
theorem d_D_takeLowest_16 : decode b_D_takeLowest 16 = .ok (.imul, 1) := by decide +kernel
theorem d_D_takeLowest_17 : decode b_D_takeLowest 17 = .ok (.lushr, 1) := by decide +kernel
theorem d_D_takeLowest_18 : decode b_D_takeLowest 18 = .ok (.l2i, 1) := by decide +kernel
theorem d_D_takeLowest_19 : decode b_D_takeLowest 19 = .ok (.invokevirtual 37, 3) := by decide +kernel
theorem d_D_takeLowest_22 : decode b_D_takeLowest 22 = .ok (.iinc 4 (-1), 3) := by decide +kernel
theorem d_D_takeLowest_25 : decode b_D_takeLowest 25 = .ok (.goto (-20), 3) := by decide +kernel
theorem d_D_takeLowest_28 : decode b_D_takeLowest 28 = .ok (.return_, 1) := by decide +kernel
theorem d_D_finish_0 : decode b_D_finish 0 = .ok (.ldc2_w 41, 3) := by decide +kernel
theorem d_D_finish_3 : decode b_D_finish 3 = .ok (.aload_n 0, 1) := by decide +kernel
theorem d_D_finish_4 : decode b_D_finish 4 = .ok (.getfield 18, 3) := by decide +kernel
theorem d_D_finish_7 : decode b_D_finish 7 = .ok (.i2l, 1) := by decide +kernel
theorem d_D_finish_8 : decode b_D_finish 8 = .ok (.lmul, 1) := by decide +kernel
theorem d_D_finish_9 : decode b_D_finish 9 = .ok (.lstore_n 1, 1) := by decide +kernel
theorem d_D_finish_10 : decode b_D_finish 10 = .ok (.aload_n 0, 1) := by decide +kernel
theorem d_D_finish_11 : decode b_D_finish 11 = .ok (.sipush 128, 3) := by decide +kernel
theorem d_D_finish_14 : decode b_D_finish 14 = .ok (.invokevirtual 37, 3) := by decide +kernel
theorem d_D_finish_17 : decode b_D_finish 17 = .ok (.bipush 56, 2) := by decide +kernel
theorem d_D_finish_19 : decode b_D_finish 19 = .ok (.aload_n 0, 1) := by decide +kernel
theorem d_D_finish_20 : decode b_D_finish 20 = .ok (.getfield 18, 3) := by decide +kernel
theorem d_D_finish_23 : decode b_D_finish 23 = .ok (.isub, 1) := by decide +kernel
theorem d_D_finish_24 : decode b_D_finish 24 = .ok (.bipush 63, 2) := by decide +kernel
theorem d_D_finish_26 : decode b_D_finish 26 = .ok (.iand, 1) := by decide +kernel
theorem d_D_finish_27 : decode b_D_finish 27 = .ok (.istore_n 3, 1) := by decide +kernel
theorem d_D_finish_28 : decode b_D_finish 28 = .ok (.iconst 0, 1) := by decide +kernel
theorem d_D_finish_29 : decode b_D_finish 29 = .ok (.istore 4, 2) := by decide +kernel
theorem d_D_finish_31 : decode b_D_finish 31 = .ok (.iload 4, 2) := by decide +kernel
theorem d_D_finish_33 : decode b_D_finish 33 = .ok (.iload_n 3, 1) := by decide +kernel
theorem d_D_finish_34 : decode b_D_finish 34 = .ok (.if_icmp .ge 14, 3) := by decide +kernel
theorem d_D_finish_37 : decode b_D_finish 37 = .ok (.aload_n 0, 1) := by decide +kernel
theorem d_D_finish_38 : decode b_D_finish 38 = .ok (.iconst 0, 1) := by decide +kernel
theorem d_D_finish_39 : decode b_D_finish 39 = .ok (.invokevirtual 37, 3) := by decide +kernel
theorem d_D_finish_42 : decode b_D_finish 42 = .ok (.iinc 4 1, 3) := by decide +kernel
theorem d_D_finish_45 : decode b_D_finish 45 = .ok (.goto (-14), 3) := by decide +kernel
theorem d_D_finish_48 : decode b_D_finish 48 = .ok (.bipush 56, 2) := by decide +kernel
theorem d_D_finish_50 : decode b_D_finish 50 = .ok (.istore 4, 2) := by decide +kernel
theorem d_D_finish_52 : decode b_D_finish 52 = .ok (.iload 4, 2) := by decide +kernel
theorem d_D_finish_54 : decode b_D_finish 54 = .ok (.ifCond .lt 18, 3) := by decide +kernel
theorem d_D_finish_57 : decode b_D_finish 57 = .ok (.aload_n 0, 1) := by decide +kernel
theorem d_D_finish_58 : decode b_D_finish 58 = .ok (.lload_n 1, 1) := by decide +kernel
theorem d_D_finish_59 : decode b_D_finish 59 = .ok (.iload 4, 2) := by decide +kernel
theorem d_D_finish_61 : decode b_D_finish 61 = .ok (.lushr, 1) := by decide +kernel
theorem d_D_finish_62 : decode b_D_finish 62 = .ok (.l2i, 1) := by decide +kernel
theorem d_D_finish_63 : decode b_D_finish 63 = .ok (.invokevirtual 37, 3) := by decide +kernel
theorem d_D_finish_66 : decode b_D_finish 66 = .ok (.iinc 4 (-8), 3) := by decide +kernel
theorem d_D_finish_69 : decode b_D_finish 69 = .ok (.goto (-17), 3) := by decide +kernel
theorem d_D_finish_72 : decode b_D_finish 72 = .ok (.return_, 1) := by decide +kernel
theorem d_D_number_0 : decode b_D_number 0 = .ok (.iconst 2, 1) := by decide +kernel
theorem d_D_number_1 : decode b_D_number 1 = .ok (.iload_n 1, 1) := by decide +kernel
theorem d_D_number_2 : decode b_D_number 2 = .ok (.imul, 1) := by decide +kernel
theorem d_D_number_3 : decode b_D_number 3 = .ok (.bipush 7, 2) := by decide +kernel
theorem d_D_number_5 : decode b_D_number 5 = .ok (.iand, 1) := by decide +kernel
theorem d_D_number_6 : decode b_D_number 6 = .ok (.istore_n 2, 1) := by decide +kernel
theorem d_D_number_7 : decode b_D_number 7 = .ok (.aload_n 0, 1) := by decide +kernel
theorem d_D_number_8 : decode b_D_number 8 = .ok (.getfield 11, 3) := by decide +kernel
theorem d_D_number_11 : decode b_D_number 11 = .ok (.iload_n 2, 1) := by decide +kernel
theorem d_D_number_12 : decode b_D_number 12 = .ok (.iaload, 1) := by decide +kernel
theorem d_D_number_13 : decode b_D_number 13 = .ok (.i2l, 1) := by decide +kernel
theorem d_D_number_14 : decode b_D_number 14 = .ok (.bipush 32, 2) := by decide +kernel
theorem d_D_number_16 : decode b_D_number 16 = .ok (.lshl, 1) := by decide +kernel
theorem d_D_number_17 : decode b_D_number 17 = .ok (.aload_n 0, 1) := by decide +kernel
theorem d_D_number_18 : decode b_D_number 18 = .ok (.getfield 11, 3) := by decide +kernel
theorem d_D_number_21 : decode b_D_number 21 = .ok (.iload_n 2, 1) := by decide +kernel
theorem d_D_number_22 : decode b_D_number 22 = .ok (.iconst 1, 1) := by decide +kernel
theorem d_D_number_23 : decode b_D_number 23 = .ok (.iadd, 1) := by decide +kernel
theorem d_D_number_24 : decode b_D_number 24 = .ok (.iaload, 1) := by decide +kernel
theorem d_D_number_25 : decode b_D_number 25 = .ok (.i2l, 1) := by decide +kernel
theorem d_D_number_26 : decode b_D_number 26 = .ok (.ldc2_w 43, 3) := by decide +kernel
theorem d_D_number_29 : decode b_D_number 29 = .ok (.land, 1) := by decide +kernel
theorem d_D_number_30 : decode b_D_number 30 = .ok (.lor, 1) := by decide +kernel
theorem d_D_number_31 : decode b_D_number 31 = .ok (.lreturn, 1) := by decide +kernel
