theorem d_X_init_0 : decode b_X_init 0 = .ok (.aload_n 0, 1) := by decide +kernel
theorem d_X_init_1 : decode b_X_init 1 = .ok (.invokespecial 3, 3) := by decide +kernel
theorem d_X_init_4 : decode b_X_init 4 = .ok (.aload_n 0, 1) := by decide +kernel
theorem d_X_init_5 : decode b_X_init 5 = .ok (.iconst 4, 1) := by decide +kernel
theorem d_X_init_6 : decode b_X_init 6 = .ok (.newarray .long, 2) := by decide +kernel
theorem d_X_init_8 : decode b_X_init 8 = .ok (.putfield 9, 3) := by decide +kernel
theorem d_X_init_11 : decode b_X_init 11 = .ok (.aload_n 0, 1) := by decide +kernel
theorem d_X_init_12 : decode b_X_init 12 = .ok (.new 13, 3) := by decide +kernel
theorem d_X_init_15 : decode b_X_init 15 = .ok (.dup, 1) := by decide +kernel
theorem d_X_init_16 : decode b_X_init 16 = .ok (.invokespecial 15, 3) := by decide +kernel
theorem d_X_init_19 : decode b_X_init 19 = .ok (.putfield 16, 3) := by decide +kernel
theorem d_X_init_22 : decode b_X_init 22 = .ok (.aload_n 0, 1) := by decide +kernel
theorem d_X_init_23 : decode b_X_init 23 = .ok (.sipush 257, 3) := by decide +kernel
theorem d_X_init_26 : decode b_X_init 26 = .ok (.anewarray 20, 3) := by decide +kernel
theorem d_X_init_29 : decode b_X_init 29 = .ok (.putfield 22, 3) := by decide +kernel
theorem d_X_init_32 : decode b_X_init 32 = .ok (.aload_n 0, 1) := by decide +kernel
theorem d_X_init_33 : decode b_X_init 33 = .ok (.aconst_null, 1) := by decide +kernel
theorem d_X_init_34 : decode b_X_init 34 = .ok (.putfield 26, 3) := by decide +kernel
theorem d_X_init_37 : decode b_X_init 37 = .ok (.aload_n 0, 1) := by decide +kernel
theorem d_X_init_38 : decode b_X_init 38 = .ok (.iconst 0, 1) := by decide +kernel
theorem d_X_init_39 : decode b_X_init 39 = .ok (.putfield 30, 3) := by decide +kernel
theorem d_X_init_42 : decode b_X_init 42 = .ok (.aload_n 0, 1) := by decide +kernel
theorem d_X_init_43 : decode b_X_init 43 = .ok (.sipush 1024, 3) := by decide +kernel
theorem d_X_init_46 : decode b_X_init 46 = .ok (.newarray .long, 2) := by decide +kernel
theorem d_X_init_48 : decode b_X_init 48 = .ok (.putfield 34, 3) := by decide +kernel
theorem d_X_init_51 : decode b_X_init 51 = .ok (.aload_n 0, 1) := by decide +kernel
theorem d_X_init_52 : decode b_X_init 52 = .ok (.iconst 4, 1) := by decide +kernel
theorem d_X_init_53 : decode b_X_init 53 = .ok (.newarray .long, 2) := by decide +kernel
theorem d_X_init_55 : decode b_X_init 55 = .ok (.putfield 37, 3) := by decide +kernel
theorem d_X_init_58 : decode b_X_init 58 = .ok (.aload_n 0, 1) := by decide +kernel
theorem d_X_init_59 : decode b_X_init 59 = .ok (.bipush 8, 2) := by decide +kernel
theorem d_X_init_61 : decode b_X_init 61 = .ok (.newarray .long, 2) := by decide +kernel
theorem d_X_init_63 : decode b_X_init 63 = .ok (.putfield 40, 3) := by decide +kernel
theorem d_X_init_66 : decode b_X_init 66 = .ok (.aload_n 0, 1) := by decide +kernel
theorem d_X_init_67 : decode b_X_init 67 = .ok (.iconst (-1), 1) := by decide +kernel
theorem d_X_init_68 : decode b_X_init 68 = .ok (.putfield 43, 3) := by decide +kernel
theorem d_X_init_71 : decode b_X_init 71 = .ok (.return_, 1) := by decide +kernel
theorem d_X_key_0 : decode b_X_key 0 = .ok (.aload_n 0, 1) := by decide +kernel
theorem d_X_key_1 : decode b_X_key 1 = .ok (.getfield 9, 3) := by decide +kernel
theorem d_X_key_4 : decode b_X_key 4 = .ok (.lload_n 1, 1) := by decide +kernel
theorem d_X_key_5 : decode b_X_key 5 = .ok (.lload_n 3, 1) := by decide +kernel
theorem d_X_key_6 : decode b_X_key 6 = .ok (.lload 5, 2) := by decide +kernel
theorem d_X_key_8 : decode b_X_key 8 = .ok (.lload 7, 2) := by decide +kernel
theorem d_X_key_10 : decode b_X_key 10 = .ok (.invokestatic 46, 3) := by decide +kernel
theorem d_X_key_13 : decode b_X_key 13 = .ok (.return_, 1) := by decide +kernel
theorem d_X_fill_0 : decode b_X_fill 0 = .ok (.aload_n 0, 1) := by decide +kernel
theorem d_X_fill_1 : decode b_X_fill 1 = .ok (.iconst 0, 1) := by decide +kernel
theorem d_X_fill_2 : decode b_X_fill 2 = .ok (.lload_n 1, 1) := by decide +kernel
theorem d_X_fill_3 : decode b_X_fill 3 = .ok (.lastore, 1) := by decide +kernel
theorem d_X_fill_4 : decode b_X_fill 4 = .ok (.aload_n 0, 1) := by decide +kernel
theorem d_X_fill_5 : decode b_X_fill 5 = .ok (.iconst 1, 1) := by decide +kernel
theorem d_X_fill_6 : decode b_X_fill 6 = .ok (.lload_n 3, 1) := by decide +kernel
theorem d_X_fill_7 : decode b_X_fill 7 = .ok (.lastore, 1) := by decide +kernel
theorem d_X_fill_8 : decode b_X_fill 8 = .ok (.aload_n 0, 1) := by decide +kernel
theorem d_X_fill_9 : decode b_X_fill 9 = .ok (.iconst 2, 1) := by decide +kernel
theorem d_X_fill_10 : decode b_X_fill 10 = .ok (.lload 5, 2) := by decide +kernel
theorem d_X_fill_12 : decode b_X_fill 12 = .ok (.lastore, 1) := by decide +kernel
theorem d_X_fill_13 : decode b_X_fill 13 = .ok (.aload_n 0, 1) := by decide +kernel
theorem d_X_fill_14 : decode b_X_fill 14 = .ok (.iconst 3, 1) := by decide +kernel
theorem d_X_fill_15 : decode b_X_fill 15 = .ok (.lload 7, 2) := by decide +kernel
theorem d_X_fill_17 : decode b_X_fill 17 = .ok (.lastore, 1) := by decide +kernel
theorem d_X_fill_18 : decode b_X_fill 18 = .ok (.return_, 1) := by decide +kernel
theorem d_X_set_0 : decode b_X_set 0 = .ok (.aload_n 0, 1) := by decide +kernel
theorem d_X_set_1 : decode b_X_set 1 = .ok (.invokevirtual 50, 3) := by decide +kernel
theorem d_X_set_4 : decode b_X_set 4 = .ok (.astore 9, 2) := by decide +kernel
theorem d_X_set_6 : decode b_X_set 6 = .ok (.aload 9, 2) := by decide +kernel
theorem d_X_set_8 : decode b_X_set 8 = .ok (.ifnull 33, 3) := by decide +kernel
theorem d_X_set_11 : decode b_X_set 11 = .ok (.aload_n 0, 1) := by decide +kernel
theorem d_X_set_12 : decode b_X_set 12 = .ok (.sipush 256, 3) := by decide +kernel
theorem d_X_set_15 : decode b_X_set 15 = .ok (.invokevirtual 54, 3) := by decide +kernel
theorem d_X_set_18 : decode b_X_set 18 = .ok (.pop, 1) := by decide +kernel
theorem d_X_set_19 : decode b_X_set 19 = .ok (.aload 9, 2) := by decide +kernel
theorem d_X_set_21 : decode b_X_set 21 = .ok (.iconst 0, 1) := by decide +kernel
theorem d_X_set_22 : decode b_X_set 22 = .ok (.putfield 58, 3) := by decide +kernel
theorem d_X_set_25 : decode b_X_set 25 = .ok (.aload 9, 2) := by decide +kernel
theorem d_X_set_27 : decode b_X_set 27 = .ok (.getfield 64, 3) := by decide +kernel
theorem d_X_set_30 : decode b_X_set 30 = .ok (.lload_n 1, 1) := by decide +kernel
theorem d_X_set_31 : decode b_X_set 31 = .ok (.lload_n 3, 1) := by decide +kernel
theorem d_X_set_32 : decode b_X_set 32 = .ok (.lload 5, 2) := by decide +kernel
theorem d_X_set_34 : decode b_X_set 34 = .ok (.lload 7, 2) := by decide +kernel
theorem d_X_set_36 : decode b_X_set 36 = .ok (.invokestatic 46, 3) := by decide +kernel
theorem d_X_set_39 : decode b_X_set 39 = .ok (.iconst 0, 1) := by decide +kernel
theorem d_X_set_40 : decode b_X_set 40 = .ok (.ireturn, 1) := by decide +kernel
theorem d_X_set_41 : decode b_X_set 41 = .ok (.aload_n 0, 1) := by decide +kernel
theorem d_X_set_42 : decode b_X_set 42 = .ok (.getfield 30, 3) := by decide +kernel
theorem d_X_set_45 : decode b_X_set 45 = .ok (.sipush 512, 3) := by decide +kernel
theorem d_X_set_48 : decode b_X_set 48 = .ok (.if_icmp .lt 6, 3) := by decide +kernel
theorem d_X_set_51 : decode b_X_set 51 = .ok (.bipush (-3), 2) := by decide +kernel
theorem d_X_set_53 : decode b_X_set 53 = .ok (.ireturn, 1) := by decide +kernel
theorem d_X_set_54 : decode b_X_set 54 = .ok (.new 59, 3) := by decide +kernel
theorem d_X_set_57 : decode b_X_set 57 = .ok (.dup, 1) := by decide +kernel
theorem d_X_set_58 : decode b_X_set 58 = .ok (.aload_n 0, 1) := by decide +kernel
theorem d_X_set_59 : decode b_X_set 59 = .ok (.getfield 9, 3) := by decide +kernel
theorem d_X_set_62 : decode b_X_set 62 = .ok (.invokevirtual 67, 3) := by decide +kernel
theorem d_X_set_65 : decode b_X_set 65 = .ok (.checkcast 68, 3) := by decide +kernel
theorem d_X_set_68 : decode b_X_set 68 = .ok (.invokespecial 72, 3) := by decide +kernel
theorem d_X_set_71 : decode b_X_set 71 = .ok (.astore 10, 2) := by decide +kernel
theorem d_X_set_73 : decode b_X_set 73 = .ok (.aload 10, 2) := by decide +kernel
theorem d_X_set_75 : decode b_X_set 75 = .ok (.getfield 64, 3) := by decide +kernel
theorem d_X_set_78 : decode b_X_set 78 = .ok (.lload_n 1, 1) := by decide +kernel
theorem d_X_set_79 : decode b_X_set 79 = .ok (.lload_n 3, 1) := by decide +kernel
theorem d_X_set_80 : decode b_X_set 80 = .ok (.lload 5, 2) := by decide +kernel
theorem d_X_set_82 : decode b_X_set 82 = .ok (.lload 7, 2) := by decide +kernel
theorem d_X_set_84 : decode b_X_set 84 = .ok (.invokestatic 46, 3) := by decide +kernel
theorem d_X_set_87 : decode b_X_set 87 = .ok (.aload_n 0, 1) := by decide +kernel
theorem d_X_set_88 : decode b_X_set 88 = .ok (.aload 10, 2) := by decide +kernel
theorem d_X_set_90 : decode b_X_set 90 = .ok (.invokevirtual 75, 3) := by decide +kernel
theorem d_X_set_93 : decode b_X_set 93 = .ok (.aload_n 0, 1) := by decide +kernel
theorem d_X_set_94 : decode b_X_set 94 = .ok (.dup, 1) := by decide +kernel
theorem d_X_set_95 : decode b_X_set 95 = .ok (.getfield 30, 3) := by decide +kernel
theorem d_X_set_98 : decode b_X_set 98 = .ok (.iconst 1, 1) := by decide +kernel
theorem d_X_set_99 : decode b_X_set 99 = .ok (.iadd, 1) := by decide +kernel
theorem d_X_set_100 : decode b_X_set 100 = .ok (.putfield 30, 3) := by decide +kernel
theorem d_X_set_103 : decode b_X_set 103 = .ok (.iconst 1, 1) := by decide +kernel
theorem d_X_set_104 : decode b_X_set 104 = .ok (.ireturn, 1) := by decide +kernel
theorem d_X_leafOfKey_0 : decode b_X_leafOfKey 0 = .ok (.aload_n 0, 1) := by decide +kernel
theorem d_X_leafOfKey_1 : decode b_X_leafOfKey 1 = .ok (.invokevirtual 112, 3) := by decide +kernel
theorem d_X_leafOfKey_4 : decode b_X_leafOfKey 4 = .ok (.astore_n 1, 1) := by decide +kernel
theorem d_X_leafOfKey_5 : decode b_X_leafOfKey 5 = .ok (.aload_n 1, 1) := by decide +kernel
theorem d_X_leafOfKey_6 : decode b_X_leafOfKey 6 = .ok (.ifnull 24, 3) := by decide +kernel
theorem d_X_leafOfKey_9 : decode b_X_leafOfKey 9 = .ok (.aload_n 0, 1) := by decide +kernel
theorem d_X_leafOfKey_10 : decode b_X_leafOfKey 10 = .ok (.getfield 9, 3) := by decide +kernel
theorem d_X_leafOfKey_13 : decode b_X_leafOfKey 13 = .ok (.aload_n 1, 1) := by decide +kernel
theorem d_X_leafOfKey_14 : decode b_X_leafOfKey 14 = .ok (.getfield 115, 3) := by decide +kernel
theorem d_X_leafOfKey_17 : decode b_X_leafOfKey 17 = .ok (.invokestatic 116, 3) := by decide +kernel
theorem d_X_leafOfKey_20 : decode b_X_leafOfKey 20 = .ok (.sipush 256, 3) := by decide +kernel
theorem d_X_leafOfKey_23 : decode b_X_leafOfKey 23 = .ok (.if_icmp .ne 7, 3) := by decide +kernel
theorem d_X_leafOfKey_26 : decode b_X_leafOfKey 26 = .ok (.aload_n 1, 1) := by decide +kernel
theorem d_X_leafOfKey_27 : decode b_X_leafOfKey 27 = .ok (.goto 4, 3) := by decide +kernel
theorem d_X_leafOfKey_30 : decode b_X_leafOfKey 30 = .ok (.aconst_null, 1) := by decide +kernel
theorem d_X_leafOfKey_31 : decode b_X_leafOfKey 31 = .ok (.areturn, 1) := by decide +kernel
theorem d_X_nearestLeaf_0 : decode b_X_nearestLeaf 0 = .ok (.aload_n 0, 1) := by decide +kernel
theorem d_X_nearestLeaf_1 : decode b_X_nearestLeaf 1 = .ok (.getfield 26, 3) := by decide +kernel
theorem d_X_nearestLeaf_4 : decode b_X_nearestLeaf 4 = .ok (.astore_n 1, 1) := by decide +kernel
theorem d_X_nearestLeaf_5 : decode b_X_nearestLeaf 5 = .ok (.aload_n 1, 1) := by decide +kernel
theorem d_X_nearestLeaf_6 : decode b_X_nearestLeaf 6 = .ok (.instanceof 80, 3) := by decide +kernel
theorem d_X_nearestLeaf_9 : decode b_X_nearestLeaf 9 = .ok (.ifCond .eq 27, 3) := by decide +kernel
theorem d_X_nearestLeaf_12 : decode b_X_nearestLeaf 12 = .ok (.aload_n 1, 1) := by decide +kernel
theorem d_X_nearestLeaf_13 : decode b_X_nearestLeaf 13 = .ok (.checkcast 80, 3) := by decide +kernel
theorem d_X_nearestLeaf_16 : decode b_X_nearestLeaf 16 = .ok (.astore_n 2, 1) := by decide +kernel
theorem d_X_nearestLeaf_17 : decode b_X_nearestLeaf 17 = .ok (.aload_n 2, 1) := by decide +kernel
theorem d_X_nearestLeaf_18 : decode b_X_nearestLeaf 18 = .ok (.aload_n 0, 1) := by decide +kernel
theorem d_X_nearestLeaf_19 : decode b_X_nearestLeaf 19 = .ok (.getfield 9, 3) := by decide +kernel
theorem d_X_nearestLeaf_22 : decode b_X_nearestLeaf 22 = .ok (.aload_n 2, 1) := by decide +kernel
theorem d_X_nearestLeaf_23 : decode b_X_nearestLeaf 23 = .ok (.getfield 79, 3) := by decide +kernel
theorem d_X_nearestLeaf_26 : decode b_X_nearestLeaf 26 = .ok (.invokestatic 84, 3) := by decide +kernel
theorem d_X_nearestLeaf_29 : decode b_X_nearestLeaf 29 = .ok (.invokevirtual 88, 3) := by decide +kernel
theorem d_X_nearestLeaf_32 : decode b_X_nearestLeaf 32 = .ok (.astore_n 1, 1) := by decide +kernel
theorem d_X_nearestLeaf_33 : decode b_X_nearestLeaf 33 = .ok (.goto (-28), 3) := by decide +kernel
theorem d_X_nearestLeaf_36 : decode b_X_nearestLeaf 36 = .ok (.aload_n 1, 1) := by decide +kernel
theorem d_X_nearestLeaf_37 : decode b_X_nearestLeaf 37 = .ok (.instanceof 59, 3) := by decide +kernel
theorem d_X_nearestLeaf_40 : decode b_X_nearestLeaf 40 = .ok (.ifCond .eq 12, 3) := by decide +kernel
theorem d_X_nearestLeaf_43 : decode b_X_nearestLeaf 43 = .ok (.aload_n 1, 1) := by decide +kernel
theorem d_X_nearestLeaf_44 : decode b_X_nearestLeaf 44 = .ok (.checkcast 59, 3) := by decide +kernel
theorem d_X_nearestLeaf_47 : decode b_X_nearestLeaf 47 = .ok (.astore_n 2, 1) := by decide +kernel
theorem d_X_nearestLeaf_48 : decode b_X_nearestLeaf 48 = .ok (.aload_n 2, 1) := by decide +kernel
theorem d_X_nearestLeaf_49 : decode b_X_nearestLeaf 49 = .ok (.goto 4, 3) := by decide +kernel
theorem d_X_nearestLeaf_52 : decode b_X_nearestLeaf 52 = .ok (.aconst_null, 1) := by decide +kernel
theorem d_X_nearestLeaf_53 : decode b_X_nearestLeaf 53 = .ok (.areturn, 1) := by decide +kernel
theorem d_X_isOne_0 : decode b_X_isOne 0 = .ok (.aload_n 0, 1) := by decide +kernel
theorem d_X_isOne_1 : decode b_X_isOne 1 = .ok (.iload_n 1, 1) := by decide +kernel
theorem d_X_isOne_2 : decode b_X_isOne 2 = .ok (.bipush 6, 2) := by decide +kernel
theorem d_X_isOne_4 : decode b_X_isOne 4 = .ok (.ishr, 1) := by decide +kernel
theorem d_X_isOne_5 : decode b_X_isOne 5 = .ok (.iconst 3, 1) := by decide +kernel
theorem d_X_isOne_6 : decode b_X_isOne 6 = .ok (.iand, 1) := by decide +kernel
theorem d_X_isOne_7 : decode b_X_isOne 7 = .ok (.laload, 1) := by decide +kernel
theorem d_X_isOne_8 : decode b_X_isOne 8 = .ok (.iload_n 1, 1) := by decide +kernel
theorem d_X_isOne_9 : decode b_X_isOne 9 = .ok (.bipush 63, 2) := by decide +kernel
theorem d_X_isOne_11 : decode b_X_isOne 11 = .ok (.iand, 1) := by decide +kernel
theorem d_X_isOne_12 : decode b_X_isOne 12 = .ok (.lshl, 1) := by decide +kernel
theorem d_X_isOne_13 : decode b_X_isOne 13 = .ok (.lconst 0, 1) := by decide +kernel
theorem d_X_isOne_14 : decode b_X_isOne 14 = .ok (.lcmp, 1) := by decide +kernel
theorem d_X_isOne_15 : decode b_X_isOne 15 = .ok (.ifCond .ge 7, 3) := by decide +kernel
theorem d_X_isOne_18 : decode b_X_isOne 18 = .ok (.iconst 1, 1) := by decide +kernel
theorem d_X_isOne_19 : decode b_X_isOne 19 = .ok (.goto 4, 3) := by decide +kernel
theorem d_X_isOne_22 : decode b_X_isOne 22 = .ok (.iconst 0, 1) := by decide +kernel
theorem d_X_isOne_23 : decode b_X_isOne 23 = .ok (.ireturn, 1) := by decide +kernel
theorem d_X_partingLevel_0 : decode b_X_partingLevel 0 = .ok (.iconst 0, 1) := by decide +kernel
theorem d_X_partingLevel_1 : decode b_X_partingLevel 1 = .ok (.istore_n 2, 1) := by decide +kernel
theorem d_X_partingLevel_2 : decode b_X_partingLevel 2 = .ok (.iload_n 2, 1) := by decide +kernel
theorem d_X_partingLevel_3 : decode b_X_partingLevel 3 = .ok (.iconst 4, 1) := by decide +kernel
theorem d_X_partingLevel_4 : decode b_X_partingLevel 4 = .ok (.if_icmp .ge 33, 3) := by decide +kernel
theorem d_X_partingLevel_7 : decode b_X_partingLevel 7 = .ok (.aload_n 0, 1) := by decide +kernel
theorem d_X_partingLevel_8 : decode b_X_partingLevel 8 = .ok (.iload_n 2, 1) := by decide +kernel
theorem d_X_partingLevel_9 : decode b_X_partingLevel 9 = .ok (.laload, 1) := by decide +kernel
theorem d_X_partingLevel_10 : decode b_X_partingLevel 10 = .ok (.aload_n 1, 1) := by decide +kernel
theorem d_X_partingLevel_11 : decode b_X_partingLevel 11 = .ok (.iload_n 2, 1) := by decide +kernel
theorem d_X_partingLevel_12 : decode b_X_partingLevel 12 = .ok (.laload, 1) := by decide +kernel
theorem d_X_partingLevel_13 : decode b_X_partingLevel 13 = .ok (.lxor, 1) := by decide +kernel
theorem d_X_partingLevel_14 : decode b_X_partingLevel 14 = .ok (.lstore_n 3, 1) := by decide +kernel
theorem d_X_partingLevel_15 : decode b_X_partingLevel 15 = .ok (.lload_n 3, 1) := by decide +kernel
theorem d_X_partingLevel_16 : decode b_X_partingLevel 16 = .ok (.lconst 0, 1) := by decide +kernel
theorem d_X_partingLevel_17 : decode b_X_partingLevel 17 = .ok (.lcmp, 1) := by decide +kernel
theorem d_X_partingLevel_18 : decode b_X_partingLevel 18 = .ok (.ifCond .eq 13, 3) := by decide +kernel
theorem d_X_partingLevel_21 : decode b_X_partingLevel 21 = .ok (.iload_n 2, 1) := by decide +kernel
theorem d_X_partingLevel_22 : decode b_X_partingLevel 22 = .ok (.bipush 64, 2) := by decide +kernel
theorem d_X_partingLevel_24 : decode b_X_partingLevel 24 = .ok (.imul, 1) := by decide +kernel
theorem d_X_partingLevel_25 : decode b_X_partingLevel 25 = .ok (.lload_n 3, 1) := by decide +kernel
theorem d_X_partingLevel_26 : decode b_X_partingLevel 26 = .ok (.invokestatic 145, 3) := by decide +kernel
theorem d_X_partingLevel_29 : decode b_X_partingLevel 29 = .ok (.iadd, 1) := by decide +kernel
theorem d_X_partingLevel_30 : decode b_X_partingLevel 30 = .ok (.ireturn, 1) := by decide +kernel
theorem d_X_partingLevel_31 : decode b_X_partingLevel 31 = .ok (.iinc 2 1, 3) := by decide +kernel
theorem d_X_partingLevel_34 : decode b_X_partingLevel 34 = .ok (.goto (-32), 3) := by decide +kernel
theorem d_X_partingLevel_37 : decode b_X_partingLevel 37 = .ok (.sipush 256, 3) := by decide +kernel
theorem d_X_partingLevel_40 : decode b_X_partingLevel 40 = .ok (.ireturn, 1) := by decide +kernel
theorem d_X_stalePath_0 : decode b_X_stalePath 0 = .ok (.aconst_null, 1) := by decide +kernel
theorem d_X_stalePath_1 : decode b_X_stalePath 1 = .ok (.astore_n 2, 1) := by decide +kernel
theorem d_X_stalePath_2 : decode b_X_stalePath 2 = .ok (.aload_n 0, 1) := by decide +kernel
theorem d_X_stalePath_3 : decode b_X_stalePath 3 = .ok (.getfield 26, 3) := by decide +kernel
theorem d_X_stalePath_6 : decode b_X_stalePath 6 = .ok (.astore_n 3, 1) := by decide +kernel
theorem d_X_stalePath_7 : decode b_X_stalePath 7 = .ok (.aload_n 3, 1) := by decide +kernel
theorem d_X_stalePath_8 : decode b_X_stalePath 8 = .ok (.instanceof 80, 3) := by decide +kernel
theorem d_X_stalePath_11 : decode b_X_stalePath 11 = .ok (.ifCond .eq 48, 3) := by decide +kernel
theorem d_X_stalePath_14 : decode b_X_stalePath 14 = .ok (.aload_n 3, 1) := by decide +kernel
theorem d_X_stalePath_15 : decode b_X_stalePath 15 = .ok (.checkcast 80, 3) := by decide +kernel
theorem d_X_stalePath_18 : decode b_X_stalePath 18 = .ok (.astore 4, 2) := by decide +kernel
theorem d_X_stalePath_20 : decode b_X_stalePath 20 = .ok (.aload 4, 2) := by decide +kernel
theorem d_X_stalePath_22 : decode b_X_stalePath 22 = .ok (.getfield 79, 3) := by decide +kernel
theorem d_X_stalePath_25 : decode b_X_stalePath 25 = .ok (.iload_n 1, 1) := by decide +kernel
theorem d_X_stalePath_26 : decode b_X_stalePath 26 = .ok (.if_icmp .ge 33, 3) := by decide +kernel
theorem d_X_stalePath_29 : decode b_X_stalePath 29 = .ok (.aload 4, 2) := by decide +kernel
theorem d_X_stalePath_31 : decode b_X_stalePath 31 = .ok (.iconst 0, 1) := by decide +kernel
theorem d_X_stalePath_32 : decode b_X_stalePath 32 = .ok (.putfield 151, 3) := by decide +kernel
theorem d_X_stalePath_35 : decode b_X_stalePath 35 = .ok (.aload 4, 2) := by decide +kernel
theorem d_X_stalePath_37 : decode b_X_stalePath 37 = .ok (.astore_n 2, 1) := by decide +kernel
theorem d_X_stalePath_38 : decode b_X_stalePath 38 = .ok (.aload 4, 2) := by decide +kernel
theorem d_X_stalePath_40 : decode b_X_stalePath 40 = .ok (.aload_n 0, 1) := by decide +kernel
theorem d_X_stalePath_41 : decode b_X_stalePath 41 = .ok (.getfield 9, 3) := by decide +kernel
theorem d_X_stalePath_44 : decode b_X_stalePath 44 = .ok (.aload 4, 2) := by decide +kernel
theorem d_X_stalePath_46 : decode b_X_stalePath 46 = .ok (.getfield 79, 3) := by decide +kernel
theorem d_X_stalePath_49 : decode b_X_stalePath 49 = .ok (.invokestatic 84, 3) := by decide +kernel
theorem d_X_stalePath_52 : decode b_X_stalePath 52 = .ok (.invokevirtual 88, 3) := by decide +kernel
theorem d_X_stalePath_55 : decode b_X_stalePath 55 = .ok (.astore_n 3, 1) := by decide +kernel
theorem d_X_stalePath_56 : decode b_X_stalePath 56 = .ok (.goto (-49), 3) := by decide +kernel
theorem d_X_stalePath_59 : decode b_X_stalePath 59 = .ok (.aload_n 2, 1) := by decide +kernel
theorem d_X_stalePath_60 : decode b_X_stalePath 60 = .ok (.areturn, 1) := by decide +kernel
theorem d_X_insert_0 : decode b_X_insert 0 = .ok (.aload_n 0, 1) := by decide +kernel
theorem d_X_insert_1 : decode b_X_insert 1 = .ok (.invokevirtual 112, 3) := by decide +kernel
theorem d_X_insert_4 : decode b_X_insert 4 = .ok (.astore_n 2, 1) := by decide +kernel
theorem d_X_insert_5 : decode b_X_insert 5 = .ok (.aload_n 2, 1) := by decide +kernel
theorem d_X_insert_6 : decode b_X_insert 6 = .ok (.ifnonnull 9, 3) := by decide +kernel
theorem d_X_insert_9 : decode b_X_insert 9 = .ok (.aload_n 0, 1) := by decide +kernel
theorem d_X_insert_10 : decode b_X_insert 10 = .ok (.aload_n 1, 1) := by decide +kernel
theorem d_X_insert_11 : decode b_X_insert 11 = .ok (.putfield 26, 3) := by decide +kernel
theorem d_X_insert_14 : decode b_X_insert 14 = .ok (.return_, 1) := by decide +kernel
theorem d_X_insert_15 : decode b_X_insert 15 = .ok (.aload_n 0, 1) := by decide +kernel
theorem d_X_insert_16 : decode b_X_insert 16 = .ok (.getfield 9, 3) := by decide +kernel
theorem d_X_insert_19 : decode b_X_insert 19 = .ok (.aload_n 2, 1) := by decide +kernel
theorem d_X_insert_20 : decode b_X_insert 20 = .ok (.getfield 115, 3) := by decide +kernel
theorem d_X_insert_23 : decode b_X_insert 23 = .ok (.invokestatic 116, 3) := by decide +kernel
theorem d_X_insert_26 : decode b_X_insert 26 = .ok (.istore_n 3, 1) := by decide +kernel
theorem d_X_insert_27 : decode b_X_insert 27 = .ok (.aload_n 0, 1) := by decide +kernel
theorem d_X_insert_28 : decode b_X_insert 28 = .ok (.iload_n 3, 1) := by decide +kernel
theorem d_X_insert_29 : decode b_X_insert 29 = .ok (.invokevirtual 54, 3) := by decide +kernel
theorem d_X_insert_32 : decode b_X_insert 32 = .ok (.astore 4, 2) := by decide +kernel
theorem d_X_insert_34 : decode b_X_insert 34 = .ok (.aload 4, 2) := by decide +kernel
theorem d_X_insert_36 : decode b_X_insert 36 = .ok (.ifnonnull 10, 3) := by decide +kernel
theorem d_X_insert_39 : decode b_X_insert 39 = .ok (.aload_n 0, 1) := by decide +kernel
theorem d_X_insert_40 : decode b_X_insert 40 = .ok (.getfield 26, 3) := by decide +kernel
theorem d_X_insert_43 : decode b_X_insert 43 = .ok (.goto 20, 3) := by decide +kernel
theorem d_X_insert_46 : decode b_X_insert 46 = .ok (.aload 4, 2) := by decide +kernel
theorem d_X_insert_48 : decode b_X_insert 48 = .ok (.aload_n 0, 1) := by decide +kernel
theorem d_X_insert_49 : decode b_X_insert 49 = .ok (.getfield 9, 3) := by decide +kernel
theorem d_X_insert_52 : decode b_X_insert 52 = .ok (.aload 4, 2) := by decide +kernel
theorem d_X_insert_54 : decode b_X_insert 54 = .ok (.getfield 79, 3) := by decide +kernel
theorem d_X_insert_57 : decode b_X_insert 57 = .ok (.invokestatic 84, 3) := by decide +kernel
theorem d_X_insert_60 : decode b_X_insert 60 = .ok (.invokevirtual 88, 3) := by decide +kernel
theorem d_X_insert_63 : decode b_X_insert 63 = .ok (.astore 5, 2) := by decide +kernel
theorem d_X_insert_65 : decode b_X_insert 65 = .ok (.aload 5, 2) := by decide +kernel
theorem d_X_insert_67 : decode b_X_insert 67 = .ok (.iconst 0, 1) := by decide +kernel
theorem d_X_insert_68 : decode b_X_insert 68 = .ok (.putfield 92, 3) := by decide +kernel
theorem d_X_insert_71 : decode b_X_insert 71 = .ok (.aload_n 0, 1) := by decide +kernel
theorem d_X_insert_72 : decode b_X_insert 72 = .ok (.getfield 9, 3) := by decide +kernel
theorem d_X_insert_75 : decode b_X_insert 75 = .ok (.iload_n 3, 1) := by decide +kernel
theorem d_X_insert_76 : decode b_X_insert 76 = .ok (.invokestatic 84, 3) := by decide +kernel
theorem d_X_insert_79 : decode b_X_insert 79 = .ok (.istore 6, 2) := by decide +kernel
theorem d_X_insert_81 : decode b_X_insert 81 = .ok (.aload_n 0, 1) := by decide +kernel
theorem d_X_insert_82 : decode b_X_insert 82 = .ok (.aload 4, 2) := by decide +kernel
theorem d_X_insert_84 : decode b_X_insert 84 = .ok (.new 80, 3) := by decide +kernel
theorem d_X_insert_87 : decode b_X_insert 87 = .ok (.dup, 1) := by decide +kernel
theorem d_X_insert_88 : decode b_X_insert 88 = .ok (.aload_n 1, 1) := by decide +kernel
theorem d_X_insert_89 : decode b_X_insert 89 = .ok (.getfield 115, 3) := by decide +kernel
theorem d_X_insert_92 : decode b_X_insert 92 = .ok (.iload_n 3, 1) := by decide +kernel
theorem d_X_insert_93 : decode b_X_insert 93 = .ok (.iload 6, 2) := by decide +kernel
theorem d_X_insert_95 : decode b_X_insert 95 = .ok (.ifCond .eq 8, 3) := by decide +kernel
theorem d_X_insert_98 : decode b_X_insert 98 = .ok (.aload 5, 2) := by decide +kernel
theorem d_X_insert_100 : decode b_X_insert 100 = .ok (.goto 4, 3) := by decide +kernel
theorem d_X_insert_103 : decode b_X_insert 103 = .ok (.aload_n 1, 1) := by decide +kernel
theorem d_X_insert_104 : decode b_X_insert 104 = .ok (.iload 6, 2) := by decide +kernel
theorem d_X_insert_106 : decode b_X_insert 106 = .ok (.ifCond .eq 7, 3) := by decide +kernel
theorem d_X_insert_109 : decode b_X_insert 109 = .ok (.aload_n 1, 1) := by decide +kernel
theorem d_X_insert_110 : decode b_X_insert 110 = .ok (.goto 5, 3) := by decide +kernel
theorem d_X_insert_113 : decode b_X_insert 113 = .ok (.aload 5, 2) := by decide +kernel
theorem d_X_insert_115 : decode b_X_insert 115 = .ok (.invokespecial 152, 3) := by decide +kernel
theorem d_X_insert_118 : decode b_X_insert 118 = .ok (.invokevirtual 93, 3) := by decide +kernel
theorem d_X_insert_121 : decode b_X_insert 121 = .ok (.return_, 1) := by decide +kernel
theorem d_X_hang_0 : decode b_X_hang 0 = .ok (.aload_n 1, 1) := by decide +kernel
theorem d_X_hang_1 : decode b_X_hang 1 = .ok (.ifnonnull 11, 3) := by decide +kernel
theorem d_X_hang_4 : decode b_X_hang 4 = .ok (.aload_n 0, 1) := by decide +kernel
theorem d_X_hang_5 : decode b_X_hang 5 = .ok (.aload_n 2, 1) := by decide +kernel
theorem d_X_hang_6 : decode b_X_hang 6 = .ok (.putfield 26, 3) := by decide +kernel
theorem d_X_hang_9 : decode b_X_hang 9 = .ok (.goto 19, 3) := by decide +kernel
theorem d_X_hang_12 : decode b_X_hang 12 = .ok (.aload_n 1, 1) := by decide +kernel
theorem d_X_hang_13 : decode b_X_hang 13 = .ok (.aload_n 0, 1) := by decide +kernel
theorem d_X_hang_14 : decode b_X_hang 14 = .ok (.getfield 9, 3) := by decide +kernel
theorem d_X_hang_17 : decode b_X_hang 17 = .ok (.aload_n 1, 1) := by decide +kernel
theorem d_X_hang_18 : decode b_X_hang 18 = .ok (.getfield 79, 3) := by decide +kernel
theorem d_X_hang_21 : decode b_X_hang 21 = .ok (.invokestatic 84, 3) := by decide +kernel
theorem d_X_hang_24 : decode b_X_hang 24 = .ok (.aload_n 2, 1) := by decide +kernel
theorem d_X_hang_25 : decode b_X_hang 25 = .ok (.invokevirtual 155, 3) := by decide +kernel
theorem d_X_hang_28 : decode b_X_hang 28 = .ok (.return_, 1) := by decide +kernel
theorem d_X_remove_0 : decode b_X_remove 0 = .ok (.aload_n 0, 1) := by decide +kernel
theorem d_X_remove_1 : decode b_X_remove 1 = .ok (.invokevirtual 50, 3) := by decide +kernel
theorem d_X_remove_4 : decode b_X_remove 4 = .ok (.ifnonnull 6, 3) := by decide +kernel
theorem d_X_remove_7 : decode b_X_remove 7 = .ok (.bipush (-2), 2) := by decide +kernel
theorem d_X_remove_9 : decode b_X_remove 9 = .ok (.ireturn, 1) := by decide +kernel
theorem d_X_remove_10 : decode b_X_remove 10 = .ok (.aload_n 0, 1) := by decide +kernel
theorem d_X_remove_11 : decode b_X_remove 11 = .ok (.sipush 256, 3) := by decide +kernel
theorem d_X_remove_14 : decode b_X_remove 14 = .ok (.invokevirtual 54, 3) := by decide +kernel
theorem d_X_remove_17 : decode b_X_remove 17 = .ok (.astore_n 1, 1) := by decide +kernel
theorem d_X_remove_18 : decode b_X_remove 18 = .ok (.aload_n 1, 1) := by decide +kernel
theorem d_X_remove_19 : decode b_X_remove 19 = .ok (.ifnonnull 11, 3) := by decide +kernel
theorem d_X_remove_22 : decode b_X_remove 22 = .ok (.aload_n 0, 1) := by decide +kernel
theorem d_X_remove_23 : decode b_X_remove 23 = .ok (.aconst_null, 1) := by decide +kernel
theorem d_X_remove_24 : decode b_X_remove 24 = .ok (.putfield 26, 3) := by decide +kernel
theorem d_X_remove_27 : decode b_X_remove 27 = .ok (.goto 45, 3) := by decide +kernel
theorem d_X_remove_30 : decode b_X_remove 30 = .ok (.aload_n 1, 1) := by decide +kernel
theorem d_X_remove_31 : decode b_X_remove 31 = .ok (.aload_n 0, 1) := by decide +kernel
theorem d_X_remove_32 : decode b_X_remove 32 = .ok (.getfield 9, 3) := by decide +kernel
theorem d_X_remove_35 : decode b_X_remove 35 = .ok (.aload_n 1, 1) := by decide +kernel
theorem d_X_remove_36 : decode b_X_remove 36 = .ok (.getfield 79, 3) := by decide +kernel
theorem d_X_remove_39 : decode b_X_remove 39 = .ok (.invokestatic 84, 3) := by decide +kernel
theorem d_X_remove_42 : decode b_X_remove 42 = .ok (.ifCond .ne 7, 3) := by decide +kernel
theorem d_X_remove_45 : decode b_X_remove 45 = .ok (.iconst 1, 1) := by decide +kernel
theorem d_X_remove_46 : decode b_X_remove 46 = .ok (.goto 4, 3) := by decide +kernel
theorem d_X_remove_49 : decode b_X_remove 49 = .ok (.iconst 0, 1) := by decide +kernel
theorem d_X_remove_50 : decode b_X_remove 50 = .ok (.invokevirtual 88, 3) := by decide +kernel
theorem d_X_remove_53 : decode b_X_remove 53 = .ok (.astore_n 2, 1) := by decide +kernel
theorem d_X_remove_54 : decode b_X_remove 54 = .ok (.aload_n 2, 1) := by decide +kernel
theorem d_X_remove_55 : decode b_X_remove 55 = .ok (.iconst 0, 1) := by decide +kernel
theorem d_X_remove_56 : decode b_X_remove 56 = .ok (.putfield 92, 3) := by decide +kernel
theorem d_X_remove_59 : decode b_X_remove 59 = .ok (.aload_n 0, 1) := by decide +kernel
theorem d_X_remove_60 : decode b_X_remove 60 = .ok (.aload_n 0, 1) := by decide +kernel
theorem d_X_remove_61 : decode b_X_remove 61 = .ok (.aload_n 1, 1) := by decide +kernel
theorem d_X_remove_62 : decode b_X_remove 62 = .ok (.getfield 79, 3) := by decide +kernel
theorem d_X_remove_65 : decode b_X_remove 65 = .ok (.invokevirtual 54, 3) := by decide +kernel
theorem d_X_remove_68 : decode b_X_remove 68 = .ok (.aload_n 2, 1) := by decide +kernel
theorem d_X_remove_69 : decode b_X_remove 69 = .ok (.invokevirtual 93, 3) := by decide +kernel
theorem d_X_remove_72 : decode b_X_remove 72 = .ok (.aload_n 0, 1) := by decide +kernel
theorem d_X_remove_73 : decode b_X_remove 73 = .ok (.dup, 1) := by decide +kernel
theorem d_X_remove_74 : decode b_X_remove 74 = .ok (.getfield 30, 3) := by decide +kernel
theorem d_X_remove_77 : decode b_X_remove 77 = .ok (.iconst 1, 1) := by decide +kernel
theorem d_X_remove_78 : decode b_X_remove 78 = .ok (.isub, 1) := by decide +kernel
theorem d_X_remove_79 : decode b_X_remove 79 = .ok (.putfield 30, 3) := by decide +kernel
theorem d_X_remove_82 : decode b_X_remove 82 = .ok (.iconst 1, 1) := by decide +kernel
theorem d_X_remove_83 : decode b_X_remove 83 = .ok (.ireturn, 1) := by decide +kernel
theorem d_X_has_0 : decode b_X_has 0 = .ok (.aload_n 0, 1) := by decide +kernel
theorem d_X_has_1 : decode b_X_has 1 = .ok (.invokevirtual 50, 3) := by decide +kernel
theorem d_X_has_4 : decode b_X_has 4 = .ok (.ifnull 7, 3) := by decide +kernel
theorem d_X_has_7 : decode b_X_has 7 = .ok (.iconst 1, 1) := by decide +kernel
theorem d_X_has_8 : decode b_X_has 8 = .ok (.goto 4, 3) := by decide +kernel
theorem d_X_has_11 : decode b_X_has 11 = .ok (.iconst 0, 1) := by decide +kernel
theorem d_X_has_12 : decode b_X_has 12 = .ok (.ireturn, 1) := by decide +kernel
theorem d_X_value_0 : decode b_X_value 0 = .ok (.aload_n 0, 1) := by decide +kernel
theorem d_X_value_1 : decode b_X_value 1 = .ok (.invokevirtual 50, 3) := by decide +kernel
theorem d_X_value_4 : decode b_X_value 4 = .ok (.astore_n 2, 1) := by decide +kernel
theorem d_X_value_5 : decode b_X_value 5 = .ok (.aload_n 2, 1) := by decide +kernel
theorem d_X_value_6 : decode b_X_value 6 = .ok (.ifnull 19, 3) := by decide +kernel
theorem d_X_value_9 : decode b_X_value 9 = .ok (.iload_n 1, 1) := by decide +kernel
theorem d_X_value_10 : decode b_X_value 10 = .ok (.invokestatic 97, 3) := by decide +kernel
theorem d_X_value_13 : decode b_X_value 13 = .ok (.ifCond .eq 12, 3) := by decide +kernel
theorem d_X_value_16 : decode b_X_value 16 = .ok (.aload_n 2, 1) := by decide +kernel
theorem d_X_value_17 : decode b_X_value 17 = .ok (.getfield 64, 3) := by decide +kernel
theorem d_X_value_20 : decode b_X_value 20 = .ok (.iload_n 1, 1) := by decide +kernel
theorem d_X_value_21 : decode b_X_value 21 = .ok (.laload, 1) := by decide +kernel
theorem d_X_value_22 : decode b_X_value 22 = .ok (.goto 4, 3) := by decide +kernel
theorem d_X_value_25 : decode b_X_value 25 = .ok (.lconst 0, 1) := by decide +kernel
theorem d_X_value_26 : decode b_X_value 26 = .ok (.lreturn, 1) := by decide +kernel
theorem d_X_isNumber_0 : decode b_X_isNumber 0 = .ok (.iload_n 0, 1) := by decide +kernel
theorem d_X_isNumber_1 : decode b_X_isNumber 1 = .ok (.ifCond .lt 12, 3) := by decide +kernel
theorem d_X_isNumber_4 : decode b_X_isNumber 4 = .ok (.iload_n 0, 1) := by decide +kernel
theorem d_X_isNumber_5 : decode b_X_isNumber 5 = .ok (.iconst 4, 1) := by decide +kernel
theorem d_X_isNumber_6 : decode b_X_isNumber 6 = .ok (.if_icmp .ge 7, 3) := by decide +kernel
theorem d_X_isNumber_9 : decode b_X_isNumber 9 = .ok (.iconst 1, 1) := by decide +kernel
theorem d_X_isNumber_10 : decode b_X_isNumber 10 = .ok (.goto 4, 3) := by decide +kernel
theorem d_X_isNumber_13 : decode b_X_isNumber 13 = .ok (.iconst 0, 1) := by decide +kernel
theorem d_X_isNumber_14 : decode b_X_isNumber 14 = .ok (.ireturn, 1) := by decide +kernel
theorem d_X_count_0 : decode b_X_count 0 = .ok (.aload_n 0, 1) := by decide +kernel
theorem d_X_count_1 : decode b_X_count 1 = .ok (.getfield 30, 3) := by decide +kernel
theorem d_X_count_4 : decode b_X_count 4 = .ok (.ireturn, 1) := by decide +kernel
theorem d_X_root_0 : decode b_X_root 0 = .ok (.aload_n 0, 1) := by decide +kernel
theorem d_X_root_1 : decode b_X_root 1 = .ok (.getfield 26, 3) := by decide +kernel
theorem d_X_root_4 : decode b_X_root 4 = .ok (.ifnull 10, 3) := by decide +kernel
theorem d_X_root_7 : decode b_X_root 7 = .ok (.iload_n 1, 1) := by decide +kernel
theorem d_X_root_8 : decode b_X_root 8 = .ok (.invokestatic 97, 3) := by decide +kernel
theorem d_X_root_11 : decode b_X_root 11 = .ok (.ifCond .ne 5, 3) := by decide +kernel
theorem d_X_root_14 : decode b_X_root 14 = .ok (.lconst 0, 1) := by decide +kernel
theorem d_X_root_15 : decode b_X_root 15 = .ok (.lreturn, 1) := by decide +kernel
theorem d_X_root_16 : decode b_X_root 16 = .ok (.aload_n 0, 1) := by decide +kernel
theorem d_X_root_17 : decode b_X_root 17 = .ok (.invokevirtual 101, 3) := by decide +kernel
theorem d_X_root_20 : decode b_X_root 20 = .ok (.aload_n 0, 1) := by decide +kernel
theorem d_X_root_21 : decode b_X_root 21 = .ok (.getfield 26, 3) := by decide +kernel
theorem d_X_root_24 : decode b_X_root 24 = .ok (.getfield 104, 3) := by decide +kernel
theorem d_X_root_27 : decode b_X_root 27 = .ok (.iload_n 1, 1) := by decide +kernel
theorem d_X_root_28 : decode b_X_root 28 = .ok (.laload, 1) := by decide +kernel
theorem d_X_root_29 : decode b_X_root 29 = .ok (.lreturn, 1) := by decide +kernel
theorem d_X_refresh_0 : decode b_X_refresh 0 = .ok (.iconst 0, 1) := by decide +kernel
theorem d_X_refresh_1 : decode b_X_refresh 1 = .ok (.istore_n 1, 1) := by decide +kernel
theorem d_X_refresh_2 : decode b_X_refresh 2 = .ok (.aload_n 0, 1) := by decide +kernel
theorem d_X_refresh_3 : decode b_X_refresh 3 = .ok (.getfield 26, 3) := by decide +kernel
theorem d_X_refresh_6 : decode b_X_refresh 6 = .ok (.ifnull 25, 3) := by decide +kernel
theorem d_X_refresh_9 : decode b_X_refresh 9 = .ok (.aload_n 0, 1) := by decide +kernel
theorem d_X_refresh_10 : decode b_X_refresh 10 = .ok (.getfield 26, 3) := by decide +kernel
theorem d_X_refresh_13 : decode b_X_refresh 13 = .ok (.getfield 92, 3) := by decide +kernel
theorem d_X_refresh_16 : decode b_X_refresh 16 = .ok (.ifCond .ne 15, 3) := by decide +kernel
theorem d_X_refresh_19 : decode b_X_refresh 19 = .ok (.aload_n 0, 1) := by decide +kernel
theorem d_X_refresh_20 : decode b_X_refresh 20 = .ok (.getfield 22, 3) := by decide +kernel
theorem d_X_refresh_23 : decode b_X_refresh 23 = .ok (.iconst 0, 1) := by decide +kernel
theorem d_X_refresh_24 : decode b_X_refresh 24 = .ok (.aload_n 0, 1) := by decide +kernel
theorem d_X_refresh_25 : decode b_X_refresh 25 = .ok (.getfield 26, 3) := by decide +kernel
theorem d_X_refresh_28 : decode b_X_refresh 28 = .ok (.aastore, 1) := by decide +kernel
theorem d_X_refresh_29 : decode b_X_refresh 29 = .ok (.iconst 1, 1) := by decide +kernel
theorem d_X_refresh_30 : decode b_X_refresh 30 = .ok (.istore_n 1, 1) := by decide +kernel
theorem d_X_refresh_31 : decode b_X_refresh 31 = .ok (.iconst 0, 1) := by decide +kernel
theorem d_X_refresh_32 : decode b_X_refresh 32 = .ok (.istore_n 2, 1) := by decide +kernel
theorem d_X_refresh_33 : decode b_X_refresh 33 = .ok (.iload_n 1, 1) := by decide +kernel
theorem d_X_refresh_34 : decode b_X_refresh 34 = .ok (.ifCond .le 114, 3) := by decide +kernel
theorem d_X_refresh_37 : decode b_X_refresh 37 = .ok (.iload_n 2, 1) := by decide +kernel
theorem d_X_refresh_38 : decode b_X_refresh 38 = .ok (.sipush 2048, 3) := by decide +kernel
theorem d_X_refresh_41 : decode b_X_refresh 41 = .ok (.if_icmp .ge 107, 3) := by decide +kernel
theorem d_X_refresh_44 : decode b_X_refresh 44 = .ok (.aload_n 0, 1) := by decide +kernel
theorem d_X_refresh_45 : decode b_X_refresh 45 = .ok (.getfield 22, 3) := by decide +kernel
theorem d_X_refresh_48 : decode b_X_refresh 48 = .ok (.iload_n 1, 1) := by decide +kernel
theorem d_X_refresh_49 : decode b_X_refresh 49 = .ok (.iconst 1, 1) := by decide +kernel
theorem d_X_refresh_50 : decode b_X_refresh 50 = .ok (.isub, 1) := by decide +kernel
theorem d_X_refresh_51 : decode b_X_refresh 51 = .ok (.aaload, 1) := by decide +kernel
theorem d_X_refresh_52 : decode b_X_refresh 52 = .ok (.astore_n 3, 1) := by decide +kernel
theorem d_X_refresh_53 : decode b_X_refresh 53 = .ok (.aload_n 3, 1) := by decide +kernel
theorem d_X_refresh_54 : decode b_X_refresh 54 = .ok (.instanceof 80, 3) := by decide +kernel
theorem d_X_refresh_57 : decode b_X_refresh 57 = .ok (.ifCond .eq 17, 3) := by decide +kernel
theorem d_X_refresh_60 : decode b_X_refresh 60 = .ok (.aload_n 3, 1) := by decide +kernel
theorem d_X_refresh_61 : decode b_X_refresh 61 = .ok (.checkcast 80, 3) := by decide +kernel
theorem d_X_refresh_64 : decode b_X_refresh 64 = .ok (.astore 5, 2) := by decide +kernel
theorem d_X_refresh_66 : decode b_X_refresh 66 = .ok (.aload 5, 2) := by decide +kernel
theorem d_X_refresh_68 : decode b_X_refresh 68 = .ok (.invokevirtual 159, 3) := by decide +kernel
theorem d_X_refresh_71 : decode b_X_refresh 71 = .ok (.goto 4, 3) := by decide +kernel
theorem d_X_refresh_74 : decode b_X_refresh 74 = .ok (.aconst_null, 1) := by decide +kernel
theorem d_X_refresh_75 : decode b_X_refresh 75 = .ok (.astore 4, 2) := by decide +kernel
theorem d_X_refresh_77 : decode b_X_refresh 77 = .ok (.aload 4, 2) := by decide +kernel
theorem d_X_refresh_79 : decode b_X_refresh 79 = .ok (.ifnull 24, 3) := by decide +kernel
theorem d_X_refresh_82 : decode b_X_refresh 82 = .ok (.iload_n 1, 1) := by decide +kernel
theorem d_X_refresh_83 : decode b_X_refresh 83 = .ok (.sipush 257, 3) := by decide +kernel
theorem d_X_refresh_86 : decode b_X_refresh 86 = .ok (.if_icmp .ge 17, 3) := by decide +kernel
theorem d_X_refresh_89 : decode b_X_refresh 89 = .ok (.aload_n 0, 1) := by decide +kernel
theorem d_X_refresh_90 : decode b_X_refresh 90 = .ok (.getfield 22, 3) := by decide +kernel
theorem d_X_refresh_93 : decode b_X_refresh 93 = .ok (.iload_n 1, 1) := by decide +kernel
theorem d_X_refresh_94 : decode b_X_refresh 94 = .ok (.aload 4, 2) := by decide +kernel
theorem d_X_refresh_96 : decode b_X_refresh 96 = .ok (.aastore, 1) := by decide +kernel
theorem d_X_refresh_97 : decode b_X_refresh 97 = .ok (.iinc 1 1, 3) := by decide +kernel
theorem d_X_refresh_100 : decode b_X_refresh 100 = .ok (.goto 42, 3) := by decide +kernel
theorem d_X_refresh_103 : decode b_X_refresh 103 = .ok (.aload_n 0, 1) := by decide +kernel
theorem d_X_refresh_104 : decode b_X_refresh 104 = .ok (.aload_n 3, 1) := by decide +kernel
theorem d_X_refresh_105 : decode b_X_refresh 105 = .ok (.iload_n 1, 1) := by decide +kernel
theorem d_X_refresh_106 : decode b_X_refresh 106 = .ok (.iconst 1, 1) := by decide +kernel
theorem d_X_refresh_107 : decode b_X_refresh 107 = .ok (.if_icmp .le 19, 3) := by decide +kernel
theorem d_X_refresh_110 : decode b_X_refresh 110 = .ok (.aload_n 0, 1) := by decide +kernel
theorem d_X_refresh_111 : decode b_X_refresh 111 = .ok (.getfield 22, 3) := by decide +kernel
theorem d_X_refresh_114 : decode b_X_refresh 114 = .ok (.iload_n 1, 1) := by decide +kernel
theorem d_X_refresh_115 : decode b_X_refresh 115 = .ok (.iconst 2, 1) := by decide +kernel
theorem d_X_refresh_116 : decode b_X_refresh 116 = .ok (.isub, 1) := by decide +kernel
theorem d_X_refresh_117 : decode b_X_refresh 117 = .ok (.aaload, 1) := by decide +kernel
theorem d_X_refresh_118 : decode b_X_refresh 118 = .ok (.getfield 163, 3) := by decide +kernel
theorem d_X_refresh_121 : decode b_X_refresh 121 = .ok (.iconst 1, 1) := by decide +kernel
theorem d_X_refresh_122 : decode b_X_refresh 122 = .ok (.iadd, 1) := by decide +kernel
theorem d_X_refresh_123 : decode b_X_refresh 123 = .ok (.goto 4, 3) := by decide +kernel
theorem d_X_refresh_126 : decode b_X_refresh 126 = .ok (.iconst 0, 1) := by decide +kernel
theorem d_X_refresh_127 : decode b_X_refresh 127 = .ok (.aload_n 3, 1) := by decide +kernel
theorem d_X_refresh_128 : decode b_X_refresh 128 = .ok (.getfield 104, 3) := by decide +kernel
theorem d_X_refresh_131 : decode b_X_refresh 131 = .ok (.invokevirtual 124, 3) := by decide +kernel
theorem d_X_refresh_134 : decode b_X_refresh 134 = .ok (.aload_n 3, 1) := by decide +kernel
theorem d_X_refresh_135 : decode b_X_refresh 135 = .ok (.iconst 1, 1) := by decide +kernel
theorem d_X_refresh_136 : decode b_X_refresh 136 = .ok (.putfield 92, 3) := by decide +kernel
theorem d_X_refresh_139 : decode b_X_refresh 139 = .ok (.iinc 1 (-1), 3) := by decide +kernel
theorem d_X_refresh_142 : decode b_X_refresh 142 = .ok (.iinc 2 1, 3) := by decide +kernel
theorem d_X_refresh_145 : decode b_X_refresh 145 = .ok (.goto (-112), 3) := by decide +kernel
theorem d_X_refresh_148 : decode b_X_refresh 148 = .ok (.return_, 1) := by decide +kernel
theorem d_X_hashAt_0 : decode b_X_hashAt 0 = .ok (.aload_n 1, 1) := by decide +kernel
theorem d_X_hashAt_1 : decode b_X_hashAt 1 = .ok (.instanceof 59, 3) := by decide +kernel
theorem d_X_hashAt_4 : decode b_X_hashAt 4 = .ok (.ifCond .eq 31, 3) := by decide +kernel
theorem d_X_hashAt_7 : decode b_X_hashAt 7 = .ok (.aload_n 1, 1) := by decide +kernel
theorem d_X_hashAt_8 : decode b_X_hashAt 8 = .ok (.checkcast 59, 3) := by decide +kernel
theorem d_X_hashAt_11 : decode b_X_hashAt 11 = .ok (.astore 4, 2) := by decide +kernel
theorem d_X_hashAt_13 : decode b_X_hashAt 13 = .ok (.aload_n 0, 1) := by decide +kernel
theorem d_X_hashAt_14 : decode b_X_hashAt 14 = .ok (.getfield 16, 3) := by decide +kernel
theorem d_X_hashAt_17 : decode b_X_hashAt 17 = .ok (.iconst 0, 1) := by decide +kernel
theorem d_X_hashAt_18 : decode b_X_hashAt 18 = .ok (.aload 4, 2) := by decide +kernel
theorem d_X_hashAt_20 : decode b_X_hashAt 20 = .ok (.getfield 115, 3) := by decide +kernel
theorem d_X_hashAt_23 : decode b_X_hashAt 23 = .ok (.aload 4, 2) := by decide +kernel
theorem d_X_hashAt_25 : decode b_X_hashAt 25 = .ok (.getfield 64, 3) := by decide +kernel
theorem d_X_hashAt_28 : decode b_X_hashAt 28 = .ok (.aload_n 3, 1) := by decide +kernel
theorem d_X_hashAt_29 : decode b_X_hashAt 29 = .ok (.invokevirtual 164, 3) := by decide +kernel
theorem d_X_hashAt_32 : decode b_X_hashAt 32 = .ok (.goto 107, 3) := by decide +kernel
theorem d_X_hashAt_35 : decode b_X_hashAt 35 = .ok (.aload_n 1, 1) := by decide +kernel
theorem d_X_hashAt_36 : decode b_X_hashAt 36 = .ok (.instanceof 80, 3) := by decide +kernel
theorem d_X_hashAt_39 : decode b_X_hashAt 39 = .ok (.ifCond .eq 100, 3) := by decide +kernel
theorem d_X_hashAt_42 : decode b_X_hashAt 42 = .ok (.aload_n 1, 1) := by decide +kernel
theorem d_X_hashAt_43 : decode b_X_hashAt 43 = .ok (.checkcast 80, 3) := by decide +kernel
theorem d_X_hashAt_46 : decode b_X_hashAt 46 = .ok (.astore 5, 2) := by decide +kernel
theorem d_X_hashAt_48 : decode b_X_hashAt 48 = .ok (.aload_n 0, 1) := by decide +kernel
theorem d_X_hashAt_49 : decode b_X_hashAt 49 = .ok (.getfield 16, 3) := by decide +kernel
theorem d_X_hashAt_52 : decode b_X_hashAt 52 = .ok (.iconst 1, 1) := by decide +kernel
theorem d_X_hashAt_53 : decode b_X_hashAt 53 = .ok (.aload 5, 2) := by decide +kernel
theorem d_X_hashAt_55 : decode b_X_hashAt 55 = .ok (.getfield 168, 3) := by decide +kernel
theorem d_X_hashAt_58 : decode b_X_hashAt 58 = .ok (.getfield 104, 3) := by decide +kernel
theorem d_X_hashAt_61 : decode b_X_hashAt 61 = .ok (.aload 5, 2) := by decide +kernel
theorem d_X_hashAt_63 : decode b_X_hashAt 63 = .ok (.getfield 171, 3) := by decide +kernel
theorem d_X_hashAt_66 : decode b_X_hashAt 66 = .ok (.getfield 104, 3) := by decide +kernel
theorem d_X_hashAt_69 : decode b_X_hashAt 69 = .ok (.aload_n 3, 1) := by decide +kernel
theorem d_X_hashAt_70 : decode b_X_hashAt 70 = .ok (.invokevirtual 164, 3) := by decide +kernel
theorem d_X_hashAt_73 : decode b_X_hashAt 73 = .ok (.aload 5, 2) := by decide +kernel
theorem d_X_hashAt_75 : decode b_X_hashAt 75 = .ok (.getfield 79, 3) := by decide +kernel
theorem d_X_hashAt_78 : decode b_X_hashAt 78 = .ok (.iconst 1, 1) := by decide +kernel
theorem d_X_hashAt_79 : decode b_X_hashAt 79 = .ok (.isub, 1) := by decide +kernel
theorem d_X_hashAt_80 : decode b_X_hashAt 80 = .ok (.istore 6, 2) := by decide +kernel
theorem d_X_hashAt_82 : decode b_X_hashAt 82 = .ok (.iload 6, 2) := by decide +kernel
theorem d_X_hashAt_84 : decode b_X_hashAt 84 = .ok (.iload_n 2, 1) := by decide +kernel
theorem d_X_hashAt_85 : decode b_X_hashAt 85 = .ok (.if_icmp .lt 54, 3) := by decide +kernel
theorem d_X_hashAt_88 : decode b_X_hashAt 88 = .ok (.aload 5, 2) := by decide +kernel
theorem d_X_hashAt_90 : decode b_X_hashAt 90 = .ok (.getfield 174, 3) := by decide +kernel
theorem d_X_hashAt_93 : decode b_X_hashAt 93 = .ok (.iload 6, 2) := by decide +kernel
theorem d_X_hashAt_95 : decode b_X_hashAt 95 = .ok (.invokestatic 84, 3) := by decide +kernel
theorem d_X_hashAt_98 : decode b_X_hashAt 98 = .ok (.istore 7, 2) := by decide +kernel
theorem d_X_hashAt_100 : decode b_X_hashAt 100 = .ok (.aload_n 0, 1) := by decide +kernel
theorem d_X_hashAt_101 : decode b_X_hashAt 101 = .ok (.getfield 16, 3) := by decide +kernel
theorem d_X_hashAt_104 : decode b_X_hashAt 104 = .ok (.iconst 1, 1) := by decide +kernel
theorem d_X_hashAt_105 : decode b_X_hashAt 105 = .ok (.iload 7, 2) := by decide +kernel
theorem d_X_hashAt_107 : decode b_X_hashAt 107 = .ok (.ifCond .eq 9, 3) := by decide +kernel
theorem d_X_hashAt_110 : decode b_X_hashAt 110 = .ok (.getstatic 175, 3) := by decide +kernel
theorem d_X_hashAt_113 : decode b_X_hashAt 113 = .ok (.goto 4, 3) := by decide +kernel
theorem d_X_hashAt_116 : decode b_X_hashAt 116 = .ok (.aload_n 3, 1) := by decide +kernel
theorem d_X_hashAt_117 : decode b_X_hashAt 117 = .ok (.iload 7, 2) := by decide +kernel
theorem d_X_hashAt_119 : decode b_X_hashAt 119 = .ok (.ifCond .eq 7, 3) := by decide +kernel
theorem d_X_hashAt_122 : decode b_X_hashAt 122 = .ok (.aload_n 3, 1) := by decide +kernel
theorem d_X_hashAt_123 : decode b_X_hashAt 123 = .ok (.goto 6, 3) := by decide +kernel
theorem d_X_hashAt_126 : decode b_X_hashAt 126 = .ok (.getstatic 175, 3) := by decide +kernel
theorem d_X_hashAt_129 : decode b_X_hashAt 129 = .ok (.aload_n 3, 1) := by decide +kernel
theorem d_X_hashAt_130 : decode b_X_hashAt 130 = .ok (.invokevirtual 164, 3) := by decide +kernel
theorem d_X_hashAt_133 : decode b_X_hashAt 133 = .ok (.iinc 6 (-1), 3) := by decide +kernel
theorem d_X_hashAt_136 : decode b_X_hashAt 136 = .ok (.goto (-54), 3) := by decide +kernel
theorem d_X_hashAt_139 : decode b_X_hashAt 139 = .ok (.return_, 1) := by decide +kernel
theorem d_X_keepSibling_0 : decode b_X_keepSibling 0 = .ok (.aload_n 2, 1) := by decide +kernel
theorem d_X_keepSibling_1 : decode b_X_keepSibling 1 = .ok (.iconst 0, 1) := by decide +kernel
theorem d_X_keepSibling_2 : decode b_X_keepSibling 2 = .ok (.aload_n 0, 1) := by decide +kernel
theorem d_X_keepSibling_3 : decode b_X_keepSibling 3 = .ok (.getfield 34, 3) := by decide +kernel
theorem d_X_keepSibling_6 : decode b_X_keepSibling 6 = .ok (.iload_n 1, 1) := by decide +kernel
theorem d_X_keepSibling_7 : decode b_X_keepSibling 7 = .ok (.iconst 4, 1) := by decide +kernel
theorem d_X_keepSibling_8 : decode b_X_keepSibling 8 = .ok (.imul, 1) := by decide +kernel
theorem d_X_keepSibling_9 : decode b_X_keepSibling 9 = .ok (.iconst 4, 1) := by decide +kernel
theorem d_X_keepSibling_10 : decode b_X_keepSibling 10 = .ok (.invokestatic 178, 3) := by decide +kernel
theorem d_X_keepSibling_13 : decode b_X_keepSibling 13 = .ok (.return_, 1) := by decide +kernel
theorem d_X_keepEnd_0 : decode b_X_keepEnd 0 = .ok (.aload_n 1, 1) := by decide +kernel
theorem d_X_keepEnd_1 : decode b_X_keepEnd 1 = .ok (.getfield 115, 3) := by decide +kernel
theorem d_X_keepEnd_4 : decode b_X_keepEnd 4 = .ok (.iconst 0, 1) := by decide +kernel
theorem d_X_keepEnd_5 : decode b_X_keepEnd 5 = .ok (.aload_n 0, 1) := by decide +kernel
theorem d_X_keepEnd_6 : decode b_X_keepEnd 6 = .ok (.getfield 40, 3) := by decide +kernel
theorem d_X_keepEnd_9 : decode b_X_keepEnd 9 = .ok (.iconst 0, 1) := by decide +kernel
theorem d_X_keepEnd_10 : decode b_X_keepEnd 10 = .ok (.iconst 4, 1) := by decide +kernel
theorem d_X_keepEnd_11 : decode b_X_keepEnd 11 = .ok (.invokestatic 178, 3) := by decide +kernel
theorem d_X_keepEnd_14 : decode b_X_keepEnd 14 = .ok (.aload_n 1, 1) := by decide +kernel
theorem d_X_keepEnd_15 : decode b_X_keepEnd 15 = .ok (.getfield 64, 3) := by decide +kernel
theorem d_X_keepEnd_18 : decode b_X_keepEnd 18 = .ok (.iconst 0, 1) := by decide +kernel
theorem d_X_keepEnd_19 : decode b_X_keepEnd 19 = .ok (.aload_n 0, 1) := by decide +kernel
theorem d_X_keepEnd_20 : decode b_X_keepEnd 20 = .ok (.getfield 40, 3) := by decide +kernel
theorem d_X_keepEnd_23 : decode b_X_keepEnd 23 = .ok (.iconst 4, 1) := by decide +kernel
theorem d_X_keepEnd_24 : decode b_X_keepEnd 24 = .ok (.iconst 4, 1) := by decide +kernel
theorem d_X_keepEnd_25 : decode b_X_keepEnd 25 = .ok (.invokestatic 178, 3) := by decide +kernel
theorem d_X_keepEnd_28 : decode b_X_keepEnd 28 = .ok (.return_, 1) := by decide +kernel
theorem d_X_sibling_0 : decode b_X_sibling 0 = .ok (.iload_n 1, 1) := by decide +kernel
theorem d_X_sibling_1 : decode b_X_sibling 1 = .ok (.ifCond .lt 30, 3) := by decide +kernel
theorem d_X_sibling_4 : decode b_X_sibling 4 = .ok (.iload_n 1, 1) := by decide +kernel
theorem d_X_sibling_5 : decode b_X_sibling 5 = .ok (.sipush 256, 3) := by decide +kernel
theorem d_X_sibling_8 : decode b_X_sibling 8 = .ok (.if_icmp .ge 23, 3) := by decide +kernel
theorem d_X_sibling_11 : decode b_X_sibling 11 = .ok (.iload_n 2, 1) := by decide +kernel
theorem d_X_sibling_12 : decode b_X_sibling 12 = .ok (.invokestatic 97, 3) := by decide +kernel
theorem d_X_sibling_15 : decode b_X_sibling 15 = .ok (.ifCond .eq 16, 3) := by decide +kernel
theorem d_X_sibling_18 : decode b_X_sibling 18 = .ok (.aload_n 0, 1) := by decide +kernel
theorem d_X_sibling_19 : decode b_X_sibling 19 = .ok (.getfield 34, 3) := by decide +kernel
theorem d_X_sibling_22 : decode b_X_sibling 22 = .ok (.iload_n 1, 1) := by decide +kernel
theorem d_X_sibling_23 : decode b_X_sibling 23 = .ok (.iconst 4, 1) := by decide +kernel
theorem d_X_sibling_24 : decode b_X_sibling 24 = .ok (.imul, 1) := by decide +kernel
theorem d_X_sibling_25 : decode b_X_sibling 25 = .ok (.iload_n 2, 1) := by decide +kernel
theorem d_X_sibling_26 : decode b_X_sibling 26 = .ok (.iadd, 1) := by decide +kernel
theorem d_X_sibling_27 : decode b_X_sibling 27 = .ok (.laload, 1) := by decide +kernel
theorem d_X_sibling_28 : decode b_X_sibling 28 = .ok (.goto 4, 3) := by decide +kernel
theorem d_X_sibling_31 : decode b_X_sibling 31 = .ok (.lconst 0, 1) := by decide +kernel
theorem d_X_sibling_32 : decode b_X_sibling 32 = .ok (.lreturn, 1) := by decide +kernel
theorem d_X_ending_0 : decode b_X_ending 0 = .ok (.aload_n 0, 1) := by decide +kernel
theorem d_X_ending_1 : decode b_X_ending 1 = .ok (.getfield 43, 3) := by decide +kernel
theorem d_X_ending_4 : decode b_X_ending 4 = .ok (.ireturn, 1) := by decide +kernel
theorem d_X_endNumber_0 : decode b_X_endNumber 0 = .ok (.iload_n 1, 1) := by decide +kernel
theorem d_X_endNumber_1 : decode b_X_endNumber 1 = .ok (.ifCond .lt 28, 3) := by decide +kernel
theorem d_X_endNumber_4 : decode b_X_endNumber 4 = .ok (.iload_n 1, 1) := by decide +kernel
theorem d_X_endNumber_5 : decode b_X_endNumber 5 = .ok (.iconst 2, 1) := by decide +kernel
theorem d_X_endNumber_6 : decode b_X_endNumber 6 = .ok (.if_icmp .ge 23, 3) := by decide +kernel
theorem d_X_endNumber_9 : decode b_X_endNumber 9 = .ok (.iload_n 2, 1) := by decide +kernel
theorem d_X_endNumber_10 : decode b_X_endNumber 10 = .ok (.invokestatic 97, 3) := by decide +kernel
theorem d_X_endNumber_13 : decode b_X_endNumber 13 = .ok (.ifCond .eq 16, 3) := by decide +kernel
theorem d_X_endNumber_16 : decode b_X_endNumber 16 = .ok (.aload_n 0, 1) := by decide +kernel
theorem d_X_endNumber_17 : decode b_X_endNumber 17 = .ok (.getfield 40, 3) := by decide +kernel
theorem d_X_endNumber_20 : decode b_X_endNumber 20 = .ok (.iload_n 1, 1) := by decide +kernel
theorem d_X_endNumber_21 : decode b_X_endNumber 21 = .ok (.iconst 4, 1) := by decide +kernel
theorem d_X_endNumber_22 : decode b_X_endNumber 22 = .ok (.imul, 1) := by decide +kernel
theorem d_X_endNumber_23 : decode b_X_endNumber 23 = .ok (.iload_n 2, 1) := by decide +kernel
theorem d_X_endNumber_24 : decode b_X_endNumber 24 = .ok (.iadd, 1) := by decide +kernel
theorem d_X_endNumber_25 : decode b_X_endNumber 25 = .ok (.laload, 1) := by decide +kernel
theorem d_X_endNumber_26 : decode b_X_endNumber 26 = .ok (.goto 4, 3) := by decide +kernel
theorem d_X_endNumber_29 : decode b_X_endNumber 29 = .ok (.lconst 0, 1) := by decide +kernel
theorem d_X_endNumber_30 : decode b_X_endNumber 30 = .ok (.lreturn, 1) := by decide +kernel
theorem d_X_digest_0 : decode b_X_digest 0 = .ok (.iload_n 3, 1) := by decide +kernel
theorem d_X_digest_1 : decode b_X_digest 1 = .ok (.ifCond .lt 30, 3) := by decide +kernel
theorem d_X_digest_4 : decode b_X_digest 4 = .ok (.iload_n 3, 1) := by decide +kernel
theorem d_X_digest_5 : decode b_X_digest 5 = .ok (.bipush 8, 2) := by decide +kernel
theorem d_X_digest_7 : decode b_X_digest 7 = .ok (.if_icmp .gt 24, 3) := by decide +kernel
theorem d_X_digest_10 : decode b_X_digest 10 = .ok (.iload 4, 2) := by decide +kernel
theorem d_X_digest_12 : decode b_X_digest 12 = .ok (.ifCond .lt 19, 3) := by decide +kernel
theorem d_X_digest_15 : decode b_X_digest 15 = .ok (.iload 4, 2) := by decide +kernel
theorem d_X_digest_17 : decode b_X_digest 17 = .ok (.sipush 500, 3) := by decide +kernel
theorem d_X_digest_20 : decode b_X_digest 20 = .ok (.if_icmp .gt 11, 3) := by decide +kernel
theorem d_X_digest_23 : decode b_X_digest 23 = .ok (.iload 5, 2) := by decide +kernel
theorem d_X_digest_25 : decode b_X_digest 25 = .ok (.invokestatic 97, 3) := by decide +kernel
theorem d_X_digest_28 : decode b_X_digest 28 = .ok (.ifCond .ne 5, 3) := by decide +kernel
theorem d_X_digest_31 : decode b_X_digest 31 = .ok (.lconst 0, 1) := by decide +kernel
theorem d_X_digest_32 : decode b_X_digest 32 = .ok (.lreturn, 1) := by decide +kernel
theorem d_X_digest_33 : decode b_X_digest 33 = .ok (.aload_n 0, 1) := by decide +kernel
theorem d_X_digest_34 : decode b_X_digest 34 = .ok (.getfield 16, 3) := by decide +kernel
theorem d_X_digest_37 : decode b_X_digest 37 = .ok (.invokevirtual 131, 3) := by decide +kernel
theorem d_X_digest_40 : decode b_X_digest 40 = .ok (.iconst 0, 1) := by decide +kernel
theorem d_X_digest_41 : decode b_X_digest 41 = .ok (.istore 6, 2) := by decide +kernel
theorem d_X_digest_43 : decode b_X_digest 43 = .ok (.iload 6, 2) := by decide +kernel
theorem d_X_digest_45 : decode b_X_digest 45 = .ok (.iload 4, 2) := by decide +kernel
theorem d_X_digest_47 : decode b_X_digest 47 = .ok (.if_icmp .ge 18, 3) := by decide +kernel
theorem d_X_digest_50 : decode b_X_digest 50 = .ok (.aload_n 0, 1) := by decide +kernel
theorem d_X_digest_51 : decode b_X_digest 51 = .ok (.getfield 16, 3) := by decide +kernel
theorem d_X_digest_54 : decode b_X_digest 54 = .ok (.lload_n 1, 1) := by decide +kernel
theorem d_X_digest_55 : decode b_X_digest 55 = .ok (.iload_n 3, 1) := by decide +kernel
theorem d_X_digest_56 : decode b_X_digest 56 = .ok (.invokevirtual 134, 3) := by decide +kernel
theorem d_X_digest_59 : decode b_X_digest 59 = .ok (.iinc 6 1, 3) := by decide +kernel
theorem d_X_digest_62 : decode b_X_digest 62 = .ok (.goto (-19), 3) := by decide +kernel
theorem d_X_digest_65 : decode b_X_digest 65 = .ok (.aload_n 0, 1) := by decide +kernel
theorem d_X_digest_66 : decode b_X_digest 66 = .ok (.getfield 16, 3) := by decide +kernel
theorem d_X_digest_69 : decode b_X_digest 69 = .ok (.invokevirtual 138, 3) := by decide +kernel
theorem d_X_digest_72 : decode b_X_digest 72 = .ok (.aload_n 0, 1) := by decide +kernel
theorem d_X_digest_73 : decode b_X_digest 73 = .ok (.getfield 16, 3) := by decide +kernel
theorem d_X_digest_76 : decode b_X_digest 76 = .ok (.iload 5, 2) := by decide +kernel
theorem d_X_digest_78 : decode b_X_digest 78 = .ok (.invokevirtual 141, 3) := by decide +kernel
theorem d_X_digest_81 : decode b_X_digest 81 = .ok (.lreturn, 1) := by decide +kernel
