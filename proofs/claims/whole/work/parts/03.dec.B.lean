theorem d_B_half_0 : decode b_B_half 0 = .ok (.iload_n 1, 1) := by decide +kernel
theorem d_B_half_1 : decode b_B_half 1 = .ok (.ifCond .eq 10, 3) := by decide +kernel
theorem d_B_half_4 : decode b_B_half 4 = .ok (.aload_n 0, 1) := by decide +kernel
theorem d_B_half_5 : decode b_B_half 5 = .ok (.getfield 13, 3) := by decide +kernel
theorem d_B_half_8 : decode b_B_half 8 = .ok (.goto 7, 3) := by decide +kernel
theorem d_B_half_11 : decode b_B_half 11 = .ok (.aload_n 0, 1) := by decide +kernel
theorem d_B_half_12 : decode b_B_half 12 = .ok (.getfield 7, 3) := by decide +kernel
theorem d_B_half_15 : decode b_B_half 15 = .ok (.areturn, 1) := by decide +kernel
theorem d_B_init_0 : decode b_B_init 0 = .ok (.aload_n 0, 1) := by decide +kernel
theorem d_B_init_1 : decode b_B_init 1 = .ok (.aload_n 1, 1) := by decide +kernel
theorem d_B_init_2 : decode b_B_init 2 = .ok (.iload_n 2, 1) := by decide +kernel
theorem d_B_init_3 : decode b_B_init 3 = .ok (.invokespecial 1, 3) := by decide +kernel
theorem d_B_init_6 : decode b_B_init 6 = .ok (.aload_n 0, 1) := by decide +kernel
theorem d_B_init_7 : decode b_B_init 7 = .ok (.aload_n 3, 1) := by decide +kernel
theorem d_B_init_8 : decode b_B_init 8 = .ok (.putfield 7, 3) := by decide +kernel
theorem d_B_init_11 : decode b_B_init 11 = .ok (.aload_n 0, 1) := by decide +kernel
theorem d_B_init_12 : decode b_B_init 12 = .ok (.aload 4, 2) := by decide +kernel
theorem d_B_init_14 : decode b_B_init 14 = .ok (.putfield 13, 3) := by decide +kernel
theorem d_B_init_17 : decode b_B_init 17 = .ok (.return_, 1) := by decide +kernel
theorem d_B_putHalf_0 : decode b_B_putHalf 0 = .ok (.iload_n 1, 1) := by decide +kernel
theorem d_B_putHalf_1 : decode b_B_putHalf 1 = .ok (.ifCond .eq 11, 3) := by decide +kernel
theorem d_B_putHalf_4 : decode b_B_putHalf 4 = .ok (.aload_n 0, 1) := by decide +kernel
theorem d_B_putHalf_5 : decode b_B_putHalf 5 = .ok (.aload_n 2, 1) := by decide +kernel
theorem d_B_putHalf_6 : decode b_B_putHalf 6 = .ok (.putfield 13, 3) := by decide +kernel
theorem d_B_putHalf_9 : decode b_B_putHalf 9 = .ok (.goto 8, 3) := by decide +kernel
theorem d_B_putHalf_12 : decode b_B_putHalf 12 = .ok (.aload_n 0, 1) := by decide +kernel
theorem d_B_putHalf_13 : decode b_B_putHalf 13 = .ok (.aload_n 2, 1) := by decide +kernel
theorem d_B_putHalf_14 : decode b_B_putHalf 14 = .ok (.putfield 7, 3) := by decide +kernel
theorem d_B_putHalf_17 : decode b_B_putHalf 17 = .ok (.return_, 1) := by decide +kernel
theorem d_B_staleHalf_0 : decode b_B_staleHalf 0 = .ok (.aload_n 0, 1) := by decide +kernel
theorem d_B_staleHalf_1 : decode b_B_staleHalf 1 = .ok (.getfield 7, 3) := by decide +kernel
theorem d_B_staleHalf_4 : decode b_B_staleHalf 4 = .ok (.getfield 16, 3) := by decide +kernel
theorem d_B_staleHalf_7 : decode b_B_staleHalf 7 = .ok (.ifCond .ne 8, 3) := by decide +kernel
theorem d_B_staleHalf_10 : decode b_B_staleHalf 10 = .ok (.aload_n 0, 1) := by decide +kernel
theorem d_B_staleHalf_11 : decode b_B_staleHalf 11 = .ok (.getfield 7, 3) := by decide +kernel
theorem d_B_staleHalf_14 : decode b_B_staleHalf 14 = .ok (.areturn, 1) := by decide +kernel
theorem d_B_staleHalf_15 : decode b_B_staleHalf 15 = .ok (.aload_n 0, 1) := by decide +kernel
theorem d_B_staleHalf_16 : decode b_B_staleHalf 16 = .ok (.getfield 13, 3) := by decide +kernel
theorem d_B_staleHalf_19 : decode b_B_staleHalf 19 = .ok (.getfield 16, 3) := by decide +kernel
theorem d_B_staleHalf_22 : decode b_B_staleHalf 22 = .ok (.ifCond .eq 7, 3) := by decide +kernel
theorem d_B_staleHalf_25 : decode b_B_staleHalf 25 = .ok (.aconst_null, 1) := by decide +kernel
theorem d_B_staleHalf_26 : decode b_B_staleHalf 26 = .ok (.goto 7, 3) := by decide +kernel
theorem d_B_staleHalf_29 : decode b_B_staleHalf 29 = .ok (.aload_n 0, 1) := by decide +kernel
theorem d_B_staleHalf_30 : decode b_B_staleHalf 30 = .ok (.getfield 13, 3) := by decide +kernel
theorem d_B_staleHalf_33 : decode b_B_staleHalf 33 = .ok (.areturn, 1) := by decide +kernel
