theorem d_N_init_0 : decode b_N_init 0 = .ok (.aload_n 0, 1) := by decide +kernel
theorem d_N_init_1 : decode b_N_init 1 = .ok (.invokespecial 3, 3) := by decide +kernel
theorem d_N_init_4 : decode b_N_init 4 = .ok (.aload_n 0, 1) := by decide +kernel
theorem d_N_init_5 : decode b_N_init 5 = .ok (.iconst 4, 1) := by decide +kernel
theorem d_N_init_6 : decode b_N_init 6 = .ok (.newarray .long, 2) := by decide +kernel
theorem d_N_init_8 : decode b_N_init 8 = .ok (.putfield 9, 3) := by decide +kernel
theorem d_N_init_11 : decode b_N_init 11 = .ok (.aload_n 0, 1) := by decide +kernel
theorem d_N_init_12 : decode b_N_init 12 = .ok (.iconst 0, 1) := by decide +kernel
theorem d_N_init_13 : decode b_N_init 13 = .ok (.putfield 15, 3) := by decide +kernel
theorem d_N_init_16 : decode b_N_init 16 = .ok (.aload_n 0, 1) := by decide +kernel
theorem d_N_init_17 : decode b_N_init 17 = .ok (.aload_n 1, 1) := by decide +kernel
theorem d_N_init_18 : decode b_N_init 18 = .ok (.putfield 19, 3) := by decide +kernel
theorem d_N_init_21 : decode b_N_init 21 = .ok (.aload_n 0, 1) := by decide +kernel
theorem d_N_init_22 : decode b_N_init 22 = .ok (.iload_n 2, 1) := by decide +kernel
theorem d_N_init_23 : decode b_N_init 23 = .ok (.putfield 22, 3) := by decide +kernel
theorem d_N_init_26 : decode b_N_init 26 = .ok (.return_, 1) := by decide +kernel
