theorem d_L_init_0 : decode b_L_init 0 = .ok (.aload_n 0, 1) := by decide +kernel
theorem d_L_init_1 : decode b_L_init 1 = .ok (.aload_n 1, 1) := by decide +kernel
theorem d_L_init_2 : decode b_L_init 2 = .ok (.sipush 256, 3) := by decide +kernel
theorem d_L_init_5 : decode b_L_init 5 = .ok (.invokespecial 3, 3) := by decide +kernel
theorem d_L_init_8 : decode b_L_init 8 = .ok (.aload_n 0, 1) := by decide +kernel
theorem d_L_init_9 : decode b_L_init 9 = .ok (.iconst 4, 1) := by decide +kernel
theorem d_L_init_10 : decode b_L_init 10 = .ok (.newarray .long, 2) := by decide +kernel
theorem d_L_init_12 : decode b_L_init 12 = .ok (.putfield 9, 3) := by decide +kernel
theorem d_L_init_15 : decode b_L_init 15 = .ok (.return_, 1) := by decide +kernel
