theorem ht_sb {x y : Int32} {a b c : Nat} (hx : x = nI a) (hy : y = nI b) (h : a = b + c) : x - y = nI c := by
  rw [hx, hy, pk_sub (by omega)]
  congr 1
  omega
set_option maxHeartbeats 4000000 in
set_option maxRecDepth 100000 in
theorem c_D_spread (l : Launch) (g : ht_G) (w : ht_W) {dg wd wa : Nat} {ws wf : Nat → Int32} {n0 : Int32} (hD : ht_Dg g w dg wd wa (ws, wf, n0)) : Met l y_D_spread ws_D_spread ({ frames := 1, cells := 0, slots := 0, locals := 21 } : Room) (va_Pc [.ref dg] (ht_WS g w)) (ht_Qv g (fun u => u = ht_dw g w dg wd wa (ws, ht_sp 48 wf, n0))) 0 0 (ht_A g) := by
  refine Met.ofW (cc := b_D_spread) (maxL := 6) (ret := none) (by decide) rfl ?_
  intro p e s m args below meth c s₁ BB hml hv
  obtain ⟨rfl, HW⟩ := hv
  have HW := ht_I.start HW
  have hx := BB.exec
  have hb := BB.bytes
  have hr := BB.returns
  have hts := atoms_spec (ws := ws_D_spread) BB.pre
  have htb : ∀ w ∈ bg, w.before _ s = true := fun w h => hts w (List.mem_cons_of_mem _ h)
  have hown : s.vm.findClass R_D = some m.cls := findClass_of_methodNamed BB.named
  have hlocks := BB.notSynchronized
  have hl := lv_entry ([.ref dg]) (n := 6) (Nat.le_of_ble_eq_true rfl)
  rw [lg_entry_eq]
  generalize (lg_sl ([.ref dg]) ++ List.replicate (6 - (lg_sl ([.ref dg])).length) Slot.unset).toArray = ls at hl ⊢
  have hl : lv_has ls 6 [(0, .ref dg)] := hl
  have loop : ∀ (n k : Nat), k + n = 48 → ∀ (H : Heap) (locs : List Loc) (ls : Array Slot) (t : Int32), t = nI (16 + k) → ht_I g s (ht_dw g w dg wd wa (ws, ht_sp k wf, n0)) H locs → lv_has ls 6 [(0, .ref dg), (1, .int t)] → W p l e (headSpec ws_D_spread ({ frames := 1, cells := 0, slots := 0, locals := 21 } : Room)).room s m ([.ref dg] : List Value).toArray below meth c H locs 0 0 (MQ below (ht_Qv g (fun u => u = ht_dw g w dg wd wa (ws, ht_sp 48 wf, n0))) ([.ref dg] : List Value).toArray s 0 0 (ht_A g)) (F0 m 3 ls []) := by
    intro n
    induction n with
    | zero =>
      intro k hk H locs ls t et HW hl
      obtain ⟨w1, hw1⟩ : ∃ z, z = ht_dw g w dg wd wa (ws, ht_sp k wf, n0) := ⟨_, rfl⟩
      rw [← hw1] at HW
      have hD1 : ht_Dg g w1 dg wd wa (ws, ht_sp k wf, n0) := by rw [hw1]; exact hD.up
      obtain ⟨h_dg, h_wd, h_wa⟩ := id hD1
      refine lv_iload_n hx hb d_D_spread_3 rfl (lv_at hl 1 rfl) ?_
      refine lv_bipush (v := 64) hx hb d_D_spread_4 (by decide) ?_
      refine lv_icmp_ge (tgt := 104) hx hb d_D_spread_6 (by decide) (fun c6 => ?_) (fun c6 => ?_)
      · have hk48 : k = 48 := by omega
        exact ht_vret hx hb hr hlocks HW (hk48 ▸ hw1) d_D_spread_104
      · exact absurd (nI_le (show 64 ≤ 16 + k by omega) (by omega)) (by rw [et] at c6; exact c6)
    | succ n ih =>
      intro k hk H locs ls t et HW hl
      obtain ⟨w1, hw1⟩ : ∃ z, z = ht_dw g w dg wd wa (ws, ht_sp k wf, n0) := ⟨_, rfl⟩
      rw [← hw1] at HW
      have hD1 : ht_Dg g w1 dg wd wa (ws, ht_sp k wf, n0) := by rw [hw1]; exact hD.up
      obtain ⟨h_dg, h_wd, h_wa⟩ := id hD1
      refine lv_iload_n hx hb d_D_spread_3 rfl (lv_at hl 1 rfl) ?_
      refine lv_bipush (v := 64) hx hb d_D_spread_4 (by decide) ?_
      refine lv_icmp_ge (tgt := 104) hx hb d_D_spread_6 (by decide) (fun c6 => ?_) (fun c6 => ?_)
      · exact absurd (show nI 64 ≤ nI (16 + k) by rw [et] at c6; exact c6) (nI_ge (by omega) (by omega))
      · refine lv_aload_n hx hb d_D_spread_9 rfl (lv_at hl 0 rfl) ?_
        refine ht_get (C := R_D) (T := F_D) (N := 3) (v := .ref wa) hx hb htb i_D hown HW h_dg rfl 1 (by decide) (htb _ wd_27) (fun _ h9 => h9) rfl d_D_spread_10 ?_
        refine lv_iload_n hx hb d_D_spread_13 rfl (lv_at hl 1 rfl) ?_
        refine lv_bipush (v := 15) hx hb d_D_spread_14 (by decide) ?_
        refine lv_isub hx hb d_D_spread_16 ?_
        refine lv_topi (fun i1 ei1 => ?_)
        have hi1 : i1 = nI (k + 1) := by rw [ei1]; exact ht_sb (b := 15) et rfl (by omega)
        refine ht_iald hx hb HW h_wa (by rw [hi1]; exact vp_in_nI (by omega) (by omega)) d_D_spread_17 ?_
        refine lv_topi (fun z1 ez1 => ?_)
        have ez1 : z1 = (ht_sp k wf) (k + 1) := by rw [ez1, hi1, nI_clamp (by omega)]
        refine lv_istore_n (lv' := [(2, .int z1), (0, .ref dg), (1, .int t)]) hx hb d_D_spread_18 rfl hl (by decide) rfl (fun ls hl => ?_)
        refine lv_aload_n hx hb d_D_spread_19 rfl (lv_at hl 1 rfl) ?_
        refine ht_get (C := R_D) (T := F_D) (N := 3) (v := .ref wa) hx hb htb i_D hown HW h_dg rfl 1 (by decide) (htb _ wd_27) (fun _ h9 => h9) rfl d_D_spread_20 ?_
        refine lv_iload_n hx hb d_D_spread_23 rfl (lv_at hl 2 rfl) ?_
        refine lv_iconst (v := 2) hx hb d_D_spread_24 (by decide) ?_
        refine lv_isub hx hb d_D_spread_25 ?_
        refine lv_topi (fun i2 ei2 => ?_)
        have hi2 : i2 = nI (k + 14) := by rw [ei2]; exact ht_sb (b := 2) et rfl (by omega)
        refine ht_iald hx hb HW h_wa (by rw [hi2]; exact vp_in_nI (by omega) (by omega)) d_D_spread_26 ?_
        refine lv_topi (fun z2 ez2 => ?_)
        have ez2 : z2 = (ht_sp k wf) (k + 14) := by rw [ez2, hi2, nI_clamp (by omega)]
        refine lv_istore_n (lv' := [(3, .int z2), (2, .int z1), (0, .ref dg), (1, .int t)]) hx hb d_D_spread_27 rfl hl (by decide) rfl (fun ls hl => ?_)
        refine lv_iload_n hx hb d_D_spread_28 rfl (lv_at hl 1 rfl) ?_
        refine lv_bipush (v := 7) hx hb d_D_spread_29 (by decide) ?_
        refine ht_ci HW (va_runS (own := R_D) (As := [.int z1, .int 7]) (rest := []) ⟨hx, hb, hml, hown, htb⟩ (c_JI_rotateRight l g w1 z1 (7 : Int32)) (va_cwS 2 htb (ht_gs wd_242 wd_243 wd_5 g_JI_rotateRight) rfl rfl rfl (by decide +kernel) ⟨Nat.le_of_ble_eq_true rfl, Nat.le_of_ble_eq_true rfl⟩) (HW.preS _) rfl rfl hl.1 rfl (lv_room (Nat.le_of_ble_eq_true rfl)) d_D_spread_31 ⟨Nat.le_of_ble_eq_true rfl, Nat.le_of_ble_eq_true rfl⟩) (fun q4 u3 H locs pu3 HW => ?_)
        obtain ⟨eq4, eu3⟩ := pu3
        subst eu3
        refine lv_iload_n hx hb d_D_spread_34 rfl (lv_at hl 1 rfl) ?_
        refine lv_bipush (v := 18) hx hb d_D_spread_35 (by decide) ?_
        refine ht_ci HW (va_runS (own := R_D) (As := [.int z1, .int 18]) (rest := [.int q4]) ⟨hx, hb, hml, hown, htb⟩ (c_JI_rotateRight l g w1 z1 (18 : Int32)) (va_cwS 2 htb (ht_gs wd_242 wd_243 wd_5 g_JI_rotateRight) rfl rfl rfl (by decide +kernel) ⟨Nat.le_of_ble_eq_true rfl, Nat.le_of_ble_eq_true rfl⟩) (HW.preS _) rfl rfl hl.1 rfl (lv_room (Nat.le_of_ble_eq_true rfl)) d_D_spread_37 ⟨Nat.le_of_ble_eq_true rfl, Nat.le_of_ble_eq_true rfl⟩) (fun q6 u5 H locs pu5 HW => ?_)
        obtain ⟨eq6, eu5⟩ := pu5
        subst eu5
        refine lv_ixor hx hb d_D_spread_40 ?_
        refine lv_iload_n hx hb d_D_spread_41 rfl (lv_at hl 1 rfl) ?_
        refine lv_iconst (v := 3) hx hb d_D_spread_42 (by decide) ?_
        refine lv_iushr (v := ht_us z1 (3 : Int32)) hx hb d_D_spread_43 rfl ?_
        refine lv_ixor hx hb d_D_spread_44 ?_
        refine lv_topi (fun z7 ez7 => ?_)
        refine lv_istore (lv' := [(4, .int z7), (3, .int z2), (2, .int z1), (0, .ref dg), (1, .int t)]) hx hb d_D_spread_45 hl (by decide) rfl (fun ls hl => ?_)
        refine lv_iload_n hx hb d_D_spread_47 rfl (lv_at hl 1 rfl) ?_
        refine lv_bipush (v := 17) hx hb d_D_spread_48 (by decide) ?_
        refine ht_ci HW (va_runS (own := R_D) (As := [.int z2, .int 17]) (rest := []) ⟨hx, hb, hml, hown, htb⟩ (c_JI_rotateRight l g w1 z2 (17 : Int32)) (va_cwS 2 htb (ht_gs wd_242 wd_243 wd_5 g_JI_rotateRight) rfl rfl rfl (by decide +kernel) ⟨Nat.le_of_ble_eq_true rfl, Nat.le_of_ble_eq_true rfl⟩) (HW.preS _) rfl rfl hl.1 rfl (lv_room (Nat.le_of_ble_eq_true rfl)) d_D_spread_50 ⟨Nat.le_of_ble_eq_true rfl, Nat.le_of_ble_eq_true rfl⟩) (fun q9 u8 H locs pu8 HW => ?_)
        obtain ⟨eq9, eu8⟩ := pu8
        subst eu8
        refine lv_iload_n hx hb d_D_spread_53 rfl (lv_at hl 1 rfl) ?_
        refine lv_bipush (v := 19) hx hb d_D_spread_54 (by decide) ?_
        refine ht_ci HW (va_runS (own := R_D) (As := [.int z2, .int 19]) (rest := [.int q9]) ⟨hx, hb, hml, hown, htb⟩ (c_JI_rotateRight l g w1 z2 (19 : Int32)) (va_cwS 2 htb (ht_gs wd_242 wd_243 wd_5 g_JI_rotateRight) rfl rfl rfl (by decide +kernel) ⟨Nat.le_of_ble_eq_true rfl, Nat.le_of_ble_eq_true rfl⟩) (HW.preS _) rfl rfl hl.1 rfl (lv_room (Nat.le_of_ble_eq_true rfl)) d_D_spread_56 ⟨Nat.le_of_ble_eq_true rfl, Nat.le_of_ble_eq_true rfl⟩) (fun q11 u10 H locs pu10 HW => ?_)
        obtain ⟨eq11, eu10⟩ := pu10
        subst eu10
        refine lv_ixor hx hb d_D_spread_59 ?_
        refine lv_iload_n hx hb d_D_spread_60 rfl (lv_at hl 1 rfl) ?_
        refine lv_bipush (v := 10) hx hb d_D_spread_61 (by decide) ?_
        refine lv_iushr (v := ht_us z2 (10 : Int32)) hx hb d_D_spread_63 rfl ?_
        refine lv_ixor hx hb d_D_spread_64 ?_
        refine lv_topi (fun z12 ez12 => ?_)
        refine lv_istore (lv' := [(5, .int z12), (4, .int z7), (3, .int z2), (2, .int z1), (0, .ref dg), (1, .int t)]) hx hb d_D_spread_65 hl (by decide) rfl (fun ls hl => ?_)
        refine lv_aload_n hx hb d_D_spread_67 rfl (lv_at hl 4 rfl) ?_
        refine ht_get (C := R_D) (T := F_D) (N := 3) (v := .ref wa) hx hb htb i_D hown HW h_dg rfl 1 (by decide) (htb _ wd_27) (fun _ h9 => h9) rfl d_D_spread_68 ?_
        refine lv_iload_n hx hb d_D_spread_71 rfl (lv_at hl 5 rfl) ?_
        refine lv_aload_n hx hb d_D_spread_72 rfl (lv_at hl 4 rfl) ?_
        refine ht_get (C := R_D) (T := F_D) (N := 3) (v := .ref wa) hx hb htb i_D hown HW h_dg rfl 1 (by decide) (htb _ wd_27) (fun _ h9 => h9) rfl d_D_spread_73 ?_
        refine lv_iload_n hx hb d_D_spread_76 rfl (lv_at hl 5 rfl) ?_
        refine lv_bipush (v := 16) hx hb d_D_spread_77 (by decide) ?_
        refine lv_isub hx hb d_D_spread_79 ?_
        refine lv_topi (fun i3 ei3 => ?_)
        have hi3 : i3 = nI (k) := by rw [ei3]; exact ht_sb (b := 16) et rfl (by omega)
        refine ht_iald hx hb HW h_wa (by rw [hi3]; exact vp_in_nI (by omega) (by omega)) d_D_spread_80 ?_
        refine lv_topi (fun z13 ez13 => ?_)
        have ez13 : z13 = (ht_sp k wf) k := by rw [ez13, hi3, nI_clamp (by omega)]
        refine lv_iload hx hb d_D_spread_81 (lv_at hl 1 rfl) ?_
        refine lv_iadd hx hb d_D_spread_83 ?_
        refine lv_aload_n hx hb d_D_spread_84 rfl (lv_at hl 4 rfl) ?_
        refine ht_get (C := R_D) (T := F_D) (N := 3) (v := .ref wa) hx hb htb i_D hown HW h_dg rfl 1 (by decide) (htb _ wd_27) (fun _ h9 => h9) rfl d_D_spread_85 ?_
        refine lv_iload_n hx hb d_D_spread_88 rfl (lv_at hl 5 rfl) ?_
        refine lv_bipush (v := 7) hx hb d_D_spread_89 (by decide) ?_
        refine lv_isub hx hb d_D_spread_91 ?_
        refine lv_topi (fun i4 ei4 => ?_)
        have hi4 : i4 = nI (k + 9) := by rw [ei4]; exact ht_sb (b := 7) et rfl (by omega)
        refine ht_iald hx hb HW h_wa (by rw [hi4]; exact vp_in_nI (by omega) (by omega)) d_D_spread_92 ?_
        refine lv_topi (fun z14 ez14 => ?_)
        have ez14 : z14 = (ht_sp k wf) (k + 9) := by rw [ez14, hi4, nI_clamp (by omega)]
        refine lv_iadd hx hb d_D_spread_93 ?_
        refine lv_iload hx hb d_D_spread_94 (lv_at hl 0 rfl) ?_
        refine lv_iadd hx hb d_D_spread_96 ?_
        refine ht_iast hx hb HW h_wa (by rw [et]; exact vp_in_nI (by omega) (by omega)) d_D_spread_97 (fun H locs HW => ?_)
        rw [et, nI_clamp (by omega)] at HW
        obtain ⟨u15, hu15⟩ : ∃ z, z = ht_up w1 wa (ht_ai g 64 (upd (ht_sp k wf) (16 + k) (((z13 + z7) + z14) + z12))) := ⟨_, rfl⟩
        have HW : ht_I g s u15 H locs := by rw [hu15]; exact HW
        have h_dg : ht_at u15 dg (.inr (1, [.ref wd, .ref wa, .int n0]) : va_E) := by rw [hu15]; exact ht_at_ne h_dg hD1.n2
        have h_wd : ht_at u15 wd (ht_ai g 8 ws) := by rw [hu15]; exact ht_at_ne h_wd hD1.n3
        have h_wa : ht_at u15 wa (ht_ai g 64 (upd (ht_sp k wf) (16 + k) (((z13 + z7) + z14) + z12))) := by rw [hu15]; exact ht_at_self h_wa
        obtain ⟨t2, et2⟩ : ∃ y : Int32, y = t + 1 := ⟨_, rfl⟩
        refine lv_iinc (v := t2) (lv' := [(1, .int t2), (5, .int z12), (4, .int z7), (3, .int z2), (2, .int z1), (0, .ref dg)]) hx hb d_D_spread_98 hl (k := 5) rfl (by rw [et2]; rfl) (by decide) rfl (fun ls hl => ?_)
        refine lv_goto (tgt := 3) hx hb d_D_spread_101 (by decide) ?_
        refine ih (k + 1) (by omega) _ _ _ t2 (by rw [et2, et, nI_1]; rfl) (HW.to ?_) (lv_sub hl [5, 0] rfl)
        rw [hu15, hw1]
        unfold ht_dw
        rw [ht_up_up]
        simp only [ei1, ez1, ei2, ez2, eq4, eq6, ez7, eq9, eq11, ez12, ei3, ez13, ei4, ez14]
        rfl
  refine lv_bipush (v := 16) hx hb d_D_spread_0 (by decide) ?_
  refine lv_istore_n (lv' := [(1, .int 16), (0, .ref dg)]) hx hb d_D_spread_2 rfl hl (by decide) rfl (fun ls hl => ?_)
  exact loop 48 0 rfl _ _ _ 16 rfl (HW.to hD.self.symm) (lv_sub hl [1, 0] rfl)
