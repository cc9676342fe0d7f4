def ht_fa (Lf : ht_LF) (v : Int32) (x : ht_K) : Prop := (v = -1 ∧ x = ht_kz) ∨ ∃ j, j < 512 ∧ v = nI j ∧ ht_row (Lf 6) (4 * j) x
set_option maxHeartbeats 4000000 in
set_option maxRecDepth 100000 in
theorem c_M_leaf (l : Launch) (g : ht_G) (w : ht_W) {M : Nat → Nat} {n : Nat → Int32} {Lf : ht_LF} {If : ht_IF} (hM : ht_Mo g w M n Lf If) (hKp : ht_Kp Lf If) (nd kk : Nat) (hnd : nd < 512) (hkk : kk < 512) (k1 k2 : Int32) (ek1 : k1 = nI nd) (ek2 : k2 = nI kk) {x y : ht_K} (hrx : ht_row (Lf 1) (4 * kk) x) (hry : ht_row (Lf 2) (4 * kk) y) : Met l y_M_leaf ws_M_leaf ({ frames := 4, cells := 0, slots := 0, locals := 160 } : Room) (va_Pc [.ref (M 0), .int k1, .int k2] (ht_WS g w)) (ht_Qv g (fun u => ∃ (Lf2 : ht_LF) (If2 : ht_IF), ht_Mo g u M n Lf2 If2 ∧ ht_fm M w u ∧ ht_same [6, 11, 13, 14, 15, 16, 17] Lf Lf2 ∧ ht_same [10, 12] If If2 ∧ ht_Kp Lf2 If2 ∧ ht_row (Lf2 6) (4 * nd) (ht_dgf 0 x y) ∧ ∀ i, i < 4 * nd ∨ 4 * nd + 4 ≤ i → Lf2 6 i = Lf 6 i)) 0 0 (ht_A g) := by
  refine Met.ofW (cc := b_M_leaf) (maxL := 4) (ret := none) (by decide) rfl ?_
  intro p e s m args below meth c s₁ BB hml hv
  obtain ⟨rfl, HW⟩ := hv
  have HW := ht_I.start HW
  have hx := BB.exec
  have hb := BB.bytes
  have hr := BB.returns
  have hts := atoms_spec (ws := ws_M_leaf) BB.pre
  have htb : ∀ w ∈ bg, w.before _ s = true := fun w h => hts w (List.mem_cons_of_mem _ h)
  have hown : s.vm.findClass R_M = some m.cls := findClass_of_methodNamed BB.named
  have hlocks := BB.notSynchronized
  have hl := lv_entry ([.ref (M 0), .int k1, .int k2]) (n := 4) (Nat.le_of_ble_eq_true rfl)
  rw [lg_entry_eq]
  generalize (lg_sl ([.ref (M 0), .int k1, .int k2]) ++ List.replicate (4 - (lg_sl ([.ref (M 0), .int k1, .int k2])).length) Slot.unset).toArray = ls at hl ⊢
  have hl : lv_has ls 4 [(0, .ref (M 0)), (1, .int k1), (2, .int k2)] := hl
  have loop : ∀ (Iu : ht_IF), ht_same [10, 12] If Iu → ∀ (r q : Nat), q + r = 4 → ∀ (u : ht_W) (Lu : ht_LF), ht_Mo g u M n Lu Iu → ht_fm M w u → ht_same [6, 11, 13, 14, 15, 16, 17] Lf Lu → ht_Kp Lu Iu → ht_row (Lu 16) 0 (ht_dgf 0 x y) → (∀ j, j < q → Lu 6 (4 * nd + j) = ht_kf (ht_dgf 0 x y) j) → (∀ i, i < 4 * nd ∨ 4 * nd + 4 ≤ i → Lu 6 i = Lf 6 i) → ∀ (H : Heap) (locs : List Loc) (ls : Array Slot) (kv : Int32), kv = nI q → ht_I g s u H locs → lv_has ls 4 [(0, .ref (M 0)), (1, .int k1), (3, .int kv)] → W p l e (headSpec ws_M_leaf ({ frames := 4, cells := 0, slots := 0, locals := 160 } : Room)).room s m ([.ref (M 0), .int k1, .int k2] : List Value).toArray below meth c H locs 0 0 (MQ below (ht_Qv g (fun u => ∃ (Lf2 : ht_LF) (If2 : ht_IF), ht_Mo g u M n Lf2 If2 ∧ ht_fm M w u ∧ ht_same [6, 11, 13, 14, 15, 16, 17] Lf Lf2 ∧ ht_same [10, 12] If If2 ∧ ht_Kp Lf2 If2 ∧ ht_row (Lf2 6) (4 * nd) (ht_dgf 0 x y) ∧ ∀ i, i < 4 * nd ∨ 4 * nd + 4 ≤ i → Lf2 6 i = Lf 6 i)) ([.ref (M 0), .int k1, .int k2] : List Value).toArray s 0 0 (ht_A g)) (F0 m 21 ls []) := by
    intro Iu hsI r
    induction r with
    | zero =>
      intro q hq u Lu hMu hfm hsL hKu hgt hgo hold H locs ls kv ekv HW hl
      have hO : ht_at u (M 0) (.inr (4, [.ref (M 1), .ref (M 2), .int (n 0), .ref (M 3), .ref (M 4), .ref (M 5), .ref (M 6), .int (n 1), .ref (M 7), .int (n 2), .ref (M 8), .int (n 3), .int (n 4), .ref (M 9), .ref (M 10), .ref (M 11), .ref (M 12), .ref (M 13), .ref (M 14), .ref (M 15), .ref (M 16), .ref (M 17)]) : va_E) := hMu.1
      have h6 : ht_at u (M 6) (ht_al g 2048 (Lu 6)) := hMu.L 6 (by decide) rfl
      have h16 : ht_at u (M 16) (ht_al g 4 (Lu 16)) := hMu.L 16 (by decide) rfl
      refine lv_iload_n hx hb d_M_leaf_21 rfl (lv_at hl 2 rfl) ?_
      refine lv_iconst (v := 4) hx hb d_M_leaf_22 (by decide) ?_
      refine lv_icmp_ge (tgt := 48) hx hb d_M_leaf_23 (by decide) (fun c23 => ?_) (fun c23 => ?_)
      · exact ht_vret hx hb hr hlocks HW ⟨Lu, Iu, hMu, hfm, hsL, hsI, hKu, fun j hj => hgo j (by omega), fun i hi => (hold i hi)⟩ d_M_leaf_48
      · exact absurd (nI_le (show 4 ≤ q by omega) (by omega)) (by rw [ekv] at c23; exact c23)
    | succ r ih =>
      intro q hq u Lu hMu hfm hsL hKu hgt hgo hold H locs ls kv ekv HW hl
      have hO : ht_at u (M 0) (.inr (4, [.ref (M 1), .ref (M 2), .int (n 0), .ref (M 3), .ref (M 4), .ref (M 5), .ref (M 6), .int (n 1), .ref (M 7), .int (n 2), .ref (M 8), .int (n 3), .int (n 4), .ref (M 9), .ref (M 10), .ref (M 11), .ref (M 12), .ref (M 13), .ref (M 14), .ref (M 15), .ref (M 16), .ref (M 17)]) : va_E) := hMu.1
      have h6 : ht_at u (M 6) (ht_al g 2048 (Lu 6)) := hMu.L 6 (by decide) rfl
      have h16 : ht_at u (M 16) (ht_al g 4 (Lu 16)) := hMu.L 16 (by decide) rfl
      refine lv_iload_n hx hb d_M_leaf_21 rfl (lv_at hl 2 rfl) ?_
      refine lv_iconst (v := 4) hx hb d_M_leaf_22 (by decide) ?_
      refine lv_icmp_ge (tgt := 48) hx hb d_M_leaf_23 (by decide) (fun c23 => ?_) (fun c23 => ?_)
      · exact absurd (show nI 4 ≤ nI q by rw [ekv] at c23; exact c23) (nI_ge (by omega) (by omega))
      · refine lv_aload_n hx hb d_M_leaf_26 rfl (lv_at hl 0 rfl) ?_
        refine ht_get (C := R_M) (T := F_M) (N := 22) (v := .ref (M 6)) hx hb htb i_M hown HW hO rfl 6 (by decide) (htb _ wd_317) (fun _ h9 => h9) rfl d_M_leaf_27 ?_
        refine lv_iconst (v := 4) hx hb d_M_leaf_30 (by decide) ?_
        refine lv_iload_n hx hb d_M_leaf_31 rfl (lv_at hl 1 rfl) ?_
        refine lv_imul hx hb d_M_leaf_32 ?_
        refine lv_iload_n hx hb d_M_leaf_33 rfl (lv_at hl 2 rfl) ?_
        refine lv_iadd hx hb d_M_leaf_34 ?_
        refine lv_topi (fun ia eia => ?_)
        have hia : ia = nI (4 * nd + q) := by rw [eia, ek1, ekv, show (4 : Int32) = nI 4 from rfl, pk_mul, nI_add]
        refine lv_aload_n hx hb d_M_leaf_35 rfl (lv_at hl 0 rfl) ?_
        refine ht_get (C := R_M) (T := F_M) (N := 22) (v := .ref (M 16)) hx hb htb i_M hown HW hO rfl 20 (by decide) (htb _ wd_331) (fun _ h9 => h9) rfl d_M_leaf_36 ?_
        refine lv_iload_n hx hb d_M_leaf_39 rfl (lv_at hl 2 rfl) ?_
        refine ht_lald hx hb HW h16 (by rw [ekv]; exact vp_in_nI (by omega) (by omega)) d_M_leaf_40 ?_
        refine lv_topl (fun gv egv => ?_)
        have egv : gv = (Lu 16) q := by rw [egv, ekv, nI_clamp (by omega)]
        have egv : gv = ht_kf (ht_dgf 0 x y) q := by rw [egv, ← hgt q (by omega), Nat.zero_add]
        refine ht_last hx hb HW h6 (by rw [hia]; exact vp_in_nI (by omega) (by omega)) d_M_leaf_41 (fun H locs HW => ?_)
        rw [hia, nI_clamp (by omega)] at HW
        have n_M_0_M_6 : (M 0) ≠ (M 6) := (hMu.ne 0 6 (by decide) (by decide) (by decide))
        have n_M_16_M_6 : (M 16) ≠ (M 6) := (hMu.ne 16 6 (by decide) (by decide) (by decide))
        obtain ⟨u1, hu1⟩ : ∃ zW : ht_W, zW = ht_up u (M 6) (ht_al g 2048 (vp_updL (Lu 6) (4 * nd + q) gv)) := ⟨_, rfl⟩
        have HW : ht_I g s u1 H locs := by rw [hu1]; exact HW
        have hO : ht_at u1 (M 0) (.inr (4, [.ref (M 1), .ref (M 2), .int (n 0), .ref (M 3), .ref (M 4), .ref (M 5), .ref (M 6), .int (n 1), .ref (M 7), .int (n 2), .ref (M 8), .int (n 3), .int (n 4), .ref (M 9), .ref (M 10), .ref (M 11), .ref (M 12), .ref (M 13), .ref (M 14), .ref (M 15), .ref (M 16), .ref (M 17)]) : va_E) := by rw [hu1]; exact ht_at_ne hO n_M_0_M_6
        have h6 : ht_at u1 (M 6) (ht_al g 2048 (vp_updL (Lu 6) (4 * nd + q) gv)) := by rw [hu1]; exact ht_at_self h6
        have h16 : ht_at u1 (M 16) (ht_al g 4 (Lu 16)) := by rw [hu1]; exact ht_at_ne h16 n_M_16_M_6
        obtain ⟨kv2, ekv2⟩ : ∃ zI : Int32, zI = kv + 1 := ⟨_, rfl⟩
        refine lv_iinc (v := kv2) (lv' := [(3, .int kv2), (0, .ref (M 0)), (1, .int k1)]) hx hb d_M_leaf_42 hl (k := 2) rfl (by rw [ekv2]; rfl) (by decide) rfl (fun ls hl => ?_)
        refine lv_goto (tgt := 21) hx hb d_M_leaf_45 (by decide) ?_
        refine ih (q + 1) (by omega) u1 _ (by rw [hu1]; exact hMu.upL 6 (by decide) rfl _) (by rw [hu1]; exact hfm.up 6 (by decide)) (hsL.up (by decide)) (hKu.cg (va_up_ne _ _ (by decide)) (va_up_ne _ _ (by decide)) rfl) (by rw [va_up_ne _ _ (by decide)]; exact hgt) (fun j hj => ?_) (fun i hi => ?_) _ _ _ kv2 (by rw [ekv2, ekv, nI_1]) HW (lv_sub hl [1, 2, 0] rfl)
        · rw [va_up_self]
          by_cases e : j = q
          · rw [e, pk_uLs]; exact egv
          · rw [pk_uLn (by omega)]; exact hgo j (by omega)
        · rw [va_up_self, pk_uLn (by omega)]
          exact hold i hi
  have hO : ht_at w (M 0) (.inr (4, [.ref (M 1), .ref (M 2), .int (n 0), .ref (M 3), .ref (M 4), .ref (M 5), .ref (M 6), .int (n 1), .ref (M 7), .int (n 2), .ref (M 8), .int (n 3), .int (n 4), .ref (M 9), .ref (M 10), .ref (M 11), .ref (M 12), .ref (M 13), .ref (M 14), .ref (M 15), .ref (M 16), .ref (M 17)]) : va_E) := hM.1
  refine lv_aload_n hx hb d_M_leaf_0 rfl (lv_at hl 0 rfl) ?_
  refine lv_iconst (v := 0) hx hb d_M_leaf_1 (by decide) ?_
  refine lv_aload_n hx hb d_M_leaf_2 rfl (lv_at hl 0 rfl) ?_
  refine ht_get (C := R_M) (T := F_M) (N := 22) (v := .ref (M 1)) hx hb htb i_M hown HW hO rfl 0 (by decide) (htb _ wd_311) (fun _ h9 => h9) rfl d_M_leaf_3 ?_
  refine lv_iconst (v := 4) hx hb d_M_leaf_6 (by decide) ?_
  refine lv_iload_n hx hb d_M_leaf_7 rfl (lv_at hl 2 rfl) ?_
  refine lv_imul hx hb d_M_leaf_8 ?_
  refine lv_topi (fun ja eja => ?_)
  have hja : ja = nI (4 * kk) := by rw [eja, ek2, show (4 : Int32) = nI 4 from rfl, pk_mul]
  refine lv_aload_n hx hb d_M_leaf_9 rfl (lv_at hl 0 rfl) ?_
  refine ht_get (C := R_M) (T := F_M) (N := 22) (v := .ref (M 2)) hx hb htb i_M hown HW hO rfl 1 (by decide) (htb _ wd_312) (fun _ h9 => h9) rfl d_M_leaf_10 ?_
  refine lv_iconst (v := 4) hx hb d_M_leaf_13 (by decide) ?_
  refine lv_iload_n hx hb d_M_leaf_14 rfl (lv_at hl 2 rfl) ?_
  refine lv_imul hx hb d_M_leaf_15 ?_
  refine lv_topi (fun jb ejb => ?_)
  have hjb : jb = nI (4 * kk) := by rw [ejb, ek2, show (4 : Int32) = nI 4 from rfl, pk_mul]
  refine ht_cv HW (va_runV (own := R_M) (C := R_M) (As := [.int 0, .ref (M 1), .int ja, .ref (M 2), .int jb]) (rest := []) ⟨hx, hb, hml, hown, htb⟩ (c_M_join l g w hM hKp 0 (Or.inl rfl) (some (M 1)) (some (M 2)) ja jb (Or.inr ⟨1, 4 * kk, by decide, rfl, rfl, hja, by show 4 * kk + 4 ≤ 2048; omega, hrx⟩) (Or.inr ⟨2, 4 * kk, by decide, rfl, rfl, hjb, by show 4 * kk + 4 ≤ 2048; omega, hry⟩)) (cwV 5 htb (ht_gv wd_430 wd_432 sl_15 wd_3 g_M_join) rfl rfl rfl (by decide +kernel) ⟨Nat.le_of_ble_eq_true rfl, Nat.le_of_ble_eq_true rfl⟩) (HW.preV hO rfl _) rfl rfl hl.1 rfl (lv_room (Nat.le_of_ble_eq_true rfl)) d_M_leaf_16 ⟨Nat.le_of_ble_eq_true rfl, Nat.le_of_ble_eq_true rfl⟩) (fun u1 H locs pj HW => ?_)
  obtain ⟨L2, I2, hM2, hfm2, hs2L, hs2I, hK2, hgt2⟩ := pj
  refine lv_iconst (v := 0) hx hb d_M_leaf_19 (by decide) ?_
  refine lv_istore_n (lv' := [(3, .int 0), (0, .ref (M 0)), (1, .int k1), (2, .int k2)]) hx hb d_M_leaf_20 rfl hl (by decide) rfl (fun ls hl => ?_)
  exact loop I2 hs2I 4 0 rfl u1 L2 hM2 hfm2 (hs2L.mono (by decide)) hK2 hgt2 (fun j hj => absurd hj (Nat.not_lt_zero j)) (fun i _ => by rw [hs2L 6 (by decide)]) _ _ _ 0 rfl HW (lv_sub hl [1, 2, 0] rfl)
set_option maxHeartbeats 4000000 in
set_option maxRecDepth 100000 in
theorem c_M_fork (l : Launch) (g : ht_G) (w : ht_W) {M : Nat → Nat} {n : Nat → Int32} {Lf : ht_LF} {If : ht_IF} (hM : ht_Mo g w M n Lf If) (hKp : ht_Kp Lf If) (nd : Nat) (hnd : nd < 512) (k1 k2 k3 : Int32) (ek1 : k1 = nI nd) {x y : ht_K} (hfx : ht_fa Lf k2 x) (hfy : ht_fa Lf k3 y) : Met l y_M_fork ws_M_fork ({ frames := 4, cells := 0, slots := 0, locals := 160 } : Room) (va_Pc [.ref (M 0), .int k1, .int k2, .int k3] (ht_WS g w)) (ht_Qv g (fun u => ∃ (Lf2 : ht_LF) (If2 : ht_IF), ht_Mo g u M n Lf2 If2 ∧ ht_fm M w u ∧ ht_same [6, 11, 13, 14, 15, 16, 17] Lf Lf2 ∧ ht_same [10, 12] If If2 ∧ ht_Kp Lf2 If2 ∧ ht_row (Lf2 6) (4 * nd) (ht_dgf 1 x y) ∧ ∀ i, i < 4 * nd ∨ 4 * nd + 4 ≤ i → Lf2 6 i = Lf 6 i)) 0 0 (ht_A g) := by
  refine Met.ofW (cc := b_M_fork) (maxL := 5) (ret := none) (by decide) rfl ?_
  intro p e s m args below meth c s₁ BB hml hv
  obtain ⟨rfl, HW⟩ := hv
  have HW := ht_I.start HW
  have hx := BB.exec
  have hb := BB.bytes
  have hr := BB.returns
  have hts := atoms_spec (ws := ws_M_fork) BB.pre
  have htb : ∀ w ∈ bg, w.before _ s = true := fun w h => hts w (List.mem_cons_of_mem _ h)
  have hown : s.vm.findClass R_M = some m.cls := findClass_of_methodNamed BB.named
  have hlocks := BB.notSynchronized
  have hl := lv_entry ([.ref (M 0), .int k1, .int k2, .int k3]) (n := 5) (Nat.le_of_ble_eq_true rfl)
  rw [lg_entry_eq]
  generalize (lg_sl ([.ref (M 0), .int k1, .int k2, .int k3]) ++ List.replicate (5 - (lg_sl ([.ref (M 0), .int k1, .int k2, .int k3])).length) Slot.unset).toArray = ls at hl ⊢
  have hl : lv_has ls 5 [(0, .ref (M 0)), (1, .int k1), (2, .int k2), (3, .int k3)] := hl
  have loop : ∀ (Iu : ht_IF), ht_same [10, 12] If Iu → ∀ (r q : Nat), q + r = 4 → ∀ (u : ht_W) (Lu : ht_LF), ht_Mo g u M n Lu Iu → ht_fm M w u → ht_same [6, 11, 13, 14, 15, 16, 17] Lf Lu → ht_Kp Lu Iu → ht_row (Lu 16) 0 (ht_dgf 1 x y) → (∀ j, j < q → Lu 6 (4 * nd + j) = ht_kf (ht_dgf 1 x y) j) → (∀ i, i < 4 * nd ∨ 4 * nd + 4 ≤ i → Lu 6 i = Lf 6 i) → ∀ (H : Heap) (locs : List Loc) (ls : Array Slot) (kv : Int32), kv = nI q → ht_I g s u H locs → lv_has ls 5 [(0, .ref (M 0)), (1, .int k1), (4, .int kv)] → W p l e (headSpec ws_M_fork ({ frames := 4, cells := 0, slots := 0, locals := 160 } : Room)).room s m ([.ref (M 0), .int k1, .int k2, .int k3] : List Value).toArray below meth c H locs 0 0 (MQ below (ht_Qv g (fun u => ∃ (Lf2 : ht_LF) (If2 : ht_IF), ht_Mo g u M n Lf2 If2 ∧ ht_fm M w u ∧ ht_same [6, 11, 13, 14, 15, 16, 17] Lf Lf2 ∧ ht_same [10, 12] If If2 ∧ ht_Kp Lf2 If2 ∧ ht_row (Lf2 6) (4 * nd) (ht_dgf 1 x y) ∧ ∀ i, i < 4 * nd ∨ 4 * nd + 4 ≤ i → Lf2 6 i = Lf 6 i)) ([.ref (M 0), .int k1, .int k2, .int k3] : List Value).toArray s 0 0 (ht_A g)) (F0 m 38 ls []) := by
    intro Iu hsI r
    induction r with
    | zero =>
      intro q hq u Lu hMu hfm hsL hKu hgt hgo hold H locs ls kv ekv HW hl
      have hO : ht_at u (M 0) (.inr (4, [.ref (M 1), .ref (M 2), .int (n 0), .ref (M 3), .ref (M 4), .ref (M 5), .ref (M 6), .int (n 1), .ref (M 7), .int (n 2), .ref (M 8), .int (n 3), .int (n 4), .ref (M 9), .ref (M 10), .ref (M 11), .ref (M 12), .ref (M 13), .ref (M 14), .ref (M 15), .ref (M 16), .ref (M 17)]) : va_E) := hMu.1
      have h6 : ht_at u (M 6) (ht_al g 2048 (Lu 6)) := hMu.L 6 (by decide) rfl
      have h16 : ht_at u (M 16) (ht_al g 4 (Lu 16)) := hMu.L 16 (by decide) rfl
      refine lv_iload hx hb d_M_fork_38 (lv_at hl 2 rfl) ?_
      refine lv_iconst (v := 4) hx hb d_M_fork_40 (by decide) ?_
      refine lv_icmp_ge (tgt := 68) hx hb d_M_fork_41 (by decide) (fun c41 => ?_) (fun c41 => ?_)
      · exact ht_vret hx hb hr hlocks HW ⟨Lu, Iu, hMu, hfm, hsL, hsI, hKu, fun j hj => hgo j (by omega), fun i hi => (hold i hi)⟩ d_M_fork_68
      · exact absurd (nI_le (show 4 ≤ q by omega) (by omega)) (by rw [ekv] at c41; exact c41)
    | succ r ih =>
      intro q hq u Lu hMu hfm hsL hKu hgt hgo hold H locs ls kv ekv HW hl
      have hO : ht_at u (M 0) (.inr (4, [.ref (M 1), .ref (M 2), .int (n 0), .ref (M 3), .ref (M 4), .ref (M 5), .ref (M 6), .int (n 1), .ref (M 7), .int (n 2), .ref (M 8), .int (n 3), .int (n 4), .ref (M 9), .ref (M 10), .ref (M 11), .ref (M 12), .ref (M 13), .ref (M 14), .ref (M 15), .ref (M 16), .ref (M 17)]) : va_E) := hMu.1
      have h6 : ht_at u (M 6) (ht_al g 2048 (Lu 6)) := hMu.L 6 (by decide) rfl
      have h16 : ht_at u (M 16) (ht_al g 4 (Lu 16)) := hMu.L 16 (by decide) rfl
      refine lv_iload hx hb d_M_fork_38 (lv_at hl 2 rfl) ?_
      refine lv_iconst (v := 4) hx hb d_M_fork_40 (by decide) ?_
      refine lv_icmp_ge (tgt := 68) hx hb d_M_fork_41 (by decide) (fun c41 => ?_) (fun c41 => ?_)
      · exact absurd (show nI 4 ≤ nI q by rw [ekv] at c41; exact c41) (nI_ge (by omega) (by omega))
      · refine lv_aload_n hx hb d_M_fork_44 rfl (lv_at hl 0 rfl) ?_
        refine ht_get (C := R_M) (T := F_M) (N := 22) (v := .ref (M 6)) hx hb htb i_M hown HW hO rfl 6 (by decide) (htb _ wd_317) (fun _ h9 => h9) rfl d_M_fork_45 ?_
        refine lv_iconst (v := 4) hx hb d_M_fork_48 (by decide) ?_
        refine lv_iload_n hx hb d_M_fork_49 rfl (lv_at hl 1 rfl) ?_
        refine lv_imul hx hb d_M_fork_50 ?_
        refine lv_iload hx hb d_M_fork_51 (lv_at hl 2 rfl) ?_
        refine lv_iadd hx hb d_M_fork_53 ?_
        refine lv_topi (fun ia eia => ?_)
        have hia : ia = nI (4 * nd + q) := by rw [eia, ek1, ekv, show (4 : Int32) = nI 4 from rfl, pk_mul, nI_add]
        refine lv_aload_n hx hb d_M_fork_54 rfl (lv_at hl 0 rfl) ?_
        refine ht_get (C := R_M) (T := F_M) (N := 22) (v := .ref (M 16)) hx hb htb i_M hown HW hO rfl 20 (by decide) (htb _ wd_331) (fun _ h9 => h9) rfl d_M_fork_55 ?_
        refine lv_iload hx hb d_M_fork_58 (lv_at hl 2 rfl) ?_
        refine ht_lald hx hb HW h16 (by rw [ekv]; exact vp_in_nI (by omega) (by omega)) d_M_fork_60 ?_
        refine lv_topl (fun gv egv => ?_)
        have egv : gv = (Lu 16) q := by rw [egv, ekv, nI_clamp (by omega)]
        have egv : gv = ht_kf (ht_dgf 1 x y) q := by rw [egv, ← hgt q (by omega), Nat.zero_add]
        refine ht_last hx hb HW h6 (by rw [hia]; exact vp_in_nI (by omega) (by omega)) d_M_fork_61 (fun H locs HW => ?_)
        rw [hia, nI_clamp (by omega)] at HW
        have n_M_0_M_6 : (M 0) ≠ (M 6) := (hMu.ne 0 6 (by decide) (by decide) (by decide))
        have n_M_16_M_6 : (M 16) ≠ (M 6) := (hMu.ne 16 6 (by decide) (by decide) (by decide))
        obtain ⟨u1, hu1⟩ : ∃ zW : ht_W, zW = ht_up u (M 6) (ht_al g 2048 (vp_updL (Lu 6) (4 * nd + q) gv)) := ⟨_, rfl⟩
        have HW : ht_I g s u1 H locs := by rw [hu1]; exact HW
        have hO : ht_at u1 (M 0) (.inr (4, [.ref (M 1), .ref (M 2), .int (n 0), .ref (M 3), .ref (M 4), .ref (M 5), .ref (M 6), .int (n 1), .ref (M 7), .int (n 2), .ref (M 8), .int (n 3), .int (n 4), .ref (M 9), .ref (M 10), .ref (M 11), .ref (M 12), .ref (M 13), .ref (M 14), .ref (M 15), .ref (M 16), .ref (M 17)]) : va_E) := by rw [hu1]; exact ht_at_ne hO n_M_0_M_6
        have h6 : ht_at u1 (M 6) (ht_al g 2048 (vp_updL (Lu 6) (4 * nd + q) gv)) := by rw [hu1]; exact ht_at_self h6
        have h16 : ht_at u1 (M 16) (ht_al g 4 (Lu 16)) := by rw [hu1]; exact ht_at_ne h16 n_M_16_M_6
        obtain ⟨kv2, ekv2⟩ : ∃ zI : Int32, zI = kv + 1 := ⟨_, rfl⟩
        refine lv_iinc (v := kv2) (lv' := [(4, .int kv2), (0, .ref (M 0)), (1, .int k1)]) hx hb d_M_fork_62 hl (k := 2) rfl (by rw [ekv2]; rfl) (by decide) rfl (fun ls hl => ?_)
        refine lv_goto (tgt := 38) hx hb d_M_fork_65 (by decide) ?_
        refine ih (q + 1) (by omega) u1 _ (by rw [hu1]; exact hMu.upL 6 (by decide) rfl _) (by rw [hu1]; exact hfm.up 6 (by decide)) (hsL.up (by decide)) (hKu.cg (va_up_ne _ _ (by decide)) (va_up_ne _ _ (by decide)) rfl) (by rw [va_up_ne _ _ (by decide)]; exact hgt) (fun j hj => ?_) (fun i hi => ?_) _ _ _ kv2 (by rw [ekv2, ekv, nI_1]) HW (lv_sub hl [1, 2, 0] rfl)
        · rw [va_up_self]
          by_cases e : j = q
          · rw [e, pk_uLs]; exact egv
          · rw [pk_uLn (by omega)]; exact hgo j (by omega)
        · rw [va_up_self, pk_uLn (by omega)]
          exact hold i hi
  rcases hfx with ⟨ev2, ex1⟩ | ⟨j1, hj1, ev2, hr1⟩ <;> rcases hfy with ⟨ev3, ex2⟩ | ⟨j2, hj2, ev3, hr2⟩
  · have hO : ht_at w (M 0) (.inr (4, [.ref (M 1), .ref (M 2), .int (n 0), .ref (M 3), .ref (M 4), .ref (M 5), .ref (M 6), .int (n 1), .ref (M 7), .int (n 2), .ref (M 8), .int (n 3), .int (n 4), .ref (M 9), .ref (M 10), .ref (M 11), .ref (M 12), .ref (M 13), .ref (M 14), .ref (M 15), .ref (M 16), .ref (M 17)]) : va_E) := hM.1
    refine lv_aload_n hx hb d_M_fork_0 rfl (lv_at hl 0 rfl) ?_
    refine lv_iconst (v := 1) hx hb d_M_fork_1 (by decide) ?_
    refine lv_iload_n hx hb d_M_fork_2 rfl (lv_at hl 2 rfl) ?_
    refine lv_if_ge (tgt := 10) hx hb d_M_fork_3 (by decide) (fun c3 => ?_) (fun c3 => ?_)
    · exact absurd c3 (by rw [ev2]; decide)
    · refine lv_null hx hb d_M_fork_6 ?_
      refine lv_goto (tgt := 14) hx hb d_M_fork_7 (by decide) ?_
      refine lv_iconst (v := 4) hx hb d_M_fork_14 (by decide) ?_
      refine lv_iload_n hx hb d_M_fork_15 rfl (lv_at hl 2 rfl) ?_
      refine lv_imul hx hb d_M_fork_16 ?_
      refine lv_topi (fun ja eja => ?_)
      refine lv_iload_n hx hb d_M_fork_17 rfl (lv_at hl 3 rfl) ?_
      refine lv_if_ge (tgt := 25) hx hb d_M_fork_18 (by decide) (fun c18 => ?_) (fun c18 => ?_)
      · exact absurd c18 (by rw [ev3]; decide)
      · refine lv_null hx hb d_M_fork_21 ?_
        refine lv_goto (tgt := 29) hx hb d_M_fork_22 (by decide) ?_
        refine lv_iconst (v := 4) hx hb d_M_fork_29 (by decide) ?_
        refine lv_iload_n hx hb d_M_fork_30 rfl (lv_at hl 3 rfl) ?_
        refine lv_imul hx hb d_M_fork_31 ?_
        refine lv_topi (fun jb ejb => ?_)
        refine ht_cv HW (va_runV (own := R_M) (C := R_M) (As := [.int 1, .null, .int ja, .null, .int jb]) (rest := []) ⟨hx, hb, hml, hown, htb⟩ (c_M_join l g w hM hKp 1 (Or.inr rfl) (none) (none) ja jb (Or.inl ⟨rfl, ex1⟩) (Or.inl ⟨rfl, ex2⟩)) (cwV 5 htb (ht_gv wd_430 wd_432 sl_15 wd_3 g_M_join) rfl rfl rfl (by decide +kernel) ⟨Nat.le_of_ble_eq_true rfl, Nat.le_of_ble_eq_true rfl⟩) (HW.preV hO rfl _) rfl rfl hl.1 rfl (lv_room (Nat.le_of_ble_eq_true rfl)) d_M_fork_32 ⟨Nat.le_of_ble_eq_true rfl, Nat.le_of_ble_eq_true rfl⟩) (fun u1 H locs pj HW => ?_)
        obtain ⟨L2, I2, hM2, hfm2, hs2L, hs2I, hK2, hgt2⟩ := pj
        refine lv_iconst (v := 0) hx hb d_M_fork_35 (by decide) ?_
        refine lv_istore (lv' := [(4, .int 0), (0, .ref (M 0)), (1, .int k1), (2, .int k2), (3, .int k3)]) hx hb d_M_fork_36 hl (by decide) rfl (fun ls hl => ?_)
        exact loop I2 hs2I 4 0 rfl u1 L2 hM2 hfm2 (hs2L.mono (by decide)) hK2 hgt2 (fun j hj => absurd hj (Nat.not_lt_zero j)) (fun i _ => by rw [hs2L 6 (by decide)]) _ _ _ 0 rfl HW (lv_sub hl [1, 2, 0] rfl)
  · have hO : ht_at w (M 0) (.inr (4, [.ref (M 1), .ref (M 2), .int (n 0), .ref (M 3), .ref (M 4), .ref (M 5), .ref (M 6), .int (n 1), .ref (M 7), .int (n 2), .ref (M 8), .int (n 3), .int (n 4), .ref (M 9), .ref (M 10), .ref (M 11), .ref (M 12), .ref (M 13), .ref (M 14), .ref (M 15), .ref (M 16), .ref (M 17)]) : va_E) := hM.1
    refine lv_aload_n hx hb d_M_fork_0 rfl (lv_at hl 0 rfl) ?_
    refine lv_iconst (v := 1) hx hb d_M_fork_1 (by decide) ?_
    refine lv_iload_n hx hb d_M_fork_2 rfl (lv_at hl 2 rfl) ?_
    refine lv_if_ge (tgt := 10) hx hb d_M_fork_3 (by decide) (fun c3 => ?_) (fun c3 => ?_)
    · exact absurd c3 (by rw [ev2]; decide)
    · refine lv_null hx hb d_M_fork_6 ?_
      refine lv_goto (tgt := 14) hx hb d_M_fork_7 (by decide) ?_
      refine lv_iconst (v := 4) hx hb d_M_fork_14 (by decide) ?_
      refine lv_iload_n hx hb d_M_fork_15 rfl (lv_at hl 2 rfl) ?_
      refine lv_imul hx hb d_M_fork_16 ?_
      refine lv_topi (fun ja eja => ?_)
      refine lv_iload_n hx hb d_M_fork_17 rfl (lv_at hl 3 rfl) ?_
      refine lv_if_ge (tgt := 25) hx hb d_M_fork_18 (by decide) (fun c18 => ?_) (fun c18 => ?_)
      · refine lv_aload_n hx hb d_M_fork_25 rfl (lv_at hl 0 rfl) ?_
        refine ht_get (C := R_M) (T := F_M) (N := 22) (v := .ref (M 6)) hx hb htb i_M hown HW hO rfl 6 (by decide) (htb _ wd_317) (fun _ h9 => h9) rfl d_M_fork_26 ?_
        refine lv_iconst (v := 4) hx hb d_M_fork_29 (by decide) ?_
        refine lv_iload_n hx hb d_M_fork_30 rfl (lv_at hl 3 rfl) ?_
        refine lv_imul hx hb d_M_fork_31 ?_
        refine lv_topi (fun jb ejb => ?_)
        refine ht_cv HW (va_runV (own := R_M) (C := R_M) (As := [.int 1, .null, .int ja, .ref (M 6), .int jb]) (rest := []) ⟨hx, hb, hml, hown, htb⟩ (c_M_join l g w hM hKp 1 (Or.inr rfl) (none) (some (M 6)) ja jb (Or.inl ⟨rfl, ex1⟩) (Or.inr ⟨6, 4 * j2, by decide, rfl, rfl, by rw [ejb, ev3, show (4 : Int32) = nI 4 from rfl, pk_mul], by show 4 * j2 + 4 ≤ 2048; omega, hr2⟩)) (cwV 5 htb (ht_gv wd_430 wd_432 sl_15 wd_3 g_M_join) rfl rfl rfl (by decide +kernel) ⟨Nat.le_of_ble_eq_true rfl, Nat.le_of_ble_eq_true rfl⟩) (HW.preV hO rfl _) rfl rfl hl.1 rfl (lv_room (Nat.le_of_ble_eq_true rfl)) d_M_fork_32 ⟨Nat.le_of_ble_eq_true rfl, Nat.le_of_ble_eq_true rfl⟩) (fun u1 H locs pj HW => ?_)
        obtain ⟨L2, I2, hM2, hfm2, hs2L, hs2I, hK2, hgt2⟩ := pj
        refine lv_iconst (v := 0) hx hb d_M_fork_35 (by decide) ?_
        refine lv_istore (lv' := [(4, .int 0), (0, .ref (M 0)), (1, .int k1), (2, .int k2), (3, .int k3)]) hx hb d_M_fork_36 hl (by decide) rfl (fun ls hl => ?_)
        exact loop I2 hs2I 4 0 rfl u1 L2 hM2 hfm2 (hs2L.mono (by decide)) hK2 hgt2 (fun j hj => absurd hj (Nat.not_lt_zero j)) (fun i _ => by rw [hs2L 6 (by decide)]) _ _ _ 0 rfl HW (lv_sub hl [1, 2, 0] rfl)
      · exact absurd (by rw [ev3]; exact nI_pos' (by omega)) c18
  · have hO : ht_at w (M 0) (.inr (4, [.ref (M 1), .ref (M 2), .int (n 0), .ref (M 3), .ref (M 4), .ref (M 5), .ref (M 6), .int (n 1), .ref (M 7), .int (n 2), .ref (M 8), .int (n 3), .int (n 4), .ref (M 9), .ref (M 10), .ref (M 11), .ref (M 12), .ref (M 13), .ref (M 14), .ref (M 15), .ref (M 16), .ref (M 17)]) : va_E) := hM.1
    refine lv_aload_n hx hb d_M_fork_0 rfl (lv_at hl 0 rfl) ?_
    refine lv_iconst (v := 1) hx hb d_M_fork_1 (by decide) ?_
    refine lv_iload_n hx hb d_M_fork_2 rfl (lv_at hl 2 rfl) ?_
    refine lv_if_ge (tgt := 10) hx hb d_M_fork_3 (by decide) (fun c3 => ?_) (fun c3 => ?_)
    · refine lv_aload_n hx hb d_M_fork_10 rfl (lv_at hl 0 rfl) ?_
      refine ht_get (C := R_M) (T := F_M) (N := 22) (v := .ref (M 6)) hx hb htb i_M hown HW hO rfl 6 (by decide) (htb _ wd_317) (fun _ h9 => h9) rfl d_M_fork_11 ?_
      refine lv_iconst (v := 4) hx hb d_M_fork_14 (by decide) ?_
      refine lv_iload_n hx hb d_M_fork_15 rfl (lv_at hl 2 rfl) ?_
      refine lv_imul hx hb d_M_fork_16 ?_
      refine lv_topi (fun ja eja => ?_)
      refine lv_iload_n hx hb d_M_fork_17 rfl (lv_at hl 3 rfl) ?_
      refine lv_if_ge (tgt := 25) hx hb d_M_fork_18 (by decide) (fun c18 => ?_) (fun c18 => ?_)
      · exact absurd c18 (by rw [ev3]; decide)
      · refine lv_null hx hb d_M_fork_21 ?_
        refine lv_goto (tgt := 29) hx hb d_M_fork_22 (by decide) ?_
        refine lv_iconst (v := 4) hx hb d_M_fork_29 (by decide) ?_
        refine lv_iload_n hx hb d_M_fork_30 rfl (lv_at hl 3 rfl) ?_
        refine lv_imul hx hb d_M_fork_31 ?_
        refine lv_topi (fun jb ejb => ?_)
        refine ht_cv HW (va_runV (own := R_M) (C := R_M) (As := [.int 1, .ref (M 6), .int ja, .null, .int jb]) (rest := []) ⟨hx, hb, hml, hown, htb⟩ (c_M_join l g w hM hKp 1 (Or.inr rfl) (some (M 6)) (none) ja jb (Or.inr ⟨6, 4 * j1, by decide, rfl, rfl, by rw [eja, ev2, show (4 : Int32) = nI 4 from rfl, pk_mul], by show 4 * j1 + 4 ≤ 2048; omega, hr1⟩) (Or.inl ⟨rfl, ex2⟩)) (cwV 5 htb (ht_gv wd_430 wd_432 sl_15 wd_3 g_M_join) rfl rfl rfl (by decide +kernel) ⟨Nat.le_of_ble_eq_true rfl, Nat.le_of_ble_eq_true rfl⟩) (HW.preV hO rfl _) rfl rfl hl.1 rfl (lv_room (Nat.le_of_ble_eq_true rfl)) d_M_fork_32 ⟨Nat.le_of_ble_eq_true rfl, Nat.le_of_ble_eq_true rfl⟩) (fun u1 H locs pj HW => ?_)
        obtain ⟨L2, I2, hM2, hfm2, hs2L, hs2I, hK2, hgt2⟩ := pj
        refine lv_iconst (v := 0) hx hb d_M_fork_35 (by decide) ?_
        refine lv_istore (lv' := [(4, .int 0), (0, .ref (M 0)), (1, .int k1), (2, .int k2), (3, .int k3)]) hx hb d_M_fork_36 hl (by decide) rfl (fun ls hl => ?_)
        exact loop I2 hs2I 4 0 rfl u1 L2 hM2 hfm2 (hs2L.mono (by decide)) hK2 hgt2 (fun j hj => absurd hj (Nat.not_lt_zero j)) (fun i _ => by rw [hs2L 6 (by decide)]) _ _ _ 0 rfl HW (lv_sub hl [1, 2, 0] rfl)
    · exact absurd (by rw [ev2]; exact nI_pos' (by omega)) c3
  · have hO : ht_at w (M 0) (.inr (4, [.ref (M 1), .ref (M 2), .int (n 0), .ref (M 3), .ref (M 4), .ref (M 5), .ref (M 6), .int (n 1), .ref (M 7), .int (n 2), .ref (M 8), .int (n 3), .int (n 4), .ref (M 9), .ref (M 10), .ref (M 11), .ref (M 12), .ref (M 13), .ref (M 14), .ref (M 15), .ref (M 16), .ref (M 17)]) : va_E) := hM.1
    refine lv_aload_n hx hb d_M_fork_0 rfl (lv_at hl 0 rfl) ?_
    refine lv_iconst (v := 1) hx hb d_M_fork_1 (by decide) ?_
    refine lv_iload_n hx hb d_M_fork_2 rfl (lv_at hl 2 rfl) ?_
    refine lv_if_ge (tgt := 10) hx hb d_M_fork_3 (by decide) (fun c3 => ?_) (fun c3 => ?_)
    · refine lv_aload_n hx hb d_M_fork_10 rfl (lv_at hl 0 rfl) ?_
      refine ht_get (C := R_M) (T := F_M) (N := 22) (v := .ref (M 6)) hx hb htb i_M hown HW hO rfl 6 (by decide) (htb _ wd_317) (fun _ h9 => h9) rfl d_M_fork_11 ?_
      refine lv_iconst (v := 4) hx hb d_M_fork_14 (by decide) ?_
      refine lv_iload_n hx hb d_M_fork_15 rfl (lv_at hl 2 rfl) ?_
      refine lv_imul hx hb d_M_fork_16 ?_
      refine lv_topi (fun ja eja => ?_)
      refine lv_iload_n hx hb d_M_fork_17 rfl (lv_at hl 3 rfl) ?_
      refine lv_if_ge (tgt := 25) hx hb d_M_fork_18 (by decide) (fun c18 => ?_) (fun c18 => ?_)
      · refine lv_aload_n hx hb d_M_fork_25 rfl (lv_at hl 0 rfl) ?_
        refine ht_get (C := R_M) (T := F_M) (N := 22) (v := .ref (M 6)) hx hb htb i_M hown HW hO rfl 6 (by decide) (htb _ wd_317) (fun _ h9 => h9) rfl d_M_fork_26 ?_
        refine lv_iconst (v := 4) hx hb d_M_fork_29 (by decide) ?_
        refine lv_iload_n hx hb d_M_fork_30 rfl (lv_at hl 3 rfl) ?_
        refine lv_imul hx hb d_M_fork_31 ?_
        refine lv_topi (fun jb ejb => ?_)
        refine ht_cv HW (va_runV (own := R_M) (C := R_M) (As := [.int 1, .ref (M 6), .int ja, .ref (M 6), .int jb]) (rest := []) ⟨hx, hb, hml, hown, htb⟩ (c_M_join l g w hM hKp 1 (Or.inr rfl) (some (M 6)) (some (M 6)) ja jb (Or.inr ⟨6, 4 * j1, by decide, rfl, rfl, by rw [eja, ev2, show (4 : Int32) = nI 4 from rfl, pk_mul], by show 4 * j1 + 4 ≤ 2048; omega, hr1⟩) (Or.inr ⟨6, 4 * j2, by decide, rfl, rfl, by rw [ejb, ev3, show (4 : Int32) = nI 4 from rfl, pk_mul], by show 4 * j2 + 4 ≤ 2048; omega, hr2⟩)) (cwV 5 htb (ht_gv wd_430 wd_432 sl_15 wd_3 g_M_join) rfl rfl rfl (by decide +kernel) ⟨Nat.le_of_ble_eq_true rfl, Nat.le_of_ble_eq_true rfl⟩) (HW.preV hO rfl _) rfl rfl hl.1 rfl (lv_room (Nat.le_of_ble_eq_true rfl)) d_M_fork_32 ⟨Nat.le_of_ble_eq_true rfl, Nat.le_of_ble_eq_true rfl⟩) (fun u1 H locs pj HW => ?_)
        obtain ⟨L2, I2, hM2, hfm2, hs2L, hs2I, hK2, hgt2⟩ := pj
        refine lv_iconst (v := 0) hx hb d_M_fork_35 (by decide) ?_
        refine lv_istore (lv' := [(4, .int 0), (0, .ref (M 0)), (1, .int k1), (2, .int k2), (3, .int k3)]) hx hb d_M_fork_36 hl (by decide) rfl (fun ls hl => ?_)
        exact loop I2 hs2I 4 0 rfl u1 L2 hM2 hfm2 (hs2L.mono (by decide)) hK2 hgt2 (fun j hj => absurd hj (Nat.not_lt_zero j)) (fun i _ => by rw [hs2L 6 (by decide)]) _ _ _ 0 rfl HW (lv_sub hl [1, 2, 0] rfl)
      · exact absurd (by rw [ev3]; exact nI_pos' (by omega)) c18
    · exact absurd (by rw [ev2]; exact nI_pos' (by omega)) c3
