theorem ht_RL.cg {n n' : Nat → Int32} {Lf Lf' : ht_LF} {R : ht_L} (h : ht_RL n Lf R) (h0 : n' 0 = n 0) (h1 : Lf' 1 = Lf 1) (h2 : Lf' 2 = Lf 2) : ht_RL n' Lf' R := ⟨h.1, h0.trans h.2.1, fun p q hq => by rw [h1, h2]; exact h.2.2 p q hq⟩
theorem ht_take_s {α : Type} {l : List α} {j : Nat} {q : α} (h : l[j]? = some q) : l.take (j + 1) = l.take j ++ [q] := by
  rw [List.take_succ, h]
  rfl
theorem ht_tk_len {l : ht_L} {j : Nat} (h : j ≤ l.length) : ((l.take j).map (fun q => [q])).length = j ∧ ((l.take j).map (fun q => [q])).flatten.length = j := by
  rw [ht_flat1, List.length_map, List.length_take]
  omega
set_option maxHeartbeats 4000000 in
set_option maxRecDepth 100000 in
theorem c_M_hash (l : Launch) (g : ht_G) (w : ht_W) {M : Nat → Nat} {n : Nat → Int32} {Lf : ht_LF} {If : ht_IF} (hM : ht_Mo g w M n Lf If) (hKp : ht_Kp Lf If) {R : ht_L} (hRL : ht_RL n Lf R) (fr tt lev : Nat) (hft : fr ≤ tt) (htR : tt ≤ R.length) (hlev : lev ≤ 256) {L : ht_L} (hsrt : ht_srt L) (hsub : ht_sub R fr L) (hLl : L.length = tt - fr) (k1 k2 k3 : Int32) (ek1 : k1 = nI fr) (ek2 : k2 = nI tt) (ek3 : k3 = nI lev) : Met l y_M_hash ws_M_hash ({ frames := 6, cells := 0, slots := 0, locals := 240 } : Room) (va_Pc [.ref (M 0), .int k1, .int k2, .int k3] (ht_WS g w)) (ht_Qv g (fun u => ∃ (n2 : Nat → Int32) (Lf2 : ht_LF) (If2 : ht_IF), ht_Mo g u M n2 Lf2 If2 ∧ ht_fm M w u ∧ ht_same [1] n n2 ∧ ht_same [6, 11, 13, 14, 15, 16, 17] Lf Lf2 ∧ ht_same [4, 5, 10, 12] If If2 ∧ ht_Kp Lf2 If2 ∧ (L ≠ [] → (∀ q ∈ L, ∀ q2 ∈ L, ht_ag q.1 q2.1 lev) → ht_row (Lf2 6) 0 (ht_h ht_dgf (256 - lev) L)))) 0 0 (ht_A g) := by
  refine Met.ofW (cc := b_M_hash) (maxL := 5) (ret := none) (by decide) rfl ?_
  intro p e s m args below meth c s₁ BB hml hv
  obtain ⟨rfl, HW⟩ := hv
  have HW := ht_I.start HW
  have hx := BB.exec
  have hb := BB.bytes
  have hr := BB.returns
  have hts := atoms_spec (ws := ws_M_hash) BB.pre
  have htb : ∀ w ∈ bg, w.before _ s = true := fun w h => hts w (List.mem_cons_of_mem _ h)
  have hown : s.vm.findClass R_M = some m.cls := findClass_of_methodNamed BB.named
  have hlocks := BB.notSynchronized
  have hl := lv_entry ([.ref (M 0), .int k1, .int k2, .int k3]) (n := 5) (Nat.le_of_ble_eq_true rfl)
  rw [lg_entry_eq]
  generalize (lg_sl ([.ref (M 0), .int k1, .int k2, .int k3]) ++ List.replicate (5 - (lg_sl ([.ref (M 0), .int k1, .int k2, .int k3])).length) Slot.unset).toArray = ls at hl ⊢
  have hl : lv_has ls 5 [(0, .ref (M 0)), (1, .int k1), (2, .int k2), (3, .int k3)] := hl
  have loopB : ∀ (r D : Nat), D = lev + r ∧ D ≤ 256 → ∀ (u : ht_W) (nu : Nat → Int32) (Lu : ht_LF) (Iu : ht_IF) (G : List ht_L), ht_Mo g u M nu Lu Iu → ht_fm M w u → ht_same [1] n nu → ht_same [6, 11, 13, 14, 15, 16, 17] Lf Lu → ht_same [4, 5, 10, 12] If Iu → ht_Kp Lu Iu → nu 1 = nI G.length → G.length ≤ 512 → ht_ga (Iu 4) (Iu 5) (Lu 6) (ht_h ht_dgf (256 - D)) 0 fr G → ht_gp D G → G.flatten = L → ∀ (H : Heap) (locs : List Loc) (ls : Array Slot) (dv : Int32), dv + 1 = nI D → ht_I g s u H locs → lv_has ls 5 [(0, .ref (M 0)), (3, .int k3), (4, .int dv)] → W p l e (headSpec ws_M_hash ({ frames := 6, cells := 0, slots := 0, locals := 240 } : Room)).room s m ([.ref (M 0), .int k1, .int k2, .int k3] : List Value).toArray below meth c H locs 0 0 (MQ below (ht_Qv g (fun u => ∃ (n2 : Nat → Int32) (Lf2 : ht_LF) (If2 : ht_IF), ht_Mo g u M n2 Lf2 If2 ∧ ht_fm M w u ∧ ht_same [1] n n2 ∧ ht_same [6, 11, 13, 14, 15, 16, 17] Lf Lf2 ∧ ht_same [4, 5, 10, 12] If If2 ∧ ht_Kp Lf2 If2 ∧ (L ≠ [] → (∀ q ∈ L, ∀ q2 ∈ L, ht_ag q.1 q2.1 lev) → ht_row (Lf2 6) 0 (ht_h ht_dgf (256 - lev) L)))) ([.ref (M 0), .int k1, .int k2, .int k3] : List Value).toArray s 0 0 (ht_A g)) (F0 m 59 ls []) := by
    intro r
    induction r with
    | zero =>
      intro D hD u nu Lu Iu G hMu hfm hsn hsL hsI hKu hn1 hGl hga hG hfl H locs ls dv edv HW hl
      have hO : ht_at u (M 0) (.inr (4, [.ref (M 1), .ref (M 2), .int (nu 0), .ref (M 3), .ref (M 4), .ref (M 5), .ref (M 6), .int (nu 1), .ref (M 7), .int (nu 2), .ref (M 8), .int (nu 3), .int (nu 4), .ref (M 9), .ref (M 10), .ref (M 11), .ref (M 12), .ref (M 13), .ref (M 14), .ref (M 15), .ref (M 16), .ref (M 17)]) : va_E) := hMu.1
      refine lv_iload hx hb d_M_hash_59 (lv_at hl 2 rfl) ?_
      refine lv_iload_n hx hb d_M_hash_61 rfl (lv_at hl 1 rfl) ?_
      refine lv_icmp_lt (tgt := 77) hx hb d_M_hash_62 (by decide) (fun c62 => ?_) (fun c62 => ?_)
      · exact ht_vret hx hb hr hlocks HW ⟨nu, Lu, Iu, hMu, hfm, hsn, hsL, hsI, hKu, fun hne hag => by
            have hG1 := hG.all (by rw [hfl]; exact hne) (by rw [hfl, show D = lev by omega]; exact hag)
            rw [hfl] at hG1
            rw [hG1] at hga
            have h9 := hga.2.2.1
            rw [show D = lev by omega] at h9
            exact h9⟩ d_M_hash_77
      · exact absurd (by rw [ek3]; exact ht_xl (by rw [edv]; exact congrArg nI (by omega)) (by omega)) c62
    | succ r ih =>
      intro D hD u nu Lu Iu G hMu hfm hsn hsL hsI hKu hn1 hGl hga hG hfl H locs ls dv edv HW hl
      have hdv : dv = nI (lev + r) := ht_js (by rw [edv]; exact congrArg nI (by omega))
      have hO : ht_at u (M 0) (.inr (4, [.ref (M 1), .ref (M 2), .int (nu 0), .ref (M 3), .ref (M 4), .ref (M 5), .ref (M 6), .int (nu 1), .ref (M 7), .int (nu 2), .ref (M 8), .int (nu 3), .int (nu 4), .ref (M 9), .ref (M 10), .ref (M 11), .ref (M 12), .ref (M 13), .ref (M 14), .ref (M 15), .ref (M 16), .ref (M 17)]) : va_E) := hMu.1
      refine lv_iload hx hb d_M_hash_59 (lv_at hl 2 rfl) ?_
      refine lv_iload_n hx hb d_M_hash_61 rfl (lv_at hl 1 rfl) ?_
      refine lv_icmp_lt (tgt := 77) hx hb d_M_hash_62 (by decide) (fun c62 => ?_) (fun c62 => ?_)
      · exact absurd (show dv < nI lev by rw [← ek3]; exact c62) (by rw [hdv]; exact nI_nlt (by omega) (by omega))
      · refine lv_aload_n hx hb d_M_hash_65 rfl (lv_at hl 0 rfl) ?_
        refine lv_iload hx hb d_M_hash_66 (lv_at hl 2 rfl) ?_
        refine ht_cv HW (va_runV (own := R_M) (C := R_M) (As := [.int dv]) (rest := []) ⟨hx, hb, hml, hown, htb⟩ (c_M_step l g u hMu hKu (hRL.cg (hsn 0 (by decide)) (hsL 1 (by decide)) (hsL 2 (by decide))) fr (lev + r) (by omega) (by rw [show lev + r + 1 = D by omega]; exact hG) hGl (by rw [hfl]; exact hsub) hn1 (by rw [show 255 - (lev + r) = 256 - D by omega]; exact hga) dv hdv) (cwV 1 htb (ht_gv wd_472 wd_474 sl_20 wd_3 g_M_step) rfl rfl rfl (by decide +kernel) ⟨Nat.le_of_ble_eq_true rfl, Nat.le_of_ble_eq_true rfl⟩) (HW.preV hO rfl _) rfl rfl hl.1 rfl (lv_room (Nat.le_of_ble_eq_true rfl)) d_M_hash_68 ⟨Nat.le_of_ble_eq_true rfl, Nat.le_of_ble_eq_true rfl⟩) (fun u1 H locs pst HW => ?_)
        obtain ⟨n3, L3, I3, G3, hM3, hfm3, hsn3, hsL3, hsI3, hK3, hn3, hGl3, hga3, hG3, hfl3⟩ := pst
        obtain ⟨dv2, edv2⟩ : ∃ zI : Int32, zI = dv + (-1) := ⟨_, rfl⟩
        refine lv_iinc (v := dv2) (lv' := [(4, .int dv2), (0, .ref (M 0)), (3, .int k3)]) hx hb d_M_hash_71 hl (k := 2) rfl (by rw [edv2]; rfl) (by decide) rfl (fun ls hl => ?_)
        refine lv_goto (tgt := 59) hx hb d_M_hash_74 (by decide) ?_
        exact ih (lev + r) (by omega) u1 n3 L3 I3 G3 hM3 (hfm.trans hfm3) (hsn.trans hsn3) (hsL.trans hsL3) (hsI.trans hsI3) hK3 hn3 hGl3 hga3 hG3 (hfl3.trans hfl) _ _ _ dv2 (by rw [edv2]; exact (ht_c1 dv).trans hdv) HW (lv_sub hl [1, 2, 0] rfl)
  have loopA : ∀ (r j : Nat), j + r = L.length → ∀ (u : ht_W) (nu : Nat → Int32) (Lu : ht_LF) (Iu : ht_IF), ht_Mo g u M nu Lu Iu → ht_fm M w u → ht_same [1] n nu → ht_same [6, 11, 13, 14, 15, 16, 17] Lf Lu → ht_same [4, 5, 10, 12] If Iu → ht_Kp Lu Iu → nu 1 = nI L.length → ht_ga (Iu 4) (Iu 5) (Lu 6) (ht_h ht_dgf (256 - 256)) 0 fr ((L.take j).map (fun q => [q])) → ∀ (H : Heap) (locs : List Loc) (ls : Array Slot) (jv : Int32), jv = nI j → ht_I g s u H locs → lv_has ls 5 [(0, .ref (M 0)), (1, .int k1), (3, .int k3), (4, .int jv)] → W p l e (headSpec ws_M_hash ({ frames := 6, cells := 0, slots := 0, locals := 240 } : Room)).room s m ([.ref (M 0), .int k1, .int k2, .int k3] : List Value).toArray below meth c H locs 0 0 (MQ below (ht_Qv g (fun u => ∃ (n2 : Nat → Int32) (Lf2 : ht_LF) (If2 : ht_IF), ht_Mo g u M n2 Lf2 If2 ∧ ht_fm M w u ∧ ht_same [1] n n2 ∧ ht_same [6, 11, 13, 14, 15, 16, 17] Lf Lf2 ∧ ht_same [4, 5, 10, 12] If If2 ∧ ht_Kp Lf2 If2 ∧ (L ≠ [] → (∀ q ∈ L, ∀ q2 ∈ L, ht_ag q.1 q2.1 lev) → ht_row (Lf2 6) 0 (ht_h ht_dgf (256 - lev) L)))) ([.ref (M 0), .int k1, .int k2, .int k3] : List Value).toArray s 0 0 (ht_A g)) (F0 m 10 ls []) := by
    intro r
    induction r with
    | zero =>
      intro j hj u nu Lu Iu hMu hfm hsn hsL hsI hKu hn1 hga H locs ls jv ejv HW hl
      have h512 := hRL.1
      have hO : ht_at u (M 0) (.inr (4, [.ref (M 1), .ref (M 2), .int (nu 0), .ref (M 3), .ref (M 4), .ref (M 5), .ref (M 6), .int (nu 1), .ref (M 7), .int (nu 2), .ref (M 8), .int (nu 3), .int (nu 4), .ref (M 9), .ref (M 10), .ref (M 11), .ref (M 12), .ref (M 13), .ref (M 14), .ref (M 15), .ref (M 16), .ref (M 17)]) : va_E) := hMu.1
      have h4 : ht_at u (M 4) (ht_ai g 512 (Iu 4)) := hMu.2.2.1
      have h5 : ht_at u (M 5) (ht_ai g 512 (Iu 5)) := hMu.2.2.2.1
      refine lv_iload hx hb d_M_hash_10 (lv_at hl 3 rfl) ?_
      refine lv_aload_n hx hb d_M_hash_12 rfl (lv_at hl 0 rfl) ?_
      refine ht_get (C := R_M) (T := F_M) (N := 22) (v := .int (nu 1)) hx hb htb i_M hown HW hO rfl 7 (by decide) (htb _ wd_318) (fun _ h9 => h9) rfl d_M_hash_13 ?_
      refine lv_icmp_ge (tgt := 54) hx hb d_M_hash_16 (by decide) (fun c16 => ?_) (fun c16 => ?_)
      · refine lv_sipush (v := 255) hx hb d_M_hash_54 (by decide) ?_
        refine lv_istore (lv' := [(4, .int 255), (0, .ref (M 0)), (1, .int k1), (3, .int k3)]) hx hb d_M_hash_57 hl (by decide) rfl (fun ls hl => ?_)
        have hLj : L.take j = L := List.take_of_length_le (by omega)
        exact loopB (256 - lev) 256 (by omega) u nu Lu Iu (L.map (fun q => [q])) hMu hfm hsn hsL hsI hKu (by rw [List.length_map, hn1]) (by rw [List.length_map]; omega) (by rw [hLj] at hga; exact hga) (ht_gp_start hsrt) (ht_flat1 L) _ _ _ 255 rfl HW (lv_sub hl [1, 3, 0] rfl)
      · exact absurd (by rw [ejv, hn1]; exact nI_le (by omega) (by omega)) c16
    | succ r ih =>
      intro j hj u nu Lu Iu hMu hfm hsn hsL hsI hKu hn1 hga H locs ls jv ejv HW hl
      have h512 := hRL.1
      obtain ⟨q, hLq⟩ := ht_gl (l := L) (p := j) (by omega)
      have hRq := hsub j q hLq
      have htl := ht_tk_len (l := L) (j := j) (by omega)
      have hrx : ht_row (Lu 1) (4 * (fr + j)) q.1 := by rw [hsL 1 (by decide)]; exact (hRL.2.2 _ _ hRq).1
      have hry : ht_row (Lu 2) (4 * (fr + j)) q.2 := by rw [hsL 2 (by decide)]; exact (hRL.2.2 _ _ hRq).2
      have hO : ht_at u (M 0) (.inr (4, [.ref (M 1), .ref (M 2), .int (nu 0), .ref (M 3), .ref (M 4), .ref (M 5), .ref (M 6), .int (nu 1), .ref (M 7), .int (nu 2), .ref (M 8), .int (nu 3), .int (nu 4), .ref (M 9), .ref (M 10), .ref (M 11), .ref (M 12), .ref (M 13), .ref (M 14), .ref (M 15), .ref (M 16), .ref (M 17)]) : va_E) := hMu.1
      have h4 : ht_at u (M 4) (ht_ai g 512 (Iu 4)) := hMu.2.2.1
      have h5 : ht_at u (M 5) (ht_ai g 512 (Iu 5)) := hMu.2.2.2.1
      refine lv_iload hx hb d_M_hash_10 (lv_at hl 3 rfl) ?_
      refine lv_aload_n hx hb d_M_hash_12 rfl (lv_at hl 0 rfl) ?_
      refine ht_get (C := R_M) (T := F_M) (N := 22) (v := .int (nu 1)) hx hb htb i_M hown HW hO rfl 7 (by decide) (htb _ wd_318) (fun _ h9 => h9) rfl d_M_hash_13 ?_
      refine lv_icmp_ge (tgt := 54) hx hb d_M_hash_16 (by decide) (fun c16 => ?_) (fun c16 => ?_)
      · exact absurd (show nI L.length ≤ nI j by rw [ejv, hn1] at c16; exact c16) (nI_ge (by omega) (by omega))
      · refine lv_aload_n hx hb d_M_hash_19 rfl (lv_at hl 0 rfl) ?_
        refine ht_get (C := R_M) (T := F_M) (N := 22) (v := .ref (M 4)) hx hb htb i_M hown HW hO rfl 4 (by decide) (htb _ wd_315) (fun _ h9 => h9) rfl d_M_hash_20 ?_
        refine lv_iload hx hb d_M_hash_23 (lv_at hl 3 rfl) ?_
        refine lv_iload_n hx hb d_M_hash_25 rfl (lv_at hl 1 rfl) ?_
        refine lv_iload hx hb d_M_hash_26 (lv_at hl 3 rfl) ?_
        refine lv_iadd hx hb d_M_hash_28 ?_
        refine lv_topi (fun iq eiq => ?_)
        have hiq : iq = nI (fr + j) := by rw [eiq, ek1, ejv, nI_add]
        refine ht_iast hx hb HW h4 (by rw [ejv]; exact vp_in_nI (by omega) (by omega)) d_M_hash_29 (fun H locs HW => ?_)
        rw [ejv, nI_clamp (by omega)] at HW
        have n_M_0_M_4 : (M 0) ≠ (M 4) := (hMu.ne 0 4 (by decide) (by decide) (by decide))
        have n_M_5_M_4 : (M 5) ≠ (M 4) := (hMu.ne 5 4 (by decide) (by decide) (by decide))
        obtain ⟨u1, hu1⟩ : ∃ zW : ht_W, zW = ht_up u (M 4) (ht_ai g 512 (upd (Iu 4) j iq)) := ⟨_, rfl⟩
        have HW : ht_I g s u1 H locs := by rw [hu1]; exact HW
        have hO : ht_at u1 (M 0) (.inr (4, [.ref (M 1), .ref (M 2), .int (nu 0), .ref (M 3), .ref (M 4), .ref (M 5), .ref (M 6), .int (nu 1), .ref (M 7), .int (nu 2), .ref (M 8), .int (nu 3), .int (nu 4), .ref (M 9), .ref (M 10), .ref (M 11), .ref (M 12), .ref (M 13), .ref (M 14), .ref (M 15), .ref (M 16), .ref (M 17)]) : va_E) := by rw [hu1]; exact ht_at_ne hO n_M_0_M_4
        have h4 : ht_at u1 (M 4) (ht_ai g 512 (upd (Iu 4) j iq)) := by rw [hu1]; exact ht_at_self h4
        have h5 : ht_at u1 (M 5) (ht_ai g 512 (Iu 5)) := by rw [hu1]; exact ht_at_ne h5 n_M_5_M_4
        refine lv_aload_n hx hb d_M_hash_30 rfl (lv_at hl 0 rfl) ?_
        refine ht_get (C := R_M) (T := F_M) (N := 22) (v := .ref (M 5)) hx hb htb i_M hown HW hO rfl 5 (by decide) (htb _ wd_316) (fun _ h9 => h9) rfl d_M_hash_31 ?_
        refine lv_iload hx hb d_M_hash_34 (lv_at hl 3 rfl) ?_
        refine lv_iconst (v := 1) hx hb d_M_hash_36 (by decide) ?_
        refine ht_iast hx hb HW h5 (by rw [ejv]; exact vp_in_nI (by omega) (by omega)) d_M_hash_37 (fun H locs HW => ?_)
        rw [ejv, nI_clamp (by omega)] at HW
        have n_M_0_M_5 : (M 0) ≠ (M 5) := (hMu.ne 0 5 (by decide) (by decide) (by decide))
        have n_M_4_M_5 : (M 4) ≠ (M 5) := (Ne.symm n_M_5_M_4)
        obtain ⟨u2, hu2⟩ : ∃ zW : ht_W, zW = ht_up u1 (M 5) (ht_ai g 512 (upd (Iu 5) j (1 : Int32))) := ⟨_, rfl⟩
        have HW : ht_I g s u2 H locs := by rw [hu2]; exact HW
        have hO : ht_at u2 (M 0) (.inr (4, [.ref (M 1), .ref (M 2), .int (nu 0), .ref (M 3), .ref (M 4), .ref (M 5), .ref (M 6), .int (nu 1), .ref (M 7), .int (nu 2), .ref (M 8), .int (nu 3), .int (nu 4), .ref (M 9), .ref (M 10), .ref (M 11), .ref (M 12), .ref (M 13), .ref (M 14), .ref (M 15), .ref (M 16), .ref (M 17)]) : va_E) := by rw [hu2]; exact ht_at_ne hO n_M_0_M_5
        have h4 : ht_at u2 (M 4) (ht_ai g 512 (upd (Iu 4) j iq)) := by rw [hu2]; exact ht_at_ne h4 n_M_4_M_5
        have h5 : ht_at u2 (M 5) (ht_ai g 512 (upd (Iu 5) j (1 : Int32))) := by rw [hu2]; exact ht_at_self h5
        refine lv_aload_n hx hb d_M_hash_38 rfl (lv_at hl 0 rfl) ?_
        refine lv_iload hx hb d_M_hash_39 (lv_at hl 3 rfl) ?_
        refine lv_iload_n hx hb d_M_hash_41 rfl (lv_at hl 1 rfl) ?_
        refine lv_iload hx hb d_M_hash_42 (lv_at hl 3 rfl) ?_
        refine lv_iadd hx hb d_M_hash_44 ?_
        refine lv_topi (fun ir eir => ?_)
        have hir : ir = nI (fr + j) := by rw [eir, ek1, ejv, nI_add]
        have hMw : ht_Mo g u2 M nu Lu (va_up (va_up Iu 4 (upd (Iu 4) j iq)) 5 (upd (Iu 5) j 1)) := by rw [hu2, hu1]; exact (hMu.up4 _).up5 _
        have hfw : ht_fm M w u2 := by rw [hu2, hu1]; exact (hfm.up 4 (by decide)).up 5 (by decide)
        refine ht_cv HW (va_runV (own := R_M) (C := R_M) (As := [.int jv, .int ir]) (rest := []) ⟨hx, hb, hml, hown, htb⟩ (c_M_leaf l g u2 hMw (hKu.cg rfl rfl (by rw [va_up_ne _ _ (by decide), va_up_ne _ _ (by decide)])) j (fr + j) (by omega) (by omega) jv ir ejv hir hrx hry) (cwV 2 htb (ht_gv wd_426 wd_428 sl_14 wd_3 g_M_leaf) rfl rfl rfl (by decide +kernel) ⟨Nat.le_of_ble_eq_true rfl, Nat.le_of_ble_eq_true rfl⟩) (HW.preV hO rfl _) rfl rfl hl.1 rfl (lv_room (Nat.le_of_ble_eq_true rfl)) d_M_hash_45 ⟨Nat.le_of_ble_eq_true rfl, Nat.le_of_ble_eq_true rfl⟩) (fun u3 H locs pl HW => ?_)
        obtain ⟨L2, I2, hM2, hfm2, hs2L, hs2I, hK2, hrow2, hold2⟩ := pl
        obtain ⟨jv2, ejv2⟩ : ∃ zI : Int32, zI = jv + 1 := ⟨_, rfl⟩
        refine lv_iinc (v := jv2) (lv' := [(4, .int jv2), (0, .ref (M 0)), (1, .int k1), (3, .int k3)]) hx hb d_M_hash_48 hl (k := 3) rfl (by rw [ejv2]; rfl) (by decide) rfl (fun ls hl => ?_)
        refine lv_goto (tgt := 10) hx hb d_M_hash_51 (by decide) ?_
        have e4 : I2 4 = upd (Iu 4) j iq := by rw [hs2I 4 (by decide), va_up_ne _ _ (by decide), va_up_self]
        have e5 : I2 5 = upd (Iu 5) j 1 := by rw [hs2I 5 (by decide), va_up_self]
        refine ih (j + 1) (by omega) u3 nu L2 I2 hM2 (hfw.trans hfm2) hsn (hsL.trans hs2L) (((hsI.up (by decide)).up (by decide)).trans (hs2I.mono (by decide))) hK2 hn1 ?_ _ _ _ jv2 (by rw [ejv2, ejv, nI_1]) HW (lv_sub hl [1, 2, 3, 0] rfl)
        rw [ht_take_s hLq, List.map_append]
        refine ht_ga.app (hga.cg (fun i h1 h2 => ?_)) ?_
        · rw [htl.1] at h2
          exact ⟨by rw [e4, pk_un (by omega)], by rw [e5, pk_un (by omega)], fun b hb => hold2 _ (by omega)⟩
        · rw [htl.1, htl.2, Nat.zero_add]
          exact ⟨by rw [e4, pk_us]; exact hiq, by rw [e5, pk_us]; rfl, by rw [ht_h_one]; exact hrow2, trivial⟩
  have hO : ht_at w (M 0) (.inr (4, [.ref (M 1), .ref (M 2), .int (n 0), .ref (M 3), .ref (M 4), .ref (M 5), .ref (M 6), .int (n 1), .ref (M 7), .int (n 2), .ref (M 8), .int (n 3), .int (n 4), .ref (M 9), .ref (M 10), .ref (M 11), .ref (M 12), .ref (M 13), .ref (M 14), .ref (M 15), .ref (M 16), .ref (M 17)]) : va_E) := hM.1
  refine lv_aload_n hx hb d_M_hash_0 rfl (lv_at hl 0 rfl) ?_
  refine lv_iload_n hx hb d_M_hash_1 rfl (lv_at hl 2 rfl) ?_
  refine lv_iload_n hx hb d_M_hash_2 rfl (lv_at hl 1 rfl) ?_
  refine lv_isub hx hb d_M_hash_3 ?_
  refine lv_topi (fun nv env => ?_)
  have hnv : nv = nI L.length := by rw [env, ek1, ek2, pk_sub hft, hLl]
  refine ht_put (C := R_M) (T := F_M) (N := 22) (v := .int nv) (ty := .int) hx hb htb i_M t_M t_M_ok n_M hown HW hO rfl 7 (by decide) (htb _ wd_318) (fun _ h9 => h9) rfl (by decide +kernel) rfl rfl (Nat.le_of_ble_eq_true rfl) d_M_hash_4 (fun H locs HW => ?_)
  obtain ⟨u1, hu1⟩ : ∃ zW : ht_W, zW = ht_up w (M 0) (.inr (4, [.ref (M 1), .ref (M 2), .int (n 0), .ref (M 3), .ref (M 4), .ref (M 5), .ref (M 6), .int nv, .ref (M 7), .int (n 2), .ref (M 8), .int (n 3), .int (n 4), .ref (M 9), .ref (M 10), .ref (M 11), .ref (M 12), .ref (M 13), .ref (M 14), .ref (M 15), .ref (M 16), .ref (M 17)]) : va_E) := ⟨_, rfl⟩
  have HW : ht_I g s u1 H locs := by rw [hu1]; exact HW
  have hO : ht_at u1 (M 0) (.inr (4, [.ref (M 1), .ref (M 2), .int (n 0), .ref (M 3), .ref (M 4), .ref (M 5), .ref (M 6), .int nv, .ref (M 7), .int (n 2), .ref (M 8), .int (n 3), .int (n 4), .ref (M 9), .ref (M 10), .ref (M 11), .ref (M 12), .ref (M 13), .ref (M 14), .ref (M 15), .ref (M 16), .ref (M 17)]) : va_E) := by rw [hu1]; exact ht_at_self hO
  refine lv_iconst (v := 0) hx hb d_M_hash_7 (by decide) ?_
  refine lv_istore (lv' := [(4, .int 0), (0, .ref (M 0)), (1, .int k1), (2, .int k2), (3, .int k3)]) hx hb d_M_hash_8 hl (by decide) rfl (fun ls hl => ?_)
  exact loopA L.length 0 (by omega) u1 (va_up n 1 nv) Lf If (by rw [hu1]; exact hM.up0 (va_up n 1 nv)) (by rw [hu1]; exact ht_fm.rf.up 0 (by decide)) (ht_same.rf.up (by decide)) ht_same.rf ht_same.rf hKp hnv trivial _ _ _ 0 rfl HW (lv_sub hl [1, 2, 4, 0] rfl)
