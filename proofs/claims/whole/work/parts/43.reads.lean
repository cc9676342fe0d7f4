theorem ht_isn_or (i : Int32) : ht_isn i ∨ ¬ ht_isn i := Classical.em _
theorem ht_rng {x : Int32} {n : Nat} (hn : n < 2 ^ 31) (h0 : ¬ x < 0) (h1 : ¬ nI n ≤ x) : ∃ a : Nat, a < n ∧ x = nI a := by
  obtain ⟨j, hj, rfl⟩ := nI_of h0
  exact ⟨j, Nat.not_le.mp (fun q => h1 (nI_le q hj)), rfl⟩
theorem ht_rng0 {x : Int32} {n : Nat} (hn : n < 2 ^ 31) (h0 : x < 0) : ¬ ∃ a : Nat, a < n ∧ x = nI a := fun ⟨a, ha, e⟩ => nI_pos (n := a) (by omega) (by rw [← e]; exact h0)
theorem ht_rng1 {x : Int32} {n : Nat} (hn : n < 2 ^ 31) (h0 : nI n ≤ x) : ¬ ∃ a : Nat, a < n ∧ x = nI a := fun ⟨a, ha, e⟩ => nI_ge (b := n) ha hn (by rw [← e]; exact h0)
set_option maxHeartbeats 4000000 in
set_option maxRecDepth 100000 in
theorem c_X_has (l : Launch) (g : ht_G) (w : ht_W) {dgf : Int32 → ht_K → ht_K → ht_K} {X : Nat → Nat} {tg : Nat → Nat × Nat} {k : ht_K} {N : ht_N} {A : ht_AA} {F : List Nat} {top : Option Nat} {L : ht_L} {dt : ht_D} {opf : Nat → Option Nat} {sbf lsf enf : Nat → Int64} {ei : Int32} (hR : ht_Rp dgf g w X tg k N A F top L dt opf sbf lsf enf ei) : Met l y_X_has ws_X_has ({ frames := 4, cells := 0, slots := 0, locals := 120 } : Room) (va_Pc [.ref (X 0)] (ht_WS g w)) (ht_Qi g (fun r u => ((r = 1 ∧ ∃ v0, (k, v0) ∈ L) ∨ (r = 0 ∧ ∀ q ∈ L, q.1 ≠ k)) ∧ w = u)) 0 0 (ht_A g) := by
  refine Met.ofW (cc := b_X_has) (maxL := 1) (ret := (some .boolean)) (by decide) rfl ?_
  intro p e s m args below meth c s₁ BB hml hv
  obtain ⟨rfl, HW⟩ := hv
  have HW := ht_I.start HW
  have hx := BB.exec
  have hb := BB.bytes
  have hr := BB.returns
  have hts := atoms_spec (ws := ws_X_has) BB.pre
  have htb : ∀ w ∈ bg, w.before _ s = true := fun w h => hts w (List.mem_cons_of_mem _ h)
  have hown : s.vm.findClass R_X = some m.cls := findClass_of_methodNamed BB.named
  have hlocks := BB.notSynchronized
  have hl := lv_entry ([.ref (X 0)]) (n := 1) (Nat.le_of_ble_eq_true rfl)
  rw [lg_entry_eq]
  generalize (lg_sl ([.ref (X 0)]) ++ List.replicate (1 - (lg_sl ([.ref (X 0)])).length) Slot.unset).toArray = ls at hl ⊢
  have hl : lv_has ls 1 [(0, .ref (X 0))] := hl
  obtain ⟨hX, hK, hDg, hOp, hSb, hLs, hEn, hN, hT, hF, htg, hlen⟩ := id hR
  unfold ht_xo at hX
  refine lv_aload_n hx hb d_X_has_0 rfl (lv_at hl 0 rfl) ?_
  refine ht_cq HW (va_runV (own := R_X) (C := R_X) (As := []) (rest := []) ⟨hx, hb, hml, hown, htb⟩ (c_X_leafOfKey l g w hX hK hN hT) (cwV 0 htb (ht_gv wd_79 wd_81 sl_0 wd_1 g_X_leafOfKey) rfl rfl rfl (by decide +kernel) ⟨Nat.le_of_ble_eq_true rfl, Nat.le_of_ble_eq_true rfl⟩) (HW.preV hX rfl _) rfl rfl hl.1 rfl (lv_room (Nat.le_of_ble_eq_true rfl)) d_X_has_1 ⟨Nat.le_of_ble_eq_true rfl, Nat.le_of_ble_eq_true rfl⟩) (fun q2 u1 H locs pn HW => ?_)
  obtain ⟨pn, eww⟩ := pn
  subst eww
  rcases pn with ⟨er, hnk⟩ | ⟨b, v0, er, hbF, hp, hbk⟩
  · subst er
    refine W.eq (g2 := F0 _ 4 ls [.null]) rfl ?_
    refine lv_ifnullN (tgt := 11) hx hb d_X_has_4 (by decide) ?_
    refine lv_iconst (v := 0) hx hb d_X_has_11 (by decide) ?_
    exact ht_zret hx hb hr hlocks HW (by rfl) ⟨Or.inr ⟨rfl, hnk⟩, rfl⟩ d_X_has_12
  · subst er
    refine W.eq (g2 := F0 _ 4 ls [.ref b]) rfl ?_
    have hkv : (k, v0) ∈ L := by rw [← hbk]; exact (hT.2.2.2.1 b hbF v0 hp).2
    have hlb := hN.lf hbF hp
    have hvb := (hN b hbF).2.2.2 v0 hp
    refine lv_ifnull hx hb d_X_has_4 ?_
    refine lv_iconst (v := 1) hx hb d_X_has_7 (by decide) ?_
    refine lv_goto (tgt := 12) hx hb d_X_has_8 (by decide) ?_
    exact ht_zret hx hb hr hlocks HW (by rfl) ⟨Or.inl ⟨rfl, v0, hkv⟩, rfl⟩ d_X_has_12
set_option maxHeartbeats 4000000 in
set_option maxRecDepth 100000 in
theorem c_X_value (l : Launch) (g : ht_G) (w : ht_W) {dgf : Int32 → ht_K → ht_K → ht_K} {X : Nat → Nat} {tg : Nat → Nat × Nat} {k : ht_K} {N : ht_N} {A : ht_AA} {F : List Nat} {top : Option Nat} {L : ht_L} {dt : ht_D} {opf : Nat → Option Nat} {sbf lsf enf : Nat → Int64} {ei : Int32} (hR : ht_Rp dgf g w X tg k N A F top L dt opf sbf lsf enf ei) (i : Int32) : Met l y_X_value ws_X_value ({ frames := 4, cells := 0, slots := 0, locals := 120 } : Room) (va_Pc [.ref (X 0), .int i] (ht_WS g w)) (ht_Ql g (fun r u => ((∃ v0 j, (k, v0) ∈ L ∧ j < 4 ∧ i = nI j ∧ r = ht_kf v0 j) ∨ (((∀ q ∈ L, q.1 ≠ k) ∨ ¬ ht_isn i) ∧ r = 0)) ∧ w = u)) 0 0 (ht_A g) := by
  refine Met.ofW (cc := b_X_value) (maxL := 3) (ret := (some .long)) (by decide) rfl ?_
  intro p e s m args below meth c s₁ BB hml hv
  obtain ⟨rfl, HW⟩ := hv
  have HW := ht_I.start HW
  have hx := BB.exec
  have hb := BB.bytes
  have hr := BB.returns
  have hts := atoms_spec (ws := ws_X_value) BB.pre
  have htb : ∀ w ∈ bg, w.before _ s = true := fun w h => hts w (List.mem_cons_of_mem _ h)
  have hown : s.vm.findClass R_X = some m.cls := findClass_of_methodNamed BB.named
  have hlocks := BB.notSynchronized
  have hl := lv_entry ([.ref (X 0), .int i]) (n := 3) (Nat.le_of_ble_eq_true rfl)
  rw [lg_entry_eq]
  generalize (lg_sl ([.ref (X 0), .int i]) ++ List.replicate (3 - (lg_sl ([.ref (X 0), .int i])).length) Slot.unset).toArray = ls at hl ⊢
  have hl : lv_has ls 3 [(0, .ref (X 0)), (1, .int i)] := hl
  obtain ⟨hX, hK, hDg, hOp, hSb, hLs, hEn, hN, hT, hF, htg, hlen⟩ := id hR
  unfold ht_xo at hX
  refine lv_aload_n hx hb d_X_value_0 rfl (lv_at hl 0 rfl) ?_
  refine ht_cq HW (va_runV (own := R_X) (C := R_X) (As := []) (rest := []) ⟨hx, hb, hml, hown, htb⟩ (c_X_leafOfKey l g w hX hK hN hT) (cwV 0 htb (ht_gv wd_79 wd_81 sl_0 wd_1 g_X_leafOfKey) rfl rfl rfl (by decide +kernel) ⟨Nat.le_of_ble_eq_true rfl, Nat.le_of_ble_eq_true rfl⟩) (HW.preV hX rfl _) rfl rfl hl.1 rfl (lv_room (Nat.le_of_ble_eq_true rfl)) d_X_value_1 ⟨Nat.le_of_ble_eq_true rfl, Nat.le_of_ble_eq_true rfl⟩) (fun q2 u1 H locs pn HW => ?_)
  obtain ⟨pn, eww⟩ := pn
  subst eww
  rcases pn with ⟨er, hnk⟩ | ⟨b, v0, er, hbF, hp, hbk⟩
  · subst er
    refine W.eq (g2 := F0 _ 4 ls [.null]) rfl ?_
    refine lv_astore_nN (lv' := [(2, .null), (0, .ref (X 0)), (1, .int i)]) hx hb d_X_value_4 rfl hl (by decide) rfl (fun ls hl => ?_)
    refine lv_aload_nN hx hb d_X_value_5 rfl (lv_at hl 0 rfl) ?_
    refine lv_ifnullN (tgt := 25) hx hb d_X_value_6 (by decide) ?_
    refine lv_lconst (v := 0) hx hb d_X_value_25 (by decide) ?_
    exact ht_lret hx hb hr hlocks HW ⟨Or.inr ⟨Or.inl hnk, rfl⟩, rfl⟩ d_X_value_26
  · subst er
    refine W.eq (g2 := F0 _ 4 ls [.ref b]) rfl ?_
    have hkv : (k, v0) ∈ L := by rw [← hbk]; exact (hT.2.2.2.1 b hbF v0 hp).2
    have hlb := hN.lf hbF hp
    have hvb := (hN b hbF).2.2.2 v0 hp
    refine lv_astore_n (lv' := [(2, .ref b), (0, .ref (X 0)), (1, .int i)]) hx hb d_X_value_4 rfl hl (by decide) rfl (fun ls hl => ?_)
    refine lv_aload_n hx hb d_X_value_5 rfl (lv_at hl 0 rfl) ?_
    refine lv_ifnull hx hb d_X_value_6 ?_
    refine lv_iload_n hx hb d_X_value_9 rfl (lv_at hl 2 rfl) ?_
    refine ht_ci HW (va_runS (own := R_X) (As := [.int i]) (rest := []) ⟨hx, hb, hml, hown, htb⟩ (c_X_isNumber l g w i) (va_cwS 1 htb (ht_gs wd_198 wd_199 wd_1 g_X_isNumber) rfl rfl rfl (by decide +kernel) ⟨Nat.le_of_ble_eq_true rfl, Nat.le_of_ble_eq_true rfl⟩) (HW.preS _) rfl rfl hl.1 rfl (lv_room (Nat.le_of_ble_eq_true rfl)) d_X_value_10 ⟨Nat.le_of_ble_eq_true rfl, Nat.le_of_ble_eq_true rfl⟩) (fun q4 u3 H locs pi HW => ?_)
    obtain ⟨pi, eww⟩ := pi
    subst eww
    rcases ht_isn_or i with hisn | hisn
    · have er := pi.1 hisn
      subst er
      refine W.eq (g2 := F0 _ 13 ls [.int 1]) rfl ?_
      obtain ⟨j, hj, ej⟩ := id hisn
      refine lv_if_eq (tgt := 25) hx hb d_X_value_13 (by decide) (fun c13 => ?_) (fun c13 => ?_)
      · exact absurd c13 (by decide)
      · refine lv_aload_n hx hb d_X_value_16 rfl (lv_at hl 0 rfl) ?_
        refine ht_get (C := R_L) (T := F_L) (N := 5) (v := .ref (A b).2.2) hx hb htb i_L hown HW hlb rfl 4 (by decide) (htb _ wd_126) (fun _ h9 => h9) rfl d_X_value_17 ?_
        refine lv_iload_n hx hb d_X_value_20 rfl (lv_at hl 2 rfl) ?_
        refine ht_lald hx hb HW hvb (by rw [ej]; exact vp_in_nI (by omega) (by omega)) d_X_value_21 ?_
        refine lv_topl (fun vv evv => ?_)
        have evv : vv = (ht_kf v0) j := by rw [evv, ej, nI_clamp (by omega)]
        refine lv_goto (tgt := 26) hx hb d_X_value_22 (by decide) ?_
        exact ht_lret hx hb hr hlocks HW ⟨Or.inl ⟨v0, j, hkv, hj, ej, evv⟩, rfl⟩ d_X_value_26
    · have er := pi.2 hisn
      subst er
      refine W.eq (g2 := F0 _ 13 ls [.int 0]) rfl ?_
      refine lv_if_eq (tgt := 25) hx hb d_X_value_13 (by decide) (fun c13 => ?_) (fun c13 => ?_)
      · refine lv_lconst (v := 0) hx hb d_X_value_25 (by decide) ?_
        exact ht_lret hx hb hr hlocks HW ⟨Or.inr ⟨Or.inr hisn, rfl⟩, rfl⟩ d_X_value_26
      · exact absurd rfl c13
set_option maxHeartbeats 4000000 in
set_option maxRecDepth 100000 in
theorem c_X_count (l : Launch) (g : ht_G) (w : ht_W) {dgf : Int32 → ht_K → ht_K → ht_K} {X : Nat → Nat} {tg : Nat → Nat × Nat} {k : ht_K} {N : ht_N} {A : ht_AA} {F : List Nat} {top : Option Nat} {L : ht_L} {dt : ht_D} {opf : Nat → Option Nat} {sbf lsf enf : Nat → Int64} {ei : Int32} (hR : ht_Rp dgf g w X tg k N A F top L dt opf sbf lsf enf ei) : Met l y_X_count ws_X_count ({ frames := 0, cells := 0, slots := 0, locals := 0 } : Room) (va_Pc [.ref (X 0)] (ht_WS g w)) (ht_Qi g (fun r u => r = nI L.length ∧ w = u)) 0 0 (ht_A g) := by
  refine Met.ofW (cc := b_X_count) (maxL := 1) (ret := (some .int)) (by decide) rfl ?_
  intro p e s m args below meth c s₁ BB hml hv
  obtain ⟨rfl, HW⟩ := hv
  have HW := ht_I.start HW
  have hx := BB.exec
  have hb := BB.bytes
  have hr := BB.returns
  have hts := atoms_spec (ws := ws_X_count) BB.pre
  have htb : ∀ w ∈ bg, w.before _ s = true := fun w h => hts w (List.mem_cons_of_mem _ h)
  have hown : s.vm.findClass R_X = some m.cls := findClass_of_methodNamed BB.named
  have hlocks := BB.notSynchronized
  have hl := lv_entry ([.ref (X 0)]) (n := 1) (Nat.le_of_ble_eq_true rfl)
  rw [lg_entry_eq]
  generalize (lg_sl ([.ref (X 0)]) ++ List.replicate (1 - (lg_sl ([.ref (X 0)])).length) Slot.unset).toArray = ls at hl ⊢
  have hl : lv_has ls 1 [(0, .ref (X 0))] := hl
  obtain ⟨hX, hK, hDg, hOp, hSb, hLs, hEn, hN, hT, hF, htg, hlen⟩ := id hR
  unfold ht_xo at hX
  refine lv_aload_n hx hb d_X_count_0 rfl (lv_at hl 0 rfl) ?_
  refine ht_get (C := R_X) (T := F_X) (N := 9) (v := .int (nI L.length)) hx hb htb i_X hown HW hX rfl 4 (by decide) (htb _ wd_44) (fun _ h9 => h9) rfl d_X_count_1 ?_
  exact ht_iret hx hb hr hlocks HW ⟨rfl, rfl⟩ d_X_count_4
set_option maxHeartbeats 4000000 in
set_option maxRecDepth 100000 in
theorem c_X_ending (l : Launch) (g : ht_G) (w : ht_W) {dgf : Int32 → ht_K → ht_K → ht_K} {X : Nat → Nat} {tg : Nat → Nat × Nat} {k : ht_K} {N : ht_N} {A : ht_AA} {F : List Nat} {top : Option Nat} {L : ht_L} {dt : ht_D} {opf : Nat → Option Nat} {sbf lsf enf : Nat → Int64} {ei : Int32} (hR : ht_Rp dgf g w X tg k N A F top L dt opf sbf lsf enf ei) : Met l y_X_ending ws_X_ending ({ frames := 0, cells := 0, slots := 0, locals := 0 } : Room) (va_Pc [.ref (X 0)] (ht_WS g w)) (ht_Qi g (fun r u => r = ei ∧ w = u)) 0 0 (ht_A g) := by
  refine Met.ofW (cc := b_X_ending) (maxL := 1) (ret := (some .int)) (by decide) rfl ?_
  intro p e s m args below meth c s₁ BB hml hv
  obtain ⟨rfl, HW⟩ := hv
  have HW := ht_I.start HW
  have hx := BB.exec
  have hb := BB.bytes
  have hr := BB.returns
  have hts := atoms_spec (ws := ws_X_ending) BB.pre
  have htb : ∀ w ∈ bg, w.before _ s = true := fun w h => hts w (List.mem_cons_of_mem _ h)
  have hown : s.vm.findClass R_X = some m.cls := findClass_of_methodNamed BB.named
  have hlocks := BB.notSynchronized
  have hl := lv_entry ([.ref (X 0)]) (n := 1) (Nat.le_of_ble_eq_true rfl)
  rw [lg_entry_eq]
  generalize (lg_sl ([.ref (X 0)]) ++ List.replicate (1 - (lg_sl ([.ref (X 0)])).length) Slot.unset).toArray = ls at hl ⊢
  have hl : lv_has ls 1 [(0, .ref (X 0))] := hl
  obtain ⟨hX, hK, hDg, hOp, hSb, hLs, hEn, hN, hT, hF, htg, hlen⟩ := id hR
  unfold ht_xo at hX
  refine lv_aload_n hx hb d_X_ending_0 rfl (lv_at hl 0 rfl) ?_
  refine ht_get (C := R_X) (T := F_X) (N := 9) (v := .int ei) hx hb htb i_X hown HW hX rfl 8 (by decide) (htb _ wd_48) (fun _ h9 => h9) rfl d_X_ending_1 ?_
  exact ht_iret hx hb hr hlocks HW ⟨rfl, rfl⟩ d_X_ending_4
set_option maxHeartbeats 4000000 in
set_option maxRecDepth 100000 in
theorem c_X_sibling (l : Launch) (g : ht_G) (w : ht_W) {dgf : Int32 → ht_K → ht_K → ht_K} {X : Nat → Nat} {tg : Nat → Nat × Nat} {k : ht_K} {N : ht_N} {A : ht_AA} {F : List Nat} {top : Option Nat} {L : ht_L} {dt : ht_D} {opf : Nat → Option Nat} {sbf lsf enf : Nat → Int64} {ei : Int32} (hR : ht_Rp dgf g w X tg k N A F top L dt opf sbf lsf enf ei) (kk i : Int32) : Met l y_X_sibling ws_X_sibling ({ frames := 1, cells := 0, slots := 0, locals := 30 } : Room) (va_Pc [.ref (X 0), .int kk, .int i] (ht_WS g w)) (ht_Ql g (fun r u => ((∃ a1 j, a1 < 256 ∧ j < 4 ∧ kk = nI a1 ∧ i = nI j ∧ r = sbf (a1 * 4 + j)) ∨ (((¬ ∃ a1 : Nat, a1 < 256 ∧ kk = nI a1) ∨ ¬ ht_isn i) ∧ r = 0)) ∧ w = u)) 0 0 (ht_A g) := by
  refine Met.ofW (cc := b_X_sibling) (maxL := 3) (ret := (some .long)) (by decide) rfl ?_
  intro p e s m args below meth c s₁ BB hml hv
  obtain ⟨rfl, HW⟩ := hv
  have HW := ht_I.start HW
  have hx := BB.exec
  have hb := BB.bytes
  have hr := BB.returns
  have hts := atoms_spec (ws := ws_X_sibling) BB.pre
  have htb : ∀ w ∈ bg, w.before _ s = true := fun w h => hts w (List.mem_cons_of_mem _ h)
  have hown : s.vm.findClass R_X = some m.cls := findClass_of_methodNamed BB.named
  have hlocks := BB.notSynchronized
  have hl := lv_entry ([.ref (X 0), .int kk, .int i]) (n := 3) (Nat.le_of_ble_eq_true rfl)
  rw [lg_entry_eq]
  generalize (lg_sl ([.ref (X 0), .int kk, .int i]) ++ List.replicate (3 - (lg_sl ([.ref (X 0), .int kk, .int i])).length) Slot.unset).toArray = ls at hl ⊢
  have hl : lv_has ls 3 [(0, .ref (X 0)), (1, .int kk), (2, .int i)] := hl
  obtain ⟨hX, hK, hDg, hOp, hSb, hLs, hEn, hN, hT, hF, htg, hlen⟩ := id hR
  unfold ht_xo at hX
  refine lv_iload_n hx hb d_X_sibling_0 rfl (lv_at hl 1 rfl) ?_
  refine lv_if_lt (tgt := 31) hx hb d_X_sibling_1 (by decide) (fun c1 => ?_) (fun c1 => ?_)
  · have hout := ht_rng0 (n := 256) (by decide) c1
    refine lv_lconst (v := 0) hx hb d_X_sibling_31 (by decide) ?_
    exact ht_lret hx hb hr hlocks HW ⟨Or.inr ⟨Or.inl hout, rfl⟩, rfl⟩ d_X_sibling_32
  · refine lv_iload_n hx hb d_X_sibling_4 rfl (lv_at hl 1 rfl) ?_
    refine lv_sipush (v := 256) hx hb d_X_sibling_5 (by decide) ?_
    refine lv_icmp_ge (tgt := 31) hx hb d_X_sibling_8 (by decide) (fun c8 => ?_) (fun c8 => ?_)
    · have hout := ht_rng1 (n := 256) (by decide) c8
      refine lv_lconst (v := 0) hx hb d_X_sibling_31 (by decide) ?_
      exact ht_lret hx hb hr hlocks HW ⟨Or.inr ⟨Or.inl hout, rfl⟩, rfl⟩ d_X_sibling_32
    · obtain ⟨a1, ha1, ea1⟩ := ht_rng (n := 256) (by decide) c1 c8
      refine lv_iload_n hx hb d_X_sibling_11 rfl (lv_at hl 2 rfl) ?_
      refine ht_ci HW (va_runS (own := R_X) (As := [.int i]) (rest := []) ⟨hx, hb, hml, hown, htb⟩ (c_X_isNumber l g w i) (va_cwS 1 htb (ht_gs wd_198 wd_199 wd_1 g_X_isNumber) rfl rfl rfl (by decide +kernel) ⟨Nat.le_of_ble_eq_true rfl, Nat.le_of_ble_eq_true rfl⟩) (HW.preS _) rfl rfl hl.1 rfl (lv_room (Nat.le_of_ble_eq_true rfl)) d_X_sibling_12 ⟨Nat.le_of_ble_eq_true rfl, Nat.le_of_ble_eq_true rfl⟩) (fun q2 u1 H locs pi HW => ?_)
      obtain ⟨pi, eww⟩ := pi
      subst eww
      rcases ht_isn_or i with hisn | hisn
      · have er := pi.1 hisn
        subst er
        refine W.eq (g2 := F0 _ 15 ls [.int 1]) rfl ?_
        obtain ⟨j, hj, ej⟩ := id hisn
        refine lv_if_eq (tgt := 31) hx hb d_X_sibling_15 (by decide) (fun c15 => ?_) (fun c15 => ?_)
        · exact absurd c15 (by decide)
        · refine lv_aload_n hx hb d_X_sibling_18 rfl (lv_at hl 0 rfl) ?_
          refine ht_get (C := R_X) (T := F_X) (N := 9) (v := .ref (X 6)) hx hb htb i_X hown HW hX rfl 5 (by decide) (htb _ wd_45) (fun _ h9 => h9) rfl d_X_sibling_19 ?_
          refine lv_iload_n hx hb d_X_sibling_22 rfl (lv_at hl 1 rfl) ?_
          refine lv_iconst (v := 4) hx hb d_X_sibling_23 (by decide) ?_
          refine lv_imul hx hb d_X_sibling_24 ?_
          refine lv_iload_n hx hb d_X_sibling_25 rfl (lv_at hl 2 rfl) ?_
          refine lv_iadd hx hb d_X_sibling_26 ?_
          refine lv_topi (fun ix eix => ?_)
          have hix : ix = nI (a1 * 4 + j) := by rw [eix, ea1, ej, show (4 : Int32) = nI 4 from rfl, pk_mul, nI_add]
          refine ht_lald hx hb HW hSb (by rw [hix]; exact vp_in_nI (by omega) (by omega)) d_X_sibling_27 ?_
          refine lv_topl (fun vv evv => ?_)
          have evv : vv = sbf (a1 * 4 + j) := by rw [evv, hix, nI_clamp (by omega)]
          refine lv_goto (tgt := 32) hx hb d_X_sibling_28 (by decide) ?_
          exact ht_lret hx hb hr hlocks HW ⟨Or.inl ⟨a1, j, ha1, hj, ea1, ej, evv⟩, rfl⟩ d_X_sibling_32
      · have er := pi.2 hisn
        subst er
        refine W.eq (g2 := F0 _ 15 ls [.int 0]) rfl ?_
        refine lv_if_eq (tgt := 31) hx hb d_X_sibling_15 (by decide) (fun c15 => ?_) (fun c15 => ?_)
        · refine lv_lconst (v := 0) hx hb d_X_sibling_31 (by decide) ?_
          exact ht_lret hx hb hr hlocks HW ⟨Or.inr ⟨Or.inr hisn, rfl⟩, rfl⟩ d_X_sibling_32
        · exact absurd rfl c15
set_option maxHeartbeats 4000000 in
set_option maxRecDepth 100000 in
theorem c_X_endNumber (l : Launch) (g : ht_G) (w : ht_W) {dgf : Int32 → ht_K → ht_K → ht_K} {X : Nat → Nat} {tg : Nat → Nat × Nat} {k : ht_K} {N : ht_N} {A : ht_AA} {F : List Nat} {top : Option Nat} {L : ht_L} {dt : ht_D} {opf : Nat → Option Nat} {sbf lsf enf : Nat → Int64} {ei : Int32} (hR : ht_Rp dgf g w X tg k N A F top L dt opf sbf lsf enf ei) (kk i : Int32) : Met l y_X_endNumber ws_X_endNumber ({ frames := 1, cells := 0, slots := 0, locals := 30 } : Room) (va_Pc [.ref (X 0), .int kk, .int i] (ht_WS g w)) (ht_Ql g (fun r u => ((∃ a1 j, a1 < 2 ∧ j < 4 ∧ kk = nI a1 ∧ i = nI j ∧ r = enf (a1 * 4 + j)) ∨ (((¬ ∃ a1 : Nat, a1 < 2 ∧ kk = nI a1) ∨ ¬ ht_isn i) ∧ r = 0)) ∧ w = u)) 0 0 (ht_A g) := by
  refine Met.ofW (cc := b_X_endNumber) (maxL := 3) (ret := (some .long)) (by decide) rfl ?_
  intro p e s m args below meth c s₁ BB hml hv
  obtain ⟨rfl, HW⟩ := hv
  have HW := ht_I.start HW
  have hx := BB.exec
  have hb := BB.bytes
  have hr := BB.returns
  have hts := atoms_spec (ws := ws_X_endNumber) BB.pre
  have htb : ∀ w ∈ bg, w.before _ s = true := fun w h => hts w (List.mem_cons_of_mem _ h)
  have hown : s.vm.findClass R_X = some m.cls := findClass_of_methodNamed BB.named
  have hlocks := BB.notSynchronized
  have hl := lv_entry ([.ref (X 0), .int kk, .int i]) (n := 3) (Nat.le_of_ble_eq_true rfl)
  rw [lg_entry_eq]
  generalize (lg_sl ([.ref (X 0), .int kk, .int i]) ++ List.replicate (3 - (lg_sl ([.ref (X 0), .int kk, .int i])).length) Slot.unset).toArray = ls at hl ⊢
  have hl : lv_has ls 3 [(0, .ref (X 0)), (1, .int kk), (2, .int i)] := hl
  obtain ⟨hX, hK, hDg, hOp, hSb, hLs, hEn, hN, hT, hF, htg, hlen⟩ := id hR
  unfold ht_xo at hX
  refine lv_iload_n hx hb d_X_endNumber_0 rfl (lv_at hl 1 rfl) ?_
  refine lv_if_lt (tgt := 29) hx hb d_X_endNumber_1 (by decide) (fun c1 => ?_) (fun c1 => ?_)
  · have hout := ht_rng0 (n := 2) (by decide) c1
    refine lv_lconst (v := 0) hx hb d_X_endNumber_29 (by decide) ?_
    exact ht_lret hx hb hr hlocks HW ⟨Or.inr ⟨Or.inl hout, rfl⟩, rfl⟩ d_X_endNumber_30
  · refine lv_iload_n hx hb d_X_endNumber_4 rfl (lv_at hl 1 rfl) ?_
    refine lv_iconst (v := 2) hx hb d_X_endNumber_5 (by decide) ?_
    refine lv_icmp_ge (tgt := 29) hx hb d_X_endNumber_6 (by decide) (fun c6 => ?_) (fun c6 => ?_)
    · have hout := ht_rng1 (n := 2) (by decide) c6
      refine lv_lconst (v := 0) hx hb d_X_endNumber_29 (by decide) ?_
      exact ht_lret hx hb hr hlocks HW ⟨Or.inr ⟨Or.inl hout, rfl⟩, rfl⟩ d_X_endNumber_30
    · obtain ⟨a1, ha1, ea1⟩ := ht_rng (n := 2) (by decide) c1 c6
      refine lv_iload_n hx hb d_X_endNumber_9 rfl (lv_at hl 2 rfl) ?_
      refine ht_ci HW (va_runS (own := R_X) (As := [.int i]) (rest := []) ⟨hx, hb, hml, hown, htb⟩ (c_X_isNumber l g w i) (va_cwS 1 htb (ht_gs wd_198 wd_199 wd_1 g_X_isNumber) rfl rfl rfl (by decide +kernel) ⟨Nat.le_of_ble_eq_true rfl, Nat.le_of_ble_eq_true rfl⟩) (HW.preS _) rfl rfl hl.1 rfl (lv_room (Nat.le_of_ble_eq_true rfl)) d_X_endNumber_10 ⟨Nat.le_of_ble_eq_true rfl, Nat.le_of_ble_eq_true rfl⟩) (fun q2 u1 H locs pi HW => ?_)
      obtain ⟨pi, eww⟩ := pi
      subst eww
      rcases ht_isn_or i with hisn | hisn
      · have er := pi.1 hisn
        subst er
        refine W.eq (g2 := F0 _ 13 ls [.int 1]) rfl ?_
        obtain ⟨j, hj, ej⟩ := id hisn
        refine lv_if_eq (tgt := 29) hx hb d_X_endNumber_13 (by decide) (fun c13 => ?_) (fun c13 => ?_)
        · exact absurd c13 (by decide)
        · refine lv_aload_n hx hb d_X_endNumber_16 rfl (lv_at hl 0 rfl) ?_
          refine ht_get (C := R_X) (T := F_X) (N := 9) (v := .ref (X 8)) hx hb htb i_X hown HW hX rfl 7 (by decide) (htb _ wd_47) (fun _ h9 => h9) rfl d_X_endNumber_17 ?_
          refine lv_iload_n hx hb d_X_endNumber_20 rfl (lv_at hl 1 rfl) ?_
          refine lv_iconst (v := 4) hx hb d_X_endNumber_21 (by decide) ?_
          refine lv_imul hx hb d_X_endNumber_22 ?_
          refine lv_iload_n hx hb d_X_endNumber_23 rfl (lv_at hl 2 rfl) ?_
          refine lv_iadd hx hb d_X_endNumber_24 ?_
          refine lv_topi (fun ix eix => ?_)
          have hix : ix = nI (a1 * 4 + j) := by rw [eix, ea1, ej, show (4 : Int32) = nI 4 from rfl, pk_mul, nI_add]
          refine ht_lald hx hb HW hEn (by rw [hix]; exact vp_in_nI (by omega) (by omega)) d_X_endNumber_25 ?_
          refine lv_topl (fun vv evv => ?_)
          have evv : vv = enf (a1 * 4 + j) := by rw [evv, hix, nI_clamp (by omega)]
          refine lv_goto (tgt := 30) hx hb d_X_endNumber_26 (by decide) ?_
          exact ht_lret hx hb hr hlocks HW ⟨Or.inl ⟨a1, j, ha1, hj, ea1, ej, evv⟩, rfl⟩ d_X_endNumber_30
      · have er := pi.2 hisn
        subst er
        refine W.eq (g2 := F0 _ 13 ls [.int 0]) rfl ?_
        refine lv_if_eq (tgt := 29) hx hb d_X_endNumber_13 (by decide) (fun c13 => ?_) (fun c13 => ?_)
        · refine lv_lconst (v := 0) hx hb d_X_endNumber_29 (by decide) ?_
          exact ht_lret hx hb hr hlocks HW ⟨Or.inr ⟨Or.inr hisn, rfl⟩, rfl⟩ d_X_endNumber_30
        · exact absurd rfl c13
theorem ht_Rp.key {dgf : Int32 → ht_K → ht_K → ht_K} {g : ht_G} {w : ht_W} {X : Nat → Nat} {tg : Nat → Nat × Nat} {k k' : ht_K} {N : ht_N} {A : ht_AA} {F : List Nat} {top : Option Nat} {L : ht_L} {dt : ht_D} {opf : Nat → Option Nat} {sbf lsf enf : Nat → Int64} {ei : Int32} (h : ht_Rp dgf g w X tg k N A F top L dt opf sbf lsf enf ei) : ht_Rp dgf g (ht_up w (X 1) (ht_al g 4 (ht_kf k'))) X tg k' N A F top L dt opf sbf lsf enf ei := by
  obtain ⟨h1, h2, h3, h4, h5, h6, h7, h8, h9, h10, h11, h12⟩ := id h
  have hne : ∀ i, i < 9 → i ≠ 1 → X i ≠ X 1 := fun i hi hn => ht_tne (h11.1 i hi) (h11.1 1 (by decide)) (fun z => hn (by injection z))
  refine ⟨ht_at_ne h1 (hne 0 (by decide) (by decide)), ht_at_self h2, ⟨ht_at_ne h3.1 (hne 2 (by decide) (by decide)), ht_at_ne h3.2.1 (hne 3 (by decide) (by decide)), ht_at_ne h3.2.2 (hne 4 (by decide) (by decide))⟩, ht_at_ne h4 (hne 5 (by decide) (by decide)), ht_at_ne h5 (hne 6 (by decide) (by decide)), ht_at_ne h6 (hne 7 (by decide) (by decide)), ht_at_ne h7 (hne 8 (by decide) (by decide)), fun a ha => ?_, h9, h10, h11, h12⟩
  obtain ⟨q1, q2, q3, q4⟩ := h8 a ha
  obtain ⟨t1, t2, t3, t4⟩ := h11.2 a ha
  have tx := h11.1 1 (by decide)
  exact ⟨ht_at_ne q1 (ht_tne t1 tx (fun z => by cases z)), ht_at_ne q2 (ht_tne t2 tx (fun z => by cases z)), ht_at_ne q3 (ht_tne t3 tx (fun z => by cases z)), fun v hv => ht_at_ne (q4 v hv) (ht_tne (t4 v hv) tx (fun z => by cases z))⟩
set_option maxHeartbeats 4000000 in
set_option maxRecDepth 100000 in
theorem c_X_key (l : Launch) (g : ht_G) (w : ht_W) {dgf : Int32 → ht_K → ht_K → ht_K} {X : Nat → Nat} {tg : Nat → Nat × Nat} {k : ht_K} {N : ht_N} {A : ht_AA} {F : List Nat} {top : Option Nat} {L : ht_L} {dt : ht_D} {opf : Nat → Option Nat} {sbf lsf enf : Nat → Int64} {ei : Int32} (hR : ht_Rp dgf g w X tg k N A F top L dt opf sbf lsf enf ei) (v1 v2 v3 v4 : Int64) : Met l y_X_key ws_X_key ({ frames := 1, cells := 0, slots := 0, locals := 30 } : Room) (va_Pc [.ref (X 0), .long v1, .long v2, .long v3, .long v4] (ht_WS g w)) (ht_Qv g (fun u => ht_Rp dgf g u X tg (v1, v2, v3, v4) N A F top L dt opf sbf lsf enf ei ∧ ht_fr (fun b => (tg b).1 ≠ 0) w u)) 0 0 (ht_A g) := by
  refine Met.ofW (cc := b_X_key) (maxL := 9) (ret := none) (by decide) rfl ?_
  intro p e s m args below meth c s₁ BB hml hv
  obtain ⟨rfl, HW⟩ := hv
  have HW := ht_I.start HW
  have hx := BB.exec
  have hb := BB.bytes
  have hr := BB.returns
  have hts := atoms_spec (ws := ws_X_key) BB.pre
  have htb : ∀ w ∈ bg, w.before _ s = true := fun w h => hts w (List.mem_cons_of_mem _ h)
  have hown : s.vm.findClass R_X = some m.cls := findClass_of_methodNamed BB.named
  have hlocks := BB.notSynchronized
  have hl := lv_entry ([.ref (X 0), .long v1, .long v2, .long v3, .long v4]) (n := 9) (Nat.le_of_ble_eq_true rfl)
  rw [lg_entry_eq]
  generalize (lg_sl ([.ref (X 0), .long v1, .long v2, .long v3, .long v4]) ++ List.replicate (9 - (lg_sl ([.ref (X 0), .long v1, .long v2, .long v3, .long v4])).length) Slot.unset).toArray = ls at hl ⊢
  have hl : lv_has ls 9 [(0, .ref (X 0)), (1, .long v1), (3, .long v2), (5, .long v3), (7, .long v4)] := hl
  obtain ⟨hX, hK, hDg, hOp, hSb, hLs, hEn, hN, hT, hF, htg, hlen⟩ := id hR
  unfold ht_xo at hX
  refine lv_aload_n hx hb d_X_key_0 rfl (lv_at hl 0 rfl) ?_
  refine ht_get (C := R_X) (T := F_X) (N := 9) (v := .ref (X 1)) hx hb htb i_X hown HW hX rfl 0 (by decide) (htb _ wd_40) (fun _ h9 => h9) rfl d_X_key_1 ?_
  refine lv_lload_n hx hb d_X_key_4 rfl (lv_at hl 1 rfl) ?_
  refine lv_lload_n hx hb d_X_key_5 rfl (lv_at hl 2 rfl) ?_
  refine lv_lload hx hb d_X_key_6 (lv_at hl 3 rfl) ?_
  refine lv_lload hx hb d_X_key_8 (lv_at hl 4 rfl) ?_
  refine ht_cv HW (va_runS (own := R_X) (As := [.ref (X 1), .long v1, .long v2, .long v3, .long v4]) (rest := []) ⟨hx, hb, hml, hown, htb⟩ (c_X_fill l g w hK v1 v2 v3 v4) (va_cwS 5 htb (ht_gs wd_72 wd_73 wd_1 g_X_fill) rfl rfl rfl (by decide +kernel) ⟨Nat.le_of_ble_eq_true rfl, Nat.le_of_ble_eq_true rfl⟩) (HW.preS _) rfl rfl hl.1 rfl (lv_room (Nat.le_of_ble_eq_true rfl)) d_X_key_10 ⟨Nat.le_of_ble_eq_true rfl, Nat.le_of_ble_eq_true rfl⟩) (fun u1 H locs pf HW => ?_)
  exact ht_vret hx hb hr hlocks HW ⟨by rw [pf]; exact hR.key, by rw [pf]; exact ht_fr.up (by rw [htg.1 1 (by decide)]; decide)⟩ d_X_key_13
