def ht_MR (g : ht_G) (w : ht_W) (M : Nat → Nat) (n : Nat → Int32) (Lf : ht_LF) (If : ht_IF) (R : ht_L) (k : ht_K) : Prop := ht_Mo g w M n Lf If ∧ ht_RL n Lf R ∧ ht_srt R ∧ ht_row (Lf 3) 0 k ∧ ht_Kp Lf If ∧ (n 2 = 0 ∨ (n 2 = 1 ∧ ht_row (Lf 7) 0 (ht_h ht_dgf 256 R)))
/-- THE PROOF stays -/
def ht_pq (n n2 : Nat → Int32) (Lf Lf2 : ht_LF) : Prop := n2 3 = n 3 ∧ n2 4 = n 4 ∧ Lf2 8 = Lf 8 ∧ Lf2 9 = Lf 9
theorem ht_srt.lt {R : ht_L} (h : ht_srt R) {i j : Nat} {a b : ht_K × ht_K} (ha : R[i]? = some a) (hb : R[j]? = some b) (hij : i < j) : ht_klt a.1 b.1 := by
  obtain ⟨h1, e1⟩ := List.getElem?_eq_some_iff.mp ha
  obtain ⟨h2, e2⟩ := List.getElem?_eq_some_iff.mp hb
  have := List.pairwise_iff_getElem.mp h i j h1 h2 hij
  rw [e1, e2] at this
  exact this
theorem ht_noat {R : ht_L} (h : ht_srt R) {p : Nat} {k : ht_K} (h1 : ∀ j q, j < p → R[j]? = some q → ht_klt q.1 k) (h2 : ∀ q, R[p]? = some q → ¬ ht_klt q.1 k) (h3 : ∀ q, R[p]? = some q → q.1 ≠ k) : ∀ q ∈ R, q.1 ≠ k := by
  intro q hq e
  obtain ⟨j, hj⟩ := List.mem_iff_getElem?.mp hq
  rcases Nat.lt_trichotomy j p with z | z | z
  · exact (h1 j q z hj).ne e
  · rw [z] at hj
    exact h3 q hj e
  · obtain ⟨a, ha⟩ := ht_gl (l := R) (p := p) (Nat.lt_trans z (ht_gn hj))
    have := h.lt ha hj z
    rw [e] at this
    exact h2 a ha this
theorem ht_mem {R : ht_L} {p : Nat} {q : ht_K × ht_K} {k : ht_K} (h : R[p]? = some q) (e : q.1 = k) : (k, q.2) ∈ R := by
  rw [← e]
  exact List.mem_of_getElem? h
theorem ht_MR.same {g : ht_G} {w u : ht_W} {M : Nat → Nat} {n n2 : Nat → Int32} {Lf Lf2 : ht_LF} {If If2 : ht_IF} {R : ht_L} {k : ht_K} (h : ht_MR g w M n Lf If R k) (hM2 : ht_Mo g u M n2 Lf2 If2) (hn0 : n2 0 = n 0) (hn2 : n2 2 = n 2) (h1 : Lf2 1 = Lf 1) (h2 : Lf2 2 = Lf 2) (h3 : Lf2 3 = Lf 3) (h7 : Lf2 7 = Lf 7) (hK2 : ht_Kp Lf2 If2) : ht_MR g u M n2 Lf2 If2 R k := by
  obtain ⟨a1, a2, a3, a4, a5, a6⟩ := h
  exact ⟨hM2, a2.cg hn0 h1 h2, a3, by rw [h3]; exact a4, hK2, by rw [hn2, h7]; exact a6⟩
set_option maxHeartbeats 4000000 in
set_option maxRecDepth 100000 in
theorem c_M_has (l : Launch) (g : ht_G) (w : ht_W) {M : Nat → Nat} {n : Nat → Int32} {Lf : ht_LF} {If : ht_IF} {R : ht_L} {k : ht_K} (hMR : ht_MR g w M n Lf If R k) : Met l y_M_has ws_M_has ({ frames := 2, cells := 0, slots := 0, locals := 60 } : Room) (va_Pc [.ref (M 0)] (ht_WS g w)) (ht_Qi g (fun r u => ((r = 1 ∧ ∃ v0, (k, v0) ∈ R) ∨ (r = 0 ∧ ∀ q ∈ R, q.1 ≠ k)) ∧ w = u)) 0 0 (ht_A g) := by
  refine Met.ofW (cc := b_M_has) (maxL := 1) (ret := (some .boolean)) (by decide) rfl ?_
  intro p e s m args below meth c s₁ BB hml hv
  obtain ⟨rfl, HW⟩ := hv
  have HW := ht_I.start HW
  have hx := BB.exec
  have hb := BB.bytes
  have hr := BB.returns
  have hts := atoms_spec (ws := ws_M_has) BB.pre
  have htb : ∀ w ∈ bg, w.before _ s = true := fun w h => hts w (List.mem_cons_of_mem _ h)
  have hown : s.vm.findClass R_M = some m.cls := findClass_of_methodNamed BB.named
  have hlocks := BB.notSynchronized
  have hl := lv_entry ([.ref (M 0)]) (n := 1) (Nat.le_of_ble_eq_true rfl)
  rw [lg_entry_eq]
  generalize (lg_sl ([.ref (M 0)]) ++ List.replicate (1 - (lg_sl ([.ref (M 0)])).length) Slot.unset).toArray = ls at hl ⊢
  have hl : lv_has ls 1 [(0, .ref (M 0))] := hl
  obtain ⟨hM, hRL, hsrt, hK, hKp, hrt⟩ := id hMR
  have h512 := hRL.1
  have hO : ht_at w (M 0) (.inr (4, [.ref (M 1), .ref (M 2), .int (n 0), .ref (M 3), .ref (M 4), .ref (M 5), .ref (M 6), .int (n 1), .ref (M 7), .int (n 2), .ref (M 8), .int (n 3), .int (n 4), .ref (M 9), .ref (M 10), .ref (M 11), .ref (M 12), .ref (M 13), .ref (M 14), .ref (M 15), .ref (M 16), .ref (M 17)]) : va_E) := hM.1
  refine lv_aload_n hx hb d_M_has_0 rfl (lv_at hl 0 rfl) ?_
  refine lv_aload_n hx hb d_M_has_1 rfl (lv_at hl 0 rfl) ?_
  refine ht_ci HW (va_runV (own := R_M) (C := R_M) (As := []) (rest := [.ref (M 0)]) ⟨hx, hb, hml, hown, htb⟩ (c_M_place l g w hM hRL hK) (cwV 0 htb (ht_gv wd_387 wd_389 sl_11 wd_3 g_M_place) rfl rfl rfl (by decide +kernel) ⟨Nat.le_of_ble_eq_true rfl, Nat.le_of_ble_eq_true rfl⟩) (HW.preV hO rfl _) rfl rfl hl.1 rfl (lv_room (Nat.le_of_ble_eq_true rfl)) d_M_has_2 ⟨Nat.le_of_ble_eq_true rfl, Nat.le_of_ble_eq_true rfl⟩) (fun pv u1 H locs pu1 HW => ?_)
  obtain ⟨hpl, eu1⟩ := pu1
  subst eu1
  obtain ⟨pp, epv, hpR, hpl1, hpl2⟩ := hpl
  refine ht_ci HW (va_runV (own := R_M) (C := R_M) (As := [.int pv]) (rest := []) ⟨hx, hb, hml, hown, htb⟩ (c_M_isAt l g w hM hRL hK pp (by omega) pv epv) (cwV 1 htb (ht_gv wd_395 wd_397 sl_12 wd_3 g_M_isAt) rfl rfl rfl (by decide +kernel) ⟨Nat.le_of_ble_eq_true rfl, Nat.le_of_ble_eq_true rfl⟩) (HW.preV hO rfl _) rfl rfl hl.1 rfl (lv_room (Nat.le_of_ble_eq_true rfl)) d_M_has_5 ⟨Nat.le_of_ble_eq_true rfl, Nat.le_of_ble_eq_true rfl⟩) (fun q3 u2 H locs pa HW => ?_)
  obtain ⟨pa, eww⟩ := pa
  subst eww
  rcases pa with ⟨er, qa, hqa, hqk⟩ | ⟨er, hna⟩
  · subst er
    exact ht_zret hx hb hr hlocks HW (by decide) ⟨Or.inl ⟨rfl, qa.2, ht_mem hqa hqk⟩, rfl⟩ d_M_has_8
  · subst er
    exact ht_zret hx hb hr hlocks HW (by decide) ⟨Or.inr ⟨rfl, ht_noat hsrt hpl1 hpl2 hna⟩, rfl⟩ d_M_has_8
set_option maxHeartbeats 4000000 in
set_option maxRecDepth 100000 in
theorem c_M_value (l : Launch) (g : ht_G) (w : ht_W) {M : Nat → Nat} {n : Nat → Int32} {Lf : ht_LF} {If : ht_IF} {R : ht_L} {k : ht_K} (hMR : ht_MR g w M n Lf If R k) (i : Int32) : Met l y_M_value ws_M_value ({ frames := 2, cells := 0, slots := 0, locals := 60 } : Room) (va_Pc [.ref (M 0), .int i] (ht_WS g w)) (ht_Ql g (fun r u => ((∃ v0 j, (k, v0) ∈ R ∧ j < 4 ∧ i = nI j ∧ r = ht_kf v0 j) ∨ (((∀ q ∈ R, q.1 ≠ k) ∨ ¬ ht_isn i) ∧ r = 0)) ∧ w = u)) 0 0 (ht_A g) := by
  refine Met.ofW (cc := b_M_value) (maxL := 3) (ret := (some .long)) (by decide) rfl ?_
  intro p e s m args below meth c s₁ BB hml hv
  obtain ⟨rfl, HW⟩ := hv
  have HW := ht_I.start HW
  have hx := BB.exec
  have hb := BB.bytes
  have hr := BB.returns
  have hts := atoms_spec (ws := ws_M_value) BB.pre
  have htb : ∀ w ∈ bg, w.before _ s = true := fun w h => hts w (List.mem_cons_of_mem _ h)
  have hown : s.vm.findClass R_M = some m.cls := findClass_of_methodNamed BB.named
  have hlocks := BB.notSynchronized
  have hl := lv_entry ([.ref (M 0), .int i]) (n := 3) (Nat.le_of_ble_eq_true rfl)
  rw [lg_entry_eq]
  generalize (lg_sl ([.ref (M 0), .int i]) ++ List.replicate (3 - (lg_sl ([.ref (M 0), .int i])).length) Slot.unset).toArray = ls at hl ⊢
  have hl : lv_has ls 3 [(0, .ref (M 0)), (1, .int i)] := hl
  obtain ⟨hM, hRL, hsrt, hK, hKp, hrt⟩ := id hMR
  have h512 := hRL.1
  have hO : ht_at w (M 0) (.inr (4, [.ref (M 1), .ref (M 2), .int (n 0), .ref (M 3), .ref (M 4), .ref (M 5), .ref (M 6), .int (n 1), .ref (M 7), .int (n 2), .ref (M 8), .int (n 3), .int (n 4), .ref (M 9), .ref (M 10), .ref (M 11), .ref (M 12), .ref (M 13), .ref (M 14), .ref (M 15), .ref (M 16), .ref (M 17)]) : va_E) := hM.1
  have h2 : ht_at w (M 2) (ht_al g 2048 (Lf 2)) := hM.L 2 (by decide) rfl
  refine lv_aload_n hx hb d_M_value_0 rfl (lv_at hl 0 rfl) ?_
  refine ht_ci HW (va_runV (own := R_M) (C := R_M) (As := []) (rest := []) ⟨hx, hb, hml, hown, htb⟩ (c_M_place l g w hM hRL hK) (cwV 0 htb (ht_gv wd_387 wd_389 sl_11 wd_3 g_M_place) rfl rfl rfl (by decide +kernel) ⟨Nat.le_of_ble_eq_true rfl, Nat.le_of_ble_eq_true rfl⟩) (HW.preV hO rfl _) rfl rfl hl.1 rfl (lv_room (Nat.le_of_ble_eq_true rfl)) d_M_value_1 ⟨Nat.le_of_ble_eq_true rfl, Nat.le_of_ble_eq_true rfl⟩) (fun pv u1 H locs pu1 HW => ?_)
  obtain ⟨hpl, eu1⟩ := pu1
  subst eu1
  obtain ⟨pp, epv, hpR, hpl1, hpl2⟩ := hpl
  refine lv_istore_n (lv' := [(2, .int pv), (0, .ref (M 0)), (1, .int i)]) hx hb d_M_value_4 rfl hl (by decide) rfl (fun ls hl => ?_)
  refine lv_iload_n hx hb d_M_value_5 rfl (lv_at hl 2 rfl) ?_
  refine ht_ci HW (va_runS (own := R_M) (As := [.int i]) (rest := []) ⟨hx, hb, hml, hown, htb⟩ (c_M_isNumber l g w i) (va_cwS 1 htb (ht_gs wd_411 wd_412 wd_3 g_M_isNumber) rfl rfl rfl (by decide +kernel) ⟨Nat.le_of_ble_eq_true rfl, Nat.le_of_ble_eq_true rfl⟩) (HW.preS _) rfl rfl hl.1 rfl (lv_room (Nat.le_of_ble_eq_true rfl)) d_M_value_6 ⟨Nat.le_of_ble_eq_true rfl, Nat.le_of_ble_eq_true rfl⟩) (fun q3 u2 H locs pi HW => ?_)
  obtain ⟨pi, eww⟩ := pi
  subst eww
  rcases ht_isn_or i with hisn | hisn
  · have er := pi.1 hisn
    subst er
    refine W.eq (g2 := F0 _ 9 ls [.int 1]) rfl ?_
    obtain ⟨j, hj, ej⟩ := id hisn
    refine lv_if_eq (tgt := 33) hx hb d_M_value_9 (by decide) (fun c9 => ?_) (fun c9 => ?_)
    · exact absurd c9 (by decide)
    · refine lv_aload_n hx hb d_M_value_12 rfl (lv_at hl 1 rfl) ?_
      refine lv_iload_n hx hb d_M_value_13 rfl (lv_at hl 0 rfl) ?_
      refine ht_ci HW (va_runV (own := R_M) (C := R_M) (As := [.int pv]) (rest := []) ⟨hx, hb, hml, hown, htb⟩ (c_M_isAt l g w hM hRL hK pp (by omega) pv epv) (cwV 1 htb (ht_gv wd_395 wd_397 sl_12 wd_3 g_M_isAt) rfl rfl rfl (by decide +kernel) ⟨Nat.le_of_ble_eq_true rfl, Nat.le_of_ble_eq_true rfl⟩) (HW.preV hO rfl _) rfl rfl hl.1 rfl (lv_room (Nat.le_of_ble_eq_true rfl)) d_M_value_14 ⟨Nat.le_of_ble_eq_true rfl, Nat.le_of_ble_eq_true rfl⟩) (fun q5 u4 H locs pa HW => ?_)
      obtain ⟨pa, eww⟩ := pa
      subst eww
      rcases pa with ⟨er, qa, hqa, hqk⟩ | ⟨er, hna⟩
      · subst er
        refine lv_if_eq (tgt := 33) hx hb d_M_value_17 (by decide) (fun c17 => ?_) (fun c17 => ?_)
        · exact absurd c17 (by decide)
        · refine lv_aload_n hx hb d_M_value_20 rfl (lv_at hl 1 rfl) ?_
          refine ht_get (C := R_M) (T := F_M) (N := 22) (v := .ref (M 2)) hx hb htb i_M hown HW hO rfl 1 (by decide) (htb _ wd_312) (fun _ h9 => h9) rfl d_M_value_21 ?_
          refine lv_iconst (v := 4) hx hb d_M_value_24 (by decide) ?_
          refine lv_iload_n hx hb d_M_value_25 rfl (lv_at hl 0 rfl) ?_
          refine lv_imul hx hb d_M_value_26 ?_
          refine lv_iload_n hx hb d_M_value_27 rfl (lv_at hl 2 rfl) ?_
          refine lv_iadd hx hb d_M_value_28 ?_
          refine lv_topi (fun ix eix => ?_)
          have hlt := ht_gn hqa
          have hix : ix = nI (4 * pp + j) := by rw [eix, epv, ej, show (4 : Int32) = nI 4 from rfl, pk_mul, nI_add]
          refine ht_lald hx hb HW h2 (by rw [hix]; exact vp_in_nI (by omega) (by omega)) d_M_value_29 ?_
          refine lv_topl (fun vv evv => ?_)
          have evv : vv = (Lf 2) (4 * pp + j) := by rw [evv, hix, nI_clamp (by omega)]
          have evv : vv = ht_kf qa.2 j := by rw [evv, (hRL.2.2 _ _ hqa).2 j hj]
          refine lv_goto (tgt := 34) hx hb d_M_value_30 (by decide) ?_
          exact ht_lret hx hb hr hlocks HW ⟨Or.inl ⟨qa.2, j, ht_mem hqa hqk, hj, ej, evv⟩, rfl⟩ d_M_value_34
      · subst er
        refine lv_if_eq (tgt := 33) hx hb d_M_value_17 (by decide) (fun c17 => ?_) (fun c17 => ?_)
        · refine lv_lconst (v := 0) hx hb d_M_value_33 (by decide) ?_
          exact ht_lret hx hb hr hlocks HW ⟨Or.inr ⟨Or.inl (ht_noat hsrt hpl1 hpl2 hna), rfl⟩, rfl⟩ d_M_value_34
        · exact absurd rfl c17
  · have er := pi.2 hisn
    subst er
    refine W.eq (g2 := F0 _ 9 ls [.int 0]) rfl ?_
    refine lv_if_eq (tgt := 33) hx hb d_M_value_9 (by decide) (fun c9 => ?_) (fun c9 => ?_)
    · refine lv_lconst (v := 0) hx hb d_M_value_33 (by decide) ?_
      exact ht_lret hx hb hr hlocks HW ⟨Or.inr ⟨Or.inr hisn, rfl⟩, rfl⟩ d_M_value_34
    · exact absurd rfl c9
set_option maxHeartbeats 4000000 in
set_option maxRecDepth 100000 in
theorem c_M_count (l : Launch) (g : ht_G) (w : ht_W) {M : Nat → Nat} {n : Nat → Int32} {Lf : ht_LF} {If : ht_IF} {R : ht_L} {k : ht_K} (hMR : ht_MR g w M n Lf If R k) : Met l y_M_count ws_M_count ({ frames := 0, cells := 0, slots := 0, locals := 0 } : Room) (va_Pc [.ref (M 0)] (ht_WS g w)) (ht_Qi g (fun r u => r = nI R.length ∧ w = u)) 0 0 (ht_A g) := by
  refine Met.ofW (cc := b_M_count) (maxL := 1) (ret := (some .int)) (by decide) rfl ?_
  intro p e s m args below meth c s₁ BB hml hv
  obtain ⟨rfl, HW⟩ := hv
  have HW := ht_I.start HW
  have hx := BB.exec
  have hb := BB.bytes
  have hr := BB.returns
  have hts := atoms_spec (ws := ws_M_count) BB.pre
  have htb : ∀ w ∈ bg, w.before _ s = true := fun w h => hts w (List.mem_cons_of_mem _ h)
  have hown : s.vm.findClass R_M = some m.cls := findClass_of_methodNamed BB.named
  have hlocks := BB.notSynchronized
  have hl := lv_entry ([.ref (M 0)]) (n := 1) (Nat.le_of_ble_eq_true rfl)
  rw [lg_entry_eq]
  generalize (lg_sl ([.ref (M 0)]) ++ List.replicate (1 - (lg_sl ([.ref (M 0)])).length) Slot.unset).toArray = ls at hl ⊢
  have hl : lv_has ls 1 [(0, .ref (M 0))] := hl
  obtain ⟨hM, hRL, hsrt, hK, hKp, hrt⟩ := id hMR
  have h512 := hRL.1
  have hO : ht_at w (M 0) (.inr (4, [.ref (M 1), .ref (M 2), .int (n 0), .ref (M 3), .ref (M 4), .ref (M 5), .ref (M 6), .int (n 1), .ref (M 7), .int (n 2), .ref (M 8), .int (n 3), .int (n 4), .ref (M 9), .ref (M 10), .ref (M 11), .ref (M 12), .ref (M 13), .ref (M 14), .ref (M 15), .ref (M 16), .ref (M 17)]) : va_E) := hM.1
  refine lv_aload_n hx hb d_M_count_0 rfl (lv_at hl 0 rfl) ?_
  refine ht_get (C := R_M) (T := F_M) (N := 22) (v := .int (n 0)) hx hb htb i_M hown HW hO rfl 2 (by decide) (htb _ wd_313) (fun _ h9 => h9) rfl d_M_count_1 ?_
  exact ht_iret hx hb hr hlocks HW ⟨hRL.2.1, rfl⟩ d_M_count_4
set_option maxHeartbeats 4000000 in
set_option maxRecDepth 100000 in
theorem c_M_ending (l : Launch) (g : ht_G) (w : ht_W) {M : Nat → Nat} {n : Nat → Int32} {Lf : ht_LF} {If : ht_IF} {R : ht_L} {k : ht_K} (hMR : ht_MR g w M n Lf If R k) : Met l y_M_ending ws_M_ending ({ frames := 0, cells := 0, slots := 0, locals := 0 } : Room) (va_Pc [.ref (M 0)] (ht_WS g w)) (ht_Qi g (fun r u => r = n 4 ∧ w = u)) 0 0 (ht_A g) := by
  refine Met.ofW (cc := b_M_ending) (maxL := 1) (ret := (some .int)) (by decide) rfl ?_
  intro p e s m args below meth c s₁ BB hml hv
  obtain ⟨rfl, HW⟩ := hv
  have HW := ht_I.start HW
  have hx := BB.exec
  have hb := BB.bytes
  have hr := BB.returns
  have hts := atoms_spec (ws := ws_M_ending) BB.pre
  have htb : ∀ w ∈ bg, w.before _ s = true := fun w h => hts w (List.mem_cons_of_mem _ h)
  have hown : s.vm.findClass R_M = some m.cls := findClass_of_methodNamed BB.named
  have hlocks := BB.notSynchronized
  have hl := lv_entry ([.ref (M 0)]) (n := 1) (Nat.le_of_ble_eq_true rfl)
  rw [lg_entry_eq]
  generalize (lg_sl ([.ref (M 0)]) ++ List.replicate (1 - (lg_sl ([.ref (M 0)])).length) Slot.unset).toArray = ls at hl ⊢
  have hl : lv_has ls 1 [(0, .ref (M 0))] := hl
  obtain ⟨hM, hRL, hsrt, hK, hKp, hrt⟩ := id hMR
  have h512 := hRL.1
  have hO : ht_at w (M 0) (.inr (4, [.ref (M 1), .ref (M 2), .int (n 0), .ref (M 3), .ref (M 4), .ref (M 5), .ref (M 6), .int (n 1), .ref (M 7), .int (n 2), .ref (M 8), .int (n 3), .int (n 4), .ref (M 9), .ref (M 10), .ref (M 11), .ref (M 12), .ref (M 13), .ref (M 14), .ref (M 15), .ref (M 16), .ref (M 17)]) : va_E) := hM.1
  refine lv_aload_n hx hb d_M_ending_0 rfl (lv_at hl 0 rfl) ?_
  refine ht_get (C := R_M) (T := F_M) (N := 22) (v := .int (n 4)) hx hb htb i_M hown HW hO rfl 12 (by decide) (htb _ wd_323) (fun _ h9 => h9) rfl d_M_ending_1 ?_
  exact ht_iret hx hb hr hlocks HW ⟨rfl, rfl⟩ d_M_ending_4
set_option maxHeartbeats 4000000 in
set_option maxRecDepth 100000 in
theorem c_M_sibling (l : Launch) (g : ht_G) (w : ht_W) {M : Nat → Nat} {n : Nat → Int32} {Lf : ht_LF} {If : ht_IF} {R : ht_L} {k : ht_K} (hMR : ht_MR g w M n Lf If R k) (D : Nat) (hD : D ≤ 256) (hnD : n 3 = nI D) (kk i : Int32) : Met l y_M_sibling ws_M_sibling ({ frames := 1, cells := 0, slots := 0, locals := 30 } : Room) (va_Pc [.ref (M 0), .int kk, .int i] (ht_WS g w)) (ht_Ql g (fun r u => ((∃ a1 j, a1 < D ∧ j < 4 ∧ kk = nI a1 ∧ i = nI j ∧ r = Lf 8 (4 * a1 + j)) ∨ (((¬ ∃ a1 : Nat, a1 < D ∧ kk = nI a1) ∨ ¬ ht_isn i) ∧ r = 0)) ∧ w = u)) 0 0 (ht_A g) := by
  refine Met.ofW (cc := b_M_sibling) (maxL := 3) (ret := (some .long)) (by decide) rfl ?_
  intro p e s m args below meth c s₁ BB hml hv
  obtain ⟨rfl, HW⟩ := hv
  have HW := ht_I.start HW
  have hx := BB.exec
  have hb := BB.bytes
  have hr := BB.returns
  have hts := atoms_spec (ws := ws_M_sibling) BB.pre
  have htb : ∀ w ∈ bg, w.before _ s = true := fun w h => hts w (List.mem_cons_of_mem _ h)
  have hown : s.vm.findClass R_M = some m.cls := findClass_of_methodNamed BB.named
  have hlocks := BB.notSynchronized
  have hl := lv_entry ([.ref (M 0), .int kk, .int i]) (n := 3) (Nat.le_of_ble_eq_true rfl)
  rw [lg_entry_eq]
  generalize (lg_sl ([.ref (M 0), .int kk, .int i]) ++ List.replicate (3 - (lg_sl ([.ref (M 0), .int kk, .int i])).length) Slot.unset).toArray = ls at hl ⊢
  have hl : lv_has ls 3 [(0, .ref (M 0)), (1, .int kk), (2, .int i)] := hl
  obtain ⟨hM, hRL, hsrt, hK, hKp, hrt⟩ := id hMR
  have h512 := hRL.1
  have hO : ht_at w (M 0) (.inr (4, [.ref (M 1), .ref (M 2), .int (n 0), .ref (M 3), .ref (M 4), .ref (M 5), .ref (M 6), .int (n 1), .ref (M 7), .int (n 2), .ref (M 8), .int (n 3), .int (n 4), .ref (M 9), .ref (M 10), .ref (M 11), .ref (M 12), .ref (M 13), .ref (M 14), .ref (M 15), .ref (M 16), .ref (M 17)]) : va_E) := hM.1
  have h8 : ht_at w (M 8) (ht_al g 1024 (Lf 8)) := hM.L 8 (by decide) rfl
  refine lv_iload_n hx hb d_M_sibling_0 rfl (lv_at hl 1 rfl) ?_
  refine lv_if_lt (tgt := 32) hx hb d_M_sibling_1 (by decide) (fun c1 => ?_) (fun c1 => ?_)
  · have hout := ht_rng0 (n := D) (by omega) c1
    refine lv_lconst (v := 0) hx hb d_M_sibling_32 (by decide) ?_
    exact ht_lret hx hb hr hlocks HW ⟨Or.inr ⟨Or.inl hout, rfl⟩, rfl⟩ d_M_sibling_33
  · refine lv_iload_n hx hb d_M_sibling_4 rfl (lv_at hl 1 rfl) ?_
    refine lv_aload_n hx hb d_M_sibling_5 rfl (lv_at hl 0 rfl) ?_
    refine ht_get (C := R_M) (T := F_M) (N := 22) (v := .int (n 3)) hx hb htb i_M hown HW hO rfl 11 (by decide) (htb _ wd_322) (fun _ h9 => h9) rfl d_M_sibling_6 ?_
    refine lv_icmp_ge (tgt := 32) hx hb d_M_sibling_9 (by decide) (fun c9 => ?_) (fun c9 => ?_)
    · have hout := ht_rng1 (n := D) (by omega) (by rw [← hnD]; exact c9)
      refine lv_lconst (v := 0) hx hb d_M_sibling_32 (by decide) ?_
      exact ht_lret hx hb hr hlocks HW ⟨Or.inr ⟨Or.inl hout, rfl⟩, rfl⟩ d_M_sibling_33
    · obtain ⟨a1, ha1, ea1⟩ := ht_rng (n := D) (by omega) c1 (by rw [← hnD]; exact c9)
      refine lv_iload_n hx hb d_M_sibling_12 rfl (lv_at hl 2 rfl) ?_
      refine ht_ci HW (va_runS (own := R_M) (As := [.int i]) (rest := []) ⟨hx, hb, hml, hown, htb⟩ (c_M_isNumber l g w i) (va_cwS 1 htb (ht_gs wd_411 wd_412 wd_3 g_M_isNumber) rfl rfl rfl (by decide +kernel) ⟨Nat.le_of_ble_eq_true rfl, Nat.le_of_ble_eq_true rfl⟩) (HW.preS _) rfl rfl hl.1 rfl (lv_room (Nat.le_of_ble_eq_true rfl)) d_M_sibling_13 ⟨Nat.le_of_ble_eq_true rfl, Nat.le_of_ble_eq_true rfl⟩) (fun q2 u1 H locs pi HW => ?_)
      obtain ⟨pi, eww⟩ := pi
      subst eww
      rcases ht_isn_or i with hisn | hisn
      · have er := pi.1 hisn
        subst er
        refine W.eq (g2 := F0 _ 16 ls [.int 1]) rfl ?_
        obtain ⟨j, hj, ej⟩ := id hisn
        refine lv_if_eq (tgt := 32) hx hb d_M_sibling_16 (by decide) (fun c16 => ?_) (fun c16 => ?_)
        · exact absurd c16 (by decide)
        · refine lv_aload_n hx hb d_M_sibling_19 rfl (lv_at hl 0 rfl) ?_
          refine ht_get (C := R_M) (T := F_M) (N := 22) (v := .ref (M 8)) hx hb htb i_M hown HW hO rfl 10 (by decide) (htb _ wd_321) (fun _ h9 => h9) rfl d_M_sibling_20 ?_
          refine lv_iconst (v := 4) hx hb d_M_sibling_23 (by decide) ?_
          refine lv_iload_n hx hb d_M_sibling_24 rfl (lv_at hl 1 rfl) ?_
          refine lv_imul hx hb d_M_sibling_25 ?_
          refine lv_iload_n hx hb d_M_sibling_26 rfl (lv_at hl 2 rfl) ?_
          refine lv_iadd hx hb d_M_sibling_27 ?_
          refine lv_topi (fun ix eix => ?_)
          have hix : ix = nI (4 * a1 + j) := by rw [eix, ea1, ej, show (4 : Int32) = nI 4 from rfl, pk_mul, nI_add]
          refine ht_lald hx hb HW h8 (by rw [hix]; exact vp_in_nI (by omega) (by omega)) d_M_sibling_28 ?_
          refine lv_topl (fun vv evv => ?_)
          have evv : vv = (Lf 8) (4 * a1 + j) := by rw [evv, hix, nI_clamp (by omega)]
          refine lv_goto (tgt := 33) hx hb d_M_sibling_29 (by decide) ?_
          exact ht_lret hx hb hr hlocks HW ⟨Or.inl ⟨a1, j, ha1, hj, ea1, ej, evv⟩, rfl⟩ d_M_sibling_33
      · have er := pi.2 hisn
        subst er
        refine W.eq (g2 := F0 _ 16 ls [.int 0]) rfl ?_
        refine lv_if_eq (tgt := 32) hx hb d_M_sibling_16 (by decide) (fun c16 => ?_) (fun c16 => ?_)
        · refine lv_lconst (v := 0) hx hb d_M_sibling_32 (by decide) ?_
          exact ht_lret hx hb hr hlocks HW ⟨Or.inr ⟨Or.inr hisn, rfl⟩, rfl⟩ d_M_sibling_33
        · exact absurd rfl c16
set_option maxHeartbeats 4000000 in
set_option maxRecDepth 100000 in
theorem c_M_endNumber (l : Launch) (g : ht_G) (w : ht_W) {M : Nat → Nat} {n : Nat → Int32} {Lf : ht_LF} {If : ht_IF} {R : ht_L} {k : ht_K} (hMR : ht_MR g w M n Lf If R k) (kk i : Int32) : Met l y_M_endNumber ws_M_endNumber ({ frames := 1, cells := 0, slots := 0, locals := 30 } : Room) (va_Pc [.ref (M 0), .int kk, .int i] (ht_WS g w)) (ht_Ql g (fun r u => ((∃ a1 j, a1 < 2 ∧ j < 4 ∧ kk = nI a1 ∧ i = nI j ∧ r = Lf 9 (4 * a1 + j)) ∨ (((¬ ∃ a1 : Nat, a1 < 2 ∧ kk = nI a1) ∨ ¬ ht_isn i) ∧ r = 0)) ∧ w = u)) 0 0 (ht_A g) := by
  refine Met.ofW (cc := b_M_endNumber) (maxL := 3) (ret := (some .long)) (by decide) rfl ?_
  intro p e s m args below meth c s₁ BB hml hv
  obtain ⟨rfl, HW⟩ := hv
  have HW := ht_I.start HW
  have hx := BB.exec
  have hb := BB.bytes
  have hr := BB.returns
  have hts := atoms_spec (ws := ws_M_endNumber) BB.pre
  have htb : ∀ w ∈ bg, w.before _ s = true := fun w h => hts w (List.mem_cons_of_mem _ h)
  have hown : s.vm.findClass R_M = some m.cls := findClass_of_methodNamed BB.named
  have hlocks := BB.notSynchronized
  have hl := lv_entry ([.ref (M 0), .int kk, .int i]) (n := 3) (Nat.le_of_ble_eq_true rfl)
  rw [lg_entry_eq]
  generalize (lg_sl ([.ref (M 0), .int kk, .int i]) ++ List.replicate (3 - (lg_sl ([.ref (M 0), .int kk, .int i])).length) Slot.unset).toArray = ls at hl ⊢
  have hl : lv_has ls 3 [(0, .ref (M 0)), (1, .int kk), (2, .int i)] := hl
  obtain ⟨hM, hRL, hsrt, hK, hKp, hrt⟩ := id hMR
  have h512 := hRL.1
  have hO : ht_at w (M 0) (.inr (4, [.ref (M 1), .ref (M 2), .int (n 0), .ref (M 3), .ref (M 4), .ref (M 5), .ref (M 6), .int (n 1), .ref (M 7), .int (n 2), .ref (M 8), .int (n 3), .int (n 4), .ref (M 9), .ref (M 10), .ref (M 11), .ref (M 12), .ref (M 13), .ref (M 14), .ref (M 15), .ref (M 16), .ref (M 17)]) : va_E) := hM.1
  have h9 : ht_at w (M 9) (ht_al g 8 (Lf 9)) := hM.L 9 (by decide) rfl
  refine lv_iload_n hx hb d_M_endNumber_0 rfl (lv_at hl 1 rfl) ?_
  refine lv_if_eq (tgt := 9) hx hb d_M_endNumber_1 (by decide) (fun c1 => ?_) (fun c1 => ?_)
  · have ha1 : ∃ a1 : Nat, a1 < 2 ∧ kk = nI a1 := ⟨0, by decide, c1⟩
    refine lv_iload_n hx hb d_M_endNumber_9 rfl (lv_at hl 2 rfl) ?_
    refine ht_ci HW (va_runS (own := R_M) (As := [.int i]) (rest := []) ⟨hx, hb, hml, hown, htb⟩ (c_M_isNumber l g w i) (va_cwS 1 htb (ht_gs wd_411 wd_412 wd_3 g_M_isNumber) rfl rfl rfl (by decide +kernel) ⟨Nat.le_of_ble_eq_true rfl, Nat.le_of_ble_eq_true rfl⟩) (HW.preS _) rfl rfl hl.1 rfl (lv_room (Nat.le_of_ble_eq_true rfl)) d_M_endNumber_10 ⟨Nat.le_of_ble_eq_true rfl, Nat.le_of_ble_eq_true rfl⟩) (fun q2 u1 H locs pi HW => ?_)
    obtain ⟨pi, eww⟩ := pi
    subst eww
    rcases ht_isn_or i with hisn | hisn
    · have er := pi.1 hisn
      subst er
      refine W.eq (g2 := F0 _ 13 ls [.int 1]) rfl ?_
      obtain ⟨j, hj, ej⟩ := id hisn
      refine lv_if_eq (tgt := 29) hx hb d_M_endNumber_13 (by decide) (fun c13 => ?_) (fun c13 => ?_)
      · exact absurd c13 (by decide)
      · obtain ⟨a1, ha1, ea1⟩ := ha1
        refine lv_aload_n hx hb d_M_endNumber_16 rfl (lv_at hl 0 rfl) ?_
        refine ht_get (C := R_M) (T := F_M) (N := 22) (v := .ref (M 9)) hx hb htb i_M hown HW hO rfl 13 (by decide) (htb _ wd_324) (fun _ h9 => h9) rfl d_M_endNumber_17 ?_
        refine lv_iconst (v := 4) hx hb d_M_endNumber_20 (by decide) ?_
        refine lv_iload_n hx hb d_M_endNumber_21 rfl (lv_at hl 1 rfl) ?_
        refine lv_imul hx hb d_M_endNumber_22 ?_
        refine lv_iload_n hx hb d_M_endNumber_23 rfl (lv_at hl 2 rfl) ?_
        refine lv_iadd hx hb d_M_endNumber_24 ?_
        refine lv_topi (fun ix eix => ?_)
        have hix : ix = nI (4 * a1 + j) := by rw [eix, ea1, ej, show (4 : Int32) = nI 4 from rfl, pk_mul, nI_add]
        refine ht_lald hx hb HW h9 (by rw [hix]; exact vp_in_nI (by omega) (by omega)) d_M_endNumber_25 ?_
        refine lv_topl (fun vv evv => ?_)
        have evv : vv = (Lf 9) (4 * a1 + j) := by rw [evv, hix, nI_clamp (by omega)]
        refine lv_goto (tgt := 30) hx hb d_M_endNumber_26 (by decide) ?_
        exact ht_lret hx hb hr hlocks HW ⟨Or.inl ⟨a1, j, ha1, hj, ea1, ej, evv⟩, rfl⟩ d_M_endNumber_30
    · have er := pi.2 hisn
      subst er
      refine W.eq (g2 := F0 _ 13 ls [.int 0]) rfl ?_
      refine lv_if_eq (tgt := 29) hx hb d_M_endNumber_13 (by decide) (fun c13 => ?_) (fun c13 => ?_)
      · refine lv_lconst (v := 0) hx hb d_M_endNumber_29 (by decide) ?_
        exact ht_lret hx hb hr hlocks HW ⟨Or.inr ⟨Or.inr hisn, rfl⟩, rfl⟩ d_M_endNumber_30
      · exact absurd rfl c13
  · have hk0 : ¬ kk = 0 := c1
    refine lv_iload_n hx hb d_M_endNumber_4 rfl (lv_at hl 1 rfl) ?_
    refine lv_iconst (v := 1) hx hb d_M_endNumber_5 (by decide) ?_
    refine lv_icmp_ne (tgt := 29) hx hb d_M_endNumber_6 (by decide) (fun c6 => ?_) (fun c6 => ?_)
    · have hout : ¬ ∃ a1 : Nat, a1 < 2 ∧ kk = nI a1 := fun ⟨a1, h1, e1⟩ => by
        rcases (show a1 = 0 ∨ a1 = 1 by omega) with rfl | rfl
        · exact hk0 e1
        · exact c6 e1
      refine lv_lconst (v := 0) hx hb d_M_endNumber_29 (by decide) ?_
      exact ht_lret hx hb hr hlocks HW ⟨Or.inr ⟨Or.inl hout, rfl⟩, rfl⟩ d_M_endNumber_30
    · have ha1 : ∃ a1 : Nat, a1 < 2 ∧ kk = nI a1 := ⟨1, by decide, c6⟩
      refine lv_iload_n hx hb d_M_endNumber_9 rfl (lv_at hl 2 rfl) ?_
      refine ht_ci HW (va_runS (own := R_M) (As := [.int i]) (rest := []) ⟨hx, hb, hml, hown, htb⟩ (c_M_isNumber l g w i) (va_cwS 1 htb (ht_gs wd_411 wd_412 wd_3 g_M_isNumber) rfl rfl rfl (by decide +kernel) ⟨Nat.le_of_ble_eq_true rfl, Nat.le_of_ble_eq_true rfl⟩) (HW.preS _) rfl rfl hl.1 rfl (lv_room (Nat.le_of_ble_eq_true rfl)) d_M_endNumber_10 ⟨Nat.le_of_ble_eq_true rfl, Nat.le_of_ble_eq_true rfl⟩) (fun q4 u3 H locs pi HW => ?_)
      obtain ⟨pi, eww⟩ := pi
      subst eww
      rcases ht_isn_or i with hisn | hisn
      · have er := pi.1 hisn
        subst er
        refine W.eq (g2 := F0 _ 13 ls [.int 1]) rfl ?_
        obtain ⟨j, hj, ej⟩ := id hisn
        refine lv_if_eq (tgt := 29) hx hb d_M_endNumber_13 (by decide) (fun c13 => ?_) (fun c13 => ?_)
        · exact absurd c13 (by decide)
        · obtain ⟨a1, ha1, ea1⟩ := ha1
          refine lv_aload_n hx hb d_M_endNumber_16 rfl (lv_at hl 0 rfl) ?_
          refine ht_get (C := R_M) (T := F_M) (N := 22) (v := .ref (M 9)) hx hb htb i_M hown HW hO rfl 13 (by decide) (htb _ wd_324) (fun _ h9 => h9) rfl d_M_endNumber_17 ?_
          refine lv_iconst (v := 4) hx hb d_M_endNumber_20 (by decide) ?_
          refine lv_iload_n hx hb d_M_endNumber_21 rfl (lv_at hl 1 rfl) ?_
          refine lv_imul hx hb d_M_endNumber_22 ?_
          refine lv_iload_n hx hb d_M_endNumber_23 rfl (lv_at hl 2 rfl) ?_
          refine lv_iadd hx hb d_M_endNumber_24 ?_
          refine lv_topi (fun ix eix => ?_)
          have hix : ix = nI (4 * a1 + j) := by rw [eix, ea1, ej, show (4 : Int32) = nI 4 from rfl, pk_mul, nI_add]
          refine ht_lald hx hb HW h9 (by rw [hix]; exact vp_in_nI (by omega) (by omega)) d_M_endNumber_25 ?_
          refine lv_topl (fun vv evv => ?_)
          have evv : vv = (Lf 9) (4 * a1 + j) := by rw [evv, hix, nI_clamp (by omega)]
          refine lv_goto (tgt := 30) hx hb d_M_endNumber_26 (by decide) ?_
          exact ht_lret hx hb hr hlocks HW ⟨Or.inl ⟨a1, j, ha1, hj, ea1, ej, evv⟩, rfl⟩ d_M_endNumber_30
      · have er := pi.2 hisn
        subst er
        refine W.eq (g2 := F0 _ 13 ls [.int 0]) rfl ?_
        refine lv_if_eq (tgt := 29) hx hb d_M_endNumber_13 (by decide) (fun c13 => ?_) (fun c13 => ?_)
        · refine lv_lconst (v := 0) hx hb d_M_endNumber_29 (by decide) ?_
          exact ht_lret hx hb hr hlocks HW ⟨Or.inr ⟨Or.inr hisn, rfl⟩, rfl⟩ d_M_endNumber_30
        · exact absurd rfl c13
set_option maxHeartbeats 4000000 in
set_option maxRecDepth 100000 in
theorem c_M_key (l : Launch) (g : ht_G) (w : ht_W) {M : Nat → Nat} {n : Nat → Int32} {Lf : ht_LF} {If : ht_IF} {R : ht_L} {k : ht_K} (hMR : ht_MR g w M n Lf If R k) (v1 v2 v3 v4 : Int64) : Met l y_M_key ws_M_key ({ frames := 0, cells := 0, slots := 0, locals := 0 } : Room) (va_Pc [.ref (M 0), .long v1, .long v2, .long v3, .long v4] (ht_WS g w)) (ht_Qv g (fun u => ∃ Lf2 : ht_LF, ht_MR g u M n Lf2 If R (v1, v2, v3, v4) ∧ ht_fm M w u ∧ ht_pq n n Lf Lf2)) 0 0 (ht_A g) := by
  refine Met.ofW (cc := b_M_key) (maxL := 9) (ret := none) (by decide) rfl ?_
  intro p e s m args below meth c s₁ BB hml hv
  obtain ⟨rfl, HW⟩ := hv
  have HW := ht_I.start HW
  have hx := BB.exec
  have hb := BB.bytes
  have hr := BB.returns
  have hts := atoms_spec (ws := ws_M_key) BB.pre
  have htb : ∀ w ∈ bg, w.before _ s = true := fun w h => hts w (List.mem_cons_of_mem _ h)
  have hown : s.vm.findClass R_M = some m.cls := findClass_of_methodNamed BB.named
  have hlocks := BB.notSynchronized
  have hl := lv_entry ([.ref (M 0), .long v1, .long v2, .long v3, .long v4]) (n := 9) (Nat.le_of_ble_eq_true rfl)
  rw [lg_entry_eq]
  generalize (lg_sl ([.ref (M 0), .long v1, .long v2, .long v3, .long v4]) ++ List.replicate (9 - (lg_sl ([.ref (M 0), .long v1, .long v2, .long v3, .long v4])).length) Slot.unset).toArray = ls at hl ⊢
  have hl : lv_has ls 9 [(0, .ref (M 0)), (1, .long v1), (3, .long v2), (5, .long v3), (7, .long v4)] := hl
  obtain ⟨hM, hRL, hsrt, hK, hKp, hrt⟩ := id hMR
  have h512 := hRL.1
  have hO : ht_at w (M 0) (.inr (4, [.ref (M 1), .ref (M 2), .int (n 0), .ref (M 3), .ref (M 4), .ref (M 5), .ref (M 6), .int (n 1), .ref (M 7), .int (n 2), .ref (M 8), .int (n 3), .int (n 4), .ref (M 9), .ref (M 10), .ref (M 11), .ref (M 12), .ref (M 13), .ref (M 14), .ref (M 15), .ref (M 16), .ref (M 17)]) : va_E) := hM.1
  have h3 : ht_at w (M 3) (ht_al g 4 (Lf 3)) := hM.L 3 (by decide) rfl
  refine lv_aload_n hx hb d_M_key_0 rfl (lv_at hl 0 rfl) ?_
  refine ht_get (C := R_M) (T := F_M) (N := 22) (v := .ref (M 3)) hx hb htb i_M hown HW hO rfl 3 (by decide) (htb _ wd_314) (fun _ h9 => h9) rfl d_M_key_1 ?_
  refine lv_iconst (v := 0) hx hb d_M_key_4 (by decide) ?_
  refine lv_lload_n hx hb d_M_key_5 rfl (lv_at hl 1 rfl) ?_
  refine ht_last hx hb HW h3 (by unfold vp_in; decide) d_M_key_6 (fun H locs HW => ?_)
  have n_M_0_M_3 : (M 0) ≠ (M 3) := (hM.ne 0 3 (by decide) (by decide) (by decide))
  obtain ⟨u1, hu1⟩ : ∃ zW : ht_W, zW = ht_up w (M 3) (ht_al g 4 (vp_updL (Lf 3) 0 v1)) := ⟨_, rfl⟩
  have HW : ht_I g s u1 H locs := by rw [hu1]; exact HW
  have hO : ht_at u1 (M 0) (.inr (4, [.ref (M 1), .ref (M 2), .int (n 0), .ref (M 3), .ref (M 4), .ref (M 5), .ref (M 6), .int (n 1), .ref (M 7), .int (n 2), .ref (M 8), .int (n 3), .int (n 4), .ref (M 9), .ref (M 10), .ref (M 11), .ref (M 12), .ref (M 13), .ref (M 14), .ref (M 15), .ref (M 16), .ref (M 17)]) : va_E) := by rw [hu1]; exact ht_at_ne hO n_M_0_M_3
  have h3 : ht_at u1 (M 3) (ht_al g 4 (vp_updL (Lf 3) 0 v1)) := by rw [hu1]; exact ht_at_self h3
  refine lv_aload_n hx hb d_M_key_7 rfl (lv_at hl 0 rfl) ?_
  refine ht_get (C := R_M) (T := F_M) (N := 22) (v := .ref (M 3)) hx hb htb i_M hown HW hO rfl 3 (by decide) (htb _ wd_314) (fun _ h9 => h9) rfl d_M_key_8 ?_
  refine lv_iconst (v := 1) hx hb d_M_key_11 (by decide) ?_
  refine lv_lload_n hx hb d_M_key_12 rfl (lv_at hl 2 rfl) ?_
  refine ht_last hx hb HW h3 (by unfold vp_in; decide) d_M_key_13 (fun H locs HW => ?_)
  obtain ⟨u2, hu2⟩ : ∃ zW : ht_W, zW = ht_up u1 (M 3) (ht_al g 4 (vp_updL (vp_updL (Lf 3) 0 v1) 1 v2)) := ⟨_, rfl⟩
  have HW : ht_I g s u2 H locs := by rw [hu2]; exact HW
  have hO : ht_at u2 (M 0) (.inr (4, [.ref (M 1), .ref (M 2), .int (n 0), .ref (M 3), .ref (M 4), .ref (M 5), .ref (M 6), .int (n 1), .ref (M 7), .int (n 2), .ref (M 8), .int (n 3), .int (n 4), .ref (M 9), .ref (M 10), .ref (M 11), .ref (M 12), .ref (M 13), .ref (M 14), .ref (M 15), .ref (M 16), .ref (M 17)]) : va_E) := by rw [hu2]; exact ht_at_ne hO n_M_0_M_3
  have h3 : ht_at u2 (M 3) (ht_al g 4 (vp_updL (vp_updL (Lf 3) 0 v1) 1 v2)) := by rw [hu2]; exact ht_at_self h3
  refine lv_aload_n hx hb d_M_key_14 rfl (lv_at hl 0 rfl) ?_
  refine ht_get (C := R_M) (T := F_M) (N := 22) (v := .ref (M 3)) hx hb htb i_M hown HW hO rfl 3 (by decide) (htb _ wd_314) (fun _ h9 => h9) rfl d_M_key_15 ?_
  refine lv_iconst (v := 2) hx hb d_M_key_18 (by decide) ?_
  refine lv_lload hx hb d_M_key_19 (lv_at hl 3 rfl) ?_
  refine ht_last hx hb HW h3 (by unfold vp_in; decide) d_M_key_21 (fun H locs HW => ?_)
  obtain ⟨u3, hu3⟩ : ∃ zW : ht_W, zW = ht_up u2 (M 3) (ht_al g 4 (vp_updL (vp_updL (vp_updL (Lf 3) 0 v1) 1 v2) 2 v3)) := ⟨_, rfl⟩
  have HW : ht_I g s u3 H locs := by rw [hu3]; exact HW
  have hO : ht_at u3 (M 0) (.inr (4, [.ref (M 1), .ref (M 2), .int (n 0), .ref (M 3), .ref (M 4), .ref (M 5), .ref (M 6), .int (n 1), .ref (M 7), .int (n 2), .ref (M 8), .int (n 3), .int (n 4), .ref (M 9), .ref (M 10), .ref (M 11), .ref (M 12), .ref (M 13), .ref (M 14), .ref (M 15), .ref (M 16), .ref (M 17)]) : va_E) := by rw [hu3]; exact ht_at_ne hO n_M_0_M_3
  have h3 : ht_at u3 (M 3) (ht_al g 4 (vp_updL (vp_updL (vp_updL (Lf 3) 0 v1) 1 v2) 2 v3)) := by rw [hu3]; exact ht_at_self h3
  refine lv_aload_n hx hb d_M_key_22 rfl (lv_at hl 0 rfl) ?_
  refine ht_get (C := R_M) (T := F_M) (N := 22) (v := .ref (M 3)) hx hb htb i_M hown HW hO rfl 3 (by decide) (htb _ wd_314) (fun _ h9 => h9) rfl d_M_key_23 ?_
  refine lv_iconst (v := 3) hx hb d_M_key_26 (by decide) ?_
  refine lv_lload hx hb d_M_key_27 (lv_at hl 4 rfl) ?_
  refine ht_last hx hb HW h3 (by unfold vp_in; decide) d_M_key_29 (fun H locs HW => ?_)
  obtain ⟨u4, hu4⟩ : ∃ zW : ht_W, zW = ht_up u3 (M 3) (ht_al g 4 (vp_updL (vp_updL (vp_updL (vp_updL (Lf 3) 0 v1) 1 v2) 2 v3) 3 v4)) := ⟨_, rfl⟩
  have HW : ht_I g s u4 H locs := by rw [hu4]; exact HW
  have hO : ht_at u4 (M 0) (.inr (4, [.ref (M 1), .ref (M 2), .int (n 0), .ref (M 3), .ref (M 4), .ref (M 5), .ref (M 6), .int (n 1), .ref (M 7), .int (n 2), .ref (M 8), .int (n 3), .int (n 4), .ref (M 9), .ref (M 10), .ref (M 11), .ref (M 12), .ref (M 13), .ref (M 14), .ref (M 15), .ref (M 16), .ref (M 17)]) : va_E) := by rw [hu4]; exact ht_at_ne hO n_M_0_M_3
  have h3 : ht_at u4 (M 3) (ht_al g 4 (vp_updL (vp_updL (vp_updL (vp_updL (Lf 3) 0 v1) 1 v2) 2 v3) 3 v4)) := by rw [hu4]; exact ht_at_self h3
  exact ht_vret hx hb hr hlocks HW ⟨va_up Lf 3 (vp_updL (vp_updL (vp_updL (vp_updL (Lf 3) 0 v1) 1 v2) 2 v3) 3 v4), ⟨by rw [hu4, hu3, hu2, hu1]; simp only [ht_up_up]; exact hM.upL 3 (by decide) rfl _, hRL.cg rfl (va_up_ne _ _ (by decide)) (va_up_ne _ _ (by decide)), hsrt, (by
      rw [va_up_self]
      intro j hj
      rw [Nat.zero_add]
      rcases (show j = 0 ∨ j = 1 ∨ j = 2 ∨ j = 3 by omega) with rfl | rfl | rfl | rfl <;> rfl), hKp.cg (va_up_ne _ _ (by decide)) (va_up_ne _ _ (by decide)) rfl, by rw [va_up_ne _ _ (by decide)]; exact hrt⟩, by rw [hu4, hu3, hu2, hu1]; simp only [ht_up_up]; exact ht_fm.rf.up 3 (by decide), rfl, rfl, va_up_ne _ _ (by decide), va_up_ne _ _ (by decide)⟩ d_M_key_30
set_option maxHeartbeats 4000000 in
set_option maxRecDepth 100000 in
theorem c_M_digest (l : Launch) (g : ht_G) (w : ht_W) {M : Nat → Nat} {n : Nat → Int32} {Lf : ht_LF} {If : ht_IF} {R : ht_L} {k : ht_K} (hMR : ht_MR g w M n Lf If R k) (bs : Int64) (bn tm i : Int32) : Met l y_M_digest ws_M_digest ({ frames := 3, cells := 0, slots := 0, locals := 130 } : Room) (va_Pc [.ref (M 0), .long bs, .int bn, .int tm, .int i] (ht_WS g w)) (ht_Ql g (fun r u => ∃ (Lf2 : ht_LF) (If2 : ht_IF), ht_MR g u M n Lf2 If2 R k ∧ ht_fm M w u ∧ ht_pq n n Lf Lf2 ∧ ((∃ n0 t0 j, n0 ≤ 8 ∧ t0 ≤ 500 ∧ j < 4 ∧ bn = nI n0 ∧ tm = nI t0 ∧ i = nI j ∧ r = ht_nu (ht_sw (ht_pad (ht_db bs n0) (n0 * t0)) ((n0 * t0 + 72) / 64)) j) ∨ (((¬ ∃ n0 : Nat, n0 ≤ 8 ∧ bn = nI n0) ∨ (¬ ∃ t0 : Nat, t0 ≤ 500 ∧ tm = nI t0) ∨ ¬ ht_isn i) ∧ r = 0)))) 0 0 (ht_A g) := by
  refine Met.ofW (cc := b_M_digest) (maxL := 9) (ret := (some .long)) (by decide) rfl ?_
  intro p e s m args below meth c s₁ BB hml hv
  obtain ⟨rfl, HW⟩ := hv
  have HW := ht_I.start HW
  have hx := BB.exec
  have hb := BB.bytes
  have hr := BB.returns
  have hts := atoms_spec (ws := ws_M_digest) BB.pre
  have htb : ∀ w ∈ bg, w.before _ s = true := fun w h => hts w (List.mem_cons_of_mem _ h)
  have hown : s.vm.findClass R_M = some m.cls := findClass_of_methodNamed BB.named
  have hlocks := BB.notSynchronized
  have hl := lv_entry ([.ref (M 0), .long bs, .int bn, .int tm, .int i]) (n := 9) (Nat.le_of_ble_eq_true rfl)
  rw [lg_entry_eq]
  generalize (lg_sl ([.ref (M 0), .long bs, .int bn, .int tm, .int i]) ++ List.replicate (9 - (lg_sl ([.ref (M 0), .long bs, .int bn, .int tm, .int i])).length) Slot.unset).toArray = ls at hl ⊢
  have hl : lv_has ls 9 [(0, .ref (M 0)), (1, .long bs), (3, .int bn), (4, .int tm), (5, .int i)] := hl
  obtain ⟨hM, hRL, hsrt, hK, hKp, hrt⟩ := id hMR
  have h512 := hRL.1
  have inner : ∀ (n0 t0 j : Nat), n0 ≤ 8 → t0 ≤ 500 → j < 4 → bn = nI n0 → tm = nI t0 → i = nI j → ∀ (z : Nat), z < t0 → (∀ (u : ht_W) (Iu : ht_IF), ht_Mo g u M n Lf Iu → ht_fm M w u → ht_same [10] If Iu → (∀ x, x < n0 * (z + 1) → Iu 10 x &&& 255 = ht_db bs n0 x &&& 255) → ∀ (H : Heap) (locs : List Loc) (ls : Array Slot) (sz tv : Int32), sz = nI (n0 * (z + 1)) → tv = nI (z + 1) → ht_I g s u H locs → lv_has ls 9 [(0, .ref (M 0)), (1, .long bs), (3, .int bn), (4, .int tm), (5, .int i), (6, .int sz), (7, .int tv)] → W p l e (headSpec ws_M_digest ({ frames := 3, cells := 0, slots := 0, locals := 130 } : Room)).room s m ([.ref (M 0), .long bs, .int bn, .int tm, .int i] : List Value).toArray below meth c H locs 0 0 (MQ below (ht_Ql g (fun r u => ∃ (Lf2 : ht_LF) (If2 : ht_IF), ht_MR g u M n Lf2 If2 R k ∧ ht_fm M w u ∧ ht_pq n n Lf Lf2 ∧ ((∃ n0 t0 j, n0 ≤ 8 ∧ t0 ≤ 500 ∧ j < 4 ∧ bn = nI n0 ∧ tm = nI t0 ∧ i = nI j ∧ r = ht_nu (ht_sw (ht_pad (ht_db bs n0) (n0 * t0)) ((n0 * t0 + 72) / 64)) j) ∨ (((¬ ∃ n0 : Nat, n0 ≤ 8 ∧ bn = nI n0) ∨ (¬ ∃ t0 : Nat, t0 ≤ 500 ∧ tm = nI t0) ∨ ¬ ht_isn i) ∧ r = 0)))) ([.ref (M 0), .long bs, .int bn, .int tm, .int i] : List Value).toArray s 0 0 (ht_A g)) (F0 m 39 ls [])) → ∀ (tv : Int32), tv = nI z → ∀ (r : Nat), r ≤ n0 → ∀ (u : ht_W) (Iu : ht_IF), ht_Mo g u M n Lf Iu → ht_fm M w u → ht_same [10] If Iu → (∀ x, x < n0 * z + (n0 - r) → Iu 10 x &&& 255 = ht_db bs n0 x &&& 255) → ∀ (H : Heap) (locs : List Loc) (ls : Array Slot) (sz kv : Int32), sz = nI (n0 * z + (n0 - r)) → kv + 1 = nI r → ht_I g s u H locs → lv_has ls 9 [(0, .ref (M 0)), (1, .long bs), (3, .int bn), (4, .int tm), (5, .int i), (6, .int sz), (7, .int tv), (8, .int kv)] → W p l e (headSpec ws_M_digest ({ frames := 3, cells := 0, slots := 0, locals := 130 } : Room)).room s m ([.ref (M 0), .long bs, .int bn, .int tm, .int i] : List Value).toArray below meth c H locs 0 0 (MQ below (ht_Ql g (fun r u => ∃ (Lf2 : ht_LF) (If2 : ht_IF), ht_MR g u M n Lf2 If2 R k ∧ ht_fm M w u ∧ ht_pq n n Lf Lf2 ∧ ((∃ n0 t0 j, n0 ≤ 8 ∧ t0 ≤ 500 ∧ j < 4 ∧ bn = nI n0 ∧ tm = nI t0 ∧ i = nI j ∧ r = ht_nu (ht_sw (ht_pad (ht_db bs n0) (n0 * t0)) ((n0 * t0 + 72) / 64)) j) ∨ (((¬ ∃ n0 : Nat, n0 ≤ 8 ∧ bn = nI n0) ∨ (¬ ∃ t0 : Nat, t0 ≤ 500 ∧ tm = nI t0) ∨ ¬ ht_isn i) ∧ r = 0)))) ([.ref (M 0), .long bs, .int bn, .int tm, .int i] : List Value).toArray s 0 0 (ht_A g)) (F0 m 51 ls []) := by
    intro n0 t0 j hn0 ht0 hj en0 et0 ej z hz hgo tv etv r
    induction r with
    | zero =>
      intro hrn u Iu hMu hfm hsI hdb H locs ls sz kv esz ekv HW hl
      have hb9 : n0 * z + n0 ≤ 8 * 500 := by
        have h9 : n0 * (z + 1) ≤ 8 * 500 := Nat.mul_le_mul hn0 (by omega)
        rw [Nat.mul_succ] at h9
        exact h9
      have hO : ht_at u (M 0) (.inr (4, [.ref (M 1), .ref (M 2), .int (n 0), .ref (M 3), .ref (M 4), .ref (M 5), .ref (M 6), .int (n 1), .ref (M 7), .int (n 2), .ref (M 8), .int (n 3), .int (n 4), .ref (M 9), .ref (M 10), .ref (M 11), .ref (M 12), .ref (M 13), .ref (M 14), .ref (M 15), .ref (M 16), .ref (M 17)]) : va_E) := hMu.1
      have h10 : ht_at u (M 10) (ht_ab g 4096 (Iu 10)) := hMu.2.2.2.2.1
      refine lv_iload hx hb d_M_digest_51 (lv_at hl 7 rfl) ?_
      refine lv_if_lt (tgt := 81) hx hb d_M_digest_53 (by decide) (fun c53 => ?_) (fun c53 => ?_)
      · obtain ⟨tv2, etv2⟩ : ∃ zI : Int32, zI = tv + 1 := ⟨_, rfl⟩
        refine lv_iinc (v := tv2) (lv' := [(7, .int tv2), (0, .ref (M 0)), (1, .long bs), (3, .int bn), (4, .int tm), (5, .int i), (6, .int sz), (8, .int kv)]) hx hb d_M_digest_81 hl (k := 6) rfl (by rw [etv2]; rfl) (by decide) rfl (fun ls hl => ?_)
        refine lv_goto (tgt := 39) hx hb d_M_digest_84 (by decide) ?_
        exact hgo u Iu hMu hfm hsI (fun x hx9 => hdb x (by rw [Nat.mul_succ] at hx9; omega)) _ _ _ sz tv2 (by rw [esz, Nat.mul_succ]; exact congrArg nI (by omega)) (by rw [etv2, etv, nI_1]) HW (lv_sub hl [1, 2, 3, 4, 5, 6, 0] rfl)
      · exact absurd (ht_j0 ekv) c53
    | succ r ih =>
      intro hrn u Iu hMu hfm hsI hdb H locs ls sz kv esz ekv HW hl
      have hb9 : n0 * z + n0 ≤ 8 * 500 := by
        have h9 : n0 * (z + 1) ≤ 8 * 500 := Nat.mul_le_mul hn0 (by omega)
        rw [Nat.mul_succ] at h9
        exact h9
      have hkv : kv = nI r := ht_js ekv
      have hO : ht_at u (M 0) (.inr (4, [.ref (M 1), .ref (M 2), .int (n 0), .ref (M 3), .ref (M 4), .ref (M 5), .ref (M 6), .int (n 1), .ref (M 7), .int (n 2), .ref (M 8), .int (n 3), .int (n 4), .ref (M 9), .ref (M 10), .ref (M 11), .ref (M 12), .ref (M 13), .ref (M 14), .ref (M 15), .ref (M 16), .ref (M 17)]) : va_E) := hMu.1
      have h10 : ht_at u (M 10) (ht_ab g 4096 (Iu 10)) := hMu.2.2.2.2.1
      refine lv_iload hx hb d_M_digest_51 (lv_at hl 7 rfl) ?_
      refine lv_if_lt (tgt := 81) hx hb d_M_digest_53 (by decide) (fun c53 => ?_) (fun c53 => ?_)
      · exact absurd (show nI r < 0 by rw [← hkv]; exact c53) (nI_pos (by omega))
      · refine lv_aload_n hx hb d_M_digest_56 rfl (lv_at hl 0 rfl) ?_
        refine ht_get (C := R_M) (T := F_M) (N := 22) (v := .ref (M 10)) hx hb htb i_M hown HW hO rfl 14 (by decide) (htb _ wd_325) (fun _ h9 => h9) rfl d_M_digest_57 ?_
        refine lv_iload hx hb d_M_digest_60 (lv_at hl 5 rfl) ?_
        refine lv_lload_n hx hb d_M_digest_62 rfl (lv_at hl 1 rfl) ?_
        refine lv_bipush (v := 8) hx hb d_M_digest_63 (by decide) ?_
        refine lv_iload hx hb d_M_digest_65 (lv_at hl 7 rfl) ?_
        refine lv_imul hx hb d_M_digest_67 ?_
        refine lv_lshr (v := bs >>> (((8 : Int32) * kv).toInt64 &&& 63)) hx hb d_M_digest_68 rfl ?_
        refine lv_l2i (v := (bs >>> (((8 : Int32) * kv).toInt64 &&& 63)).toInt32) hx hb d_M_digest_69 rfl ?_
        refine lv_i2b (v := ((bs >>> (((8 : Int32) * kv).toInt64 &&& 63)).toInt32).toInt8.toInt32) hx hb d_M_digest_70 rfl ?_
        refine lv_topi (fun bv ebv => ?_)
        refine ht_bast hx hb HW h10 (by rw [esz]; exact vp_in_nI (by omega) (by omega)) d_M_digest_71 (fun H locs HW => ?_)
        rw [esz, nI_clamp (by omega)] at HW
        have n_M_0_M_10 : (M 0) ≠ (M 10) := (hMu.ne 0 10 (by decide) (by decide) (by decide))
        obtain ⟨u1, hu1⟩ : ∃ zW : ht_W, zW = ht_up u (M 10) (ht_ab g 4096 (upd (Iu 10) (n0 * z + (n0 - (r + 1))) (vp_nar .byte bv))) := ⟨_, rfl⟩
        have HW : ht_I g s u1 H locs := by rw [hu1]; exact HW
        have hO : ht_at u1 (M 0) (.inr (4, [.ref (M 1), .ref (M 2), .int (n 0), .ref (M 3), .ref (M 4), .ref (M 5), .ref (M 6), .int (n 1), .ref (M 7), .int (n 2), .ref (M 8), .int (n 3), .int (n 4), .ref (M 9), .ref (M 10), .ref (M 11), .ref (M 12), .ref (M 13), .ref (M 14), .ref (M 15), .ref (M 16), .ref (M 17)]) : va_E) := by rw [hu1]; exact ht_at_ne hO n_M_0_M_10
        have h10 : ht_at u1 (M 10) (ht_ab g 4096 (upd (Iu 10) (n0 * z + (n0 - (r + 1))) (vp_nar .byte bv))) := by rw [hu1]; exact ht_at_self h10
        obtain ⟨sz2, esz2⟩ : ∃ zI : Int32, zI = sz + 1 := ⟨_, rfl⟩
        refine lv_iinc (v := sz2) (lv' := [(6, .int sz2), (0, .ref (M 0)), (1, .long bs), (3, .int bn), (4, .int tm), (5, .int i), (7, .int tv), (8, .int kv)]) hx hb d_M_digest_72 hl (k := 5) rfl (by rw [esz2]; rfl) (by decide) rfl (fun ls hl => ?_)
        obtain ⟨kv2, ekv2⟩ : ∃ zI : Int32, zI = kv + (-1) := ⟨_, rfl⟩
        refine lv_iinc (v := kv2) (lv' := [(8, .int kv2), (6, .int sz2), (0, .ref (M 0)), (1, .long bs), (3, .int bn), (4, .int tm), (5, .int i), (7, .int tv)]) hx hb d_M_digest_75 hl (k := 7) rfl (by rw [ekv2]; rfl) (by decide) rfl (fun ls hl => ?_)
        refine lv_goto (tgt := 51) hx hb d_M_digest_78 (by decide) ?_
        refine ih (by omega) u1 _ (by rw [hu1]; exact hMu.up10 _) (by rw [hu1]; exact hfm.up 10 (by decide)) (hsI.up (by decide)) (fun x hx9 => ?_) _ _ _ sz2 kv2 (by rw [esz2, esz, nI_1]; exact congrArg nI (by omega)) (by rw [ekv2]; exact (ht_c1 kv).trans hkv) HW (lv_sub hl [2, 3, 4, 5, 6, 1, 7, 0] rfl)
        rw [va_up_self]
        by_cases e : x = n0 * z + (n0 - (r + 1))
        · rw [e, pk_us, ebv, ht_nar2, ht_by_ar bs (j := r) (by omega) (by rw [hkv, show (8 : Int32) = nI 8 from rfl, pk_mul])]
          unfold ht_db
          rw [Nat.mul_add_mod, Nat.mod_eq_of_lt (by omega), show n0 - 1 - (n0 - (r + 1)) = r by omega]
        · rw [pk_un e]
          exact hdb x (by omega)
  have outer : ∀ (n0 t0 j : Nat), n0 ≤ 8 → t0 ≤ 500 → j < 4 → bn = nI n0 → tm = nI t0 → i = nI j → ∀ (r z : Nat), z + r = t0 → ∀ (u : ht_W) (Iu : ht_IF), ht_Mo g u M n Lf Iu → ht_fm M w u → ht_same [10] If Iu → (∀ x, x < n0 * z → Iu 10 x &&& 255 = ht_db bs n0 x &&& 255) → ∀ (H : Heap) (locs : List Loc) (ls : Array Slot) (sz tv : Int32), sz = nI (n0 * z) → tv = nI z → ht_I g s u H locs → lv_has ls 9 [(0, .ref (M 0)), (1, .long bs), (3, .int bn), (4, .int tm), (5, .int i), (6, .int sz), (7, .int tv)] → W p l e (headSpec ws_M_digest ({ frames := 3, cells := 0, slots := 0, locals := 130 } : Room)).room s m ([.ref (M 0), .long bs, .int bn, .int tm, .int i] : List Value).toArray below meth c H locs 0 0 (MQ below (ht_Ql g (fun r u => ∃ (Lf2 : ht_LF) (If2 : ht_IF), ht_MR g u M n Lf2 If2 R k ∧ ht_fm M w u ∧ ht_pq n n Lf Lf2 ∧ ((∃ n0 t0 j, n0 ≤ 8 ∧ t0 ≤ 500 ∧ j < 4 ∧ bn = nI n0 ∧ tm = nI t0 ∧ i = nI j ∧ r = ht_nu (ht_sw (ht_pad (ht_db bs n0) (n0 * t0)) ((n0 * t0 + 72) / 64)) j) ∨ (((¬ ∃ n0 : Nat, n0 ≤ 8 ∧ bn = nI n0) ∨ (¬ ∃ t0 : Nat, t0 ≤ 500 ∧ tm = nI t0) ∨ ¬ ht_isn i) ∧ r = 0)))) ([.ref (M 0), .long bs, .int bn, .int tm, .int i] : List Value).toArray s 0 0 (ht_A g)) (F0 m 39 ls []) := by
    intro n0 t0 j hn0 ht0 hj en0 et0 ej r
    induction r with
    | zero =>
      intro z hz u Iu hMu hfm hsI hdb H locs ls sz tv esz etv HW hl
      have hb9 : n0 * z ≤ 8 * 500 := Nat.mul_le_mul hn0 (by omega)
      have hO : ht_at u (M 0) (.inr (4, [.ref (M 1), .ref (M 2), .int (n 0), .ref (M 3), .ref (M 4), .ref (M 5), .ref (M 6), .int (n 1), .ref (M 7), .int (n 2), .ref (M 8), .int (n 3), .int (n 4), .ref (M 9), .ref (M 10), .ref (M 11), .ref (M 12), .ref (M 13), .ref (M 14), .ref (M 15), .ref (M 16), .ref (M 17)]) : va_E) := hMu.1
      refine lv_iload hx hb d_M_digest_39 (lv_at hl 6 rfl) ?_
      refine lv_iload hx hb d_M_digest_41 (lv_at hl 3 rfl) ?_
      refine lv_icmp_ge (tgt := 87) hx hb d_M_digest_43 (by decide) (fun c43 => ?_) (fun c43 => ?_)
      · refine lv_aload_n hx hb d_M_digest_87 rfl (lv_at hl 0 rfl) ?_
        refine lv_iload hx hb d_M_digest_88 (lv_at hl 5 rfl) ?_
        refine ht_cv HW (va_runV (own := R_M) (C := R_M) (As := [.int sz]) (rest := []) ⟨hx, hb, hml, hown, htb⟩ (c_M_digestOf l g u hMu (n0 * z) (by omega) sz esz) (cwV 1 htb (ht_gv wd_444 wd_446 sl_17 wd_3 g_M_digestOf) rfl rfl rfl (by decide +kernel) ⟨Nat.le_of_ble_eq_true rfl, Nat.le_of_ble_eq_true rfl⟩) (HW.preV hO rfl _) rfl rfl hl.1 rfl (lv_room (Nat.le_of_ble_eq_true rfl)) d_M_digest_90 ⟨Nat.le_of_ble_eq_true rfl, Nat.le_of_ble_eq_true rfl⟩) (fun u1 H locs pd HW => ?_)
        obtain ⟨L2, I2, hM2, hfm2, hs2L, hs2I, hws2⟩ := pd
        have hO : ht_at u1 (M 0) (.inr (4, [.ref (M 1), .ref (M 2), .int (n 0), .ref (M 3), .ref (M 4), .ref (M 5), .ref (M 6), .int (n 1), .ref (M 7), .int (n 2), .ref (M 8), .int (n 3), .int (n 4), .ref (M 9), .ref (M 10), .ref (M 11), .ref (M 12), .ref (M 13), .ref (M 14), .ref (M 15), .ref (M 16), .ref (M 17)]) : va_E) := hM2.1
        refine lv_aload_n hx hb d_M_digest_93 rfl (lv_at hl 0 rfl) ?_
        refine lv_iload hx hb d_M_digest_94 (lv_at hl 4 rfl) ?_
        refine ht_cl HW (va_runV (own := R_M) (C := R_M) (As := [.int i]) (rest := []) ⟨hx, hb, hml, hown, htb⟩ (c_M_wordPair l g u1 hM2 j hj i ej hws2) (cwV 1 htb (ht_gv wd_468 wd_470 sl_19 wd_3 g_M_wordPair) rfl rfl rfl (by decide +kernel) ⟨Nat.le_of_ble_eq_true rfl, Nat.le_of_ble_eq_true rfl⟩) (HW.preV hO rfl _) rfl rfl hl.1 rfl (lv_room (Nat.le_of_ble_eq_true rfl)) d_M_digest_96 ⟨Nat.le_of_ble_eq_true rfl, Nat.le_of_ble_eq_true rfl⟩) (fun rr u2 H locs pu2 HW => ?_)
        obtain ⟨err, eu2⟩ := pu2
        subst eu2
        exact ht_lret hx hb hr hlocks HW ⟨L2, I2, hMR.same hM2 rfl rfl (hs2L 1 (by decide)) (hs2L 2 (by decide)) (hs2L 3 (by decide)) (hs2L 7 (by decide)) (hKp.cg (hs2L 13 (by decide)) (hs2L 14 (by decide)) (by rw [hs2I 12 (by decide), hsI 12 (by decide)])), hfm.trans hfm2, ⟨rfl, rfl, hs2L 8 (by decide), hs2L 9 (by decide)⟩, Or.inl ⟨n0, t0, j, hn0, ht0, hj, en0, et0, ej, by
            rw [err, show z = t0 by omega]
            refine congrArg (fun z9 => ht_nu z9 j) (ht_sw_c _ (fun x hx9 => ?_))
            unfold ht_pad
            by_cases e9 : x < n0 * t0
            · rw [if_pos e9, if_pos e9]
              exact hdb x (by rw [show z = t0 by omega]; exact e9)
            · rw [if_neg e9, if_neg e9]⟩⟩ d_M_digest_99
      · exact absurd (by rw [et0, etv, show z = t0 by omega]; exact Int32.le_refl _) c43
    | succ r ih =>
      intro z hz u Iu hMu hfm hsI hdb H locs ls sz tv esz etv HW hl
      have hO : ht_at u (M 0) (.inr (4, [.ref (M 1), .ref (M 2), .int (n 0), .ref (M 3), .ref (M 4), .ref (M 5), .ref (M 6), .int (n 1), .ref (M 7), .int (n 2), .ref (M 8), .int (n 3), .int (n 4), .ref (M 9), .ref (M 10), .ref (M 11), .ref (M 12), .ref (M 13), .ref (M 14), .ref (M 15), .ref (M 16), .ref (M 17)]) : va_E) := hMu.1
      refine lv_iload hx hb d_M_digest_39 (lv_at hl 6 rfl) ?_
      refine lv_iload hx hb d_M_digest_41 (lv_at hl 3 rfl) ?_
      refine lv_icmp_ge (tgt := 87) hx hb d_M_digest_43 (by decide) (fun c43 => ?_) (fun c43 => ?_)
      · exact absurd (show nI t0 ≤ nI z by rw [et0, etv] at c43; exact c43) (nI_ge (by omega) (by omega))
      · refine lv_iload_n hx hb d_M_digest_46 rfl (lv_at hl 2 rfl) ?_
        refine lv_iconst (v := 1) hx hb d_M_digest_47 (by decide) ?_
        refine lv_isub hx hb d_M_digest_48 ?_
        refine lv_topi (fun kv ekv => ?_)
        refine lv_istore (lv' := [(8, .int kv), (0, .ref (M 0)), (1, .long bs), (3, .int bn), (4, .int tm), (5, .int i), (6, .int sz), (7, .int tv)]) hx hb d_M_digest_49 hl (by decide) rfl (fun ls hl => ?_)
        exact inner n0 t0 j hn0 ht0 hj en0 et0 ej z (by omega) (ih (z + 1) (by omega)) tv etv n0 (Nat.le_refl _) u Iu hMu hfm hsI (fun x hx9 => hdb x (by omega)) _ _ _ sz kv (by rw [esz]; exact congrArg nI (by omega)) (by rw [ekv, en0]; exact ht_c2 (nI n0)) HW (lv_sub hl [1, 2, 3, 4, 5, 6, 7, 0] rfl)
  refine lv_iload_n hx hb d_M_digest_0 rfl (lv_at hl 2 rfl) ?_
  refine lv_if_lt (tgt := 31) hx hb d_M_digest_1 (by decide) (fun c1 => ?_) (fun c1 => ?_)
  · have hout : (¬ ∃ n0 : Nat, n0 ≤ 8 ∧ bn = nI n0) ∨ (¬ ∃ t0 : Nat, t0 ≤ 500 ∧ tm = nI t0) ∨ ¬ ht_isn i := Or.inl (ht_rngG0 (n := 8) (by decide) c1)
    refine lv_lconst (v := 0) hx hb d_M_digest_31 (by decide) ?_
    exact ht_lret hx hb hr hlocks HW ⟨Lf, If, hMR, ht_fm.rf, ⟨rfl, rfl, rfl, rfl⟩, Or.inr ⟨hout, rfl⟩⟩ d_M_digest_32
  · refine lv_iload_n hx hb d_M_digest_4 rfl (lv_at hl 2 rfl) ?_
    refine lv_bipush (v := 8) hx hb d_M_digest_5 (by decide) ?_
    refine lv_icmp_gt (tgt := 31) hx hb d_M_digest_7 (by decide) (fun c7 => ?_) (fun c7 => ?_)
    · have hout : (¬ ∃ n0 : Nat, n0 ≤ 8 ∧ bn = nI n0) ∨ (¬ ∃ t0 : Nat, t0 ≤ 500 ∧ tm = nI t0) ∨ ¬ ht_isn i := Or.inl (ht_rngG1 (n := 8) (by decide) c7)
      refine lv_lconst (v := 0) hx hb d_M_digest_31 (by decide) ?_
      exact ht_lret hx hb hr hlocks HW ⟨Lf, If, hMR, ht_fm.rf, ⟨rfl, rfl, rfl, rfl⟩, Or.inr ⟨hout, rfl⟩⟩ d_M_digest_32
    · obtain ⟨n0, hn0, en0⟩ := ht_rngG (n := 8) (by decide) c1 c7
      refine lv_iload hx hb d_M_digest_10 (lv_at hl 3 rfl) ?_
      refine lv_if_lt (tgt := 31) hx hb d_M_digest_12 (by decide) (fun c12 => ?_) (fun c12 => ?_)
      · have hout : (¬ ∃ n0 : Nat, n0 ≤ 8 ∧ bn = nI n0) ∨ (¬ ∃ t0 : Nat, t0 ≤ 500 ∧ tm = nI t0) ∨ ¬ ht_isn i := Or.inr (Or.inl (ht_rngG0 (n := 500) (by decide) c12))
        refine lv_lconst (v := 0) hx hb d_M_digest_31 (by decide) ?_
        exact ht_lret hx hb hr hlocks HW ⟨Lf, If, hMR, ht_fm.rf, ⟨rfl, rfl, rfl, rfl⟩, Or.inr ⟨hout, rfl⟩⟩ d_M_digest_32
      · refine lv_iload hx hb d_M_digest_15 (lv_at hl 3 rfl) ?_
        refine lv_sipush (v := 500) hx hb d_M_digest_17 (by decide) ?_
        refine lv_icmp_gt (tgt := 31) hx hb d_M_digest_20 (by decide) (fun c20 => ?_) (fun c20 => ?_)
        · have hout : (¬ ∃ n0 : Nat, n0 ≤ 8 ∧ bn = nI n0) ∨ (¬ ∃ t0 : Nat, t0 ≤ 500 ∧ tm = nI t0) ∨ ¬ ht_isn i := Or.inr (Or.inl (ht_rngG1 (n := 500) (by decide) c20))
          refine lv_lconst (v := 0) hx hb d_M_digest_31 (by decide) ?_
          exact ht_lret hx hb hr hlocks HW ⟨Lf, If, hMR, ht_fm.rf, ⟨rfl, rfl, rfl, rfl⟩, Or.inr ⟨hout, rfl⟩⟩ d_M_digest_32
        · obtain ⟨t0, ht0, et0⟩ := ht_rngG (n := 500) (by decide) c12 c20
          refine lv_iload hx hb d_M_digest_23 (lv_at hl 4 rfl) ?_
          refine ht_ci HW (va_runS (own := R_M) (As := [.int i]) (rest := []) ⟨hx, hb, hml, hown, htb⟩ (c_M_isNumber l g w i) (va_cwS 1 htb (ht_gs wd_411 wd_412 wd_3 g_M_isNumber) rfl rfl rfl (by decide +kernel) ⟨Nat.le_of_ble_eq_true rfl, Nat.le_of_ble_eq_true rfl⟩) (HW.preS _) rfl rfl hl.1 rfl (lv_room (Nat.le_of_ble_eq_true rfl)) d_M_digest_25 ⟨Nat.le_of_ble_eq_true rfl, Nat.le_of_ble_eq_true rfl⟩) (fun q2 u1 H locs pi HW => ?_)
          obtain ⟨pi, eww⟩ := pi
          subst eww
          rcases ht_isn_or i with hisn | hisn
          · have er := pi.1 hisn
            subst er
            refine W.eq (g2 := F0 _ 28 ls [.int 1]) rfl ?_
            obtain ⟨j, hj, ej⟩ := id hisn
            refine lv_if_ne (tgt := 33) hx hb d_M_digest_28 (by decide) (fun c28 => ?_) (fun c28 => ?_)
            · refine lv_iconst (v := 0) hx hb d_M_digest_33 (by decide) ?_
              refine lv_istore (lv' := [(6, .int 0), (0, .ref (M 0)), (1, .long bs), (3, .int bn), (4, .int tm), (5, .int i)]) hx hb d_M_digest_34 hl (by decide) rfl (fun ls hl => ?_)
              refine lv_iconst (v := 0) hx hb d_M_digest_36 (by decide) ?_
              refine lv_istore (lv' := [(7, .int 0), (6, .int 0), (0, .ref (M 0)), (1, .long bs), (3, .int bn), (4, .int tm), (5, .int i)]) hx hb d_M_digest_37 hl (by decide) rfl (fun ls hl => ?_)
              exact outer n0 t0 j hn0 ht0 hj en0 et0 ej t0 0 (by omega) w If hM ht_fm.rf ht_same.rf (fun x hx9 => absurd hx9 (Nat.not_lt_zero x)) _ _ _ 0 0 rfl rfl HW (lv_sub hl [2, 3, 4, 5, 6, 1, 0] rfl)
            · exact absurd c28 (by decide)
          · have er := pi.2 hisn
            subst er
            refine W.eq (g2 := F0 _ 28 ls [.int 0]) rfl ?_
            refine lv_if_ne (tgt := 33) hx hb d_M_digest_28 (by decide) (fun c28 => ?_) (fun c28 => ?_)
            · exact absurd rfl c28
            · refine lv_lconst (v := 0) hx hb d_M_digest_31 (by decide) ?_
              exact ht_lret hx hb hr hlocks HW ⟨Lf, If, hMR, ht_fm.rf, ⟨rfl, rfl, rfl, rfl⟩, Or.inr ⟨Or.inr (Or.inr hisn), rfl⟩⟩ d_M_digest_32
set_option maxHeartbeats 4000000 in
set_option maxRecDepth 100000 in
theorem c_M_root (l : Launch) (g : ht_G) (w : ht_W) {M : Nat → Nat} {n : Nat → Int32} {Lf : ht_LF} {If : ht_IF} {R : ht_L} {k : ht_K} (hMR : ht_MR g w M n Lf If R k) (i : Int32) : Met l y_M_root ws_M_root ({ frames := 7, cells := 0, slots := 0, locals := 280 } : Room) (va_Pc [.ref (M 0), .int i] (ht_WS g w)) (ht_Ql g (fun r u => ∃ (n2 : Nat → Int32) (Lf2 : ht_LF) (If2 : ht_IF), ht_MR g u M n2 Lf2 If2 R k ∧ ht_fm M w u ∧ ht_pq n n2 Lf Lf2 ∧ ((∃ j, j < 4 ∧ i = nI j ∧ r = ht_kf (ht_h ht_dgf 256 R) j) ∨ (¬ ht_isn i ∧ r = 0)))) 0 0 (ht_A g) := by
  refine Met.ofW (cc := b_M_root) (maxL := 3) (ret := (some .long)) (by decide) rfl ?_
  intro p e s m args below meth c s₁ BB hml hv
  obtain ⟨rfl, HW⟩ := hv
  have HW := ht_I.start HW
  have hx := BB.exec
  have hb := BB.bytes
  have hr := BB.returns
  have hts := atoms_spec (ws := ws_M_root) BB.pre
  have htb : ∀ w ∈ bg, w.before _ s = true := fun w h => hts w (List.mem_cons_of_mem _ h)
  have hown : s.vm.findClass R_M = some m.cls := findClass_of_methodNamed BB.named
  have hlocks := BB.notSynchronized
  have hl := lv_entry ([.ref (M 0), .int i]) (n := 3) (Nat.le_of_ble_eq_true rfl)
  rw [lg_entry_eq]
  generalize (lg_sl ([.ref (M 0), .int i]) ++ List.replicate (3 - (lg_sl ([.ref (M 0), .int i])).length) Slot.unset).toArray = ls at hl ⊢
  have hl : lv_has ls 3 [(0, .ref (M 0)), (1, .int i)] := hl
  obtain ⟨hM, hRL, hsrt, hK, hKp, hrt⟩ := id hMR
  have h512 := hRL.1
  have fin : ∀ (j : Nat), j < 4 → i = nI j → ∀ (u : ht_W) (nu : Nat → Int32) (Lu : ht_LF) (Iu : ht_IF), ht_MR g u M nu Lu Iu R k → ht_fm M w u → ht_pq n nu Lf Lu → ht_row (Lu 7) 0 (ht_h ht_dgf 256 R) → ∀ (H : Heap) (locs : List Loc) (ls : Array Slot), ht_I g s u H locs → lv_has ls 3 [(0, .ref (M 0)), (1, .int i)] → W p l e (headSpec ws_M_root ({ frames := 7, cells := 0, slots := 0, locals := 280 } : Room)).room s m ([.ref (M 0), .int i] : List Value).toArray below meth c H locs 0 0 (MQ below (ht_Ql g (fun r u => ∃ (n2 : Nat → Int32) (Lf2 : ht_LF) (If2 : ht_IF), ht_MR g u M n2 Lf2 If2 R k ∧ ht_fm M w u ∧ ht_pq n n2 Lf Lf2 ∧ ((∃ j, j < 4 ∧ i = nI j ∧ r = ht_kf (ht_h ht_dgf 256 R) j) ∨ (¬ ht_isn i ∧ r = 0)))) ([.ref (M 0), .int i] : List Value).toArray s 0 0 (ht_A g)) (F0 m 67 ls []) := by
    intro j hj ej u nu Lu Iu hMu2 hfm hpk hr7 H locs ls HW hl
    have hMu := hMu2.1
    have hO : ht_at u (M 0) (.inr (4, [.ref (M 1), .ref (M 2), .int (nu 0), .ref (M 3), .ref (M 4), .ref (M 5), .ref (M 6), .int (nu 1), .ref (M 7), .int (nu 2), .ref (M 8), .int (nu 3), .int (nu 4), .ref (M 9), .ref (M 10), .ref (M 11), .ref (M 12), .ref (M 13), .ref (M 14), .ref (M 15), .ref (M 16), .ref (M 17)]) : va_E) := hMu.1
    have h7 : ht_at u (M 7) (ht_al g 4 (Lu 7)) := hMu.L 7 (by decide) rfl
    refine lv_aload_n hx hb d_M_root_67 rfl (lv_at hl 0 rfl) ?_
    refine ht_get (C := R_M) (T := F_M) (N := 22) (v := .ref (M 7)) hx hb htb i_M hown HW hO rfl 8 (by decide) (htb _ wd_319) (fun _ h9 => h9) rfl d_M_root_68 ?_
    refine lv_iload_n hx hb d_M_root_71 rfl (lv_at hl 1 rfl) ?_
    refine ht_lald hx hb HW h7 (by rw [ej]; exact vp_in_nI (by omega) (by omega)) d_M_root_72 ?_
    refine lv_topl (fun vv evv => ?_)
    have evv : vv = (Lu 7) j := by rw [evv, ej, nI_clamp (by omega)]
    have evv : vv = ht_kf (ht_h ht_dgf 256 R) j := by rw [evv, ← hr7 j hj, Nat.zero_add]
    exact ht_lret hx hb hr hlocks HW ⟨nu, Lu, Iu, hMu2, hfm, hpk, Or.inl ⟨j, hj, ej, evv⟩⟩ d_M_root_73
  have loop : ∀ (j : Nat), j < 4 → i = nI j → ∀ (nu : Nat → Int32) (Iu : ht_IF), ht_same [1] n nu → ∀ (r q : Nat), q + r = 4 → ∀ (u : ht_W) (Lu : ht_LF), ht_Mo g u M nu Lu Iu → ht_fm M w u → ht_same [6, 7, 11, 13, 14, 15, 16, 17] Lf Lu → ht_Kp Lu Iu → (R ≠ [] → ht_row (Lu 6) 0 (ht_h ht_dgf 256 R)) → (∀ x, x < q → Lu 7 x = ht_kf (ht_h ht_dgf 256 R) x) → ∀ (H : Heap) (locs : List Loc) (ls : Array Slot) (kv : Int32), kv = nI q → ht_I g s u H locs → lv_has ls 3 [(0, .ref (M 0)), (1, .int i), (2, .int kv)] → W p l e (headSpec ws_M_root ({ frames := 7, cells := 0, slots := 0, locals := 280 } : Room)).room s m ([.ref (M 0), .int i] : List Value).toArray below meth c H locs 0 0 (MQ below (ht_Ql g (fun r u => ∃ (n2 : Nat → Int32) (Lf2 : ht_LF) (If2 : ht_IF), ht_MR g u M n2 Lf2 If2 R k ∧ ht_fm M w u ∧ ht_pq n n2 Lf Lf2 ∧ ((∃ j, j < 4 ∧ i = nI j ∧ r = ht_kf (ht_h ht_dgf 256 R) j) ∨ (¬ ht_isn i ∧ r = 0)))) ([.ref (M 0), .int i] : List Value).toArray s 0 0 (ht_A g)) (F0 m 28 ls []) := by
    intro j hj ej nu Iu hsn r
    induction r with
    | zero =>
      intro q hq u Lu hMu hfm hsL hKu hh6 h7q H locs ls kv ekv HW hl
      have hO : ht_at u (M 0) (.inr (4, [.ref (M 1), .ref (M 2), .int (nu 0), .ref (M 3), .ref (M 4), .ref (M 5), .ref (M 6), .int (nu 1), .ref (M 7), .int (nu 2), .ref (M 8), .int (nu 3), .int (nu 4), .ref (M 9), .ref (M 10), .ref (M 11), .ref (M 12), .ref (M 13), .ref (M 14), .ref (M 15), .ref (M 16), .ref (M 17)]) : va_E) := hMu.1
      have h6 : ht_at u (M 6) (ht_al g 2048 (Lu 6)) := hMu.L 6 (by decide) rfl
      have h7 : ht_at u (M 7) (ht_al g 4 (Lu 7)) := hMu.L 7 (by decide) rfl
      refine lv_iload_n hx hb d_M_root_28 rfl (lv_at hl 2 rfl) ?_
      refine lv_iconst (v := 4) hx hb d_M_root_29 (by decide) ?_
      refine lv_icmp_ge (tgt := 62) hx hb d_M_root_30 (by decide) (fun c30 => ?_) (fun c30 => ?_)
      · refine lv_aload_n hx hb d_M_root_62 rfl (lv_at hl 0 rfl) ?_
        refine lv_iconst (v := 1) hx hb d_M_root_63 (by decide) ?_
        refine ht_put (C := R_M) (T := F_M) (N := 22) (v := .int 1) (ty := .boolean) hx hb htb i_M t_M t_M_ok n_M hown HW hO rfl 9 (by decide) (htb _ wd_320) (fun _ h9 => h9) rfl (by decide +kernel) rfl rfl (Nat.le_of_ble_eq_true rfl) d_M_root_64 (fun H locs HW => ?_)
        have n_M_6_M_0 : (M 6) ≠ (M 0) := (hMu.ne 6 0 (by decide) (by decide) (by decide))
        have n_M_7_M_0 : (M 7) ≠ (M 0) := (hMu.ne 7 0 (by decide) (by decide) (by decide))
        obtain ⟨u1, hu1⟩ : ∃ zW : ht_W, zW = ht_up u (M 0) (.inr (4, [.ref (M 1), .ref (M 2), .int (nu 0), .ref (M 3), .ref (M 4), .ref (M 5), .ref (M 6), .int (nu 1), .ref (M 7), .int 1, .ref (M 8), .int (nu 3), .int (nu 4), .ref (M 9), .ref (M 10), .ref (M 11), .ref (M 12), .ref (M 13), .ref (M 14), .ref (M 15), .ref (M 16), .ref (M 17)]) : va_E) := ⟨_, rfl⟩
        have HW : ht_I g s u1 H locs := by rw [hu1]; exact HW
        have hO : ht_at u1 (M 0) (.inr (4, [.ref (M 1), .ref (M 2), .int (nu 0), .ref (M 3), .ref (M 4), .ref (M 5), .ref (M 6), .int (nu 1), .ref (M 7), .int 1, .ref (M 8), .int (nu 3), .int (nu 4), .ref (M 9), .ref (M 10), .ref (M 11), .ref (M 12), .ref (M 13), .ref (M 14), .ref (M 15), .ref (M 16), .ref (M 17)]) : va_E) := by rw [hu1]; exact ht_at_self hO
        have h6 : ht_at u1 (M 6) (ht_al g 2048 (Lu 6)) := by rw [hu1]; exact ht_at_ne h6 n_M_6_M_0
        have h7 : ht_at u1 (M 7) (ht_al g 4 (Lu 7)) := by rw [hu1]; exact ht_at_ne h7 n_M_7_M_0
        have hr7 : ht_row (Lu 7) 0 (ht_h ht_dgf 256 R) := fun x hx9 => by rw [Nat.zero_add]; exact h7q x (by omega)
        exact fin j hj ej u1 (va_up nu 2 1) Lu Iu ⟨by rw [hu1]; exact hMu.up0 (va_up nu 2 1), hRL.cg (by rw [va_up_ne _ _ (by decide)]; exact hsn 0 (by decide)) (hsL 1 (by decide)) (hsL 2 (by decide)), hsrt, by rw [hsL 3 (by decide)]; exact hK, hKu, Or.inr ⟨va_up_self _ _ _, hr7⟩⟩ (by rw [hu1]; exact hfm.up 0 (by decide)) ⟨by rw [va_up_ne _ _ (by decide)]; exact hsn 3 (by decide), by rw [va_up_ne _ _ (by decide)]; exact hsn 4 (by decide), hsL 8 (by decide), hsL 9 (by decide)⟩ hr7 _ _ _ HW (lv_sub hl [0, 1] rfl)
      · exact absurd (nI_le (show 4 ≤ q by omega) (by omega)) (by rw [ekv] at c30; exact c30)
    | succ r ih =>
      intro q hq u Lu hMu hfm hsL hKu hh6 h7q H locs ls kv ekv HW hl
      have hO : ht_at u (M 0) (.inr (4, [.ref (M 1), .ref (M 2), .int (nu 0), .ref (M 3), .ref (M 4), .ref (M 5), .ref (M 6), .int (nu 1), .ref (M 7), .int (nu 2), .ref (M 8), .int (nu 3), .int (nu 4), .ref (M 9), .ref (M 10), .ref (M 11), .ref (M 12), .ref (M 13), .ref (M 14), .ref (M 15), .ref (M 16), .ref (M 17)]) : va_E) := hMu.1
      have h6 : ht_at u (M 6) (ht_al g 2048 (Lu 6)) := hMu.L 6 (by decide) rfl
      have h7 : ht_at u (M 7) (ht_al g 4 (Lu 7)) := hMu.L 7 (by decide) rfl
      refine lv_iload_n hx hb d_M_root_28 rfl (lv_at hl 2 rfl) ?_
      refine lv_iconst (v := 4) hx hb d_M_root_29 (by decide) ?_
      refine lv_icmp_ge (tgt := 62) hx hb d_M_root_30 (by decide) (fun c30 => ?_) (fun c30 => ?_)
      · exact absurd (show nI 4 ≤ nI q by rw [ekv] at c30; exact c30) (nI_ge (by omega) (by omega))
      · refine lv_aload_n hx hb d_M_root_33 rfl (lv_at hl 0 rfl) ?_
        refine ht_get (C := R_M) (T := F_M) (N := 22) (v := .ref (M 7)) hx hb htb i_M hown HW hO rfl 8 (by decide) (htb _ wd_319) (fun _ h9 => h9) rfl d_M_root_34 ?_
        refine lv_iload_n hx hb d_M_root_37 rfl (lv_at hl 2 rfl) ?_
        refine lv_aload_n hx hb d_M_root_38 rfl (lv_at hl 0 rfl) ?_
        refine ht_get (C := R_M) (T := F_M) (N := 22) (v := .int (nu 0)) hx hb htb i_M hown HW hO rfl 2 (by decide) (htb _ wd_313) (fun _ h9 => h9) rfl d_M_root_39 ?_
        refine lv_if_ne (tgt := 49) hx hb d_M_root_42 (by decide) (fun c42 => ?_) (fun c42 => ?_)
        · have hne : R ≠ [] := fun z9 => c42 (by rw [hsn 0 (by decide), hRL.2.1, z9]; rfl)
          have hr6 := hh6 hne
          refine lv_aload_n hx hb d_M_root_49 rfl (lv_at hl 0 rfl) ?_
          refine ht_get (C := R_M) (T := F_M) (N := 22) (v := .ref (M 6)) hx hb htb i_M hown HW hO rfl 6 (by decide) (htb _ wd_317) (fun _ h9 => h9) rfl d_M_root_50 ?_
          refine lv_iload_n hx hb d_M_root_53 rfl (lv_at hl 2 rfl) ?_
          refine ht_lald hx hb HW h6 (by rw [ekv]; exact vp_in_nI (by omega) (by omega)) d_M_root_54 ?_
          refine lv_topl (fun hv ehv => ?_)
          have ehv : hv = (Lu 6) q := by rw [ehv, ekv, nI_clamp (by omega)]
          have ehv : hv = ht_kf (ht_h ht_dgf 256 R) q := by rw [ehv, ← hr6 q (by omega), Nat.zero_add]
          refine ht_last hx hb HW h7 (by rw [ekv]; exact vp_in_nI (by omega) (by omega)) d_M_root_55 (fun H locs HW => ?_)
          rw [ekv, nI_clamp (by omega)] at HW
          have n_M_0_M_7 : (M 0) ≠ (M 7) := (hMu.ne 0 7 (by decide) (by decide) (by decide))
          have n_M_6_M_7 : (M 6) ≠ (M 7) := (hMu.ne 6 7 (by decide) (by decide) (by decide))
          obtain ⟨u1, hu1⟩ : ∃ zW : ht_W, zW = ht_up u (M 7) (ht_al g 4 (vp_updL (Lu 7) q hv)) := ⟨_, rfl⟩
          have HW : ht_I g s u1 H locs := by rw [hu1]; exact HW
          have hO : ht_at u1 (M 0) (.inr (4, [.ref (M 1), .ref (M 2), .int (nu 0), .ref (M 3), .ref (M 4), .ref (M 5), .ref (M 6), .int (nu 1), .ref (M 7), .int (nu 2), .ref (M 8), .int (nu 3), .int (nu 4), .ref (M 9), .ref (M 10), .ref (M 11), .ref (M 12), .ref (M 13), .ref (M 14), .ref (M 15), .ref (M 16), .ref (M 17)]) : va_E) := by rw [hu1]; exact ht_at_ne hO n_M_0_M_7
          have h6 : ht_at u1 (M 6) (ht_al g 2048 (Lu 6)) := by rw [hu1]; exact ht_at_ne h6 n_M_6_M_7
          have h7 : ht_at u1 (M 7) (ht_al g 4 (vp_updL (Lu 7) q hv)) := by rw [hu1]; exact ht_at_self h7
          obtain ⟨kv2, ekv2⟩ : ∃ zI : Int32, zI = kv + 1 := ⟨_, rfl⟩
          refine lv_iinc (v := kv2) (lv' := [(2, .int kv2), (0, .ref (M 0)), (1, .int i)]) hx hb d_M_root_56 hl (k := 2) rfl (by rw [ekv2]; rfl) (by decide) rfl (fun ls hl => ?_)
          refine lv_goto (tgt := 28) hx hb d_M_root_59 (by decide) ?_
          refine ih (q + 1) (by omega) u1 _ (by rw [hu1]; exact hMu.upL 7 (by decide) rfl _) (by rw [hu1]; exact hfm.up 7 (by decide)) (hsL.up (by decide)) (hKu.cg (va_up_ne _ _ (by decide)) (va_up_ne _ _ (by decide)) rfl) (by rw [va_up_ne _ _ (by decide)]; exact hh6) (fun x hx9 => ?_) _ _ _ kv2 (by rw [ekv2, ekv, nI_1]) HW (lv_sub hl [1, 2, 0] rfl)
          rw [va_up_self]
          by_cases e : x = q
          · rw [e, pk_uLs]; exact ehv
          · rw [pk_uLn e]; exact h7q x (by omega)
        · have hnil : R = [] := by
            have h9 : nI R.length = nI 0 := by rw [← hRL.2.1, ← hsn 0 (by decide)]; exact c42
            exact List.length_eq_zero_iff.mp ((nI_eq (by omega) (by omega)).mp h9)
          refine lv_lconst (v := 0) hx hb d_M_root_45 (by decide) ?_
          refine lv_goto (tgt := 55) hx hb d_M_root_46 (by decide) ?_
          have ehv : (0 : Int64) = ht_kf (ht_h ht_dgf 256 R) q := by rw [hnil, ht_h_nil]; exact (ht_kz0 q).symm
          refine ht_last hx hb HW h7 (by rw [ekv]; exact vp_in_nI (by omega) (by omega)) d_M_root_55 (fun H locs HW => ?_)
          rw [ekv, nI_clamp (by omega)] at HW
          have n_M_0_M_7 : (M 0) ≠ (M 7) := (hMu.ne 0 7 (by decide) (by decide) (by decide))
          have n_M_6_M_7 : (M 6) ≠ (M 7) := (hMu.ne 6 7 (by decide) (by decide) (by decide))
          obtain ⟨u2, hu2⟩ : ∃ zW : ht_W, zW = ht_up u (M 7) (ht_al g 4 (vp_updL (Lu 7) q (0 : Int64))) := ⟨_, rfl⟩
          have HW : ht_I g s u2 H locs := by rw [hu2]; exact HW
          have hO : ht_at u2 (M 0) (.inr (4, [.ref (M 1), .ref (M 2), .int (nu 0), .ref (M 3), .ref (M 4), .ref (M 5), .ref (M 6), .int (nu 1), .ref (M 7), .int (nu 2), .ref (M 8), .int (nu 3), .int (nu 4), .ref (M 9), .ref (M 10), .ref (M 11), .ref (M 12), .ref (M 13), .ref (M 14), .ref (M 15), .ref (M 16), .ref (M 17)]) : va_E) := by rw [hu2]; exact ht_at_ne hO n_M_0_M_7
          have h6 : ht_at u2 (M 6) (ht_al g 2048 (Lu 6)) := by rw [hu2]; exact ht_at_ne h6 n_M_6_M_7
          have h7 : ht_at u2 (M 7) (ht_al g 4 (vp_updL (Lu 7) q (0 : Int64))) := by rw [hu2]; exact ht_at_self h7
          obtain ⟨kv2, ekv2⟩ : ∃ zI : Int32, zI = kv + 1 := ⟨_, rfl⟩
          refine lv_iinc (v := kv2) (lv' := [(2, .int kv2), (0, .ref (M 0)), (1, .int i)]) hx hb d_M_root_56 hl (k := 2) rfl (by rw [ekv2]; rfl) (by decide) rfl (fun ls hl => ?_)
          refine lv_goto (tgt := 28) hx hb d_M_root_59 (by decide) ?_
          refine ih (q + 1) (by omega) u2 _ (by rw [hu2]; exact hMu.upL 7 (by decide) rfl _) (by rw [hu2]; exact hfm.up 7 (by decide)) (hsL.up (by decide)) (hKu.cg (va_up_ne _ _ (by decide)) (va_up_ne _ _ (by decide)) rfl) (by rw [va_up_ne _ _ (by decide)]; exact hh6) (fun x hx9 => ?_) _ _ _ kv2 (by rw [ekv2, ekv, nI_1]) HW (lv_sub hl [1, 2, 0] rfl)
          rw [va_up_self]
          by_cases e : x = q
          · rw [e, pk_uLs]; exact ehv
          · rw [pk_uLn e]; exact h7q x (by omega)
  have hO : ht_at w (M 0) (.inr (4, [.ref (M 1), .ref (M 2), .int (n 0), .ref (M 3), .ref (M 4), .ref (M 5), .ref (M 6), .int (n 1), .ref (M 7), .int (n 2), .ref (M 8), .int (n 3), .int (n 4), .ref (M 9), .ref (M 10), .ref (M 11), .ref (M 12), .ref (M 13), .ref (M 14), .ref (M 15), .ref (M 16), .ref (M 17)]) : va_E) := hM.1
  refine lv_iload_n hx hb d_M_root_0 rfl (lv_at hl 1 rfl) ?_
  refine ht_ci HW (va_runS (own := R_M) (As := [.int i]) (rest := []) ⟨hx, hb, hml, hown, htb⟩ (c_M_isNumber l g w i) (va_cwS 1 htb (ht_gs wd_411 wd_412 wd_3 g_M_isNumber) rfl rfl rfl (by decide +kernel) ⟨Nat.le_of_ble_eq_true rfl, Nat.le_of_ble_eq_true rfl⟩) (HW.preS _) rfl rfl hl.1 rfl (lv_room (Nat.le_of_ble_eq_true rfl)) d_M_root_1 ⟨Nat.le_of_ble_eq_true rfl, Nat.le_of_ble_eq_true rfl⟩) (fun q2 u1 H locs pi HW => ?_)
  obtain ⟨pi, eww⟩ := pi
  subst eww
  rcases ht_isn_or i with hisn | hisn
  · have er := pi.1 hisn
    subst er
    refine W.eq (g2 := F0 _ 4 ls [.int 1]) rfl ?_
    obtain ⟨j, hj, ej⟩ := id hisn
    refine lv_if_ne (tgt := 9) hx hb d_M_root_4 (by decide) (fun c4 => ?_) (fun c4 => ?_)
    · refine lv_aload_n hx hb d_M_root_9 rfl (lv_at hl 0 rfl) ?_
      refine ht_get (C := R_M) (T := F_M) (N := 22) (v := .int (n 2)) hx hb htb i_M hown HW hO rfl 9 (by decide) (htb _ wd_320) (fun _ h9 => h9) rfl d_M_root_10 ?_
      rcases id hrt with ert | ⟨ert, hr7⟩
      · rw [ert]
        refine lv_if_ne (tgt := 67) hx hb d_M_root_13 (by decide) (fun c13 => ?_) (fun c13 => ?_)
        · exact absurd rfl c13
        · refine lv_aload_n hx hb d_M_root_16 rfl (lv_at hl 0 rfl) ?_
          refine lv_iconst (v := 0) hx hb d_M_root_17 (by decide) ?_
          refine lv_aload_n hx hb d_M_root_18 rfl (lv_at hl 0 rfl) ?_
          refine ht_get (C := R_M) (T := F_M) (N := 22) (v := .int (n 0)) hx hb htb i_M hown HW hO rfl 2 (by decide) (htb _ wd_313) (fun _ h9 => h9) rfl d_M_root_19 ?_
          refine lv_iconst (v := 0) hx hb d_M_root_22 (by decide) ?_
          refine ht_cv HW (va_runV (own := R_M) (C := R_M) (As := [.int 0, .int (n 0), .int 0]) (rest := []) ⟨hx, hb, hml, hown, htb⟩ (c_M_hash l g w hM hKp hRL 0 R.length 0 (Nat.zero_le _) (Nat.le_refl _) (by decide) hsrt (fun x q hq => by rw [Nat.zero_add]; exact hq) rfl 0 (n 0) 0 rfl hRL.2.1 rfl) (cwV 3 htb (ht_gv wd_422 wd_424 sl_13 wd_3 g_M_hash) rfl rfl rfl (by decide +kernel) ⟨Nat.le_of_ble_eq_true rfl, Nat.le_of_ble_eq_true rfl⟩) (HW.preV hO rfl _) rfl rfl hl.1 rfl (lv_room (Nat.le_of_ble_eq_true rfl)) d_M_root_23 ⟨Nat.le_of_ble_eq_true rfl, Nat.le_of_ble_eq_true rfl⟩) (fun u3 H locs ph HW => ?_)
          obtain ⟨n2, L2, I2, hM2, hfm2, hsn2, hs2L, hs2I, hK2, h62⟩ := ph
          refine lv_iconst (v := 0) hx hb d_M_root_26 (by decide) ?_
          refine lv_istore_n (lv' := [(2, .int 0), (0, .ref (M 0)), (1, .int i)]) hx hb d_M_root_27 rfl hl (by decide) rfl (fun ls hl => ?_)
          exact loop j hj ej n2 I2 hsn2 4 0 rfl u3 L2 hM2 hfm2 (hs2L.mono (by decide)) hK2 (fun h9 => h62 h9 (fun _ _ _ _ => fun x hx9 => absurd hx9 (Nat.not_lt_zero x))) (fun x hx9 => absurd hx9 (Nat.not_lt_zero x)) _ _ _ 0 rfl HW (lv_sub hl [1, 2, 0] rfl)
      · rw [ert]
        refine lv_if_ne (tgt := 67) hx hb d_M_root_13 (by decide) (fun c13 => ?_) (fun c13 => ?_)
        · exact fin j hj ej w n Lf If hMR ht_fm.rf ⟨rfl, rfl, rfl, rfl⟩ hr7 _ _ _ HW (lv_sub hl [0, 1] rfl)
        · exact absurd c13 (by decide)
    · exact absurd c4 (by decide)
  · have er := pi.2 hisn
    subst er
    refine W.eq (g2 := F0 _ 4 ls [.int 0]) rfl ?_
    refine lv_if_ne (tgt := 9) hx hb d_M_root_4 (by decide) (fun c4 => ?_) (fun c4 => ?_)
    · exact absurd rfl c4
    · refine lv_lconst (v := 0) hx hb d_M_root_7 (by decide) ?_
      exact ht_lret hx hb hr hlocks HW ⟨n, Lf, If, hMR, ht_fm.rf, ⟨rfl, rfl, rfl, rfl⟩, Or.inr ⟨hisn, rfl⟩⟩ d_M_root_8
