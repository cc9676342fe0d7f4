def ht_rg (R : ht_L) (fr tt : Nat) (U : ht_L) : Prop := ∃ A B : ht_L, R = A ++ (U ++ B) ∧ A.length = fr ∧ fr + U.length = tt
theorem ht_rg.sub {R : ht_L} {fr tt : Nat} {U : ht_L} (h : ht_rg R fr tt U) : ht_sub R fr U := by
  obtain ⟨A, B, e, h1, h2⟩ := h
  intro j q hq
  rw [e, List.getElem?_append_right (by omega), show fr + j - A.length = j by omega, List.getElem?_append_left (ht_gn hq)]
  exact hq
theorem ht_rg.le {R : ht_L} {fr tt : Nat} {U : ht_L} (h : ht_rg R fr tt U) : fr ≤ tt ∧ tt ≤ R.length ∧ U.length = tt - fr := by
  obtain ⟨A, B, e, h1, h2⟩ := h
  rw [e, List.length_append, List.length_append]
  omega
theorem ht_rg.take {R : ht_L} {fr tt j : Nat} {U : ht_L} (h : ht_rg R fr tt U) (hj : j ≤ U.length) : ht_rg R fr (fr + j) (U.take j) := by
  obtain ⟨A, B, e, h1, h2⟩ := h
  refine ⟨A, U.drop j ++ B, ?_, h1, by rw [List.length_take]; omega⟩
  rw [← List.append_assoc (U.take j), List.take_append_drop]
  exact e
theorem ht_rg.drop {R : ht_L} {fr tt j : Nat} {U : ht_L} (h : ht_rg R fr tt U) (hj : j ≤ U.length) : ht_rg R (fr + j) tt (U.drop j) := by
  obtain ⟨A, B, e, h1, h2⟩ := h
  refine ⟨A ++ U.take j, B, ?_, by rw [List.length_append, List.length_take]; omega, by rw [List.length_drop]; omega⟩
  rw [List.append_assoc, ← List.append_assoc (U.take j), List.take_append_drop]
  exact e
theorem ht_mid {U : ht_L} {k : ht_K} {d j : Nat} (hd : d ≤ 256) (hU : ∀ q ∈ U, d ≤ ht_part k q.1) (hs : ht_srt U) (h0 : ∀ i q, i < j → U[i]? = some q → ht_bit q.1 d = false) (h1 : ∀ q, U[j]? = some q → ht_bit q.1 d = true) : (∀ q ∈ U.take j, ht_bit q.1 d = false) ∧ (∀ q ∈ U.drop j, ht_bit q.1 d = true) := by
  refine ⟨fun q hq => ?_, fun q hq => ?_⟩
  · obtain ⟨i, hi⟩ := List.mem_iff_getElem?.mp hq
    have hij : i < j := by
      have := ht_gn hi
      rw [List.length_take] at this
      omega
    rw [List.getElem?_take_of_lt hij] at hi
    exact h0 i q hij hi
  · obtain ⟨i, hi⟩ := List.mem_iff_getElem?.mp hq
    rw [List.getElem?_drop] at hi
    rcases Nat.eq_zero_or_pos i with e | e
    · rw [e, Nat.add_zero] at hi
      exact h1 q hi
    · obtain ⟨a, ha⟩ := ht_gl (l := U) (p := j) (by have := ht_gn hi; omega)
      have hlt := hs.lt ha hi (by omega)
      have hag : ht_ag a.1 q.1 d := ht_ag_trans (ht_ag_symm (ht_ag_le (ht_part_ag k a.1) (hU a (List.mem_of_getElem? ha)))) (ht_ag_le (ht_part_ag k q.1) (hU q (List.mem_of_getElem? hi)))
      have hdp := (ht_ag_part hd).mp hag
      rcases Nat.lt_or_eq_of_le hdp with z | z
      · rw [← ht_part_ag a.1 q.1 d z]
        exact h1 a ha
      · rw [z]
        exact hlt.bit
theorem ht_bpart {k q : ht_K} {d : Nat} (h : d ≤ ht_part k q) (hd : d < 256) : ht_part k q = d ↔ ht_bit q d ≠ ht_bit k d := by
  refine ⟨fun e => ?_, fun e => ?_⟩
  · have := ht_part_ne (k := k) (k' := q) (by omega)
    rw [e] at this
    exact fun z => this z.symm
  · refine Nat.le_antisymm (Nat.not_lt.mp (fun z => ?_)) h
    exact e (ht_part_ag k q d z).symm
theorem ht_Vk_f {R : ht_L} {k : ht_K} {d : Nat} (hd : d < 256) : ht_Vk R k d = (ht_Uk R k d).filter (fun q => decide (ht_bit q.1 d ≠ ht_bit k d)) := by
  unfold ht_Vk ht_Uk
  rw [List.filter_filter]
  refine ht_filter_cg (fun q hq => ?_)
  rw [Bool.and_eq_true, decide_eq_true_iff, decide_eq_true_iff, decide_eq_true_iff]
  exact ⟨fun e => ⟨(ht_bpart (by omega) hd).mp e, by omega⟩, fun e => (ht_bpart e.2 hd).mpr e.1⟩
theorem ht_Uk_f {R : ht_L} {k : ht_K} {d : Nat} (hd : d < 256) : ht_Uk R k (d + 1) = (ht_Uk R k d).filter (fun q => decide (ht_bit q.1 d = ht_bit k d)) := by
  unfold ht_Uk
  rw [List.filter_filter]
  refine ht_filter_cg (fun q hq => ?_)
  rw [Bool.and_eq_true, decide_eq_true_iff, decide_eq_true_iff, decide_eq_true_iff]
  refine ⟨fun e => ⟨(ht_part_ag k q.1 d (by omega)).symm, by omega⟩, fun e => ?_⟩
  rcases Nat.lt_or_eq_of_le e.2 with z | z
  · exact z
  · exact absurd e.1 ((ht_bpart e.2 hd).mp z.symm)
theorem ht_fil2 {U : ht_L} {j : Nat} {f : ht_K × ht_K → Bool} : U.filter f = (U.take j).filter f ++ (U.drop j).filter f := by
  rw [← List.filter_append, List.take_append_drop]
theorem ht_filL {U : ht_L} {j : Nat} {f : ht_K × ht_K → Bool} (h0 : ∀ q ∈ U.take j, f q = true) (h1 : ∀ q ∈ U.drop j, ¬ f q = true) : U.filter f = U.take j := by
  rw [ht_fil2 (j := j), List.filter_eq_self.mpr h0, List.filter_eq_nil_iff.mpr h1, List.append_nil]
theorem ht_filR {U : ht_L} {j : Nat} {f : ht_K × ht_K → Bool} (h0 : ∀ q ∈ U.take j, ¬ f q = true) (h1 : ∀ q ∈ U.drop j, f q = true) : U.filter f = U.drop j := by
  rw [ht_fil2 (j := j), List.filter_eq_nil_iff.mpr h0, List.filter_eq_self.mpr h1, List.nil_append]
theorem ht_mid2 {R U : ht_L} {k : ht_K} {d j : Nat} (e : U = ht_Uk R k d) (hd : d < 256) (h0 : ∀ q ∈ U.take j, ht_bit q.1 d = false) (h1 : ∀ q ∈ U.drop j, ht_bit q.1 d = true) : (ht_bit k d = true → ht_Vk R k d = U.take j ∧ ht_Uk R k (d + 1) = U.drop j) ∧ (ht_bit k d = false → ht_Vk R k d = U.drop j ∧ ht_Uk R k (d + 1) = U.take j) := by
  rw [ht_Vk_f hd, ht_Uk_f hd, ← e]
  refine ⟨fun hb => ⟨ht_filL (fun q hq => decide_eq_true ?_) (fun q hq z => ?_), ht_filR (fun q hq z => ?_) (fun q hq => decide_eq_true ?_)⟩, fun hb => ⟨ht_filR (fun q hq z => ?_) (fun q hq => decide_eq_true ?_), ht_filL (fun q hq => decide_eq_true ?_) (fun q hq z => ?_)⟩⟩
  · rw [h0 q hq, hb]; decide
  · exact of_decide_eq_true z (by rw [h1 q hq, hb])
  · have := of_decide_eq_true z
    rw [h0 q hq, hb] at this
    cases this
  · rw [h1 q hq, hb]
  · exact of_decide_eq_true z (by rw [h0 q hq, hb])
  · rw [h1 q hq, hb]; decide
  · rw [h0 q hq, hb]
  · have := of_decide_eq_true z
    rw [h1 q hq, hb] at this
    cases this
theorem ht_Vk_ag {R : ht_L} {k : ht_K} {d : Nat} (hd : d < 256) : ∀ q ∈ ht_Vk R k d, ∀ q2 ∈ ht_Vk R k d, ht_ag q.1 q2.1 (d + 1) := by
  intro q hq q2 hq2
  have h1 := of_decide_eq_true (List.mem_filter.mp hq).2
  have h2 := of_decide_eq_true (List.mem_filter.mp hq2).2
  have b1 := (ht_bpart (Nat.le_of_eq h1.symm) hd).mp h1
  have b2 := (ht_bpart (Nat.le_of_eq h2.symm) hd).mp h2
  refine ht_ag_s (ht_ag_trans (ht_ag_symm (ht_ag_le (ht_part_ag k q.1) (Nat.le_of_eq h1.symm))) (ht_ag_le (ht_part_ag k q2.1) (Nat.le_of_eq h2.symm))) ?_
  exact (ht_bb (Ne.symm b1)).trans (ht_bb (Ne.symm b2)).symm
theorem ht_Uk_srt {R : ht_L} (h : ht_srt R) (k : ht_K) (d : Nat) : ht_srt (ht_Uk R k d) := List.Pairwise.sublist List.filter_sublist h
theorem ht_Uk_ge {R : ht_L} {k : ht_K} {d : Nat} : ∀ q ∈ ht_Uk R k d, d ≤ ht_part k q.1 := fun q hq => of_decide_eq_true (List.mem_filter.mp hq).2
theorem ht_Uk_lt {R : ht_L} {k : ht_K} {d : Nat} (hs : ht_srt R) (hd : d ≤ 256) (h : 2 ≤ (ht_Uk R k d).length) : d < 256 := by
  refine Nat.lt_of_le_of_ne hd (fun e => ?_)
  obtain ⟨a, ha⟩ := ht_gl (l := ht_Uk R k d) (p := 0) (by omega)
  obtain ⟨b, hb⟩ := ht_gl (l := ht_Uk R k d) (p := 1) (by omega)
  have h1 := ht_Uk_ge a (List.mem_of_getElem? ha)
  have h2 := ht_Uk_ge b (List.mem_of_getElem? hb)
  have h3 := ht_part_le k a.1
  have h4 := ht_part_le k b.1
  have e1 := ht_part_eq.mp (show ht_part k a.1 = 256 by omega)
  have e2 := ht_part_eq.mp (show ht_part k b.1 = 256 by omega)
  exact ((ht_Uk_srt hs k d).lt ha hb Nat.zero_lt_one).ne (e1.symm.trans e2)
theorem ht_Uk_0 {R : ht_L} {k : ht_K} : ht_Uk R k 0 = R := List.filter_eq_self.mpr (fun q _ => decide_eq_true (Nat.zero_le _))
/-- the reference on its way to THE PROOF -/
def ht_pm (g : ht_G) (w : ht_W) (M : Nat → Nat) (n : Nat → Int32) (Lf : ht_LF) (R : ht_L) (k : ht_K) (u : ht_W) (nu : Nat → Int32) (Lu : ht_LF) (Iu : ht_IF) (d fr tt : Nat) : Prop := ht_Mo g u M nu Lu Iu ∧ ht_fm M w u ∧ ht_same [1, 3, 4] n nu ∧ nu 3 = nI d ∧ ht_same [6, 8, 9, 11, 13, 14, 15, 16, 17] Lf Lu ∧ ht_Kp Lu Iu ∧ (∀ j i, j < d → i < 4 → Lu 8 (4 * j + i) = ht_kf (ht_h ht_dgf (255 - j) (ht_Vk R k j)) i) ∧ (∀ j, j < d → 2 ≤ (ht_Uk R k j).length) ∧ ht_rg R fr tt (ht_Uk R k d) ∧ d ≤ 256
theorem ht_pm.up {g : ht_G} {w : ht_W} {M : Nat → Nat} {n : Nat → Int32} {Lf : ht_LF} {R : ht_L} {k : ht_K} {u u2 : ht_W} {nu nu2 : Nat → Int32} {Lu Lu2 : ht_LF} {Iu Iu2 : ht_IF} {d fr tt : Nat} (h : ht_pm g w M n Lf R k u nu Lu Iu d fr tt) (hM2 : ht_Mo g u2 M nu2 Lu2 Iu2) (hf : ht_fm M u u2) (hn : ht_same [1, 4] nu nu2) (hL : ht_same [6, 9, 11, 13, 14, 15, 16, 17] Lu Lu2) (hK2 : ht_Kp Lu2 Iu2) : ht_pm g w M n Lf R k u2 nu2 Lu2 Iu2 d fr tt := by
  obtain ⟨a1, a2, a3, a4, a5, a6, a7, a8, a9, a10⟩ := h
  exact ⟨hM2, a2.trans hf, a3.trans (hn.mono (by decide)), by rw [hn 3 (by decide)]; exact a4, a5.trans (hL.mono (by decide)), hK2, fun j i hj hi => by rw [hL 8 (by decide)]; exact a7 j i hj hi, a8, a9, a10⟩
theorem ht_pm.step {g : ht_G} {w : ht_W} {M : Nat → Nat} {n : Nat → Int32} {Lf : ht_LF} {R : ht_L} {k : ht_K} {u u2 : ht_W} {nu : Nat → Int32} {Lu Lu2 : ht_LF} {Iu : ht_IF} {d fr tt fr2 tt2 : Nat} (h : ht_pm g w M n Lf R k u nu Lu Iu d fr tt) (hd : d < 256) (h2 : 2 ≤ (ht_Uk R k d).length) (hrg : ht_rg R fr2 tt2 (ht_Uk R k (d + 1))) (hM2 : ht_Mo g u2 M (va_up nu 3 (nu 3 + 1)) Lu2 Iu) (hf : ht_fm M u u2) (hL : ht_same [8] Lu Lu2) (h8 : ∀ x, x < 4 → Lu2 8 (4 * d + x) = ht_kf (ht_h ht_dgf (255 - d) (ht_Vk R k d)) x) (h8b : ∀ x, x < 4 * d → Lu2 8 x = Lu 8 x) : ht_pm g w M n Lf R k u2 (va_up nu 3 (nu 3 + 1)) Lu2 Iu (d + 1) fr2 tt2 := by
  obtain ⟨a1, a2, a3, a4, a5, a6, a7, a8, a9, a10⟩ := h
  refine ⟨hM2, a2.trans hf, a3.up (by decide), by rw [va_up_self, a4, nI_1], a5.trans (hL.mono (by decide)), a6.cg (hL 13 (by decide)) (hL 14 (by decide)) rfl, fun j i hj hi => ?_, fun j hj => ?_, hrg, hd⟩
  · by_cases e : j = d
    · rw [e]; exact h8 i hi
    · rw [h8b _ (by omega)]
      exact a7 j i (by omega) hi
  · by_cases e : j = d
    · rw [e]; exact h2
    · exact a8 j (by omega)
theorem ht_pm.MR {g : ht_G} {w : ht_W} {M : Nat → Nat} {n : Nat → Int32} {Lf : ht_LF} {If : ht_IF} {R : ht_L} {k : ht_K} {u : ht_W} {nu : Nat → Int32} {Lu : ht_LF} {Iu : ht_IF} {d fr tt : Nat} (hMR : ht_MR g w M n Lf If R k) (h : ht_pm g w M n Lf R k u nu Lu Iu d fr tt) : ht_MR g u M nu Lu Iu R k := by
  obtain ⟨a1, a2, a3, a4, a5, a6, a7, a8, a9, a10⟩ := h
  exact hMR.same a1 (a3 0 (by decide)) (a3 2 (by decide)) (a5 1 (by decide)) (a5 2 (by decide)) (a5 3 (by decide)) (a5 7 (by decide)) a6
set_option maxHeartbeats 4000000 in
set_option maxRecDepth 100000 in
theorem c_M_prove (l : Launch) (g : ht_G) (w : ht_W) {M : Nat → Nat} {n : Nat → Int32} {Lf : ht_LF} {If : ht_IF} {R : ht_L} {k : ht_K} (hMR : ht_MR g w M n Lf If R k) : Met l y_M_prove ws_M_prove ({ frames := 7, cells := 0, slots := 0, locals := 280 } : Room) (va_Pc [.ref (M 0)] (ht_WS g w)) (ht_Qi g (fun r u => ∃ (n2 : Nat → Int32) (Lf2 : ht_LF) (If2 : ht_IF) (D : Nat), ht_MR g u M n2 Lf2 If2 R k ∧ ht_fm M w u ∧ r = nI D ∧ n2 3 = nI D ∧ D ≤ 256 ∧ (∀ j, j < D → 2 ≤ (ht_Uk R k j).length) ∧ (∀ j i, j < D → i < 4 → Lf2 8 (4 * j + i) = ht_kf (ht_h ht_dgf (255 - j) (ht_Vk R k j)) i) ∧ ht_ens R k D (Lf2 9) (n2 4))) 0 0 (ht_A g) := by
  refine Met.ofW (cc := b_M_prove) (maxL := 8) (ret := (some .int)) (by decide) rfl ?_
  intro p e s m args below meth c s₁ BB hml hv
  obtain ⟨rfl, HW⟩ := hv
  have HW := ht_I.start HW
  have hx := BB.exec
  have hb := BB.bytes
  have hr := BB.returns
  have hts := atoms_spec (ws := ws_M_prove) BB.pre
  have htb : ∀ w ∈ bg, w.before _ s = true := fun w h => hts w (List.mem_cons_of_mem _ h)
  have hown : s.vm.findClass R_M = some m.cls := findClass_of_methodNamed BB.named
  have hlocks := BB.notSynchronized
  have hl := lv_entry ([.ref (M 0)]) (n := 8) (Nat.le_of_ble_eq_true rfl)
  rw [lg_entry_eq]
  generalize (lg_sl ([.ref (M 0)]) ++ List.replicate (8 - (lg_sl ([.ref (M 0)])).length) Slot.unset).toArray = ls at hl ⊢
  have hl : lv_has ls 8 [(0, .ref (M 0))] := hl
  obtain ⟨hM, hRL, hsrt, hK, hKp, hrt⟩ := id hMR
  have h512 := hRL.1
  have endl : ∀ (d fr tt : Nat) (fv tv : Int32), fv = nI fr → tv = nI tt → ∀ (ke ve : ht_K) (nu : Nat → Int32) (Iu : ht_IF), ((fv = tv ∧ ke = ht_kz ∧ ve = ht_kz) ∨ (fv ≠ tv ∧ R[fr]? = some (ke, ve))) → ((ht_Uk R k d = [] ∧ nu 4 = 0 ∧ ke = ht_kz ∧ ve = ht_kz) ∨ (ht_Uk R k d = [(ke, ve)] ∧ ((ke = k ∧ nu 4 = 1) ∨ (ke ≠ k ∧ nu 4 = 2)))) → ∀ (r q : Nat), q + r = 4 → ∀ (u : ht_W) (Lu : ht_LF), ht_pm g w M n Lf R k u nu Lu Iu d fr tt → (∀ x, x < q → Lu 9 x = ht_kf ke x ∧ Lu 9 (4 + x) = ht_kf ve x) → ∀ (H : Heap) (locs : List Loc) (ls : Array Slot) (kv : Int32), kv = nI q → ht_I g s u H locs → lv_has ls 8 [(0, .ref (M 0)), (1, .int fv), (2, .int tv), (3, .int kv)] → W p l e (headSpec ws_M_prove ({ frames := 7, cells := 0, slots := 0, locals := 280 } : Room)).room s m ([.ref (M 0)] : List Value).toArray below meth c H locs 0 0 (MQ below (ht_Qi g (fun r u => ∃ (n2 : Nat → Int32) (Lf2 : ht_LF) (If2 : ht_IF) (D : Nat), ht_MR g u M n2 Lf2 If2 R k ∧ ht_fm M w u ∧ r = nI D ∧ n2 3 = nI D ∧ D ≤ 256 ∧ (∀ j, j < D → 2 ≤ (ht_Uk R k j).length) ∧ (∀ j i, j < D → i < 4 → Lf2 8 (4 * j + i) = ht_kf (ht_h ht_dgf (255 - j) (ht_Vk R k j)) i) ∧ ht_ens R k D (Lf2 9) (n2 4))) ([.ref (M 0)] : List Value).toArray s 0 0 (ht_A g)) (F0 m 220 ls []) := by
    intro d fr tt fv tv efv etv ke ve nu Iu hcase hens r
    induction r with
    | zero =>
      intro q hq u Lu hpm hq9 H locs ls kv ekv HW hl
      obtain ⟨hMu, hfm, hsn, hn3, hsL, hKu, hsb, hlen, hrg, hd⟩ := id hpm
      have hMRu := hpm.MR hMR
      have hRLu := hMRu.2.1
      have hKr := hMRu.2.2.2.1
      obtain ⟨hrg1, hrg2, hrg3⟩ := hrg.le
      have hO : ht_at u (M 0) (.inr (4, [.ref (M 1), .ref (M 2), .int (nu 0), .ref (M 3), .ref (M 4), .ref (M 5), .ref (M 6), .int (nu 1), .ref (M 7), .int (nu 2), .ref (M 8), .int (nu 3), .int (nu 4), .ref (M 9), .ref (M 10), .ref (M 11), .ref (M 12), .ref (M 13), .ref (M 14), .ref (M 15), .ref (M 16), .ref (M 17)]) : va_E) := hMu.1
      have h1 : ht_at u (M 1) (ht_al g 2048 (Lu 1)) := hMu.L 1 (by decide) rfl
      have h2 : ht_at u (M 2) (ht_al g 2048 (Lu 2)) := hMu.L 2 (by decide) rfl
      have h9 : ht_at u (M 9) (ht_al g 8 (Lu 9)) := hMu.L 9 (by decide) rfl
      refine lv_iload_n hx hb d_M_prove_220 rfl (lv_at hl 3 rfl) ?_
      refine lv_iconst (v := 4) hx hb d_M_prove_221 (by decide) ?_
      refine lv_icmp_ge (tgt := 283) hx hb d_M_prove_222 (by decide) (fun c222 => ?_) (fun c222 => ?_)
      · refine lv_aload_n hx hb d_M_prove_283 rfl (lv_at hl 0 rfl) ?_
        refine ht_get (C := R_M) (T := F_M) (N := 22) (v := .int (nu 3)) hx hb htb i_M hown HW hO rfl 11 (by decide) (htb _ wd_322) (fun _ h9 => h9) rfl d_M_prove_284 ?_
        exact ht_iret hx hb hr hlocks HW ⟨nu, Lu, Iu, d, hMRu, hfm, hn3, hn3, hd, hlen, hsb, (by
            rcases hens with ⟨h1, h2, h3, h4⟩ | ⟨h1, h2⟩
            · refine Or.inl ⟨h1, h2, fun i hi => ?_⟩
              by_cases e9 : i < 4
              · rw [(hq9 i (by omega)).1, h3, ht_kz0]
              · rw [show i = 4 + (i - 4) by omega, (hq9 (i - 4) (by omega)).2, h4, ht_kz0]
            · exact Or.inr ⟨ke, ve, h1, h2, fun i hi => hq9 i (by omega)⟩)⟩ d_M_prove_287
      · exact absurd (nI_le (show 4 ≤ q by omega) (by omega)) (by rw [ekv] at c222; exact c222)
    | succ r ih =>
      intro q hq u Lu hpm hq9 H locs ls kv ekv HW hl
      obtain ⟨hMu, hfm, hsn, hn3, hsL, hKu, hsb, hlen, hrg, hd⟩ := id hpm
      have hMRu := hpm.MR hMR
      have hRLu := hMRu.2.1
      have hKr := hMRu.2.2.2.1
      obtain ⟨hrg1, hrg2, hrg3⟩ := hrg.le
      have hO : ht_at u (M 0) (.inr (4, [.ref (M 1), .ref (M 2), .int (nu 0), .ref (M 3), .ref (M 4), .ref (M 5), .ref (M 6), .int (nu 1), .ref (M 7), .int (nu 2), .ref (M 8), .int (nu 3), .int (nu 4), .ref (M 9), .ref (M 10), .ref (M 11), .ref (M 12), .ref (M 13), .ref (M 14), .ref (M 15), .ref (M 16), .ref (M 17)]) : va_E) := hMu.1
      have h1 : ht_at u (M 1) (ht_al g 2048 (Lu 1)) := hMu.L 1 (by decide) rfl
      have h2 : ht_at u (M 2) (ht_al g 2048 (Lu 2)) := hMu.L 2 (by decide) rfl
      have h9 : ht_at u (M 9) (ht_al g 8 (Lu 9)) := hMu.L 9 (by decide) rfl
      refine lv_iload_n hx hb d_M_prove_220 rfl (lv_at hl 3 rfl) ?_
      refine lv_iconst (v := 4) hx hb d_M_prove_221 (by decide) ?_
      refine lv_icmp_ge (tgt := 283) hx hb d_M_prove_222 (by decide) (fun c222 => ?_) (fun c222 => ?_)
      · exact absurd (show nI 4 ≤ nI q by rw [ekv] at c222; exact c222) (nI_ge (by omega) (by omega))
      · refine lv_aload_n hx hb d_M_prove_225 rfl (lv_at hl 0 rfl) ?_
        refine ht_get (C := R_M) (T := F_M) (N := 22) (v := .ref (M 9)) hx hb htb i_M hown HW hO rfl 13 (by decide) (htb _ wd_324) (fun _ h9 => h9) rfl d_M_prove_226 ?_
        refine lv_iload_n hx hb d_M_prove_229 rfl (lv_at hl 3 rfl) ?_
        refine lv_iload_n hx hb d_M_prove_230 rfl (lv_at hl 1 rfl) ?_
        refine lv_iload_n hx hb d_M_prove_231 rfl (lv_at hl 2 rfl) ?_
        refine lv_icmp_ne (tgt := 239) hx hb d_M_prove_232 (by decide) (fun c232 => ?_) (fun c232 => ?_)
        · have hRf := (hcase.resolve_left (fun z9 => c232 z9.1)).2
          have hfl := ht_gn hRf
          refine lv_aload_n hx hb d_M_prove_239 rfl (lv_at hl 0 rfl) ?_
          refine ht_get (C := R_M) (T := F_M) (N := 22) (v := .ref (M 1)) hx hb htb i_M hown HW hO rfl 0 (by decide) (htb _ wd_311) (fun _ h9 => h9) rfl d_M_prove_240 ?_
          refine lv_iconst (v := 4) hx hb d_M_prove_243 (by decide) ?_
          refine lv_iload_n hx hb d_M_prove_244 rfl (lv_at hl 1 rfl) ?_
          refine lv_imul hx hb d_M_prove_245 ?_
          refine lv_iload_n hx hb d_M_prove_246 rfl (lv_at hl 3 rfl) ?_
          refine lv_iadd hx hb d_M_prove_247 ?_
          refine lv_topi (fun i1 ei1 => ?_)
          have hi1 : i1 = nI (4 * fr + q) := by rw [ei1, efv, ekv, show (4 : Int32) = nI 4 from rfl, pk_mul, nI_add]
          refine ht_lald hx hb HW h1 (by rw [hi1]; exact vp_in_nI (by omega) (by omega)) d_M_prove_248 ?_
          refine lv_topl (fun y1 ey1 => ?_)
          have ey1 : y1 = (Lu 1) (4 * fr + q) := by rw [ey1, hi1, nI_clamp (by omega)]
          have ey1 : y1 = ht_kf ke q := by rw [ey1]; exact (hRLu.2.2 _ _ hRf).1 q (by omega)
          refine ht_last hx hb HW h9 (by rw [ekv]; exact vp_in_nI (by omega) (by omega)) d_M_prove_249 (fun H locs HW => ?_)
          rw [ekv, nI_clamp (by omega)] at HW
          have n_M_0_M_9 : (M 0) ≠ (M 9) := (hMu.ne 0 9 (by decide) (by decide) (by decide))
          have n_M_1_M_9 : (M 1) ≠ (M 9) := (hMu.ne 1 9 (by decide) (by decide) (by decide))
          have n_M_2_M_9 : (M 2) ≠ (M 9) := (hMu.ne 2 9 (by decide) (by decide) (by decide))
          obtain ⟨u1, hu1⟩ : ∃ zW : ht_W, zW = ht_up u (M 9) (ht_al g 8 (vp_updL (Lu 9) q y1)) := ⟨_, rfl⟩
          have HW : ht_I g s u1 H locs := by rw [hu1]; exact HW
          have hO : ht_at u1 (M 0) (.inr (4, [.ref (M 1), .ref (M 2), .int (nu 0), .ref (M 3), .ref (M 4), .ref (M 5), .ref (M 6), .int (nu 1), .ref (M 7), .int (nu 2), .ref (M 8), .int (nu 3), .int (nu 4), .ref (M 9), .ref (M 10), .ref (M 11), .ref (M 12), .ref (M 13), .ref (M 14), .ref (M 15), .ref (M 16), .ref (M 17)]) : va_E) := by rw [hu1]; exact ht_at_ne hO n_M_0_M_9
          have h1 : ht_at u1 (M 1) (ht_al g 2048 (Lu 1)) := by rw [hu1]; exact ht_at_ne h1 n_M_1_M_9
          have h2 : ht_at u1 (M 2) (ht_al g 2048 (Lu 2)) := by rw [hu1]; exact ht_at_ne h2 n_M_2_M_9
          have h9 : ht_at u1 (M 9) (ht_al g 8 (vp_updL (Lu 9) q y1)) := by rw [hu1]; exact ht_at_self h9
          refine lv_aload_n hx hb d_M_prove_250 rfl (lv_at hl 0 rfl) ?_
          refine ht_get (C := R_M) (T := F_M) (N := 22) (v := .ref (M 9)) hx hb htb i_M hown HW hO rfl 13 (by decide) (htb _ wd_324) (fun _ h9 => h9) rfl d_M_prove_251 ?_
          refine lv_iconst (v := 4) hx hb d_M_prove_254 (by decide) ?_
          refine lv_iload_n hx hb d_M_prove_255 rfl (lv_at hl 3 rfl) ?_
          refine lv_iadd hx hb d_M_prove_256 ?_
          refine lv_topi (fun i3 ei3 => ?_)
          have hi3 : i3 = nI (4 + q) := by rw [ei3, ekv]; exact nI_add 4 q
          refine lv_iload_n hx hb d_M_prove_257 rfl (lv_at hl 1 rfl) ?_
          refine lv_iload_n hx hb d_M_prove_258 rfl (lv_at hl 2 rfl) ?_
          refine lv_icmp_ne (tgt := 266) hx hb d_M_prove_259 (by decide) (fun c259 => ?_) (fun c259 => ?_)
          · refine lv_aload_n hx hb d_M_prove_266 rfl (lv_at hl 0 rfl) ?_
            refine ht_get (C := R_M) (T := F_M) (N := 22) (v := .ref (M 2)) hx hb htb i_M hown HW hO rfl 1 (by decide) (htb _ wd_312) (fun _ h9 => h9) rfl d_M_prove_267 ?_
            refine lv_iconst (v := 4) hx hb d_M_prove_270 (by decide) ?_
            refine lv_iload_n hx hb d_M_prove_271 rfl (lv_at hl 1 rfl) ?_
            refine lv_imul hx hb d_M_prove_272 ?_
            refine lv_iload_n hx hb d_M_prove_273 rfl (lv_at hl 3 rfl) ?_
            refine lv_iadd hx hb d_M_prove_274 ?_
            refine lv_topi (fun i2 ei2 => ?_)
            have hi2 : i2 = nI (4 * fr + q) := by rw [ei2, efv, ekv, show (4 : Int32) = nI 4 from rfl, pk_mul, nI_add]
            refine ht_lald hx hb HW h2 (by rw [hi2]; exact vp_in_nI (by omega) (by omega)) d_M_prove_275 ?_
            refine lv_topl (fun y2 ey2 => ?_)
            have ey2 : y2 = (Lu 2) (4 * fr + q) := by rw [ey2, hi2, nI_clamp (by omega)]
            have ey2 : y2 = ht_kf ve q := by rw [ey2]; exact (hRLu.2.2 _ _ hRf).2 q (by omega)
            refine ht_last hx hb HW h9 (by rw [hi3]; exact vp_in_nI (by omega) (by omega)) d_M_prove_276 (fun H locs HW => ?_)
            rw [hi3, nI_clamp (by omega)] at HW
            obtain ⟨u2, hu2⟩ : ∃ zW : ht_W, zW = ht_up u1 (M 9) (ht_al g 8 (vp_updL (vp_updL (Lu 9) q y1) (4 + q) y2)) := ⟨_, rfl⟩
            have HW : ht_I g s u2 H locs := by rw [hu2]; exact HW
            have hO : ht_at u2 (M 0) (.inr (4, [.ref (M 1), .ref (M 2), .int (nu 0), .ref (M 3), .ref (M 4), .ref (M 5), .ref (M 6), .int (nu 1), .ref (M 7), .int (nu 2), .ref (M 8), .int (nu 3), .int (nu 4), .ref (M 9), .ref (M 10), .ref (M 11), .ref (M 12), .ref (M 13), .ref (M 14), .ref (M 15), .ref (M 16), .ref (M 17)]) : va_E) := by rw [hu2]; exact ht_at_ne hO n_M_0_M_9
            have h1 : ht_at u2 (M 1) (ht_al g 2048 (Lu 1)) := by rw [hu2]; exact ht_at_ne h1 n_M_1_M_9
            have h2 : ht_at u2 (M 2) (ht_al g 2048 (Lu 2)) := by rw [hu2]; exact ht_at_ne h2 n_M_2_M_9
            have h9 : ht_at u2 (M 9) (ht_al g 8 (vp_updL (vp_updL (Lu 9) q y1) (4 + q) y2)) := by rw [hu2]; exact ht_at_self h9
            obtain ⟨kv2, ekv2⟩ : ∃ zI : Int32, zI = kv + 1 := ⟨_, rfl⟩
            refine lv_iinc (v := kv2) (lv' := [(3, .int kv2), (0, .ref (M 0)), (1, .int fv), (2, .int tv)]) hx hb d_M_prove_277 hl (k := 3) rfl (by rw [ekv2]; rfl) (by decide) rfl (fun ls hl => ?_)
            refine lv_goto (tgt := 220) hx hb d_M_prove_280 (by decide) ?_
            have hM9 : ht_Mo g u2 M nu (va_up Lu 9 (vp_updL (vp_updL (Lu 9) q y1) (4 + q) y2)) Iu := by
              rw [hu2, hu1]
              simp only [ht_up_up]
              exact hMu.upL 9 (by decide) rfl _
            have hf9 : ht_fm M u u2 := by
              rw [hu2, hu1]
              simp only [ht_up_up]
              exact ht_fm.rf.up 9 (by decide)
            refine ih (q + 1) (by omega) u2 _ (hpm.up hM9 hf9 ht_same.rf (ht_same.rf.up (by decide)) (hKu.cg (va_up_ne _ _ (by decide)) (va_up_ne _ _ (by decide)) rfl)) (fun x hx9 => ?_) _ _ _ kv2 (by rw [ekv2, ekv, nI_1]) HW (lv_sub hl [1, 2, 3, 0] rfl)
            rw [va_up_self]
            by_cases e : x = q
            · rw [e, pk_uLn (by omega), pk_uLs, pk_uLs]
              exact ⟨ey1, ey2⟩
            · rw [pk_uLn (by omega), pk_uLn (by omega), pk_uLn (by omega), pk_uLn (by omega)]
              exact hq9 x (by omega)
          · exact absurd c259 c232
        · obtain ⟨-, eke, eve⟩ := hcase.resolve_right (fun z9 => z9.1 c232)
          refine lv_lconst (v := 0) hx hb d_M_prove_235 (by decide) ?_
          refine lv_goto (tgt := 249) hx hb d_M_prove_236 (by decide) ?_
          refine ht_last hx hb HW h9 (by rw [ekv]; exact vp_in_nI (by omega) (by omega)) d_M_prove_249 (fun H locs HW => ?_)
          rw [ekv, nI_clamp (by omega)] at HW
          have n_M_0_M_9 : (M 0) ≠ (M 9) := (hMu.ne 0 9 (by decide) (by decide) (by decide))
          have n_M_1_M_9 : (M 1) ≠ (M 9) := (hMu.ne 1 9 (by decide) (by decide) (by decide))
          have n_M_2_M_9 : (M 2) ≠ (M 9) := (hMu.ne 2 9 (by decide) (by decide) (by decide))
          obtain ⟨u3, hu3⟩ : ∃ zW : ht_W, zW = ht_up u (M 9) (ht_al g 8 (vp_updL (Lu 9) q (0 : Int64))) := ⟨_, rfl⟩
          have HW : ht_I g s u3 H locs := by rw [hu3]; exact HW
          have hO : ht_at u3 (M 0) (.inr (4, [.ref (M 1), .ref (M 2), .int (nu 0), .ref (M 3), .ref (M 4), .ref (M 5), .ref (M 6), .int (nu 1), .ref (M 7), .int (nu 2), .ref (M 8), .int (nu 3), .int (nu 4), .ref (M 9), .ref (M 10), .ref (M 11), .ref (M 12), .ref (M 13), .ref (M 14), .ref (M 15), .ref (M 16), .ref (M 17)]) : va_E) := by rw [hu3]; exact ht_at_ne hO n_M_0_M_9
          have h1 : ht_at u3 (M 1) (ht_al g 2048 (Lu 1)) := by rw [hu3]; exact ht_at_ne h1 n_M_1_M_9
          have h2 : ht_at u3 (M 2) (ht_al g 2048 (Lu 2)) := by rw [hu3]; exact ht_at_ne h2 n_M_2_M_9
          have h9 : ht_at u3 (M 9) (ht_al g 8 (vp_updL (Lu 9) q (0 : Int64))) := by rw [hu3]; exact ht_at_self h9
          refine lv_aload_n hx hb d_M_prove_250 rfl (lv_at hl 0 rfl) ?_
          refine ht_get (C := R_M) (T := F_M) (N := 22) (v := .ref (M 9)) hx hb htb i_M hown HW hO rfl 13 (by decide) (htb _ wd_324) (fun _ h9 => h9) rfl d_M_prove_251 ?_
          refine lv_iconst (v := 4) hx hb d_M_prove_254 (by decide) ?_
          refine lv_iload_n hx hb d_M_prove_255 rfl (lv_at hl 3 rfl) ?_
          refine lv_iadd hx hb d_M_prove_256 ?_
          refine lv_topi (fun i3 ei3 => ?_)
          have hi3 : i3 = nI (4 + q) := by rw [ei3, ekv]; exact nI_add 4 q
          refine lv_iload_n hx hb d_M_prove_257 rfl (lv_at hl 1 rfl) ?_
          refine lv_iload_n hx hb d_M_prove_258 rfl (lv_at hl 2 rfl) ?_
          refine lv_icmp_ne (tgt := 266) hx hb d_M_prove_259 (by decide) (fun c259 => ?_) (fun c259 => ?_)
          · exact absurd c232 c259
          · refine lv_lconst (v := 0) hx hb d_M_prove_262 (by decide) ?_
            refine lv_goto (tgt := 276) hx hb d_M_prove_263 (by decide) ?_
            refine ht_last hx hb HW h9 (by rw [hi3]; exact vp_in_nI (by omega) (by omega)) d_M_prove_276 (fun H locs HW => ?_)
            rw [hi3, nI_clamp (by omega)] at HW
            obtain ⟨u4, hu4⟩ : ∃ zW : ht_W, zW = ht_up u3 (M 9) (ht_al g 8 (vp_updL (vp_updL (Lu 9) q (0 : Int64)) (4 + q) (0 : Int64))) := ⟨_, rfl⟩
            have HW : ht_I g s u4 H locs := by rw [hu4]; exact HW
            have hO : ht_at u4 (M 0) (.inr (4, [.ref (M 1), .ref (M 2), .int (nu 0), .ref (M 3), .ref (M 4), .ref (M 5), .ref (M 6), .int (nu 1), .ref (M 7), .int (nu 2), .ref (M 8), .int (nu 3), .int (nu 4), .ref (M 9), .ref (M 10), .ref (M 11), .ref (M 12), .ref (M 13), .ref (M 14), .ref (M 15), .ref (M 16), .ref (M 17)]) : va_E) := by rw [hu4]; exact ht_at_ne hO n_M_0_M_9
            have h1 : ht_at u4 (M 1) (ht_al g 2048 (Lu 1)) := by rw [hu4]; exact ht_at_ne h1 n_M_1_M_9
            have h2 : ht_at u4 (M 2) (ht_al g 2048 (Lu 2)) := by rw [hu4]; exact ht_at_ne h2 n_M_2_M_9
            have h9 : ht_at u4 (M 9) (ht_al g 8 (vp_updL (vp_updL (Lu 9) q (0 : Int64)) (4 + q) (0 : Int64))) := by rw [hu4]; exact ht_at_self h9
            obtain ⟨kv2, ekv2⟩ : ∃ zI : Int32, zI = kv + 1 := ⟨_, rfl⟩
            refine lv_iinc (v := kv2) (lv' := [(3, .int kv2), (0, .ref (M 0)), (1, .int fv), (2, .int tv)]) hx hb d_M_prove_277 hl (k := 3) rfl (by rw [ekv2]; rfl) (by decide) rfl (fun ls hl => ?_)
            refine lv_goto (tgt := 220) hx hb d_M_prove_280 (by decide) ?_
            have hM9 : ht_Mo g u4 M nu (va_up Lu 9 (vp_updL (vp_updL (Lu 9) q 0) (4 + q) 0)) Iu := by
              rw [hu4, hu3]
              simp only [ht_up_up]
              exact hMu.upL 9 (by decide) rfl _
            have hf9 : ht_fm M u u4 := by
              rw [hu4, hu3]
              simp only [ht_up_up]
              exact ht_fm.rf.up 9 (by decide)
            refine ih (q + 1) (by omega) u4 _ (hpm.up hM9 hf9 ht_same.rf (ht_same.rf.up (by decide)) (hKu.cg (va_up_ne _ _ (by decide)) (va_up_ne _ _ (by decide)) rfl)) (fun x hx9 => ?_) _ _ _ kv2 (by rw [ekv2, ekv, nI_1]) HW (lv_sub hl [1, 2, 3, 0] rfl)
            rw [va_up_self]
            by_cases e : x = q
            · rw [e, pk_uLn (by omega), pk_uLs, pk_uLs]
              exact ⟨(by rw [eke, ht_kz0]), (by rw [eve, ht_kz0])⟩
            · rw [pk_uLn (by omega), pk_uLn (by omega), pk_uLn (by omega), pk_uLn (by omega)]
              exact hq9 x (by omega)
  have fin : ∀ (d fr tt : Nat) (fv tv : Int32), fv = nI fr → tv = nI tt → tt - fr ≤ 1 → ∀ (u : ht_W) (nu : Nat → Int32) (Lu : ht_LF) (Iu : ht_IF), ht_pm g w M n Lf R k u nu Lu Iu d fr tt → ∀ (H : Heap) (locs : List Loc) (ls : Array Slot), ht_I g s u H locs → lv_has ls 8 [(0, .ref (M 0)), (1, .int fv), (2, .int tv)] → W p l e (headSpec ws_M_prove ({ frames := 7, cells := 0, slots := 0, locals := 280 } : Room)).room s m ([.ref (M 0)] : List Value).toArray below meth c H locs 0 0 (MQ below (ht_Qi g (fun r u => ∃ (n2 : Nat → Int32) (Lf2 : ht_LF) (If2 : ht_IF) (D : Nat), ht_MR g u M n2 Lf2 If2 R k ∧ ht_fm M w u ∧ r = nI D ∧ n2 3 = nI D ∧ D ≤ 256 ∧ (∀ j, j < D → 2 ≤ (ht_Uk R k j).length) ∧ (∀ j i, j < D → i < 4 → Lf2 8 (4 * j + i) = ht_kf (ht_h ht_dgf (255 - j) (ht_Vk R k j)) i) ∧ ht_ens R k D (Lf2 9) (n2 4))) ([.ref (M 0)] : List Value).toArray s 0 0 (ht_A g)) (F0 m 192 ls []) := by
    intro d fr tt fv tv efv etv h1 u nu Lu Iu hpm H locs ls HW hl
    obtain ⟨hMu, hfm, hsn, hn3, hsL, hKu, hsb, hlen, hrg, hd⟩ := id hpm
    have hMRu := hpm.MR hMR
    have hRLu := hMRu.2.1
    have hKr := hMRu.2.2.2.1
    obtain ⟨hrg1, hrg2, hrg3⟩ := hrg.le
    have hO : ht_at u (M 0) (.inr (4, [.ref (M 1), .ref (M 2), .int (nu 0), .ref (M 3), .ref (M 4), .ref (M 5), .ref (M 6), .int (nu 1), .ref (M 7), .int (nu 2), .ref (M 8), .int (nu 3), .int (nu 4), .ref (M 9), .ref (M 10), .ref (M 11), .ref (M 12), .ref (M 13), .ref (M 14), .ref (M 15), .ref (M 16), .ref (M 17)]) : va_E) := hMu.1
    refine lv_aload_n hx hb d_M_prove_192 rfl (lv_at hl 0 rfl) ?_
    refine lv_iload_n hx hb d_M_prove_193 rfl (lv_at hl 1 rfl) ?_
    refine lv_iload_n hx hb d_M_prove_194 rfl (lv_at hl 2 rfl) ?_
    refine lv_icmp_ne (tgt := 202) hx hb d_M_prove_195 (by decide) (fun c195 => ?_) (fun c195 => ?_)
    · have hl1 : (ht_Uk R k d).length = 1 := by
        have : fr ≠ tt := fun z9 => c195 (by rw [efv, etv, z9])
        omega
      obtain ⟨qu, hU1⟩ := List.length_eq_one_iff.mp hl1
      have hRf : R[fr]? = some qu := hrg.sub 0 qu (by rw [hU1]; rfl)
      refine lv_aload_n hx hb d_M_prove_202 rfl (lv_at hl 0 rfl) ?_
      refine lv_iload_n hx hb d_M_prove_203 rfl (lv_at hl 1 rfl) ?_
      refine ht_ci HW (va_runV (own := R_M) (C := R_M) (As := [.int fv]) (rest := [.ref (M 0)]) ⟨hx, hb, hml, hown, htb⟩ (c_M_isAt l g u hMu hRLu hKr fr (by omega) fv efv) (cwV 1 htb (ht_gv wd_395 wd_397 sl_12 wd_3 g_M_isAt) rfl rfl rfl (by decide +kernel) ⟨Nat.le_of_ble_eq_true rfl, Nat.le_of_ble_eq_true rfl⟩) (HW.preV hO rfl _) rfl rfl hl.1 rfl (lv_room (Nat.le_of_ble_eq_true rfl)) d_M_prove_204 ⟨Nat.le_of_ble_eq_true rfl, Nat.le_of_ble_eq_true rfl⟩) (fun q2 u1 H locs pa HW => ?_)
      obtain ⟨pa, eww⟩ := pa
      subst eww
      rcases pa with ⟨er, qa, hqa, hqk⟩ | ⟨er, hna⟩
      · subst er
        refine lv_if_eq (tgt := 214) hx hb d_M_prove_207 (by decide) (fun c207 => ?_) (fun c207 => ?_)
        · exact absurd c207 (by decide)
        · have hquk : qu.1 = k := by
            rw [hRf] at hqa
            rw [Option.some.inj hqa]
            exact hqk
          refine lv_iconst (v := 1) hx hb d_M_prove_210 (by decide) ?_
          refine lv_goto (tgt := 215) hx hb d_M_prove_211 (by decide) ?_
          refine ht_put (C := R_M) (T := F_M) (N := 22) (v := .int 1) (ty := .int) hx hb htb i_M t_M t_M_ok n_M hown HW hO rfl 12 (by decide) (htb _ wd_323) (fun _ h9 => h9) rfl (by decide +kernel) rfl rfl (Nat.le_of_ble_eq_true rfl) d_M_prove_215 (fun H locs HW => ?_)
          obtain ⟨u3, hu3⟩ : ∃ zW : ht_W, zW = ht_up u (M 0) (.inr (4, [.ref (M 1), .ref (M 2), .int (nu 0), .ref (M 3), .ref (M 4), .ref (M 5), .ref (M 6), .int (nu 1), .ref (M 7), .int (nu 2), .ref (M 8), .int (nu 3), .int 1, .ref (M 9), .ref (M 10), .ref (M 11), .ref (M 12), .ref (M 13), .ref (M 14), .ref (M 15), .ref (M 16), .ref (M 17)]) : va_E) := ⟨_, rfl⟩
          have HW : ht_I g s u3 H locs := by rw [hu3]; exact HW
          have hO : ht_at u3 (M 0) (.inr (4, [.ref (M 1), .ref (M 2), .int (nu 0), .ref (M 3), .ref (M 4), .ref (M 5), .ref (M 6), .int (nu 1), .ref (M 7), .int (nu 2), .ref (M 8), .int (nu 3), .int 1, .ref (M 9), .ref (M 10), .ref (M 11), .ref (M 12), .ref (M 13), .ref (M 14), .ref (M 15), .ref (M 16), .ref (M 17)]) : va_E) := by rw [hu3]; exact ht_at_self hO
          refine lv_iconst (v := 0) hx hb d_M_prove_218 (by decide) ?_
          refine lv_istore_n (lv' := [(3, .int 0), (0, .ref (M 0)), (1, .int fv), (2, .int tv)]) hx hb d_M_prove_219 rfl hl (by decide) rfl (fun ls hl => ?_)
          exact endl d fr tt fv tv efv etv qu.1 qu.2 (va_up nu 4 1) Iu (Or.inr ⟨c195, hRf⟩) (Or.inr ⟨hU1, Or.inl ⟨hquk, va_up_self _ _ _⟩⟩) 4 0 rfl u3 Lu (hpm.up (by rw [hu3]; exact hMu.up0 (va_up nu 4 1)) (by rw [hu3]; exact ht_fm.rf.up 0 (by decide)) (ht_same.rf.up (by decide)) ht_same.rf hKu) (fun x hx9 => absurd hx9 (Nat.not_lt_zero x)) _ _ _ 0 rfl HW (lv_sub hl [1, 2, 3, 0] rfl)
      · subst er
        refine lv_if_eq (tgt := 214) hx hb d_M_prove_207 (by decide) (fun c207 => ?_) (fun c207 => ?_)
        · refine lv_iconst (v := 2) hx hb d_M_prove_214 (by decide) ?_
          refine ht_put (C := R_M) (T := F_M) (N := 22) (v := .int 2) (ty := .int) hx hb htb i_M t_M t_M_ok n_M hown HW hO rfl 12 (by decide) (htb _ wd_323) (fun _ h9 => h9) rfl (by decide +kernel) rfl rfl (Nat.le_of_ble_eq_true rfl) d_M_prove_215 (fun H locs HW => ?_)
          obtain ⟨u4, hu4⟩ : ∃ zW : ht_W, zW = ht_up u (M 0) (.inr (4, [.ref (M 1), .ref (M 2), .int (nu 0), .ref (M 3), .ref (M 4), .ref (M 5), .ref (M 6), .int (nu 1), .ref (M 7), .int (nu 2), .ref (M 8), .int (nu 3), .int 2, .ref (M 9), .ref (M 10), .ref (M 11), .ref (M 12), .ref (M 13), .ref (M 14), .ref (M 15), .ref (M 16), .ref (M 17)]) : va_E) := ⟨_, rfl⟩
          have HW : ht_I g s u4 H locs := by rw [hu4]; exact HW
          have hO : ht_at u4 (M 0) (.inr (4, [.ref (M 1), .ref (M 2), .int (nu 0), .ref (M 3), .ref (M 4), .ref (M 5), .ref (M 6), .int (nu 1), .ref (M 7), .int (nu 2), .ref (M 8), .int (nu 3), .int 2, .ref (M 9), .ref (M 10), .ref (M 11), .ref (M 12), .ref (M 13), .ref (M 14), .ref (M 15), .ref (M 16), .ref (M 17)]) : va_E) := by rw [hu4]; exact ht_at_self hO
          refine lv_iconst (v := 0) hx hb d_M_prove_218 (by decide) ?_
          refine lv_istore_n (lv' := [(3, .int 0), (0, .ref (M 0)), (1, .int fv), (2, .int tv)]) hx hb d_M_prove_219 rfl hl (by decide) rfl (fun ls hl => ?_)
          exact endl d fr tt fv tv efv etv qu.1 qu.2 (va_up nu 4 2) Iu (Or.inr ⟨c195, hRf⟩) (Or.inr ⟨hU1, Or.inr ⟨hna qu hRf, va_up_self _ _ _⟩⟩) 4 0 rfl u4 Lu (hpm.up (by rw [hu4]; exact hMu.up0 (va_up nu 4 2)) (by rw [hu4]; exact ht_fm.rf.up 0 (by decide)) (ht_same.rf.up (by decide)) ht_same.rf hKu) (fun x hx9 => absurd hx9 (Nat.not_lt_zero x)) _ _ _ 0 rfl HW (lv_sub hl [1, 2, 3, 0] rfl)
        · exact absurd rfl c207
    · have hU0 : ht_Uk R k d = [] := by
        have : fr = tt := (nI_eq (by omega) (by omega)).mp (show nI fr = nI tt by rw [← efv, ← etv]; exact c195)
        exact List.length_eq_zero_iff.mp (by omega)
      refine lv_iconst (v := 0) hx hb d_M_prove_198 (by decide) ?_
      refine lv_goto (tgt := 215) hx hb d_M_prove_199 (by decide) ?_
      refine ht_put (C := R_M) (T := F_M) (N := 22) (v := .int 0) (ty := .int) hx hb htb i_M t_M t_M_ok n_M hown HW hO rfl 12 (by decide) (htb _ wd_323) (fun _ h9 => h9) rfl (by decide +kernel) rfl rfl (Nat.le_of_ble_eq_true rfl) d_M_prove_215 (fun H locs HW => ?_)
      obtain ⟨u5, hu5⟩ : ∃ zW : ht_W, zW = ht_up u (M 0) (.inr (4, [.ref (M 1), .ref (M 2), .int (nu 0), .ref (M 3), .ref (M 4), .ref (M 5), .ref (M 6), .int (nu 1), .ref (M 7), .int (nu 2), .ref (M 8), .int (nu 3), .int 0, .ref (M 9), .ref (M 10), .ref (M 11), .ref (M 12), .ref (M 13), .ref (M 14), .ref (M 15), .ref (M 16), .ref (M 17)]) : va_E) := ⟨_, rfl⟩
      have HW : ht_I g s u5 H locs := by rw [hu5]; exact HW
      have hO : ht_at u5 (M 0) (.inr (4, [.ref (M 1), .ref (M 2), .int (nu 0), .ref (M 3), .ref (M 4), .ref (M 5), .ref (M 6), .int (nu 1), .ref (M 7), .int (nu 2), .ref (M 8), .int (nu 3), .int 0, .ref (M 9), .ref (M 10), .ref (M 11), .ref (M 12), .ref (M 13), .ref (M 14), .ref (M 15), .ref (M 16), .ref (M 17)]) : va_E) := by rw [hu5]; exact ht_at_self hO
      refine lv_iconst (v := 0) hx hb d_M_prove_218 (by decide) ?_
      refine lv_istore_n (lv' := [(3, .int 0), (0, .ref (M 0)), (1, .int fv), (2, .int tv)]) hx hb d_M_prove_219 rfl hl (by decide) rfl (fun ls hl => ?_)
      exact endl d fr tt fv tv efv etv ht_kz ht_kz (va_up nu 4 0) Iu (Or.inl ⟨c195, rfl, rfl⟩) (Or.inl ⟨hU0, va_up_self _ _ _, rfl, rfl⟩) 4 0 rfl u5 Lu (hpm.up (by rw [hu5]; exact hMu.up0 (va_up nu 4 0)) (by rw [hu5]; exact ht_fm.rf.up 0 (by decide)) (ht_same.rf.up (by decide)) ht_same.rf hKu) (fun x hx9 => absurd hx9 (Nat.not_lt_zero x)) _ _ _ 0 rfl HW (lv_sub hl [1, 2, 3, 0] rfl)
  have mid : ∀ (d fr tt : Nat) (fv tv : Int32), fv = nI fr → tv = nI tt → d < 256 → ∀ (u : ht_W) (nu : Nat → Int32) (Lu : ht_LF) (Iu : ht_IF), ht_pm g w M n Lf R k u nu Lu Iu d fr tt → (∀ (j : Nat), j ≤ (ht_Uk R k d).length → (∀ i q, i < j → (ht_Uk R k d)[i]? = some q → ht_bit q.1 d = false) → (∀ q, (ht_Uk R k d)[j]? = some q → ht_bit q.1 d = true) → ∀ (H : Heap) (locs : List Loc) (ls : Array Slot) (mv : Int32), mv = nI (fr + j) → ht_I g s u H locs → lv_has ls 8 [(0, .ref (M 0)), (1, .int fv), (2, .int tv), (3, .int mv)] → W p l e (headSpec ws_M_prove ({ frames := 7, cells := 0, slots := 0, locals := 280 } : Room)).room s m ([.ref (M 0)] : List Value).toArray below meth c H locs 0 0 (MQ below (ht_Qi g (fun r u => ∃ (n2 : Nat → Int32) (Lf2 : ht_LF) (If2 : ht_IF) (D : Nat), ht_MR g u M n2 Lf2 If2 R k ∧ ht_fm M w u ∧ r = nI D ∧ n2 3 = nI D ∧ D ≤ 256 ∧ (∀ j, j < D → 2 ≤ (ht_Uk R k j).length) ∧ (∀ j i, j < D → i < 4 → Lf2 8 (4 * j + i) = ht_kf (ht_h ht_dgf (255 - j) (ht_Vk R k j)) i) ∧ ht_ens R k D (Lf2 9) (n2 4))) ([.ref (M 0)] : List Value).toArray s 0 0 (ht_A g)) (F0 m 49 ls [])) → ∀ (r j : Nat), j + r = (ht_Uk R k d).length → (∀ i q, i < j → (ht_Uk R k d)[i]? = some q → ht_bit q.1 d = false) → ∀ (H : Heap) (locs : List Loc) (ls : Array Slot) (mv : Int32), mv = nI (fr + j) → ht_I g s u H locs → lv_has ls 8 [(0, .ref (M 0)), (1, .int fv), (2, .int tv), (3, .int mv)] → W p l e (headSpec ws_M_prove ({ frames := 7, cells := 0, slots := 0, locals := 280 } : Room)).room s m ([.ref (M 0)] : List Value).toArray below meth c H locs 0 0 (MQ below (ht_Qi g (fun r u => ∃ (n2 : Nat → Int32) (Lf2 : ht_LF) (If2 : ht_IF) (D : Nat), ht_MR g u M n2 Lf2 If2 R k ∧ ht_fm M w u ∧ r = nI D ∧ n2 3 = nI D ∧ D ≤ 256 ∧ (∀ j, j < D → 2 ≤ (ht_Uk R k j).length) ∧ (∀ j i, j < D → i < 4 → Lf2 8 (4 * j + i) = ht_kf (ht_h ht_dgf (255 - j) (ht_Vk R k j)) i) ∧ ht_ens R k D (Lf2 9) (n2 4))) ([.ref (M 0)] : List Value).toArray s 0 0 (ht_A g)) (F0 m 21 ls []) := by
    intro d fr tt fv tv efv etv hd9 u nu Lu Iu hpm hgo r
    obtain ⟨hMu, hfm, hsn, hn3, hsL, hKu, hsb, hlen, hrg, hd⟩ := id hpm
    have hMRu := hpm.MR hMR
    have hRLu := hMRu.2.1
    have hKr := hMRu.2.2.2.1
    obtain ⟨hrg1, hrg2, hrg3⟩ := hrg.le
    induction r with
    | zero =>
      intro j hj hj0 H locs ls mv emv HW hl
      have hO : ht_at u (M 0) (.inr (4, [.ref (M 1), .ref (M 2), .int (nu 0), .ref (M 3), .ref (M 4), .ref (M 5), .ref (M 6), .int (nu 1), .ref (M 7), .int (nu 2), .ref (M 8), .int (nu 3), .int (nu 4), .ref (M 9), .ref (M 10), .ref (M 11), .ref (M 12), .ref (M 13), .ref (M 14), .ref (M 15), .ref (M 16), .ref (M 17)]) : va_E) := hMu.1
      have h1 : ht_at u (M 1) (ht_al g 2048 (Lu 1)) := hMu.L 1 (by decide) rfl
      refine lv_iload_n hx hb d_M_prove_21 rfl (lv_at hl 3 rfl) ?_
      refine lv_iload_n hx hb d_M_prove_22 rfl (lv_at hl 2 rfl) ?_
      refine lv_icmp_ge (tgt := 49) hx hb d_M_prove_23 (by decide) (fun c23 => ?_) (fun c23 => ?_)
      · exact hgo j (by omega) hj0 (fun q9 hq9 => absurd (ht_gn hq9) (by omega)) _ _ _ mv emv HW (lv_sub hl [0, 1, 2, 3] rfl)
      · exact absurd (by rw [etv, emv, show fr + j = tt by omega]; exact Int32.le_refl _) c23
    | succ r ih =>
      intro j hj hj0 H locs ls mv emv HW hl
      obtain ⟨qu, hUq⟩ := ht_gl (l := ht_Uk R k d) (p := j) (by omega)
      have hRq := hrg.sub j qu hUq
      have hO : ht_at u (M 0) (.inr (4, [.ref (M 1), .ref (M 2), .int (nu 0), .ref (M 3), .ref (M 4), .ref (M 5), .ref (M 6), .int (nu 1), .ref (M 7), .int (nu 2), .ref (M 8), .int (nu 3), .int (nu 4), .ref (M 9), .ref (M 10), .ref (M 11), .ref (M 12), .ref (M 13), .ref (M 14), .ref (M 15), .ref (M 16), .ref (M 17)]) : va_E) := hMu.1
      have h1 : ht_at u (M 1) (ht_al g 2048 (Lu 1)) := hMu.L 1 (by decide) rfl
      refine lv_iload_n hx hb d_M_prove_21 rfl (lv_at hl 3 rfl) ?_
      refine lv_iload_n hx hb d_M_prove_22 rfl (lv_at hl 2 rfl) ?_
      refine lv_icmp_ge (tgt := 49) hx hb d_M_prove_23 (by decide) (fun c23 => ?_) (fun c23 => ?_)
      · exact absurd (show nI tt ≤ nI (fr + j) by rw [← etv, ← emv]; exact c23) (nI_ge (by omega) (by omega))
      · refine lv_aload_n hx hb d_M_prove_26 rfl (lv_at hl 0 rfl) ?_
        refine ht_get (C := R_M) (T := F_M) (N := 22) (v := .ref (M 1)) hx hb htb i_M hown HW hO rfl 0 (by decide) (htb _ wd_311) (fun _ h9 => h9) rfl d_M_prove_27 ?_
        refine lv_iconst (v := 4) hx hb d_M_prove_30 (by decide) ?_
        refine lv_iload_n hx hb d_M_prove_31 rfl (lv_at hl 3 rfl) ?_
        refine lv_imul hx hb d_M_prove_32 ?_
        refine lv_topi (fun ix eix => ?_)
        have hix : ix = nI (4 * (fr + j)) := by rw [eix, emv, show (4 : Int32) = nI 4 from rfl, pk_mul]
        refine lv_aload_n hx hb d_M_prove_33 rfl (lv_at hl 0 rfl) ?_
        refine ht_get (C := R_M) (T := F_M) (N := 22) (v := .int (nu 3)) hx hb htb i_M hown HW hO rfl 11 (by decide) (htb _ wd_322) (fun _ h9 => h9) rfl d_M_prove_34 ?_
        refine ht_ci HW (va_runS (own := R_M) (As := [.ref (M 1), .int ix, .int (nu 3)]) (rest := []) ⟨hx, hb, hml, hown, htb⟩ (c_M_bit l g u h1 (4 * (fr + j)) (by omega) (by decide) (hRLu.2.2 _ _ hRq).1 d hd9 ix (nu 3) hix hn3) (va_cwS 3 htb (ht_gs wd_484 wd_485 wd_3 g_M_bit) rfl rfl rfl (by decide +kernel) ⟨Nat.le_of_ble_eq_true rfl, Nat.le_of_ble_eq_true rfl⟩) (HW.preS _) rfl rfl hl.1 rfl (lv_room (Nat.le_of_ble_eq_true rfl)) d_M_prove_37 ⟨Nat.le_of_ble_eq_true rfl, Nat.le_of_ble_eq_true rfl⟩) (fun bv u1 H locs pu1 HW => ?_)
        obtain ⟨ebv, eu1⟩ := pu1
        subst eu1
        refine lv_if_ne (tgt := 49) hx hb d_M_prove_40 (by decide) (fun c40 => ?_) (fun c40 => ?_)
        · have hbt := ht_b1_1 (by rw [← ebv]; exact c40)
          exact hgo j (by omega) hj0 (fun q9 hq9 => by rw [hUq] at hq9; rw [← Option.some.inj hq9]; exact hbt) _ _ _ mv emv HW (lv_sub hl [0, 1, 2, 3] rfl)
        · have hbt := ht_b1_0 (by rw [← ebv]; exact c40)
          obtain ⟨mv2, emv2⟩ : ∃ zI : Int32, zI = mv + 1 := ⟨_, rfl⟩
          refine lv_iinc (v := mv2) (lv' := [(3, .int mv2), (0, .ref (M 0)), (1, .int fv), (2, .int tv)]) hx hb d_M_prove_43 hl (k := 3) rfl (by rw [emv2]; rfl) (by decide) rfl (fun ls hl => ?_)
          refine lv_goto (tgt := 21) hx hb d_M_prove_46 (by decide) ?_
          refine ih (j + 1) (by omega) (fun i q9 hi hq9 => ?_) _ _ _ mv2 (by rw [emv2, emv, nI_1]; rfl) HW (lv_sub hl [1, 2, 3, 0] rfl)
          by_cases e : i = j
          · rw [e, hUq] at hq9
            rw [← Option.some.inj hq9]
            exact hbt
          · exact hj0 i q9 (by omega) hq9
  have sib : ∀ (d : Nat), d < 256 → ∀ (fv tv mv hi ov ot : Int32) (u0 : ht_W) (nu : Nat → Int32) (L0 : ht_LF) (Iu : ht_IF) (VK : ht_K), nu 3 = nI d → ((ov = ot ∧ VK = ht_kz) ∨ (ov ≠ ot ∧ ht_row (L0 6) 0 VK)) → (∀ (u : ht_W) (Lu : ht_LF), ht_Mo g u M nu Lu Iu → ht_fm M u0 u → ht_same [8] L0 Lu → (∀ x, x < 4 → Lu 8 (4 * d + x) = ht_kf VK x) → (∀ x, x < 4 * d → Lu 8 x = L0 8 x) → ∀ (H : Heap) (locs : List Loc) (ls : Array Slot), ht_I g s u H locs → lv_has ls 8 [(0, .ref (M 0)), (1, .int fv), (2, .int tv), (3, .int mv), (4, .int hi), (5, .int ov), (6, .int ot)] → W p l e (headSpec ws_M_prove ({ frames := 7, cells := 0, slots := 0, locals := 280 } : Room)).room s m ([.ref (M 0)] : List Value).toArray below meth c H locs 0 0 (MQ below (ht_Qi g (fun r u => ∃ (n2 : Nat → Int32) (Lf2 : ht_LF) (If2 : ht_IF) (D : Nat), ht_MR g u M n2 Lf2 If2 R k ∧ ht_fm M w u ∧ r = nI D ∧ n2 3 = nI D ∧ D ≤ 256 ∧ (∀ j, j < D → 2 ≤ (ht_Uk R k j).length) ∧ (∀ j i, j < D → i < 4 → Lf2 8 (4 * j + i) = ht_kf (ht_h ht_dgf (255 - j) (ht_Vk R k j)) i) ∧ ht_ens R k D (Lf2 9) (n2 4))) ([.ref (M 0)] : List Value).toArray s 0 0 (ht_A g)) (F0 m 157 ls [])) → ∀ (r q : Nat), q + r = 4 → ∀ (u : ht_W) (Lu : ht_LF), ht_Mo g u M nu Lu Iu → ht_fm M u0 u → ht_same [8] L0 Lu → (∀ x, x < q → Lu 8 (4 * d + x) = ht_kf VK x) → (∀ x, x < 4 * d → Lu 8 x = L0 8 x) → ∀ (H : Heap) (locs : List Loc) (ls : Array Slot) (kv : Int32), kv = nI q → ht_I g s u H locs → lv_has ls 8 [(0, .ref (M 0)), (1, .int fv), (2, .int tv), (3, .int mv), (4, .int hi), (5, .int ov), (6, .int ot), (7, .int kv)] → W p l e (headSpec ws_M_prove ({ frames := 7, cells := 0, slots := 0, locals := 280 } : Room)).room s m ([.ref (M 0)] : List Value).toArray below meth c H locs 0 0 (MQ below (ht_Qi g (fun r u => ∃ (n2 : Nat → Int32) (Lf2 : ht_LF) (If2 : ht_IF) (D : Nat), ht_MR g u M n2 Lf2 If2 R k ∧ ht_fm M w u ∧ r = nI D ∧ n2 3 = nI D ∧ D ≤ 256 ∧ (∀ j, j < D → 2 ≤ (ht_Uk R k j).length) ∧ (∀ j i, j < D → i < 4 → Lf2 8 (4 * j + i) = ht_kf (ht_h ht_dgf (255 - j) (ht_Vk R k j)) i) ∧ ht_ens R k D (Lf2 9) (n2 4))) ([.ref (M 0)] : List Value).toArray s 0 0 (ht_A g)) (F0 m 113 ls []) := by
    intro d hd fv tv mv hi ov ot u0 nu L0 Iu VK hn3 hcase hgo r
    induction r with
    | zero =>
      intro q hq u Lu hMu hfm hsL hq9 hlo H locs ls kv ekv HW hl
      have hO : ht_at u (M 0) (.inr (4, [.ref (M 1), .ref (M 2), .int (nu 0), .ref (M 3), .ref (M 4), .ref (M 5), .ref (M 6), .int (nu 1), .ref (M 7), .int (nu 2), .ref (M 8), .int (nu 3), .int (nu 4), .ref (M 9), .ref (M 10), .ref (M 11), .ref (M 12), .ref (M 13), .ref (M 14), .ref (M 15), .ref (M 16), .ref (M 17)]) : va_E) := hMu.1
      have h6 : ht_at u (M 6) (ht_al g 2048 (Lu 6)) := hMu.L 6 (by decide) rfl
      have h8 : ht_at u (M 8) (ht_al g 1024 (Lu 8)) := hMu.L 8 (by decide) rfl
      refine lv_iload hx hb d_M_prove_113 (lv_at hl 7 rfl) ?_
      refine lv_iconst (v := 4) hx hb d_M_prove_115 (by decide) ?_
      refine lv_icmp_ge (tgt := 157) hx hb d_M_prove_116 (by decide) (fun c116 => ?_) (fun c116 => ?_)
      · exact hgo u Lu hMu hfm hsL (fun x hx9 => hq9 x (by omega)) hlo _ _ _ HW (lv_sub hl [0, 1, 2, 3, 4, 5, 6] rfl)
      · exact absurd (nI_le (show 4 ≤ q by omega) (by omega)) (by rw [ekv] at c116; exact c116)
    | succ r ih =>
      intro q hq u Lu hMu hfm hsL hq9 hlo H locs ls kv ekv HW hl
      have hO : ht_at u (M 0) (.inr (4, [.ref (M 1), .ref (M 2), .int (nu 0), .ref (M 3), .ref (M 4), .ref (M 5), .ref (M 6), .int (nu 1), .ref (M 7), .int (nu 2), .ref (M 8), .int (nu 3), .int (nu 4), .ref (M 9), .ref (M 10), .ref (M 11), .ref (M 12), .ref (M 13), .ref (M 14), .ref (M 15), .ref (M 16), .ref (M 17)]) : va_E) := hMu.1
      have h6 : ht_at u (M 6) (ht_al g 2048 (Lu 6)) := hMu.L 6 (by decide) rfl
      have h8 : ht_at u (M 8) (ht_al g 1024 (Lu 8)) := hMu.L 8 (by decide) rfl
      refine lv_iload hx hb d_M_prove_113 (lv_at hl 7 rfl) ?_
      refine lv_iconst (v := 4) hx hb d_M_prove_115 (by decide) ?_
      refine lv_icmp_ge (tgt := 157) hx hb d_M_prove_116 (by decide) (fun c116 => ?_) (fun c116 => ?_)
      · exact absurd (show nI 4 ≤ nI q by rw [ekv] at c116; exact c116) (nI_ge (by omega) (by omega))
      · refine lv_aload_n hx hb d_M_prove_119 rfl (lv_at hl 0 rfl) ?_
        refine ht_get (C := R_M) (T := F_M) (N := 22) (v := .ref (M 8)) hx hb htb i_M hown HW hO rfl 10 (by decide) (htb _ wd_321) (fun _ h9 => h9) rfl d_M_prove_120 ?_
        refine lv_iconst (v := 4) hx hb d_M_prove_123 (by decide) ?_
        refine lv_aload_n hx hb d_M_prove_124 rfl (lv_at hl 0 rfl) ?_
        refine ht_get (C := R_M) (T := F_M) (N := 22) (v := .int (nu 3)) hx hb htb i_M hown HW hO rfl 11 (by decide) (htb _ wd_322) (fun _ h9 => h9) rfl d_M_prove_125 ?_
        refine lv_imul hx hb d_M_prove_128 ?_
        refine lv_iload hx hb d_M_prove_129 (lv_at hl 7 rfl) ?_
        refine lv_iadd hx hb d_M_prove_131 ?_
        refine lv_topi (fun ix eix => ?_)
        have hix : ix = nI (4 * d + q) := by rw [eix, hn3, ekv, show (4 : Int32) = nI 4 from rfl, pk_mul, nI_add]
        refine lv_iload hx hb d_M_prove_132 (lv_at hl 5 rfl) ?_
        refine lv_iload hx hb d_M_prove_134 (lv_at hl 6 rfl) ?_
        refine lv_icmp_ne (tgt := 143) hx hb d_M_prove_136 (by decide) (fun c136 => ?_) (fun c136 => ?_)
        · have hrow := (hcase.resolve_left (fun z9 => c136 z9.1)).2
          refine lv_aload_n hx hb d_M_prove_143 rfl (lv_at hl 0 rfl) ?_
          refine ht_get (C := R_M) (T := F_M) (N := 22) (v := .ref (M 6)) hx hb htb i_M hown HW hO rfl 6 (by decide) (htb _ wd_317) (fun _ h9 => h9) rfl d_M_prove_144 ?_
          refine lv_iload hx hb d_M_prove_147 (lv_at hl 7 rfl) ?_
          refine ht_lald hx hb HW h6 (by rw [ekv]; exact vp_in_nI (by omega) (by omega)) d_M_prove_149 ?_
          refine lv_topl (fun vv evv => ?_)
          have evv : vv = (Lu 6) q := by rw [evv, ekv, nI_clamp (by omega)]
          have evv : vv = ht_kf VK q := by rw [evv, hsL 6 (by decide), ← hrow q (by omega), Nat.zero_add]
          refine ht_last hx hb HW h8 (by rw [hix]; exact vp_in_nI (by omega) (by omega)) d_M_prove_150 (fun H locs HW => ?_)
          rw [hix, nI_clamp (by omega)] at HW
          have n_M_0_M_8 : (M 0) ≠ (M 8) := (hMu.ne 0 8 (by decide) (by decide) (by decide))
          have n_M_6_M_8 : (M 6) ≠ (M 8) := (hMu.ne 6 8 (by decide) (by decide) (by decide))
          obtain ⟨u1, hu1⟩ : ∃ zW : ht_W, zW = ht_up u (M 8) (ht_al g 1024 (vp_updL (Lu 8) (4 * d + q) vv)) := ⟨_, rfl⟩
          have HW : ht_I g s u1 H locs := by rw [hu1]; exact HW
          have hO : ht_at u1 (M 0) (.inr (4, [.ref (M 1), .ref (M 2), .int (nu 0), .ref (M 3), .ref (M 4), .ref (M 5), .ref (M 6), .int (nu 1), .ref (M 7), .int (nu 2), .ref (M 8), .int (nu 3), .int (nu 4), .ref (M 9), .ref (M 10), .ref (M 11), .ref (M 12), .ref (M 13), .ref (M 14), .ref (M 15), .ref (M 16), .ref (M 17)]) : va_E) := by rw [hu1]; exact ht_at_ne hO n_M_0_M_8
          have h6 : ht_at u1 (M 6) (ht_al g 2048 (Lu 6)) := by rw [hu1]; exact ht_at_ne h6 n_M_6_M_8
          have h8 : ht_at u1 (M 8) (ht_al g 1024 (vp_updL (Lu 8) (4 * d + q) vv)) := by rw [hu1]; exact ht_at_self h8
          obtain ⟨kv2, ekv2⟩ : ∃ zI : Int32, zI = kv + 1 := ⟨_, rfl⟩
          refine lv_iinc (v := kv2) (lv' := [(7, .int kv2), (0, .ref (M 0)), (1, .int fv), (2, .int tv), (3, .int mv), (4, .int hi), (5, .int ov), (6, .int ot)]) hx hb d_M_prove_151 hl (k := 7) rfl (by rw [ekv2]; rfl) (by decide) rfl (fun ls hl => ?_)
          refine lv_goto (tgt := 113) hx hb d_M_prove_154 (by decide) ?_
          refine ih (q + 1) (by omega) u1 _ (by rw [hu1]; exact hMu.upL 8 (by decide) rfl _) (by rw [hu1]; exact hfm.up 8 (by decide)) (hsL.up (by decide)) (fun x hx9 => ?_) (fun x hx9 => ?_) _ _ _ kv2 (by rw [ekv2, ekv, nI_1]) HW (lv_sub hl [1, 2, 3, 4, 5, 6, 7, 0] rfl)
          · rw [va_up_self]
            by_cases e : x = q
            · rw [e, pk_uLs]; exact evv
            · rw [pk_uLn (by omega)]; exact hq9 x (by omega)
          · rw [va_up_self, pk_uLn (by omega)]
            exact hlo x hx9
        · have eVK := (hcase.resolve_right (fun z9 => z9.1 c136)).2
          refine lv_lconst (v := 0) hx hb d_M_prove_139 (by decide) ?_
          refine lv_goto (tgt := 150) hx hb d_M_prove_140 (by decide) ?_
          have evv : (0 : Int64) = ht_kf VK q := by rw [eVK, ht_kz0]
          refine ht_last hx hb HW h8 (by rw [hix]; exact vp_in_nI (by omega) (by omega)) d_M_prove_150 (fun H locs HW => ?_)
          rw [hix, nI_clamp (by omega)] at HW
          have n_M_0_M_8 : (M 0) ≠ (M 8) := (hMu.ne 0 8 (by decide) (by decide) (by decide))
          have n_M_6_M_8 : (M 6) ≠ (M 8) := (hMu.ne 6 8 (by decide) (by decide) (by decide))
          obtain ⟨u2, hu2⟩ : ∃ zW : ht_W, zW = ht_up u (M 8) (ht_al g 1024 (vp_updL (Lu 8) (4 * d + q) (0 : Int64))) := ⟨_, rfl⟩
          have HW : ht_I g s u2 H locs := by rw [hu2]; exact HW
          have hO : ht_at u2 (M 0) (.inr (4, [.ref (M 1), .ref (M 2), .int (nu 0), .ref (M 3), .ref (M 4), .ref (M 5), .ref (M 6), .int (nu 1), .ref (M 7), .int (nu 2), .ref (M 8), .int (nu 3), .int (nu 4), .ref (M 9), .ref (M 10), .ref (M 11), .ref (M 12), .ref (M 13), .ref (M 14), .ref (M 15), .ref (M 16), .ref (M 17)]) : va_E) := by rw [hu2]; exact ht_at_ne hO n_M_0_M_8
          have h6 : ht_at u2 (M 6) (ht_al g 2048 (Lu 6)) := by rw [hu2]; exact ht_at_ne h6 n_M_6_M_8
          have h8 : ht_at u2 (M 8) (ht_al g 1024 (vp_updL (Lu 8) (4 * d + q) (0 : Int64))) := by rw [hu2]; exact ht_at_self h8
          obtain ⟨kv2, ekv2⟩ : ∃ zI : Int32, zI = kv + 1 := ⟨_, rfl⟩
          refine lv_iinc (v := kv2) (lv' := [(7, .int kv2), (0, .ref (M 0)), (1, .int fv), (2, .int tv), (3, .int mv), (4, .int hi), (5, .int ov), (6, .int ot)]) hx hb d_M_prove_151 hl (k := 7) rfl (by rw [ekv2]; rfl) (by decide) rfl (fun ls hl => ?_)
          refine lv_goto (tgt := 113) hx hb d_M_prove_154 (by decide) ?_
          refine ih (q + 1) (by omega) u2 _ (by rw [hu2]; exact hMu.upL 8 (by decide) rfl _) (by rw [hu2]; exact hfm.up 8 (by decide)) (hsL.up (by decide)) (fun x hx9 => ?_) (fun x hx9 => ?_) _ _ _ kv2 (by rw [ekv2, ekv, nI_1]) HW (lv_sub hl [1, 2, 3, 4, 5, 6, 7, 0] rfl)
          · rw [va_up_self]
            by_cases e : x = q
            · rw [e, pk_uLs]; exact evv
            · rw [pk_uLn (by omega)]; exact hq9 x (by omega)
          · rw [va_up_self, pk_uLn (by omega)]
            exact hlo x hx9
  have main : ∀ (r d : Nat), d + r = 256 → ∀ (fr tt : Nat) (fv tv : Int32), fv = nI fr → tv = nI tt → ∀ (u : ht_W) (nu : Nat → Int32) (Lu : ht_LF) (Iu : ht_IF), ht_pm g w M n Lf R k u nu Lu Iu d fr tt → ∀ (H : Heap) (locs : List Loc) (ls : Array Slot), ht_I g s u H locs → lv_has ls 8 [(0, .ref (M 0)), (1, .int fv), (2, .int tv)] → W p l e (headSpec ws_M_prove ({ frames := 7, cells := 0, slots := 0, locals := 280 } : Room)).room s m ([.ref (M 0)] : List Value).toArray below meth c H locs 0 0 (MQ below (ht_Qi g (fun r u => ∃ (n2 : Nat → Int32) (Lf2 : ht_LF) (If2 : ht_IF) (D : Nat), ht_MR g u M n2 Lf2 If2 R k ∧ ht_fm M w u ∧ r = nI D ∧ n2 3 = nI D ∧ D ≤ 256 ∧ (∀ j, j < D → 2 ≤ (ht_Uk R k j).length) ∧ (∀ j i, j < D → i < 4 → Lf2 8 (4 * j + i) = ht_kf (ht_h ht_dgf (255 - j) (ht_Vk R k j)) i) ∧ ht_ens R k D (Lf2 9) (n2 4))) ([.ref (M 0)] : List Value).toArray s 0 0 (ht_A g)) (F0 m 12 ls []) := by
    intro r
    induction r with
    | zero =>
      intro d hd8 fr tt fv tv efv etv u nu Lu Iu hpm H locs ls HW hl
      obtain ⟨hMu, hfm, hsn, hn3, hsL, hKu, hsb, hlen, hrg, hd⟩ := id hpm
      have hMRu := hpm.MR hMR
      have hRLu := hMRu.2.1
      have hKr := hMRu.2.2.2.1
      obtain ⟨hrg1, hrg2, hrg3⟩ := hrg.le
      have hO : ht_at u (M 0) (.inr (4, [.ref (M 1), .ref (M 2), .int (nu 0), .ref (M 3), .ref (M 4), .ref (M 5), .ref (M 6), .int (nu 1), .ref (M 7), .int (nu 2), .ref (M 8), .int (nu 3), .int (nu 4), .ref (M 9), .ref (M 10), .ref (M 11), .ref (M 12), .ref (M 13), .ref (M 14), .ref (M 15), .ref (M 16), .ref (M 17)]) : va_E) := hMu.1
      have h1 : ht_at u (M 1) (ht_al g 2048 (Lu 1)) := hMu.L 1 (by decide) rfl
      have h3 : ht_at u (M 3) (ht_al g 4 (Lu 3)) := hMu.L 3 (by decide) rfl
      refine lv_iload_n hx hb d_M_prove_12 rfl (lv_at hl 2 rfl) ?_
      refine lv_iload_n hx hb d_M_prove_13 rfl (lv_at hl 1 rfl) ?_
      refine lv_isub hx hb d_M_prove_14 ?_
      refine lv_topi (fun df edf => ?_)
      have hdf : df = nI (tt - fr) := by rw [edf, efv, etv, pk_sub hrg1]
      refine lv_iconst (v := 1) hx hb d_M_prove_15 (by decide) ?_
      refine lv_icmp_le (tgt := 192) hx hb d_M_prove_16 (by decide) (fun c16 => ?_) (fun c16 => ?_)
      · have h1 : tt - fr ≤ 1 := (nI_leI (by omega) (by decide)).mp (show nI (tt - fr) ≤ nI 1 by rw [← hdf]; exact c16)
        exact fin d fr tt fv tv efv etv h1 u nu Lu Iu hpm _ _ _ HW (lv_sub hl [0, 1, 2] rfl)
      · have h2 : 2 ≤ (ht_Uk R k d).length := by
          have : ¬ tt - fr ≤ 1 := fun z9 => c16 (by rw [hdf]; exact nI_le z9 (by decide))
          omega
        have hd9 := ht_Uk_lt hsrt hd h2
        omega
    | succ r ih =>
      intro d hd8 fr tt fv tv efv etv u nu Lu Iu hpm H locs ls HW hl
      obtain ⟨hMu, hfm, hsn, hn3, hsL, hKu, hsb, hlen, hrg, hd⟩ := id hpm
      have hMRu := hpm.MR hMR
      have hRLu := hMRu.2.1
      have hKr := hMRu.2.2.2.1
      obtain ⟨hrg1, hrg2, hrg3⟩ := hrg.le
      have hO : ht_at u (M 0) (.inr (4, [.ref (M 1), .ref (M 2), .int (nu 0), .ref (M 3), .ref (M 4), .ref (M 5), .ref (M 6), .int (nu 1), .ref (M 7), .int (nu 2), .ref (M 8), .int (nu 3), .int (nu 4), .ref (M 9), .ref (M 10), .ref (M 11), .ref (M 12), .ref (M 13), .ref (M 14), .ref (M 15), .ref (M 16), .ref (M 17)]) : va_E) := hMu.1
      have h1 : ht_at u (M 1) (ht_al g 2048 (Lu 1)) := hMu.L 1 (by decide) rfl
      have h3 : ht_at u (M 3) (ht_al g 4 (Lu 3)) := hMu.L 3 (by decide) rfl
      refine lv_iload_n hx hb d_M_prove_12 rfl (lv_at hl 2 rfl) ?_
      refine lv_iload_n hx hb d_M_prove_13 rfl (lv_at hl 1 rfl) ?_
      refine lv_isub hx hb d_M_prove_14 ?_
      refine lv_topi (fun df edf => ?_)
      have hdf : df = nI (tt - fr) := by rw [edf, efv, etv, pk_sub hrg1]
      refine lv_iconst (v := 1) hx hb d_M_prove_15 (by decide) ?_
      refine lv_icmp_le (tgt := 192) hx hb d_M_prove_16 (by decide) (fun c16 => ?_) (fun c16 => ?_)
      · have h1 : tt - fr ≤ 1 := (nI_leI (by omega) (by decide)).mp (show nI (tt - fr) ≤ nI 1 by rw [← hdf]; exact c16)
        exact fin d fr tt fv tv efv etv h1 u nu Lu Iu hpm _ _ _ HW (lv_sub hl [0, 1, 2] rfl)
      · have h2 : 2 ≤ (ht_Uk R k d).length := by
          have : ¬ tt - fr ≤ 1 := fun z9 => c16 (by rw [hdf]; exact nI_le z9 (by decide))
          omega
        have hd9 := ht_Uk_lt hsrt hd h2
        refine lv_iload_n hx hb d_M_prove_19 rfl (lv_at hl 1 rfl) ?_
        refine lv_istore_n (lv' := [(3, .int fv), (0, .ref (M 0)), (1, .int fv), (2, .int tv)]) hx hb d_M_prove_20 rfl hl (by decide) rfl (fun ls hl => ?_)
        refine mid d fr tt fv tv efv etv hd9 u nu Lu Iu hpm (fun j hjU hj0 hj1 H locs ls mv emv HW hl => ?_) (ht_Uk R k d).length 0 (by omega) (fun i q9 hi => absurd hi (Nat.not_lt_zero i)) _ _ _ fv (by rw [Nat.add_zero]; exact efv) HW (lv_sub hl [1, 2, 3, 0] rfl)
        obtain ⟨hm0, hm1⟩ := ht_mid hd ht_Uk_ge (ht_Uk_srt hsrt k d) hj0 hj1
        obtain ⟨hmT, hmF⟩ := ht_mid2 rfl hd9 hm0 hm1
        refine lv_aload_n hx hb d_M_prove_49 rfl (lv_at hl 0 rfl) ?_
        refine ht_get (C := R_M) (T := F_M) (N := 22) (v := .ref (M 3)) hx hb htb i_M hown HW hO rfl 3 (by decide) (htb _ wd_314) (fun _ h9 => h9) rfl d_M_prove_50 ?_
        refine lv_iconst (v := 0) hx hb d_M_prove_53 (by decide) ?_
        refine lv_aload_n hx hb d_M_prove_54 rfl (lv_at hl 0 rfl) ?_
        refine ht_get (C := R_M) (T := F_M) (N := 22) (v := .int (nu 3)) hx hb htb i_M hown HW hO rfl 11 (by decide) (htb _ wd_322) (fun _ h9 => h9) rfl d_M_prove_55 ?_
        refine ht_ci HW (va_runS (own := R_M) (As := [.ref (M 3), .int 0, .int (nu 3)]) (rest := []) ⟨hx, hb, hml, hown, htb⟩ (c_M_bit l g u h3 0 (by decide) (by decide) hKr d hd9 0 (nu 3) rfl hn3) (va_cwS 3 htb (ht_gs wd_484 wd_485 wd_3 g_M_bit) rfl rfl rfl (by decide +kernel) ⟨Nat.le_of_ble_eq_true rfl, Nat.le_of_ble_eq_true rfl⟩) (HW.preS _) rfl rfl hl.1 rfl (lv_room (Nat.le_of_ble_eq_true rfl)) d_M_prove_58 ⟨Nat.le_of_ble_eq_true rfl, Nat.le_of_ble_eq_true rfl⟩) (fun bq u1 H locs pu1 HW => ?_)
        obtain ⟨ebq, eu1⟩ := pu1
        subst eu1
        rcases Bool.eq_false_or_eq_true (ht_bit k d) with hbk | hbk
        · have ebq : bq = 1 := by rw [ebq, hbk]; rfl
          subst ebq
          obtain ⟨hVe, hUe⟩ := hmT hbk
          refine lv_iconst (v := 1) hx hb d_M_prove_61 (by decide) ?_
          refine lv_icmp_ne (tgt := 69) hx hb d_M_prove_62 (by decide) (fun c62 => ?_) (fun c62 => ?_)
          · exact absurd rfl c62
          · refine lv_iconst (v := 1) hx hb d_M_prove_65 (by decide) ?_
            refine lv_goto (tgt := 70) hx hb d_M_prove_66 (by decide) ?_
            refine lv_istore (lv' := [(4, .int 1), (0, .ref (M 0)), (1, .int fv), (2, .int tv), (3, .int mv)]) hx hb d_M_prove_70 hl (by decide) rfl (fun ls hl => ?_)
            refine lv_iload hx hb d_M_prove_72 (lv_at hl 0 rfl) ?_
            refine lv_if_eq (tgt := 81) hx hb d_M_prove_74 (by decide) (fun c74 => ?_) (fun c74 => ?_)
            · exact absurd c74 (by decide)
            · refine lv_iload_n hx hb d_M_prove_77 rfl (lv_at hl 2 rfl) ?_
              refine lv_goto (tgt := 82) hx hb d_M_prove_78 (by decide) ?_
              refine lv_istore (lv' := [(5, .int fv), (4, .int 1), (0, .ref (M 0)), (1, .int fv), (2, .int tv), (3, .int mv)]) hx hb d_M_prove_82 hl (by decide) rfl (fun ls hl => ?_)
              refine lv_iload hx hb d_M_prove_84 (lv_at hl 1 rfl) ?_
              refine lv_if_eq (tgt := 93) hx hb d_M_prove_86 (by decide) (fun c86 => ?_) (fun c86 => ?_)
              · exact absurd c86 (by decide)
              · refine lv_iload_n hx hb d_M_prove_89 rfl (lv_at hl 5 rfl) ?_
                refine lv_goto (tgt := 94) hx hb d_M_prove_90 (by decide) ?_
                refine lv_istore (lv' := [(6, .int mv), (5, .int fv), (4, .int 1), (0, .ref (M 0)), (1, .int fv), (2, .int tv), (3, .int mv)]) hx hb d_M_prove_94 hl (by decide) rfl (fun ls hl => ?_)
                refine lv_aload_n hx hb d_M_prove_96 rfl (lv_at hl 3 rfl) ?_
                refine lv_iload hx hb d_M_prove_97 (lv_at hl 1 rfl) ?_
                refine lv_iload hx hb d_M_prove_99 (lv_at hl 0 rfl) ?_
                refine lv_aload_n hx hb d_M_prove_101 rfl (lv_at hl 3 rfl) ?_
                refine ht_get (C := R_M) (T := F_M) (N := 22) (v := .int (nu 3)) hx hb htb i_M hown HW hO rfl 11 (by decide) (htb _ wd_322) (fun _ h9 => h9) rfl d_M_prove_102 ?_
                refine lv_iconst (v := 1) hx hb d_M_prove_105 (by decide) ?_
                refine lv_iadd hx hb d_M_prove_106 ?_
                refine lv_topi (fun dv edv => ?_)
                have hdv : dv = nI (d + 1) := by rw [edv, hn3, nI_1]
                have hrt9 := hrg.take hjU
                refine ht_cv HW (va_runV (own := R_M) (C := R_M) (As := [.int fv, .int mv, .int dv]) (rest := []) ⟨hx, hb, hml, hown, htb⟩ (c_M_hash l g u hMu hKu hRLu fr (fr + j) (d + 1) (by omega) (by omega) (by omega) (L := (ht_Uk R k d).take j) (List.Pairwise.sublist (List.take_sublist _ _) (ht_Uk_srt hsrt k d)) hrt9.sub hrt9.le.2.2 fv mv dv efv emv hdv) (cwV 3 htb (ht_gv wd_422 wd_424 sl_13 wd_3 g_M_hash) rfl rfl rfl (by decide +kernel) ⟨Nat.le_of_ble_eq_true rfl, Nat.le_of_ble_eq_true rfl⟩) (HW.preV hO rfl _) rfl rfl hl.1 rfl (lv_room (Nat.le_of_ble_eq_true rfl)) d_M_prove_107 ⟨Nat.le_of_ble_eq_true rfl, Nat.le_of_ble_eq_true rfl⟩) (fun u2 H locs ph HW => ?_)
                obtain ⟨n2, L2, I2, hM2, hfm2, hsn2, hs2L, hs2I, hK2, h62⟩ := ph
                have hpm2 := hpm.up hM2 hfm2 (hsn2.mono (by decide)) (hs2L.mono (by decide)) hK2
                have hn32 := hpm2.2.2.2.1
                have hO : ht_at u2 (M 0) (.inr (4, [.ref (M 1), .ref (M 2), .int (n2 0), .ref (M 3), .ref (M 4), .ref (M 5), .ref (M 6), .int (n2 1), .ref (M 7), .int (n2 2), .ref (M 8), .int (n2 3), .int (n2 4), .ref (M 9), .ref (M 10), .ref (M 11), .ref (M 12), .ref (M 13), .ref (M 14), .ref (M 15), .ref (M 16), .ref (M 17)]) : va_E) := hM2.1
                have h6 : ht_at u2 (M 6) (ht_al g 2048 (L2 6)) := hM2.L 6 (by decide) rfl
                have h8 : ht_at u2 (M 8) (ht_al g 1024 (L2 8)) := hM2.L 8 (by decide) rfl
                refine lv_iconst (v := 0) hx hb d_M_prove_110 (by decide) ?_
                refine lv_istore (lv' := [(7, .int 0), (6, .int mv), (5, .int fv), (4, .int 1), (0, .ref (M 0)), (1, .int fv), (2, .int tv), (3, .int mv)]) hx hb d_M_prove_111 hl (by decide) rfl (fun ls hl => ?_)
                have hcase : (fv = mv ∧ ht_h ht_dgf (255 - d) (ht_Vk R k d) = ht_kz) ∨ (fv ≠ mv ∧ ht_row (L2 6) 0 (ht_h ht_dgf (255 - d) (ht_Vk R k d))) := by
                  have hl9 := hrt9.le
                  rw [← hVe] at hl9 h62
                  by_cases e9 : fr = (fr + j)
                  · refine Or.inl ⟨by rw [efv, emv]; exact congrArg nI e9, ?_⟩
                    rw [List.length_eq_zero_iff.mp (show (ht_Vk R k d).length = 0 by omega), ht_h_nil]
                  · refine Or.inr ⟨fun z9 => e9 ((nI_eq (by omega) (by omega)).mp (by rw [← efv, ← emv]; exact z9)), ?_⟩
                    have := h62 (fun z9 => by rw [z9] at hl9; simp only [List.length_nil] at hl9; omega) (ht_Vk_ag hd9)
                    rw [show 256 - (d + 1) = 255 - d by omega] at this
                    exact this
                refine sib d hd9 fv tv mv 1 fv mv u2 n2 L2 I2 _ hn32 hcase (fun u5 L5 hM5 hf5 hs5 h85 hlo5 H locs ls HW hl => ?_) 4 0 rfl u2 L2 hM2 ht_fm.rf ht_same.rf (fun x hx9 => absurd hx9 (Nat.not_lt_zero x)) (fun x _ => rfl) _ _ _ 0 rfl HW (lv_sub hl [4, 5, 6, 7, 3, 2, 1, 0] rfl)
                have hO : ht_at u5 (M 0) (.inr (4, [.ref (M 1), .ref (M 2), .int (n2 0), .ref (M 3), .ref (M 4), .ref (M 5), .ref (M 6), .int (n2 1), .ref (M 7), .int (n2 2), .ref (M 8), .int (n2 3), .int (n2 4), .ref (M 9), .ref (M 10), .ref (M 11), .ref (M 12), .ref (M 13), .ref (M 14), .ref (M 15), .ref (M 16), .ref (M 17)]) : va_E) := hM5.1
                refine lv_iload hx hb d_M_prove_157 (lv_at hl 4 rfl) ?_
                refine lv_if_eq (tgt := 166) hx hb d_M_prove_159 (by decide) (fun c159 => ?_) (fun c159 => ?_)
                · exact absurd c159 (by decide)
                · refine lv_iload_n hx hb d_M_prove_162 rfl (lv_at hl 3 rfl) ?_
                  refine lv_goto (tgt := 167) hx hb d_M_prove_163 (by decide) ?_
                  refine lv_istore_n (lv' := [(1, .int mv), (0, .ref (M 0)), (2, .int tv), (3, .int mv), (4, .int 1), (5, .int fv), (6, .int mv)]) hx hb d_M_prove_167 rfl hl (by decide) rfl (fun ls hl => ?_)
                  refine lv_iload hx hb d_M_prove_168 (lv_at hl 4 rfl) ?_
                  refine lv_if_eq (tgt := 177) hx hb d_M_prove_170 (by decide) (fun c170 => ?_) (fun c170 => ?_)
                  · exact absurd c170 (by decide)
                  · refine lv_iload_n hx hb d_M_prove_173 rfl (lv_at hl 2 rfl) ?_
                    refine lv_goto (tgt := 178) hx hb d_M_prove_174 (by decide) ?_
                    refine lv_istore_n (lv' := [(2, .int tv), (1, .int mv), (0, .ref (M 0)), (3, .int mv), (4, .int 1), (5, .int fv), (6, .int mv)]) hx hb d_M_prove_178 rfl hl (by decide) rfl (fun ls hl => ?_)
                    refine lv_aload_n hx hb d_M_prove_179 rfl (lv_at hl 2 rfl) ?_
                    refine lv_dup hx hb d_M_prove_180 rfl ?_
                    refine ht_get (C := R_M) (T := F_M) (N := 22) (v := .int (n2 3)) hx hb htb i_M hown HW hO rfl 11 (by decide) (htb _ wd_322) (fun _ h9 => h9) rfl d_M_prove_181 ?_
                    refine lv_iconst (v := 1) hx hb d_M_prove_184 (by decide) ?_
                    refine lv_iadd hx hb d_M_prove_185 ?_
                    refine ht_put (C := R_M) (T := F_M) (N := 22) (v := .int ((n2 3) + (1 : Int32))) (ty := .int) hx hb htb i_M t_M t_M_ok n_M hown HW hO rfl 11 (by decide) (htb _ wd_322) (fun _ h9 => h9) rfl (by decide +kernel) rfl rfl (Nat.le_of_ble_eq_true rfl) d_M_prove_186 (fun H locs HW => ?_)
                    obtain ⟨u3, hu3⟩ : ∃ zW : ht_W, zW = ht_up u5 (M 0) (.inr (4, [.ref (M 1), .ref (M 2), .int (n2 0), .ref (M 3), .ref (M 4), .ref (M 5), .ref (M 6), .int (n2 1), .ref (M 7), .int (n2 2), .ref (M 8), .int ((n2 3) + (1 : Int32)), .int (n2 4), .ref (M 9), .ref (M 10), .ref (M 11), .ref (M 12), .ref (M 13), .ref (M 14), .ref (M 15), .ref (M 16), .ref (M 17)]) : va_E) := ⟨_, rfl⟩
                    have HW : ht_I g s u3 H locs := by rw [hu3]; exact HW
                    have hO : ht_at u3 (M 0) (.inr (4, [.ref (M 1), .ref (M 2), .int (n2 0), .ref (M 3), .ref (M 4), .ref (M 5), .ref (M 6), .int (n2 1), .ref (M 7), .int (n2 2), .ref (M 8), .int ((n2 3) + (1 : Int32)), .int (n2 4), .ref (M 9), .ref (M 10), .ref (M 11), .ref (M 12), .ref (M 13), .ref (M 14), .ref (M 15), .ref (M 16), .ref (M 17)]) : va_E) := by rw [hu3]; exact ht_at_self hO
                    refine lv_goto (tgt := 12) hx hb d_M_prove_189 (by decide) ?_
                    exact ih (d + 1) (by omega) (fr + j) tt mv tv emv etv u3 _ L5 I2 (hpm2.step hd9 h2 (by rw [hUe]; exact hrg.drop hjU) (by rw [hu3]; exact hM5.up0 (va_up n2 3 (n2 3 + 1))) (by rw [hu3]; exact hf5.up 0 (by decide)) hs5 h85 hlo5) _ _ _ HW (lv_sub hl [2, 1, 0] rfl)
        · have ebq : bq = 0 := by rw [ebq, hbk]; rfl
          subst ebq
          obtain ⟨hVe, hUe⟩ := hmF hbk
          refine lv_iconst (v := 1) hx hb d_M_prove_61 (by decide) ?_
          refine lv_icmp_ne (tgt := 69) hx hb d_M_prove_62 (by decide) (fun c62 => ?_) (fun c62 => ?_)
          · refine lv_iconst (v := 0) hx hb d_M_prove_69 (by decide) ?_
            refine lv_istore (lv' := [(4, .int 0), (0, .ref (M 0)), (1, .int fv), (2, .int tv), (3, .int mv)]) hx hb d_M_prove_70 hl (by decide) rfl (fun ls hl => ?_)
            refine lv_iload hx hb d_M_prove_72 (lv_at hl 0 rfl) ?_
            refine lv_if_eq (tgt := 81) hx hb d_M_prove_74 (by decide) (fun c74 => ?_) (fun c74 => ?_)
            · refine lv_iload_n hx hb d_M_prove_81 rfl (lv_at hl 4 rfl) ?_
              refine lv_istore (lv' := [(5, .int mv), (4, .int 0), (0, .ref (M 0)), (1, .int fv), (2, .int tv), (3, .int mv)]) hx hb d_M_prove_82 hl (by decide) rfl (fun ls hl => ?_)
              refine lv_iload hx hb d_M_prove_84 (lv_at hl 1 rfl) ?_
              refine lv_if_eq (tgt := 93) hx hb d_M_prove_86 (by decide) (fun c86 => ?_) (fun c86 => ?_)
              · refine lv_iload_n hx hb d_M_prove_93 rfl (lv_at hl 4 rfl) ?_
                refine lv_istore (lv' := [(6, .int tv), (5, .int mv), (4, .int 0), (0, .ref (M 0)), (1, .int fv), (2, .int tv), (3, .int mv)]) hx hb d_M_prove_94 hl (by decide) rfl (fun ls hl => ?_)
                refine lv_aload_n hx hb d_M_prove_96 rfl (lv_at hl 3 rfl) ?_
                refine lv_iload hx hb d_M_prove_97 (lv_at hl 1 rfl) ?_
                refine lv_iload hx hb d_M_prove_99 (lv_at hl 0 rfl) ?_
                refine lv_aload_n hx hb d_M_prove_101 rfl (lv_at hl 3 rfl) ?_
                refine ht_get (C := R_M) (T := F_M) (N := 22) (v := .int (nu 3)) hx hb htb i_M hown HW hO rfl 11 (by decide) (htb _ wd_322) (fun _ h9 => h9) rfl d_M_prove_102 ?_
                refine lv_iconst (v := 1) hx hb d_M_prove_105 (by decide) ?_
                refine lv_iadd hx hb d_M_prove_106 ?_
                refine lv_topi (fun dv edv => ?_)
                have hdv : dv = nI (d + 1) := by rw [edv, hn3, nI_1]
                have hrt9 := hrg.drop hjU
                refine ht_cv HW (va_runV (own := R_M) (C := R_M) (As := [.int mv, .int tv, .int dv]) (rest := []) ⟨hx, hb, hml, hown, htb⟩ (c_M_hash l g u hMu hKu hRLu (fr + j) tt (d + 1) (by omega) (by omega) (by omega) (L := (ht_Uk R k d).drop j) (List.Pairwise.sublist (List.drop_sublist _ _) (ht_Uk_srt hsrt k d)) hrt9.sub hrt9.le.2.2 mv tv dv emv etv hdv) (cwV 3 htb (ht_gv wd_422 wd_424 sl_13 wd_3 g_M_hash) rfl rfl rfl (by decide +kernel) ⟨Nat.le_of_ble_eq_true rfl, Nat.le_of_ble_eq_true rfl⟩) (HW.preV hO rfl _) rfl rfl hl.1 rfl (lv_room (Nat.le_of_ble_eq_true rfl)) d_M_prove_107 ⟨Nat.le_of_ble_eq_true rfl, Nat.le_of_ble_eq_true rfl⟩) (fun u4 H locs ph HW => ?_)
                obtain ⟨n2, L2, I2, hM2, hfm2, hsn2, hs2L, hs2I, hK2, h62⟩ := ph
                have hpm2 := hpm.up hM2 hfm2 (hsn2.mono (by decide)) (hs2L.mono (by decide)) hK2
                have hn32 := hpm2.2.2.2.1
                have hO : ht_at u4 (M 0) (.inr (4, [.ref (M 1), .ref (M 2), .int (n2 0), .ref (M 3), .ref (M 4), .ref (M 5), .ref (M 6), .int (n2 1), .ref (M 7), .int (n2 2), .ref (M 8), .int (n2 3), .int (n2 4), .ref (M 9), .ref (M 10), .ref (M 11), .ref (M 12), .ref (M 13), .ref (M 14), .ref (M 15), .ref (M 16), .ref (M 17)]) : va_E) := hM2.1
                have h6 : ht_at u4 (M 6) (ht_al g 2048 (L2 6)) := hM2.L 6 (by decide) rfl
                have h8 : ht_at u4 (M 8) (ht_al g 1024 (L2 8)) := hM2.L 8 (by decide) rfl
                refine lv_iconst (v := 0) hx hb d_M_prove_110 (by decide) ?_
                refine lv_istore (lv' := [(7, .int 0), (6, .int tv), (5, .int mv), (4, .int 0), (0, .ref (M 0)), (1, .int fv), (2, .int tv), (3, .int mv)]) hx hb d_M_prove_111 hl (by decide) rfl (fun ls hl => ?_)
                have hcase : (mv = tv ∧ ht_h ht_dgf (255 - d) (ht_Vk R k d) = ht_kz) ∨ (mv ≠ tv ∧ ht_row (L2 6) 0 (ht_h ht_dgf (255 - d) (ht_Vk R k d))) := by
                  have hl9 := hrt9.le
                  rw [← hVe] at hl9 h62
                  by_cases e9 : (fr + j) = tt
                  · refine Or.inl ⟨by rw [emv, etv]; exact congrArg nI e9, ?_⟩
                    rw [List.length_eq_zero_iff.mp (show (ht_Vk R k d).length = 0 by omega), ht_h_nil]
                  · refine Or.inr ⟨fun z9 => e9 ((nI_eq (by omega) (by omega)).mp (by rw [← emv, ← etv]; exact z9)), ?_⟩
                    have := h62 (fun z9 => by rw [z9] at hl9; simp only [List.length_nil] at hl9; omega) (ht_Vk_ag hd9)
                    rw [show 256 - (d + 1) = 255 - d by omega] at this
                    exact this
                refine sib d hd9 fv tv mv 0 mv tv u4 n2 L2 I2 _ hn32 hcase (fun u5 L5 hM5 hf5 hs5 h85 hlo5 H locs ls HW hl => ?_) 4 0 rfl u4 L2 hM2 ht_fm.rf ht_same.rf (fun x hx9 => absurd hx9 (Nat.not_lt_zero x)) (fun x _ => rfl) _ _ _ 0 rfl HW (lv_sub hl [4, 5, 6, 7, 3, 2, 1, 0] rfl)
                have hO : ht_at u5 (M 0) (.inr (4, [.ref (M 1), .ref (M 2), .int (n2 0), .ref (M 3), .ref (M 4), .ref (M 5), .ref (M 6), .int (n2 1), .ref (M 7), .int (n2 2), .ref (M 8), .int (n2 3), .int (n2 4), .ref (M 9), .ref (M 10), .ref (M 11), .ref (M 12), .ref (M 13), .ref (M 14), .ref (M 15), .ref (M 16), .ref (M 17)]) : va_E) := hM5.1
                refine lv_iload hx hb d_M_prove_157 (lv_at hl 4 rfl) ?_
                refine lv_if_eq (tgt := 166) hx hb d_M_prove_159 (by decide) (fun c159 => ?_) (fun c159 => ?_)
                · refine lv_iload_n hx hb d_M_prove_166 rfl (lv_at hl 1 rfl) ?_
                  refine lv_istore_n (lv' := [(1, .int fv), (0, .ref (M 0)), (2, .int tv), (3, .int mv), (4, .int 0), (5, .int mv), (6, .int tv)]) hx hb d_M_prove_167 rfl hl (by decide) rfl (fun ls hl => ?_)
                  refine lv_iload hx hb d_M_prove_168 (lv_at hl 4 rfl) ?_
                  refine lv_if_eq (tgt := 177) hx hb d_M_prove_170 (by decide) (fun c170 => ?_) (fun c170 => ?_)
                  · refine lv_iload_n hx hb d_M_prove_177 rfl (lv_at hl 3 rfl) ?_
                    refine lv_istore_n (lv' := [(2, .int mv), (1, .int fv), (0, .ref (M 0)), (3, .int mv), (4, .int 0), (5, .int mv), (6, .int tv)]) hx hb d_M_prove_178 rfl hl (by decide) rfl (fun ls hl => ?_)
                    refine lv_aload_n hx hb d_M_prove_179 rfl (lv_at hl 2 rfl) ?_
                    refine lv_dup hx hb d_M_prove_180 rfl ?_
                    refine ht_get (C := R_M) (T := F_M) (N := 22) (v := .int (n2 3)) hx hb htb i_M hown HW hO rfl 11 (by decide) (htb _ wd_322) (fun _ h9 => h9) rfl d_M_prove_181 ?_
                    refine lv_iconst (v := 1) hx hb d_M_prove_184 (by decide) ?_
                    refine lv_iadd hx hb d_M_prove_185 ?_
                    refine ht_put (C := R_M) (T := F_M) (N := 22) (v := .int ((n2 3) + (1 : Int32))) (ty := .int) hx hb htb i_M t_M t_M_ok n_M hown HW hO rfl 11 (by decide) (htb _ wd_322) (fun _ h9 => h9) rfl (by decide +kernel) rfl rfl (Nat.le_of_ble_eq_true rfl) d_M_prove_186 (fun H locs HW => ?_)
                    obtain ⟨u5, hu5⟩ : ∃ zW : ht_W, zW = ht_up u5 (M 0) (.inr (4, [.ref (M 1), .ref (M 2), .int (n2 0), .ref (M 3), .ref (M 4), .ref (M 5), .ref (M 6), .int (n2 1), .ref (M 7), .int (n2 2), .ref (M 8), .int ((n2 3) + (1 : Int32)), .int (n2 4), .ref (M 9), .ref (M 10), .ref (M 11), .ref (M 12), .ref (M 13), .ref (M 14), .ref (M 15), .ref (M 16), .ref (M 17)]) : va_E) := ⟨_, rfl⟩
                    have HW : ht_I g s u5 H locs := by rw [hu5]; exact HW
                    have hO : ht_at u5 (M 0) (.inr (4, [.ref (M 1), .ref (M 2), .int (n2 0), .ref (M 3), .ref (M 4), .ref (M 5), .ref (M 6), .int (n2 1), .ref (M 7), .int (n2 2), .ref (M 8), .int ((n2 3) + (1 : Int32)), .int (n2 4), .ref (M 9), .ref (M 10), .ref (M 11), .ref (M 12), .ref (M 13), .ref (M 14), .ref (M 15), .ref (M 16), .ref (M 17)]) : va_E) := by rw [hu5]; exact ht_at_self hO
                    refine lv_goto (tgt := 12) hx hb d_M_prove_189 (by decide) ?_
                    exact ih (d + 1) (by omega) fr (fr + j) fv mv efv emv u5 _ L5 I2 (hpm2.step hd9 h2 (by rw [hUe]; exact hrg.take hjU) (by rw [hu5]; exact hM5.up0 (va_up n2 3 (n2 3 + 1))) (by rw [hu5]; exact hf5.up 0 (by decide)) hs5 h85 hlo5) _ _ _ HW (lv_sub hl [2, 1, 0] rfl)
                  · exact absurd rfl c170
                · exact absurd rfl c159
              · exact absurd rfl c86
            · exact absurd rfl c74
          · exact absurd c62 (by decide)
  have hO : ht_at w (M 0) (.inr (4, [.ref (M 1), .ref (M 2), .int (n 0), .ref (M 3), .ref (M 4), .ref (M 5), .ref (M 6), .int (n 1), .ref (M 7), .int (n 2), .ref (M 8), .int (n 3), .int (n 4), .ref (M 9), .ref (M 10), .ref (M 11), .ref (M 12), .ref (M 13), .ref (M 14), .ref (M 15), .ref (M 16), .ref (M 17)]) : va_E) := hM.1
  refine lv_iconst (v := 0) hx hb d_M_prove_0 (by decide) ?_
  refine lv_istore_n (lv' := [(1, .int 0), (0, .ref (M 0))]) hx hb d_M_prove_1 rfl hl (by decide) rfl (fun ls hl => ?_)
  refine lv_aload_n hx hb d_M_prove_2 rfl (lv_at hl 1 rfl) ?_
  refine ht_get (C := R_M) (T := F_M) (N := 22) (v := .int (n 0)) hx hb htb i_M hown HW hO rfl 2 (by decide) (htb _ wd_313) (fun _ h9 => h9) rfl d_M_prove_3 ?_
  refine lv_topi (fun tz etz => ?_)
  refine lv_istore_n (lv' := [(2, .int tz), (1, .int 0), (0, .ref (M 0))]) hx hb d_M_prove_6 rfl hl (by decide) rfl (fun ls hl => ?_)
  refine lv_aload_n hx hb d_M_prove_7 rfl (lv_at hl 2 rfl) ?_
  refine lv_iconst (v := 0) hx hb d_M_prove_8 (by decide) ?_
  refine ht_put (C := R_M) (T := F_M) (N := 22) (v := .int 0) (ty := .int) hx hb htb i_M t_M t_M_ok n_M hown HW hO rfl 11 (by decide) (htb _ wd_322) (fun _ h9 => h9) rfl (by decide +kernel) rfl rfl (Nat.le_of_ble_eq_true rfl) d_M_prove_9 (fun H locs HW => ?_)
  obtain ⟨u1, hu1⟩ : ∃ zW : ht_W, zW = ht_up w (M 0) (.inr (4, [.ref (M 1), .ref (M 2), .int (n 0), .ref (M 3), .ref (M 4), .ref (M 5), .ref (M 6), .int (n 1), .ref (M 7), .int (n 2), .ref (M 8), .int 0, .int (n 4), .ref (M 9), .ref (M 10), .ref (M 11), .ref (M 12), .ref (M 13), .ref (M 14), .ref (M 15), .ref (M 16), .ref (M 17)]) : va_E) := ⟨_, rfl⟩
  have HW : ht_I g s u1 H locs := by rw [hu1]; exact HW
  have hO : ht_at u1 (M 0) (.inr (4, [.ref (M 1), .ref (M 2), .int (n 0), .ref (M 3), .ref (M 4), .ref (M 5), .ref (M 6), .int (n 1), .ref (M 7), .int (n 2), .ref (M 8), .int 0, .int (n 4), .ref (M 9), .ref (M 10), .ref (M 11), .ref (M 12), .ref (M 13), .ref (M 14), .ref (M 15), .ref (M 16), .ref (M 17)]) : va_E) := by rw [hu1]; exact ht_at_self hO
  exact main 256 0 rfl 0 R.length 0 tz rfl (by rw [etz]; exact hRL.2.1) u1 (va_up n 3 0) Lf If ⟨by rw [hu1]; exact hM.up0 (va_up n 3 0), by rw [hu1]; exact ht_fm.rf.up 0 (by decide), ht_same.rf.up (by decide), va_up_self _ _ _, ht_same.rf, hKp, fun j i hj => absurd hj (Nat.not_lt_zero j), fun j hj => absurd hj (Nat.not_lt_zero j), ⟨[], [], by rw [ht_Uk_0, List.append_nil]; rfl, rfl, by rw [ht_Uk_0, Nat.zero_add]⟩, by decide⟩ _ _ _ HW (lv_sub hl [2, 1, 0] rfl)
