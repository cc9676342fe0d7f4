/-! THE PROOF, as a function of the keys and THE KEY: the class's way to it. -/
def ht_Uk (L : ht_L) (k : ht_K) (d : Nat) : ht_L := L.filter (fun q => decide (d ≤ ht_part k q.1))
def ht_Vk (L : ht_L) (k : ht_K) (d : Nat) : ht_L := L.filter (fun q => decide (ht_part k q.1 = d))
def ht_sbs (L : ht_L) (k : ht_K) (D : Nat) (f : Nat → Int64) : Prop := ∀ j i, j < 256 → i < 4 → f (j * 4 + i) = if j < D then ht_kf (ht_h ht_dgf (255 - j) (ht_Vk L k j)) i else 0
def ht_ens (L : ht_L) (k : ht_K) (D : Nat) (f : Nat → Int64) (ei : Int32) : Prop := (ht_Uk L k D = [] ∧ ei = 0 ∧ ∀ i, i < 8 → f i = 0) ∨ ∃ k' v' : ht_K, ht_Uk L k D = [(k', v')] ∧ ((k' = k ∧ ei = 1) ∨ (k' ≠ k ∧ ei = 2)) ∧ ∀ i, i < 4 → f i = ht_kf k' i ∧ f (4 + i) = ht_kf v' i
def ht_pv (L : ht_L) (k : ht_K) (D : Nat) (sbf enf : Nat → Int64) (ei : Int32) : Prop := D ≤ 256 ∧ (∀ j, j < D → 2 ≤ (ht_Uk L k j).length) ∧ ht_sbs L k D sbf ∧ ht_ens L k D enf ei
theorem ht_kz0 (i : Nat) : ht_kf ht_kz i = 0 := by
  unfold ht_kf ht_kz
  by_cases h0 : i = 0
  · rw [if_pos h0]
  · rw [if_neg h0]
    by_cases h1 : i = 1
    · rw [if_pos h1]
    · rw [if_neg h1]
      by_cases h2 : i = 2
      · rw [if_pos h2]
      · rw [if_neg h2]
def ht_pi (N : ht_N) (F : List Nat) (L : ht_L) (k bk : ht_K) (a lv : Nat) (f : Nat → Int64) : Prop := a ∈ F ∧ lv ≤ ht_rl (N a) ∧ ht_in N a bk ∧ (∀ q ∈ L, lv ≤ ht_part k q.1 ↔ ht_in N a q.1) ∧ (∀ j, j < lv → 2 ≤ (ht_Uk L k j).length) ∧ ht_sbs L k lv f
theorem ht_filter_cg {α : Type} {l : List α} {f g : α → Bool} (h : ∀ x ∈ l, f x = true ↔ g x = true) : l.filter f = l.filter g := List.filter_congr (fun x hx => Bool.eq_iff_iff.mpr (h x hx))
theorem ht_Uk_U {N : ht_N} {L : ht_L} {k : ht_K} {a d : Nat} (h : ∀ q ∈ L, d ≤ ht_part k q.1 ↔ ht_in N a q.1) : ht_Uk L k d = ht_U N L a := ht_filter_cg (fun q hq => by rw [decide_eq_true_iff, decide_eq_true_iff]; exact h q hq)
theorem ht_Vk_U {N : ht_N} {L : ht_L} {k : ht_K} {a d : Nat} (h : ∀ q ∈ L, ht_part k q.1 = d ↔ ht_in N a q.1) : ht_Vk L k d = ht_U N L a := ht_filter_cg (fun q hq => by rw [decide_eq_true_iff, decide_eq_true_iff]; exact h q hq)
theorem ht_Vk_nil {L : ht_L} {k : ht_K} {d : Nat} (h : ∀ q ∈ L, ht_part k q.1 ≠ d) : ht_Vk L k d = [] := List.filter_eq_nil_iff.mpr (fun q hq z => h q hq (of_decide_eq_true z))
theorem ht_Uk_nil {L : ht_L} {k : ht_K} {d : Nat} (h : ∀ q ∈ L, ¬ d ≤ ht_part k q.1) : ht_Uk L k d = [] := List.filter_eq_nil_iff.mpr (fun q hq z => h q hq (of_decide_eq_true z))
theorem ht_pi.start {N : ht_N} {F : List Nat} {L : ht_L} {t : Nat} (hT : ht_T N F (some t) L) {k bk bv : ht_K} (hb : (bk, bv) ∈ L) {f : Nat → Int64} (hf : ∀ j, j < 1024 → f j = 0) : ht_pi N F L k bk t 0 f :=
  ⟨(hT.2.2.1.1 t rfl).1, Nat.zero_le _, (hT.2.2.1.1 t rfl).2 (bk, bv) hb, fun q hq => ⟨fun _ => (hT.2.2.1.1 t rfl).2 q hq, fun _ => Nat.zero_le _⟩, fun j hj => absurd hj (Nat.not_lt_zero j), fun j i hj hi => by
    rw [if_neg (Nat.not_lt_zero j)]
    exact hf _ (by omega)⟩
theorem ht_pi.low {N : ht_N} {F : List Nat} {top : Option Nat} {L : ht_L} {k bk : ht_K} {a lv : Nat} {f : Nat → Int64} (hT : ht_T N F top L) (h : ht_pi N F L k bk a lv f) {d : Nat} (hd : d ≤ ht_rl (N a)) (hP : d ≤ ht_part k bk) {q : ht_K} (hq : ht_in N a q) : d ≤ ht_part k q := by
  have h1 : ht_ag k bk d := ht_ag_le (ht_part_ag k bk) hP
  have h2 : ht_ag bk q d := ht_ag_le (hT.two h.1 h.2.2.1 hq) hd
  exact (ht_ag_part (Nat.le_trans hd (hT.lv h.1))).mp (ht_ag_trans h1 h2)
theorem ht_bb {x y : Bool} (h : x ≠ y) : y = !x := by cases x <;> cases y <;> first | rfl | exact absurd rfl h
theorem ht_pi.step {N : ht_N} {F : List Nat} {top : Option Nat} {L : ht_L} {k bk bv : ht_K} {a lv : Nat} {f f' : Nat → Int64} (hT : ht_T N F top L) (h : ht_pi N F L k bk a lv f) (hb : (bk, bv) ∈ L) {zo : Nat × Nat} (hp : ht_rp (N a) = .inr zo) (hlt : ht_rl (N a) < ht_part k bk) {hv : ht_K} (hhv : hv = ht_h ht_dgf (255 - ht_rl (N a)) (ht_U N L (ht_ch zo (!ht_bit k (ht_rl (N a)))))) (hf : ∀ j i, i < 4 → f' (j * 4 + i) = if j = ht_rl (N a) then ht_kf hv i else f (j * 4 + i)) : ht_pi N F L k bk (ht_ch zo (ht_bit k (ht_rl (N a)))) (ht_rl (N a) + 1) f' := by
  have hlow : ∀ {d : Nat}, d ≤ ht_rl (N a) → ∀ {q : ht_K}, ht_in N a q → d ≤ ht_part k q := fun {d} hd {q} hq => h.low hT hd (by omega) hq
  obtain ⟨ha, hle, hib, hio, hlen, hs⟩ := id h
  have h256 := (hT.half ha hp false).2.1
  have hz := hT.half ha hp (ht_bit k (ht_rl (N a)))
  have hz' := hT.half ha hp (!ht_bit k (ht_rl (N a)))
  refine ⟨hz.1, hz.2.2.1, (hz.2.2.2 (bk, bv) hb).mp ⟨hib, (ht_part_ag k bk _ hlt).symm⟩, fun q hq => ⟨fun h1 => ?_, fun h1 => ?_⟩, fun j hj => ?_, fun j i hj hi => ?_⟩
  · exact (hz.2.2.2 q hq).mp ⟨(hio q hq).mp (by omega), (ht_part_ag k q.1 _ (by omega)).symm⟩
  · obtain ⟨h2, h3⟩ := (hz.2.2.2 q hq).mpr h1
    have h4 := hlow (Nat.le_refl _) h2
    refine Nat.lt_of_le_of_ne h4 (fun e => ?_)
    exact ht_part_ne (k := k) (k' := q.1) (by omega) (by rw [← e]; exact h3.symm)
  · by_cases e : j < lv
    · exact hlen j e
    · rw [ht_Uk_U (N := N) (a := a) (fun q hq => ⟨fun h1 => (hio q hq).mp (by omega), fun h1 => hlow (by omega) h1⟩)]
      exact hT.len ha hp
  · rw [hf j i hi]
    by_cases e : j = ht_rl (N a)
    · rw [if_pos e, if_pos (by omega), hhv, e]
      congr 2
      refine (ht_Vk_U (fun q hq => ⟨fun h1 => ?_, fun h1 => ?_⟩)).symm
      · refine (hz'.2.2.2 q hq).mp ⟨(hio q hq).mp (by omega), ht_bb ?_⟩
        have := ht_part_ne (k := k) (k' := q.1) (by omega)
        rw [h1] at this
        exact this
      · obtain ⟨h2, h3⟩ := (hz'.2.2.2 q hq).mpr h1
        have h4 := hlow (Nat.le_refl _) h2
        refine Nat.le_antisymm (Nat.not_lt.mp (fun h5 => ?_)) h4
        have := ht_part_ag k q.1 _ h5
        rw [h3] at this
        cases hc : ht_bit k (ht_rl (N a)) <;> rw [hc] at this <;> cases this
    · rw [if_neg e, hs j i hj hi]
      by_cases e1 : j < lv
      · rw [if_pos e1, if_pos (by omega)]
      · rw [if_neg e1]
        by_cases e2 : j < ht_rl (N a) + 1
        · rw [if_pos e2, ht_Vk_nil (fun q hq h1 => ?_), ht_h_nil, ht_kz0]
          have h2 := hlow (Nat.le_refl _) ((hio q hq).mp (by omega))
          omega
        · rw [if_neg e2]
theorem ht_pi.leaf {N : ht_N} {F : List Nat} {top : Option Nat} {L : ht_L} {k : ht_K} {a b lv : Nat} {f : Nat → Int64} (hT : ht_T N F top L) (h : ht_pi N F L k (ht_rk (N b)) a lv f) (hb : b ∈ F) {v v' : ht_K} (hp : ht_rp (N a) = .inl v) (hpb : ht_rp (N b) = .inl v') {enf : Nat → Int64} {ei : Int32} (hei : (ht_part k (ht_rk (N b)) = 256 ∧ ei = 1) ∨ (ht_part k (ht_rk (N b)) ≠ 256 ∧ ei = 2)) (he : ∀ i, i < 4 → enf i = ht_kf (ht_rk (N b)) i ∧ enf (4 + i) = ht_kf v' i) : ht_pv L k lv f enf ei := by
  have e : a = b := hT.leaf_eq hb h.1 hpb hp ((hT.leaf_in h.1 hp _).mp h.2.2.1)
  subst e
  obtain ⟨ha, hle, hib, hio, hlen, hs⟩ := id h
  have h256 := (hT.2.2.2.1 a ha v hp).1
  refine ⟨by omega, hlen, hs, Or.inr ⟨ht_rk (N a), v', ?_, ?_, he⟩⟩
  · rw [ht_Uk_U hio, hT.U_leaf ha hpb]
  · rcases hei with ⟨h1, h2⟩ | ⟨h1, h2⟩
    · exact Or.inl ⟨(ht_part_eq.mp h1).symm, h2⟩
    · exact Or.inr ⟨fun e => h1 (ht_part_eq.mpr e.symm), h2⟩
theorem ht_pi.lt {N : ht_N} {F : List Nat} {top : Option Nat} {L : ht_L} {k bk : ht_K} {a lv : Nat} {f : Nat → Int64} (hT : ht_T N F top L) (h : ht_pi N F L k bk a lv f) (hmax : ∀ q ∈ L, ht_part k q.1 ≤ ht_part k bk) {zo : Nat × Nat} (hp : ht_rp (N a) = .inr zo) (hge : ht_part k bk ≤ ht_rl (N a)) : ht_part k bk < ht_rl (N a) := by
  refine Nat.lt_of_le_of_ne hge (fun e => ?_)
  have h256 := (hT.half h.1 hp false).2.1
  obtain ⟨q, hq, h1, h2, -⟩ := hT.side h.1 hp (ht_bit k (ht_rl (N a)))
  have h3 : ht_ag k q.1 (ht_rl (N a)) := ht_ag_trans (ht_ag_le (ht_part_ag k bk) (by omega)) (hT.two h.1 h.2.2.1 h1)
  have h4 : ht_ag k q.1 (ht_rl (N a) + 1) := ht_ag_s h3 h2.symm
  have h5 := (ht_ag_part (by omega)).mp h4
  have h6 := hmax q hq
  omega
theorem ht_pi.branch {N : ht_N} {F : List Nat} {top : Option Nat} {L : ht_L} {k bk bv : ht_K} {a lv : Nat} {f f' : Nat → Int64} (hT : ht_T N F top L) (h : ht_pi N F L k bk a lv f) (hb : (bk, bv) ∈ L) (hmax : ∀ q ∈ L, ht_part k q.1 ≤ ht_part k bk) {zo : Nat × Nat} (hp : ht_rp (N a) = .inr zo) (hlt : ht_part k bk < ht_rl (N a)) {hv : ht_K} (hhv : hv = ht_h ht_dgf (256 - (ht_part k bk + 1)) (ht_U N L a)) (hf : ∀ j i, i < 4 → f' (j * 4 + i) = if j = ht_part k bk then ht_kf hv i else f (j * 4 + i)) {enf : Nat → Int64} (he : ∀ i, i < 8 → enf i = 0) : ht_pv L k (ht_part k bk + 1) f' enf 0 := by
  obtain ⟨ha, hle, hib, hio, hlen, hs⟩ := id h
  have h256 := (hT.half ha hp false).2.1
  have hlo : lv ≤ ht_part k bk := (hio (bk, bv) hb).mpr hib
  have hin : ∀ q ∈ L, ht_in N a q.1 → ht_part k q.1 = ht_part k bk := fun q hq hi => by
    refine ht_part_is (ht_part_le k bk) (ht_ag_trans (ht_part_ag k bk) (ht_ag_le (hT.two ha hib hi) (by omega))) (fun _ => ?_)
    rw [← hT.two ha hib hi _ hlt]
    exact ht_part_ne (by omega)
  refine ⟨by omega, fun j hj => ?_, fun j i hj hi => ?_, Or.inl ⟨ht_Uk_nil (fun q hq h1 => ?_), rfl, he⟩⟩
  · by_cases e : j < lv
    · exact hlen j e
    · rw [ht_Uk_U (N := N) (a := a) (fun q hq => ⟨fun h1 => (hio q hq).mp (by omega), fun h1 => by rw [hin q hq h1]; omega⟩)]
      exact hT.len ha hp
  · rw [hf j i hi]
    by_cases e : j = ht_part k bk
    · rw [if_pos e, if_pos (by omega), hhv, e, show 256 - (ht_part k bk + 1) = 255 - ht_part k bk by omega]
      congr 2
      exact (ht_Vk_U (fun q hq => ⟨fun h1 => (hio q hq).mp (by omega), fun h1 => hin q hq h1⟩)).symm
    · rw [if_neg e, hs j i hj hi]
      by_cases e1 : j < lv
      · rw [if_pos e1, if_pos (by omega)]
      · rw [if_neg e1]
        by_cases e2 : j < ht_part k bk + 1
        · rw [if_pos e2, ht_Vk_nil (fun q hq h1 => ?_), ht_h_nil, ht_kz0]
          have h2 := hin q hq ((hio q hq).mp (by omega))
          omega
        · rw [if_neg e2]
  · have := hmax q hq
    omega
theorem ht_pv_nil {k : ht_K} {sbf enf : Nat → Int64} (hs : ∀ j, j < 1024 → sbf j = 0) (he : ∀ j, j < 8 → enf j = 0) : ht_pv [] k 0 sbf enf 0 := ⟨Nat.zero_le _, fun j hj => absurd hj (Nat.not_lt_zero j), fun j i hj hi => by rw [if_neg (Nat.not_lt_zero j)]; exact hs _ (by omega), Or.inl ⟨rfl, rfl, he⟩⟩
theorem ht_cpr {hk f : Nat → Int64} {d : Nat} : ∀ j i, i < 4 → va_cpy hk f 0 (d * 4) 4 (j * 4 + i) = if j = d then hk i else f (j * 4 + i) := by
  intro j i hi
  by_cases e : j = d
  · rw [if_pos e, pk_cpy_in (by omega) (by omega)]
    congr 1
    omega
  · rw [if_neg e, pk_cpy_out (by omega)]
theorem ht_cpe {fk fv f : Nat → Int64} : ∀ i, i < 4 → va_cpy fv (va_cpy fk f 0 0 4) 0 4 4 i = fk i ∧ va_cpy fv (va_cpy fk f 0 0 4) 0 4 4 (4 + i) = fv i := by
  intro i hi
  refine ⟨?_, ?_⟩
  · rw [pk_cpy_out (by omega), pk_cpy_in (by omega) (by omega)]
    congr 1
    omega
  · rw [pk_cpy_in (by omega) (by omega)]
    congr 1
    omega
