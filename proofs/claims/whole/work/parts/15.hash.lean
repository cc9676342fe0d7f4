/-! The hash of a node's keys at the levels above it. -/
theorem ht_len2 {α : Type} {l : List α} {x y : α} (hx : x ∈ l) (hy : y ∈ l) (hne : x ≠ y) : 2 ≤ l.length := by
  match l, hx, hy with
  | [z], hx, hy =>
    rw [List.mem_singleton] at hx hy
    exact absurd (hx.trans hy.symm) hne
  | z :: z' :: t, _, _ => simp
theorem ht_U_mem {N : ht_N} {l : ht_L} {a : Nat} {q : ht_K × ht_K} : q ∈ ht_U N l a ↔ q ∈ l ∧ ht_in N a q.1 := by
  unfold ht_U ht_in
  rw [List.mem_filter]
  exact ⟨fun x => ⟨x.1, of_decide_eq_true x.2⟩, fun x => ⟨x.1, decide_eq_true x.2⟩⟩
theorem ht_T.len {N : ht_N} {F : List Nat} {top : Option Nat} {l : ht_L} (h : ht_T N F top l) {a : Nat} (ha : a ∈ F) {zo : Nat × Nat} (hp : ht_rp (N a) = .inr zo) : 2 ≤ (ht_U N l a).length := by
  obtain ⟨q0, m0, i0, b0, -⟩ := h.side ha hp false
  obtain ⟨q1, m1, i1, b1, -⟩ := h.side ha hp true
  refine ht_len2 (ht_U_mem.mpr ⟨m0, i0⟩) (ht_U_mem.mpr ⟨m1, i1⟩) (fun e => ?_)
  rw [e, b1] at b0
  cases b0
theorem ht_T.U_half {N : ht_N} {F : List Nat} {top : Option Nat} {l : ht_L} (h : ht_T N F top l) {a : Nat} (ha : a ∈ F) {zo : Nat × Nat} (hp : ht_rp (N a) = .inr zo) (b : Bool) (f : ht_K × ht_K → Bool) (hf : ∀ q, f q = true ↔ ht_bit q.1 (ht_rl (N a)) = b) : (ht_U N l a).filter f = ht_U N l (ht_ch zo b) := by
  obtain ⟨z1, z2, z3⟩ := h.half ha hp b
  unfold ht_U
  rw [List.filter_filter]
  refine List.filter_congr (fun q hq => ?_)
  have := z3.2 q hq
  unfold ht_in at this
  rw [Bool.eq_iff_iff, Bool.and_eq_true, decide_eq_true_iff, decide_eq_true_iff, hf, ← this]
  exact And.comm
theorem ht_T.hash_b (dg : Int32 → ht_K → ht_K → ht_K) {N : ht_N} {F : List Nat} {top : Option Nat} {l : ht_L} (h : ht_T N F top l) {a : Nat} (ha : a ∈ F) {zo : Nat × Nat} (hp : ht_rp (N a) = .inr zo) : ht_h dg (256 - ht_rl (N a)) (ht_U N l a) = dg 1 (ht_h dg (255 - ht_rl (N a)) (ht_U N l zo.1)) (ht_h dg (255 - ht_rl (N a)) (ht_U N l zo.2)) := by
  have hlt := (h.half ha hp false).2.1
  have e : 256 - ht_rl (N a) = (255 - ht_rl (N a)) + 1 := by omega
  rw [e, ht_h_more dg _ (h.len ha hp)]
  have e2 : 255 - (255 - ht_rl (N a)) = ht_rl (N a) := by omega
  rw [e2, h.U_half ha hp false _ (fun q => by cases ht_bit q.1 (ht_rl (N a)) <;> simp), h.U_half ha hp true _ (fun q => Iff.rfl)]
  rfl
theorem ht_T.hash_c (dg : Int32 → ht_K → ht_K → ht_K) {N : ht_N} {F : List Nat} {top : Option Nat} {l : ht_L} (h : ht_T N F top l) {a : Nat} (ha : a ∈ F) {zo : Nat × Nat} (hp : ht_rp (N a) = .inr zo) {d : Nat} (hd : d < ht_rl (N a)) : ht_h dg (256 - d) (ht_U N l a) = if ht_bit (ht_rk (N a)) d then dg 1 ht_kz (ht_h dg (255 - d) (ht_U N l a)) else dg 1 (ht_h dg (255 - d) (ht_U N l a)) ht_kz := by
  have hlt := (h.half ha hp false).2.1
  have e : 256 - d = (255 - d) + 1 := by omega
  rw [e]
  refine ht_h_side dg _ (h.len ha hp) _ (fun q hq => ?_)
  have e2 : 255 - (255 - d) = d := by omega
  rw [e2]
  exact (((ht_in_ag (h.lv ha)).mp (ht_U_mem.mp hq).2) d hd).symm
theorem ht_one : ∀ {l : ht_L}, (l.map (·.1)).Nodup → ∀ {q : ht_K × ht_K}, q ∈ l → ∀ (f : ht_K × ht_K → Bool), (∀ x ∈ l, f x = true ↔ q.1 = x.1) → l.filter f = [q] := by
  intro l
  induction l with
  | nil => intro _ q hq; cases hq
  | cons x t ih =>
    intro h q hq f hf
    rw [List.map_cons] at h
    obtain ⟨h1, h2⟩ := List.nodup_cons.mp h
    rcases List.mem_cons.mp hq with e | e
    · subst e
      rw [List.filter_cons, if_pos ((hf q List.mem_cons_self).mpr rfl), List.filter_eq_nil_iff.mpr]
      intro y hy hfy
      exact h1 (List.mem_map.mpr ⟨y, hy, ((hf y (List.mem_cons_of_mem _ hy)).mp hfy).symm⟩)
    · rw [List.filter_cons, if_neg, ih h2 e f (fun y hy => hf y (List.mem_cons_of_mem _ hy))]
      intro hfx
      exact h1 (List.mem_map.mpr ⟨q, e, (hf x List.mem_cons_self).mp hfx⟩)
theorem ht_T.U_leaf {N : ht_N} {F : List Nat} {top : Option Nat} {l : ht_L} (h : ht_T N F top l) {a : Nat} (ha : a ∈ F) {v : ht_K} (hp : ht_rp (N a) = .inl v) : ht_U N l a = [(ht_rk (N a), v)] := by
  refine ht_one h.2.1 (h.2.2.2.1 a ha v hp).2 _ (fun x _ => ?_)
  have := h.leaf_in ha hp x.1
  unfold ht_in at this
  rw [decide_eq_true_iff]
  exact this
