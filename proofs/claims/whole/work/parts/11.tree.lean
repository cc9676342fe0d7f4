/-! The tree of branches, by conditions that each node meets by itself: no recursion. -/
/-- a node: key, level, hash, fresh, and a value or two halves -/
abbrev ht_R : Type := ht_K × Nat × ht_K × Bool × (ht_K ⊕ (Nat × Nat))
abbrev ht_N : Type := Nat → ht_R
def ht_rk (r : ht_R) : ht_K := r.1
def ht_rl (r : ht_R) : Nat := r.2.1
def ht_rh (r : ht_R) : ht_K := r.2.2.1
def ht_rf (r : ht_R) : Bool := r.2.2.2.1
def ht_rp (r : ht_R) : ht_K ⊕ (Nat × Nat) := r.2.2.2.2
abbrev ht_L : Type := List (ht_K × ht_K)
/-- a key goes under a node -/
def ht_in (N : ht_N) (a : Nat) (k : ht_K) : Prop := ht_rl (N a) ≤ ht_part (ht_rk (N a)) k
def ht_U (N : ht_N) (l : ht_L) (a : Nat) : ht_L := l.filter (fun q => decide (ht_rl (N a) ≤ ht_part (ht_rk (N a)) q.1))
def ht_half (N : ht_N) (l : ht_L) (a z : Nat) (b : Bool) : Prop := ht_rl (N a) < ht_rl (N z) ∧ ∀ q ∈ l, (ht_in N a q.1 ∧ ht_bit q.1 (ht_rl (N a)) = b) ↔ ht_in N z q.1
/-- the half of a branch at which a key goes -/
def ht_ch (zo : Nat × Nat) (b : Bool) : Nat := if b then zo.2 else zo.1
def ht_T1 (N : ht_N) (F : List Nat) (l : ht_L) : Prop := ∀ a ∈ F, ∀ v, ht_rp (N a) = .inl v → ht_rl (N a) = 256 ∧ (ht_rk (N a), v) ∈ l
def ht_T2 (N : ht_N) (F : List Nat) (l : ht_L) : Prop := ∀ q ∈ l, ∃ a ∈ F, ht_rp (N a) = .inl q.2 ∧ ht_rk (N a) = q.1
def ht_T3 (N : ht_N) (F : List Nat) (l : ht_L) : Prop := ∀ a ∈ F, ∀ zo, ht_rp (N a) = .inr zo → ht_rl (N a) < 256 ∧ ∀ b, ht_ch zo b ∈ F ∧ ht_half N l a (ht_ch zo b) b
def ht_T4 (N : ht_N) (F : List Nat) : Prop := ∀ a ∈ F, ∀ b ∈ F, ht_rl (N a) = ht_rl (N b) → ht_in N a (ht_rk (N b)) → a = b
def ht_T5 (N : ht_N) (F : List Nat) (l : ht_L) : Prop := ∀ a ∈ F, ∃ q ∈ l, ht_in N a q.1
def ht_T0 (N : ht_N) (F : List Nat) (top : Option Nat) (l : ht_L) : Prop := (∀ t, top = some t → t ∈ F ∧ ∀ q ∈ l, ht_in N t q.1) ∧ (top = none → F = [] ∧ l = [])
def ht_T (N : ht_N) (F : List Nat) (top : Option Nat) (l : ht_L) : Prop := F.Nodup ∧ (l.map (·.1)).Nodup ∧ ht_T0 N F top l ∧ ht_T1 N F l ∧ ht_T2 N F l ∧ ht_T3 N F l ∧ ht_T4 N F ∧ ht_T5 N F l
theorem ht_T.lv {N : ht_N} {F : List Nat} {top : Option Nat} {l : ht_L} (h : ht_T N F top l) {a : Nat} (ha : a ∈ F) : ht_rl (N a) ≤ 256 := by
  obtain ⟨-, -, -, h1, -, h3, -⟩ := h
  cases hp : ht_rp (N a) with
  | inl v => exact Nat.le_of_eq (h1 a ha v hp).1
  | inr zo => exact Nat.le_of_lt (h3 a ha zo hp).1
theorem ht_T.half {N : ht_N} {F : List Nat} {top : Option Nat} {l : ht_L} (h : ht_T N F top l) {a : Nat} (ha : a ∈ F) {zo : Nat × Nat} (hp : ht_rp (N a) = .inr zo) (b : Bool) : ht_ch zo b ∈ F ∧ ht_rl (N a) < 256 ∧ ht_half N l a (ht_ch zo b) b := by
  obtain ⟨-, -, -, -, -, h3, -⟩ := h
  obtain ⟨q1, q2⟩ := h3 a ha zo hp
  exact ⟨(q2 b).1, q1, (q2 b).2⟩
theorem ht_in_ag {N : ht_N} {a : Nat} {k : ht_K} (hl : ht_rl (N a) ≤ 256) : ht_in N a k ↔ ht_ag (ht_rk (N a)) k (ht_rl (N a)) := (ht_ag_part hl).symm
/-- both sides of a branch have keys -/
theorem ht_T.side {N : ht_N} {F : List Nat} {top : Option Nat} {l : ht_L} (h : ht_T N F top l) {a : Nat} (ha : a ∈ F) {zo : Nat × Nat} (hp : ht_rp (N a) = .inr zo) (b : Bool) : ∃ q ∈ l, ht_in N a q.1 ∧ ht_bit q.1 (ht_rl (N a)) = b ∧ ht_in N (ht_ch zo b) q.1 := by
  obtain ⟨q1, -, q3⟩ := h.half ha hp b
  obtain ⟨-, -, -, -, -, -, -, h5⟩ := h
  obtain ⟨q, hq, hi⟩ := h5 _ q1
  obtain ⟨x, y⟩ := (q3.2 q hq).mpr hi
  exact ⟨q, hq, x, y, hi⟩
/-- two keys under a node agree in the bits before its level -/
theorem ht_T.two {N : ht_N} {F : List Nat} {top : Option Nat} {l : ht_L} (h : ht_T N F top l) {a : Nat} (ha : a ∈ F) {k k' : ht_K} (hk : ht_in N a k) (hk' : ht_in N a k') : ht_ag k k' (ht_rl (N a)) :=
  ht_ag_trans (ht_ag_symm ((ht_in_ag (h.lv ha)).mp hk)) ((ht_in_ag (h.lv ha)).mp hk')
theorem ht_T.up {N : ht_N} {F : List Nat} {top : Option Nat} {l : ht_L} (h : ht_T N F top l) {a : Nat} (ha : a ∈ F) {k k' : ht_K} (hk : ht_in N a k) (hg : ht_ag k k' (ht_rl (N a))) : ht_in N a k' :=
  (ht_in_ag (h.lv ha)).mpr (ht_ag_trans ((ht_in_ag (h.lv ha)).mp hk) hg)
/-- no node stands between a branch and its half, on a key's way -/
theorem ht_T.nojump {N : ht_N} {F : List Nat} {top : Option Nat} {l : ht_L} (h : ht_T N F top l) {a c : Nat} (ha : a ∈ F) (hc : c ∈ F) {zo : Nat × Nat} (hp : ht_rp (N c) = .inr zo) {k : ht_K} (hk : ht_in N c k) (hka : ht_in N a k) (hlt : ht_rl (N c) < ht_rl (N a)) : ht_rl (N (ht_ch zo (ht_bit k (ht_rl (N c))))) ≤ ht_rl (N a) := by
  obtain ⟨z1, z2, z3⟩ := h.half hc hp (ht_bit k (ht_rl (N c)))
  cases hpa : ht_rp (N a) with
  | inl v =>
    rw [(h.2.2.2.1 a ha v hpa).1]
    exact h.lv z1
  | inr zo' =>
    obtain ⟨q0, m0, i0, b0, -⟩ := h.side ha hpa false
    obtain ⟨q1, m1, i1, b1, -⟩ := h.side ha hpa true
    have g0 := h.two ha hka i0
    have g1 := h.two ha hka i1
    have j0 := (z3.2 q0 m0).mp ⟨h.up hc hk (ht_ag_le g0 (Nat.le_of_lt hlt)), (g0 _ hlt).symm⟩
    have j1 := (z3.2 q1 m1).mp ⟨h.up hc hk (ht_ag_le g1 (Nat.le_of_lt hlt)), (g1 _ hlt).symm⟩
    have g := h.two z1 j0 j1
    rcases Nat.lt_or_ge (ht_rl (N a)) (ht_rl (N (ht_ch zo (ht_bit k (ht_rl (N c)))))) with q | q
    · have := g _ q
      rw [b0, b1] at this
      cases this
    · exact q
theorem ht_T.same {N : ht_N} {F : List Nat} {top : Option Nat} {l : ht_L} (h : ht_T N F top l) {a c : Nat} (ha : a ∈ F) (hc : c ∈ F) {k : ht_K} (hk : ht_in N c k) (hka : ht_in N a k) (hl : ht_rl (N a) = ht_rl (N c)) : a = c := by
  refine h.2.2.2.2.2.2.1 a ha c hc hl ?_
  refine h.up ha hka ?_
  rw [hl]
  exact ht_ag_symm ((ht_in_ag (h.lv hc)).mp hk)
/-- the best of all keys lie under a node -/
def ht_best (N : ht_N) (l : ht_L) (k : ht_K) (a : Nat) : Prop := ∀ q ∈ l, ∃ q' ∈ l, ht_in N a q'.1 ∧ ht_part k q.1 ≤ ht_part k q'.1
theorem ht_T.best0 {N : ht_N} {F : List Nat} {l : ht_L} {t : Nat} (h : ht_T N F (some t) l) (k : ht_K) : ht_best N l k t := fun q hq => ⟨q, hq, (h.2.2.1.1 t rfl).2 q hq, Nat.le_refl _⟩
theorem ht_T.bestS {N : ht_N} {F : List Nat} {top : Option Nat} {l : ht_L} (h : ht_T N F top l) {a : Nat} (ha : a ∈ F) {zo : Nat × Nat} (hp : ht_rp (N a) = .inr zo) {k : ht_K} (hb : ht_best N l k a) : ht_best N l k (ht_ch zo (ht_bit k (ht_rl (N a)))) := by
  intro q hq
  obtain ⟨q', hq', i', le'⟩ := hb q hq
  obtain ⟨z1, z2, z3⟩ := h.half ha hp (ht_bit k (ht_rl (N a)))
  by_cases e : ht_bit q'.1 (ht_rl (N a)) = ht_bit k (ht_rl (N a))
  · exact ⟨q', hq', (z3.2 q' hq').mp ⟨i', e⟩, le'⟩
  · obtain ⟨q2, m2, i2, b2, j2⟩ := h.side ha hp (ht_bit k (ht_rl (N a)))
    refine ⟨q2, m2, j2, Nat.le_trans le' ?_⟩
    have hle : ht_part k q'.1 ≤ ht_rl (N a) := by
      rcases Nat.lt_or_ge (ht_rl (N a)) (ht_part k q'.1) with x | x
      · exact absurd (ht_part_ag k q'.1 _ x).symm e
      · exact x
    refine (ht_ag_part (ht_part_le _ _)).mp ?_
    exact ht_ag_trans (ht_part_ag k q'.1) (ht_ag_le (h.two ha i' i2) hle)
theorem ht_T.bestE {N : ht_N} {F : List Nat} {top : Option Nat} {l : ht_L} (h : ht_T N F top l) {a : Nat} (ha : a ∈ F) {v : ht_K} (hp : ht_rp (N a) = .inl v) {k : ht_K} (hb : ht_best N l k a) : ∀ q ∈ l, ht_part k q.1 ≤ ht_part k (ht_rk (N a)) := by
  intro q hq
  obtain ⟨q', hq', i', le'⟩ := hb q hq
  have e : ht_rk (N a) = q'.1 := by
    have h1 := (h.2.2.2.1 a ha v hp).1
    refine ht_part_eq.mp (Nat.le_antisymm (ht_part_le _ _) ?_)
    have i2 : ht_rl (N a) ≤ ht_part (ht_rk (N a)) q'.1 := i'
    rw [h1] at i2
    exact i2
  rw [e]
  exact le'
theorem ht_T.parentL {N : ht_N} {F : List Nat} {top : Option Nat} {l : ht_L} (h : ht_T N F top l) {a c : Nat} (ha : a ∈ F) (hc : c ∈ F) {zo zo' : Nat × Nat} (hp : ht_rp (N a) = .inr zo) (hp' : ht_rp (N c) = .inr zo') {b b' : Bool} (he : ht_ch zo b = ht_ch zo' b') : ¬ ht_rl (N a) < ht_rl (N c) := by
  intro hlt
  obtain ⟨q, hq, i1, b1, j1⟩ := h.side ha hp b
  obtain ⟨z1, z2, z3⟩ := h.half ha hp b
  obtain ⟨y1, y2, y3⟩ := h.half hc hp' b'
  obtain ⟨q', hq', i2, b2, j2⟩ := h.side hc hp' (!b')
  have ic : ht_in N c q.1 ∧ ht_bit q.1 (ht_rl (N c)) = b' := (y3.2 q hq).mpr (he ▸ j1)
  have g := h.two hc ic.1 i2
  have ia : ht_in N a q'.1 := h.up ha i1 (ht_ag_le g (Nat.le_of_lt hlt))
  have jz := (z3.2 q' hq').mp ⟨ia, by rw [← g _ hlt]; exact b1⟩
  have g2 := h.two z1 j1 jz
  have e := g2 _ (by rw [he]; exact y3.1)
  rw [ic.2, b2] at e
  cases b' <;> cases e
/-- a node has one parent -/
theorem ht_T.parent {N : ht_N} {F : List Nat} {top : Option Nat} {l : ht_L} (h : ht_T N F top l) {a c : Nat} (ha : a ∈ F) (hc : c ∈ F) {zo zo' : Nat × Nat} (hp : ht_rp (N a) = .inr zo) (hp' : ht_rp (N c) = .inr zo') {b b' : Bool} (he : ht_ch zo b = ht_ch zo' b') : a = c := by
  have e : ht_rl (N a) = ht_rl (N c) := Nat.le_antisymm (Nat.not_lt.mp (h.parentL hc ha hp' hp he.symm)) (Nat.not_lt.mp (h.parentL ha hc hp hp' he))
  obtain ⟨q, hq, i1, b1, j1⟩ := h.side ha hp b
  obtain ⟨y1, y2, y3⟩ := h.half hc hp' b'
  exact h.same ha hc ((y3.2 q hq).mpr (he ▸ j1)).1 i1 e
/-- the top is nobody's half -/
theorem ht_T.noparent {N : ht_N} {F : List Nat} {l : ht_L} {t : Nat} (h : ht_T N F (some t) l) {a : Nat} (ha : a ∈ F) {zo : Nat × Nat} (hp : ht_rp (N a) = .inr zo) {b : Bool} : ht_ch zo b ≠ t := by
  intro e
  obtain ⟨q, hq, i1, b1, j1⟩ := h.side ha hp (!b)
  obtain ⟨z1, z2, z3⟩ := h.half ha hp b
  have := ((z3.2 q hq).mpr (by rw [e]; exact (h.2.2.1.1 t rfl).2 q hq)).2
  rw [b1] at this
  cases b <;> cases this
/-- the top stands above all -/
theorem ht_T.topL {N : ht_N} {F : List Nat} {l : ht_L} {t : Nat} (h : ht_T N F (some t) l) {a : Nat} (ha : a ∈ F) : ht_rl (N t) ≤ ht_rl (N a) := by
  obtain ⟨ht, hall⟩ := h.2.2.1.1 t rfl
  cases hpa : ht_rp (N a) with
  | inl v =>
    rw [(h.2.2.2.1 a ha v hpa).1]
    exact h.lv ht
  | inr zo' =>
    obtain ⟨q0, m0, i0, b0, -⟩ := h.side ha hpa false
    obtain ⟨q1, m1, i1, b1, -⟩ := h.side ha hpa true
    have g := h.two ht (hall q0 m0) (hall q1 m1)
    rcases Nat.lt_or_ge (ht_rl (N a)) (ht_rl (N t)) with q | q
    · have := g _ q
      rw [b0, b1] at this
      cases this
    · exact q
