/-! Keys, their bits, the level at which two part; the hash of a list of (key, value) by levels. -/
abbrev ht_K : Type := Int64 × Int64 × Int64 × Int64
def ht_kf (k : ht_K) : Nat → Int64 := fun j => if j = 0 then k.1 else if j = 1 then k.2.1 else if j = 2 then k.2.2.1 else k.2.2.2
def ht_kz : ht_K := (0, 0, 0, 0)
/-- bit d of a key, from the highest on -/
def ht_bit (k : ht_K) (d : Nat) : Bool := (ht_kf k (d / 64)).toBitVec.getMsbD (d % 64)
theorem ht_kf_ext {k k' : ht_K} (h : ∀ j, j < 4 → ht_kf k j = ht_kf k' j) : k = k' := by
  obtain ⟨a, b, c, d⟩ := k
  obtain ⟨a', b', c', d'⟩ := k'
  have h0 : a = a' := h 0 (by decide)
  have h1 : b = b' := h 1 (by decide)
  have h2 : c = c' := h 2 (by decide)
  have h3 : d = d' := h 3 (by decide)
  rw [h0, h1, h2, h3]
theorem ht_bit_ext {k k' : ht_K} (h : ∀ d, d < 256 → ht_bit k d = ht_bit k' d) : k = k' := by
  refine ht_kf_ext (fun j hj => ?_)
  apply Int64.toBitVec_inj.mp
  apply BitVec.eq_of_getMsbD_eq
  intro i hi
  have h1 := h (64 * j + i) (by omega)
  unfold ht_bit at h1
  have e1 : (64 * j + i) / 64 = j := by omega
  have e2 : (64 * j + i) % 64 = i := by omega
  rw [e1, e2] at h1
  exact h1
def ht_ag (k k' : ht_K) (d : Nat) : Prop := ∀ j, j < d → ht_bit k j = ht_bit k' j
theorem ht_ag_refl (k : ht_K) (d : Nat) : ht_ag k k d := fun _ _ => rfl
theorem ht_ag_symm {k k' : ht_K} {d : Nat} (h : ht_ag k k' d) : ht_ag k' k d := fun j hj => (h j hj).symm
theorem ht_ag_trans {k k' k'' : ht_K} {d : Nat} (h : ht_ag k k' d) (h' : ht_ag k' k'' d) : ht_ag k k'' d := fun j hj => (h j hj).trans (h' j hj)
theorem ht_ag_le {k k' : ht_K} {d d' : Nat} (h : ht_ag k k' d) (hd : d' ≤ d) : ht_ag k k' d' := fun j hj => h j (Nat.lt_of_lt_of_le hj hd)
theorem ht_ag_s {k k' : ht_K} {d : Nat} (h : ht_ag k k' d) (hb : ht_bit k d = ht_bit k' d) : ht_ag k k' (d + 1) := by
  intro j hj
  rcases Nat.lt_or_ge j d with q | q
  · exact h j q
  · have : j = d := by omega
    subst this
    exact hb
/-- the first level, from d on, at which two keys differ -/
def ht_pa (k k' : ht_K) : Nat → Nat → Nat
  | 0, d => d
  | n + 1, d => if ht_bit k d = ht_bit k' d then ht_pa k k' n (d + 1) else d
def ht_part (k k' : ht_K) : Nat := ht_pa k k' 256 0
theorem ht_pa_spec (k k' : ht_K) : ∀ n d, d ≤ ht_pa k k' n d ∧ ht_pa k k' n d ≤ d + n ∧ (∀ j, d ≤ j → j < ht_pa k k' n d → ht_bit k j = ht_bit k' j) ∧ (ht_pa k k' n d < d + n → ht_bit k (ht_pa k k' n d) ≠ ht_bit k' (ht_pa k k' n d)) := by
  intro n
  induction n with
  | zero => intro d; exact ⟨Nat.le_refl _, Nat.le_refl _, fun j h1 h2 => by simp only [ht_pa] at h2; omega, fun h => by simp only [ht_pa] at h; omega⟩
  | succ n ih =>
    intro d
    obtain ⟨h1, h2, h3, h4⟩ := ih (d + 1)
    unfold ht_pa
    by_cases hb : ht_bit k d = ht_bit k' d
    · rw [if_pos hb]
      refine ⟨by omega, by omega, fun j q1 q2 => ?_, fun q => h4 (by omega)⟩
      rcases Nat.eq_or_lt_of_le q1 with e | e
      · rw [← e]; exact hb
      · exact h3 j e q2
    · rw [if_neg hb]
      exact ⟨Nat.le_refl _, by omega, fun j q1 q2 => by omega, fun _ => hb⟩
theorem ht_part_le (k k' : ht_K) : ht_part k k' ≤ 256 := by
  have := (ht_pa_spec k k' 256 0).2.1
  unfold ht_part; omega
theorem ht_part_ag (k k' : ht_K) : ht_ag k k' (ht_part k k') := fun j hj => (ht_pa_spec k k' 256 0).2.2.1 j (Nat.zero_le _) hj
theorem ht_part_ne {k k' : ht_K} (h : ht_part k k' < 256) : ht_bit k (ht_part k k') ≠ ht_bit k' (ht_part k k') := (ht_pa_spec k k' 256 0).2.2.2 (by unfold ht_part at h; omega)
theorem ht_part_eq {k k' : ht_K} : ht_part k k' = 256 ↔ k = k' := by
  constructor
  · intro h
    exact ht_bit_ext (fun d hd => ht_part_ag k k' d (by rw [h]; exact hd))
  · intro h
    subst h
    rcases Nat.lt_or_ge (ht_part k k) 256 with q | q
    · exact absurd rfl (ht_part_ne q)
    · exact Nat.le_antisymm (ht_part_le k k) q
theorem ht_part_is {k k' : ht_K} {p : Nat} (hp : p ≤ 256) (ha : ht_ag k k' p) (hn : p < 256 → ht_bit k p ≠ ht_bit k' p) : ht_part k k' = p := by
  rcases Nat.lt_trichotomy (ht_part k k') p with h | h | h
  · exact absurd (ha _ h) (ht_part_ne (by omega))
  · exact h
  · exact absurd (ht_part_ag k k' p h) (hn (Nat.lt_of_lt_of_le h (ht_part_le k k')))
theorem ht_ag_part {k k' : ht_K} {d : Nat} (hd : d ≤ 256) : ht_ag k k' d ↔ d ≤ ht_part k k' := by
  constructor
  · intro h
    rcases Nat.lt_or_ge (ht_part k k') d with q | q
    · exact absurd (h _ q) (ht_part_ne (by omega))
    · exact q
  · intro h
    exact ht_ag_le (ht_part_ag k k') h
theorem ht_part_comm (k k' : ht_K) : ht_part k k' = ht_part k' k :=
  ht_part_is (ht_part_le k' k) (ht_ag_symm (ht_part_ag k' k)) (fun h => (ht_part_ne h).symm)
section HASH
variable (dg : Int32 → ht_K → ht_K → ht_K)
/-- the hash at level 256 - n -/
def ht_h : Nat → List (ht_K × ht_K) → ht_K
  | _, [] => ht_kz
  | _, [q] => dg 0 q.1 q.2
  | 0, _ => ht_kz
  | n + 1, l => dg 1 (ht_h n (l.filter (fun q => !ht_bit q.1 (255 - n)))) (ht_h n (l.filter (fun q => ht_bit q.1 (255 - n))))
theorem ht_h_nil (n : Nat) : ht_h dg n [] = ht_kz := by cases n <;> rfl
theorem ht_h_one (n : Nat) (q : ht_K × ht_K) : ht_h dg n [q] = dg 0 q.1 q.2 := by cases n <;> rfl
theorem ht_h_more (n : Nat) {l : List (ht_K × ht_K)} (h : 2 ≤ l.length) : ht_h dg (n + 1) l = dg 1 (ht_h dg n (l.filter (fun q => !ht_bit q.1 (255 - n)))) (ht_h dg n (l.filter (fun q => ht_bit q.1 (255 - n)))) := by
  match l, h with
  | a :: b :: t, _ => rfl
theorem ht_h_zero {l : List (ht_K × ht_K)} (h : 2 ≤ l.length) : ht_h dg 0 l = ht_kz := by
  match l, h with
  | a :: b :: t, _ => rfl
theorem ht_h_perm : ∀ (n : Nat) {l l' : List (ht_K × ht_K)}, l.Perm l' → ht_h dg n l = ht_h dg n l' := by
  intro n
  induction n with
  | zero =>
    intro l l' h
    match l, h with
    | [], h => rw [h.nil_eq]
    | [q], h => rw [List.perm_singleton.mp h.symm]
    | a :: b :: t, h =>
      rw [ht_h_zero dg (by simp), ht_h_zero dg (by rw [← h.length_eq]; simp)]
  | succ n ih =>
    intro l l' h
    match l, h with
    | [], h => rw [h.nil_eq]
    | [q], h => rw [List.perm_singleton.mp h.symm]
    | a :: b :: t, h =>
      rw [ht_h_more dg n (l := a :: b :: t) (by simp), ht_h_more dg n (l := l') (by rw [← h.length_eq]; simp), ih (h.filter _), ih (h.filter _)]
/-- all keys go the same way at this level -/
theorem ht_h_side (n : Nat) {l : List (ht_K × ht_K)} (h : 2 ≤ l.length) (b : Bool) (hb : ∀ q ∈ l, ht_bit q.1 (255 - n) = b) : ht_h dg (n + 1) l = if b then dg 1 ht_kz (ht_h dg n l) else dg 1 (ht_h dg n l) ht_kz := by
  rw [ht_h_more dg n h]
  cases b with
  | true =>
    rw [List.filter_eq_nil_iff.mpr (fun q hq => by rw [hb q hq]; decide), List.filter_eq_self.mpr (fun q hq => hb q hq), ht_h_nil]
    rfl
  | false =>
    rw [List.filter_eq_self.mpr (fun q hq => by rw [hb q hq]; rfl), List.filter_eq_nil_iff.mpr (fun q hq => by rw [hb q hq]; decide), ht_h_nil]
    rfl
end HASH
