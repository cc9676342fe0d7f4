/-! The reference's way to the hash: groups of keys that agree in their first bits. -/
def ht_gp (d : Nat) (G : List ht_L) : Prop := (∀ g ∈ G, g ≠ [] ∧ ∀ q ∈ g, ∀ q' ∈ g, ht_ag q.1 q'.1 d) ∧ G.Pairwise (fun g g' => ∀ q ∈ g, ∀ q' ∈ g', ht_klt q.1 q'.1 ∧ ¬ ht_ag q.1 q'.1 d)
def ht_ga (bf sf : Nat → Int32) (hf : Nat → Int64) (hh : ht_L → ht_K) : Nat → Nat → List ht_L → Prop
  | _, _, [] => True
  | ps, off, g :: G => bf ps = nI off ∧ sf ps = nI g.length ∧ ht_row hf (4 * ps) (hh g) ∧ ht_ga bf sf hf hh (ps + 1) (off + g.length) G
theorem ht_ga.app {bf sf : Nat → Int32} {hf : Nat → Int64} {hh : ht_L → ht_K} : ∀ {P : List ht_L} {ps off : Nat} {Q : List ht_L}, ht_ga bf sf hf hh ps off P → ht_ga bf sf hf hh (ps + P.length) (off + P.flatten.length) Q → ht_ga bf sf hf hh ps off (P ++ Q) := by
  intro P
  induction P with
  | nil =>
    intro ps off Q _ h
    exact h
  | cons g P ih =>
    intro ps off Q h h'
    refine ⟨h.1, h.2.1, h.2.2.1, ih h.2.2.2 ?_⟩
    rw [List.length_cons, List.flatten_cons, List.length_append, show ps + (P.length + 1) = ps + 1 + P.length by omega, show off + (g.length + P.flatten.length) = off + g.length + P.flatten.length by omega] at h'
    exact h'
theorem ht_ga.cg {bf sf bf' sf' : Nat → Int32} {hf hf' : Nat → Int64} {hh : ht_L → ht_K} : ∀ {P : List ht_L} {ps off : Nat}, ht_ga bf sf hf hh ps off P → (∀ j, ps ≤ j → j < ps + P.length → bf' j = bf j ∧ sf' j = sf j ∧ ∀ i, i < 4 → hf' (4 * j + i) = hf (4 * j + i)) → ht_ga bf' sf' hf' hh ps off P := by
  intro P
  induction P with
  | nil => intro _ _ _ _; trivial
  | cons g P ih =>
    intro ps off h hc
    have h0 := hc ps (Nat.le_refl _) (by rw [List.length_cons]; omega)
    exact ⟨h0.1.trans h.1, h0.2.1.trans h.2.1, h.2.2.1.cg h0.2.2, ih h.2.2.2 (fun j h1 h2 => hc j (by omega) (by rw [List.length_cons]; omega))⟩
/-- some groups are done at level d, the others stand at level d + 1 -/
def ht_si (d : Nat) (P Q : List ht_L) : Prop := ht_gp d P ∧ ht_gp (d + 1) Q ∧ ∀ g ∈ P, ∀ g' ∈ Q, ∀ q ∈ g, ∀ q' ∈ g', ht_klt q.1 q'.1 ∧ ¬ ht_ag q.1 q'.1 d
theorem ht_si.start {d : Nat} {Q : List ht_L} (h : ht_gp (d + 1) Q) : ht_si d [] Q := ⟨⟨fun g hg => (by cases hg), List.Pairwise.nil⟩, h, fun g hg => (by cases hg)⟩
theorem ht_ne_ex {g : ht_L} (h : g ≠ []) : ∃ q, q ∈ g := by
  cases g with
  | nil => exact absurd rfl h
  | cons q g => exact ⟨q, List.mem_cons_self⟩
theorem ht_ag1 {a b : ht_K} {d : Nat} (h : ht_ag a b (d + 1)) : ht_ag a b d := ht_ag_le h (Nat.le_succ d)
theorem ht_bool3 {a b c : Bool} (h1 : a ≠ b) (h2 : b ≠ c) (h3 : a ≠ c) : False := by cases a <;> cases b <;> cases c <;> first | exact h1 rfl | exact h2 rfl | exact h3 rfl
theorem ht_nag {a b : ht_K} {d : Nat} (h : ht_ag a b d) (h' : ¬ ht_ag a b (d + 1)) : ht_bit a d ≠ ht_bit b d := fun e => h' (ht_ag_s h e)
theorem ht_si.two {d : Nat} {P Q : List ht_L} {g1 g2 : ht_L} (h : ht_si d P (g1 :: g2 :: Q)) {p1 p2 : ht_K × ht_K} (hp1 : p1 ∈ g1) (hp2 : p2 ∈ g2) (hag : ht_ag p1.1 p2.1 d) : ht_si d (P ++ [g1 ++ g2]) Q := by
  obtain ⟨hP, ⟨hQ1, hQ2⟩, hPQ⟩ := h
  have m1 : g1 ∈ g1 :: g2 :: Q := List.mem_cons_self
  have m2 : g2 ∈ g1 :: g2 :: Q := List.mem_cons_of_mem _ List.mem_cons_self
  have w1 := (hQ1 g1 m1).2
  have w2 := (hQ1 g2 m2).2
  have pw := List.pairwise_cons.mp hQ2
  have pw2 := List.pairwise_cons.mp pw.2
  have hall : ∀ q ∈ g1 ++ g2, ht_ag q.1 p1.1 d := fun q hq => by
    rcases List.mem_append.mp hq with z | z
    · exact ht_ag1 (w1 q z p1 hp1)
    · exact ht_ag_trans (ht_ag1 (w2 q z p2 hp2)) (ht_ag_symm hag)
  refine ⟨⟨fun g hg => ?_, List.pairwise_append.mpr ⟨hP.2, List.pairwise_singleton _ _, fun g hg g' hg' q hq q' hq' => ?_⟩⟩, ⟨fun g hg => hQ1 g (List.mem_cons_of_mem _ (List.mem_cons_of_mem _ hg)), pw2.2⟩, fun g hg g' hg' q hq q' hq' => ?_⟩
  · rcases List.mem_append.mp hg with z | z
    · exact hP.1 g z
    · rw [List.mem_singleton.mp z]
      exact ⟨fun e => by rw [List.append_eq_nil_iff] at e; exact (hQ1 g1 m1).1 e.1, fun q hq q' hq' => ht_ag_trans (hall q hq) (ht_ag_symm (hall q' hq'))⟩
  · rw [List.mem_singleton.mp hg'] at hq'
    rcases List.mem_append.mp hq' with z | z
    · exact hPQ g hg g1 m1 q hq q' z
    · exact hPQ g hg g2 m2 q hq q' z
  · rcases List.mem_append.mp hg with z | z
    · exact hPQ g z g' (List.mem_cons_of_mem _ (List.mem_cons_of_mem _ hg')) q hq q' hq'
    · rw [List.mem_singleton.mp z] at hq
      have k1 := fun a ha => pw.1 g' (List.mem_cons_of_mem _ hg') a ha q' hq'
      have k2 := fun a ha => pw2.1 g' hg' a ha q' hq'
      have k12 := pw.1 g2 List.mem_cons_self p1 hp1 p2 hp2
      refine ⟨(List.mem_append.mp hq).elim (fun z => (k1 q z).1) (fun z => (k2 q z).1), fun e => ?_⟩
      have e1 : ht_ag p1.1 q'.1 d := ht_ag_trans (ht_ag_symm (hall q hq)) e
      have e2 : ht_ag p2.1 q'.1 d := ht_ag_trans (ht_ag_symm hag) e1
      exact ht_bool3 (ht_nag hag k12.2) (ht_nag e2 (k2 p2 hp2).2) (ht_nag e1 (k1 p1 hp1).2)
theorem ht_si.one {d : Nat} (hd : d ≤ 256) {P Q : List ht_L} {g1 : ht_L} (h : ht_si d P (g1 :: Q)) (hno : ∀ g2 Q2, Q = g2 :: Q2 → ∃ p1 ∈ g1, ∃ p2 ∈ g2, ¬ ht_ag p1.1 p2.1 d) : ht_si d (P ++ [g1]) Q := by
  obtain ⟨hP, ⟨hQ1, hQ2⟩, hPQ⟩ := h
  have m1 : g1 ∈ g1 :: Q := List.mem_cons_self
  have w1 := (hQ1 g1 m1).2
  have pw := List.pairwise_cons.mp hQ2
  refine ⟨⟨fun g hg => ?_, List.pairwise_append.mpr ⟨hP.2, List.pairwise_singleton _ _, fun g hg g' hg' q hq q' hq' => ?_⟩⟩, ⟨fun g hg => hQ1 g (List.mem_cons_of_mem _ hg), pw.2⟩, fun g hg g' hg' q hq q' hq' => ?_⟩
  · rcases List.mem_append.mp hg with z | z
    · exact hP.1 g z
    · rw [List.mem_singleton.mp z]
      exact ⟨(hQ1 g1 m1).1, fun q hq q' hq' => ht_ag1 (w1 q hq q' hq')⟩
  · rw [List.mem_singleton.mp hg'] at hq'
    exact hPQ g hg g1 m1 q hq q' hq'
  · rcases List.mem_append.mp hg with z | z
    · exact hPQ g z g' (List.mem_cons_of_mem _ hg') q hq q' hq'
    · rw [List.mem_singleton.mp z] at hq
      refine ⟨(pw.1 g' hg' q hq q' hq').1, fun e => ?_⟩
      cases Q with
      | nil => cases hg'
      | cons g2 Q2 =>
        obtain ⟨p1, hp1, p2, hp2, hn⟩ := hno g2 Q2 rfl
        have w2 := (hQ1 g2 (List.mem_cons_of_mem _ List.mem_cons_self)).2
        rcases List.mem_cons.mp hg' with y | y
        · rw [y] at hq'
          exact hn (ht_ag_trans (ht_ag_trans (ht_ag1 (w1 p1 hp1 q hq)) e) (ht_ag1 (w2 q' hq' p2 hp2)))
        · have pw2 := List.pairwise_cons.mp pw.2
          have k1 := (pw.1 g2 List.mem_cons_self q hq p2 hp2).1
          have k2 := (pw2.1 g' y p2 hp2 q' hq').1
          exact hn (ht_ag_trans (ht_ag1 (w1 p1 hp1 q hq)) (k1.between k2 hd e))
/-- the hash of what is put together -/
theorem ht_si.h2 {dgf : Int32 → ht_K → ht_K → ht_K} {d : Nat} (hd : d ≤ 255) {P Q : List ht_L} {g1 g2 : ht_L} (h : ht_si d P (g1 :: g2 :: Q)) {p1 p2 : ht_K × ht_K} (hp1 : p1 ∈ g1) (hp2 : p2 ∈ g2) (hag : ht_ag p1.1 p2.1 d) : ht_h dgf (256 - d) (g1 ++ g2) = dgf 1 (ht_h dgf (255 - d) g1) (ht_h dgf (255 - d) g2) := by
  obtain ⟨hP, ⟨hQ1, hQ2⟩, hPQ⟩ := h
  have m1 : g1 ∈ g1 :: g2 :: Q := List.mem_cons_self
  have m2 : g2 ∈ g1 :: g2 :: Q := List.mem_cons_of_mem _ List.mem_cons_self
  have w1 := (hQ1 g1 m1).2
  have w2 := (hQ1 g2 m2).2
  have pw := List.pairwise_cons.mp hQ2
  have hbits : ∀ a ∈ g1, ∀ b ∈ g2, ht_bit a.1 d = false ∧ ht_bit b.1 d = true := fun a ha b hb => by
    obtain ⟨k1, k2⟩ := pw.1 g2 List.mem_cons_self a ha b hb
    have hag2 : ht_ag a.1 b.1 d := ht_ag_trans (ht_ag_trans (ht_ag1 (w1 a ha p1 hp1)) hag) (ht_ag1 (w2 p2 hp2 b hb))
    have e1 := (ht_ag_part (by omega)).mp hag2
    have e2 : ¬ d + 1 ≤ ht_part a.1 b.1 := fun z => k2 ((ht_ag_part (by omega)).mpr z)
    have e3 : ht_part a.1 b.1 = d := by omega
    have hb1 := k1.2
    have hb2 := k1.bit
    rw [e3] at hb1 hb2
    exact ⟨hb1, hb2⟩
  have l1 : 1 ≤ g1.length := List.length_pos_iff.mpr (hQ1 g1 m1).1
  have l2 : 1 ≤ g2.length := List.length_pos_iff.mpr (hQ1 g2 m2).1
  rw [show 256 - d = 255 - d + 1 by omega, ht_h_more dgf (255 - d) (by rw [List.length_append]; omega), show 255 - (255 - d) = d by omega, List.filter_append, List.filter_append]
  have f1 : g1.filter (fun q => !ht_bit q.1 d) = g1 := List.filter_eq_self.mpr (fun q hq => by rw [(hbits q hq p2 hp2).1]; rfl)
  have f2 : g2.filter (fun q => !ht_bit q.1 d) = [] := List.filter_eq_nil_iff.mpr (fun q hq => by rw [(hbits p1 hp1 q hq).2]; decide)
  have f3 : g1.filter (fun q => ht_bit q.1 d) = [] := List.filter_eq_nil_iff.mpr (fun q hq => by rw [(hbits q hq p2 hp2).1]; decide)
  have f4 : g2.filter (fun q => ht_bit q.1 d) = g2 := List.filter_eq_self.mpr (fun q hq => by rw [(hbits p1 hp1 q hq).2])
  rw [f1, f2, f3, f4, List.append_nil, List.nil_append]
theorem ht_si.h1 {dgf : Int32 → ht_K → ht_K → ht_K} {d : Nat} (hd : d ≤ 255) {P Q : List ht_L} {g1 : ht_L} (h : ht_si d P (g1 :: Q)) {p1 : ht_K × ht_K} (hp1 : p1 ∈ g1) (hl : 2 ≤ g1.length) : ht_h dgf (256 - d) g1 = if ht_bit p1.1 d then dgf 1 ht_kz (ht_h dgf (255 - d) g1) else dgf 1 (ht_h dgf (255 - d) g1) ht_kz := by
  have w1 := (h.2.1.1 g1 List.mem_cons_self).2
  rw [show 256 - d = 255 - d + 1 by omega]
  refine ht_h_side dgf (255 - d) hl (ht_bit p1.1 d) (fun q hq => ?_)
  rw [show 255 - (255 - d) = d by omega]
  exact (w1 q hq p1 hp1) d (Nat.lt_succ_self d)
theorem ht_si.h0 {dgf : Int32 → ht_K → ht_K → ht_K} {d : Nat} {g1 : ht_L} (hl : g1.length = 1) : ht_h dgf (256 - d) g1 = ht_h dgf (255 - d) g1 := by
  match g1, hl with
  | [q], _ => rw [ht_h_one, ht_h_one]
/-- a row of keys in their order -/
def ht_srt (l : ht_L) : Prop := l.Pairwise (fun q q' => ht_klt q.1 q'.1)
theorem ht_gp_start {l : ht_L} (h : ht_srt l) : ht_gp 256 (l.map (fun q => [q])) := by
  refine ⟨fun g hg => ?_, List.pairwise_map.mpr (h.imp (fun {a b} hab => ?_))⟩
  · obtain ⟨q, -, rfl⟩ := List.mem_map.mp hg
    refine ⟨fun e => (by cases e), fun a ha b hb => ?_⟩
    rw [List.mem_singleton.mp ha, List.mem_singleton.mp hb]
    exact ht_ag_refl _ _
  · intro q hq q' hq'
    rw [List.mem_singleton.mp hq, List.mem_singleton.mp hq']
    refine ⟨hab, fun e => ?_⟩
    have := (ht_ag_part (Nat.le_refl 256)).mp e
    have h2 := hab.1
    omega
theorem ht_flat1 (l : ht_L) : (l.map (fun q => [q])).flatten = l := by
  induction l with
  | nil => rfl
  | cons q l ih => rw [List.map_cons, List.flatten_cons, ih]; rfl
/-- where all agree there is one group -/
theorem ht_gp.all {d : Nat} {G : List ht_L} (h : ht_gp d G) (hl : G.flatten ≠ []) (ha : ∀ q ∈ G.flatten, ∀ q' ∈ G.flatten, ht_ag q.1 q'.1 d) : G = [G.flatten] := by
  match G, h, hl, ha with
  | [], _, hl, _ => exact absurd rfl hl
  | [g], _, _, _ => rw [List.flatten_cons]; simp
  | g1 :: g2 :: G, h, _, ha =>
    exfalso
    obtain ⟨q1, h1⟩ := ht_ne_ex (h.1 g1 List.mem_cons_self).1
    obtain ⟨q2, h2⟩ := ht_ne_ex (h.1 g2 (List.mem_cons_of_mem _ List.mem_cons_self)).1
    have := (List.pairwise_cons.mp h.2).1 g2 List.mem_cons_self q1 h1 q2 h2
    refine this.2 (ha q1 ?_ q2 ?_)
    · rw [List.flatten_cons]; exact List.mem_append_left _ h1
    · rw [List.flatten_cons, List.flatten_cons]; exact List.mem_append_right _ (List.mem_append_left _ h2)
/-- l stands in R from fr on -/
def ht_sub (R : ht_L) (fr : Nat) (l : ht_L) : Prop := ∀ j q, l[j]? = some q → R[fr + j]? = some q
theorem ht_sub.hd {R : ht_L} {fr : Nat} {A g B : ht_L} (h : ht_sub R fr (A ++ (g ++ B))) (hg : g ≠ []) : ∃ q ∈ g, R[fr + A.length]? = some q := by
  cases g with
  | nil => exact absurd rfl hg
  | cons q g =>
    refine ⟨q, List.mem_cons_self, h A.length q ?_⟩
    rw [List.getElem?_append_right (Nat.le_refl _), Nat.sub_self]
    rfl
