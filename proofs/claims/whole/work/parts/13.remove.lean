/-! A key goes: its leaf and the branch above it go, the branch's other half takes its place. -/
theorem ht_nd_of_map {l : ht_L} (h : (l.map (·.1)).Nodup) : l.Nodup := by
  have := List.pairwise_map.mp h
  exact this.imp (fun {a b} hab e => hab (by rw [e]))
theorem ht_nd_val : ∀ {l : ht_L}, (l.map (·.1)).Nodup → ∀ {q q' : ht_K × ht_K}, q ∈ l → q' ∈ l → q.1 = q'.1 → q = q' := by
  intro l
  induction l with
  | nil => intro _ q q' hq; cases hq
  | cons x t ih =>
    intro h q q' hq hq' e
    rw [List.map_cons] at h
    obtain ⟨h1, h2⟩ := List.nodup_cons.mp h
    rcases List.mem_cons.mp hq with a | a <;> rcases List.mem_cons.mp hq' with b | b
    · rw [a, b]
    · subst a; exact absurd (List.mem_map.mpr ⟨q', b, e.symm⟩) h1
    · subst b; exact absurd (List.mem_map.mpr ⟨q, a, e⟩) h1
    · exact ih h2 a b e
theorem ht_er_mem {l : ht_L} (h : (l.map (·.1)).Nodup) {k v : ht_K} (hk : (k, v) ∈ l) {q : ht_K × ht_K} : q ∈ l.erase (k, v) ↔ q ∈ l ∧ q.1 ≠ k := by
  rw [(ht_nd_of_map h).mem_erase_iff]
  constructor
  · rintro ⟨x, y⟩
    exact ⟨y, fun e => x (ht_nd_val h y hk e)⟩
  · rintro ⟨x, y⟩
    exact ⟨fun e => y (by rw [e]), x⟩
theorem ht_er_nd {l : ht_L} (h : (l.map (·.1)).Nodup) (q : ht_K × ht_K) : ((l.erase q).map (·.1)).Nodup := h.sublist (List.Sublist.map _ (List.erase_sublist))
theorem ht_T.two_ne {N : ht_N} {F : List Nat} {top : Option Nat} {l : ht_L} (h : ht_T N F top l) {a : Nat} (ha : a ∈ F) {zo : Nat × Nat} (hp : ht_rp (N a) = .inr zo) (b : Bool) : ht_ch zo (!b) ≠ ht_ch zo b := by
  intro e
  obtain ⟨q, hq, i1, b1, j1⟩ := h.side ha hp (!b)
  rw [e] at j1
  have := (h.back ha hp b j1).2
  rw [b1] at this
  cases b <;> cases this
theorem ht_T.leaf_in {N : ht_N} {F : List Nat} {top : Option Nat} {l : ht_L} (h : ht_T N F top l) {m : Nat} (hm : m ∈ F) {v : ht_K} (hp : ht_rp (N m) = .inl v) (x : ht_K) : ht_in N m x ↔ ht_rk (N m) = x := by
  unfold ht_in
  rw [(h.2.2.2.1 m hm v hp).1, ← ht_part_eq]
  have := ht_part_le (ht_rk (N m)) x
  omega
theorem ht_T.leaf_eq {N : ht_N} {F : List Nat} {top : Option Nat} {l : ht_L} (h : ht_T N F top l) {m a : Nat} (hm : m ∈ F) (ha : a ∈ F) {v v' : ht_K} (hp : ht_rp (N m) = .inl v) (hp' : ht_rp (N a) = .inl v') (e : ht_rk (N a) = ht_rk (N m)) : a = m := by
  refine h.same ha hm ((h.leaf_in hm hp _).mpr rfl) ((h.leaf_in ha hp' _).mpr e) ?_
  rw [(h.2.2.2.1 m hm v hp).1, (h.2.2.2.1 a ha v' hp').1]
theorem ht_T.remove {N N' : ht_N} {F : List Nat} {top : Option Nat} {l : ht_L} {k v : ht_K} {ab : Option Nat} {m P : Nat} {zp : Nat × Nat} (h : ht_T N F top l)
    (hm : m ∈ F) (hmv : ht_rp (N m) = .inl v) (hmk : ht_rk (N m) = k) (hP : P ∈ F) (hPz : ht_rp (N P) = .inr zp) (hPm : ht_ch zp (ht_bit k (ht_rl (N P))) = m)
    (hab : (ab = none ∧ top = some P) ∨ ∃ c zc, ab = some c ∧ c ∈ F ∧ ht_rp (N c) = .inr zc ∧ ht_ch zc (ht_bit k (ht_rl (N c))) = P)
    (hkl : ∀ a ∈ F, ht_rk (N' a) = ht_rk (N a) ∧ ht_rl (N' a) = ht_rl (N a)) (hpn : ∀ a ∈ F, ab ≠ some a → ht_rp (N' a) = ht_rp (N a))
    (hpa : ∀ a zo, ab = some a → ht_rp (N a) = .inr zo → ht_rp (N' a) = .inr (ht_zo zo (ht_bit k (ht_rl (N a))) (ht_ch zp (!ht_bit k (ht_rl (N P)))))) :
    ht_T N' ((F.erase m).erase P) (if ab = none then some (ht_ch zp (!ht_bit k (ht_rl (N P)))) else top) (l.erase (k, v)) := by
  obtain ⟨t1, t2, t3, t4, t5, t6, t7, t8⟩ := id h
  have hkv : (k, v) ∈ l := by rw [← hmk]; exact (t4 m hm v hmv).2
  have hF : ∀ {a : Nat}, a ∈ (F.erase m).erase P ↔ a ∈ F ∧ a ≠ m ∧ a ≠ P := by
    intro a
    rw [(t1.erase m).mem_erase_iff, t1.mem_erase_iff]
    exact ⟨fun x => ⟨x.2.2, x.2.1, x.1⟩, fun x => ⟨x.2.2, x.2.1, x.1⟩⟩
  have hl' : ∀ {q : ht_K × ht_K}, q ∈ l.erase (k, v) ↔ q ∈ l ∧ q.1 ≠ k := fun {q} => ht_er_mem t2 hkv
  generalize ho : ht_ch zp (!ht_bit k (ht_rl (N P))) = o at hpa ⊢
  obtain ⟨o1, o2, o3⟩ := h.half hP hPz (!ht_bit k (ht_rl (N P)))
  rw [ho] at o1 o3
  have inF : ∀ a ∈ F, ∀ x, ht_in N' a x ↔ ht_in N a x := by
    intro a ha x
    unfold ht_in
    rw [(hkl a ha).1, (hkl a ha).2]
  have hom : o ≠ m := by rw [← ho, ← hPm]; exact h.two_ne hP hPz _
  have hoP : o ≠ P := fun e => by have := o3.1; rw [e] at this; omega
  have oF : o ∈ (F.erase m).erase P := hF.mpr ⟨o1, hom, hoP⟩
  have Po : ∀ q ∈ l, q.1 ≠ k → (ht_in N P q.1 ↔ ht_in N o q.1) := by
    intro q hq hne
    refine ⟨fun x => (o3.2 q hq).mp ⟨x, ?_⟩, fun x => ((o3.2 q hq).mpr x).1⟩
    by_cases e : ht_bit q.1 (ht_rl (N P)) = ht_bit k (ht_rl (N P))
    · exfalso
      have j := ((h.half hP hPz (ht_bit k (ht_rl (N P)))).2.2.2 q hq).mp ⟨x, e⟩
      rw [hPm, h.leaf_in hm hmv, hmk] at j
      exact hne j.symm
    · cases hy : ht_bit k (ht_rl (N P)) <;> cases hw : ht_bit q.1 (ht_rl (N P)) <;> simp_all
  have nochild : ∀ a ∈ F, a ≠ P → ∀ zo, ht_rp (N a) = .inr zo → ∀ b, ht_ch zo b ≠ m := by
    intro a ha hne zo hz b e
    exact hne (h.parent ha hP hz hPz (e.trans hPm.symm))
  refine ⟨(t1.erase m).erase P, ht_er_nd t2 _, ?_, ?_, ?_, ?_, ?_, ?_⟩
  · refine ⟨fun t ht => ?_, fun ht => ?_⟩
    · rcases hab with ⟨e, e2⟩ | ⟨c, zc, e, hc, hzc, hcP⟩
      · rw [if_pos e] at ht
        cases ht
        refine ⟨oF, fun q hq => (inF o o1 _).mpr ?_⟩
        obtain ⟨x, y⟩ := hl'.mp hq
        exact (Po q x y).mp ((t3.1 P e2).2 q x)
      · rw [if_neg (by rw [e]; exact fun z => by cases z)] at ht
        subst ht
        obtain ⟨y1, y2⟩ := t3.1 t rfl
        refine ⟨hF.mpr ⟨y1, fun z => h.noparent hP hPz (b := ht_bit k (ht_rl (N P))) (by rw [hPm, z]), fun z => h.noparent hc hzc (b := ht_bit k (ht_rl (N c))) (by rw [hcP, z])⟩, fun q hq => (inF t y1 _).mpr (y2 q (hl'.mp hq).1)⟩
    · exfalso
      rcases hab with ⟨e, e2⟩ | ⟨c, zc, e, hc, hzc, hcP⟩
      · rw [if_pos e] at ht; cases ht
      · rw [if_neg (by rw [e]; exact fun z => by cases z)] at ht
        rw [(t3.2 ht).1] at hc; cases hc
  · intro a ha x hx
    obtain ⟨ha, hm', hP'⟩ := hF.mp ha
    have hna : ab ≠ some a := by
      intro e
      rcases hab with ⟨e', -⟩ | ⟨c, zc, e', hc, hzc, hcP⟩
      · rw [e] at e'; cases e'
      · rw [e] at e'; cases e'
        rw [hpa a zc e hzc] at hx; cases hx
    rw [hpn a ha hna] at hx
    rw [(hkl a ha).1, (hkl a ha).2]
    exact ⟨(t4 a ha x hx).1, hl'.mpr ⟨(t4 a ha x hx).2, fun e => hm' (h.leaf_eq hm ha hmv hx (e.trans hmk.symm))⟩⟩
  · intro q hq
    obtain ⟨hq, hqk⟩ := hl'.mp hq
    obtain ⟨a, ha, h1, h2⟩ := t5 q hq
    have hna : ab ≠ some a := by
      intro e
      rcases hab with ⟨e', -⟩ | ⟨c, zc, e', hc, hzc, hcP⟩
      · rw [e] at e'; cases e'
      · rw [e] at e'; cases e'
        rw [hzc] at h1; cases h1
    refine ⟨a, hF.mpr ⟨ha, fun e => hqk (by rw [← h2, e, hmk]), fun e => by rw [e, hPz] at h1; cases h1⟩, by rw [hpn a ha hna]; exact h1, by rw [(hkl a ha).1]; exact h2⟩
  · intro a ha zo hz
    obtain ⟨ha, hm', hP'⟩ := hF.mp ha
    have old : ∀ z ∈ F, ∀ b, ht_half N l a z b → ht_half N' (l.erase (k, v)) a z b := by
      intro z hz b hh
      refine ⟨by rw [(hkl a ha).2, (hkl z hz).2]; exact hh.1, fun q hq => ?_⟩
      rw [inF a ha, inF z hz, (hkl a ha).2]
      exact hh.2 q (hl'.mp hq).1
    by_cases hna : ab = some a
    · rcases hab with ⟨e', -⟩ | ⟨c, zc, e', hc, hzc, hcP⟩
      · rw [hna] at e'; cases e'
      · rw [hna] at e'; cases e'
        rw [hpa a zc hna hzc] at hz
        cases hz
        obtain ⟨y1, y2⟩ := t6 a ha zc hzc
        refine ⟨by rw [(hkl a ha).2]; exact y1, fun b => ?_⟩
        by_cases hb : b = ht_bit k (ht_rl (N a))
        · subst hb
          rw [ht_zo_self]
          have hh := (y2 (ht_bit k (ht_rl (N a)))).2
          rw [hcP] at hh
          refine ⟨oF, by rw [(hkl a ha).2, (hkl o o1).2]; exact Nat.lt_trans hh.1 o3.1, fun q hq => ?_⟩
          obtain ⟨hq, hqk⟩ := hl'.mp hq
          rw [inF a ha, inF o o1, (hkl a ha).2, ← Po q hq hqk]
          exact hh.2 q hq
        · have hb' : b = !ht_bit k (ht_rl (N a)) := by cases b <;> cases hx : ht_bit k (ht_rl (N a)) <;> simp_all
          subst hb'
          rw [ht_zo_other]
          obtain ⟨w1, w2⟩ := y2 (!ht_bit k (ht_rl (N a)))
          refine ⟨hF.mpr ⟨w1, nochild a ha hP' zc hzc _, fun e => h.two_ne ha hzc (ht_bit k (ht_rl (N a))) (by rw [e, hcP])⟩, old _ w1 _ w2⟩
    · rw [hpn a ha hna] at hz
      obtain ⟨y1, y2⟩ := t6 a ha zo hz
      refine ⟨by rw [(hkl a ha).2]; exact y1, fun b => ?_⟩
      obtain ⟨w1, w2⟩ := y2 b
      refine ⟨hF.mpr ⟨w1, nochild a ha hP' zo hz _, fun e => ?_⟩, old _ w1 _ w2⟩
      rcases hab with ⟨e', e2⟩ | ⟨c, zc, e', hc, hzc, hcP⟩
      · subst e2; exact h.noparent ha hz e
      · have := h.parent ha hc hz hzc (e.trans hcP.symm)
        subst this
        exact hna e'
  · intro a ha b hb hl hi
    obtain ⟨ha, -⟩ := hF.mp ha
    obtain ⟨hb, -⟩ := hF.mp hb
    rw [(hkl a ha).2, (hkl b hb).2] at hl
    rw [(hkl b hb).1, inF a ha] at hi
    exact t7 a ha b hb hl hi
  · intro a ha
    obtain ⟨ha, hm', hP'⟩ := hF.mp ha
    obtain ⟨q, hq, hi⟩ := t8 a ha
    by_cases e : q.1 = k
    · cases hpx : ht_rp (N a) with
      | inl x =>
        exfalso
        rw [e, h.leaf_in ha hpx] at hi
        exact hm' (h.leaf_eq hm ha hmv hpx (hi.trans hmk.symm))
      | inr zo =>
        obtain ⟨q', hq', i', b', -⟩ := h.side ha hpx (!ht_bit k (ht_rl (N a)))
        refine ⟨q', hl'.mpr ⟨hq', fun e2 => ?_⟩, (inF a ha _).mpr i'⟩
        rw [e2] at b'
        cases hy : ht_bit k (ht_rl (N a)) <;> rw [hy] at b' <;> cases b'
    · exact ⟨q, hl'.mpr ⟨hq, e⟩, (inF a ha _).mpr hi⟩
theorem ht_T_nil (N : ht_N) : ht_T N [] none [] := by
  have h0 : ht_T0 N [] none [] := ⟨fun t h => (by cases h), fun _ => ⟨rfl, rfl⟩⟩
  have h1 : ht_T1 N [] [] := fun a ha => by cases ha
  have h2 : ht_T2 N [] [] := fun a ha => by cases ha
  have h3 : ht_T3 N [] [] := fun a ha => by cases ha
  have h4 : ht_T4 N [] := fun a ha => by cases ha
  have h5 : ht_T5 N [] [] := fun a ha => by cases ha
  exact ⟨List.nodup_nil, List.nodup_nil, h0, h1, h2, h3, h4, h5⟩
theorem ht_T.remove1 {N N' : ht_N} {F : List Nat} {l : ht_L} {k v : ht_K} {m : Nat} (h : ht_T N F (some m) l) (hmv : ht_rp (N m) = .inl v) (hmk : ht_rk (N m) = k) : ht_T N' [] none (l.erase (k, v)) ∧ l.erase (k, v) = [] := by
  obtain ⟨t1, t2, t3, t4, t5, t6, t7, t8⟩ := id h
  obtain ⟨hm, hall⟩ := t3.1 m rfl
  have hkv : (k, v) ∈ l := by rw [← hmk]; exact (t4 m hm v hmv).2
  have e : l.erase (k, v) = [] := by
    refine List.eq_nil_iff_forall_not_mem.mpr (fun q hq => ?_)
    obtain ⟨x, y⟩ := (ht_er_mem t2 hkv).mp hq
    have := hall q x
    rw [h.leaf_in hm hmv, hmk] at this
    exact y this.symm
  rw [e]
  refine ⟨?_, rfl⟩
  exact ht_T_nil N'
