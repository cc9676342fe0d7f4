/-! Where a key's way leaves the tree at level p: between the branch ab (or the top) and the node be. -/
def ht_slot (N : ht_N) (F : List Nat) (top : Option Nat) (k : ht_K) (p : Nat) (ab : Option Nat) (be : Nat) : Prop :=
  be ∈ F ∧ p ≤ ht_rl (N be) ∧ ((ab = none ∧ top = some be) ∨ ∃ c zo, ab = some c ∧ c ∈ F ∧ ht_in N c k ∧ ht_rl (N c) < p ∧ ht_rp (N c) = .inr zo ∧ ht_ch zo (ht_bit k (ht_rl (N c))) = be)
theorem ht_slot.into {N : ht_N} {F : List Nat} {top : Option Nat} {l : ht_L} {k : ht_K} {p : Nat} {ab : Option Nat} {be : Nat} (h : ht_T N F top l) (hs : ht_slot N F top k p ab be) {q : ht_K × ht_K} (hq : q ∈ l) (hp : p ≤ ht_part k q.1) : ht_in N be q.1 := by
  obtain ⟨h1, h2, ⟨-, h3⟩ | ⟨c, zo, -, hc, hi, hl, hz, he⟩⟩ := hs
  · exact (h.2.2.1.1 be h3).2 q hq
  · obtain ⟨z1, z2, z3⟩ := h.half hc hz (ht_bit k (ht_rl (N c)))
    have g : ht_ag k q.1 p := ht_ag_le (ht_part_ag k q.1) hp
    rw [← he]
    exact (z3.2 q hq).mp ⟨h.up hc hi (ht_ag_le g (Nat.le_of_lt hl)), (g _ hl).symm⟩
theorem ht_slot.gt {N : ht_N} {F : List Nat} {top : Option Nat} {l : ht_L} {k : ht_K} {p : Nat} {ab : Option Nat} {be : Nat} (h : ht_T N F top l) (hs : ht_slot N F top k p ab be) (hp : p < 256) (hmax : ∀ q ∈ l, ht_part k q.1 ≤ p) {qs : ht_K × ht_K} (hqs : qs ∈ l) (hqp : ht_part k qs.1 = p) : p < ht_rl (N be) ∧ ¬ ht_in N be k ∧ ∀ q ∈ l, ht_in N be q.1 ↔ p ≤ ht_part k q.1 := by
  have is := hs.into h hqs (Nat.le_of_eq hqp.symm)
  have hbe := hs.1
  have gs : ht_ag k qs.1 p := by rw [← hqp]; exact ht_part_ag k qs.1
  have hlt : p < ht_rl (N be) := by
    rcases Nat.lt_or_ge p (ht_rl (N be)) with x | x
    · exact x
    · exfalso
      have e : ht_rl (N be) = p := Nat.le_antisymm x hs.2.1
      cases hpb : ht_rp (N be) with
      | inl v => have := (h.2.2.2.1 be hbe v hpb).1; omega
      | inr zo =>
        obtain ⟨qb, mb, ib, bb, -⟩ := h.side hbe hpb (ht_bit k p)
        rw [e] at bb
        have g2 := h.two hbe is ib
        rw [e] at g2
        have g3 : ht_ag k qb.1 (p + 1) := ht_ag_s (ht_ag_trans gs g2) bb.symm
        have := (ht_ag_part (by omega)).mp g3
        have := hmax qb mb
        omega
  have key : ∀ k', ht_in N be k' → ht_ag qs.1 k' (p + 1) := fun k' hk' => ht_ag_le (h.two hbe is hk') hlt
  refine ⟨hlt, fun hk => ?_, fun q hq => ⟨fun hi => ?_, fun hi => hs.into h hq hi⟩⟩
  · have := (ht_ag_part (by omega)).mp (ht_ag_symm (key k hk))
    omega
  · exact (ht_ag_part (by omega)).mp (ht_ag_trans gs (ht_ag_le (key q.1 hi) (Nat.le_succ p)))
/-- on a branch that is not the one above the slot, the new key goes to a half only if it goes under it -/
theorem ht_slot.pass {N : ht_N} {F : List Nat} {top : Option Nat} {l : ht_L} {k : ht_K} {p : Nat} {ab : Option Nat} {be : Nat} (h : ht_T N F top l) (hs : ht_slot N F top k p ab be) (hp : p < 256) (hmax : ∀ q ∈ l, ht_part k q.1 ≤ p) {qs : ht_K × ht_K} (hqs : qs ∈ l) (hqp : ht_part k qs.1 = p) {a : Nat} (ha : a ∈ F) (hna : ab ≠ some a) {zo : Nat × Nat} (hz : ht_rp (N a) = .inr zo) (hi : ht_in N a k) : ht_in N (ht_ch zo (ht_bit k (ht_rl (N a)))) k := by
  obtain ⟨hlt, hnk, hall⟩ := hs.gt h hp hmax hqs hqp
  have gs : ht_ag k qs.1 p := by rw [← hqp]; exact ht_part_ag k qs.1
  obtain ⟨z1, z2, z3⟩ := h.half ha hz (ht_bit k (ht_rl (N a)))
  obtain ⟨qz, mz, iz, bz, jz⟩ := h.side ha hz (ht_bit k (ht_rl (N a)))
  have gz : ht_ag k qz.1 (ht_rl (N a) + 1) := ht_ag_s (h.two ha hi iz) bz.symm
  have hap : ht_rl (N a) < p := by
    have := (ht_ag_part (by omega)).mp gz
    have := hmax qz mz
    omega
  rcases Nat.lt_or_ge p (ht_rl (N (ht_ch zo (ht_bit k (ht_rl (N a)))))) with x | x
  · exfalso
    obtain ⟨h1, h2, ⟨hab, h3⟩ | ⟨c, zc, hab, hc, hic, hlc, hzc, he⟩⟩ := hs
    · subst h3
      have := h.topL ha
      omega
    · rcases Nat.lt_trichotomy (ht_rl (N a)) (ht_rl (N c)) with y | y | y
      · have := h.nojump hc ha hz hi hic y
        omega
      · exact hna (by rw [hab, h.same ha hc hic hi y])
      · have := h.nojump ha hc hzc hic hi y
        rw [he] at this
        omega
  · have js := (z3.2 qs hqs).mp ⟨h.up ha hi (ht_ag_le gs (Nat.le_of_lt hap)), (gs _ hap).symm⟩
    exact h.up z1 js (ht_ag_symm (ht_ag_le gs x))
/-- what goes under a half goes under its branch, on that side -/
theorem ht_T.back {N : ht_N} {F : List Nat} {top : Option Nat} {l : ht_L} (h : ht_T N F top l) {a : Nat} (ha : a ∈ F) {zo : Nat × Nat} (hp : ht_rp (N a) = .inr zo) (b : Bool) {k : ht_K} (hk : ht_in N (ht_ch zo b) k) : ht_in N a k ∧ ht_bit k (ht_rl (N a)) = b := by
  obtain ⟨z1, z2, z3⟩ := h.half ha hp b
  obtain ⟨q, hq, i1, b1, j1⟩ := h.side ha hp b
  have g := h.two z1 j1 hk
  exact ⟨h.up ha i1 (ht_ag_le g (Nat.le_of_lt z3.1)), by rw [← g _ z3.1]; exact b1⟩
def ht_zo (zo : Nat × Nat) (b : Bool) (x : Nat) : Nat × Nat := if b then (zo.1, x) else (x, zo.2)
theorem ht_zo_self (zo : Nat × Nat) (b : Bool) (x : Nat) : ht_ch (ht_zo zo b x) b = x := by cases b <;> rfl
theorem ht_zo_other (zo : Nat × Nat) (b : Bool) (x : Nat) : ht_ch (ht_zo zo b x) (!b) = ht_ch zo (!b) := by cases b <;> rfl
theorem ht_T.insert {N N' : ht_N} {F : List Nat} {top : Option Nat} {l : ht_L} {k v : ht_K} {p : Nat} {ab : Option Nat} {be m B : Nat} (h : ht_T N F top l) (hs : ht_slot N F top k p ab be) (hp : p < 256) (hmax : ∀ q ∈ l, ht_part k q.1 ≤ p) {qs : ht_K × ht_K} (hqs : qs ∈ l) (hqp : ht_part k qs.1 = p)
    (hm : m ∉ F) (hB : B ∉ F) (hmB : m ≠ B) (hkl : ∀ a ∈ F, ht_rk (N' a) = ht_rk (N a) ∧ ht_rl (N' a) = ht_rl (N a)) (hpn : ∀ a ∈ F, ab ≠ some a → ht_rp (N' a) = ht_rp (N a))
    (hpa : ∀ a zo, ab = some a → ht_rp (N a) = .inr zo → ht_rp (N' a) = .inr (ht_zo zo (ht_bit k (ht_rl (N a))) B))
    (hNm : ht_rk (N' m) = k ∧ ht_rl (N' m) = 256 ∧ ht_rp (N' m) = .inl v) (hNB : ht_rk (N' B) = k ∧ ht_rl (N' B) = p ∧ ht_rp (N' B) = .inr (ht_zo (be, be) (ht_bit k p) m)) :
    ht_T N' (m :: B :: F) (if ab = none then some B else top) ((k, v) :: l) := by
  obtain ⟨hlt, hnk, hall⟩ := hs.gt h hp hmax hqs hqp
  have gs : ht_ag k qs.1 p := by rw [← hqp]; exact ht_part_ag k qs.1
  have inF : ∀ a ∈ F, ∀ x, ht_in N' a x ↔ ht_in N a x := by
    intro a ha x
    unfold ht_in
    rw [(hkl a ha).1, (hkl a ha).2]
  have inB : ∀ x, ht_in N' B x ↔ p ≤ ht_part k x := by
    intro x
    unfold ht_in
    rw [hNB.1, hNB.2.1]
  have inM : ∀ x, ht_in N' m x ↔ k = x := by
    intro x
    unfold ht_in
    rw [hNm.1, hNm.2.1, ← ht_part_eq]
    have := ht_part_le k x
    omega
  have hkn : ∀ q ∈ l, q.1 ≠ k := by
    intro q hq e
    have := hmax q hq
    rw [ht_part_eq.mpr e.symm] at this
    omega
  have kk : ht_part k k = 256 := ht_part_eq.mpr rfl
  have hbe := hs.1
  obtain ⟨t1, t2, t3, t4, t5, t6, t7, t8⟩ := id h
  refine ⟨?_, ?_, ?_, ?_, ?_, ?_, ?_, ?_⟩
  · exact List.nodup_cons.mpr ⟨fun q => by rcases List.mem_cons.mp q with e | e; exact hmB e; exact hm e, List.nodup_cons.mpr ⟨hB, t1⟩⟩
  · rw [List.map_cons]
    refine List.nodup_cons.mpr ⟨fun q => ?_, t2⟩
    obtain ⟨q, hq, e⟩ := List.mem_map.mp q
    exact hkn q hq e
  · refine ⟨fun t ht => ?_, fun ht => ?_⟩
    · obtain ⟨h1, h2, ⟨hab, h3⟩ | ⟨c, zc, hab, hc, hic, hlc, hzc, he⟩⟩ := hs
      · rw [if_pos hab] at ht
        cases ht
        refine ⟨List.mem_cons_of_mem _ List.mem_cons_self, fun q hq => (inB _).mpr ?_⟩
        rcases List.mem_cons.mp hq with e | e
        · subst e; show p ≤ ht_part k k; omega
        · exact (hall q e).mp ((t3.1 be h3).2 q e)
      · rw [if_neg (by rw [hab]; exact fun z => by cases z)] at ht
        subst ht
        obtain ⟨ht1, ht2⟩ := t3.1 t rfl
        refine ⟨List.mem_cons_of_mem _ (List.mem_cons_of_mem _ ht1), fun q hq => (inF t ht1 _).mpr ?_⟩
        rcases List.mem_cons.mp hq with e | e
        · subst e
          show ht_in N t k
          have := h.topL hc
          exact h.up ht1 (ht2 qs hqs) (ht_ag_symm (ht_ag_le gs (by omega)))
        · exact ht2 q e
    · exfalso
      obtain ⟨h1, h2, ⟨hab, h3⟩ | ⟨c, zc, hab, hc, hic, hlc, hzc, he⟩⟩ := hs
      · rw [if_pos hab] at ht; cases ht
      · rw [if_neg (by rw [hab]; exact fun z => by cases z)] at ht
        rw [(t3.2 ht).1] at hc
        cases hc
  · intro a ha x hx
    rcases List.mem_cons.mp ha with e | e
    · subst e
      rw [hNm.2.2] at hx
      cases hx
      exact ⟨hNm.2.1, by rw [hNm.1]; exact List.mem_cons_self⟩
    · rcases List.mem_cons.mp e with e | e
      · subst e; rw [hNB.2.2] at hx; cases hx
      · by_cases hab : ab = some a
        · exfalso
          obtain ⟨h1, h2, ⟨hab', h3⟩ | ⟨c, zc, hab', hc, hic, hlc, hzc, he⟩⟩ := hs
          · rw [hab] at hab'; cases hab'
          · rw [hab] at hab'; cases hab'
            rw [hpa a zc hab hzc] at hx; cases hx
        · rw [hpn a e hab] at hx
          rw [(hkl a e).1, (hkl a e).2]
          exact ⟨(t4 a e x hx).1, List.mem_cons_of_mem _ (t4 a e x hx).2⟩
  · intro q hq
    rcases List.mem_cons.mp hq with e | e
    · subst e
      exact ⟨m, List.mem_cons_self, hNm.2.2, hNm.1⟩
    · obtain ⟨a, ha, h1, h2⟩ := t5 q e
      refine ⟨a, List.mem_cons_of_mem _ (List.mem_cons_of_mem _ ha), ?_, by rw [(hkl a ha).1]; exact h2⟩
      by_cases hab : ab = some a
      · exfalso
        obtain ⟨q1, q2, ⟨hab', h3⟩ | ⟨c, zc, hab', hc, hic, hlc, hzc, he⟩⟩ := hs
        · rw [hab] at hab'; cases hab'
        · rw [hab] at hab'; cases hab'
          rw [hzc] at h1; cases h1
      · rw [hpn a ha hab]; exact h1
  · intro a ha zo hz
    have old : ∀ z ∈ F, ∀ c ∈ F, ∀ b, ht_half N l c z b → ((ht_in N c k ∧ ht_bit k (ht_rl (N c)) = b) ↔ ht_in N z k) → ht_half N' ((k, v) :: l) c z b := by
      intro z hz c hc b hh hk
      refine ⟨by rw [(hkl c hc).2, (hkl z hz).2]; exact hh.1, fun q hq => ?_⟩
      rw [inF c hc, inF z hz, (hkl c hc).2]
      rcases List.mem_cons.mp hq with e | e
      · subst e; exact hk
      · exact hh.2 q e
    rcases List.mem_cons.mp ha with e | e
    · subst e; rw [hNm.2.2] at hz; cases hz
    · rcases List.mem_cons.mp e with e | e
      · subst e
        rw [hNB.2.2] at hz
        cases hz
        refine ⟨by rw [hNB.2.1]; exact hp, fun b => ?_⟩
        by_cases hb : b = ht_bit k p
        · subst hb
          rw [ht_zo_self]
          refine ⟨List.mem_cons_self, by rw [hNB.2.1, hNm.2.1]; exact hp, fun q hq => ?_⟩
          rw [inB, inM, hNB.2.1]
          rcases List.mem_cons.mp hq with e | e
          · subst e
            exact ⟨fun _ => rfl, fun _ => ⟨by show p ≤ ht_part k k; omega, rfl⟩⟩
          · constructor
            · rintro ⟨x1, x2⟩
              exfalso
              have e2 : ht_part k q.1 = p := Nat.le_antisymm (hmax q e) x1
              exact ht_part_ne (k := k) (k' := q.1) (by omega) (by rw [e2]; exact x2.symm)
            · intro x; exact absurd x.symm (hkn q e)
        · have hb' : b = !ht_bit k p := by cases b <;> cases hx : ht_bit k p <;> simp_all
          subst hb'
          rw [ht_zo_other]
          have ech : ht_ch (be, be) (!ht_bit k p) = be := by cases ht_bit k p <;> rfl
          rw [ech]
          refine ⟨List.mem_cons_of_mem _ (List.mem_cons_of_mem _ hbe), by rw [hNB.2.1, (hkl be hbe).2]; exact hlt, fun q hq => ?_⟩
          rw [inB, inF be hbe, hNB.2.1]
          rcases List.mem_cons.mp hq with e | e
          · subst e
            constructor
            · rintro ⟨-, x2⟩
              exfalso
              have x3 : ht_bit k p = !ht_bit k p := x2
              cases hy : ht_bit k p <;> rw [hy] at x3 <;> cases x3
            · intro x; exact absurd x hnk
          · rw [hall q e]
            refine ⟨fun x => x.1, fun x => ⟨x, ?_⟩⟩
            have e2 : ht_part k q.1 = p := Nat.le_antisymm (hmax q e) x
            have := ht_part_ne (k := k) (k' := q.1) (by omega)
            rw [e2] at this
            cases hy : ht_bit k p <;> cases hw : ht_bit q.1 p <;> simp_all
      · by_cases hab : ab = some a
        · obtain ⟨q1, q2, ⟨hab', h3⟩ | ⟨c, zc, hab', hc, hic, hlc, hzc, he⟩⟩ := hs
          · rw [hab] at hab'; cases hab'
          · rw [hab] at hab'; cases hab'
            rw [hpa a zc hab hzc] at hz
            cases hz
            obtain ⟨y1, y2⟩ := t6 a hc zc hzc
            refine ⟨by rw [(hkl a hc).2]; exact y1, fun b => ?_⟩
            by_cases hb : b = ht_bit k (ht_rl (N a))
            · subst hb
              rw [ht_zo_self]
              refine ⟨List.mem_cons_of_mem _ List.mem_cons_self, by rw [hNB.2.1, (hkl a hc).2]; exact hlc, fun q hq => ?_⟩
              rw [inB, inF a hc, (hkl a hc).2]
              rcases List.mem_cons.mp hq with e | e
              · subst e
                exact ⟨fun _ => by show p ≤ ht_part k k; omega, fun _ => ⟨hic, rfl⟩⟩
              · rw [← hall q e, ← he]
                exact (y2 (ht_bit k (ht_rl (N a)))).2.2 q e
            · have hb' : b = !ht_bit k (ht_rl (N a)) := by cases b <;> cases hx : ht_bit k (ht_rl (N a)) <;> simp_all
              subst hb'
              rw [ht_zo_other]
              obtain ⟨w1, w2⟩ := y2 (!ht_bit k (ht_rl (N a)))
              refine ⟨List.mem_cons_of_mem _ (List.mem_cons_of_mem _ w1), old _ w1 a hc _ w2 ⟨?_, fun x => h.back hc hzc _ x⟩⟩
              rintro ⟨-, x2⟩
              exfalso
              cases hy : ht_bit k (ht_rl (N a)) <;> rw [hy] at x2 <;> cases x2
        · rw [hpn a e hab] at hz
          obtain ⟨y1, y2⟩ := t6 a e zo hz
          refine ⟨by rw [(hkl a e).2]; exact y1, fun b => ?_⟩
          obtain ⟨w1, w2⟩ := y2 b
          refine ⟨List.mem_cons_of_mem _ (List.mem_cons_of_mem _ w1), old _ w1 a e _ w2 ⟨?_, fun x => h.back e hz _ x⟩⟩
          rintro ⟨x1, x2⟩
          rw [← x2]
          exact hs.pass h hp hmax hqs hqp e hab hz x1
  · have no : ∀ a ∈ F, ht_rl (N a) = p → ht_in N a k → False := by
      intro a ha e hi
      cases hpx : ht_rp (N a) with
      | inl x => have := (t4 a ha x hpx).1; omega
      | inr zo =>
        obtain ⟨qb, mb, ib, bb, -⟩ := h.side ha hpx (ht_bit k p)
        rw [e] at bb
        have g2 := h.two ha hi ib
        rw [e] at g2
        have := (ht_ag_part (by omega)).mp (ht_ag_s g2 bb.symm)
        have := hmax qb mb
        omega
    have no2 : ∀ a ∈ F, ht_rl (N a) = 256 → ¬ ht_rk (N a) = k := by
      intro a ha e hi
      cases hpx : ht_rp (N a) with
      | inl x => exact hkn _ (t4 a ha x hpx).2 hi
      | inr zo => have := (t6 a ha zo hpx).1; omega
    have sym : ∀ a ∈ F, p = ht_rl (N a) → p ≤ ht_part k (ht_rk (N a)) → ht_in N a k := by
      intro a ha e x
      unfold ht_in
      rw [ht_part_comm, ← e]
      exact x
    intro a ha b hb hl hi
    rcases List.mem_cons.mp ha with ea | ea
    · subst ea
      rcases List.mem_cons.mp hb with eb | eb
      · exact eb.symm
      · rcases List.mem_cons.mp eb with eb | eb
        · subst eb; rw [hNm.2.1, hNB.2.1] at hl; omega
        · rw [hNm.2.1, (hkl b eb).2] at hl
          rw [inM, (hkl b eb).1] at hi
          exact absurd hi.symm (no2 b eb hl.symm)
    · rcases List.mem_cons.mp ea with ea' | ea'
      · subst ea'
        rcases List.mem_cons.mp hb with eb | eb
        · subst eb; rw [hNm.2.1, hNB.2.1] at hl; omega
        · rcases List.mem_cons.mp eb with eb | eb
          · exact eb.symm
          · rw [hNB.2.1, (hkl b eb).2] at hl
            rw [inB, (hkl b eb).1] at hi
            exact (no b eb hl.symm (sym b eb hl hi)).elim
      · rcases List.mem_cons.mp hb with eb | eb
        · subst eb
          rw [hNm.2.1, (hkl a ea').2] at hl
          rw [hNm.1, inF a ea'] at hi
          exfalso
          refine no2 a ea' hl (ht_part_eq.mp (Nat.le_antisymm (ht_part_le _ _) ?_))
          unfold ht_in at hi
          omega
        · rcases List.mem_cons.mp eb with eb | eb
          · subst eb
            rw [hNB.2.1, (hkl a ea').2] at hl
            rw [hNB.1, inF a ea'] at hi
            exact (no a ea' hl hi).elim
          · rw [(hkl a ea').2, (hkl b eb).2] at hl
            rw [(hkl b eb).1, inF a ea'] at hi
            exact t7 a ea' b eb hl hi
  · intro a ha
    rcases List.mem_cons.mp ha with ea | ea
    · subst ea; exact ⟨_, List.mem_cons_self, (inM _).mpr rfl⟩
    · rcases List.mem_cons.mp ea with ea | ea
      · subst ea; exact ⟨_, List.mem_cons_self, (inB _).mpr (by show p ≤ ht_part k k; omega)⟩
      · obtain ⟨q, hq, hi⟩ := t8 a ea
        exact ⟨q, List.mem_cons_of_mem _ hq, (inF a ea _).mpr hi⟩
