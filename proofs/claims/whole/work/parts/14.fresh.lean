/-! A key gets another value; which hashes stay right. -/
def ht_sv (l : ht_L) (k v : ht_K) : ht_L := l.map (fun q => if q.1 = k then (k, v) else q)
theorem ht_sv_keys (l : ht_L) (k v : ht_K) : (ht_sv l k v).map (·.1) = l.map (·.1) := by
  unfold ht_sv
  rw [List.map_map]
  refine List.map_congr_left (fun q _ => ?_)
  show (if q.1 = k then (k, v) else q).1 = q.1
  by_cases e : q.1 = k
  · rw [if_pos e]; exact e.symm
  · rw [if_neg e]
theorem ht_sv_to {l : ht_L} {k v : ht_K} {q : ht_K × ht_K} (hq : q ∈ l) : ∃ q' ∈ ht_sv l k v, q'.1 = q.1 := by
  refine ⟨_, List.mem_map.mpr ⟨q, hq, rfl⟩, ?_⟩
  by_cases e : q.1 = k
  · rw [if_pos e]; exact e.symm
  · rw [if_neg e]
theorem ht_sv_of {l : ht_L} {k v : ht_K} {q : ht_K × ht_K} (hq : q ∈ ht_sv l k v) : ∃ q' ∈ l, q'.1 = q.1 ∧ (q.1 = k → q.2 = v) ∧ (q.1 ≠ k → q' = q) := by
  obtain ⟨q', h1, h2⟩ := List.mem_map.mp hq
  refine ⟨q', h1, ?_⟩
  by_cases e : q'.1 = k
  · rw [if_pos e] at h2; subst h2
    exact ⟨e, fun _ => rfl, fun z => absurd rfl z⟩
  · rw [if_neg e] at h2; subst h2
    exact ⟨rfl, fun z => absurd z e, fun _ => rfl⟩
theorem ht_T.setv {N N' : ht_N} {F : List Nat} {top : Option Nat} {l : ht_L} {k v v' : ht_K} {m : Nat} (h : ht_T N F top l) (hm : m ∈ F) (hmv : ht_rp (N m) = .inl v) (hmk : ht_rk (N m) = k)
    (hkl : ∀ a ∈ F, ht_rk (N' a) = ht_rk (N a) ∧ ht_rl (N' a) = ht_rl (N a)) (hpn : ∀ a ∈ F, a ≠ m → ht_rp (N' a) = ht_rp (N a)) (hpm : ht_rp (N' m) = .inl v') : ht_T N' F top (ht_sv l k v') := by
  obtain ⟨t1, t2, t3, t4, t5, t6, t7, t8⟩ := id h
  have inF : ∀ a ∈ F, ∀ x, ht_in N' a x ↔ ht_in N a x := by
    intro a ha x
    unfold ht_in
    rw [(hkl a ha).1, (hkl a ha).2]
  refine ⟨t1, by rw [ht_sv_keys]; exact t2, ⟨fun t ht => ⟨(t3.1 t ht).1, fun q hq => ?_⟩, fun ht => ?_⟩, ?_, ?_, ?_, ?_, ?_⟩
  · obtain ⟨q', h1, h2, -⟩ := ht_sv_of hq
    rw [inF t (t3.1 t ht).1, ← h2]
    exact (t3.1 t ht).2 q' h1
  · rw [(t3.2 ht).1] at hm; cases hm
  · intro a ha x hx
    by_cases e : a = m
    · subst e
      rw [hpm] at hx; cases hx
      rw [(hkl a hm).1, (hkl a hm).2]
      refine ⟨(t4 a hm v hmv).1, List.mem_map.mpr ⟨_, (t4 a hm v hmv).2, ?_⟩⟩
      rw [hmk, if_pos rfl]
    · rw [hpn a ha e] at hx
      rw [(hkl a ha).1, (hkl a ha).2]
      refine ⟨(t4 a ha x hx).1, List.mem_map.mpr ⟨_, (t4 a ha x hx).2, ?_⟩⟩
      rw [if_neg (fun z => e (h.leaf_eq hm ha hmv hx (z.trans hmk.symm)))]
  · intro q hq
    obtain ⟨q', h1, h2, h3, h4⟩ := ht_sv_of hq
    by_cases e : q.1 = k
    · exact ⟨m, hm, by rw [hpm, h3 e], by rw [(hkl m hm).1, hmk, e]⟩
    · rw [h4 e] at h1
      obtain ⟨a, ha, x, y⟩ := t5 q h1
      have : a ≠ m := fun z => e (by rw [← y, z, hmk])
      exact ⟨a, ha, by rw [hpn a ha this]; exact x, by rw [(hkl a ha).1]; exact y⟩
  · intro a ha zo hz
    have hne : a ≠ m := fun e => by rw [e, hpm] at hz; cases hz
    rw [hpn a ha hne] at hz
    obtain ⟨y1, y2⟩ := t6 a ha zo hz
    refine ⟨by rw [(hkl a ha).2]; exact y1, fun b => ⟨(y2 b).1, by rw [(hkl a ha).2, (hkl _ (y2 b).1).2]; exact (y2 b).2.1, fun q hq => ?_⟩⟩
    obtain ⟨q', h1, h2, -⟩ := ht_sv_of hq
    rw [inF a ha, inF _ (y2 b).1, (hkl a ha).2, ← h2]
    exact (y2 b).2.2 q' h1
  · intro a ha b hb hl hi
    rw [(hkl a ha).2, (hkl b hb).2] at hl
    rw [(hkl b hb).1, inF a ha] at hi
    exact t7 a ha b hb hl hi
  · intro a ha
    obtain ⟨q, hq, hi⟩ := t8 a ha
    obtain ⟨q', h1, h2⟩ := ht_sv_to (k := k) (v := v') hq
    exact ⟨q', h1, by rw [inF a ha, h2]; exact hi⟩
/-- the hashes that are called fresh are right; a fresh branch has fresh halves -/
def ht_FH (dg : Int32 → ht_K → ht_K → ht_K) (N : ht_N) (F : List Nat) (top : Option Nat) (l : ht_L) : Prop :=
  (∀ t, top = some t → ht_rf (N t) = true → ht_rh (N t) = ht_h dg 256 (ht_U N l t)) ∧
  ∀ a ∈ F, ∀ zo, ht_rp (N a) = .inr zo → ∀ b, (ht_rf (N (ht_ch zo b)) = true → ht_rh (N (ht_ch zo b)) = ht_h dg (255 - ht_rl (N a)) (ht_U N l (ht_ch zo b))) ∧ (ht_rf (N a) = true → ht_rf (N (ht_ch zo b)) = true)
theorem ht_U_cons {N : ht_N} {l : ht_L} {a : Nat} {k v : ht_K} (h : ¬ ht_in N a k) : ht_U N ((k, v) :: l) a = ht_U N l a := by
  unfold ht_U
  rw [List.filter_cons, if_neg]
  intro x
  exact h (show ht_rl (N a) ≤ ht_part (ht_rk (N a)) k from of_decide_eq_true x)
theorem ht_fl_erase {α : Type} [BEq α] [LawfulBEq α] (f : α → Bool) (x : α) (hx : f x = false) : ∀ l : List α, (l.erase x).filter f = l.filter f := by
  intro l
  induction l with
  | nil => rfl
  | cons y t ih =>
    rw [List.erase_cons]
    by_cases e : y == x
    · rw [if_pos e]
      have e2 := LawfulBEq.eq_of_beq e
      subst e2
      rw [List.filter_cons, if_neg (by rw [hx]; decide)]
    · rw [if_neg e, List.filter_cons, List.filter_cons, ih]
theorem ht_U_sv {N : ht_N} {a : Nat} {k v : ht_K} (h : ¬ ht_in N a k) : ∀ l : ht_L, ht_U N (ht_sv l k v) a = ht_U N l a := by
  intro l
  induction l with
  | nil => rfl
  | cons q t ih =>
    unfold ht_U ht_sv at ih ⊢
    rw [List.map_cons]
    by_cases e : q.1 = k
    · rw [if_pos e, List.filter_cons, List.filter_cons, if_neg (fun x => h (show ht_rl (N a) ≤ ht_part (ht_rk (N a)) k from of_decide_eq_true x)), if_neg (fun x => h (by have := of_decide_eq_true x; rw [e] at this; exact this)), ih]
    · rw [if_neg e, List.filter_cons, List.filter_cons, ih]
theorem ht_U_congr {N N' : ht_N} {l : ht_L} {a : Nat} (h1 : ht_rk (N' a) = ht_rk (N a)) (h2 : ht_rl (N' a) = ht_rl (N a)) : ht_U N' l a = ht_U N l a := by
  unfold ht_U
  rw [h1, h2]
theorem ht_FH.setv {dg : Int32 → ht_K → ht_K → ht_K} {N N' : ht_N} {F : List Nat} {top : Option Nat} {l : ht_L} {k v v' : ht_K} {m : Nat} (h : ht_T N F top l) (hf : ht_FH dg N F top l) (hm : m ∈ F) (hmv : ht_rp (N m) = .inl v) (hmk : ht_rk (N m) = k)
    (hkl : ∀ a ∈ F, ht_rk (N' a) = ht_rk (N a) ∧ ht_rl (N' a) = ht_rl (N a)) (hpn : ∀ a ∈ F, a ≠ m → ht_rp (N' a) = ht_rp (N a)) (hpm : ht_rp (N' m) = .inl v')
    (hfr : ∀ a ∈ F, ht_rf (N' a) = true → ht_rf (N a) = true ∧ ht_rh (N' a) = ht_rh (N a) ∧ ¬ ht_in N a k) (hfk : ∀ a ∈ F, ht_rf (N a) = true → ¬ ht_in N a k → ht_rf (N' a) = true) : ht_FH dg N' F top (ht_sv l k v') := by
  refine ⟨fun t ht hr => ?_, fun a ha zo hz b => ?_⟩
  · have htF := (h.2.2.1.1 t ht).1
    obtain ⟨x1, x2, x3⟩ := hfr t htF hr
    rw [x2, hf.1 t ht x1, ht_U_congr (hkl t htF).1 (hkl t htF).2, ht_U_sv x3]
  · have hne : a ≠ m := fun e => by rw [e, hpm] at hz; cases hz
    rw [hpn a ha hne] at hz
    obtain ⟨z1, z2, z3⟩ := h.half ha hz b
    obtain ⟨y1, y2⟩ := hf.2 a ha zo hz b
    refine ⟨fun hr => ?_, fun hr => ?_⟩
    · obtain ⟨x1, x2, x3⟩ := hfr _ z1 hr
      rw [x2, y1 x1, (hkl a ha).2, ht_U_congr (hkl _ z1).1 (hkl _ z1).2, ht_U_sv x3]
    · obtain ⟨x1, x2, x3⟩ := hfr a ha hr
      exact hfk _ z1 (y2 x1) (fun q => x3 (h.back ha hz b q).1)
theorem ht_FH.insert {dg : Int32 → ht_K → ht_K → ht_K} {N N' : ht_N} {F : List Nat} {top : Option Nat} {l : ht_L} {k v : ht_K} {p : Nat} {ab : Option Nat} {be m B : Nat} (h : ht_T N F top l) (hf : ht_FH dg N F top l) (hs : ht_slot N F top k p ab be)
    (h' : ht_T N' (m :: B :: F) (if ab = none then some B else top) ((k, v) :: l)) (hB : B ∉ F)
    (hkl : ∀ a ∈ F, ht_rk (N' a) = ht_rk (N a) ∧ ht_rl (N' a) = ht_rl (N a)) (hpn : ∀ a ∈ F, ab ≠ some a → ht_rp (N' a) = ht_rp (N a))
    (hpa : ∀ a zo, ab = some a → ht_rp (N a) = .inr zo → ht_rp (N' a) = .inr (ht_zo zo (ht_bit k (ht_rl (N a))) B))
    (hNm : ht_rf (N' m) = false ∧ ht_rp (N' m) = .inl v) (hNB : ht_rf (N' B) = false ∧ ht_rp (N' B) = .inr (ht_zo (be, be) (ht_bit k p) m))
    (hfr : ∀ a ∈ F, ht_rf (N' a) = true → ht_rf (N a) = true ∧ ht_rh (N' a) = ht_rh (N a) ∧ ¬ ht_in N a k ∧ a ≠ be) (hfk : ∀ a ∈ F, ht_rf (N a) = true → ¬ ht_in N a k → a ≠ be → ht_rf (N' a) = true) : ht_FH dg N' (m :: B :: F) (if ab = none then some B else top) ((k, v) :: l) := by
  have inF : ∀ a ∈ F, ∀ x, ht_in N' a x ↔ ht_in N a x := by
    intro a ha x
    unfold ht_in
    rw [(hkl a ha).1, (hkl a ha).2]
  have hU : ∀ z ∈ F, ¬ ht_in N z k → ht_U N' ((k, v) :: l) z = ht_U N l z := fun z hz hn => by
    rw [ht_U_congr (hkl z hz).1 (hkl z hz).2, ht_U_cons hn]
  refine ⟨fun t ht hr => ?_, fun a ha zo hz b => ?_⟩
  · exfalso
    by_cases hab : ab = none
    · rw [if_pos hab] at ht; cases ht
      rw [hNB.1] at hr; cases hr
    · have hall := (h'.2.2.1.1 t ht).2 (k, v) List.mem_cons_self
      rw [if_neg hab] at ht
      have htF := (h.2.2.1.1 t ht).1
      exact (hfr t htF hr).2.2.1 ((inF t htF k).mp hall)
  · rcases List.mem_cons.mp ha with e | e
    · subst e; rw [hNm.2] at hz; cases hz
    · rcases List.mem_cons.mp e with e | e
      · subst e
        rw [hNB.2] at hz
        cases hz
        have hno : ht_rf (N' (ht_ch (ht_zo (be, be) (ht_bit k p) m) b)) = false := by
          cases b <;> cases ht_bit k p
          · exact hNm.1
          · cases hx : ht_rf (N' be) with
            | false => exact hx
            | true => exact absurd rfl (hfr be hs.1 hx).2.2.2
          · cases hx : ht_rf (N' be) with
            | false => exact hx
            | true => exact absurd rfl (hfr be hs.1 hx).2.2.2
          · exact hNm.1
        exact ⟨fun hr => (by rw [hno] at hr; cases hr), fun hr => (by rw [hNB.1] at hr; cases hr)⟩
      · have stays : ∀ zo0, ht_rp (N a) = .inr zo0 → ht_ch zo b = ht_ch zo0 b → (ht_rf (N' (ht_ch zo b)) = true → ht_rh (N' (ht_ch zo b)) = ht_h dg (255 - ht_rl (N' a)) (ht_U N' ((k, v) :: l) (ht_ch zo b))) ∧ (ht_rf (N' a) = true → ht_rf (N' (ht_ch zo b)) = true) := by
          intro zo0 hz0 hch
          obtain ⟨z1, z2, z3⟩ := h.half e hz0 b
          obtain ⟨y1, y2⟩ := hf.2 a e zo0 hz0 b
          refine ⟨fun hr => ?_, fun hr => ?_⟩
          · rw [hch] at hr ⊢
            obtain ⟨x1, x2, x3, -⟩ := hfr _ z1 hr
            rw [x2, y1 x1, (hkl a e).2, hU _ z1 x3]
          · obtain ⟨x1, x2, x3, -⟩ := hfr a e hr
            rw [hch]
            refine hfk _ z1 (y2 x1) (fun q => x3 (h.back e hz0 b q).1) (fun q => ?_)
            have hpar := h'.parent (a := a) (c := B) (List.mem_cons_of_mem _ (List.mem_cons_of_mem _ e)) (List.mem_cons_of_mem _ List.mem_cons_self) hz hNB.2 (b := b) (b' := !ht_bit k p) (by rw [hch, q]; cases ht_bit k p <;> rfl)
            exact hB (hpar ▸ e)
        by_cases hab : ab = some a
        · obtain ⟨q1, q2, ⟨hab', h3⟩ | ⟨c, zc, hab', hc, hic, hlc, hzc, he⟩⟩ := hs
          · rw [hab] at hab'; cases hab'
          · rw [hab] at hab'; cases hab'
            have hz2 := hz
            rw [hpa a zc hab hzc] at hz2
            cases hz2
            by_cases hb : b = ht_bit k (ht_rl (N a))
            · subst hb
              rw [ht_zo_self]
              exact ⟨fun hr => (by rw [hNB.1] at hr; cases hr), fun hr => absurd hic (hfr a e hr).2.2.1⟩
            · have hb' : b = !ht_bit k (ht_rl (N a)) := by cases b <;> cases hx : ht_bit k (ht_rl (N a)) <;> simp_all
              refine stays zc hzc ?_
              rw [hb', ht_zo_other]
        · have hz2 := hz
          rw [hpn a e hab] at hz2
          exact stays zo hz2 rfl
theorem ht_FH.remove {dg : Int32 → ht_K → ht_K → ht_K} {N N' : ht_N} {F : List Nat} {top : Option Nat} {l : ht_L} {k v : ht_K} {ab : Option Nat} {m P o : Nat} {zp : Nat × Nat} (h : ht_T N F top l) (hf : ht_FH dg N F top l)
    (hm : m ∈ F) (hmv : ht_rp (N m) = .inl v) (hmk : ht_rk (N m) = k) (hP : P ∈ F) (hPz : ht_rp (N P) = .inr zp) (hPm : ht_ch zp (ht_bit k (ht_rl (N P))) = m)
    (hab : (ab = none ∧ top = some P) ∨ ∃ c zc, ab = some c ∧ c ∈ F ∧ ht_rp (N c) = .inr zc ∧ ht_ch zc (ht_bit k (ht_rl (N c))) = P)
    (h' : ht_T N' ((F.erase m).erase P) (if ab = none then some o else top) (l.erase (k, v)))
    (hkl : ∀ a ∈ F, ht_rk (N' a) = ht_rk (N a) ∧ ht_rl (N' a) = ht_rl (N a)) (hpn : ∀ a ∈ F, ab ≠ some a → ht_rp (N' a) = ht_rp (N a))
    (hpa : ∀ a zo, ab = some a → ht_rp (N a) = .inr zo → ht_rp (N' a) = .inr (ht_zo zo (ht_bit k (ht_rl (N a))) o))
    (hfr : ∀ a ∈ (F.erase m).erase P, ht_rf (N' a) = true → ht_rf (N a) = true ∧ ht_rh (N' a) = ht_rh (N a) ∧ ¬ ht_in N a k ∧ a ≠ o) (hfk : ∀ a ∈ (F.erase m).erase P, ht_rf (N a) = true → ¬ ht_in N a k → a ≠ o → ht_rf (N' a) = true) : ht_FH dg N' ((F.erase m).erase P) (if ab = none then some o else top) (l.erase (k, v)) := by
  obtain ⟨t1, t2, t3, t4, t5, t6, t7, t8⟩ := id h
  have hkv : (k, v) ∈ l := by rw [← hmk]; exact (t4 m hm v hmv).2
  have hF : ∀ {a : Nat}, a ∈ (F.erase m).erase P → a ∈ F := fun {a} x => List.mem_of_mem_erase (List.mem_of_mem_erase x)
  have hPk : ht_in N P k := (h.back hP hPz (ht_bit k (ht_rl (N P))) (by rw [hPm, h.leaf_in hm hmv]; exact hmk)).1
  have hck : ∀ c zc, c ∈ F → ht_rp (N c) = .inr zc → ht_ch zc (ht_bit k (ht_rl (N c))) = P → ht_in N c k := fun c zc hc hzc hcP => (h.back hc hzc (ht_bit k (ht_rl (N c))) (by rw [hcP]; exact hPk)).1
  have hU : ∀ z ∈ F, ¬ ht_in N z k → ht_U N' (l.erase (k, v)) z = ht_U N l z := fun z hz hn => by
    rw [ht_U_congr (hkl z hz).1 (hkl z hz).2]
    exact ht_fl_erase _ (k, v) (decide_eq_false (show ¬ ht_rl (N z) ≤ ht_part (ht_rk (N z)) k from hn)) l
  refine ⟨fun t ht hr => ?_, fun a ha zo hz b => ?_⟩
  · exfalso
    have htF' := (h'.2.2.1.1 t ht).1
    obtain ⟨x1, x2, x3, x4⟩ := hfr t htF' hr
    by_cases e : ab = none
    · rw [if_pos e] at ht; cases ht
      exact x4 rfl
    · rw [if_neg e] at ht
      exact x3 ((t3.1 t ht).2 (k, v) hkv)
  · have haF := hF ha
    have stays : ∀ zo0, ht_rp (N a) = .inr zo0 → ht_ch zo b = ht_ch zo0 b → (ht_rf (N' (ht_ch zo b)) = true → ht_rh (N' (ht_ch zo b)) = ht_h dg (255 - ht_rl (N' a)) (ht_U N' (l.erase (k, v)) (ht_ch zo b))) ∧ (ht_rf (N' a) = true → ht_rf (N' (ht_ch zo b)) = true) := by
      intro zo0 hz0 hch
      obtain ⟨z1, z2, z3⟩ := h.half haF hz0 b
      have z1' := (h'.half ha hz b).1
      rw [hch] at z1' ⊢
      obtain ⟨y1, y2⟩ := hf.2 a haF zo0 hz0 b
      refine ⟨fun hr => ?_, fun hr => ?_⟩
      · obtain ⟨x1, x2, x3, -⟩ := hfr _ z1' hr
        rw [x2, y1 x1, (hkl a haF).2, hU _ z1 x3]
      · obtain ⟨x1, x2, x3, -⟩ := hfr a ha hr
        refine hfk _ z1' (y2 x1) (fun q => x3 (h.back haF hz0 b q).1) (fun q => ?_)
        rcases hab with ⟨e, e2⟩ | ⟨c, zc, e, hc, hzc, hcP⟩
        · rw [if_pos e] at h'
          exact h'.noparent ha hz (b := b) (by rw [hch, q])
        · have hcF' : c ∈ (F.erase m).erase P := by
            rw [(t1.erase m).mem_erase_iff, t1.mem_erase_iff]
            refine ⟨fun z => ?_, fun z => ?_, hc⟩
            · have := (h.half hc hzc (ht_bit k (ht_rl (N c)))).2.2.1
              rw [hcP, z] at this; omega
            · rw [z, hmv] at hzc; cases hzc
          have := h'.parent ha hcF' hz (hpa c zc e hzc) (b := b) (b' := ht_bit k (ht_rl (N c))) (by rw [hch, q, ht_zo_self])
          subst this
          exact x3 (hck a zc hc hzc hcP)
    by_cases hna : ab = some a
    · rcases hab with ⟨e', -⟩ | ⟨c, zc, e', hc, hzc, hcP⟩
      · rw [hna] at e'; cases e'
      · rw [hna] at e'; cases e'
        have hz2 := hz
        rw [hpa a zc hna hzc] at hz2
        cases hz2
        by_cases hb : b = ht_bit k (ht_rl (N a))
        · subst hb
          have z1' := (h'.half ha hz (ht_bit k (ht_rl (N a)))).1
          rw [ht_zo_self] at z1' ⊢
          exact ⟨fun hr => absurd rfl (hfr o z1' hr).2.2.2, fun hr => absurd (hck a zc hc hzc hcP) (hfr a ha hr).2.2.1⟩
        · have hb' : b = !ht_bit k (ht_rl (N a)) := by cases b <;> cases hx : ht_bit k (ht_rl (N a)) <;> simp_all
          refine stays zc hzc ?_
          rw [hb', ht_zo_other]
    · have hz2 := hz
      rw [hpn a haF hna] at hz2
      exact stays zo hz2 rfl
