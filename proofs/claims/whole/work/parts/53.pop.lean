/-! A hash is made anew: the pure side; the way down that is kept in a row. -/
theorem ht_FH.pop {N : ht_N} {F : List Nat} {top : Option Nat} {L : ht_L} {a d : Nat} {HV : ht_K} {dgf : Int32 → ht_K → ht_K → ht_K} (hT : ht_T N F top L) (hF : ht_FH dgf N F top L) (ha : a ∈ F) (hch : ∀ zo, ht_rp (N a) = .inr zo → ∀ b, ht_rf (N (ht_ch zo b)) = true) (hpar : (d = 0 ∧ top = some a) ∨ ∃ p zo b, p ∈ F ∧ ht_rp (N p) = .inr zo ∧ ht_ch zo b = a ∧ d = ht_rl (N p) + 1) (hHV : HV = ht_h dgf (256 - d) (ht_U N L a)) : ht_FH dgf (va_up N a (ht_sf (ht_sh (N a) HV) true)) F top L := by
  generalize hN' : va_up N a (ht_sf (ht_sh (N a) HV) true) = N'
  have eA : N' a = ht_sf (ht_sh (N a) HV) true := by rw [← hN', va_up_self]
  have eO : ∀ b, b ≠ a → N' b = N b := fun b hb => by rw [← hN', va_up_ne _ _ hb]
  have same : ∀ b, ht_rk (N' b) = ht_rk (N b) ∧ ht_rl (N' b) = ht_rl (N b) ∧ ht_rp (N' b) = ht_rp (N b) := by
    intro b
    by_cases e : b = a
    · rw [e, eA]; exact ⟨rfl, rfl, rfl⟩
    · rw [eO b e]; exact ⟨rfl, rfl, rfl⟩
  have hU : ∀ b, ht_U N' L b = ht_U N L b := fun b => ht_U_congr (same b).1 (same b).2.1
  refine ⟨fun t ht hr => ?_, fun c hc zo hz b => ⟨fun hr => ?_, fun hr => ?_⟩⟩
  · rw [hU]
    by_cases e : t = a
    · subst e
      rw [eA]
      show HV = _
      rcases hpar with ⟨h0, -⟩ | ⟨p, zo, b, hp, hz, he, -⟩
      · rw [hHV, h0]
      · subst ht
        exact absurd he (hT.noparent hp hz)
    · rw [eO t e] at hr ⊢
      exact hF.1 t ht hr
  · rw [(same c).2.2] at hz
    rw [hU, (same c).2.1]
    by_cases e : ht_ch zo b = a
    · rw [e, eA]
      show HV = _
      rcases hpar with ⟨-, h0⟩ | ⟨p, zo', b', hp, hz', he, hd⟩
      · subst h0
        exact absurd e (hT.noparent hc hz)
      · have := hT.parent hc hp hz hz' (e.trans he.symm)
        subst this
        rw [hHV, hd]
        congr 1
        omega
    · rw [eO _ e] at hr ⊢
      exact (hF.2 c hc zo hz b).1 hr
  · rw [(same c).2.2] at hz
    have hzl := (hT.half hc hz b).2.2.1
    by_cases e : ht_ch zo b = a
    · rw [e, eA]; rfl
    · rw [eO _ e]
      by_cases e2 : c = a
      · subst e2
        exact hch zo hz b
      · rw [eO c e2] at hr
        exact (hF.2 c hc zo hz b).2 hr
/-- the nodes that are open, the last one first -/
def ht_stk (N : ht_N) (F : List Nat) (top : Option Nat) : List Nat → Prop
  | [] => True
  | [a] => a ∈ F ∧ ht_rf (N a) = false ∧ top = some a
  | a :: p :: r => a ∈ F ∧ ht_rf (N a) = false ∧ (∃ zo b, ht_rp (N p) = .inr zo ∧ ht_ch zo b = a) ∧ ht_stk N F top (p :: r)
def ht_ops (opf : Nat → Option Nat) : List Nat → Prop
  | [] => True
  | a :: r => opf r.length = some a ∧ ht_ops opf r
theorem ht_stk.hd {N : ht_N} {F : List Nat} {top : Option Nat} {a : Nat} {r : List Nat} (h : ht_stk N F top (a :: r)) : a ∈ F ∧ ht_rf (N a) = false := by
  cases r with
  | nil => exact ⟨h.1, h.2.1⟩
  | cons p r => exact ⟨h.1, h.2.1⟩
theorem ht_stk.tl {N : ht_N} {F : List Nat} {top : Option Nat} {a : Nat} {r : List Nat} (h : ht_stk N F top (a :: r)) : ht_stk N F top r := by
  cases r with
  | nil => exact trivial
  | cons p r => exact h.2.2.2
theorem ht_stk.lt {N : ht_N} {F : List Nat} {top : Option Nat} {L : ht_L} (hT : ht_T N F top L) : ∀ {r : List Nat} {a : Nat}, ht_stk N F top (a :: r) → r.length ≤ ht_rl (N a) ∧ ∀ x ∈ r, ht_rl (N x) < ht_rl (N a) := by
  intro r
  induction r with
  | nil => intro a _; exact ⟨Nat.zero_le _, fun x hx => by cases hx⟩
  | cons p r ih =>
    intro a h
    obtain ⟨h1, h2, ⟨zo, b, hz, he⟩, h4⟩ := h
    obtain ⟨i1, i2⟩ := ih h4
    have hl := (hT.half h4.hd.1 hz b).2.2.1
    rw [he] at hl
    refine ⟨by rw [List.length_cons]; omega, fun x hx => ?_⟩
    rcases List.mem_cons.mp hx with e | e
    · rw [e]; exact hl
    · exact Nat.lt_trans (i2 x e) hl
theorem ht_stk.nd {N : ht_N} {F : List Nat} {top : Option Nat} {L : ht_L} (hT : ht_T N F top L) : ∀ {r : List Nat}, ht_stk N F top r → r.Nodup ∧ ∀ x ∈ r, x ∈ F.filter (fun a => !ht_rf (N a)) := by
  intro r
  induction r with
  | nil => intro _; exact ⟨List.nodup_nil, fun x hx => by cases hx⟩
  | cons a r ih =>
    intro h
    obtain ⟨i1, i2⟩ := ih h.tl
    refine ⟨List.nodup_cons.mpr ⟨fun q => Nat.lt_irrefl _ ((ht_stk.lt hT h).2 a q), i1⟩, fun x hx => ?_⟩
    rcases List.mem_cons.mp hx with e | e
    · rw [e]
      exact List.mem_filter.mpr ⟨h.hd.1, by rw [h.hd.2]; rfl⟩
    · exact i2 x e
theorem ht_stk.len {N : ht_N} {F : List Nat} {top : Option Nat} {L : ht_L} (hT : ht_T N F top L) {r : List Nat} (h : ht_stk N F top r) : r.length ≤ ht_st N F := ht_sub_len (h.nd hT).1 (h.nd hT).2
theorem ht_stk.cg {N N' : ht_N} {F : List Nat} {top : Option Nat} : ∀ {r : List Nat}, ht_stk N F top r → (∀ x ∈ r, ht_rf (N' x) = ht_rf (N x) ∧ ht_rp (N' x) = ht_rp (N x)) → ht_stk N' F top r := by
  intro r
  induction r with
  | nil => intro _ _; exact trivial
  | cons a r ih =>
    intro h hc
    have ha := hc a List.mem_cons_self
    cases r with
    | nil => exact ⟨h.1, by rw [ha.1]; exact h.2.1, h.2.2⟩
    | cons p r =>
      obtain ⟨h1, h2, ⟨zo, b, hz, he⟩, h4⟩ := h
      exact ⟨h1, by rw [ha.1]; exact h2, ⟨zo, b, by rw [(hc p (List.mem_cons_of_mem _ List.mem_cons_self)).2]; exact hz, he⟩, ih h4 (fun x hx => hc x (List.mem_cons_of_mem _ hx))⟩
theorem ht_ops.cg {opf opf' : Nat → Option Nat} : ∀ {r : List Nat}, ht_ops opf r → (∀ i, i < r.length → opf' i = opf i) → ht_ops opf' r := by
  intro r
  induction r with
  | nil => intro _ _; exact trivial
  | cons a r ih =>
    intro h hc
    exact ⟨by rw [hc r.length (by simp)]; exact h.1, ih h.2 (fun i hi => hc i (by rw [List.length_cons]; omega))⟩
theorem ht_st_pop {N : ht_N} {F : List Nat} {a : Nat} {HV : ht_K} (hn : F.Nodup) (ha : a ∈ F) (hs : ht_rf (N a) = false) : ht_st (va_up N a (ht_sf (ht_sh (N a) HV) true)) F + 1 = ht_st N F := by
  unfold ht_st
  refine ht_cnt (a := a) (by rw [hs]; rfl) (by rw [va_up_self]; rfl) (fun x hx => by rw [va_up_ne _ _ hx]) hn ha
theorem ht_Rp.pop {dgf : Int32 → ht_K → ht_K → ht_K} {g : ht_G} {w : ht_W} {X : Nat → Nat} {tg : Nat → Nat × Nat} {k : ht_K} {N : ht_N} {A : ht_AA} {F : List Nat} {top : Option Nat} {L : ht_L} {dt dt' : ht_D} {opf : Nat → Option Nat} {sbf lsf enf : Nat → Int64} {ei : Int32} (h : ht_Rp dgf g w X tg k N A F top L dt opf sbf lsf enf ei) {a : Nat} (ha : a ∈ F) {HV : ht_K} (hF' : ht_FH dgf (va_up N a (ht_sf (ht_sh (N a) HV) true)) F top L) :
    ht_Rp dgf g (ht_up (ht_up (ht_dw g w (X 2) (X 3) (X 4) dt') (A a).2.1 (ht_al g 4 (ht_kf HV))) a (ht_nc (ht_sf (ht_sh (N a) HV) true) (A a).1 (A a).2.1 (A a).2.2)) X tg k (va_up N a (ht_sf (ht_sh (N a) HV) true)) A F top L dt' opf sbf lsf enf ei := by
  obtain ⟨h1, h2, h3, h4, h5, h6, h7, h8, h9, h10, h11, h12⟩ := id h
  have ta := h11.2 a ha
  have hx : ∀ i, i < 9 → X i ≠ (A a).2.1 ∧ X i ≠ a := fun i hi => ⟨ht_tne (h11.1 i hi) ta.2.2.1 (fun z => by cases z), ht_tne (h11.1 i hi) ta.1 (fun z => by cases z)⟩
  have hxx : ∀ i j, i < 9 → j < 9 → i ≠ j → X i ≠ X j := fun i j hi hj hn => ht_tne (h11.1 i hi) (h11.1 j hj) (fun z => hn (by injection z))
  have keep : ∀ i, i < 9 → i ≠ 2 → i ≠ 3 → i ≠ 4 → ∀ {e : va_E}, ht_at w (X i) e → ht_at (ht_up (ht_up (ht_dw g w (X 2) (X 3) (X 4) dt') (A a).2.1 (ht_al g 4 (ht_kf HV))) a (ht_nc (ht_sf (ht_sh (N a) HV) true) (A a).1 (A a).2.1 (A a).2.2)) (X i) e := fun i hi n2 n3 n4 e he =>
    ht_at_ne (ht_at_ne (ht_Dg.ne he (hxx i 2 hi (by decide) n2) (hxx i 3 hi (by decide) n3) (hxx i 4 hi (by decide) n4)) (hx i hi).1) (hx i hi).2
  have hu := h3.up (t' := dt')
  refine ⟨keep 0 (by decide) (by decide) (by decide) (by decide) h1, keep 1 (by decide) (by decide) (by decide) (by decide) h2, ⟨ht_at_ne (ht_at_ne hu.1 (hx 2 (by decide)).1) (hx 2 (by decide)).2, ht_at_ne (ht_at_ne hu.2.1 (hx 3 (by decide)).1) (hx 3 (by decide)).2, ht_at_ne (ht_at_ne hu.2.2 (hx 4 (by decide)).1) (hx 4 (by decide)).2⟩, keep 5 (by decide) (by decide) (by decide) (by decide) h4, keep 6 (by decide) (by decide) (by decide) (by decide) h5, keep 7 (by decide) (by decide) (by decide) (by decide) h6, keep 8 (by decide) (by decide) (by decide) (by decide) h7, fun b hb => ?_, h9.cg (fun b => ?_), hF', h11.congr (fun b hb v hv => ?_), h12⟩
  · obtain ⟨q1, q2, q3, q4⟩ := h8 b hb
    obtain ⟨t1, t2, t3, t4⟩ := h11.2 b hb
    have dk : ∀ {x : Nat} {n : Nat} {f : Nat → Int64}, ht_at w x (ht_al g n f) → ht_at (ht_dw g w (X 2) (X 3) (X 4) dt') x (ht_al g n f) := fun hx => h3.al hx
    have nb : b ≠ (A a).2.1 := ht_tne t1 ta.2.2.1 (fun z => by cases z)
    have n1 : (A b).1 ≠ (A a).2.1 := ht_tne t2 ta.2.2.1 (fun z => by cases z)
    have m1 : (A b).1 ≠ a := ht_tne t2 ta.1 (fun z => by cases z)
    have m2 : (A b).2.1 ≠ a := ht_tne t3 ta.1 (fun z => by cases z)
    have db : ht_at (ht_dw g w (X 2) (X 3) (X 4) dt') b (ht_nc (N b) (A b).1 (A b).2.1 (A b).2.2) := ht_Dg.ne q1 (fun z => h.out 2 (by decide) (by rw [← z]; exact hb)) (fun z => h.out 3 (by decide) (by rw [← z]; exact hb)) (fun z => h.out 4 (by decide) (by rw [← z]; exact hb))
    by_cases e : b = a
    · subst e
      rw [va_up_self]
      exact ⟨ht_at_self (ht_at_ne db nb), ht_at_ne (ht_at_ne (dk q2) n1) m1, ht_at_ne (ht_at_self (dk q3)) m2, fun v hv => ht_at_ne (ht_at_ne (dk (q4 v hv)) (ht_tne (t4 v hv) t3 (fun z => by cases z))) (ht_tne (t4 v hv) t1 (fun z => by cases z))⟩
    · rw [va_up_ne _ _ e]
      exact ⟨ht_at_ne (ht_at_ne db nb) e, ht_at_ne (ht_at_ne (dk q2) n1) m1, ht_at_ne (ht_at_ne (dk q3) (ht_tne t3 ta.2.2.1 (fun z => e (by injection z)))) m2, fun v hv => ht_at_ne (ht_at_ne (dk (q4 v hv)) (ht_tne (t4 v hv) ta.2.2.1 (fun z => by cases z))) (ht_tne (t4 v hv) ta.1 (fun z => by cases z))⟩
  · by_cases e : b = a
    · rw [e, va_up_self]; exact ⟨rfl, rfl, rfl⟩
    · rw [va_up_ne _ _ e]; exact ⟨rfl, rfl, rfl⟩
  · by_cases e : b = a
    · rw [e, va_up_self] at hv
      exact ⟨v, by rw [e]; exact hv⟩
    · rw [va_up_ne _ _ e] at hv
      exact ⟨v, hv⟩
/-- the open row changes -/
theorem ht_Rp.opn {dgf : Int32 → ht_K → ht_K → ht_K} {g : ht_G} {w : ht_W} {X : Nat → Nat} {tg : Nat → Nat × Nat} {k : ht_K} {N : ht_N} {A : ht_AA} {F : List Nat} {top : Option Nat} {L : ht_L} {dt : ht_D} {opf opf' : Nat → Option Nat} {sbf lsf enf : Nat → Int64} {ei : Int32} (h : ht_Rp dgf g w X tg k N A F top L dt opf sbf lsf enf ei) : ht_Rp dgf g (ht_up w (X 5) (ht_aq g 257 opf')) X tg k N A F top L dt opf' sbf lsf enf ei := by
  obtain ⟨h1, h2, h3, h4, h5, h6, h7, h8, h9, h10, h11, h12⟩ := id h
  have hne : ∀ i, i < 9 → i ≠ 5 → X i ≠ X 5 := fun i hi hn => ht_tne (h11.1 i hi) (h11.1 5 (by decide)) (fun z => hn (by injection z))
  refine ⟨ht_at_ne h1 (hne 0 (by decide) (by decide)), ht_at_ne h2 (hne 1 (by decide) (by decide)), ⟨ht_at_ne h3.1 (hne 2 (by decide) (by decide)), ht_at_ne h3.2.1 (hne 3 (by decide) (by decide)), ht_at_ne h3.2.2 (hne 4 (by decide) (by decide))⟩, ht_at_self h4, ht_at_ne h5 (hne 6 (by decide) (by decide)), ht_at_ne h6 (hne 7 (by decide) (by decide)), ht_at_ne h7 (hne 8 (by decide) (by decide)), fun a ha => ?_, h9, h10, h11, h12⟩
  obtain ⟨q1, q2, q3, q4⟩ := h8 a ha
  obtain ⟨t1, t2, t3, t4⟩ := h11.2 a ha
  have tx := h11.1 5 (by decide)
  exact ⟨ht_at_ne q1 (ht_tne t1 tx (fun z => by cases z)), ht_at_ne q2 (ht_tne t2 tx (fun z => by cases z)), ht_at_ne q3 (ht_tne t3 tx (fun z => by cases z)), fun v hv => ht_at_ne (q4 v hv) (ht_tne (t4 v hv) tx (fun z => by cases z))⟩
