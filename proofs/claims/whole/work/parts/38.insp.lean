/-! The pure side of an insertion. -/
theorem ht_T.ltp {N : ht_N} {F : List Nat} {top : Option Nat} {l : ht_L} (h : ht_T N F top l) {k : ht_K} {p : Nat} (hp : p < 256) (hmax : ∀ q ∈ l, ht_part k q.1 ≤ p) {a : Nat} (ha : a ∈ F) (hi : ht_in N a k) : ht_rl (N a) < p := by
  obtain ⟨q, hq, i1⟩ := h.2.2.2.2.2.2.2 a ha
  have g := h.two ha hi i1
  have h1 := (ht_ag_part (h.lv ha)).mp g
  have h2 := hmax q hq
  rcases Nat.lt_or_ge (ht_rl (N a)) p with z | z
  · exact z
  · exfalso
    have e : ht_rl (N a) = p := by omega
    cases hpx : ht_rp (N a) with
    | inl x => have := (h.2.2.2.1 a ha x hpx).1; omega
    | inr zo =>
      obtain ⟨qb, mb, ib, bb, -⟩ := h.side ha hpx (ht_bit k p)
      rw [e] at bb
      have g2 := h.two ha hi ib
      rw [e] at g2
      have := (ht_ag_part (by omega)).mp (ht_ag_s g2 bb.symm)
      have := hmax qb mb
      omega
theorem ht_ins_pure {dg : Int32 → ht_K → ht_K → ht_K} {N N1 N3 : ht_N} {F : List Nat} {top : Option Nat} {l : ht_L} {k v : ht_K} {p : Nat} {ab : Option Nat} {be m B : Nat} (h : ht_T N F top l) (hf : ht_FH dg N F top l) (hs : ht_slot N F top k p ab be) (hmk : ht_mkd N F k p N1) (hp : p < 256) (hmax : ∀ q ∈ l, ht_part k q.1 ≤ p) {qs : ht_K × ht_K} (hqs : qs ∈ l) (hqp : ht_part k qs.1 = p)
    (hm : m ∉ F) (hB : B ∉ F) (hmB : m ≠ B) (h3 : ∀ a ∈ F, ht_rk (N3 a) = ht_rk (N a) ∧ ht_rl (N3 a) = ht_rl (N a) ∧ ht_rh (N3 a) = ht_rh (N a) ∧ ht_rf (N3 a) = (if a = be then false else ht_rf (N1 a))) (h3n : ∀ a ∈ F, ab ≠ some a → ht_rp (N3 a) = ht_rp (N a)) (h3a : ∀ a zo, ab = some a → ht_rp (N a) = .inr zo → ht_rp (N3 a) = .inr (ht_zo zo (ht_bit k (ht_rl (N a))) B)) :
    ht_T (va_up (va_up N3 m (k, 256, ht_kz, false, .inl v)) B (k, p, ht_kz, false, .inr (ht_zo (be, be) (ht_bit k p) m))) (m :: B :: F) (if ab = none then some B else top) ((k, v) :: l) ∧
    ht_FH dg (va_up (va_up N3 m (k, 256, ht_kz, false, .inl v)) B (k, p, ht_kz, false, .inr (ht_zo (be, be) (ht_bit k p) m))) (m :: B :: F) (if ab = none then some B else top) ((k, v) :: l) := by
  generalize hN' : va_up (va_up N3 m (k, 256, ht_kz, false, .inl v)) B (k, p, ht_kz, false, .inr (ht_zo (be, be) (ht_bit k p) m)) = N'
  have eF : ∀ a ∈ F, N' a = N3 a := by
    intro a ha
    rw [← hN', va_up_ne _ _ (fun z : a = B => hB (by rw [← z]; exact ha)), va_up_ne _ _ (fun z : a = m => hm (by rw [← z]; exact ha))]
  have eM : N' m = (k, 256, ht_kz, false, .inl v) := by
    rw [← hN', va_up_ne _ _ hmB, va_up_self]
  have eB : N' B = (k, p, ht_kz, false, .inr (ht_zo (be, be) (ht_bit k p) m)) := by
    rw [← hN', va_up_self]
  have hkl : ∀ a ∈ F, ht_rk (N' a) = ht_rk (N a) ∧ ht_rl (N' a) = ht_rl (N a) := fun a ha => by rw [eF a ha]; exact ⟨(h3 a ha).1, (h3 a ha).2.1⟩
  have hpn : ∀ a ∈ F, ab ≠ some a → ht_rp (N' a) = ht_rp (N a) := fun a ha hn => by rw [eF a ha]; exact h3n a ha hn
  have hpa : ∀ a zo, ab = some a → ht_rp (N a) = .inr zo → ht_rp (N' a) = .inr (ht_zo zo (ht_bit k (ht_rl (N a))) B) := by
    intro a zo he hz
    have ha : a ∈ F := by
      obtain ⟨-, -, ⟨q, -⟩ | ⟨c, zc, q, hc, -⟩⟩ := hs
      · rw [he] at q; cases q
      · rw [he] at q; cases q; exact hc
    rw [eF a ha]
    exact h3a a zo he hz
  have hT' := h.insert (N' := N') (v := v) hs hp hmax hqs hqp hm hB hmB hkl hpn hpa (by rw [eM]; exact ⟨rfl, rfl, rfl⟩) (by rw [eB]; exact ⟨rfl, rfl, rfl⟩)
  refine ⟨hT', ?_⟩
  refine ht_FH.insert h hf hs hT' hB hkl hpn hpa (by rw [eM]; exact ⟨rfl, rfl⟩) (by rw [eB]; exact ⟨rfl, rfl⟩) (fun a ha hr => ?_) (fun a ha hr hn hne => ?_)
  · rw [eF a ha] at hr ⊢
    obtain ⟨x1, x2, x3, x4⟩ := h3 a ha
    rw [x4] at hr
    by_cases e : a = be
    · rw [if_pos e] at hr; cases hr
    · rw [if_neg e] at hr
      have hN1 : N1 a = N a := by
        rcases hmk.1 a with q | q
        · exact q
        · rw [q] at hr; cases hr
      refine ⟨by rw [← hN1]; exact hr, x3, fun hi => ?_, e⟩
      have hlt := h.ltp hp hmax ha hi
      cases hpx : ht_rp (N a) with
      | inl y => have := (h.2.2.2.1 a ha y hpx).1; omega
      | inr zo =>
        have := hmk.2.1 a ha hi ⟨zo, hpx⟩ hlt
        rw [this] at hr; cases hr
  · rw [eF a ha, (h3 a ha).2.2.2, if_neg hne, hmk.2.2 a hn]
    exact hr
theorem ht_kf_z : ht_kf ht_kz = fun _ => 0 := by
  funext j
  unfold ht_kf ht_kz
  split
  · rfl
  · split
    · rfl
    · split <;> rfl
theorem ht_one_T {dg : Int32 → ht_K → ht_K → ht_K} {N : ht_N} {k v : ht_K} {m : Nat} (hm : N m = (k, 256, ht_kz, false, .inl v)) : ht_T N [m] (some m) [(k, v)] ∧ ht_FH dg N [m] (some m) [(k, v)] := by
  have hin : ∀ q ∈ [(k, v)], ht_in N m q.1 := by
    intro q hq
    rw [List.mem_singleton.mp hq]
    unfold ht_in
    rw [hm]
    show 256 ≤ ht_part k k
    rw [ht_part_eq.mpr rfl]
    exact Nat.le_refl _
  have h0 : ht_T0 N [m] (some m) [(k, v)] := ⟨fun t h => by cases h; exact ⟨List.mem_cons_self, hin⟩, fun h => by cases h⟩
  have h1 : ht_T1 N [m] [(k, v)] := fun a ha x hx => by
    rw [List.mem_singleton.mp ha] at hx ⊢
    rw [hm] at hx ⊢
    cases hx
    exact ⟨rfl, List.mem_cons_self⟩
  have h2 : ht_T2 N [m] [(k, v)] := fun q hq => by
    rw [List.mem_singleton.mp hq]
    exact ⟨m, List.mem_cons_self, by rw [hm]; exact ⟨rfl, rfl⟩⟩
  have h3 : ht_T3 N [m] [(k, v)] := fun a ha zo hz => by
    rw [List.mem_singleton.mp ha, hm] at hz
    cases hz
  have h4 : ht_T4 N [m] := fun a ha b hb _ _ => by rw [List.mem_singleton.mp ha, List.mem_singleton.mp hb]
  have h5 : ht_T5 N [m] [(k, v)] := fun a ha => by
    rw [List.mem_singleton.mp ha]
    exact ⟨(k, v), List.mem_cons_self, hin _ List.mem_cons_self⟩
  refine ⟨⟨List.nodup_cons.mpr ⟨List.not_mem_nil, List.nodup_nil⟩, List.nodup_cons.mpr ⟨List.not_mem_nil, List.nodup_nil⟩, h0, h1, h2, h3, h4, h5⟩, fun t ht hr => ?_, fun a ha zo hz => ?_⟩
  · cases ht
    rw [hm] at hr; cases hr
  · rw [List.mem_singleton.mp ha, hm] at hz
    cases hz
