/-! THE DIGEST as a function of the bytes: the class's side. -/
def ht_c4 (b : Nat → Int32) (i : Nat) : Int32 := ((((((b i &&& 255) <<< ((8 : Int32) &&& 31)) ||| (b (i + 1) &&& 255)) <<< ((8 : Int32) &&& 31)) ||| (b (i + 2) &&& 255)) <<< ((8 : Int32) &&& 31)) ||| (b (i + 3) &&& 255)
/-- the words behind j blocks -/
def ht_sw (b : Nat → Int32) : Nat → Nat → Int32
  | 0 => ht_w0
  | j + 1 => ht_bl (ht_sw b j) (fun t => ht_c4 b (64 * j + 4 * t))
theorem ht_sp_cg {w w' : Nat → Int32} (h : ∀ t, t < 16 → w t = w' t) : ∀ k t, t < 16 + k → ht_sp k w t = ht_sp k w' t := by
  intro k
  induction k with
  | zero => intro t ht; exact h t ht
  | succ k ih =>
    intro t ht
    unfold ht_sp upd
    by_cases e : t = 16 + k
    · rw [if_pos e, if_pos e, ih k (by omega), ih (k + 1) (by omega), ih (k + 9) (by omega), ih (k + 14) (by omega)]
    · rw [if_neg e, if_neg e]
      exact ih t (by omega)
theorem ht_rn_cg {w w' : Nat → Int32} (o : ht_O) (h : ∀ t, t < 64 → w t = w' t) : ∀ k, k ≤ 64 → ht_rn w o k = ht_rn w' o k := by
  intro k
  induction k with
  | zero => intro _; rfl
  | succ k ih =>
    intro hk
    unfold ht_rn
    rw [ih (by omega), h k (by omega)]
theorem ht_bl_cg {ws w w' : Nat → Int32} (h : ∀ t, t < 16 → w t = w' t) : ht_bl ws w = ht_bl ws w' := by
  unfold ht_bl
  rw [ht_rn_cg (ht_o8 ws) (fun t ht => ht_sp_cg h 48 t (by omega)) 64 (Nat.le_refl _)]
theorem ht_sl8 (x : Int32) : (x <<< ((8 : Int32) &&& 31)).toBitVec = x.toBitVec <<< 8 := by
  show x.toBitVec <<< (((8 : Int32) &&& 31).toBitVec.smod 32) = _
  rw [BitVec.shiftLeft_eq']
  rfl
/-- what four bytes push out -/
theorem ht_out (x a b c d : Int32) : (((((((x <<< ((8 : Int32) &&& 31)) ||| a) <<< ((8 : Int32) &&& 31)) ||| b) <<< ((8 : Int32) &&& 31)) ||| c) <<< ((8 : Int32) &&& 31)) ||| d = ((((((a <<< ((8 : Int32) &&& 31)) ||| b) <<< ((8 : Int32) &&& 31)) ||| c) <<< ((8 : Int32) &&& 31)) ||| d) := by
  apply Int32.toBitVec_inj.mp
  simp only [Int32.toBitVec_or, ht_sl8, BitVec.shiftLeft_or_distrib, ← BitVec.shiftLeft_add]
  have e : x.toBitVec <<< (8 + 8 + 8 + 8) = 0#32 := BitVec.shiftLeft_eq_zero (by decide)
  rw [e, BitVec.zero_or]
def ht_sh8 (b : Nat → Int32) (i : Nat) (x : Int32) : Nat → Int32
  | 0 => x
  | r + 1 => (ht_sh8 b i x r <<< ((8 : Int32) &&& 31)) ||| (b (i + r) &&& 255)
theorem ht_sh8_4 (b : Nat → Int32) (i : Nat) (x : Int32) : ht_sh8 b i x 4 = ht_c4 b i := ht_out x _ _ _ _
def ht_S8 (b : Nat → Int32) (n : Nat) (t : ht_D) : Prop := t.1 = ht_sw b (n / 64) ∧ t.2.2 = nI n ∧ (∀ q, 4 * q + 4 ≤ n % 64 → t.2.1 q = ht_c4 b (64 * (n / 64) + 4 * q)) ∧ ∃ x, t.2.1 (n % 64 / 4) = ht_sh8 b (64 * (n / 64) + 4 * (n % 64 / 4)) x (n % 4)
theorem ht_S8.start (b : Nat → Int32) (row : Nat → Int32) : ht_S8 b 0 (ht_w0, row, 0) := ⟨rfl, rfl, fun q h => absurd h (by omega), row 0, rfl⟩
theorem ht_pl_n {n : Nat} (h : n < 2 ^ 31) : ht_pl (nI n) = nI (n % 64 / 4) := by
  unfold ht_pl
  rw [pk_andN (by omega) (m := 63) 6 (by decide)]
  exact pk_shrN (by omega) _ 2 (by decide)
theorem ht_S8.step {b : Nat → Int32} {n : Nat} {t : ht_D} (h : ht_S8 b n t) (hn : n + 1 < 2 ^ 31) : ht_S8 b (n + 1) (ht_tk t (b n)) := by
  obtain ⟨h1, h2, h3, x, h4⟩ := h
  have hpl : (ht_pl t.2.2).toNatClampNeg = n % 64 / 4 := by rw [h2, ht_pl_n (by omega), nI_clamp (by omega)]
  have htw : ht_tw t (b n) = upd t.2.1 (n % 64 / 4) (ht_sh8 b (64 * (n / 64) + 4 * (n % 64 / 4)) x (n % 4 + 1)) := by
    unfold ht_tw
    rw [hpl, h4]
    show _ = upd t.2.1 (n % 64 / 4) ((ht_sh8 b (64 * (n / 64) + 4 * (n % 64 / 4)) x (n % 4) <<< ((8 : Int32) &&& 31)) ||| (b (64 * (n / 64) + 4 * (n % 64 / 4) + n % 4) &&& 255))
    rw [show 64 * (n / 64) + 4 * (n % 64 / 4) + n % 4 = n by omega]
  have hlen : t.2.2 + 1 = nI (n + 1) := by rw [h2, nI_1]
  have hc : ((t.2.2 + 1) &&& 63 = 0) ↔ (n + 1) % 64 = 0 := by
    rw [hlen, pk_andN (by omega) (m := 63) 6 (by decide), show (0 : Int32) = nI 0 from rfl, nI_eq (by omega) (by omega)]
  unfold ht_tk
  by_cases hz : (n + 1) % 64 = 0
  · rw [if_pos (hc.mpr hz)]
    refine ⟨?_, hlen, fun q hq => absurd hq (by omega), ht_sp 48 (ht_tw t (b n)) ((n + 1) % 64 / 4), ?_⟩
    · rw [show (n + 1) / 64 = n / 64 + 1 by omega]
      show ht_bl t.1 (ht_tw t (b n)) = ht_bl (ht_sw b (n / 64)) _
      rw [h1]
      refine ht_bl_cg (fun q hq => ?_)
      rw [htw]
      by_cases e : q = n % 64 / 4
      · subst e
        rw [pk_us, show n % 4 + 1 = 4 by omega, ht_sh8_4]
      · rw [pk_un e]
        exact h3 q (by omega)
    · show _ = ht_sh8 b _ _ ((n + 1) % 4)
      rw [show (n + 1) % 4 = 0 by omega]
      rfl
  · rw [if_neg (fun q => hz (hc.mp q))]
    have e1 : (n + 1) / 64 = n / 64 := by omega
    refine ⟨by rw [e1]; exact h1, hlen, fun q hq => ?_, ?_⟩
    · rw [e1]
      show ht_tw t (b n) q = _
      rw [htw]
      by_cases e : q = n % 64 / 4
      · subst e
        rw [pk_us, show n % 4 + 1 = 4 by omega, ht_sh8_4]
      · rw [pk_un e]
        exact h3 q (by omega)
    · rw [e1]
      show ∃ y, ht_tw t (b n) ((n + 1) % 64 / 4) = _
      rw [htw]
      by_cases e : n % 4 = 3
      · refine ⟨t.2.1 ((n + 1) % 64 / 4), ?_⟩
        rw [pk_un (by omega), show (n + 1) % 4 = 0 by omega]
        rfl
      · refine ⟨x, ?_⟩
        rw [show (n + 1) % 64 / 4 = n % 64 / 4 by omega, pk_us, show (n + 1) % 4 = n % 4 + 1 by omega]
theorem ht_sw_cg {b b' : Nat → Int32} : ∀ j, (∀ i, i < 64 * j → b i = b' i) → ht_sw b j = ht_sw b' j := by
  intro j
  induction j with
  | zero => intro _; rfl
  | succ j ih =>
    intro h
    unfold ht_sw
    rw [ih (fun i hi => h i (by omega))]
    refine ht_bl_cg (fun t ht => ?_)
    unfold ht_c4
    rw [h (64 * j + 4 * t) (by omega), h (64 * j + 4 * t + 1) (by omega), h (64 * j + 4 * t + 2) (by omega), h (64 * j + 4 * t + 3) (by omega)]
theorem ht_sh8_cg {b b' : Nat → Int32} {i : Nat} {x : Int32} : ∀ r, (∀ j, j < i + r → b j = b' j) → ht_sh8 b i x r = ht_sh8 b' i x r := by
  intro r
  induction r with
  | zero => intro _; rfl
  | succ r ih =>
    intro h
    unfold ht_sh8
    rw [ih (fun j hj => h j (by omega)), h (i + r) (by omega)]
theorem ht_S8.cg {b b' : Nat → Int32} {n : Nat} {t : ht_D} (h : ht_S8 b n t) (hb : ∀ i, i < n → b i = b' i) : ht_S8 b' n t := by
  obtain ⟨h1, h2, h3, x, h4⟩ := h
  refine ⟨by rw [h1]; exact ht_sw_cg _ (fun i hi => hb i (by omega)), h2, fun q hq => ?_, x, ?_⟩
  · rw [h3 q hq]
    unfold ht_c4
    rw [hb _ (by omega), hb _ (by omega), hb _ (by omega), hb _ (by omega)]
  · rw [h4]
    exact ht_sh8_cg _ (fun j hj => hb j (by omega))
theorem ht_S8.tl {b : Nat → Int32} {x : Int64} : ∀ (m n : Nat) (t : ht_D), ht_S8 b n t → n + m < 2 ^ 31 → (∀ i, i < m → b (n + i) = ht_by x (m - 1 - i)) → ht_S8 b (n + m) (ht_tl t x m) := by
  intro m
  induction m with
  | zero => intro n t h _ _; exact h
  | succ m ih =>
    intro n t h hn hb
    have h0 := hb 0 (by omega)
    rw [Nat.add_zero, show m + 1 - 1 - 0 = m by omega] at h0
    have h1 := h.step (by omega)
    rw [h0] at h1
    have := ih (n + 1) _ h1 (by omega) (fun i hi => by
      have := hb (i + 1) (by omega)
      rw [show n + (i + 1) = n + 1 + i by omega, show m + 1 - 1 - (i + 1) = m - 1 - i by omega] at this
      exact this)
    rw [show n + (m + 1) = n + 1 + m by omega]
    exact this
theorem ht_S8.tz {b : Nat → Int32} : ∀ (m n : Nat) (t : ht_D), ht_S8 b n t → n + m < 2 ^ 31 → (∀ i, i < m → b (n + i) = 0) → ht_S8 b (n + m) (ht_tz t m) := by
  intro m
  induction m with
  | zero => intro n t h _ _; exact h
  | succ m ih =>
    intro n t h hn hb
    have h1 := h.step (by omega)
    rw [show b n = 0 from hb 0 (by omega)] at h1
    have := ih (n + 1) _ h1 (by omega) (fun i hi => by
      have := hb (i + 1) (by omega)
      rw [show n + (i + 1) = n + 1 + i by omega] at this
      exact this)
    rw [show n + (m + 1) = n + 1 + m by omega]
    exact this
/-- a row of n bytes with what comes behind it -/
def ht_pad (b : Nat → Int32) (n : Nat) : Nat → Int32 := fun i => if i < n then b i else if i = n then 128 else if i < 64 * ((n + 72) / 64) - 8 then 0 else ht_by ((8 : Int64) * (nI n).toInt64) (64 * ((n + 72) / 64) - 1 - i)
theorem ht_zs {n : Nat} (h : n < 2 ^ 31) : (((56 : Int32) - nI (n + 1)) &&& 63).toNatClampNeg = 64 * ((n + 72) / 64) - 8 - (n + 1) := by
  rw [pk_and _ (m := 63) 6 (by decide), nI_clamp (by omega)]
  have e : ((56 : Int32) - nI (n + 1)).toBitVec.toNat = (2 ^ 32 - (n + 1) + 56) % 2 ^ 32 := by
    rw [Int32.toBitVec_sub, BitVec.toNat_sub, pk_tn (by omega)]
    rfl
  rw [e]
  omega
theorem ht_fi_sw {b : Nat → Int32} {n : Nat} {t : ht_D} (h : ht_S8 b n t) (hn : n ≤ 4000) : (ht_fi t).1 = ht_sw (ht_pad b n) ((n + 72) / 64) := by
  have h0 := h.cg (b' := ht_pad b n) (fun i hi => by unfold ht_pad; rw [if_pos hi])
  have h1 := h0.step (by omega)
  rw [show ht_pad b n n = 128 by unfold ht_pad; rw [if_neg (Nat.lt_irrefl n), if_pos rfl]] at h1
  have hl : (ht_tk t 128).2.2 = nI (n + 1) := h1.2.1
  have h2 := ht_S8.tz (64 * ((n + 72) / 64) - 8 - (n + 1)) (n + 1) _ h1 (by omega) (fun i hi => by
    unfold ht_pad
    rw [if_neg (by omega), if_neg (by omega), if_pos (by omega)])
  rw [show n + 1 + (64 * ((n + 72) / 64) - 8 - (n + 1)) = 64 * ((n + 72) / 64) - 8 by omega] at h2
  have h3 := ht_S8.tl (x := (8 : Int64) * (nI n).toInt64) 8 (64 * ((n + 72) / 64) - 8) _ h2 (by omega) (fun i hi => by
    unfold ht_pad
    rw [if_neg (by omega), if_neg (by omega), if_neg (by omega)]
    congr 1
    omega)
  have e : ht_fi t = ht_tl (ht_tz (ht_tk t 128) (64 * ((n + 72) / 64) - 8 - (n + 1))) ((8 : Int64) * (nI n).toInt64) 8 := by
    unfold ht_fi
    rw [hl, ht_zs (by omega), h.2.1]
  rw [e, h3.1]
  congr 1
  omega
