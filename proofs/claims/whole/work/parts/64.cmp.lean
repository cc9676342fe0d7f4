/-! The order of keys: unsigned, the first bit that differs decides. -/
def ht_klt (k k' : ht_K) : Prop := ht_part k k' < 256 ∧ ht_bit k (ht_part k k') = false
theorem ht_klt.ne {k k' : ht_K} (h : ht_klt k k') : k ≠ k' := fun e => by
  have := h.1
  rw [ht_part_eq.mpr e] at this
  omega
theorem ht_klt.bit {k k' : ht_K} (h : ht_klt k k') : ht_bit k' (ht_part k k') = true := by
  have h1 := ht_part_ne h.1
  rw [h.2] at h1
  cases h2 : ht_bit k' (ht_part k k') with
  | false => exact absurd h2.symm h1
  | true => rfl
theorem ht_klt.asymm {k k' : ht_K} (h : ht_klt k k') (h' : ht_klt k' k) : False := by
  have h1 := h.bit
  have h2 := h'.2
  rw [ht_part_comm k' k, h1] at h2
  cases h2
theorem ht_klt.trans {a b c : ht_K} (h : ht_klt a b) (h' : ht_klt b c) : ht_klt a c := by
  have hab := h.1
  have hbc := h'.1
  have ab := ht_part_ag a b
  have bc := ht_part_ag b c
  rcases Nat.lt_trichotomy (ht_part a b) (ht_part b c) with e | e | e
  · have hp : ht_part a c = ht_part a b := ht_part_is (by omega) (ht_ag_trans ab (ht_ag_le bc (by omega))) (fun _ => by
      rw [← bc _ e]
      exact ht_part_ne hab)
    exact ⟨by omega, by rw [hp]; exact h.2⟩
  · have h1 := h.bit
    have h2 := h'.2
    rw [← e, h1] at h2
    cases h2
  · have hp : ht_part a c = ht_part b c := ht_part_is (by omega) (ht_ag_trans (ht_ag_le ab (by omega)) bc) (fun _ => by
      rw [ab _ e]
      exact ht_part_ne hbc)
    exact ⟨by omega, by rw [hp, ab _ e]; exact h'.2⟩
theorem ht_klt.total {k k' : ht_K} (h : k ≠ k') : ht_klt k k' ∨ ht_klt k' k := by
  have h1 : ht_part k k' < 256 := Nat.lt_of_le_of_ne (ht_part_le k k') (fun e => h (ht_part_eq.mp e))
  cases h2 : ht_bit k (ht_part k k') with
  | false => exact Or.inl ⟨h1, h2⟩
  | true =>
    refine Or.inr ⟨by rw [ht_part_comm]; exact h1, ?_⟩
    have h3 := ht_part_ne h1
    rw [h2] at h3
    rw [ht_part_comm k' k]
    cases h4 : ht_bit k' (ht_part k k') with
    | false => rfl
    | true => exact absurd h4.symm h3
/-- what lies between two keys agrees with them where they agree -/
theorem ht_klt.between {a b c : ht_K} (h : ht_klt a b) (h' : ht_klt b c) {d : Nat} (hd : d ≤ 256) (hac : ht_ag a c d) : ht_ag a b d := by
  rw [ht_ag_part hd]
  refine Nat.not_lt.mp (fun q => ?_)
  have hb := h.bit
  have hc : ht_bit c (ht_part a b) = false := by rw [← hac _ q]; exact h.2
  have hag : ht_ag b c (ht_part a b) := ht_ag_trans (ht_ag_symm (ht_part_ag a b)) (ht_ag_le hac (by omega))
  have hp : ht_part b c = ht_part a b := ht_part_is (by omega) hag (fun _ => by rw [hb, hc]; decide)
  have := h'.2
  rw [hp, hb] at this
  cases this
theorem ht_top {x y : BitVec 64} {d : Nat} (hd : d ≤ 64) (h : ∀ j, j < d → x.getMsbD j = y.getMsbD j) : x.toNat / 2 ^ (64 - d) = y.toNat / 2 ^ (64 - d) := by
  have e : x >>> (64 - d) = y >>> (64 - d) := by
    apply BitVec.eq_of_getLsbD_eq
    intro i hi
    rw [BitVec.getLsbD_ushiftRight, BitVec.getLsbD_ushiftRight]
    by_cases h1 : 64 - d + i < 64
    · have h2 := h (63 - (64 - d + i)) (by omega)
      rw [BitVec.getMsbD_eq_getLsbD, BitVec.getMsbD_eq_getLsbD] at h2
      simp only [show 63 - (64 - d + i) < 64 by omega, decide_true, Bool.true_and, show 64 - 1 - (63 - (64 - d + i)) = 64 - d + i by omega] at h2
      exact h2
    · rw [BitVec.getLsbD_of_ge x _ (by omega), BitVec.getLsbD_of_ge y _ (by omega)]
  have e2 := congrArg BitVec.toNat e
  rw [BitVec.toNat_ushiftRight, BitVec.toNat_ushiftRight, Nat.shiftRight_eq_div_pow, Nat.shiftRight_eq_div_pow] at e2
  exact e2
theorem ht_div2 {x m : Nat} : x / 2 ^ m = 2 * (x / 2 ^ (m + 1)) + x / 2 ^ m % 2 := by
  rw [Nat.pow_succ, ← Nat.div_div_eq_div_mul]
  omega
theorem ht_ult {x y : BitVec 64} {d : Nat} (hd : d < 64) (h : ∀ j, j < d → x.getMsbD j = y.getMsbD j) (hx : x.getMsbD d = false) (hy : y.getMsbD d = true) : x.toNat < y.toNat := by
  have h1 := ht_top (Nat.le_of_lt hd) h
  have e1 : x.toNat / 2 ^ (63 - d) % 2 = 0 := by
    rw [BitVec.getMsbD_eq_getLsbD] at hx
    simp only [hd, decide_true, Bool.true_and] at hx
    have h2 : x.toNat.testBit (63 - d) = false := hx
    rw [Nat.testBit_eq_decide_div_mod_eq] at h2
    have := of_decide_eq_false h2
    omega
  have e2 : y.toNat / 2 ^ (63 - d) % 2 = 1 := by
    rw [BitVec.getMsbD_eq_getLsbD] at hy
    simp only [hd, decide_true, Bool.true_and] at hy
    have h2 : y.toNat.testBit (63 - d) = true := hy
    rw [Nat.testBit_eq_decide_div_mod_eq] at h2
    exact of_decide_eq_true h2
  have f1 := ht_div2 (x := x.toNat) (m := 63 - d)
  have f2 := ht_div2 (x := y.toNat) (m := 63 - d)
  rw [show 63 - d + 1 = 64 - d by omega] at f1 f2
  have h3 : x.toNat / 2 ^ (63 - d) < y.toNat / 2 ^ (63 - d) := by omega
  exact Nat.not_le.mp (fun q => absurd (Nat.div_le_div_right q (c := 2 ^ (63 - d))) (by omega))
theorem ht_min_toInt (x : Int64) : (x + (-9223372036854775808)).toInt = (x.toBitVec.toNat : Int) - 2 ^ 63 := by
  show (x + (-9223372036854775808)).toBitVec.toInt = _
  rw [Int64.toBitVec_add, BitVec.toInt_eq_toNat_cond, BitVec.toNat_add, show (-9223372036854775808 : Int64).toBitVec.toNat = 9223372036854775808 by decide]
  have := x.toBitVec.isLt
  split <;> omega
theorem ht_ulti (x y : Int64) : x + (-9223372036854775808) < y + (-9223372036854775808) ↔ x.toBitVec.toNat < y.toBitVec.toNat := by
  rw [Int64.lt_iff_toInt_lt, ht_min_toInt, ht_min_toInt]
  omega
/-- the words q .. 3 decide when those before are the same -/
theorem ht_kw {k k' : ht_K} {q : Nat} (hq : q < 4) (h : ∀ i, i < q → ht_kf k i = ht_kf k' i) (hne : ht_kf k q ≠ ht_kf k' q) : (ht_kf k q + (-9223372036854775808) < ht_kf k' q + (-9223372036854775808) → ht_klt k k') ∧ (¬ ht_kf k q + (-9223372036854775808) < ht_kf k' q + (-9223372036854775808) → ht_klt k' k) := by
  have hkk : k ≠ k' := fun e => hne (by rw [e])
  have hpa : ∀ {a b : ht_K}, (∀ i, i < q → ht_kf a i = ht_kf b i) → ht_kf a q ≠ ht_kf b q → ht_klt a b → (ht_kf a q).toBitVec.toNat < (ht_kf b q).toBitVec.toNat := by
    intro a b hab hn hlt
    have h1 : 64 * q ≤ ht_part a b := Nat.not_lt.mp (fun e => ht_part_ne (k := a) (k' := b) (by omega) (by
      unfold ht_bit
      rw [hab (ht_part a b / 64) (by omega)]))
    have h2 : ht_part a b < 64 * q + 64 := Nat.not_le.mp (fun e => hn (by
      apply Int64.toBitVec_inj.mp
      apply BitVec.eq_of_getMsbD_eq
      intro i hi
      have := ht_part_ag a b (64 * q + i) (by omega)
      unfold ht_bit at this
      rw [show (64 * q + i) / 64 = q by omega, show (64 * q + i) % 64 = i by omega] at this
      exact this))
    have hb := hlt.bit
    have ha := hlt.2
    unfold ht_bit at ha hb
    rw [show ht_part a b / 64 = q by omega] at ha hb
    refine ht_ult (d := ht_part a b % 64) (by omega) (fun j hj => ?_) ha hb
    have := ht_part_ag a b (64 * q + j) (by omega)
    unfold ht_bit at this
    rw [show (64 * q + j) / 64 = q by omega, show (64 * q + j) % 64 = j by omega] at this
    exact this
  rcases ht_klt.total hkk with e | e
  · have h1 := hpa h hne e
    exact ⟨fun _ => e, fun z => absurd ((ht_ulti _ _).mpr h1) z⟩
  · have h1 := hpa (fun i hi => (h i hi).symm) (Ne.symm hne) e
    exact ⟨fun z => absurd ((ht_ulti _ _).mp z) (by omega), fun _ => e⟩
/-- a bit, as the reference reads it -/
theorem ht_bit_r {k : ht_K} {d : Nat} (hd : d < 256) {x : Int64} (hx : x = ht_kf k (d / 64)) {s : Int32} (hs : s = nI (63 - d % 64)) : ((x >>> (s.toInt64 &&& 63)) &&& 1).toInt32 = ht_b1 (ht_bit k d) := by
  have e1 : ((s.toInt64 &&& 63).toBitVec.smod 64).toNat = 63 - d % 64 := by
    rw [hs]
    have h64 : d % 64 < 64 := Nat.mod_lt _ (by decide)
    generalize d % 64 = z at h64
    have : ∀ z, z < 64 → (((nI (63 - z)).toInt64 &&& 63).toBitVec.smod 64).toNat = 63 - z := by decide +kernel
    exact this z h64
  have e2 : ((x >>> (s.toInt64 &&& 63)) &&& 1).toBitVec = BitVec.setWidth 64 (BitVec.ofBool (ht_bit k d)) := by
    apply BitVec.eq_of_getLsbD_eq
    intro i hi
    rw [Int64.toBitVec_and, BitVec.getLsbD_and, Int64.toBitVec_shiftRight, BitVec.sshiftRight_eq', e1, BitVec.getLsbD_sshiftRight, BitVec.getLsbD_setWidth]
    have e3 : (1 : Int64).toBitVec.getLsbD i = decide (i = 0) := by
      show (1#64).getLsbD i = _
      rw [BitVec.getLsbD_one]
      simp
    rw [e3]
    by_cases h0 : i = 0
    · subst h0
      unfold ht_bit
      rw [← hx, BitVec.getMsbD_eq_getLsbD]
      simp [show 63 - d % 64 < 64 by omega, show d % 64 < 64 by omega]
    · have : (BitVec.ofBool (ht_bit k d)).getLsbD i = false := BitVec.getLsbD_of_ge _ _ (by omega)
      simp [h0, this]
  apply Int32.toBitVec_inj.mp
  show (((x >>> (s.toInt64 &&& 63)) &&& 1).toBitVec.signExtend 32) = _
  rw [e2]
  cases ht_bit k d <;> decide
/-- four words of a row -/
def ht_row (f : Nat → Int64) (i : Nat) (k : ht_K) : Prop := ∀ j, j < 4 → f (i + j) = ht_kf k j
/-- two words agree in their first bits -/
theorem ht_agw {x y : Int64} {b : Nat} (h0 : 0 < b) (hb : b < 64) {s : Int32} (hs : s = nI (64 - b)) : ((x.toUInt64 >>> (s.toInt64.toUInt64 &&& Int64.toUInt64 63)).toInt64 = (y.toUInt64 >>> (s.toInt64.toUInt64 &&& Int64.toUInt64 63)).toInt64) ↔ ∀ j, j < b → x.toBitVec.getMsbD j = y.toBitVec.getMsbD j := by
  have e1 : ((s.toInt64.toUInt64 &&& Int64.toUInt64 63).toBitVec % 64).toNat = 64 - b := by
    rw [hs]
    have : ∀ z, z < 64 → 0 < z → (((nI (64 - z)).toInt64.toUInt64 &&& Int64.toUInt64 63).toBitVec % 64).toNat = 64 - z := by decide +kernel
    exact this b hb h0
  have e2 : ∀ v : Int64, (v.toUInt64 >>> (s.toInt64.toUInt64 &&& Int64.toUInt64 63)).toInt64.toBitVec = v.toBitVec >>> (64 - b) := fun v => by
    show (v.toUInt64 >>> (s.toInt64.toUInt64 &&& Int64.toUInt64 63)).toBitVec = _
    rw [UInt64.toBitVec_shiftRight, BitVec.ushiftRight_eq', e1]
    rfl
  rw [← Int64.toBitVec_inj, e2, e2]
  constructor
  · intro h j hj
    have := congrArg (fun z => BitVec.getLsbD z (b - 1 - j)) h
    simp only [BitVec.getLsbD_ushiftRight] at this
    rw [BitVec.getMsbD_eq_getLsbD, BitVec.getMsbD_eq_getLsbD]
    simp only [show j < 64 by omega, decide_true, Bool.true_and]
    rw [show 64 - 1 - j = 64 - b + (b - 1 - j) by omega]
    exact this
  · intro h
    apply BitVec.eq_of_getLsbD_eq
    intro i hi
    rw [BitVec.getLsbD_ushiftRight, BitVec.getLsbD_ushiftRight]
    by_cases h1 : 64 - b + i < 64
    · have h2 := h (63 - (64 - b + i)) (by omega)
      rw [BitVec.getMsbD_eq_getLsbD, BitVec.getMsbD_eq_getLsbD] at h2
      simp only [show 63 - (64 - b + i) < 64 by omega, decide_true, Bool.true_and, show 64 - 1 - (63 - (64 - b + i)) = 64 - b + i by omega] at h2
      exact h2
    · rw [BitVec.getLsbD_of_ge x.toBitVec _ (by omega), BitVec.getLsbD_of_ge y.toBitVec _ (by omega)]
/-- agreeing, word by word -/
theorem ht_ag_w {k k' : ht_K} {q : Nat} (hq : q < 4) {d : Nat} (h : ht_ag k k' (min d (64 * q))) : (64 * q + 64 ≤ d → (ht_kf k q = ht_kf k' q ↔ ht_ag k k' (min d (64 * (q + 1))))) ∧ (64 * q < d → d < 64 * q + 64 → ((∀ j, j < d - 64 * q → (ht_kf k q).toBitVec.getMsbD j = (ht_kf k' q).toBitVec.getMsbD j) ↔ ht_ag k k' (min d (64 * (q + 1))))) ∧ (d ≤ 64 * q → ht_ag k k' (min d (64 * (q + 1)))) := by
  have hbit : ∀ (a : ht_K) (j : Nat), j < 64 → ht_bit a (64 * q + j) = (ht_kf a q).toBitVec.getMsbD j := fun a j hj => by
    unfold ht_bit
    rw [show (64 * q + j) / 64 = q by omega, show (64 * q + j) % 64 = j by omega]
  refine ⟨fun hd => ⟨fun e j hj => ?_, fun e => ?_⟩, fun h1 h2 => ⟨fun e j hj => ?_, fun e j hj => ?_⟩, fun hd j hj => h j (by omega)⟩
  · by_cases hj2 : j < 64 * q
    · exact h j (by omega)
    · rw [show j = 64 * q + (j - 64 * q) by omega, hbit k _ (by omega), hbit k' _ (by omega), e]
  · apply Int64.toBitVec_inj.mp
    apply BitVec.eq_of_getMsbD_eq
    intro i hi
    rw [← hbit k i hi, ← hbit k' i hi]
    exact e _ (by omega)
  · by_cases hj2 : j < 64 * q
    · exact h j (by omega)
    · rw [show j = 64 * q + (j - 64 * q) by omega, hbit k _ (by omega), hbit k' _ (by omega)]
      exact e _ (by omega)
  · rw [← hbit k j (by omega), ← hbit k' j (by omega)]
    exact e _ (by omega)
