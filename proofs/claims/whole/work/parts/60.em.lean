/-! The reference's numbers: 32 bits in a long. -/
def ht_em (x : Int32) : Int64 := Int64.ofBitVec (x.toBitVec.setWidth 64)
theorem ht_em_bv (x : Int32) : (ht_em x).toBitVec = x.toBitVec.setWidth 64 := rfl
theorem ht_low_bv (i : Nat) : (4294967295 : Int64).toBitVec.getLsbD i = decide (i < 32) := by
  have e : (4294967295 : Int64).toBitVec = (BitVec.allOnes 32).setWidth 64 := by decide
  rw [e, BitVec.getLsbD_setWidth, BitVec.getLsbD_allOnes]
  by_cases h : i < 32
  · simp [h, show i < 64 by omega]
  · simp [h]
theorem ht_i64 {x y : Int64} (h : ∀ i, i < 64 → x.toBitVec.getLsbD i = y.toBitVec.getLsbD i) : x = y := Int64.toBitVec_inj.mp (BitVec.eq_of_getLsbD_eq h)
theorem ht_em_bit (x : Int32) (i : Nat) : (ht_em x).toBitVec.getLsbD i = x.toBitVec.getLsbD i := by
  rw [ht_em_bv, BitVec.getLsbD_setWidth]
  by_cases h : i < 64
  · simp [h]
  · simp [h, BitVec.getLsbD_of_ge x.toBitVec i (by omega)]
theorem ht_low (v : Int64) : v &&& 4294967295 = ht_em v.toInt32 := by
  refine ht_i64 (fun i hi => ?_)
  rw [Int64.toBitVec_and, BitVec.getLsbD_and, ht_low_bv, ht_em_bit]
  show _ = (v.toBitVec.signExtend 32).getLsbD i
  rw [BitVec.getLsbD_signExtend]
  by_cases h : i < 32
  · simp [h, hi]
  · simp [h]
theorem ht_em_tr (x : Int32) : (ht_em x).toInt32 = x := by
  apply Int32.toBitVec_inj.mp
  show (x.toBitVec.setWidth 64).signExtend 32 = x.toBitVec
  rw [BitVec.signExtend_eq_setWidth_of_le _ (by decide), BitVec.setWidth_setWidth_of_le _ (by decide), BitVec.setWidth_eq]
theorem ht_em_xor (x y : Int32) : ht_em x ^^^ ht_em y = ht_em (x ^^^ y) := by
  refine ht_i64 (fun i hi => ?_)
  rw [Int64.toBitVec_xor, BitVec.getLsbD_xor, ht_em_bit, ht_em_bit, ht_em_bit, Int32.toBitVec_xor, BitVec.getLsbD_xor]
theorem ht_em_and (x y : Int32) : ht_em x &&& ht_em y = ht_em (x &&& y) := by
  refine ht_i64 (fun i hi => ?_)
  rw [Int64.toBitVec_and, BitVec.getLsbD_and, ht_em_bit, ht_em_bit, ht_em_bit, Int32.toBitVec_and, BitVec.getLsbD_and]
theorem ht_em_inj {x y : Int32} (h : ht_em x = ht_em y) : x = y := by rw [← ht_em_tr x, h, ht_em_tr]
theorem ht_em_tn (x : Int32) : (ht_em x).toBitVec.toNat = x.toBitVec.toNat := by
  rw [ht_em_bv, BitVec.toNat_setWidth, Nat.mod_eq_of_lt]
  have := x.toBitVec.isLt
  omega
theorem ht_em_not (x : Int32) : (4294967295 : Int64) - ht_em x = ht_em (x ^^^ (-1)) := by
  apply Int64.toBitVec_inj.mp
  apply BitVec.eq_of_toNat_eq
  rw [Int64.toBitVec_sub, BitVec.toNat_sub, ht_em_tn, ht_em_tn]
  have e : (x ^^^ (-1)).toBitVec = ~~~ x.toBitVec := by
    rw [Int32.toBitVec_xor, show (-1 : Int32).toBitVec = BitVec.allOnes 32 by decide, BitVec.xor_allOnes]
  rw [e, BitVec.toNat_not, show (4294967295 : Int64).toBitVec.toNat = 4294967295 by decide]
  have := x.toBitVec.isLt
  omega
theorem ht_em_msb (x : Int32) : (ht_em x).toBitVec.msb = false := by
  rw [BitVec.msb_eq_getLsbD_last, ht_em_bit]
  exact BitVec.getLsbD_of_ge x.toBitVec 63 (by decide)
theorem ht_sar {v d : Int64} {k : Nat} (h : (d.toBitVec.smod 64).toNat = k) (hm : v.toBitVec.msb = false) : (v >>> d).toBitVec = v.toBitVec >>> k := by
  rw [Int64.toBitVec_shiftRight, BitVec.sshiftRight_eq', h, BitVec.sshiftRight_eq_of_msb_false hm]
theorem ht_shl {v d : Int64} {k : Nat} (h : (d.toBitVec.smod 64).toNat = k) : (v <<< d).toBitVec = v.toBitVec <<< k := by
  rw [Int64.toBitVec_shiftLeft, BitVec.shiftLeft_eq', h]
theorem ht_us_bv {x d : Int32} {k : Nat} (h : ((d.toUInt32 &&& Int32.toUInt32 31).toBitVec % 32).toNat = k) : (ht_us x d).toBitVec = x.toBitVec >>> k := by
  show (x.toUInt32 >>> (d.toUInt32 &&& Int32.toUInt32 31)).toBitVec = _
  rw [UInt32.toBitVec_shiftRight, BitVec.ushiftRight_eq', h]
  rfl
theorem ht_sl_bv {x d : Int32} {k : Nat} (h : (d.toBitVec.smod 32).toNat = k) : (x <<< d).toBitVec = x.toBitVec <<< k := by
  rw [Int32.toBitVec_shiftLeft, BitVec.shiftLeft_eq', h]
/-- a turn, as the reference makes it -/
def ht_tn (v : Int64) (d : Int32) : Int64 := ((v >>> (d.toInt64 &&& 63)) ||| (v <<< (((32 : Int32) - d).toInt64 &&& 63))) &&& 4294967295
theorem ht_tn_em (x d : Int32) {k : Nat} (hk : 0 < k) (hk2 : k < 32) (h1 : ((d.toInt64 &&& 63).toBitVec.smod 64).toNat = k) (h2 : (((((32 : Int32) - d).toInt64 &&& 63)).toBitVec.smod 64).toNat = 32 - k) (h3 : ((d.toUInt32 &&& Int32.toUInt32 31).toBitVec % 32).toNat = k) (h4 : (((-d) &&& 31).toBitVec.smod 32).toNat = 32 - k) : ht_tn (ht_em x) d = ht_em (ht_rr x d) := by
  refine ht_i64 (fun i hi => ?_)
  unfold ht_tn ht_rr
  rw [Int64.toBitVec_and, BitVec.getLsbD_and, ht_low_bv, Int64.toBitVec_or, BitVec.getLsbD_or, ht_sar h1 (ht_em_msb x), ht_shl h2, ht_em_bit, Int32.toBitVec_or, BitVec.getLsbD_or, ht_us_bv h3, ht_sl_bv h4, BitVec.getLsbD_ushiftRight, BitVec.getLsbD_ushiftRight, BitVec.getLsbD_shiftLeft, BitVec.getLsbD_shiftLeft, ht_em_bit, ht_em_bit]
  by_cases h : i < 32
  · simp [h, hi]
  · have : x.toBitVec.getLsbD (k + i) = false := BitVec.getLsbD_of_ge x.toBitVec _ (by omega)
    simp [h, this]
theorem ht_em_shr (x d : Int32) {k : Nat} (h1 : ((d.toInt64 &&& 63).toBitVec.smod 64).toNat = k) (h3 : ((d.toUInt32 &&& Int32.toUInt32 31).toBitVec % 32).toNat = k) : ht_em x >>> (d.toInt64 &&& 63) = ht_em (ht_us x d) := by
  refine ht_i64 (fun i hi => ?_)
  rw [ht_sar h1 (ht_em_msb x), ht_em_bit, ht_us_bv h3, BitVec.getLsbD_ushiftRight, BitVec.getLsbD_ushiftRight, ht_em_bit]
theorem ht_tn2 (x : Int32) : ht_tn (ht_em x) 2 = ht_em (ht_rr x 2) := ht_tn_em x 2 (k := 2) (by decide) (by decide) (by decide) (by decide) (by decide) (by decide)
theorem ht_tn6 (x : Int32) : ht_tn (ht_em x) 6 = ht_em (ht_rr x 6) := ht_tn_em x 6 (k := 6) (by decide) (by decide) (by decide) (by decide) (by decide) (by decide)
theorem ht_tn7 (x : Int32) : ht_tn (ht_em x) 7 = ht_em (ht_rr x 7) := ht_tn_em x 7 (k := 7) (by decide) (by decide) (by decide) (by decide) (by decide) (by decide)
theorem ht_tn11 (x : Int32) : ht_tn (ht_em x) 11 = ht_em (ht_rr x 11) := ht_tn_em x 11 (k := 11) (by decide) (by decide) (by decide) (by decide) (by decide) (by decide)
theorem ht_tn13 (x : Int32) : ht_tn (ht_em x) 13 = ht_em (ht_rr x 13) := ht_tn_em x 13 (k := 13) (by decide) (by decide) (by decide) (by decide) (by decide) (by decide)
theorem ht_tn17 (x : Int32) : ht_tn (ht_em x) 17 = ht_em (ht_rr x 17) := ht_tn_em x 17 (k := 17) (by decide) (by decide) (by decide) (by decide) (by decide) (by decide)
theorem ht_tn18 (x : Int32) : ht_tn (ht_em x) 18 = ht_em (ht_rr x 18) := ht_tn_em x 18 (k := 18) (by decide) (by decide) (by decide) (by decide) (by decide) (by decide)
theorem ht_tn19 (x : Int32) : ht_tn (ht_em x) 19 = ht_em (ht_rr x 19) := ht_tn_em x 19 (k := 19) (by decide) (by decide) (by decide) (by decide) (by decide) (by decide)
theorem ht_tn22 (x : Int32) : ht_tn (ht_em x) 22 = ht_em (ht_rr x 22) := ht_tn_em x 22 (k := 22) (by decide) (by decide) (by decide) (by decide) (by decide) (by decide)
theorem ht_tn25 (x : Int32) : ht_tn (ht_em x) 25 = ht_em (ht_rr x 25) := ht_tn_em x 25 (k := 25) (by decide) (by decide) (by decide) (by decide) (by decide) (by decide)
theorem ht_sh3 (x : Int32) : ht_em x >>> ((3 : Int32).toInt64 &&& 63) = ht_em (ht_us x 3) := ht_em_shr x 3 (k := 3) (by decide) (by decide)
theorem ht_sh10 (x : Int32) : ht_em x >>> ((10 : Int32).toInt64 &&& 63) = ht_em (ht_us x 10) := ht_em_shr x 10 (k := 10) (by decide) (by decide)
/-- the spread of a word, four added -/
theorem ht_em_sp (a b c d : Int32) : (((ht_em a + ht_em b) + ht_em c) + ht_em d) &&& 4294967295 = ht_em (((a + b) + c) + d) := by
  rw [ht_low, Int64.toInt32_add, Int64.toInt32_add, Int64.toInt32_add, ht_em_tr, ht_em_tr, ht_em_tr, ht_em_tr]
theorem ht_em_ad (a b : Int32) : (ht_em a + ht_em b) &&& 4294967295 = ht_em (a + b) := by
  rw [ht_low, Int64.toInt32_add, ht_em_tr, ht_em_tr]
/-- x and y of a round -/
def ht_X64 (e f g h k w : Int64) : Int64 := (((h + ((ht_tn e 6 ^^^ ht_tn e 11) ^^^ ht_tn e 25)) + ((e &&& f) ^^^ (((4294967295 : Int64) - e) &&& g))) + k) + w
def ht_Y64 (a b c : Int64) : Int64 := ((ht_tn a 2 ^^^ ht_tn a 13) ^^^ ht_tn a 22) + (((a &&& b) ^^^ (a &&& c)) ^^^ (b &&& c))
theorem ht_X64_tr (e f g h k w : Int32) : (ht_X64 (ht_em e) (ht_em f) (ht_em g) (ht_em h) (ht_em k) (ht_em w)).toInt32 = ht_xx e f g h k w := by
  unfold ht_X64 ht_xx
  rw [ht_tn6, ht_tn11, ht_tn25, ht_em_not, ht_em_xor, ht_em_xor, ht_em_and, ht_em_and, ht_em_xor]
  simp only [Int64.toInt32_add, ht_em_tr]
theorem ht_Y64_tr (a b c : Int32) : (ht_Y64 (ht_em a) (ht_em b) (ht_em c)).toInt32 = ht_yy a b c := by
  unfold ht_Y64 ht_yy
  rw [ht_tn2, ht_tn13, ht_tn22, ht_em_xor, ht_em_xor, ht_em_and, ht_em_and, ht_em_and, ht_em_xor, ht_em_xor]
  simp only [Int64.toInt32_add, ht_em_tr]
theorem ht_k_em : ∀ j, j < 64 → ht_l64.getD j 0 = ht_em (ht_k64.getD j 0) := by decide +kernel
