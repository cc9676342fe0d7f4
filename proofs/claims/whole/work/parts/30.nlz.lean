/-- z zeros stand ahead in x -/
def ht_lz (x : Int32) (z : Nat) : Prop := z ≤ 32 ∧ (∀ j, j < z → x.toBitVec.getMsbD j = false) ∧ (z < 32 → x.toBitVec.getMsbD z = true)
theorem ht_lz_of {n z : Nat} (hn : n < 2 ^ 32) (hz : z < 32) (h1 : 2 ^ (31 - z) ≤ n) (h2 : n < 2 ^ (32 - z)) : ht_lz (nI n) z := by
  have hb : ∀ j, j < 32 → (nI n).toBitVec.getMsbD j = n.testBit (31 - j) := by
    intro j hj
    rw [BitVec.getMsbD_eq_getLsbD, BitVec.getLsbD, pk_tn hn]
    simp only [hj, decide_true, Bool.true_and]
  refine ⟨by omega, fun j hj => ?_, fun _ => ?_⟩
  · rw [hb j (by omega)]
    exact Nat.testBit_lt_two_pow (Nat.lt_of_lt_of_le h2 (Nat.pow_le_pow_right (by decide) (by omega)))
  · rw [hb z hz]
    have e : 32 - z = (31 - z) + 1 := by omega
    rw [e] at h2
    have h3 : n / 2 ^ (31 - z) = 1 := by
      have h4 : 2 ^ (31 - z + 1) = 2 ^ (31 - z) * 2 := by rw [Nat.pow_succ]
      have hp : 0 < 2 ^ (31 - z) := Nat.two_pow_pos _
      refine Nat.div_eq_of_lt_le (by omega) (by omega)
    rw [Nat.testBit_eq_decide_div_mod_eq, h3]
    rfl
theorem ht_lz_0 : ht_lz 0 32 := by
  refine ⟨Nat.le_refl _, fun j hj => ?_, fun h => absurd h (by decide)⟩
  simp
theorem ht_lz_neg {x : Int32} (h : x < 0) : ht_lz x 0 := by
  refine ⟨Nat.zero_le _, fun j hj => absurd hj (Nat.not_lt_zero j), fun _ => ?_⟩
  have h2 : x.toBitVec.slt 0#32 = true := Int32.lt_iff_toBitVec_slt.mp h
  have h3 : x.toBitVec.msb = true := by
    rw [← BitVec.slt_zero_eq_msb]
    exact h2
  exact h3
theorem ht_ltn {a b : Nat} (h : a < 2 ^ 31 ∧ b < 2 ^ 31) (c : nI a < nI b) : a < b := (nI_ltI h.1 h.2).mp c
theorem ht_gen {a b : Nat} (h : a < 2 ^ 31 ∧ b < 2 ^ 31) (c : ¬ nI a < nI b) : b ≤ a := Nat.not_lt.mp (fun q => c ((nI_ltI h.1 h.2).mpr q))
theorem ht_sbn {s k : Nat} (h : s + k ≤ 31) : nI (31 - s) + (-nI k) = nI (31 - (s + k)) := by
  rw [← Int32.sub_eq_add_neg, pk_sub (by omega)]
  congr 1
  omega
theorem ht_dp {a k : Nat} (h : 2 ^ k ≤ a) : 0 < a / 2 ^ k := Nat.div_pos h (Nat.two_pow_pos k)
theorem wb_of32' (x : Int32) : ∃ N, N < 2 ^ 32 ∧ x = nI N := ⟨x.toBitVec.toNat, x.toBitVec.isLt, by
  apply Int32.toBitVec_inj.mp
  show _ = BitVec.ofNat 32 _
  simp⟩
theorem ht_neg {x : Int32} (h : ¬ 0 < x) (h2 : ¬ x = 0) : x < 0 := by
  rcases Int32.lt_or_le x 0 with q | q
  · exact q
  · exact absurd (Int32.le_antisymm (Int32.not_lt.mp h) q) h2
theorem ht_pos1 {x : Int32} {N : Nat} (hN32 : N < 2 ^ 32) (hN : x = nI N) (h : 0 < x) : N < 2 ^ 31 := by
  obtain ⟨j, hj, e⟩ := nI_of (x := x) (fun q => Int32.lt_irrefl (Int32.lt_trans h q))
  have : N = j := by
    have h1 := pk_tn hN32
    have h2 := pk_tn (show j < 2 ^ 32 by omega)
    rw [← hN, e, h2] at h1
    omega
  omega
theorem ht_pos0 {x : Int32} {N : Nat} (hN32 : N < 2 ^ 32) (hN : x = nI N) (h : 0 < x) : 0 < N := by
  rcases Nat.eq_zero_or_pos N with q | q
  · subst q
    rw [hN] at h
    exact absurd h (by decide)
  · exact q
set_option maxHeartbeats 4000000 in
set_option maxRecDepth 100000 in
theorem c_JI_numberOfLeadingZeros (l : Launch) (g : ht_G) (w : ht_W) (x : Int32) : Met l y_JI_numberOfLeadingZeros ws_JI_numberOfLeadingZeros ({ frames := 0, cells := 0, slots := 0, locals := 0 } : Room) (va_Pc [.int x] (ht_WS g w)) (ht_Qi g (fun r u => (∃ z, r = nI z ∧ ht_lz x z) ∧ w = u)) 0 0 (ht_A g) := by
  refine Met.ofW (cc := b_JI_numberOfLeadingZeros) (maxL := 2) (ret := (some .int)) (by decide) rfl ?_
  intro p e s m args below meth c s₁ BB hml hv
  obtain ⟨rfl, HW⟩ := hv
  have HW := ht_I.start HW
  have hx := BB.exec
  have hb := BB.bytes
  have hr := BB.returns
  have hts := atoms_spec (ws := ws_JI_numberOfLeadingZeros) BB.pre
  have htb : ∀ w ∈ bg, w.before _ s = true := fun w h => hts w (List.mem_cons_of_mem _ h)
  have hown : s.vm.findClass R_JI = some m.cls := findClass_of_methodNamed BB.named
  have hlocks := BB.notSynchronized
  have hl := lv_entry ([.int x]) (n := 2) (Nat.le_of_ble_eq_true rfl)
  rw [lg_entry_eq]
  generalize (lg_sl ([.int x]) ++ List.replicate (2 - (lg_sl ([.int x])).length) Slot.unset).toArray = ls at hl ⊢
  have hl : lv_has ls 2 [(0, .int x)] := hl
  have hN : ∃ N, N < 2 ^ 32 ∧ x = nI N := wb_of32' x
  obtain ⟨N, hN32, hN⟩ := hN
  have st73 : ∀ (H : Heap) (locs : List Loc) (ls : Array Slot) (i n1 : Int32) (a s1 : Nat), i = nI a → n1 = nI (31 - s1) → a = N / 2 ^ s1 → 0 < a → a < 2 ^ 2 → s1 + 2 ≤ 32 → ht_I g s w H locs → lv_has ls 2 [(0, .int i), (1, .int n1)] → W p l e (headSpec ws_JI_numberOfLeadingZeros ({ frames := 0, cells := 0, slots := 0, locals := 0 } : Room)).room s m ([.int x] : List Value).toArray below meth c H locs 0 0 (MQ below (ht_Qi g (fun r u => (∃ z, r = nI z ∧ ht_lz x z) ∧ w = u)) ([.int x] : List Value).toArray s 0 0 (ht_A g)) (F0 m 73 ls []) := by
    intro H locs ls i n1 a s1 ei en ea ha0 hab hs HW hl
    refine lv_iload_n hx hb d_JI_numberOfLeadingZeros_73 rfl (lv_at hl 1 rfl) ?_
    refine lv_iload_n hx hb d_JI_numberOfLeadingZeros_74 rfl (lv_at hl 0 rfl) ?_
    refine lv_iconst (v := 1) hx hb d_JI_numberOfLeadingZeros_75 (by decide) ?_
    refine lv_iushr (v := ht_us i (1 : Int32)) hx hb d_JI_numberOfLeadingZeros_76 rfl ?_
    refine lv_isub hx hb d_JI_numberOfLeadingZeros_77 ?_
    refine ht_iret hx hb hr hlocks HW ⟨?_, rfl⟩ d_JI_numberOfLeadingZeros_78
    have hus : ht_us i 1 = nI (a / 2 ^ 1) := by rw [ei]; exact pk_ushrN (by omega) _ 1 (by decide)
    rw [hus, en]
    have hdm := Nat.div_add_mod N (2 ^ s1)
    have hml2 := Nat.mod_lt N (Nat.two_pow_pos s1)
    rw [← ea] at hdm
    rcases (show a = 1 ∨ a = 2 ∨ a = 3 by omega) with e1 | e1 | e1
    · subst e1
      refine ⟨31 - s1, by rw [show 1 / 2 ^ 1 = 0 from rfl, nI_0, Int32.sub_zero], ?_⟩
      rw [hN]
      refine ht_lz_of hN32 (by omega) ?_ ?_
      · rw [show 31 - (31 - s1) = s1 by omega]; omega
      · rw [show 32 - (31 - s1) = s1 + 1 by omega, Nat.pow_succ]; omega
    · subst e1
      refine ⟨30 - s1, by rw [show 2 / 2 ^ 1 = 1 from rfl, pk_sub (by omega)]; congr 1; omega, ?_⟩
      rw [hN]
      refine ht_lz_of hN32 (by omega) ?_ ?_
      · rw [show 31 - (30 - s1) = s1 + 1 by omega, Nat.pow_succ]; omega
      · rw [show 32 - (30 - s1) = s1 + 2 by omega, Nat.pow_add]; omega
    · subst e1
      refine ⟨30 - s1, by rw [show 3 / 2 ^ 1 = 1 from rfl, pk_sub (by omega)]; congr 1; omega, ?_⟩
      rw [hN]
      refine ht_lz_of hN32 (by omega) ?_ ?_
      · rw [show 31 - (30 - s1) = s1 + 1 by omega, Nat.pow_succ]; omega
      · rw [show 32 - (30 - s1) = s1 + 2 by omega, Nat.pow_add]; omega
  have st61 : ∀ (H : Heap) (locs : List Loc) (ls : Array Slot) (i n1 : Int32) (a s1 : Nat), i = nI a → n1 = nI (31 - s1) → a = N / 2 ^ s1 → 0 < a → a < 2 ^ 4 → s1 + 4 ≤ 32 → ht_I g s w H locs → lv_has ls 2 [(0, .int i), (1, .int n1)] → W p l e (headSpec ws_JI_numberOfLeadingZeros ({ frames := 0, cells := 0, slots := 0, locals := 0 } : Room)).room s m ([.int x] : List Value).toArray below meth c H locs 0 0 (MQ below (ht_Qi g (fun r u => (∃ z, r = nI z ∧ ht_lz x z) ∧ w = u)) ([.int x] : List Value).toArray s 0 0 (ht_A g)) (F0 m 61 ls []) := by
    intro H locs ls i n1 a s1 ei en ea ha0 hab hs HW hl
    refine lv_iload_n hx hb d_JI_numberOfLeadingZeros_61 rfl (lv_at hl 0 rfl) ?_
    refine lv_iconst (v := 4) hx hb d_JI_numberOfLeadingZeros_62 (by decide) ?_
    refine lv_icmp_lt (tgt := 73) hx hb d_JI_numberOfLeadingZeros_63 (by decide) (fun c63 => ?_) (fun c63 => ?_)
    · exact st73 _ _ _ _ _ a s1 ei en ea ha0 (by rw [ei] at c63; exact ht_ltn (b := 4) (by omega) c63) (by omega) HW (lv_sub hl [0, 1] rfl)
    · obtain ⟨z1, ez1⟩ : ∃ y : Int32, y = n1 + (-2) := ⟨_, rfl⟩
      refine lv_iinc (v := z1) (lv' := [(1, .int z1), (0, .int i)]) hx hb d_JI_numberOfLeadingZeros_66 hl (k := 1) rfl (by rw [ez1]; rfl) (by decide) rfl (fun ls hl => ?_)
      refine lv_iload_n hx hb d_JI_numberOfLeadingZeros_69 rfl (lv_at hl 1 rfl) ?_
      refine lv_iconst (v := 2) hx hb d_JI_numberOfLeadingZeros_70 (by decide) ?_
      refine lv_iushr (v := ht_us i (2 : Int32)) hx hb d_JI_numberOfLeadingZeros_71 rfl ?_
      refine lv_topi (fun z2 ez2 => ?_)
      refine lv_istore_n (lv' := [(0, .int z2), (1, .int z1)]) hx hb d_JI_numberOfLeadingZeros_72 rfl hl (by decide) rfl (fun ls hl => ?_)
      refine st73 _ _ _ _ _ (a / 2 ^ 2) (s1 + 2) (by rw [ez2, ei]; exact pk_ushrN (by omega) _ 2 (by decide)) (by rw [ez1, en]; exact ht_sbn (k := 2) (by omega)) (by rw [ea, Nat.div_div_eq_div_mul, ← Nat.pow_add]) (ht_dp (by rw [ei] at c63; exact ht_gen (b := 4) (by omega) c63)) (by omega) (by omega) HW (lv_sub hl [0, 1] rfl)
  have st48 : ∀ (H : Heap) (locs : List Loc) (ls : Array Slot) (i n1 : Int32) (a s1 : Nat), i = nI a → n1 = nI (31 - s1) → a = N / 2 ^ s1 → 0 < a → a < 2 ^ 8 → s1 + 8 ≤ 32 → ht_I g s w H locs → lv_has ls 2 [(0, .int i), (1, .int n1)] → W p l e (headSpec ws_JI_numberOfLeadingZeros ({ frames := 0, cells := 0, slots := 0, locals := 0 } : Room)).room s m ([.int x] : List Value).toArray below meth c H locs 0 0 (MQ below (ht_Qi g (fun r u => (∃ z, r = nI z ∧ ht_lz x z) ∧ w = u)) ([.int x] : List Value).toArray s 0 0 (ht_A g)) (F0 m 48 ls []) := by
    intro H locs ls i n1 a s1 ei en ea ha0 hab hs HW hl
    refine lv_iload_n hx hb d_JI_numberOfLeadingZeros_48 rfl (lv_at hl 0 rfl) ?_
    refine lv_bipush (v := 16) hx hb d_JI_numberOfLeadingZeros_49 (by decide) ?_
    refine lv_icmp_lt (tgt := 61) hx hb d_JI_numberOfLeadingZeros_51 (by decide) (fun c51 => ?_) (fun c51 => ?_)
    · exact st61 _ _ _ _ _ a s1 ei en ea ha0 (by rw [ei] at c51; exact ht_ltn (b := 16) (by omega) c51) (by omega) HW (lv_sub hl [0, 1] rfl)
    · obtain ⟨z1, ez1⟩ : ∃ y : Int32, y = n1 + (-4) := ⟨_, rfl⟩
      refine lv_iinc (v := z1) (lv' := [(1, .int z1), (0, .int i)]) hx hb d_JI_numberOfLeadingZeros_54 hl (k := 1) rfl (by rw [ez1]; rfl) (by decide) rfl (fun ls hl => ?_)
      refine lv_iload_n hx hb d_JI_numberOfLeadingZeros_57 rfl (lv_at hl 1 rfl) ?_
      refine lv_iconst (v := 4) hx hb d_JI_numberOfLeadingZeros_58 (by decide) ?_
      refine lv_iushr (v := ht_us i (4 : Int32)) hx hb d_JI_numberOfLeadingZeros_59 rfl ?_
      refine lv_topi (fun z2 ez2 => ?_)
      refine lv_istore_n (lv' := [(0, .int z2), (1, .int z1)]) hx hb d_JI_numberOfLeadingZeros_60 rfl hl (by decide) rfl (fun ls hl => ?_)
      refine st61 _ _ _ _ _ (a / 2 ^ 4) (s1 + 4) (by rw [ez2, ei]; exact pk_ushrN (by omega) _ 4 (by decide)) (by rw [ez1, en]; exact ht_sbn (k := 4) (by omega)) (by rw [ea, Nat.div_div_eq_div_mul, ← Nat.pow_add]) (ht_dp (by rw [ei] at c51; exact ht_gen (b := 16) (by omega) c51)) (by omega) (by omega) HW (lv_sub hl [0, 1] rfl)
  have st33 : ∀ (H : Heap) (locs : List Loc) (ls : Array Slot) (i n1 : Int32) (a s1 : Nat), i = nI a → n1 = nI (31 - s1) → a = N / 2 ^ s1 → 0 < a → a < 2 ^ 16 → s1 + 16 ≤ 32 → ht_I g s w H locs → lv_has ls 2 [(0, .int i), (1, .int n1)] → W p l e (headSpec ws_JI_numberOfLeadingZeros ({ frames := 0, cells := 0, slots := 0, locals := 0 } : Room)).room s m ([.int x] : List Value).toArray below meth c H locs 0 0 (MQ below (ht_Qi g (fun r u => (∃ z, r = nI z ∧ ht_lz x z) ∧ w = u)) ([.int x] : List Value).toArray s 0 0 (ht_A g)) (F0 m 33 ls []) := by
    intro H locs ls i n1 a s1 ei en ea ha0 hab hs HW hl
    refine lv_iload_n hx hb d_JI_numberOfLeadingZeros_33 rfl (lv_at hl 0 rfl) ?_
    refine lv_sipush (v := 256) hx hb d_JI_numberOfLeadingZeros_34 (by decide) ?_
    refine lv_icmp_lt (tgt := 48) hx hb d_JI_numberOfLeadingZeros_37 (by decide) (fun c37 => ?_) (fun c37 => ?_)
    · exact st48 _ _ _ _ _ a s1 ei en ea ha0 (by rw [ei] at c37; exact ht_ltn (b := 256) (by omega) c37) (by omega) HW (lv_sub hl [0, 1] rfl)
    · obtain ⟨z1, ez1⟩ : ∃ y : Int32, y = n1 + (-8) := ⟨_, rfl⟩
      refine lv_iinc (v := z1) (lv' := [(1, .int z1), (0, .int i)]) hx hb d_JI_numberOfLeadingZeros_40 hl (k := 1) rfl (by rw [ez1]; rfl) (by decide) rfl (fun ls hl => ?_)
      refine lv_iload_n hx hb d_JI_numberOfLeadingZeros_43 rfl (lv_at hl 1 rfl) ?_
      refine lv_bipush (v := 8) hx hb d_JI_numberOfLeadingZeros_44 (by decide) ?_
      refine lv_iushr (v := ht_us i (8 : Int32)) hx hb d_JI_numberOfLeadingZeros_46 rfl ?_
      refine lv_topi (fun z2 ez2 => ?_)
      refine lv_istore_n (lv' := [(0, .int z2), (1, .int z1)]) hx hb d_JI_numberOfLeadingZeros_47 rfl hl (by decide) rfl (fun ls hl => ?_)
      refine st48 _ _ _ _ _ (a / 2 ^ 8) (s1 + 8) (by rw [ez2, ei]; exact pk_ushrN (by omega) _ 8 (by decide)) (by rw [ez1, en]; exact ht_sbn (k := 8) (by omega)) (by rw [ea, Nat.div_div_eq_div_mul, ← Nat.pow_add]) (ht_dp (by rw [ei] at c37; exact ht_gen (b := 256) (by omega) c37)) (by omega) (by omega) HW (lv_sub hl [0, 1] rfl)
  have st18 : ∀ (H : Heap) (locs : List Loc) (ls : Array Slot) (i n1 : Int32) (a s1 : Nat), i = nI a → n1 = nI (31 - s1) → a = N / 2 ^ s1 → 0 < a → a < 2 ^ 31 → s1 + 32 ≤ 32 → ht_I g s w H locs → lv_has ls 2 [(0, .int i), (1, .int n1)] → W p l e (headSpec ws_JI_numberOfLeadingZeros ({ frames := 0, cells := 0, slots := 0, locals := 0 } : Room)).room s m ([.int x] : List Value).toArray below meth c H locs 0 0 (MQ below (ht_Qi g (fun r u => (∃ z, r = nI z ∧ ht_lz x z) ∧ w = u)) ([.int x] : List Value).toArray s 0 0 (ht_A g)) (F0 m 18 ls []) := by
    intro H locs ls i n1 a s1 ei en ea ha0 hab hs HW hl
    refine lv_iload_n hx hb d_JI_numberOfLeadingZeros_18 rfl (lv_at hl 0 rfl) ?_
    refine lv_ldcw (v := 65536) hx hb hown (htb _ wd_105) d_JI_numberOfLeadingZeros_19 ?_
    refine lv_icmp_lt (tgt := 33) hx hb d_JI_numberOfLeadingZeros_22 (by decide) (fun c22 => ?_) (fun c22 => ?_)
    · exact st33 _ _ _ _ _ a s1 ei en ea ha0 (by rw [ei] at c22; exact ht_ltn (b := 65536) (by omega) c22) (by omega) HW (lv_sub hl [0, 1] rfl)
    · obtain ⟨z1, ez1⟩ : ∃ y : Int32, y = n1 + (-16) := ⟨_, rfl⟩
      refine lv_iinc (v := z1) (lv' := [(1, .int z1), (0, .int i)]) hx hb d_JI_numberOfLeadingZeros_25 hl (k := 1) rfl (by rw [ez1]; rfl) (by decide) rfl (fun ls hl => ?_)
      refine lv_iload_n hx hb d_JI_numberOfLeadingZeros_28 rfl (lv_at hl 1 rfl) ?_
      refine lv_bipush (v := 16) hx hb d_JI_numberOfLeadingZeros_29 (by decide) ?_
      refine lv_iushr (v := ht_us i (16 : Int32)) hx hb d_JI_numberOfLeadingZeros_31 rfl ?_
      refine lv_topi (fun z2 ez2 => ?_)
      refine lv_istore_n (lv' := [(0, .int z2), (1, .int z1)]) hx hb d_JI_numberOfLeadingZeros_32 rfl hl (by decide) rfl (fun ls hl => ?_)
      refine st33 _ _ _ _ _ (a / 2 ^ 16) (s1 + 16) (by rw [ez2, ei]; exact pk_ushrN (by omega) _ 16 (by decide)) (by rw [ez1, en]; exact ht_sbn (k := 16) (by omega)) (by rw [ea, Nat.div_div_eq_div_mul, ← Nat.pow_add]) (ht_dp (by rw [ei] at c22; exact ht_gen (b := 65536) (by omega) c22)) (by omega) (by omega) HW (lv_sub hl [0, 1] rfl)
  refine lv_iload_n hx hb d_JI_numberOfLeadingZeros_0 rfl (lv_at hl 0 rfl) ?_
  refine lv_if_gt (tgt := 15) hx hb d_JI_numberOfLeadingZeros_1 (by decide) (fun c1 => ?_) (fun c1 => ?_)
  · refine lv_bipush (v := 31) hx hb d_JI_numberOfLeadingZeros_15 (by decide) ?_
    refine lv_istore_n (lv' := [(1, .int 31), (0, .int x)]) hx hb d_JI_numberOfLeadingZeros_17 rfl hl (by decide) rfl (fun ls hl => ?_)
    exact st18 _ _ _ _ _ N 0 hN rfl (by simp) (ht_pos0 hN32 hN c1) (ht_pos1 hN32 hN c1) (by omega) HW (lv_sub hl [1, 0] rfl)
  · refine lv_iload_n hx hb d_JI_numberOfLeadingZeros_4 rfl (lv_at hl 0 rfl) ?_
    refine lv_if_ne (tgt := 13) hx hb d_JI_numberOfLeadingZeros_5 (by decide) (fun c5 => ?_) (fun c5 => ?_)
    · refine lv_iconst (v := 0) hx hb d_JI_numberOfLeadingZeros_13 (by decide) ?_
      exact ht_iret hx hb hr hlocks HW ⟨⟨0, nI_0.symm, ht_lz_neg (ht_neg c1 c5)⟩, rfl⟩ d_JI_numberOfLeadingZeros_14
    · refine lv_bipush (v := 32) hx hb d_JI_numberOfLeadingZeros_8 (by decide) ?_
      refine lv_goto (tgt := 14) hx hb d_JI_numberOfLeadingZeros_10 (by decide) ?_
      exact ht_iret hx hb hr hlocks HW ⟨⟨32, rfl, (c5 : x = 0) ▸ ht_lz_0⟩, rfl⟩ d_JI_numberOfLeadingZeros_14
