def ht_hi (x : Int64) : Int32 := ((x.toUInt64 >>> ((32 : Int32).toInt64.toUInt64 &&& Int64.toUInt64 63)).toInt64).toInt32
theorem ht_sh32 (x : Int64) : (x.toUInt64 >>> ((32 : Int32).toInt64.toUInt64 &&& Int64.toUInt64 63)).toInt64.toBitVec = x.toBitVec >>> 32 := by
  have e : ((32 : Int32).toInt64.toUInt64 &&& Int64.toUInt64 63) = (32 : UInt64) := by decide
  rw [e]
  show (x.toUInt64 >>> (32 : UInt64)).toBitVec = _
  rw [UInt64.toBitVec_shiftRight]
  rfl
theorem ht_hi_bit (x : Int64) {j : Nat} (hj : j < 32) : (ht_hi x).toBitVec.getMsbD j = x.toBitVec.getMsbD j := by
  unfold ht_hi
  rw [Int64.toBitVec_toInt32, ht_sh32]
  rw [BitVec.getMsbD_eq_getLsbD, BitVec.getMsbD_eq_getLsbD, BitVec.getLsbD_signExtend]
  simp only [hj, decide_true, Bool.true_and, BitVec.getLsbD_ushiftRight, show j < 64 by omega]
  rw [if_pos (by omega)]
  simp only [show 32 - 1 - j < 32 by omega, decide_true, Bool.true_and]
  congr 1
  omega
theorem ht_lo_bit (x : Int64) {j : Nat} (hj : j < 32) : x.toInt32.toBitVec.getMsbD j = x.toBitVec.getMsbD (32 + j) := by
  rw [Int64.toBitVec_toInt32]
  rw [BitVec.getMsbD_eq_getLsbD, BitVec.getMsbD_eq_getLsbD, BitVec.getLsbD_signExtend]
  rw [if_pos (by omega)]
  simp only [hj, decide_true, Bool.true_and, show 32 - 1 - j < 32 by omega, show 32 + j < 64 by omega]
  congr 1
  omega
def ht_lzl (x : Int64) (z : Nat) : Prop := z ≤ 64 ∧ (∀ j, j < z → x.toBitVec.getMsbD j = false) ∧ (z < 64 → x.toBitVec.getMsbD z = true)
theorem ht_lzl_hi {x : Int64} {z : Nat} (h0 : ht_hi x ≠ 0) (h : ht_lz (ht_hi x) z) : ht_lzl x z := by
  have hz : z < 32 := by
    rcases Nat.lt_or_ge z 32 with q | q
    · exact q
    · exfalso
      apply h0
      apply Int32.toBitVec_inj.mp
      apply BitVec.eq_of_getMsbD_eq
      intro j hj
      rw [h.2.1 j (by omega)]
      simp
  refine ⟨by omega, fun j hj => ?_, fun _ => ?_⟩
  · rw [← ht_hi_bit x (by omega)]; exact h.2.1 j hj
  · rw [← ht_hi_bit x hz]; exact h.2.2 hz
theorem ht_lzl_lo {x : Int64} {z : Nat} (h0 : ht_hi x = 0) (h : ht_lz x.toInt32 z) : ht_lzl x (32 + z) := by
  have h1 : ∀ j, j < 32 → x.toBitVec.getMsbD j = false := by
    intro j hj
    rw [← ht_hi_bit x hj, h0]
    simp
  refine ⟨by have := h.1; omega, fun j hj => ?_, fun hz => ?_⟩
  · rcases Nat.lt_or_ge j 32 with q | q
    · exact h1 j q
    · have := h.2.1 (j - 32) (by omega)
      rw [ht_lo_bit x (by have := h.1; omega), show 32 + (j - 32) = j by omega] at this
      exact this
  · rw [← ht_lo_bit x (by omega)]; exact h.2.2 (by omega)
set_option maxHeartbeats 4000000 in
set_option maxRecDepth 100000 in
theorem c_JL_numberOfLeadingZeros (l : Launch) (g : ht_G) (w : ht_W) (x : Int64) : Met l y_JL_numberOfLeadingZeros ws_JL_numberOfLeadingZeros ({ frames := 1, cells := 0, slots := 0, locals := 21 } : Room) (va_Pc [.long x] (ht_WS g w)) (ht_Qi g (fun r u => (∃ z, r = nI z ∧ ht_lzl x z) ∧ w = u)) 0 0 (ht_A g) := by
  refine Met.ofW (cc := b_JL_numberOfLeadingZeros) (maxL := 3) (ret := (some .int)) (by decide) rfl ?_
  intro p e s m args below meth c s₁ BB hml hv
  obtain ⟨rfl, HW⟩ := hv
  have HW := ht_I.start HW
  have hx := BB.exec
  have hb := BB.bytes
  have hr := BB.returns
  have hts := atoms_spec (ws := ws_JL_numberOfLeadingZeros) BB.pre
  have htb : ∀ w ∈ bg, w.before _ s = true := fun w h => hts w (List.mem_cons_of_mem _ h)
  have hown : s.vm.findClass R_JL = some m.cls := findClass_of_methodNamed BB.named
  have hlocks := BB.notSynchronized
  have hl := lv_entry ([.long x]) (n := 3) (Nat.le_of_ble_eq_true rfl)
  rw [lg_entry_eq]
  generalize (lg_sl ([.long x]) ++ List.replicate (3 - (lg_sl ([.long x])).length) Slot.unset).toArray = ls at hl ⊢
  have hl : lv_has ls 3 [(0, .long x)] := hl
  refine lv_lload_n hx hb d_JL_numberOfLeadingZeros_0 rfl (lv_at hl 0 rfl) ?_
  refine lv_bipush (v := 32) hx hb d_JL_numberOfLeadingZeros_1 (by decide) ?_
  refine lv_lushr (v := (x.toUInt64 >>> ((32 : Int32).toInt64.toUInt64 &&& Int64.toUInt64 63)).toInt64) hx hb d_JL_numberOfLeadingZeros_3 rfl ?_
  refine lv_l2i (v := ((x.toUInt64 >>> ((32 : Int32).toInt64.toUInt64 &&& Int64.toUInt64 63)).toInt64).toInt32) hx hb d_JL_numberOfLeadingZeros_4 rfl ?_
  refine lv_topi (fun hi ehi => ?_)
  refine lv_istore_n (lv' := [(2, .int hi), (0, .long x)]) hx hb d_JL_numberOfLeadingZeros_5 rfl hl (by decide) rfl (fun ls hl => ?_)
  refine lv_iload_n hx hb d_JL_numberOfLeadingZeros_6 rfl (lv_at hl 0 rfl) ?_
  refine lv_if_ne (tgt := 21) hx hb d_JL_numberOfLeadingZeros_7 (by decide) (fun c7 => ?_) (fun c7 => ?_)
  · refine lv_iload_n hx hb d_JL_numberOfLeadingZeros_21 rfl (lv_at hl 0 rfl) ?_
    refine ht_ci HW (va_runS (own := R_JL) (As := [.int hi]) (rest := []) ⟨hx, hb, hml, hown, htb⟩ (c_JI_numberOfLeadingZeros l g w hi) (va_cwS 1 htb (ht_gs wd_102 wd_103 wd_5 g_JI_numberOfLeadingZeros) rfl rfl rfl (by decide +kernel) ⟨Nat.le_of_ble_eq_true rfl, Nat.le_of_ble_eq_true rfl⟩) (HW.preS _) rfl rfl hl.1 rfl (lv_room (Nat.le_of_ble_eq_true rfl)) d_JL_numberOfLeadingZeros_22 ⟨Nat.le_of_ble_eq_true rfl, Nat.le_of_ble_eq_true rfl⟩) (fun q2 u1 H locs pz HW => ?_)
    obtain ⟨⟨z, erz, hz⟩, eww⟩ := pz
    subst eww
    exact ht_iret hx hb hr hlocks HW ⟨⟨z, erz, ht_lzl_hi (fun q => c7 (by rw [ehi]; exact q)) (by rw [ehi] at hz; exact hz)⟩, rfl⟩ d_JL_numberOfLeadingZeros_25
  · refine lv_bipush (v := 32) hx hb d_JL_numberOfLeadingZeros_10 (by decide) ?_
    refine lv_lload_n hx hb d_JL_numberOfLeadingZeros_12 rfl (lv_at hl 1 rfl) ?_
    refine lv_l2i (v := x.toInt32) hx hb d_JL_numberOfLeadingZeros_13 rfl ?_
    refine ht_ci HW (va_runS (own := R_JL) (As := [.int x.toInt32]) (rest := [.int 32]) ⟨hx, hb, hml, hown, htb⟩ (c_JI_numberOfLeadingZeros l g w x.toInt32) (va_cwS 1 htb (ht_gs wd_102 wd_103 wd_5 g_JI_numberOfLeadingZeros) rfl rfl rfl (by decide +kernel) ⟨Nat.le_of_ble_eq_true rfl, Nat.le_of_ble_eq_true rfl⟩) (HW.preS _) rfl rfl hl.1 rfl (lv_room (Nat.le_of_ble_eq_true rfl)) d_JL_numberOfLeadingZeros_14 ⟨Nat.le_of_ble_eq_true rfl, Nat.le_of_ble_eq_true rfl⟩) (fun q4 u3 H locs pz HW => ?_)
    obtain ⟨⟨z, erz, hz⟩, eww⟩ := pz
    subst eww
    refine lv_iadd hx hb d_JL_numberOfLeadingZeros_17 ?_
    refine lv_goto (tgt := 25) hx hb d_JL_numberOfLeadingZeros_18 (by decide) ?_
    exact ht_iret hx hb hr hlocks HW ⟨⟨32 + z, by rw [erz, ← nI_add]; rfl, ht_lzl_lo (Eq.trans ehi.symm c7) hz⟩, rfl⟩ d_JL_numberOfLeadingZeros_25
theorem ht_wc : ∀ k, k < 64 → ((nI k).toInt64 &&& 63) = lN k := by decide
theorem ht_ws : ∀ k, k < 64 → ((lN k).toBitVec.smod 64).toNat = k := by decide
theorem ht_lt0 (x : Int64) : x < 0 ↔ x.toBitVec.msb = true := by
  rw [Int64.lt_iff_toBitVec_slt]
  show x.toBitVec.slt 0#64 = true ↔ _
  rw [BitVec.slt_zero_eq_msb]
theorem ht_bitlt (x : Int64) {d : Nat} (hd : d < 256) : (x <<< ((nI d &&& 63).toInt64 &&& 63)) < 0 ↔ x.toBitVec.getMsbD (d % 64) = true := by
  rw [pk_andN (by omega) (m := 63) 6 (by decide), show 2 ^ 6 = 64 from rfl, ht_wc _ (Nat.mod_lt d (by decide)), ht_lt0]
  have e : (x <<< lN (d % 64)).toBitVec = x.toBitVec <<< (d % 64) := by
    show x.toBitVec <<< ((lN (d % 64)).toBitVec.smod 64) = _
    rw [BitVec.shiftLeft_eq', ht_ws _ (Nat.mod_lt d (by decide))]
  rw [e, BitVec.msb_shiftLeft]
theorem ht_ix6 {d : Nat} (hd : d < 256) : (nI d >>> ((6 : Int32) &&& 31)) &&& 3 = nI (d / 64) := by
  rw [pk_shrN (by omega) _ 6 (by decide), pk_andN (by omega) (m := 3) 2 (by decide)]
  congr 1
  omega
def ht_b1 (b : Bool) : Int32 := if b then 1 else 0
set_option maxHeartbeats 4000000 in
set_option maxRecDepth 100000 in
theorem c_X_isOne (l : Launch) (g : ht_G) (w : ht_W) {ka : Nat} {k : ht_K} (hk : ht_at w ka (ht_al g 4 (ht_kf k))) (d : Nat) (hd : d < 256) (dv : Int32) (ed : dv = nI d) : Met l y_X_isOne ws_X_isOne ({ frames := 0, cells := 0, slots := 0, locals := 0 } : Room) (va_Pc [.ref ka, .int dv] (ht_WS g w)) (ht_Qi g (fun r u => r = ht_b1 (ht_bit k d) ∧ w = u)) 0 0 (ht_A g) := by
  refine Met.ofW (cc := b_X_isOne) (maxL := 2) (ret := (some .boolean)) (by decide) rfl ?_
  intro p e s m args below meth c s₁ BB hml hv
  obtain ⟨rfl, HW⟩ := hv
  have HW := ht_I.start HW
  have hx := BB.exec
  have hb := BB.bytes
  have hr := BB.returns
  have hts := atoms_spec (ws := ws_X_isOne) BB.pre
  have htb : ∀ w ∈ bg, w.before _ s = true := fun w h => hts w (List.mem_cons_of_mem _ h)
  have hown : s.vm.findClass R_X = some m.cls := findClass_of_methodNamed BB.named
  have hlocks := BB.notSynchronized
  have hl := lv_entry ([.ref ka, .int dv]) (n := 2) (Nat.le_of_ble_eq_true rfl)
  rw [lg_entry_eq]
  generalize (lg_sl ([.ref ka, .int dv]) ++ List.replicate (2 - (lg_sl ([.ref ka, .int dv])).length) Slot.unset).toArray = ls at hl ⊢
  have hl : lv_has ls 2 [(0, .ref ka), (1, .int dv)] := hl
  refine lv_aload_n hx hb d_X_isOne_0 rfl (lv_at hl 0 rfl) ?_
  refine lv_iload_n hx hb d_X_isOne_1 rfl (lv_at hl 1 rfl) ?_
  refine lv_bipush (v := 6) hx hb d_X_isOne_2 (by decide) ?_
  refine lv_ishr hx hb d_X_isOne_4 ?_
  refine lv_iconst (v := 3) hx hb d_X_isOne_5 (by decide) ?_
  refine lv_iand hx hb d_X_isOne_6 ?_
  refine lv_topi (fun i1 ei1 => ?_)
  have hi1 : i1 = nI (d / 64) := by rw [ei1, ed]; exact ht_ix6 hd
  refine ht_lald hx hb HW hk (by rw [hi1]; exact vp_in_nI (by omega) (by omega)) d_X_isOne_7 ?_
  refine lv_topl (fun x1 ex1 => ?_)
  have ex1 : x1 = (ht_kf k) (d / 64) := by rw [ex1, hi1, nI_clamp (by omega)]
  refine lv_iload_n hx hb d_X_isOne_8 rfl (lv_at hl 1 rfl) ?_
  refine lv_bipush (v := 63) hx hb d_X_isOne_9 (by decide) ?_
  refine lv_iand hx hb d_X_isOne_11 ?_
  refine lv_lshl (v := x1 <<< ((dv &&& (63 : Int32)).toInt64 &&& 63)) hx hb d_X_isOne_12 rfl ?_
  refine lv_topl (fun x2 ex2 => ?_)
  have hbit : x2 < 0 ↔ ht_bit k d = true := by
    rw [ex2, ex1, ed]
    exact ht_bitlt _ hd
  refine lv_lconst (v := 0) hx hb d_X_isOne_13 (by decide) ?_
  refine W.lcmp hx hb d_X_isOne_14 ?_
  refine lv_if_ge (tgt := 22) hx hb d_X_isOne_15 (by decide) (fun c15 => ?_) (fun c15 => ?_)
  · have hf : ht_bit k d = false := by
      cases hq : ht_bit k d with
      | false => rfl
      | true => exact absurd (hbit.mpr hq) (Int64.not_lt.mpr ((lg_cmp_ge x2 0).mp c15))
    refine lv_iconst (v := 0) hx hb d_X_isOne_22 (by decide) ?_
    exact ht_zret hx hb hr hlocks HW (by rfl) ⟨by rw [hf]; rfl, rfl⟩ d_X_isOne_23
  · have hf : ht_bit k d = true := hbit.mp (Int64.not_le.mp (fun q => c15 ((lg_cmp_ge x2 0).mpr q)))
    refine lv_iconst (v := 1) hx hb d_X_isOne_18 (by decide) ?_
    refine lv_goto (tgt := 23) hx hb d_X_isOne_19 (by decide) ?_
    exact ht_zret hx hb hr hlocks HW (by rfl) ⟨by rw [hf]; rfl, rfl⟩ d_X_isOne_23
theorem ht_part_w {k1 k2 : ht_K} {i z : Nat} (hi : i < 4) (heq : ∀ j, j < i → ht_kf k1 j = ht_kf k2 j) (hne : ht_kf k1 i ^^^ ht_kf k2 i ≠ 0) (hz : ht_lzl (ht_kf k1 i ^^^ ht_kf k2 i) z) : ht_part k1 k2 = i * 64 + z := by
  have hz64 : z < 64 := by
    rcases Nat.lt_or_ge z 64 with q | q
    · exact q
    · exfalso
      apply hne
      apply Int64.toBitVec_inj.mp
      apply BitVec.eq_of_getMsbD_eq
      intro j hj
      rw [hz.2.1 j (by omega)]
      simp
  have hx : ∀ j, (ht_kf k1 i ^^^ ht_kf k2 i).toBitVec.getMsbD j = ((ht_kf k1 i).toBitVec.getMsbD j ^^ (ht_kf k2 i).toBitVec.getMsbD j) := by
    intro j
    rw [Int64.toBitVec_xor, BitVec.getMsbD_xor]
  refine ht_part_is (by omega) (fun d hd => ?_) (fun _ => ?_)
  · unfold ht_bit
    rcases Nat.lt_or_ge (d / 64) i with q | q
    · rw [heq _ q]
    · have e : d / 64 = i := by omega
      have := hz.2.1 (d % 64) (by omega)
      rw [hx] at this
      rw [e]
      cases ha : (ht_kf k1 i).toBitVec.getMsbD (d % 64) <;> cases hb : (ht_kf k2 i).toBitVec.getMsbD (d % 64) <;> simp_all
  · unfold ht_bit
    have e : (i * 64 + z) / 64 = i := by omega
    have e2 : (i * 64 + z) % 64 = z := by omega
    have := hz.2.2 hz64
    rw [hx] at this
    rw [e, e2]
    cases ha : (ht_kf k1 i).toBitVec.getMsbD z <;> cases hb : (ht_kf k2 i).toBitVec.getMsbD z <;> simp_all
theorem ht_x0 {x y : Int64} (h : x ^^^ y = 0) : x = y := by
  apply Int64.toBitVec_inj.mp
  have := congrArg Int64.toBitVec h
  rw [Int64.toBitVec_xor] at this
  exact BitVec.xor_eq_zero_iff.mp this
set_option maxHeartbeats 4000000 in
set_option maxRecDepth 100000 in
theorem c_X_partingLevel (l : Launch) (g : ht_G) (w : ht_W) {a1 a2 : Nat} {k1 k2 : ht_K} (h1 : ht_at w a1 (ht_al g 4 (ht_kf k1))) (h2 : ht_at w a2 (ht_al g 4 (ht_kf k2))) : Met l y_X_partingLevel ws_X_partingLevel ({ frames := 2, cells := 0, slots := 0, locals := 50 } : Room) (va_Pc [.ref a1, .ref a2] (ht_WS g w)) (ht_Qi g (fun r u => r = nI (ht_part k1 k2) ∧ w = u)) 0 0 (ht_A g) := by
  refine Met.ofW (cc := b_X_partingLevel) (maxL := 5) (ret := (some .int)) (by decide) rfl ?_
  intro p e s m args below meth c s₁ BB hml hv
  obtain ⟨rfl, HW⟩ := hv
  have HW := ht_I.start HW
  have hx := BB.exec
  have hb := BB.bytes
  have hr := BB.returns
  have hts := atoms_spec (ws := ws_X_partingLevel) BB.pre
  have htb : ∀ w ∈ bg, w.before _ s = true := fun w h => hts w (List.mem_cons_of_mem _ h)
  have hown : s.vm.findClass R_X = some m.cls := findClass_of_methodNamed BB.named
  have hlocks := BB.notSynchronized
  have hl := lv_entry ([.ref a1, .ref a2]) (n := 5) (Nat.le_of_ble_eq_true rfl)
  rw [lg_entry_eq]
  generalize (lg_sl ([.ref a1, .ref a2]) ++ List.replicate (5 - (lg_sl ([.ref a1, .ref a2])).length) Slot.unset).toArray = ls at hl ⊢
  have hl : lv_has ls 5 [(0, .ref a1), (1, .ref a2)] := hl
  have loop : ∀ (n i : Nat), i + n = 4 → (∀ j, j < i → ht_kf k1 j = ht_kf k2 j) → ∀ (H : Heap) (locs : List Loc) (ls : Array Slot) (j : Int32), j = nI i → ht_I g s w H locs → lv_has ls 5 [(0, .ref a1), (1, .ref a2), (2, .int j)] → W p l e (headSpec ws_X_partingLevel ({ frames := 2, cells := 0, slots := 0, locals := 50 } : Room)).room s m ([.ref a1, .ref a2] : List Value).toArray below meth c H locs 0 0 (MQ below (ht_Qi g (fun r u => r = nI (ht_part k1 k2) ∧ w = u)) ([.ref a1, .ref a2] : List Value).toArray s 0 0 (ht_A g)) (F0 m 2 ls []) := by
    intro n
    induction n with
    | zero =>
      intro i hi heq H locs ls j ej HW hl
      refine lv_iload_n hx hb d_X_partingLevel_2 rfl (lv_at hl 2 rfl) ?_
      refine lv_iconst (v := 4) hx hb d_X_partingLevel_3 (by decide) ?_
      refine lv_icmp_ge (tgt := 37) hx hb d_X_partingLevel_4 (by decide) (fun c4 => ?_) (fun c4 => ?_)
      · refine lv_sipush (v := 256) hx hb d_X_partingLevel_37 (by decide) ?_
        exact ht_iret hx hb hr hlocks HW ⟨by rw [ht_part_eq.mpr (ht_kf_ext (fun j hj => heq j (by omega)))]; rfl, rfl⟩ d_X_partingLevel_40
      · exact absurd (by rw [ej]; exact nI_le (show 4 ≤ i by omega) (by omega)) c4
    | succ n ih =>
      intro i hi heq H locs ls j ej HW hl
      refine lv_iload_n hx hb d_X_partingLevel_2 rfl (lv_at hl 2 rfl) ?_
      refine lv_iconst (v := 4) hx hb d_X_partingLevel_3 (by decide) ?_
      refine lv_icmp_ge (tgt := 37) hx hb d_X_partingLevel_4 (by decide) (fun c4 => ?_) (fun c4 => ?_)
      · exact absurd (by rw [ej] at c4; exact c4) (nI_ge (show i < 4 by omega) (by omega))
      · refine lv_aload_n hx hb d_X_partingLevel_7 rfl (lv_at hl 0 rfl) ?_
        refine lv_iload_n hx hb d_X_partingLevel_8 rfl (lv_at hl 2 rfl) ?_
        refine ht_lald hx hb HW h1 (by rw [ej]; exact vp_in_nI (by omega) (by omega)) d_X_partingLevel_9 ?_
        refine lv_topl (fun y1 ey1 => ?_)
        have ey1 : y1 = (ht_kf k1) i := by rw [ey1, ej, nI_clamp (by omega)]
        refine lv_aload_n hx hb d_X_partingLevel_10 rfl (lv_at hl 1 rfl) ?_
        refine lv_iload_n hx hb d_X_partingLevel_11 rfl (lv_at hl 2 rfl) ?_
        refine ht_lald hx hb HW h2 (by rw [ej]; exact vp_in_nI (by omega) (by omega)) d_X_partingLevel_12 ?_
        refine lv_topl (fun y2 ey2 => ?_)
        have ey2 : y2 = (ht_kf k2) i := by rw [ey2, ej, nI_clamp (by omega)]
        refine lv_lxor hx hb d_X_partingLevel_13 ?_
        refine lv_topl (fun df edf => ?_)
        refine lv_lstore_n (lv' := [(3, .long df), (0, .ref a1), (1, .ref a2), (2, .int j)]) hx hb d_X_partingLevel_14 rfl hl (by decide) rfl (fun ls hl => ?_)
        refine lv_lload_n hx hb d_X_partingLevel_15 rfl (lv_at hl 0 rfl) ?_
        refine lv_lconst (v := 0) hx hb d_X_partingLevel_16 (by decide) ?_
        refine W.lcmp hx hb d_X_partingLevel_17 ?_
        refine lv_if_eq (tgt := 31) hx hb d_X_partingLevel_18 (by decide) (fun c18 => ?_) (fun c18 => ?_)
        · have hd0 : df = 0 := (lg_cmp_eq df 0).mp c18
          obtain ⟨j2, ej2⟩ : ∃ y : Int32, y = j + 1 := ⟨_, rfl⟩
          refine lv_iinc (v := j2) (lv' := [(2, .int j2), (3, .long df), (0, .ref a1), (1, .ref a2)]) hx hb d_X_partingLevel_31 hl (k := 3) rfl (by rw [ej2]; rfl) (by decide) rfl (fun ls hl => ?_)
          refine lv_goto (tgt := 2) hx hb d_X_partingLevel_34 (by decide) ?_
          refine ih (i + 1) (by omega) (fun j9 hj9 => ?_) _ _ _ j2 (by rw [ej2, ej, nI_1]) HW (lv_sub hl [2, 3, 0] rfl)
          rcases Nat.lt_or_ge j9 i with q | q
          · exact heq j9 q
          · have e9 : j9 = i := by omega
            subst e9
            rw [← ey1, ← ey2]
            exact ht_x0 (by rw [← edf]; exact hd0)
        · have hd0 : df ≠ 0 := fun q => c18 ((lg_cmp_eq df 0).mpr q)
          refine lv_iload_n hx hb d_X_partingLevel_21 rfl (lv_at hl 3 rfl) ?_
          refine lv_bipush (v := 64) hx hb d_X_partingLevel_22 (by decide) ?_
          refine lv_imul hx hb d_X_partingLevel_24 ?_
          refine lv_lload_n hx hb d_X_partingLevel_25 rfl (lv_at hl 0 rfl) ?_
          refine ht_ci HW (va_runS (own := R_X) (As := [.long df]) (rest := [.int (j * (64 : Int32))]) ⟨hx, hb, hml, hown, htb⟩ (c_JL_numberOfLeadingZeros l g w df) (va_cwS 1 htb (ht_gs wd_99 wd_100 wd_4 g_JL_numberOfLeadingZeros) rfl rfl rfl (by decide +kernel) ⟨Nat.le_of_ble_eq_true rfl, Nat.le_of_ble_eq_true rfl⟩) (HW.preS _) rfl rfl hl.1 rfl (lv_room (Nat.le_of_ble_eq_true rfl)) d_X_partingLevel_26 ⟨Nat.le_of_ble_eq_true rfl, Nat.le_of_ble_eq_true rfl⟩) (fun q2 u1 H locs pz HW => ?_)
          obtain ⟨⟨z, erz, hz⟩, eww⟩ := pz
          subst eww
          refine lv_iadd hx hb d_X_partingLevel_29 ?_
          exact ht_iret hx hb hr hlocks HW ⟨by rw [ej, erz, show (64 : Int32) = nI 64 from rfl, pk_mul, nI_add, ht_part_w (by omega) heq (by rw [← ey1, ← ey2, ← edf]; exact hd0) (by rw [← ey1, ← ey2, ← edf]; exact hz)], rfl⟩ d_X_partingLevel_30
  refine lv_iconst (v := 0) hx hb d_X_partingLevel_0 (by decide) ?_
  refine lv_istore_n (lv' := [(2, .int 0), (0, .ref a1), (1, .ref a2)]) hx hb d_X_partingLevel_1 rfl hl (by decide) rfl (fun ls hl => ?_)
  exact loop 4 0 rfl (fun j hj => absurd hj (Nat.not_lt_zero j)) _ _ _ 0 rfl HW (lv_sub hl [1, 2, 0] rfl)
