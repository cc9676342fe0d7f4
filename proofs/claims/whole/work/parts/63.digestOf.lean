theorem ht_sw_c {b b' : Nat → Int32} : ∀ j, (∀ i, i < 64 * j → b i &&& 255 = b' i &&& 255) → ht_sw b j = ht_sw b' j := by
  intro j
  induction j with
  | zero => intro _; rfl
  | succ j ih =>
    intro h
    unfold ht_sw
    rw [ih (fun i hi => h i (by omega))]
    refine ht_bl_cg (fun t ht => ?_)
    unfold ht_c4
    rw [h (64 * j + 4 * t) (by omega), h (64 * j + 4 * t + 1) (by omega), h (64 * j + 4 * t + 2) (by omega), h (64 * j + 4 * t + 3) (by omega)]
theorem ht_nar2 (v : Int32) : vp_nar .byte v.toInt8.toInt32 &&& 255 = v &&& 255 := by
  rw [ht_nar]
  exact ht_nar v
theorem ht_a255 {x y : Int32} (h : ∀ i, i < 8 → x.toBitVec.getLsbD i = y.toBitVec.getLsbD i) : x &&& 255 = y &&& 255 := by
  apply Int32.toBitVec_inj.mp
  apply BitVec.eq_of_getLsbD_eq
  intro i hi
  rw [Int32.toBitVec_and, Int32.toBitVec_and, BitVec.getLsbD_and, BitVec.getLsbD_and]
  have e : (255 : Int32).toBitVec = (BitVec.allOnes 8).setWidth 32 := by decide
  rw [e, BitVec.getLsbD_setWidth, BitVec.getLsbD_allOnes]
  by_cases h8 : i < 8
  · rw [h i h8]
  · simp [h8]
theorem ht_i32l (x : Int64) {i : Nat} (h : i < 32) : x.toInt32.toBitVec.getLsbD i = x.toBitVec.getLsbD i := by
  show (x.toBitVec.signExtend 32).getLsbD i = _
  rw [BitVec.getLsbD_signExtend]
  simp [h, show i < 64 by omega]
theorem ht_by_ar (x : Int64) {j : Nat} (hj : j ≤ 7) {d : Int32} (hd : d = nI (8 * j)) : (x >>> (d.toInt64 &&& 63)).toInt32 &&& 255 = ht_by x j &&& 255 := by
  have hd2 : (8 : Int32) * nI j = d := by rw [hd, show (8 : Int32) = nI 8 from rfl, pk_mul]
  have e1 : ((d.toInt64 &&& 63).toBitVec.smod 64).toNat = 8 * j := by
    rw [hd]
    rcases (show j = 0 ∨ j = 1 ∨ j = 2 ∨ j = 3 ∨ j = 4 ∨ j = 5 ∨ j = 6 ∨ j = 7 by omega) with rfl | rfl | rfl | rfl | rfl | rfl | rfl | rfl <;> decide
  have e2 : ((d.toInt64.toUInt64 &&& Int64.toUInt64 63).toBitVec % 64).toNat = 8 * j := by
    rw [hd]
    rcases (show j = 0 ∨ j = 1 ∨ j = 2 ∨ j = 3 ∨ j = 4 ∨ j = 5 ∨ j = 6 ∨ j = 7 by omega) with rfl | rfl | rfl | rfl | rfl | rfl | rfl | rfl <;> decide
  refine ht_a255 (fun i hi => ?_)
  unfold ht_by
  rw [hd2, ht_i32l _ (by omega), ht_i32l _ (by omega), Int64.toBitVec_shiftRight, BitVec.sshiftRight_eq', e1, BitVec.getLsbD_sshiftRight]
  show _ = (x.toUInt64 >>> (d.toInt64.toUInt64 &&& Int64.toUInt64 63)).toBitVec.getLsbD i
  rw [UInt64.toBitVec_shiftRight, BitVec.ushiftRight_eq', e2, BitVec.getLsbD_ushiftRight]
  simp [show 8 * j + i < 64 by omega, show ¬ 64 ≤ i by omega]
theorem ht_pd_z {b : Nat → Int32} {n : Nat} : ht_pad b n n = 128 := by
  unfold ht_pad
  rw [if_neg (Nat.lt_irrefl n), if_pos rfl]
theorem ht_w0_em (f : Nat → Int64) : ∀ j, j < 8 → (vp_updL (vp_updL (vp_updL (vp_updL (vp_updL (vp_updL (vp_updL (vp_updL (f) 0 1779033703) 1 3144134277) 2 1013904242) 3 2773480762) 4 1359893119) 5 2600822924) 6 528734635) 7 1541459225) j = ht_em (ht_w0 j) := by
  intro j hj
  rcases (show j = 0 ∨ j = 1 ∨ j = 2 ∨ j = 3 ∨ j = 4 ∨ j = 5 ∨ j = 6 ∨ j = 7 by omega) with rfl | rfl | rfl | rfl | rfl | rfl | rfl | rfl <;> rfl
set_option maxHeartbeats 4000000 in
set_option maxRecDepth 100000 in
theorem c_M_digestOf (l : Launch) (g : ht_G) (w : ht_W) {M : Nat → Nat} {n : Nat → Int32} {Lf : ht_LF} {If : ht_IF} (hM : ht_Mo g w M n Lf If) (nn : Nat) (hn : nn ≤ 4000) (k1 : Int32) (ek1 : k1 = nI nn) : Met l y_M_digestOf ws_M_digestOf ({ frames := 2, cells := 0, slots := 0, locals := 90 } : Room) (va_Pc [.ref (M 0), .int k1] (ht_WS g w)) (ht_Qv g (fun u => ∃ (Lf2 : ht_LF) (If2 : ht_IF), ht_Mo g u M n Lf2 If2 ∧ ht_fm M w u ∧ ht_same [11, 17] Lf Lf2 ∧ ht_same [10] If If2 ∧ ∀ j, j < 8 → Lf2 11 j = ht_em (ht_sw (ht_pad (If 10) nn) ((nn + 72) / 64) j))) 0 0 (ht_A g) := by
  refine Met.ofW (cc := b_M_digestOf) (maxL := 4) (ret := none) (by decide) rfl ?_
  intro p e s m args below meth c s₁ BB hml hv
  obtain ⟨rfl, HW⟩ := hv
  have HW := ht_I.start HW
  have hx := BB.exec
  have hb := BB.bytes
  have hr := BB.returns
  have hts := atoms_spec (ws := ws_M_digestOf) BB.pre
  have htb : ∀ w ∈ bg, w.before _ s = true := fun w h => hts w (List.mem_cons_of_mem _ h)
  have hown : s.vm.findClass R_M = some m.cls := findClass_of_methodNamed BB.named
  have hlocks := BB.notSynchronized
  have hl := lv_entry ([.ref (M 0), .int k1]) (n := 4) (Nat.le_of_ble_eq_true rfl)
  rw [lg_entry_eq]
  generalize (lg_sl ([.ref (M 0), .int k1]) ++ List.replicate (4 - (lg_sl ([.ref (M 0), .int k1])).length) Slot.unset).toArray = ls at hl ⊢
  have hl : lv_has ls 4 [(0, .ref (M 0)), (1, .int k1)] := hl
  have loopC : ∀ (Iu : ht_IF), ht_same [10] If Iu → (∀ i, i < 64 * ((nn + 72) / 64) → Iu 10 i &&& 255 = (ht_pad (If 10) nn) i &&& 255) → ∀ (sz : Int32), sz = nI (64 * ((nn + 72) / 64)) → ∀ (r q : Nat), q + r = (nn + 72) / 64 → ∀ (u : ht_W) (Lu : ht_LF), ht_Mo g u M n Lu Iu → ht_fm M w u → ht_same [11, 17] Lf Lu → (∀ j, j < 8 → Lu 11 j = ht_em (ht_sw (Iu 10) q j)) → ∀ (H : Heap) (locs : List Loc) (ls : Array Slot) (fv : Int32), fv = nI (64 * q) → ht_I g s u H locs → lv_has ls 4 [(0, .ref (M 0)), (2, .int sz), (3, .int fv)] → W p l e (headSpec ws_M_digestOf ({ frames := 2, cells := 0, slots := 0, locals := 90 } : Room)).room s m ([.ref (M 0), .int k1] : List Value).toArray below meth c H locs 0 0 (MQ below (ht_Qv g (fun u => ∃ (Lf2 : ht_LF) (If2 : ht_IF), ht_Mo g u M n Lf2 If2 ∧ ht_fm M w u ∧ ht_same [11, 17] Lf Lf2 ∧ ht_same [10] If If2 ∧ ∀ j, j < 8 → Lf2 11 j = ht_em (ht_sw (ht_pad (If 10) nn) ((nn + 72) / 64) j))) ([.ref (M 0), .int k1] : List Value).toArray s 0 0 (ht_A g)) (F0 m 146 ls []) := by
    intro Iu hsI hpd sz esz r
    induction r with
    | zero =>
      intro q hq u Lu hMu hfm hsL hws H locs ls fv efv HW hl
      have hO : ht_at u (M 0) (.inr (4, [.ref (M 1), .ref (M 2), .int (n 0), .ref (M 3), .ref (M 4), .ref (M 5), .ref (M 6), .int (n 1), .ref (M 7), .int (n 2), .ref (M 8), .int (n 3), .int (n 4), .ref (M 9), .ref (M 10), .ref (M 11), .ref (M 12), .ref (M 13), .ref (M 14), .ref (M 15), .ref (M 16), .ref (M 17)]) : va_E) := hMu.1
      refine lv_iload_n hx hb d_M_digestOf_146 rfl (lv_at hl 2 rfl) ?_
      refine lv_iload_n hx hb d_M_digestOf_147 rfl (lv_at hl 1 rfl) ?_
      refine lv_icmp_ge (tgt := 162) hx hb d_M_digestOf_148 (by decide) (fun c148 => ?_) (fun c148 => ?_)
      · exact ht_vret hx hb hr hlocks HW ⟨Lu, Iu, hMu, hfm, hsL, hsI, fun j hj => by rw [hws j hj, ← ht_sw_c _ hpd, show q = (nn + 72) / 64 by omega]⟩ d_M_digestOf_162
      · exact absurd (nI_le (show 64 * ((nn + 72) / 64) ≤ 64 * q by omega) (by omega)) (by rw [efv, esz] at c148; exact c148)
    | succ r ih =>
      intro q hq u Lu hMu hfm hsL hws H locs ls fv efv HW hl
      have hO : ht_at u (M 0) (.inr (4, [.ref (M 1), .ref (M 2), .int (n 0), .ref (M 3), .ref (M 4), .ref (M 5), .ref (M 6), .int (n 1), .ref (M 7), .int (n 2), .ref (M 8), .int (n 3), .int (n 4), .ref (M 9), .ref (M 10), .ref (M 11), .ref (M 12), .ref (M 13), .ref (M 14), .ref (M 15), .ref (M 16), .ref (M 17)]) : va_E) := hMu.1
      refine lv_iload_n hx hb d_M_digestOf_146 rfl (lv_at hl 2 rfl) ?_
      refine lv_iload_n hx hb d_M_digestOf_147 rfl (lv_at hl 1 rfl) ?_
      refine lv_icmp_ge (tgt := 162) hx hb d_M_digestOf_148 (by decide) (fun c148 => ?_) (fun c148 => ?_)
      · exact absurd (show nI (64 * ((nn + 72) / 64)) ≤ nI (64 * q) by rw [efv, esz] at c148; exact c148) (nI_ge (by omega) (by omega))
      · refine lv_aload_n hx hb d_M_digestOf_151 rfl (lv_at hl 0 rfl) ?_
        refine lv_iload_n hx hb d_M_digestOf_152 rfl (lv_at hl 2 rfl) ?_
        refine ht_cv HW (va_runV (own := R_M) (C := R_M) (As := [.int fv]) (rest := []) ⟨hx, hb, hml, hown, htb⟩ (c_M_block l g u hMu (64 * q) (by omega) fv efv hws) (cwV 1 htb (ht_gv wd_457 wd_459 sl_18 wd_3 g_M_block) rfl rfl rfl (by decide +kernel) ⟨Nat.le_of_ble_eq_true rfl, Nat.le_of_ble_eq_true rfl⟩) (HW.preV hO rfl _) rfl rfl hl.1 rfl (lv_room (Nat.le_of_ble_eq_true rfl)) d_M_digestOf_153 ⟨Nat.le_of_ble_eq_true rfl, Nat.le_of_ble_eq_true rfl⟩) (fun u1 H locs pb HW => ?_)
        obtain ⟨L2, hM2, hfm2, hs2, hw2⟩ := pb
        obtain ⟨fv2, efv2⟩ : ∃ zI : Int32, zI = fv + 64 := ⟨_, rfl⟩
        refine lv_iinc (v := fv2) (lv' := [(3, .int fv2), (0, .ref (M 0)), (2, .int sz)]) hx hb d_M_digestOf_156 hl (k := 2) rfl (by rw [efv2]; rfl) (by decide) rfl (fun ls hl => ?_)
        refine lv_goto (tgt := 146) hx hb d_M_digestOf_159 (by decide) ?_
        exact ih (q + 1) (by omega) u1 L2 hM2 (hfm.trans hfm2) (hsL.trans hs2) (fun j hj => hw2 j hj) _ _ _ fv2 (by rw [efv2, efv, show (64 : Int32) = nI 64 from rfl, nI_add]; rfl) HW (lv_sub hl [1, 2, 0] rfl)
  have loopB : ∀ (r : Nat), r ≤ 8 → ∀ (u : ht_W) (Lu : ht_LF) (Iu : ht_IF), ht_Mo g u M n Lu Iu → ht_fm M w u → ht_same [11, 17] Lf Lu → ht_same [10] If Iu → (∀ j, j < 8 → Lu 11 j = ht_em (ht_w0 j)) → (∀ i, i < (64 * ((nn + 72) / 64) - 8) + (8 - r) → Iu 10 i &&& 255 = (ht_pad (If 10) nn) i &&& 255) → ∀ (H : Heap) (locs : List Loc) (ls : Array Slot) (sz kv : Int32), sz = nI ((64 * ((nn + 72) / 64) - 8) + (8 - r)) → kv + 1 = nI r → ht_I g s u H locs → lv_has ls 4 [(0, .ref (M 0)), (1, .int k1), (2, .int sz), (3, .int kv)] → W p l e (headSpec ws_M_digestOf ({ frames := 2, cells := 0, slots := 0, locals := 90 } : Room)).room s m ([.ref (M 0), .int k1] : List Value).toArray below meth c H locs 0 0 (MQ below (ht_Qv g (fun u => ∃ (Lf2 : ht_LF) (If2 : ht_IF), ht_Mo g u M n Lf2 If2 ∧ ht_fm M w u ∧ ht_same [11, 17] Lf Lf2 ∧ ht_same [10] If If2 ∧ ∀ j, j < 8 → Lf2 11 j = ht_em (ht_sw (ht_pad (If 10) nn) ((nn + 72) / 64) j))) ([.ref (M 0), .int k1] : List Value).toArray s 0 0 (ht_A g)) (F0 m 112 ls []) := by
    intro r
    induction r with
    | zero =>
      intro hr u Lu Iu hMu hfm hsL hsI hws hpd H locs ls sz kv esz ekv HW hl
      have hO : ht_at u (M 0) (.inr (4, [.ref (M 1), .ref (M 2), .int (n 0), .ref (M 3), .ref (M 4), .ref (M 5), .ref (M 6), .int (n 1), .ref (M 7), .int (n 2), .ref (M 8), .int (n 3), .int (n 4), .ref (M 9), .ref (M 10), .ref (M 11), .ref (M 12), .ref (M 13), .ref (M 14), .ref (M 15), .ref (M 16), .ref (M 17)]) : va_E) := hMu.1
      have h10 : ht_at u (M 10) (ht_ab g 4096 (Iu 10)) := hMu.2.2.2.2.1
      refine lv_iload_n hx hb d_M_digestOf_112 rfl (lv_at hl 3 rfl) ?_
      refine lv_if_lt (tgt := 144) hx hb d_M_digestOf_113 (by decide) (fun c113 => ?_) (fun c113 => ?_)
      · refine lv_iconst (v := 0) hx hb d_M_digestOf_144 (by decide) ?_
        refine lv_istore_n (lv' := [(3, .int 0), (0, .ref (M 0)), (1, .int k1), (2, .int sz)]) hx hb d_M_digestOf_145 rfl hl (by decide) rfl (fun ls hl => ?_)
        exact loopC Iu hsI (fun i hi => hpd i (by omega)) sz (by rw [esz]; exact congrArg nI (by omega)) ((nn + 72) / 64) 0 (by omega) u Lu hMu hfm hsL hws _ _ _ 0 rfl HW (lv_sub hl [1, 3, 0] rfl)
      · exact absurd (ht_j0 ekv) c113
    | succ r ih =>
      intro hr u Lu Iu hMu hfm hsL hsI hws hpd H locs ls sz kv esz ekv HW hl
      have hO : ht_at u (M 0) (.inr (4, [.ref (M 1), .ref (M 2), .int (n 0), .ref (M 3), .ref (M 4), .ref (M 5), .ref (M 6), .int (n 1), .ref (M 7), .int (n 2), .ref (M 8), .int (n 3), .int (n 4), .ref (M 9), .ref (M 10), .ref (M 11), .ref (M 12), .ref (M 13), .ref (M 14), .ref (M 15), .ref (M 16), .ref (M 17)]) : va_E) := hMu.1
      have h10 : ht_at u (M 10) (ht_ab g 4096 (Iu 10)) := hMu.2.2.2.2.1
      have hszq : sz = nI ((64 * ((nn + 72) / 64) - 8) + (7 - r)) := by rw [esz]; exact congrArg nI (by omega)
      have hkv : kv = nI r := ht_js ekv
      refine lv_iload_n hx hb d_M_digestOf_112 rfl (lv_at hl 3 rfl) ?_
      refine lv_if_lt (tgt := 144) hx hb d_M_digestOf_113 (by decide) (fun c113 => ?_) (fun c113 => ?_)
      · exact absurd (show nI r < 0 by rw [← ht_js ekv]; exact c113) (nI_pos (by omega))
      · refine lv_aload_n hx hb d_M_digestOf_116 rfl (lv_at hl 0 rfl) ?_
        refine ht_get (C := R_M) (T := F_M) (N := 22) (v := .ref (M 10)) hx hb htb i_M hown HW hO rfl 14 (by decide) (htb _ wd_325) (fun _ h9 => h9) rfl d_M_digestOf_117 ?_
        refine lv_iload_n hx hb d_M_digestOf_120 rfl (lv_at hl 2 rfl) ?_
        refine lv_ldc2 (v := 8) hx hb hown (htb _ wd_456) d_M_digestOf_121 ?_
        refine lv_iload_n hx hb d_M_digestOf_124 rfl (lv_at hl 1 rfl) ?_
        refine lv_i2l (v := k1.toInt64) hx hb d_M_digestOf_125 rfl ?_
        refine lv_lmul hx hb d_M_digestOf_126 ?_
        refine lv_bipush (v := 8) hx hb d_M_digestOf_127 (by decide) ?_
        refine lv_iload_n hx hb d_M_digestOf_129 rfl (lv_at hl 3 rfl) ?_
        refine lv_imul hx hb d_M_digestOf_130 ?_
        refine lv_lshr (v := ((8 : Int64) * k1.toInt64) >>> (((8 : Int32) * kv).toInt64 &&& 63)) hx hb d_M_digestOf_131 rfl ?_
        refine lv_l2i (v := (((8 : Int64) * k1.toInt64) >>> (((8 : Int32) * kv).toInt64 &&& 63)).toInt32) hx hb d_M_digestOf_132 rfl ?_
        refine lv_i2b (v := ((((8 : Int64) * k1.toInt64) >>> (((8 : Int32) * kv).toInt64 &&& 63)).toInt32).toInt8.toInt32) hx hb d_M_digestOf_133 rfl ?_
        refine lv_topi (fun bv ebv => ?_)
        refine ht_bast hx hb HW h10 (by rw [hszq]; exact vp_in_nI (by omega) (by omega)) d_M_digestOf_134 (fun H locs HW => ?_)
        rw [hszq, nI_clamp (by omega)] at HW
        have n_M_0_M_10 : (M 0) ≠ (M 10) := (hMu.ne 0 10 (by decide) (by decide) (by decide))
        obtain ⟨u1, hu1⟩ : ∃ zW : ht_W, zW = ht_up u (M 10) (ht_ab g 4096 (upd (Iu 10) ((64 * ((nn + 72) / 64) - 8) + (7 - r)) (vp_nar .byte bv))) := ⟨_, rfl⟩
        have HW : ht_I g s u1 H locs := by rw [hu1]; exact HW
        have hO : ht_at u1 (M 0) (.inr (4, [.ref (M 1), .ref (M 2), .int (n 0), .ref (M 3), .ref (M 4), .ref (M 5), .ref (M 6), .int (n 1), .ref (M 7), .int (n 2), .ref (M 8), .int (n 3), .int (n 4), .ref (M 9), .ref (M 10), .ref (M 11), .ref (M 12), .ref (M 13), .ref (M 14), .ref (M 15), .ref (M 16), .ref (M 17)]) : va_E) := by rw [hu1]; exact ht_at_ne hO n_M_0_M_10
        have h10 : ht_at u1 (M 10) (ht_ab g 4096 (upd (Iu 10) ((64 * ((nn + 72) / 64) - 8) + (7 - r)) (vp_nar .byte bv))) := by rw [hu1]; exact ht_at_self h10
        obtain ⟨sz2, esz2⟩ : ∃ zI : Int32, zI = sz + 1 := ⟨_, rfl⟩
        refine lv_iinc (v := sz2) (lv' := [(2, .int sz2), (0, .ref (M 0)), (1, .int k1), (3, .int kv)]) hx hb d_M_digestOf_135 hl (k := 2) rfl (by rw [esz2]; rfl) (by decide) rfl (fun ls hl => ?_)
        obtain ⟨kv2, ekv2⟩ : ∃ zI : Int32, zI = kv + (-1) := ⟨_, rfl⟩
        refine lv_iinc (v := kv2) (lv' := [(3, .int kv2), (2, .int sz2), (0, .ref (M 0)), (1, .int k1)]) hx hb d_M_digestOf_138 hl (k := 3) rfl (by rw [ekv2]; rfl) (by decide) rfl (fun ls hl => ?_)
        refine lv_goto (tgt := 112) hx hb d_M_digestOf_141 (by decide) ?_
        refine ih (by omega) u1 Lu _ (by rw [hu1]; exact hMu.up10 _) (by rw [hu1]; exact hfm.up 10 (by decide)) hsL (hsI.up (by decide)) hws (fun i hi => ?_) _ _ _ sz2 kv2 (by rw [esz2, hszq, nI_1]; exact congrArg nI (by omega)) (by rw [ekv2]; exact (ht_c1 kv).trans hkv) HW (lv_sub hl [2, 3, 1, 0] rfl)
        rw [va_up_self]
        by_cases e : i = (64 * ((nn + 72) / 64) - 8) + (7 - r)
        · rw [e, pk_us, ebv, ht_nar2, ek1, ht_by_ar _ (j := r) (by omega) (by rw [hkv, show (8 : Int32) = nI 8 from rfl, pk_mul])]
          unfold ht_pad
          rw [if_neg (by omega), if_neg (by omega), if_neg (by omega)]
          congr 2
          omega
        · rw [pk_un e]
          exact hpd i (by omega)
  have loopA : ∀ (r z : Nat), nn + 1 ≤ z → z + r = (64 * ((nn + 72) / 64) - 8) → ∀ (u : ht_W) (Lu : ht_LF) (Iu : ht_IF), ht_Mo g u M n Lu Iu → ht_fm M w u → ht_same [11, 17] Lf Lu → ht_same [10] If Iu → (∀ j, j < 8 → Lu 11 j = ht_em (ht_w0 j)) → (∀ i, i < z → Iu 10 i &&& 255 = (ht_pad (If 10) nn) i &&& 255) → ∀ (H : Heap) (locs : List Loc) (ls : Array Slot) (sz : Int32), sz = nI z → ht_I g s u H locs → lv_has ls 4 [(0, .ref (M 0)), (1, .int k1), (2, .int sz)] → W p l e (headSpec ws_M_digestOf ({ frames := 2, cells := 0, slots := 0, locals := 90 } : Room)).room s m ([.ref (M 0), .int k1] : List Value).toArray below meth c H locs 0 0 (MQ below (ht_Qv g (fun u => ∃ (Lf2 : ht_LF) (If2 : ht_IF), ht_Mo g u M n Lf2 If2 ∧ ht_fm M w u ∧ ht_same [11, 17] Lf Lf2 ∧ ht_same [10] If If2 ∧ ∀ j, j < 8 → Lf2 11 j = ht_em (ht_sw (ht_pad (If 10) nn) ((nn + 72) / 64) j))) ([.ref (M 0), .int k1] : List Value).toArray s 0 0 (ht_A g)) (F0 m 87 ls []) := by
    intro r
    induction r with
    | zero =>
      intro z hz1 hz u Lu Iu hMu hfm hsL hsI hws hpd H locs ls sz esz HW hl
      have hO : ht_at u (M 0) (.inr (4, [.ref (M 1), .ref (M 2), .int (n 0), .ref (M 3), .ref (M 4), .ref (M 5), .ref (M 6), .int (n 1), .ref (M 7), .int (n 2), .ref (M 8), .int (n 3), .int (n 4), .ref (M 9), .ref (M 10), .ref (M 11), .ref (M 12), .ref (M 13), .ref (M 14), .ref (M 15), .ref (M 16), .ref (M 17)]) : va_E) := hMu.1
      have h10 : ht_at u (M 10) (ht_ab g 4096 (Iu 10)) := hMu.2.2.2.2.1
      refine lv_iload_n hx hb d_M_digestOf_87 rfl (lv_at hl 2 rfl) ?_
      refine lv_bipush (v := 64) hx hb d_M_digestOf_88 (by decide) ?_
      refine lv_irem hx hb d_M_digestOf_90 (by decide) ?_
      refine lv_topi (fun rm erm => ?_)
      have hrm : rm = nI (z % 64) := by rw [erm, esz, show (64 : Int32) = nI 64 from rfl, pk_rem (by omega) (by decide) (by decide)]
      refine lv_bipush (v := 56) hx hb d_M_digestOf_91 (by decide) ?_
      refine lv_icmp_eq (tgt := 109) hx hb d_M_digestOf_93 (by decide) (fun c93 => ?_) (fun c93 => ?_)
      · refine lv_bipush (v := 7) hx hb d_M_digestOf_109 (by decide) ?_
        refine lv_istore_n (lv' := [(3, .int 7), (0, .ref (M 0)), (1, .int k1), (2, .int sz)]) hx hb d_M_digestOf_111 rfl hl (by decide) rfl (fun ls hl => ?_)
        exact loopB 8 (by omega) u Lu Iu hMu hfm hsL hsI hws (fun i hi => hpd i (by omega)) _ _ _ sz 7 (by rw [esz]; exact congrArg nI (by omega)) rfl HW (lv_sub hl [1, 2, 3, 0] rfl)
      · exact absurd (show rm = 56 by rw [hrm, show z % 64 = 56 by omega]; rfl) c93
    | succ r ih =>
      intro z hz1 hz u Lu Iu hMu hfm hsL hsI hws hpd H locs ls sz esz HW hl
      have hO : ht_at u (M 0) (.inr (4, [.ref (M 1), .ref (M 2), .int (n 0), .ref (M 3), .ref (M 4), .ref (M 5), .ref (M 6), .int (n 1), .ref (M 7), .int (n 2), .ref (M 8), .int (n 3), .int (n 4), .ref (M 9), .ref (M 10), .ref (M 11), .ref (M 12), .ref (M 13), .ref (M 14), .ref (M 15), .ref (M 16), .ref (M 17)]) : va_E) := hMu.1
      have h10 : ht_at u (M 10) (ht_ab g 4096 (Iu 10)) := hMu.2.2.2.2.1
      refine lv_iload_n hx hb d_M_digestOf_87 rfl (lv_at hl 2 rfl) ?_
      refine lv_bipush (v := 64) hx hb d_M_digestOf_88 (by decide) ?_
      refine lv_irem hx hb d_M_digestOf_90 (by decide) ?_
      refine lv_topi (fun rm erm => ?_)
      have hrm : rm = nI (z % 64) := by rw [erm, esz, show (64 : Int32) = nI 64 from rfl, pk_rem (by omega) (by decide) (by decide)]
      refine lv_bipush (v := 56) hx hb d_M_digestOf_91 (by decide) ?_
      refine lv_icmp_eq (tgt := 109) hx hb d_M_digestOf_93 (by decide) (fun c93 => ?_) (fun c93 => ?_)
      · exact absurd ((nI_eq (by omega) (by omega)).mp (show nI (z % 64) = nI 56 by rw [← hrm]; exact c93)) (by omega)
      · refine lv_aload_n hx hb d_M_digestOf_96 rfl (lv_at hl 0 rfl) ?_
        refine ht_get (C := R_M) (T := F_M) (N := 22) (v := .ref (M 10)) hx hb htb i_M hown HW hO rfl 14 (by decide) (htb _ wd_325) (fun _ h9 => h9) rfl d_M_digestOf_97 ?_
        refine lv_iload_n hx hb d_M_digestOf_100 rfl (lv_at hl 2 rfl) ?_
        refine lv_iconst (v := 0) hx hb d_M_digestOf_101 (by decide) ?_
        refine ht_bast hx hb HW h10 (by rw [esz]; exact vp_in_nI (by omega) (by omega)) d_M_digestOf_102 (fun H locs HW => ?_)
        rw [esz, nI_clamp (by omega)] at HW
        have n_M_0_M_10 : (M 0) ≠ (M 10) := (hMu.ne 0 10 (by decide) (by decide) (by decide))
        obtain ⟨u1, hu1⟩ : ∃ zW : ht_W, zW = ht_up u (M 10) (ht_ab g 4096 (upd (Iu 10) z (vp_nar .byte (0 : Int32)))) := ⟨_, rfl⟩
        have HW : ht_I g s u1 H locs := by rw [hu1]; exact HW
        have hO : ht_at u1 (M 0) (.inr (4, [.ref (M 1), .ref (M 2), .int (n 0), .ref (M 3), .ref (M 4), .ref (M 5), .ref (M 6), .int (n 1), .ref (M 7), .int (n 2), .ref (M 8), .int (n 3), .int (n 4), .ref (M 9), .ref (M 10), .ref (M 11), .ref (M 12), .ref (M 13), .ref (M 14), .ref (M 15), .ref (M 16), .ref (M 17)]) : va_E) := by rw [hu1]; exact ht_at_ne hO n_M_0_M_10
        have h10 : ht_at u1 (M 10) (ht_ab g 4096 (upd (Iu 10) z (vp_nar .byte (0 : Int32)))) := by rw [hu1]; exact ht_at_self h10
        obtain ⟨sz2, esz2⟩ : ∃ zI : Int32, zI = sz + 1 := ⟨_, rfl⟩
        refine lv_iinc (v := sz2) (lv' := [(2, .int sz2), (0, .ref (M 0)), (1, .int k1)]) hx hb d_M_digestOf_103 hl (k := 2) rfl (by rw [esz2]; rfl) (by decide) rfl (fun ls hl => ?_)
        refine lv_goto (tgt := 87) hx hb d_M_digestOf_106 (by decide) ?_
        refine ih (z + 1) (by omega) (by omega) u1 Lu _ (by rw [hu1]; exact hMu.up10 _) (by rw [hu1]; exact hfm.up 10 (by decide)) hsL (hsI.up (by decide)) hws (fun i hi => ?_) _ _ _ sz2 (by rw [esz2, esz, nI_1]) HW (lv_sub hl [1, 2, 0] rfl)
        rw [va_up_self]
        by_cases e : i = z
        · rw [e, pk_us, ht_nar]
          unfold ht_pad
          rw [if_neg (by omega), if_neg (by omega), if_pos (by omega)]
        · rw [pk_un e]
          exact hpd i (by omega)
  have hO : ht_at w (M 0) (.inr (4, [.ref (M 1), .ref (M 2), .int (n 0), .ref (M 3), .ref (M 4), .ref (M 5), .ref (M 6), .int (n 1), .ref (M 7), .int (n 2), .ref (M 8), .int (n 3), .int (n 4), .ref (M 9), .ref (M 10), .ref (M 11), .ref (M 12), .ref (M 13), .ref (M 14), .ref (M 15), .ref (M 16), .ref (M 17)]) : va_E) := hM.1
  have h10 : ht_at w (M 10) (ht_ab g 4096 (If 10)) := hM.2.2.2.2.1
  have h11 : ht_at w (M 11) (ht_al g 8 (Lf 11)) := hM.L 11 (by decide) rfl
  refine lv_aload_n hx hb d_M_digestOf_0 rfl (lv_at hl 0 rfl) ?_
  refine ht_get (C := R_M) (T := F_M) (N := 22) (v := .ref (M 11)) hx hb htb i_M hown HW hO rfl 15 (by decide) (htb _ wd_326) (fun _ h9 => h9) rfl d_M_digestOf_1 ?_
  refine lv_iconst (v := 0) hx hb d_M_digestOf_4 (by decide) ?_
  refine lv_ldc2 (v := 1779033703) hx hb hown (htb _ wd_448) d_M_digestOf_5 ?_
  refine ht_last hx hb HW h11 (by unfold vp_in; decide) d_M_digestOf_8 (fun H locs HW => ?_)
  have n_M_0_M_11 : (M 0) ≠ (M 11) := (hM.ne 0 11 (by decide) (by decide) (by decide))
  have n_M_10_M_11 : (M 10) ≠ (M 11) := (hM.ne 10 11 (by decide) (by decide) (by decide))
  obtain ⟨u1, hu1⟩ : ∃ zW : ht_W, zW = ht_up w (M 11) (ht_al g 8 (vp_updL (Lf 11) 0 (1779033703 : Int64))) := ⟨_, rfl⟩
  have HW : ht_I g s u1 H locs := by rw [hu1]; exact HW
  have hO : ht_at u1 (M 0) (.inr (4, [.ref (M 1), .ref (M 2), .int (n 0), .ref (M 3), .ref (M 4), .ref (M 5), .ref (M 6), .int (n 1), .ref (M 7), .int (n 2), .ref (M 8), .int (n 3), .int (n 4), .ref (M 9), .ref (M 10), .ref (M 11), .ref (M 12), .ref (M 13), .ref (M 14), .ref (M 15), .ref (M 16), .ref (M 17)]) : va_E) := by rw [hu1]; exact ht_at_ne hO n_M_0_M_11
  have h10 : ht_at u1 (M 10) (ht_ab g 4096 (If 10)) := by rw [hu1]; exact ht_at_ne h10 n_M_10_M_11
  have h11 : ht_at u1 (M 11) (ht_al g 8 (vp_updL (Lf 11) 0 (1779033703 : Int64))) := by rw [hu1]; exact ht_at_self h11
  refine lv_aload_n hx hb d_M_digestOf_9 rfl (lv_at hl 0 rfl) ?_
  refine ht_get (C := R_M) (T := F_M) (N := 22) (v := .ref (M 11)) hx hb htb i_M hown HW hO rfl 15 (by decide) (htb _ wd_326) (fun _ h9 => h9) rfl d_M_digestOf_10 ?_
  refine lv_iconst (v := 1) hx hb d_M_digestOf_13 (by decide) ?_
  refine lv_ldc2 (v := 3144134277) hx hb hown (htb _ wd_449) d_M_digestOf_14 ?_
  refine ht_last hx hb HW h11 (by unfold vp_in; decide) d_M_digestOf_17 (fun H locs HW => ?_)
  obtain ⟨u2, hu2⟩ : ∃ zW : ht_W, zW = ht_up u1 (M 11) (ht_al g 8 (vp_updL (vp_updL (Lf 11) 0 (1779033703 : Int64)) 1 (3144134277 : Int64))) := ⟨_, rfl⟩
  have HW : ht_I g s u2 H locs := by rw [hu2]; exact HW
  have hO : ht_at u2 (M 0) (.inr (4, [.ref (M 1), .ref (M 2), .int (n 0), .ref (M 3), .ref (M 4), .ref (M 5), .ref (M 6), .int (n 1), .ref (M 7), .int (n 2), .ref (M 8), .int (n 3), .int (n 4), .ref (M 9), .ref (M 10), .ref (M 11), .ref (M 12), .ref (M 13), .ref (M 14), .ref (M 15), .ref (M 16), .ref (M 17)]) : va_E) := by rw [hu2]; exact ht_at_ne hO n_M_0_M_11
  have h10 : ht_at u2 (M 10) (ht_ab g 4096 (If 10)) := by rw [hu2]; exact ht_at_ne h10 n_M_10_M_11
  have h11 : ht_at u2 (M 11) (ht_al g 8 (vp_updL (vp_updL (Lf 11) 0 (1779033703 : Int64)) 1 (3144134277 : Int64))) := by rw [hu2]; exact ht_at_self h11
  refine lv_aload_n hx hb d_M_digestOf_18 rfl (lv_at hl 0 rfl) ?_
  refine ht_get (C := R_M) (T := F_M) (N := 22) (v := .ref (M 11)) hx hb htb i_M hown HW hO rfl 15 (by decide) (htb _ wd_326) (fun _ h9 => h9) rfl d_M_digestOf_19 ?_
  refine lv_iconst (v := 2) hx hb d_M_digestOf_22 (by decide) ?_
  refine lv_ldc2 (v := 1013904242) hx hb hown (htb _ wd_450) d_M_digestOf_23 ?_
  refine ht_last hx hb HW h11 (by unfold vp_in; decide) d_M_digestOf_26 (fun H locs HW => ?_)
  obtain ⟨u3, hu3⟩ : ∃ zW : ht_W, zW = ht_up u2 (M 11) (ht_al g 8 (vp_updL (vp_updL (vp_updL (Lf 11) 0 (1779033703 : Int64)) 1 (3144134277 : Int64)) 2 (1013904242 : Int64))) := ⟨_, rfl⟩
  have HW : ht_I g s u3 H locs := by rw [hu3]; exact HW
  have hO : ht_at u3 (M 0) (.inr (4, [.ref (M 1), .ref (M 2), .int (n 0), .ref (M 3), .ref (M 4), .ref (M 5), .ref (M 6), .int (n 1), .ref (M 7), .int (n 2), .ref (M 8), .int (n 3), .int (n 4), .ref (M 9), .ref (M 10), .ref (M 11), .ref (M 12), .ref (M 13), .ref (M 14), .ref (M 15), .ref (M 16), .ref (M 17)]) : va_E) := by rw [hu3]; exact ht_at_ne hO n_M_0_M_11
  have h10 : ht_at u3 (M 10) (ht_ab g 4096 (If 10)) := by rw [hu3]; exact ht_at_ne h10 n_M_10_M_11
  have h11 : ht_at u3 (M 11) (ht_al g 8 (vp_updL (vp_updL (vp_updL (Lf 11) 0 (1779033703 : Int64)) 1 (3144134277 : Int64)) 2 (1013904242 : Int64))) := by rw [hu3]; exact ht_at_self h11
  refine lv_aload_n hx hb d_M_digestOf_27 rfl (lv_at hl 0 rfl) ?_
  refine ht_get (C := R_M) (T := F_M) (N := 22) (v := .ref (M 11)) hx hb htb i_M hown HW hO rfl 15 (by decide) (htb _ wd_326) (fun _ h9 => h9) rfl d_M_digestOf_28 ?_
  refine lv_iconst (v := 3) hx hb d_M_digestOf_31 (by decide) ?_
  refine lv_ldc2 (v := 2773480762) hx hb hown (htb _ wd_451) d_M_digestOf_32 ?_
  refine ht_last hx hb HW h11 (by unfold vp_in; decide) d_M_digestOf_35 (fun H locs HW => ?_)
  obtain ⟨u4, hu4⟩ : ∃ zW : ht_W, zW = ht_up u3 (M 11) (ht_al g 8 (vp_updL (vp_updL (vp_updL (vp_updL (Lf 11) 0 (1779033703 : Int64)) 1 (3144134277 : Int64)) 2 (1013904242 : Int64)) 3 (2773480762 : Int64))) := ⟨_, rfl⟩
  have HW : ht_I g s u4 H locs := by rw [hu4]; exact HW
  have hO : ht_at u4 (M 0) (.inr (4, [.ref (M 1), .ref (M 2), .int (n 0), .ref (M 3), .ref (M 4), .ref (M 5), .ref (M 6), .int (n 1), .ref (M 7), .int (n 2), .ref (M 8), .int (n 3), .int (n 4), .ref (M 9), .ref (M 10), .ref (M 11), .ref (M 12), .ref (M 13), .ref (M 14), .ref (M 15), .ref (M 16), .ref (M 17)]) : va_E) := by rw [hu4]; exact ht_at_ne hO n_M_0_M_11
  have h10 : ht_at u4 (M 10) (ht_ab g 4096 (If 10)) := by rw [hu4]; exact ht_at_ne h10 n_M_10_M_11
  have h11 : ht_at u4 (M 11) (ht_al g 8 (vp_updL (vp_updL (vp_updL (vp_updL (Lf 11) 0 (1779033703 : Int64)) 1 (3144134277 : Int64)) 2 (1013904242 : Int64)) 3 (2773480762 : Int64))) := by rw [hu4]; exact ht_at_self h11
  refine lv_aload_n hx hb d_M_digestOf_36 rfl (lv_at hl 0 rfl) ?_
  refine ht_get (C := R_M) (T := F_M) (N := 22) (v := .ref (M 11)) hx hb htb i_M hown HW hO rfl 15 (by decide) (htb _ wd_326) (fun _ h9 => h9) rfl d_M_digestOf_37 ?_
  refine lv_iconst (v := 4) hx hb d_M_digestOf_40 (by decide) ?_
  refine lv_ldc2 (v := 1359893119) hx hb hown (htb _ wd_452) d_M_digestOf_41 ?_
  refine ht_last hx hb HW h11 (by unfold vp_in; decide) d_M_digestOf_44 (fun H locs HW => ?_)
  obtain ⟨u5, hu5⟩ : ∃ zW : ht_W, zW = ht_up u4 (M 11) (ht_al g 8 (vp_updL (vp_updL (vp_updL (vp_updL (vp_updL (Lf 11) 0 (1779033703 : Int64)) 1 (3144134277 : Int64)) 2 (1013904242 : Int64)) 3 (2773480762 : Int64)) 4 (1359893119 : Int64))) := ⟨_, rfl⟩
  have HW : ht_I g s u5 H locs := by rw [hu5]; exact HW
  have hO : ht_at u5 (M 0) (.inr (4, [.ref (M 1), .ref (M 2), .int (n 0), .ref (M 3), .ref (M 4), .ref (M 5), .ref (M 6), .int (n 1), .ref (M 7), .int (n 2), .ref (M 8), .int (n 3), .int (n 4), .ref (M 9), .ref (M 10), .ref (M 11), .ref (M 12), .ref (M 13), .ref (M 14), .ref (M 15), .ref (M 16), .ref (M 17)]) : va_E) := by rw [hu5]; exact ht_at_ne hO n_M_0_M_11
  have h10 : ht_at u5 (M 10) (ht_ab g 4096 (If 10)) := by rw [hu5]; exact ht_at_ne h10 n_M_10_M_11
  have h11 : ht_at u5 (M 11) (ht_al g 8 (vp_updL (vp_updL (vp_updL (vp_updL (vp_updL (Lf 11) 0 (1779033703 : Int64)) 1 (3144134277 : Int64)) 2 (1013904242 : Int64)) 3 (2773480762 : Int64)) 4 (1359893119 : Int64))) := by rw [hu5]; exact ht_at_self h11
  refine lv_aload_n hx hb d_M_digestOf_45 rfl (lv_at hl 0 rfl) ?_
  refine ht_get (C := R_M) (T := F_M) (N := 22) (v := .ref (M 11)) hx hb htb i_M hown HW hO rfl 15 (by decide) (htb _ wd_326) (fun _ h9 => h9) rfl d_M_digestOf_46 ?_
  refine lv_iconst (v := 5) hx hb d_M_digestOf_49 (by decide) ?_
  refine lv_ldc2 (v := 2600822924) hx hb hown (htb _ wd_453) d_M_digestOf_50 ?_
  refine ht_last hx hb HW h11 (by unfold vp_in; decide) d_M_digestOf_53 (fun H locs HW => ?_)
  obtain ⟨u6, hu6⟩ : ∃ zW : ht_W, zW = ht_up u5 (M 11) (ht_al g 8 (vp_updL (vp_updL (vp_updL (vp_updL (vp_updL (vp_updL (Lf 11) 0 (1779033703 : Int64)) 1 (3144134277 : Int64)) 2 (1013904242 : Int64)) 3 (2773480762 : Int64)) 4 (1359893119 : Int64)) 5 (2600822924 : Int64))) := ⟨_, rfl⟩
  have HW : ht_I g s u6 H locs := by rw [hu6]; exact HW
  have hO : ht_at u6 (M 0) (.inr (4, [.ref (M 1), .ref (M 2), .int (n 0), .ref (M 3), .ref (M 4), .ref (M 5), .ref (M 6), .int (n 1), .ref (M 7), .int (n 2), .ref (M 8), .int (n 3), .int (n 4), .ref (M 9), .ref (M 10), .ref (M 11), .ref (M 12), .ref (M 13), .ref (M 14), .ref (M 15), .ref (M 16), .ref (M 17)]) : va_E) := by rw [hu6]; exact ht_at_ne hO n_M_0_M_11
  have h10 : ht_at u6 (M 10) (ht_ab g 4096 (If 10)) := by rw [hu6]; exact ht_at_ne h10 n_M_10_M_11
  have h11 : ht_at u6 (M 11) (ht_al g 8 (vp_updL (vp_updL (vp_updL (vp_updL (vp_updL (vp_updL (Lf 11) 0 (1779033703 : Int64)) 1 (3144134277 : Int64)) 2 (1013904242 : Int64)) 3 (2773480762 : Int64)) 4 (1359893119 : Int64)) 5 (2600822924 : Int64))) := by rw [hu6]; exact ht_at_self h11
  refine lv_aload_n hx hb d_M_digestOf_54 rfl (lv_at hl 0 rfl) ?_
  refine ht_get (C := R_M) (T := F_M) (N := 22) (v := .ref (M 11)) hx hb htb i_M hown HW hO rfl 15 (by decide) (htb _ wd_326) (fun _ h9 => h9) rfl d_M_digestOf_55 ?_
  refine lv_bipush (v := 6) hx hb d_M_digestOf_58 (by decide) ?_
  refine lv_ldc2 (v := 528734635) hx hb hown (htb _ wd_454) d_M_digestOf_60 ?_
  refine ht_last hx hb HW h11 (by unfold vp_in; decide) d_M_digestOf_63 (fun H locs HW => ?_)
  obtain ⟨u7, hu7⟩ : ∃ zW : ht_W, zW = ht_up u6 (M 11) (ht_al g 8 (vp_updL (vp_updL (vp_updL (vp_updL (vp_updL (vp_updL (vp_updL (Lf 11) 0 (1779033703 : Int64)) 1 (3144134277 : Int64)) 2 (1013904242 : Int64)) 3 (2773480762 : Int64)) 4 (1359893119 : Int64)) 5 (2600822924 : Int64)) 6 (528734635 : Int64))) := ⟨_, rfl⟩
  have HW : ht_I g s u7 H locs := by rw [hu7]; exact HW
  have hO : ht_at u7 (M 0) (.inr (4, [.ref (M 1), .ref (M 2), .int (n 0), .ref (M 3), .ref (M 4), .ref (M 5), .ref (M 6), .int (n 1), .ref (M 7), .int (n 2), .ref (M 8), .int (n 3), .int (n 4), .ref (M 9), .ref (M 10), .ref (M 11), .ref (M 12), .ref (M 13), .ref (M 14), .ref (M 15), .ref (M 16), .ref (M 17)]) : va_E) := by rw [hu7]; exact ht_at_ne hO n_M_0_M_11
  have h10 : ht_at u7 (M 10) (ht_ab g 4096 (If 10)) := by rw [hu7]; exact ht_at_ne h10 n_M_10_M_11
  have h11 : ht_at u7 (M 11) (ht_al g 8 (vp_updL (vp_updL (vp_updL (vp_updL (vp_updL (vp_updL (vp_updL (Lf 11) 0 (1779033703 : Int64)) 1 (3144134277 : Int64)) 2 (1013904242 : Int64)) 3 (2773480762 : Int64)) 4 (1359893119 : Int64)) 5 (2600822924 : Int64)) 6 (528734635 : Int64))) := by rw [hu7]; exact ht_at_self h11
  refine lv_aload_n hx hb d_M_digestOf_64 rfl (lv_at hl 0 rfl) ?_
  refine ht_get (C := R_M) (T := F_M) (N := 22) (v := .ref (M 11)) hx hb htb i_M hown HW hO rfl 15 (by decide) (htb _ wd_326) (fun _ h9 => h9) rfl d_M_digestOf_65 ?_
  refine lv_bipush (v := 7) hx hb d_M_digestOf_68 (by decide) ?_
  refine lv_ldc2 (v := 1541459225) hx hb hown (htb _ wd_455) d_M_digestOf_70 ?_
  refine ht_last hx hb HW h11 (by unfold vp_in; decide) d_M_digestOf_73 (fun H locs HW => ?_)
  obtain ⟨u8, hu8⟩ : ∃ zW : ht_W, zW = ht_up u7 (M 11) (ht_al g 8 (vp_updL (vp_updL (vp_updL (vp_updL (vp_updL (vp_updL (vp_updL (vp_updL (Lf 11) 0 (1779033703 : Int64)) 1 (3144134277 : Int64)) 2 (1013904242 : Int64)) 3 (2773480762 : Int64)) 4 (1359893119 : Int64)) 5 (2600822924 : Int64)) 6 (528734635 : Int64)) 7 (1541459225 : Int64))) := ⟨_, rfl⟩
  have HW : ht_I g s u8 H locs := by rw [hu8]; exact HW
  have hO : ht_at u8 (M 0) (.inr (4, [.ref (M 1), .ref (M 2), .int (n 0), .ref (M 3), .ref (M 4), .ref (M 5), .ref (M 6), .int (n 1), .ref (M 7), .int (n 2), .ref (M 8), .int (n 3), .int (n 4), .ref (M 9), .ref (M 10), .ref (M 11), .ref (M 12), .ref (M 13), .ref (M 14), .ref (M 15), .ref (M 16), .ref (M 17)]) : va_E) := by rw [hu8]; exact ht_at_ne hO n_M_0_M_11
  have h10 : ht_at u8 (M 10) (ht_ab g 4096 (If 10)) := by rw [hu8]; exact ht_at_ne h10 n_M_10_M_11
  have h11 : ht_at u8 (M 11) (ht_al g 8 (vp_updL (vp_updL (vp_updL (vp_updL (vp_updL (vp_updL (vp_updL (vp_updL (Lf 11) 0 (1779033703 : Int64)) 1 (3144134277 : Int64)) 2 (1013904242 : Int64)) 3 (2773480762 : Int64)) 4 (1359893119 : Int64)) 5 (2600822924 : Int64)) 6 (528734635 : Int64)) 7 (1541459225 : Int64))) := by rw [hu8]; exact ht_at_self h11
  refine lv_iload_n hx hb d_M_digestOf_74 rfl (lv_at hl 1 rfl) ?_
  refine lv_istore_n (lv' := [(2, .int k1), (0, .ref (M 0)), (1, .int k1)]) hx hb d_M_digestOf_75 rfl hl (by decide) rfl (fun ls hl => ?_)
  refine lv_aload_n hx hb d_M_digestOf_76 rfl (lv_at hl 1 rfl) ?_
  refine ht_get (C := R_M) (T := F_M) (N := 22) (v := .ref (M 10)) hx hb htb i_M hown HW hO rfl 14 (by decide) (htb _ wd_325) (fun _ h9 => h9) rfl d_M_digestOf_77 ?_
  refine lv_iload_n hx hb d_M_digestOf_80 rfl (lv_at hl 0 rfl) ?_
  refine lv_bipush (v := -128) hx hb d_M_digestOf_81 (by decide) ?_
  refine ht_bast hx hb HW h10 (by rw [ek1]; exact vp_in_nI (by omega) (by omega)) d_M_digestOf_83 (fun H locs HW => ?_)
  rw [ek1, nI_clamp (by omega)] at HW
  have n_M_0_M_10 : (M 0) ≠ (M 10) := (hM.ne 0 10 (by decide) (by decide) (by decide))
  have n_M_11_M_10 : (M 11) ≠ (M 10) := (Ne.symm n_M_10_M_11)
  obtain ⟨u9, hu9⟩ : ∃ zW : ht_W, zW = ht_up u8 (M 10) (ht_ab g 4096 (upd (If 10) nn (vp_nar .byte ((-128) : Int32)))) := ⟨_, rfl⟩
  have HW : ht_I g s u9 H locs := by rw [hu9]; exact HW
  have hO : ht_at u9 (M 0) (.inr (4, [.ref (M 1), .ref (M 2), .int (n 0), .ref (M 3), .ref (M 4), .ref (M 5), .ref (M 6), .int (n 1), .ref (M 7), .int (n 2), .ref (M 8), .int (n 3), .int (n 4), .ref (M 9), .ref (M 10), .ref (M 11), .ref (M 12), .ref (M 13), .ref (M 14), .ref (M 15), .ref (M 16), .ref (M 17)]) : va_E) := by rw [hu9]; exact ht_at_ne hO n_M_0_M_10
  have h10 : ht_at u9 (M 10) (ht_ab g 4096 (upd (If 10) nn (vp_nar .byte ((-128) : Int32)))) := by rw [hu9]; exact ht_at_self h10
  have h11 : ht_at u9 (M 11) (ht_al g 8 (vp_updL (vp_updL (vp_updL (vp_updL (vp_updL (vp_updL (vp_updL (vp_updL (Lf 11) 0 (1779033703 : Int64)) 1 (3144134277 : Int64)) 2 (1013904242 : Int64)) 3 (2773480762 : Int64)) 4 (1359893119 : Int64)) 5 (2600822924 : Int64)) 6 (528734635 : Int64)) 7 (1541459225 : Int64))) := by rw [hu9]; exact ht_at_ne h11 n_M_11_M_10
  obtain ⟨sz2, esz2⟩ : ∃ zI : Int32, zI = k1 + 1 := ⟨_, rfl⟩
  refine lv_iinc (v := sz2) (lv' := [(2, .int sz2), (0, .ref (M 0)), (1, .int k1)]) hx hb d_M_digestOf_84 hl (k := 0) rfl (by rw [esz2]; rfl) (by decide) rfl (fun ls hl => ?_)
  have hMs : ht_Mo g u9 M n (va_up Lf 11 (vp_updL (vp_updL (vp_updL (vp_updL (vp_updL (vp_updL (vp_updL (vp_updL (Lf 11) 0 1779033703) 1 3144134277) 2 1013904242) 3 2773480762) 4 1359893119) 5 2600822924) 6 528734635) 7 1541459225)) (va_up If 10 (upd (If 10) nn (vp_nar .byte (-128)))) := by
    rw [hu9, hu8, hu7, hu6, hu5, hu4, hu3, hu2, hu1]
    simp only [ht_up_up]
    exact (hM.upL 11 (by decide) rfl _).up10 _
  have hfs : ht_fm M w u9 := by
    rw [hu9, hu8, hu7, hu6, hu5, hu4, hu3, hu2, hu1]
    simp only [ht_up_up]
    exact (ht_fm.rf.up 11 (by decide)).up 10 (by decide)
  refine loopA ((64 * ((nn + 72) / 64) - 8) - (nn + 1)) (nn + 1) (by omega) (by omega) u9 _ _ hMs hfs (ht_same.rf.up (by decide)) (ht_same.rf.up (by decide)) (fun j hj => by rw [va_up_self]; exact ht_w0_em _ j hj) (fun i hi => ?_) _ _ _ sz2 (by rw [esz2, ek1, nI_1]) HW (lv_sub hl [1, 2, 0] rfl)
  rw [va_up_self]
  by_cases e : i = nn
  · rw [e, pk_us, ht_nar, ht_pd_z]
    rfl
  · rw [pk_un e]
    unfold ht_pad
    rw [if_pos (by omega)]
set_option maxHeartbeats 4000000 in
set_option maxRecDepth 100000 in
theorem c_M_put (l : Launch) (g : ht_G) (w : ht_W) {M : Nat → Nat} {n : Nat → Int32} {Lf : ht_LF} {If : ht_IF} (hM : ht_Mo g w M n Lf If) (ap fp : Nat) (hap : ap + 32 ≤ 4096) (hfp : fp + 4 ≤ 8) (k1 k2 : Int32) (ek1 : k1 = nI ap) (ek2 : k2 = nI fp) : Met l y_M_put ws_M_put ({ frames := 0, cells := 0, slots := 0, locals := 0 } : Room) (va_Pc [.ref (M 0), .int k1, .ref (M 15), .int k2] (ht_WS g w)) (ht_Qv g (fun u => ∃ (If2 : ht_IF), ht_Mo g u M n Lf If2 ∧ ht_fm M w u ∧ ht_same [10] If If2 ∧ (∀ i, i < ap ∨ ap + 32 ≤ i → If2 10 i = If 10 i) ∧ ∀ k, k < 32 → If2 10 (ap + k) &&& 255 = ht_by (Lf 15 (fp + k / 8)) (7 - k % 8) &&& 255)) 0 0 (ht_A g) := by
  refine Met.ofW (cc := b_M_put) (maxL := 5) (ret := none) (by decide) rfl ?_
  intro p e s m args below meth c s₁ BB hml hv
  obtain ⟨rfl, HW⟩ := hv
  have HW := ht_I.start HW
  have hx := BB.exec
  have hb := BB.bytes
  have hr := BB.returns
  have hts := atoms_spec (ws := ws_M_put) BB.pre
  have htb : ∀ w ∈ bg, w.before _ s = true := fun w h => hts w (List.mem_cons_of_mem _ h)
  have hown : s.vm.findClass R_M = some m.cls := findClass_of_methodNamed BB.named
  have hlocks := BB.notSynchronized
  have hl := lv_entry ([.ref (M 0), .int k1, .ref (M 15), .int k2]) (n := 5) (Nat.le_of_ble_eq_true rfl)
  rw [lg_entry_eq]
  generalize (lg_sl ([.ref (M 0), .int k1, .ref (M 15), .int k2]) ++ List.replicate (5 - (lg_sl ([.ref (M 0), .int k1, .ref (M 15), .int k2])).length) Slot.unset).toArray = ls at hl ⊢
  have hl : lv_has ls 5 [(0, .ref (M 0)), (1, .int k1), (2, .ref (M 15)), (3, .int k2)] := hl
  have loop : ∀ (r k : Nat), k + r = 32 → ∀ (u : ht_W) (Iu : ht_IF), ht_Mo g u M n Lf Iu → ht_fm M w u → ht_same [10] If Iu → (∀ i, i < ap ∨ ap + k ≤ i → Iu 10 i = If 10 i) → (∀ j, j < k → Iu 10 (ap + j) &&& 255 = ht_by (Lf 15 (fp + j / 8)) (7 - j % 8) &&& 255) → ∀ (H : Heap) (locs : List Loc) (ls : Array Slot) (kv : Int32), kv = nI k → ht_I g s u H locs → lv_has ls 5 [(0, .ref (M 0)), (1, .int k1), (2, .ref (M 15)), (3, .int k2), (4, .int kv)] → W p l e (headSpec ws_M_put ({ frames := 0, cells := 0, slots := 0, locals := 0 } : Room)).room s m ([.ref (M 0), .int k1, .ref (M 15), .int k2] : List Value).toArray below meth c H locs 0 0 (MQ below (ht_Qv g (fun u => ∃ (If2 : ht_IF), ht_Mo g u M n Lf If2 ∧ ht_fm M w u ∧ ht_same [10] If If2 ∧ (∀ i, i < ap ∨ ap + 32 ≤ i → If2 10 i = If 10 i) ∧ ∀ k, k < 32 → If2 10 (ap + k) &&& 255 = ht_by (Lf 15 (fp + k / 8)) (7 - k % 8) &&& 255)) ([.ref (M 0), .int k1, .ref (M 15), .int k2] : List Value).toArray s 0 0 (ht_A g)) (F0 m 3 ls []) := by
    intro r
    induction r with
    | zero =>
      intro k hk u Iu hMu hfm hsI hold hnew H locs ls kv ekv HW hl
      have hO : ht_at u (M 0) (.inr (4, [.ref (M 1), .ref (M 2), .int (n 0), .ref (M 3), .ref (M 4), .ref (M 5), .ref (M 6), .int (n 1), .ref (M 7), .int (n 2), .ref (M 8), .int (n 3), .int (n 4), .ref (M 9), .ref (M 10), .ref (M 11), .ref (M 12), .ref (M 13), .ref (M 14), .ref (M 15), .ref (M 16), .ref (M 17)]) : va_E) := hMu.1
      have h10 : ht_at u (M 10) (ht_ab g 4096 (Iu 10)) := hMu.2.2.2.2.1
      have h15 : ht_at u (M 15) (ht_al g 8 (Lf 15)) := hMu.L 15 (by decide) rfl
      refine lv_iload hx hb d_M_put_3 (lv_at hl 4 rfl) ?_
      refine lv_bipush (v := 32) hx hb d_M_put_5 (by decide) ?_
      refine lv_icmp_ge (tgt := 48) hx hb d_M_put_7 (by decide) (fun c7 => ?_) (fun c7 => ?_)
      · exact ht_vret hx hb hr hlocks HW ⟨Iu, hMu, hfm, hsI, fun i hi => hold i (by omega), fun j hj => hnew j (by omega)⟩ d_M_put_48
      · exact absurd (nI_le (show 32 ≤ k by omega) (by omega)) (by rw [ekv] at c7; exact c7)
    | succ r ih =>
      intro k hk u Iu hMu hfm hsI hold hnew H locs ls kv ekv HW hl
      have hO : ht_at u (M 0) (.inr (4, [.ref (M 1), .ref (M 2), .int (n 0), .ref (M 3), .ref (M 4), .ref (M 5), .ref (M 6), .int (n 1), .ref (M 7), .int (n 2), .ref (M 8), .int (n 3), .int (n 4), .ref (M 9), .ref (M 10), .ref (M 11), .ref (M 12), .ref (M 13), .ref (M 14), .ref (M 15), .ref (M 16), .ref (M 17)]) : va_E) := hMu.1
      have h10 : ht_at u (M 10) (ht_ab g 4096 (Iu 10)) := hMu.2.2.2.2.1
      have h15 : ht_at u (M 15) (ht_al g 8 (Lf 15)) := hMu.L 15 (by decide) rfl
      refine lv_iload hx hb d_M_put_3 (lv_at hl 4 rfl) ?_
      refine lv_bipush (v := 32) hx hb d_M_put_5 (by decide) ?_
      refine lv_icmp_ge (tgt := 48) hx hb d_M_put_7 (by decide) (fun c7 => ?_) (fun c7 => ?_)
      · exact absurd (show nI 32 ≤ nI k by rw [ekv] at c7; exact c7) (nI_ge (by omega) (by omega))
      · refine lv_aload_n hx hb d_M_put_10 rfl (lv_at hl 0 rfl) ?_
        refine ht_get (C := R_M) (T := F_M) (N := 22) (v := .ref (M 10)) hx hb htb i_M hown HW hO rfl 14 (by decide) (htb _ wd_325) (fun _ h9 => h9) rfl d_M_put_11 ?_
        refine lv_iload_n hx hb d_M_put_14 rfl (lv_at hl 1 rfl) ?_
        refine lv_iload hx hb d_M_put_15 (lv_at hl 4 rfl) ?_
        refine lv_iadd hx hb d_M_put_17 ?_
        refine lv_topi (fun ia eia => ?_)
        have hia : ia = nI (ap + k) := by rw [eia, ek1, ekv, nI_add]
        refine lv_aload_n hx hb d_M_put_18 rfl (lv_at hl 2 rfl) ?_
        refine lv_iload_n hx hb d_M_put_19 rfl (lv_at hl 3 rfl) ?_
        refine lv_iload hx hb d_M_put_20 (lv_at hl 4 rfl) ?_
        refine lv_bipush (v := 8) hx hb d_M_put_22 (by decide) ?_
        refine lv_idiv hx hb d_M_put_24 (by decide) ?_
        refine lv_iadd hx hb d_M_put_25 ?_
        refine lv_topi (fun ib eib => ?_)
        have hib : ib = nI (fp + k / 8) := by rw [eib, ek2, ekv, show (8 : Int32) = nI 8 from rfl, pk_div (by omega) (by decide) (by decide), nI_add]
        refine ht_lald hx hb HW h15 (by rw [hib]; exact vp_in_nI (by omega) (by omega)) d_M_put_26 ?_
        refine lv_topl (fun rv erv => ?_)
        have erv : rv = (Lf 15) (fp + k / 8) := by rw [erv, hib, nI_clamp (by omega)]
        refine lv_bipush (v := 56) hx hb d_M_put_27 (by decide) ?_
        refine lv_bipush (v := 8) hx hb d_M_put_29 (by decide) ?_
        refine lv_iload hx hb d_M_put_31 (lv_at hl 4 rfl) ?_
        refine lv_bipush (v := 8) hx hb d_M_put_33 (by decide) ?_
        refine lv_irem hx hb d_M_put_35 (by decide) ?_
        refine lv_imul hx hb d_M_put_36 ?_
        refine lv_isub hx hb d_M_put_37 ?_
        refine lv_topi (fun sh esh => ?_)
        have hsh : sh = nI (8 * (7 - k % 8)) := by rw [esh, ekv, show (8 : Int32) = nI 8 from rfl, pk_rem (by omega) (by decide) (by decide), pk_mul, show (56 : Int32) = nI 56 from rfl, pk_sub (by omega)]; congr 1; omega
        refine lv_lshr (v := rv >>> (sh.toInt64 &&& 63)) hx hb d_M_put_38 rfl ?_
        refine lv_l2i (v := (rv >>> (sh.toInt64 &&& 63)).toInt32) hx hb d_M_put_39 rfl ?_
        refine lv_i2b (v := ((rv >>> (sh.toInt64 &&& 63)).toInt32).toInt8.toInt32) hx hb d_M_put_40 rfl ?_
        refine lv_topi (fun bv ebv => ?_)
        refine ht_bast hx hb HW h10 (by rw [hia]; exact vp_in_nI (by omega) (by omega)) d_M_put_41 (fun H locs HW => ?_)
        rw [hia, nI_clamp (by omega)] at HW
        have n_M_0_M_10 : (M 0) ≠ (M 10) := (hMu.ne 0 10 (by decide) (by decide) (by decide))
        have n_M_15_M_10 : (M 15) ≠ (M 10) := (hMu.ne 15 10 (by decide) (by decide) (by decide))
        obtain ⟨u1, hu1⟩ : ∃ zW : ht_W, zW = ht_up u (M 10) (ht_ab g 4096 (upd (Iu 10) (ap + k) (vp_nar .byte bv))) := ⟨_, rfl⟩
        have HW : ht_I g s u1 H locs := by rw [hu1]; exact HW
        have hO : ht_at u1 (M 0) (.inr (4, [.ref (M 1), .ref (M 2), .int (n 0), .ref (M 3), .ref (M 4), .ref (M 5), .ref (M 6), .int (n 1), .ref (M 7), .int (n 2), .ref (M 8), .int (n 3), .int (n 4), .ref (M 9), .ref (M 10), .ref (M 11), .ref (M 12), .ref (M 13), .ref (M 14), .ref (M 15), .ref (M 16), .ref (M 17)]) : va_E) := by rw [hu1]; exact ht_at_ne hO n_M_0_M_10
        have h10 : ht_at u1 (M 10) (ht_ab g 4096 (upd (Iu 10) (ap + k) (vp_nar .byte bv))) := by rw [hu1]; exact ht_at_self h10
        have h15 : ht_at u1 (M 15) (ht_al g 8 (Lf 15)) := by rw [hu1]; exact ht_at_ne h15 n_M_15_M_10
        obtain ⟨kv2, ekv2⟩ : ∃ zI : Int32, zI = kv + 1 := ⟨_, rfl⟩
        refine lv_iinc (v := kv2) (lv' := [(4, .int kv2), (0, .ref (M 0)), (1, .int k1), (2, .ref (M 15)), (3, .int k2)]) hx hb d_M_put_42 hl (k := 4) rfl (by rw [ekv2]; rfl) (by decide) rfl (fun ls hl => ?_)
        refine lv_goto (tgt := 3) hx hb d_M_put_45 (by decide) ?_
        refine ih (k + 1) (by omega) u1 _ (by rw [hu1]; exact hMu.up10 _) (by rw [hu1]; exact hfm.up 10 (by decide)) (hsI.up (by decide)) (fun i hi => ?_) (fun j hj => ?_) _ _ _ kv2 (by rw [ekv2, ekv, nI_1]) HW (lv_sub hl [1, 2, 3, 4, 0] rfl)
        · rw [va_up_self, pk_un (by omega)]
          exact hold i (by omega)
        · rw [va_up_self]
          by_cases e : j = k
          · rw [e, pk_us, ebv, ht_nar2, ht_by_ar rv (j := 7 - k % 8) (by omega) hsh, erv]
          · rw [pk_un (by omega)]
            exact hnew j (by omega)
  refine lv_iconst (v := 0) hx hb d_M_put_0 (by decide) ?_
  refine lv_istore (lv' := [(4, .int 0), (0, .ref (M 0)), (1, .int k1), (2, .ref (M 15)), (3, .int k2)]) hx hb d_M_put_1 hl (by decide) rfl (fun ls hl => ?_)
  exact loop 32 0 rfl w If hM ht_fm.rf ht_same.rf (fun i _ => rfl) (fun j hj => absurd hj (Nat.not_lt_zero j)) _ _ _ 0 rfl HW (lv_sub hl [1, 2, 3, 4, 0] rfl)
