theorem ht_nu_em (x y : Int32) : (ht_em x <<< ((32 : Int32).toInt64 &&& 63)) ||| ht_em y = (x.toInt64 <<< ((32 : Int32).toInt64 &&& 63)) ||| (y.toInt64 &&& 4294967295) := by
  have e1 : ht_em x <<< ((32 : Int32).toInt64 &&& 63) = x.toInt64 <<< ((32 : Int32).toInt64 &&& 63) := by
    refine ht_i64 (fun i hi => ?_)
    rw [ht_shl (k := 32) (by decide), ht_shl (k := 32) (by decide), BitVec.getLsbD_shiftLeft, BitVec.getLsbD_shiftLeft, ht_em_bit]
    show _ = (decide (i < 64) && !decide (i < 32) && (x.toBitVec.signExtend 64).getLsbD (i - 32))
    rw [BitVec.getLsbD_signExtend]
    by_cases h : i < 32
    · simp [h]
    · simp [h, hi, show i - 32 < 32 by omega, show i - 32 < 64 by omega]
  have e2 : y.toInt64 &&& 4294967295 = ht_em y := by
    rw [ht_low]
    congr 1
    exact Int32.toInt32_toInt64 y
  rw [e1, e2]
def ht_bn (b : Nat → Int32) (j : Nat) : Nat := (b j).toBitVec.toNat % 256
def ht_n4 (b : Nat → Int32) (i : Nat) : Nat → Nat
  | 0 => 0
  | k + 1 => ht_n4 b i k * 256 + ht_bn b (i + k)
theorem ht_bn_lt (b : Nat → Int32) (j : Nat) : ht_bn b j < 256 := Nat.mod_lt _ (by decide)
theorem ht_bn_and (b : Nat → Int32) (j : Nat) : b j &&& 255 = nI (ht_bn b j) := pk_and (b j) 8 (by decide)
theorem ht_em_n {x : Nat} (h : x < 2 ^ 32) : ht_em (nI x) = lN x := by
  apply Int64.toBitVec_inj.mp
  apply BitVec.eq_of_toNat_eq
  rw [ht_em_tn, pk_tn h]
  show x = x % 2 ^ 64
  omega
theorem ht_c8n {x y : Nat} (hy : y < 256) (hx : x * 256 + y < 2 ^ 32) : (nI x <<< ((8 : Int32) &&& 31)) ||| nI y = nI (x * 256 + y) := by
  have h1 : x <<< 8 = x * 256 := Nat.shiftLeft_eq x 8
  have h2 : x <<< 8 ||| y = x * 256 + y := by
    rw [← Nat.shiftLeft_add_eq_or_of_lt (b := y) (i := 8) hy, h1]
  have h3 : x <<< 8 % 2 ^ 32 = x <<< 8 := Nat.mod_eq_of_lt (by omega)
  apply Int32.toBitVec_inj.mp
  apply BitVec.eq_of_toNat_eq
  rw [Int32.toBitVec_or, BitVec.toNat_or, ht_sl8, BitVec.toNat_shiftLeft, pk_tn (n := x) (by omega), pk_tn (n := y) (by omega), pk_tn hx, h3, h2]
theorem ht_n4_4 (b : Nat → Int32) (i : Nat) : lN (ht_n4 b i 4) = ht_em (ht_c4 b i) := by
  have h0 := ht_bn_lt b i
  have h1 := ht_bn_lt b (i + 1)
  have h2 := ht_bn_lt b (i + 2)
  have h3 := ht_bn_lt b (i + 3)
  have e : ht_n4 b i 4 = ((ht_bn b i * 256 + ht_bn b (i + 1)) * 256 + ht_bn b (i + 2)) * 256 + ht_bn b (i + 3) := by
    show ((((0 * 256 + ht_bn b (i + 0)) * 256 + ht_bn b (i + 1)) * 256 + ht_bn b (i + 2)) * 256 + ht_bn b (i + 3)) = _
    rw [Nat.zero_mul, Nat.zero_add, Nat.add_zero]
  unfold ht_c4
  rw [ht_bn_and, ht_bn_and, ht_bn_and, ht_bn_and, ht_c8n h1 (by omega), ht_c8n h2 (by omega), ht_c8n h3 (by omega), ht_em_n (by omega), e]
theorem ht_lN_mul (a b : Nat) : lN a * lN b = lN (a * b) := (Int64.ofNat_mul a b).symm
theorem ht_lN_add (a b : Nat) : lN a + lN b = lN (a + b) := (Int64.ofNat_add a b).symm
theorem ht_S0 (x : Int32) : (ht_tn (ht_em x) 7 ^^^ ht_tn (ht_em x) 18) ^^^ (ht_em x >>> ((3 : Int32).toInt64 &&& 63)) = ht_em (ht_s0 x) := by
  rw [ht_tn7, ht_tn18, ht_sh3, ht_em_xor, ht_em_xor]
  rfl
theorem ht_S1 (x : Int32) : (ht_tn (ht_em x) 17 ^^^ ht_tn (ht_em x) 19) ^^^ (ht_em x >>> ((10 : Int32).toInt64 &&& 63)) = ht_em (ht_s1 x) := by
  rw [ht_tn17, ht_tn19, ht_sh10, ht_em_xor, ht_em_xor]
  rfl
def ht_kl (j : Nat) : Int64 := ht_l64.getD j 0
def ht_eo (a1 a2 a3 a4 a5 a6 a7 a8 : Int64) (o : ht_O) : Prop := a1 = ht_em o.1 ∧ a2 = ht_em o.2.1 ∧ a3 = ht_em o.2.2.1 ∧ a4 = ht_em o.2.2.2.1 ∧ a5 = ht_em o.2.2.2.2.1 ∧ a6 = ht_em o.2.2.2.2.2.1 ∧ a7 = ht_em o.2.2.2.2.2.2.1 ∧ a8 = ht_em o.2.2.2.2.2.2.2
theorem ht_eo_step {a1 a2 a3 a4 a5 a6 a7 a8 : Int64} {o : ht_O} (h : ht_eo a1 a2 a3 a4 a5 a6 a7 a8 o) {k w x y : Int64} {k0 w0 : Int32} (hk : k = ht_em k0) (hw : w = ht_em w0) (hx : x = ht_X64 a5 a6 a7 a8 k w) (hy : y = ht_Y64 a1 a2 a3) : ht_eo ((x + y) &&& 4294967295) a1 a2 a3 ((a4 + x) &&& 4294967295) a5 a6 a7 (ht_r1 k0 w0 o) := by
  obtain ⟨h1, h2, h3, h4, h5, h6, h7, h8⟩ := h
  obtain ⟨b1, b2, b3, b4, b5, b6, b7, b8⟩ := o
  dsimp only at h1 h2 h3 h4 h5 h6 h7 h8
  subst hk hw hx hy h1 h2 h3 h4 h5 h6 h7 h8
  unfold ht_r1
  dsimp only
  refine ⟨?_, rfl, rfl, rfl, ?_, rfl, rfl, rfl⟩
  · rw [ht_low, Int64.toInt32_add, ht_X64_tr, ht_Y64_tr]
  · rw [ht_low, Int64.toInt32_add, ht_X64_tr, ht_em_tr]
theorem ht_vl8 {f : Nat → Int64} {ws : Nat → Int32} {o : ht_O} {a1 a2 a3 a4 a5 a6 a7 a8 : Int64} (hf : ∀ j, j < 8 → f j = ht_em (ws j)) (h : ht_eo a1 a2 a3 a4 a5 a6 a7 a8 o) {v1 v2 v3 v4 v5 v6 v7 v8 : Int64} (e1 : v1 = (f 0 + a1) &&& 4294967295) (e2 : v2 = (f 1 + a2) &&& 4294967295) (e3 : v3 = (f 2 + a3) &&& 4294967295) (e4 : v4 = (f 3 + a4) &&& 4294967295) (e5 : v5 = (f 4 + a5) &&& 4294967295) (e6 : v6 = (f 5 + a6) &&& 4294967295) (e7 : v7 = (f 6 + a7) &&& 4294967295) (e8 : v8 = (f 7 + a8) &&& 4294967295) : ∀ j, j < 8 → vp_updL (vp_updL (vp_updL (vp_updL (vp_updL (vp_updL (vp_updL (vp_updL f 0 v1) 1 v2) 2 v3) 3 v4) 4 v5) 5 v6) 6 v7) 7 v8 j = ht_em (ht_ad ws o j) := by
  obtain ⟨h1, h2, h3, h4, h5, h6, h7, h8⟩ := h
  obtain ⟨b1, b2, b3, b4, b5, b6, b7, b8⟩ := o
  dsimp only at h1 h2 h3 h4 h5 h6 h7 h8
  rw [hf 0 (by decide), h1, ht_em_ad] at e1
  rw [hf 1 (by decide), h2, ht_em_ad] at e2
  rw [hf 2 (by decide), h3, ht_em_ad] at e3
  rw [hf 3 (by decide), h4, ht_em_ad] at e4
  rw [hf 4 (by decide), h5, ht_em_ad] at e5
  rw [hf 5 (by decide), h6, ht_em_ad] at e6
  rw [hf 6 (by decide), h7, ht_em_ad] at e7
  rw [hf 7 (by decide), h8, ht_em_ad] at e8
  subst e1 e2 e3 e4 e5 e6 e7 e8
  intro j hj
  rcases (show j = 0 ∨ j = 1 ∨ j = 2 ∨ j = 3 ∨ j = 4 ∨ j = 5 ∨ j = 6 ∨ j = 7 by omega) with rfl | rfl | rfl | rfl | rfl | rfl | rfl | rfl <;> rfl
set_option maxHeartbeats 4000000 in
set_option maxRecDepth 100000 in
theorem c_M_turned (l : Launch) (g : ht_G) (w : ht_W) (v : Int64) (d : Int32) : Met l y_M_turned ws_M_turned ({ frames := 0, cells := 0, slots := 0, locals := 0 } : Room) (va_Pc [.long v, .int d] (ht_WS g w)) (ht_Ql g (fun r u => r = ht_tn v d ∧ w = u)) 0 0 (ht_A g) := by
  refine Met.ofW (cc := b_M_turned) (maxL := 3) (ret := (some .long)) (by decide) rfl ?_
  intro p e s m args below meth c s₁ BB hml hv
  obtain ⟨rfl, HW⟩ := hv
  have HW := ht_I.start HW
  have hx := BB.exec
  have hb := BB.bytes
  have hr := BB.returns
  have hts := atoms_spec (ws := ws_M_turned) BB.pre
  have htb : ∀ w ∈ bg, w.before _ s = true := fun w h => hts w (List.mem_cons_of_mem _ h)
  have hown : s.vm.findClass R_M = some m.cls := findClass_of_methodNamed BB.named
  have hlocks := BB.notSynchronized
  have hl := lv_entry ([.long v, .int d]) (n := 3) (Nat.le_of_ble_eq_true rfl)
  rw [lg_entry_eq]
  generalize (lg_sl ([.long v, .int d]) ++ List.replicate (3 - (lg_sl ([.long v, .int d])).length) Slot.unset).toArray = ls at hl ⊢
  have hl : lv_has ls 3 [(0, .long v), (2, .int d)] := hl
  refine lv_lload_n hx hb d_M_turned_0 rfl (lv_at hl 0 rfl) ?_
  refine lv_iload_n hx hb d_M_turned_1 rfl (lv_at hl 1 rfl) ?_
  refine lv_lshr (v := v >>> (d.toInt64 &&& 63)) hx hb d_M_turned_2 rfl ?_
  refine lv_lload_n hx hb d_M_turned_3 rfl (lv_at hl 0 rfl) ?_
  refine lv_bipush (v := 32) hx hb d_M_turned_4 (by decide) ?_
  refine lv_iload_n hx hb d_M_turned_6 rfl (lv_at hl 1 rfl) ?_
  refine lv_isub hx hb d_M_turned_7 ?_
  refine lv_lshl (v := v <<< (((32 : Int32) - d).toInt64 &&& 63)) hx hb d_M_turned_8 rfl ?_
  refine lv_lor hx hb d_M_turned_9 ?_
  refine lv_ldc2 (v := 4294967295) hx hb hown (htb _ wd_465) d_M_turned_10 ?_
  refine lv_land hx hb d_M_turned_13 ?_
  exact ht_lret hx hb hr hlocks HW ⟨rfl, rfl⟩ d_M_turned_14
set_option maxHeartbeats 4000000 in
set_option maxRecDepth 100000 in
theorem c_M_wordPair (l : Launch) (g : ht_G) (w : ht_W) {M : Nat → Nat} {n : Nat → Int32} {Lf : ht_LF} {If : ht_IF} (hM : ht_Mo g w M n Lf If) (i : Nat) (hi : i < 4) (k1 : Int32) (ek1 : k1 = nI i) {ws : Nat → Int32} (hws : ∀ j, j < 8 → Lf 11 j = ht_em (ws j)) : Met l y_M_wordPair ws_M_wordPair ({ frames := 0, cells := 0, slots := 0, locals := 0 } : Room) (va_Pc [.ref (M 0), .int k1] (ht_WS g w)) (ht_Ql g (fun r u => r = ht_nu ws i ∧ w = u)) 0 0 (ht_A g) := by
  refine Met.ofW (cc := b_M_wordPair) (maxL := 2) (ret := (some .long)) (by decide) rfl ?_
  intro p e s m args below meth c s₁ BB hml hv
  obtain ⟨rfl, HW⟩ := hv
  have HW := ht_I.start HW
  have hx := BB.exec
  have hb := BB.bytes
  have hr := BB.returns
  have hts := atoms_spec (ws := ws_M_wordPair) BB.pre
  have htb : ∀ w ∈ bg, w.before _ s = true := fun w h => hts w (List.mem_cons_of_mem _ h)
  have hown : s.vm.findClass R_M = some m.cls := findClass_of_methodNamed BB.named
  have hlocks := BB.notSynchronized
  have hl := lv_entry ([.ref (M 0), .int k1]) (n := 2) (Nat.le_of_ble_eq_true rfl)
  rw [lg_entry_eq]
  generalize (lg_sl ([.ref (M 0), .int k1]) ++ List.replicate (2 - (lg_sl ([.ref (M 0), .int k1])).length) Slot.unset).toArray = ls at hl ⊢
  have hl : lv_has ls 2 [(0, .ref (M 0)), (1, .int k1)] := hl
  have hO : ht_at w (M 0) (.inr (4, [.ref (M 1), .ref (M 2), .int (n 0), .ref (M 3), .ref (M 4), .ref (M 5), .ref (M 6), .int (n 1), .ref (M 7), .int (n 2), .ref (M 8), .int (n 3), .int (n 4), .ref (M 9), .ref (M 10), .ref (M 11), .ref (M 12), .ref (M 13), .ref (M 14), .ref (M 15), .ref (M 16), .ref (M 17)]) : va_E) := hM.1
  have h11 : ht_at w (M 11) (ht_al g 8 (Lf 11)) := hM.L 11 (by decide) rfl
  refine lv_aload_n hx hb d_M_wordPair_0 rfl (lv_at hl 0 rfl) ?_
  refine ht_get (C := R_M) (T := F_M) (N := 22) (v := .ref (M 11)) hx hb htb i_M hown HW hO rfl 15 (by decide) (htb _ wd_326) (fun _ h9 => h9) rfl d_M_wordPair_1 ?_
  refine lv_iconst (v := 2) hx hb d_M_wordPair_4 (by decide) ?_
  refine lv_iload_n hx hb d_M_wordPair_5 rfl (lv_at hl 1 rfl) ?_
  refine lv_imul hx hb d_M_wordPair_6 ?_
  refine lv_topi (fun i1 ei1 => ?_)
  have hi1 : i1 = nI (2 * i) := by rw [ei1, ek1, show (2 : Int32) = nI 2 from rfl, pk_mul]
  refine ht_lald hx hb HW h11 (by rw [hi1]; exact vp_in_nI (by omega) (by omega)) d_M_wordPair_7 ?_
  refine lv_topl (fun v1 ev1 => ?_)
  have ev1 : v1 = (Lf 11) (2 * i) := by rw [ev1, hi1, nI_clamp (by omega)]
  have ev1 : v1 = ht_em (ws (2 * i)) := by rw [ev1, hws _ (by omega)]
  refine lv_bipush (v := 32) hx hb d_M_wordPair_8 (by decide) ?_
  refine lv_lshl (v := v1 <<< ((32 : Int32).toInt64 &&& 63)) hx hb d_M_wordPair_10 rfl ?_
  refine lv_aload_n hx hb d_M_wordPair_11 rfl (lv_at hl 0 rfl) ?_
  refine ht_get (C := R_M) (T := F_M) (N := 22) (v := .ref (M 11)) hx hb htb i_M hown HW hO rfl 15 (by decide) (htb _ wd_326) (fun _ h9 => h9) rfl d_M_wordPair_12 ?_
  refine lv_iconst (v := 2) hx hb d_M_wordPair_15 (by decide) ?_
  refine lv_iload_n hx hb d_M_wordPair_16 rfl (lv_at hl 1 rfl) ?_
  refine lv_imul hx hb d_M_wordPair_17 ?_
  refine lv_iconst (v := 1) hx hb d_M_wordPair_18 (by decide) ?_
  refine lv_iadd hx hb d_M_wordPair_19 ?_
  refine lv_topi (fun i2 ei2 => ?_)
  have hi2 : i2 = nI (2 * i + 1) := by rw [ei2, ek1, show (2 : Int32) = nI 2 from rfl, pk_mul, nI_1]
  refine ht_lald hx hb HW h11 (by rw [hi2]; exact vp_in_nI (by omega) (by omega)) d_M_wordPair_20 ?_
  refine lv_topl (fun v2 ev2 => ?_)
  have ev2 : v2 = (Lf 11) (2 * i + 1) := by rw [ev2, hi2, nI_clamp (by omega)]
  have ev2 : v2 = ht_em (ws (2 * i + 1)) := by rw [ev2, hws _ (by omega)]
  refine lv_lor hx hb d_M_wordPair_21 ?_
  exact ht_lret hx hb hr hlocks HW ⟨by rw [ev1, ev2]; exact ht_nu_em _ _, rfl⟩ d_M_wordPair_22
set_option maxHeartbeats 4000000 in
set_option maxRecDepth 100000 in
theorem c_M_block (l : Launch) (g : ht_G) (w : ht_W) {M : Nat → Nat} {n : Nat → Int32} {Lf : ht_LF} {If : ht_IF} (hM : ht_Mo g w M n Lf If) (fr : Nat) (hfr : fr + 64 ≤ 4096) (k1 : Int32) (ek1 : k1 = nI fr) {ws : Nat → Int32} (hws : ∀ j, j < 8 → Lf 11 j = ht_em (ws j)) : Met l y_M_block ws_M_block ({ frames := 1, cells := 0, slots := 0, locals := 40 } : Room) (va_Pc [.ref (M 0), .int k1] (ht_WS g w)) (ht_Qv g (fun u => ∃ Lf2 : ht_LF, ht_Mo g u M n Lf2 If ∧ ht_fm M w u ∧ ht_same [11, 17] Lf Lf2 ∧ ∀ j, j < 8 → Lf2 11 j = ht_em (ht_bl ws (fun t => ht_c4 (If 10) (fr + 4 * t)) j))) 0 0 (ht_A g) := by
  refine Met.ofW (cc := b_M_block) (maxL := 23) (ret := none) (by decide) rfl ?_
  intro p e s m args below meth c s₁ BB hml hv
  obtain ⟨rfl, HW⟩ := hv
  have HW := ht_I.start HW
  have hx := BB.exec
  have hb := BB.bytes
  have hr := BB.returns
  have hts := atoms_spec (ws := ws_M_block) BB.pre
  have htb : ∀ w ∈ bg, w.before _ s = true := fun w h => hts w (List.mem_cons_of_mem _ h)
  have hown : s.vm.findClass R_M = some m.cls := findClass_of_methodNamed BB.named
  have hlocks := BB.notSynchronized
  have hl := lv_entry ([.ref (M 0), .int k1]) (n := 23) (Nat.le_of_ble_eq_true rfl)
  rw [lg_entry_eq]
  generalize (lg_sl ([.ref (M 0), .int k1]) ++ List.replicate (23 - (lg_sl ([.ref (M 0), .int k1])).length) Slot.unset).toArray = ls at hl ⊢
  have hl : lv_has ls 23 [(0, .ref (M 0)), (1, .int k1)] := hl
  have loop3 : ∀ (u : ht_W) (Lu : ht_LF), ht_Mo g u M n Lu If → ht_fm M w u → ht_same [11, 17] Lf Lu → Lu 11 = Lf 11 → (∀ j, j < 64 → Lu 17 j = ht_em (ht_sp 48 (fun t => ht_c4 (If 10) (fr + 4 * t)) j)) → ∀ (r k : Nat), k + r = 64 → ∀ (a1 a2 a3 a4 a5 a6 a7 a8 : Int64), ht_eo a1 a2 a3 a4 a5 a6 a7 a8 (ht_rn (ht_sp 48 (fun t => ht_c4 (If 10) (fr + 4 * t))) (ht_o8 ws) k) → ∀ (H : Heap) (locs : List Loc) (ls : Array Slot) (t : Int32), t = nI k → ht_I g s u H locs → lv_has ls 23 [(0, .ref (M 0)), (2, .long a1), (4, .long a2), (6, .long a3), (8, .long a4), (10, .long a5), (12, .long a6), (14, .long a7), (16, .long a8), (18, .int t)] → W p l e (headSpec ws_M_block ({ frames := 1, cells := 0, slots := 0, locals := 40 } : Room)).room s m ([.ref (M 0), .int k1] : List Value).toArray below meth c H locs 0 0 (MQ below (ht_Qv g (fun u => ∃ Lf2 : ht_LF, ht_Mo g u M n Lf2 If ∧ ht_fm M w u ∧ ht_same [11, 17] Lf Lf2 ∧ ∀ j, j < 8 → Lf2 11 j = ht_em (ht_bl ws (fun t => ht_c4 (If 10) (fr + 4 * t)) j))) ([.ref (M 0), .int k1] : List Value).toArray s 0 0 (ht_A g)) (F0 m 243 ls []) := by
    intro u Lu hMu hfm hsm hw11 hsc r
    induction r with
    | zero =>
      intro k hk a1 a2 a3 a4 a5 a6 a7 a8 ha H locs ls t et HW hl
      have hO : ht_at u (M 0) (.inr (4, [.ref (M 1), .ref (M 2), .int (n 0), .ref (M 3), .ref (M 4), .ref (M 5), .ref (M 6), .int (n 1), .ref (M 7), .int (n 2), .ref (M 8), .int (n 3), .int (n 4), .ref (M 9), .ref (M 10), .ref (M 11), .ref (M 12), .ref (M 13), .ref (M 14), .ref (M 15), .ref (M 16), .ref (M 17)]) : va_E) := hMu.1
      have h11 : ht_at u (M 11) (ht_al g 8 (Lu 11)) := hMu.L 11 (by decide) rfl
      have h17 : ht_at u (M 17) (ht_al g 64 (Lu 17)) := hMu.L 17 (by decide) rfl
      refine lv_iload hx hb d_M_block_243 (lv_at hl 9 rfl) ?_
      refine lv_bipush (v := 64) hx hb d_M_block_245 (by decide) ?_
      refine lv_icmp_ge (tgt := 396) hx hb d_M_block_247 (by decide) (fun c247 => ?_) (fun c247 => ?_)
      · refine lv_aload_n hx hb d_M_block_396 rfl (lv_at hl 0 rfl) ?_
        refine ht_get (C := R_M) (T := F_M) (N := 22) (v := .ref (M 11)) hx hb htb i_M hown HW hO rfl 15 (by decide) (htb _ wd_326) (fun _ h9 => h9) rfl d_M_block_397 ?_
        refine lv_iconst (v := 0) hx hb d_M_block_400 (by decide) ?_
        refine lv_aload_n hx hb d_M_block_401 rfl (lv_at hl 0 rfl) ?_
        refine ht_get (C := R_M) (T := F_M) (N := 22) (v := .ref (M 11)) hx hb htb i_M hown HW hO rfl 15 (by decide) (htb _ wd_326) (fun _ h9 => h9) rfl d_M_block_402 ?_
        refine lv_iconst (v := 0) hx hb d_M_block_405 (by decide) ?_
        refine ht_lald hx hb HW h11 (by unfold vp_in; decide) d_M_block_406 ?_
        refine lv_topl (fun r0 er0 => ?_)
        have er0 : r0 = Lu 11 0 := er0
        refine lv_lload_n hx hb d_M_block_407 rfl (lv_at hl 1 rfl) ?_
        refine lv_ladd hx hb d_M_block_408 ?_
        refine lv_ldc2 (v := 4294967295) hx hb hown (htb _ wd_465) d_M_block_409 ?_
        refine lv_land hx hb d_M_block_412 ?_
        refine lv_topl (fun v0 ev0 => ?_)
        refine ht_last hx hb HW h11 (by unfold vp_in; decide) d_M_block_413 (fun H locs HW => ?_)
        have n_M_0_M_11 : (M 0) ≠ (M 11) := (hMu.ne 0 11 (by decide) (by decide) (by decide))
        have n_M_17_M_11 : (M 17) ≠ (M 11) := (hMu.ne 17 11 (by decide) (by decide) (by decide))
        obtain ⟨u1, hu1⟩ : ∃ zW : ht_W, zW = ht_up u (M 11) (ht_al g 8 (vp_updL (Lu 11) 0 v0)) := ⟨_, rfl⟩
        have HW : ht_I g s u1 H locs := by rw [hu1]; exact HW
        have hO : ht_at u1 (M 0) (.inr (4, [.ref (M 1), .ref (M 2), .int (n 0), .ref (M 3), .ref (M 4), .ref (M 5), .ref (M 6), .int (n 1), .ref (M 7), .int (n 2), .ref (M 8), .int (n 3), .int (n 4), .ref (M 9), .ref (M 10), .ref (M 11), .ref (M 12), .ref (M 13), .ref (M 14), .ref (M 15), .ref (M 16), .ref (M 17)]) : va_E) := by rw [hu1]; exact ht_at_ne hO n_M_0_M_11
        have h11 : ht_at u1 (M 11) (ht_al g 8 (vp_updL (Lu 11) 0 v0)) := by rw [hu1]; exact ht_at_self h11
        have h17 : ht_at u1 (M 17) (ht_al g 64 (Lu 17)) := by rw [hu1]; exact ht_at_ne h17 n_M_17_M_11
        refine lv_aload_n hx hb d_M_block_414 rfl (lv_at hl 0 rfl) ?_
        refine ht_get (C := R_M) (T := F_M) (N := 22) (v := .ref (M 11)) hx hb htb i_M hown HW hO rfl 15 (by decide) (htb _ wd_326) (fun _ h9 => h9) rfl d_M_block_415 ?_
        refine lv_iconst (v := 1) hx hb d_M_block_418 (by decide) ?_
        refine lv_aload_n hx hb d_M_block_419 rfl (lv_at hl 0 rfl) ?_
        refine ht_get (C := R_M) (T := F_M) (N := 22) (v := .ref (M 11)) hx hb htb i_M hown HW hO rfl 15 (by decide) (htb _ wd_326) (fun _ h9 => h9) rfl d_M_block_420 ?_
        refine lv_iconst (v := 1) hx hb d_M_block_423 (by decide) ?_
        refine ht_lald hx hb HW h11 (by unfold vp_in; decide) d_M_block_424 ?_
        refine lv_topl (fun r1 er1 => ?_)
        have er1 : r1 = Lu 11 1 := er1
        refine lv_lload hx hb d_M_block_425 (lv_at hl 2 rfl) ?_
        refine lv_ladd hx hb d_M_block_427 ?_
        refine lv_ldc2 (v := 4294967295) hx hb hown (htb _ wd_465) d_M_block_428 ?_
        refine lv_land hx hb d_M_block_431 ?_
        refine lv_topl (fun v1 ev1 => ?_)
        refine ht_last hx hb HW h11 (by unfold vp_in; decide) d_M_block_432 (fun H locs HW => ?_)
        obtain ⟨u2, hu2⟩ : ∃ zW : ht_W, zW = ht_up u1 (M 11) (ht_al g 8 (vp_updL (vp_updL (Lu 11) 0 v0) 1 v1)) := ⟨_, rfl⟩
        have HW : ht_I g s u2 H locs := by rw [hu2]; exact HW
        have hO : ht_at u2 (M 0) (.inr (4, [.ref (M 1), .ref (M 2), .int (n 0), .ref (M 3), .ref (M 4), .ref (M 5), .ref (M 6), .int (n 1), .ref (M 7), .int (n 2), .ref (M 8), .int (n 3), .int (n 4), .ref (M 9), .ref (M 10), .ref (M 11), .ref (M 12), .ref (M 13), .ref (M 14), .ref (M 15), .ref (M 16), .ref (M 17)]) : va_E) := by rw [hu2]; exact ht_at_ne hO n_M_0_M_11
        have h11 : ht_at u2 (M 11) (ht_al g 8 (vp_updL (vp_updL (Lu 11) 0 v0) 1 v1)) := by rw [hu2]; exact ht_at_self h11
        have h17 : ht_at u2 (M 17) (ht_al g 64 (Lu 17)) := by rw [hu2]; exact ht_at_ne h17 n_M_17_M_11
        refine lv_aload_n hx hb d_M_block_433 rfl (lv_at hl 0 rfl) ?_
        refine ht_get (C := R_M) (T := F_M) (N := 22) (v := .ref (M 11)) hx hb htb i_M hown HW hO rfl 15 (by decide) (htb _ wd_326) (fun _ h9 => h9) rfl d_M_block_434 ?_
        refine lv_iconst (v := 2) hx hb d_M_block_437 (by decide) ?_
        refine lv_aload_n hx hb d_M_block_438 rfl (lv_at hl 0 rfl) ?_
        refine ht_get (C := R_M) (T := F_M) (N := 22) (v := .ref (M 11)) hx hb htb i_M hown HW hO rfl 15 (by decide) (htb _ wd_326) (fun _ h9 => h9) rfl d_M_block_439 ?_
        refine lv_iconst (v := 2) hx hb d_M_block_442 (by decide) ?_
        refine ht_lald hx hb HW h11 (by unfold vp_in; decide) d_M_block_443 ?_
        refine lv_topl (fun r2 er2 => ?_)
        have er2 : r2 = Lu 11 2 := er2
        refine lv_lload hx hb d_M_block_444 (lv_at hl 3 rfl) ?_
        refine lv_ladd hx hb d_M_block_446 ?_
        refine lv_ldc2 (v := 4294967295) hx hb hown (htb _ wd_465) d_M_block_447 ?_
        refine lv_land hx hb d_M_block_450 ?_
        refine lv_topl (fun v2 ev2 => ?_)
        refine ht_last hx hb HW h11 (by unfold vp_in; decide) d_M_block_451 (fun H locs HW => ?_)
        obtain ⟨u3, hu3⟩ : ∃ zW : ht_W, zW = ht_up u2 (M 11) (ht_al g 8 (vp_updL (vp_updL (vp_updL (Lu 11) 0 v0) 1 v1) 2 v2)) := ⟨_, rfl⟩
        have HW : ht_I g s u3 H locs := by rw [hu3]; exact HW
        have hO : ht_at u3 (M 0) (.inr (4, [.ref (M 1), .ref (M 2), .int (n 0), .ref (M 3), .ref (M 4), .ref (M 5), .ref (M 6), .int (n 1), .ref (M 7), .int (n 2), .ref (M 8), .int (n 3), .int (n 4), .ref (M 9), .ref (M 10), .ref (M 11), .ref (M 12), .ref (M 13), .ref (M 14), .ref (M 15), .ref (M 16), .ref (M 17)]) : va_E) := by rw [hu3]; exact ht_at_ne hO n_M_0_M_11
        have h11 : ht_at u3 (M 11) (ht_al g 8 (vp_updL (vp_updL (vp_updL (Lu 11) 0 v0) 1 v1) 2 v2)) := by rw [hu3]; exact ht_at_self h11
        have h17 : ht_at u3 (M 17) (ht_al g 64 (Lu 17)) := by rw [hu3]; exact ht_at_ne h17 n_M_17_M_11
        refine lv_aload_n hx hb d_M_block_452 rfl (lv_at hl 0 rfl) ?_
        refine ht_get (C := R_M) (T := F_M) (N := 22) (v := .ref (M 11)) hx hb htb i_M hown HW hO rfl 15 (by decide) (htb _ wd_326) (fun _ h9 => h9) rfl d_M_block_453 ?_
        refine lv_iconst (v := 3) hx hb d_M_block_456 (by decide) ?_
        refine lv_aload_n hx hb d_M_block_457 rfl (lv_at hl 0 rfl) ?_
        refine ht_get (C := R_M) (T := F_M) (N := 22) (v := .ref (M 11)) hx hb htb i_M hown HW hO rfl 15 (by decide) (htb _ wd_326) (fun _ h9 => h9) rfl d_M_block_458 ?_
        refine lv_iconst (v := 3) hx hb d_M_block_461 (by decide) ?_
        refine ht_lald hx hb HW h11 (by unfold vp_in; decide) d_M_block_462 ?_
        refine lv_topl (fun r3 er3 => ?_)
        have er3 : r3 = Lu 11 3 := er3
        refine lv_lload hx hb d_M_block_463 (lv_at hl 4 rfl) ?_
        refine lv_ladd hx hb d_M_block_465 ?_
        refine lv_ldc2 (v := 4294967295) hx hb hown (htb _ wd_465) d_M_block_466 ?_
        refine lv_land hx hb d_M_block_469 ?_
        refine lv_topl (fun v3 ev3 => ?_)
        refine ht_last hx hb HW h11 (by unfold vp_in; decide) d_M_block_470 (fun H locs HW => ?_)
        obtain ⟨u4, hu4⟩ : ∃ zW : ht_W, zW = ht_up u3 (M 11) (ht_al g 8 (vp_updL (vp_updL (vp_updL (vp_updL (Lu 11) 0 v0) 1 v1) 2 v2) 3 v3)) := ⟨_, rfl⟩
        have HW : ht_I g s u4 H locs := by rw [hu4]; exact HW
        have hO : ht_at u4 (M 0) (.inr (4, [.ref (M 1), .ref (M 2), .int (n 0), .ref (M 3), .ref (M 4), .ref (M 5), .ref (M 6), .int (n 1), .ref (M 7), .int (n 2), .ref (M 8), .int (n 3), .int (n 4), .ref (M 9), .ref (M 10), .ref (M 11), .ref (M 12), .ref (M 13), .ref (M 14), .ref (M 15), .ref (M 16), .ref (M 17)]) : va_E) := by rw [hu4]; exact ht_at_ne hO n_M_0_M_11
        have h11 : ht_at u4 (M 11) (ht_al g 8 (vp_updL (vp_updL (vp_updL (vp_updL (Lu 11) 0 v0) 1 v1) 2 v2) 3 v3)) := by rw [hu4]; exact ht_at_self h11
        have h17 : ht_at u4 (M 17) (ht_al g 64 (Lu 17)) := by rw [hu4]; exact ht_at_ne h17 n_M_17_M_11
        refine lv_aload_n hx hb d_M_block_471 rfl (lv_at hl 0 rfl) ?_
        refine ht_get (C := R_M) (T := F_M) (N := 22) (v := .ref (M 11)) hx hb htb i_M hown HW hO rfl 15 (by decide) (htb _ wd_326) (fun _ h9 => h9) rfl d_M_block_472 ?_
        refine lv_iconst (v := 4) hx hb d_M_block_475 (by decide) ?_
        refine lv_aload_n hx hb d_M_block_476 rfl (lv_at hl 0 rfl) ?_
        refine ht_get (C := R_M) (T := F_M) (N := 22) (v := .ref (M 11)) hx hb htb i_M hown HW hO rfl 15 (by decide) (htb _ wd_326) (fun _ h9 => h9) rfl d_M_block_477 ?_
        refine lv_iconst (v := 4) hx hb d_M_block_480 (by decide) ?_
        refine ht_lald hx hb HW h11 (by unfold vp_in; decide) d_M_block_481 ?_
        refine lv_topl (fun r4 er4 => ?_)
        have er4 : r4 = Lu 11 4 := er4
        refine lv_lload hx hb d_M_block_482 (lv_at hl 5 rfl) ?_
        refine lv_ladd hx hb d_M_block_484 ?_
        refine lv_ldc2 (v := 4294967295) hx hb hown (htb _ wd_465) d_M_block_485 ?_
        refine lv_land hx hb d_M_block_488 ?_
        refine lv_topl (fun v4 ev4 => ?_)
        refine ht_last hx hb HW h11 (by unfold vp_in; decide) d_M_block_489 (fun H locs HW => ?_)
        obtain ⟨u5, hu5⟩ : ∃ zW : ht_W, zW = ht_up u4 (M 11) (ht_al g 8 (vp_updL (vp_updL (vp_updL (vp_updL (vp_updL (Lu 11) 0 v0) 1 v1) 2 v2) 3 v3) 4 v4)) := ⟨_, rfl⟩
        have HW : ht_I g s u5 H locs := by rw [hu5]; exact HW
        have hO : ht_at u5 (M 0) (.inr (4, [.ref (M 1), .ref (M 2), .int (n 0), .ref (M 3), .ref (M 4), .ref (M 5), .ref (M 6), .int (n 1), .ref (M 7), .int (n 2), .ref (M 8), .int (n 3), .int (n 4), .ref (M 9), .ref (M 10), .ref (M 11), .ref (M 12), .ref (M 13), .ref (M 14), .ref (M 15), .ref (M 16), .ref (M 17)]) : va_E) := by rw [hu5]; exact ht_at_ne hO n_M_0_M_11
        have h11 : ht_at u5 (M 11) (ht_al g 8 (vp_updL (vp_updL (vp_updL (vp_updL (vp_updL (Lu 11) 0 v0) 1 v1) 2 v2) 3 v3) 4 v4)) := by rw [hu5]; exact ht_at_self h11
        have h17 : ht_at u5 (M 17) (ht_al g 64 (Lu 17)) := by rw [hu5]; exact ht_at_ne h17 n_M_17_M_11
        refine lv_aload_n hx hb d_M_block_490 rfl (lv_at hl 0 rfl) ?_
        refine ht_get (C := R_M) (T := F_M) (N := 22) (v := .ref (M 11)) hx hb htb i_M hown HW hO rfl 15 (by decide) (htb _ wd_326) (fun _ h9 => h9) rfl d_M_block_491 ?_
        refine lv_iconst (v := 5) hx hb d_M_block_494 (by decide) ?_
        refine lv_aload_n hx hb d_M_block_495 rfl (lv_at hl 0 rfl) ?_
        refine ht_get (C := R_M) (T := F_M) (N := 22) (v := .ref (M 11)) hx hb htb i_M hown HW hO rfl 15 (by decide) (htb _ wd_326) (fun _ h9 => h9) rfl d_M_block_496 ?_
        refine lv_iconst (v := 5) hx hb d_M_block_499 (by decide) ?_
        refine ht_lald hx hb HW h11 (by unfold vp_in; decide) d_M_block_500 ?_
        refine lv_topl (fun r5 er5 => ?_)
        have er5 : r5 = Lu 11 5 := er5
        refine lv_lload hx hb d_M_block_501 (lv_at hl 6 rfl) ?_
        refine lv_ladd hx hb d_M_block_503 ?_
        refine lv_ldc2 (v := 4294967295) hx hb hown (htb _ wd_465) d_M_block_504 ?_
        refine lv_land hx hb d_M_block_507 ?_
        refine lv_topl (fun v5 ev5 => ?_)
        refine ht_last hx hb HW h11 (by unfold vp_in; decide) d_M_block_508 (fun H locs HW => ?_)
        obtain ⟨u6, hu6⟩ : ∃ zW : ht_W, zW = ht_up u5 (M 11) (ht_al g 8 (vp_updL (vp_updL (vp_updL (vp_updL (vp_updL (vp_updL (Lu 11) 0 v0) 1 v1) 2 v2) 3 v3) 4 v4) 5 v5)) := ⟨_, rfl⟩
        have HW : ht_I g s u6 H locs := by rw [hu6]; exact HW
        have hO : ht_at u6 (M 0) (.inr (4, [.ref (M 1), .ref (M 2), .int (n 0), .ref (M 3), .ref (M 4), .ref (M 5), .ref (M 6), .int (n 1), .ref (M 7), .int (n 2), .ref (M 8), .int (n 3), .int (n 4), .ref (M 9), .ref (M 10), .ref (M 11), .ref (M 12), .ref (M 13), .ref (M 14), .ref (M 15), .ref (M 16), .ref (M 17)]) : va_E) := by rw [hu6]; exact ht_at_ne hO n_M_0_M_11
        have h11 : ht_at u6 (M 11) (ht_al g 8 (vp_updL (vp_updL (vp_updL (vp_updL (vp_updL (vp_updL (Lu 11) 0 v0) 1 v1) 2 v2) 3 v3) 4 v4) 5 v5)) := by rw [hu6]; exact ht_at_self h11
        have h17 : ht_at u6 (M 17) (ht_al g 64 (Lu 17)) := by rw [hu6]; exact ht_at_ne h17 n_M_17_M_11
        refine lv_aload_n hx hb d_M_block_509 rfl (lv_at hl 0 rfl) ?_
        refine ht_get (C := R_M) (T := F_M) (N := 22) (v := .ref (M 11)) hx hb htb i_M hown HW hO rfl 15 (by decide) (htb _ wd_326) (fun _ h9 => h9) rfl d_M_block_510 ?_
        refine lv_bipush (v := 6) hx hb d_M_block_513 (by decide) ?_
        refine lv_aload_n hx hb d_M_block_515 rfl (lv_at hl 0 rfl) ?_
        refine ht_get (C := R_M) (T := F_M) (N := 22) (v := .ref (M 11)) hx hb htb i_M hown HW hO rfl 15 (by decide) (htb _ wd_326) (fun _ h9 => h9) rfl d_M_block_516 ?_
        refine lv_bipush (v := 6) hx hb d_M_block_519 (by decide) ?_
        refine ht_lald hx hb HW h11 (by unfold vp_in; decide) d_M_block_521 ?_
        refine lv_topl (fun r6 er6 => ?_)
        have er6 : r6 = Lu 11 6 := er6
        refine lv_lload hx hb d_M_block_522 (lv_at hl 7 rfl) ?_
        refine lv_ladd hx hb d_M_block_524 ?_
        refine lv_ldc2 (v := 4294967295) hx hb hown (htb _ wd_465) d_M_block_525 ?_
        refine lv_land hx hb d_M_block_528 ?_
        refine lv_topl (fun v6 ev6 => ?_)
        refine ht_last hx hb HW h11 (by unfold vp_in; decide) d_M_block_529 (fun H locs HW => ?_)
        obtain ⟨u7, hu7⟩ : ∃ zW : ht_W, zW = ht_up u6 (M 11) (ht_al g 8 (vp_updL (vp_updL (vp_updL (vp_updL (vp_updL (vp_updL (vp_updL (Lu 11) 0 v0) 1 v1) 2 v2) 3 v3) 4 v4) 5 v5) 6 v6)) := ⟨_, rfl⟩
        have HW : ht_I g s u7 H locs := by rw [hu7]; exact HW
        have hO : ht_at u7 (M 0) (.inr (4, [.ref (M 1), .ref (M 2), .int (n 0), .ref (M 3), .ref (M 4), .ref (M 5), .ref (M 6), .int (n 1), .ref (M 7), .int (n 2), .ref (M 8), .int (n 3), .int (n 4), .ref (M 9), .ref (M 10), .ref (M 11), .ref (M 12), .ref (M 13), .ref (M 14), .ref (M 15), .ref (M 16), .ref (M 17)]) : va_E) := by rw [hu7]; exact ht_at_ne hO n_M_0_M_11
        have h11 : ht_at u7 (M 11) (ht_al g 8 (vp_updL (vp_updL (vp_updL (vp_updL (vp_updL (vp_updL (vp_updL (Lu 11) 0 v0) 1 v1) 2 v2) 3 v3) 4 v4) 5 v5) 6 v6)) := by rw [hu7]; exact ht_at_self h11
        have h17 : ht_at u7 (M 17) (ht_al g 64 (Lu 17)) := by rw [hu7]; exact ht_at_ne h17 n_M_17_M_11
        refine lv_aload_n hx hb d_M_block_530 rfl (lv_at hl 0 rfl) ?_
        refine ht_get (C := R_M) (T := F_M) (N := 22) (v := .ref (M 11)) hx hb htb i_M hown HW hO rfl 15 (by decide) (htb _ wd_326) (fun _ h9 => h9) rfl d_M_block_531 ?_
        refine lv_bipush (v := 7) hx hb d_M_block_534 (by decide) ?_
        refine lv_aload_n hx hb d_M_block_536 rfl (lv_at hl 0 rfl) ?_
        refine ht_get (C := R_M) (T := F_M) (N := 22) (v := .ref (M 11)) hx hb htb i_M hown HW hO rfl 15 (by decide) (htb _ wd_326) (fun _ h9 => h9) rfl d_M_block_537 ?_
        refine lv_bipush (v := 7) hx hb d_M_block_540 (by decide) ?_
        refine ht_lald hx hb HW h11 (by unfold vp_in; decide) d_M_block_542 ?_
        refine lv_topl (fun r7 er7 => ?_)
        have er7 : r7 = Lu 11 7 := er7
        refine lv_lload hx hb d_M_block_543 (lv_at hl 8 rfl) ?_
        refine lv_ladd hx hb d_M_block_545 ?_
        refine lv_ldc2 (v := 4294967295) hx hb hown (htb _ wd_465) d_M_block_546 ?_
        refine lv_land hx hb d_M_block_549 ?_
        refine lv_topl (fun v7 ev7 => ?_)
        refine ht_last hx hb HW h11 (by unfold vp_in; decide) d_M_block_550 (fun H locs HW => ?_)
        obtain ⟨u8, hu8⟩ : ∃ zW : ht_W, zW = ht_up u7 (M 11) (ht_al g 8 (vp_updL (vp_updL (vp_updL (vp_updL (vp_updL (vp_updL (vp_updL (vp_updL (Lu 11) 0 v0) 1 v1) 2 v2) 3 v3) 4 v4) 5 v5) 6 v6) 7 v7)) := ⟨_, rfl⟩
        have HW : ht_I g s u8 H locs := by rw [hu8]; exact HW
        have hO : ht_at u8 (M 0) (.inr (4, [.ref (M 1), .ref (M 2), .int (n 0), .ref (M 3), .ref (M 4), .ref (M 5), .ref (M 6), .int (n 1), .ref (M 7), .int (n 2), .ref (M 8), .int (n 3), .int (n 4), .ref (M 9), .ref (M 10), .ref (M 11), .ref (M 12), .ref (M 13), .ref (M 14), .ref (M 15), .ref (M 16), .ref (M 17)]) : va_E) := by rw [hu8]; exact ht_at_ne hO n_M_0_M_11
        have h11 : ht_at u8 (M 11) (ht_al g 8 (vp_updL (vp_updL (vp_updL (vp_updL (vp_updL (vp_updL (vp_updL (vp_updL (Lu 11) 0 v0) 1 v1) 2 v2) 3 v3) 4 v4) 5 v5) 6 v6) 7 v7)) := by rw [hu8]; exact ht_at_self h11
        have h17 : ht_at u8 (M 17) (ht_al g 64 (Lu 17)) := by rw [hu8]; exact ht_at_ne h17 n_M_17_M_11
        have hk64 : k = 64 := by omega
        exact ht_vret hx hb hr hlocks HW ⟨va_up Lu 11 (vp_updL (vp_updL (vp_updL (vp_updL (vp_updL (vp_updL (vp_updL (vp_updL (Lu 11) 0 v0) 1 v1) 2 v2) 3 v3) 4 v4) 5 v5) 6 v6) 7 v7), by rw [hu8, hu7, hu6, hu5, hu4, hu3, hu2, hu1]; simp only [ht_up_up]; exact hMu.upL 11 (by decide) rfl _, by rw [hu8, hu7, hu6, hu5, hu4, hu3, hu2, hu1]; simp only [ht_up_up]; exact hfm.up 11 (by decide), hsm.up (by decide), fun j hj => by
            rw [va_up_self, show ht_bl ws (fun t => ht_c4 (If 10) (fr + 4 * t)) = ht_ad ws (ht_rn (ht_sp 48 (fun t => ht_c4 (If 10) (fr + 4 * t))) (ht_o8 ws) 64) from rfl, ← hk64]
            exact ht_vl8 (ws := ws) (fun j hj => by rw [hw11]; exact hws j hj) ha (by rw [ev0, er0]) (by rw [ev1, er1]) (by rw [ev2, er2]) (by rw [ev3, er3]) (by rw [ev4, er4]) (by rw [ev5, er5]) (by rw [ev6, er6]) (by rw [ev7, er7]) j hj⟩ d_M_block_551
      · exact absurd (nI_le (show 64 ≤ k by omega) (by omega)) (by rw [et] at c247; exact c247)
    | succ r ih =>
      intro k hk a1 a2 a3 a4 a5 a6 a7 a8 ha H locs ls t et HW hl
      have hO : ht_at u (M 0) (.inr (4, [.ref (M 1), .ref (M 2), .int (n 0), .ref (M 3), .ref (M 4), .ref (M 5), .ref (M 6), .int (n 1), .ref (M 7), .int (n 2), .ref (M 8), .int (n 3), .int (n 4), .ref (M 9), .ref (M 10), .ref (M 11), .ref (M 12), .ref (M 13), .ref (M 14), .ref (M 15), .ref (M 16), .ref (M 17)]) : va_E) := hMu.1
      have h11 : ht_at u (M 11) (ht_al g 8 (Lu 11)) := hMu.L 11 (by decide) rfl
      have h17 : ht_at u (M 17) (ht_al g 64 (Lu 17)) := hMu.L 17 (by decide) rfl
      refine lv_iload hx hb d_M_block_243 (lv_at hl 9 rfl) ?_
      refine lv_bipush (v := 64) hx hb d_M_block_245 (by decide) ?_
      refine lv_icmp_ge (tgt := 396) hx hb d_M_block_247 (by decide) (fun c247 => ?_) (fun c247 => ?_)
      · exact absurd (show nI 64 ≤ nI k by rw [et] at c247; exact c247) (nI_ge (by omega) (by omega))
      · refine lv_lload hx hb d_M_block_250 (lv_at hl 8 rfl) ?_
        refine lv_lload hx hb d_M_block_252 (lv_at hl 5 rfl) ?_
        refine lv_bipush (v := 6) hx hb d_M_block_254 (by decide) ?_
        refine ht_cl HW (va_runS (own := R_M) (As := [.long a5, .int 6]) (rest := [.long a8]) ⟨hx, hb, hml, hown, htb⟩ (c_M_turned l g u a5 6) (va_cwS 2 htb (ht_gs wd_462 wd_463 wd_3 g_M_turned) rfl rfl rfl (by decide +kernel) ⟨Nat.le_of_ble_eq_true rfl, Nat.le_of_ble_eq_true rfl⟩) (HW.preS _) rfl rfl hl.1 rfl (lv_room (Nat.le_of_ble_eq_true rfl)) d_M_block_256 ⟨Nat.le_of_ble_eq_true rfl, Nat.le_of_ble_eq_true rfl⟩) (fun q2 u1 H locs pu1 HW => ?_)
        obtain ⟨eq2, eu1⟩ := pu1
        subst eu1
        refine lv_lload hx hb d_M_block_259 (lv_at hl 5 rfl) ?_
        refine lv_bipush (v := 11) hx hb d_M_block_261 (by decide) ?_
        refine ht_cl HW (va_runS (own := R_M) (As := [.long a5, .int 11]) (rest := [.long q2, .long a8]) ⟨hx, hb, hml, hown, htb⟩ (c_M_turned l g u a5 11) (va_cwS 2 htb (ht_gs wd_462 wd_463 wd_3 g_M_turned) rfl rfl rfl (by decide +kernel) ⟨Nat.le_of_ble_eq_true rfl, Nat.le_of_ble_eq_true rfl⟩) (HW.preS _) rfl rfl hl.1 rfl (lv_room (Nat.le_of_ble_eq_true rfl)) d_M_block_263 ⟨Nat.le_of_ble_eq_true rfl, Nat.le_of_ble_eq_true rfl⟩) (fun q4 u3 H locs pu3 HW => ?_)
        obtain ⟨eq4, eu3⟩ := pu3
        subst eu3
        refine lv_lxor hx hb d_M_block_266 ?_
        refine lv_lload hx hb d_M_block_267 (lv_at hl 5 rfl) ?_
        refine lv_bipush (v := 25) hx hb d_M_block_269 (by decide) ?_
        refine ht_cl HW (va_runS (own := R_M) (As := [.long a5, .int 25]) (rest := [.long (q2 ^^^ q4), .long a8]) ⟨hx, hb, hml, hown, htb⟩ (c_M_turned l g u a5 25) (va_cwS 2 htb (ht_gs wd_462 wd_463 wd_3 g_M_turned) rfl rfl rfl (by decide +kernel) ⟨Nat.le_of_ble_eq_true rfl, Nat.le_of_ble_eq_true rfl⟩) (HW.preS _) rfl rfl hl.1 rfl (lv_room (Nat.le_of_ble_eq_true rfl)) d_M_block_271 ⟨Nat.le_of_ble_eq_true rfl, Nat.le_of_ble_eq_true rfl⟩) (fun q6 u5 H locs pu5 HW => ?_)
        obtain ⟨eq6, eu5⟩ := pu5
        subst eu5
        refine lv_lxor hx hb d_M_block_274 ?_
        refine lv_ladd hx hb d_M_block_275 ?_
        refine lv_lload hx hb d_M_block_276 (lv_at hl 5 rfl) ?_
        refine lv_lload hx hb d_M_block_278 (lv_at hl 6 rfl) ?_
        refine lv_land hx hb d_M_block_280 ?_
        refine lv_ldc2 (v := 4294967295) hx hb hown (htb _ wd_465) d_M_block_281 ?_
        refine lv_lload hx hb d_M_block_284 (lv_at hl 5 rfl) ?_
        refine lv_lsub hx hb d_M_block_286 ?_
        refine lv_lload hx hb d_M_block_287 (lv_at hl 7 rfl) ?_
        refine lv_land hx hb d_M_block_289 ?_
        refine lv_lxor hx hb d_M_block_290 ?_
        refine lv_ladd hx hb d_M_block_291 ?_
        refine ht_gets hx hb HW.2.2.1.2.2.2.1 HW hown (htb _ wd_466) (fun _ h9 => h9) d_M_block_292 ?_
        refine lv_iload hx hb d_M_block_295 (lv_at hl 9 rfl) ?_
        refine va_tl (v := .long (ht_kl t.toNatClampNeg)) hx hb HW.2.2.1.2.2.2.1.2 HW.2.2.2.2.2 (by rw [et]; exact vp_in_nI (by omega) (by omega)) rfl d_M_block_297 ?_
        refine lv_topl (fun kc ekc => ?_)
        have ekc : kc = ht_kl k := by rw [ekc, et, nI_clamp (by omega)]
        have ekc : kc = ht_em (ht_k64.getD k 0) := by rw [ekc]; exact ht_k_em k (by omega)
        refine lv_ladd hx hb d_M_block_298 ?_
        refine lv_aload_n hx hb d_M_block_299 rfl (lv_at hl 0 rfl) ?_
        refine ht_get (C := R_M) (T := F_M) (N := 22) (v := .ref (M 17)) hx hb htb i_M hown HW hO rfl 21 (by decide) (htb _ wd_332) (fun _ h9 => h9) rfl d_M_block_300 ?_
        refine lv_iload hx hb d_M_block_303 (lv_at hl 9 rfl) ?_
        refine ht_lald hx hb HW h17 (by rw [et]; exact vp_in_nI (by omega) (by omega)) d_M_block_305 ?_
        refine lv_topl (fun wc ewc => ?_)
        have ewc : wc = (Lu 17) k := by rw [ewc, et, nI_clamp (by omega)]
        have ewc : wc = ht_em (ht_sp 48 (fun t => ht_c4 (If 10) (fr + 4 * t)) k) := by rw [ewc]; exact hsc k (by omega)
        refine lv_ladd hx hb d_M_block_306 ?_
        refine lv_topl (fun xx exx => ?_)
        refine lv_lstore (lv' := [(19, .long xx), (0, .ref (M 0)), (2, .long a1), (4, .long a2), (6, .long a3), (8, .long a4), (10, .long a5), (12, .long a6), (14, .long a7), (16, .long a8), (18, .int t)]) hx hb d_M_block_307 hl (by decide) rfl (fun ls hl => ?_)
        refine lv_lload_n hx hb d_M_block_309 rfl (lv_at hl 2 rfl) ?_
        refine lv_iconst (v := 2) hx hb d_M_block_310 (by decide) ?_
        refine ht_cl HW (va_runS (own := R_M) (As := [.long a1, .int 2]) (rest := []) ⟨hx, hb, hml, hown, htb⟩ (c_M_turned l g u a1 2) (va_cwS 2 htb (ht_gs wd_462 wd_463 wd_3 g_M_turned) rfl rfl rfl (by decide +kernel) ⟨Nat.le_of_ble_eq_true rfl, Nat.le_of_ble_eq_true rfl⟩) (HW.preS _) rfl rfl hl.1 rfl (lv_room (Nat.le_of_ble_eq_true rfl)) d_M_block_311 ⟨Nat.le_of_ble_eq_true rfl, Nat.le_of_ble_eq_true rfl⟩) (fun q8 u7 H locs pu7 HW => ?_)
        obtain ⟨eq8, eu7⟩ := pu7
        subst eu7
        refine lv_lload_n hx hb d_M_block_314 rfl (lv_at hl 2 rfl) ?_
        refine lv_bipush (v := 13) hx hb d_M_block_315 (by decide) ?_
        refine ht_cl HW (va_runS (own := R_M) (As := [.long a1, .int 13]) (rest := [.long q8]) ⟨hx, hb, hml, hown, htb⟩ (c_M_turned l g u a1 13) (va_cwS 2 htb (ht_gs wd_462 wd_463 wd_3 g_M_turned) rfl rfl rfl (by decide +kernel) ⟨Nat.le_of_ble_eq_true rfl, Nat.le_of_ble_eq_true rfl⟩) (HW.preS _) rfl rfl hl.1 rfl (lv_room (Nat.le_of_ble_eq_true rfl)) d_M_block_317 ⟨Nat.le_of_ble_eq_true rfl, Nat.le_of_ble_eq_true rfl⟩) (fun q10 u9 H locs pu9 HW => ?_)
        obtain ⟨eq10, eu9⟩ := pu9
        subst eu9
        refine lv_lxor hx hb d_M_block_320 ?_
        refine lv_lload_n hx hb d_M_block_321 rfl (lv_at hl 2 rfl) ?_
        refine lv_bipush (v := 22) hx hb d_M_block_322 (by decide) ?_
        refine ht_cl HW (va_runS (own := R_M) (As := [.long a1, .int 22]) (rest := [.long (q8 ^^^ q10)]) ⟨hx, hb, hml, hown, htb⟩ (c_M_turned l g u a1 22) (va_cwS 2 htb (ht_gs wd_462 wd_463 wd_3 g_M_turned) rfl rfl rfl (by decide +kernel) ⟨Nat.le_of_ble_eq_true rfl, Nat.le_of_ble_eq_true rfl⟩) (HW.preS _) rfl rfl hl.1 rfl (lv_room (Nat.le_of_ble_eq_true rfl)) d_M_block_324 ⟨Nat.le_of_ble_eq_true rfl, Nat.le_of_ble_eq_true rfl⟩) (fun q12 u11 H locs pu11 HW => ?_)
        obtain ⟨eq12, eu11⟩ := pu11
        subst eu11
        refine lv_lxor hx hb d_M_block_327 ?_
        refine lv_lload_n hx hb d_M_block_328 rfl (lv_at hl 2 rfl) ?_
        refine lv_lload hx hb d_M_block_329 (lv_at hl 3 rfl) ?_
        refine lv_land hx hb d_M_block_331 ?_
        refine lv_lload_n hx hb d_M_block_332 rfl (lv_at hl 2 rfl) ?_
        refine lv_lload hx hb d_M_block_333 (lv_at hl 4 rfl) ?_
        refine lv_land hx hb d_M_block_335 ?_
        refine lv_lxor hx hb d_M_block_336 ?_
        refine lv_lload hx hb d_M_block_337 (lv_at hl 3 rfl) ?_
        refine lv_lload hx hb d_M_block_339 (lv_at hl 4 rfl) ?_
        refine lv_land hx hb d_M_block_341 ?_
        refine lv_lxor hx hb d_M_block_342 ?_
        refine lv_ladd hx hb d_M_block_343 ?_
        refine lv_topl (fun yy eyy => ?_)
        refine lv_lstore (lv' := [(21, .long yy), (19, .long xx), (0, .ref (M 0)), (2, .long a1), (4, .long a2), (6, .long a3), (8, .long a4), (10, .long a5), (12, .long a6), (14, .long a7), (16, .long a8), (18, .int t)]) hx hb d_M_block_344 hl (by decide) rfl (fun ls hl => ?_)
        refine lv_lload hx hb d_M_block_346 (lv_at hl 9 rfl) ?_
        refine lv_lstore (lv' := [(16, .long a7), (21, .long yy), (19, .long xx), (0, .ref (M 0)), (2, .long a1), (4, .long a2), (6, .long a3), (8, .long a4), (10, .long a5), (12, .long a6), (14, .long a7), (18, .int t)]) hx hb d_M_block_348 hl (by decide) rfl (fun ls hl => ?_)
        refine lv_lload hx hb d_M_block_350 (lv_at hl 9 rfl) ?_
        refine lv_lstore (lv' := [(14, .long a6), (16, .long a7), (21, .long yy), (19, .long xx), (0, .ref (M 0)), (2, .long a1), (4, .long a2), (6, .long a3), (8, .long a4), (10, .long a5), (12, .long a6), (18, .int t)]) hx hb d_M_block_352 hl (by decide) rfl (fun ls hl => ?_)
        refine lv_lload hx hb d_M_block_354 (lv_at hl 9 rfl) ?_
        refine lv_lstore (lv' := [(12, .long a5), (14, .long a6), (16, .long a7), (21, .long yy), (19, .long xx), (0, .ref (M 0)), (2, .long a1), (4, .long a2), (6, .long a3), (8, .long a4), (10, .long a5), (18, .int t)]) hx hb d_M_block_356 hl (by decide) rfl (fun ls hl => ?_)
        refine lv_lload hx hb d_M_block_358 (lv_at hl 9 rfl) ?_
        refine lv_lload hx hb d_M_block_360 (lv_at hl 4 rfl) ?_
        refine lv_ladd hx hb d_M_block_362 ?_
        refine lv_ldc2 (v := 4294967295) hx hb hown (htb _ wd_465) d_M_block_363 ?_
        refine lv_land hx hb d_M_block_366 ?_
        refine lv_topl (fun ne ene => ?_)
        refine lv_lstore (lv' := [(10, .long ne), (12, .long a5), (14, .long a6), (16, .long a7), (21, .long yy), (19, .long xx), (0, .ref (M 0)), (2, .long a1), (4, .long a2), (6, .long a3), (8, .long a4), (18, .int t)]) hx hb d_M_block_367 hl (by decide) rfl (fun ls hl => ?_)
        refine lv_lload hx hb d_M_block_369 (lv_at hl 9 rfl) ?_
        refine lv_lstore (lv' := [(8, .long a3), (10, .long ne), (12, .long a5), (14, .long a6), (16, .long a7), (21, .long yy), (19, .long xx), (0, .ref (M 0)), (2, .long a1), (4, .long a2), (6, .long a3), (18, .int t)]) hx hb d_M_block_371 hl (by decide) rfl (fun ls hl => ?_)
        refine lv_lload hx hb d_M_block_373 (lv_at hl 9 rfl) ?_
        refine lv_lstore (lv' := [(6, .long a2), (8, .long a3), (10, .long ne), (12, .long a5), (14, .long a6), (16, .long a7), (21, .long yy), (19, .long xx), (0, .ref (M 0)), (2, .long a1), (4, .long a2), (18, .int t)]) hx hb d_M_block_375 hl (by decide) rfl (fun ls hl => ?_)
        refine lv_lload_n hx hb d_M_block_377 rfl (lv_at hl 9 rfl) ?_
        refine lv_lstore (lv' := [(4, .long a1), (6, .long a2), (8, .long a3), (10, .long ne), (12, .long a5), (14, .long a6), (16, .long a7), (21, .long yy), (19, .long xx), (0, .ref (M 0)), (2, .long a1), (18, .int t)]) hx hb d_M_block_378 hl (by decide) rfl (fun ls hl => ?_)
        refine lv_lload hx hb d_M_block_380 (lv_at hl 8 rfl) ?_
        refine lv_lload hx hb d_M_block_382 (lv_at hl 7 rfl) ?_
        refine lv_ladd hx hb d_M_block_384 ?_
        refine lv_ldc2 (v := 4294967295) hx hb hown (htb _ wd_465) d_M_block_385 ?_
        refine lv_land hx hb d_M_block_388 ?_
        refine lv_topl (fun na ena => ?_)
        refine lv_lstore_n (lv' := [(2, .long na), (4, .long a1), (6, .long a2), (8, .long a3), (10, .long ne), (12, .long a5), (14, .long a6), (16, .long a7), (21, .long yy), (19, .long xx), (0, .ref (M 0)), (18, .int t)]) hx hb d_M_block_389 rfl hl (by decide) rfl (fun ls hl => ?_)
        obtain ⟨t2, et2⟩ : ∃ zI : Int32, zI = t + 1 := ⟨_, rfl⟩
        refine lv_iinc (v := t2) (lv' := [(18, .int t2), (2, .long na), (4, .long a1), (6, .long a2), (8, .long a3), (10, .long ne), (12, .long a5), (14, .long a6), (16, .long a7), (21, .long yy), (19, .long xx), (0, .ref (M 0))]) hx hb d_M_block_390 hl (k := 11) rfl (by rw [et2]; rfl) (by decide) rfl (fun ls hl => ?_)
        refine lv_goto (tgt := 243) hx hb d_M_block_393 (by decide) ?_
        refine ih (k + 1) (by omega) na a1 a2 a3 ne a5 a6 a7 ?_ _ _ _ t2 (by rw [et2, et, nI_1]) HW (lv_sub hl [11, 1, 2, 3, 4, 5, 6, 7, 8, 0] rfl)
        rw [ena, ene]
        refine ht_eo_step ha ekc ewc ?_ ?_
        · rw [exx, eq2, eq4, eq6]
          rfl
        · rw [eyy, eq8, eq10, eq12]
          rfl
  have loop2 : ∀ (r k : Nat), k + r = 48 → ∀ (u : ht_W) (Lu : ht_LF), ht_Mo g u M n Lu If → ht_fm M w u → ht_same [11, 17] Lf Lu → Lu 11 = Lf 11 → (∀ j, j < 16 + k → Lu 17 j = ht_em (ht_sp k (fun t => ht_c4 (If 10) (fr + 4 * t)) j)) → ∀ (H : Heap) (locs : List Loc) (ls : Array Slot) (t : Int32), t = nI (16 + k) → ht_I g s u H locs → lv_has ls 23 [(0, .ref (M 0)), (1, .int k1), (2, .int t)] → W p l e (headSpec ws_M_block ({ frames := 1, cells := 0, slots := 0, locals := 40 } : Room)).room s m ([.ref (M 0), .int k1] : List Value).toArray below meth c H locs 0 0 (MQ below (ht_Qv g (fun u => ∃ Lf2 : ht_LF, ht_Mo g u M n Lf2 If ∧ ht_fm M w u ∧ ht_same [11, 17] Lf Lf2 ∧ ∀ j, j < 8 → Lf2 11 j = ht_em (ht_bl ws (fun t => ht_c4 (If 10) (fr + 4 * t)) j))) ([.ref (M 0), .int k1] : List Value).toArray s 0 0 (ht_A g)) (F0 m 66 ls []) := by
    intro r
    induction r with
    | zero =>
      intro k hk u Lu hMu hfm hsm hw11 hsc H locs ls t et HW hl
      have hO : ht_at u (M 0) (.inr (4, [.ref (M 1), .ref (M 2), .int (n 0), .ref (M 3), .ref (M 4), .ref (M 5), .ref (M 6), .int (n 1), .ref (M 7), .int (n 2), .ref (M 8), .int (n 3), .int (n 4), .ref (M 9), .ref (M 10), .ref (M 11), .ref (M 12), .ref (M 13), .ref (M 14), .ref (M 15), .ref (M 16), .ref (M 17)]) : va_E) := hMu.1
      have h11 : ht_at u (M 11) (ht_al g 8 (Lu 11)) := hMu.L 11 (by decide) rfl
      have h17 : ht_at u (M 17) (ht_al g 64 (Lu 17)) := hMu.L 17 (by decide) rfl
      refine lv_iload_n hx hb d_M_block_66 rfl (lv_at hl 2 rfl) ?_
      refine lv_bipush (v := 64) hx hb d_M_block_67 (by decide) ?_
      refine lv_icmp_ge (tgt := 175) hx hb d_M_block_69 (by decide) (fun c69 => ?_) (fun c69 => ?_)
      · refine lv_aload_n hx hb d_M_block_175 rfl (lv_at hl 0 rfl) ?_
        refine ht_get (C := R_M) (T := F_M) (N := 22) (v := .ref (M 11)) hx hb htb i_M hown HW hO rfl 15 (by decide) (htb _ wd_326) (fun _ h9 => h9) rfl d_M_block_176 ?_
        refine lv_iconst (v := 0) hx hb d_M_block_179 (by decide) ?_
        refine ht_lald hx hb HW h11 (by unfold vp_in; decide) d_M_block_180 ?_
        refine lv_topl (fun a1 ea1 => ?_)
        have ea1 : a1 = Lu 11 0 := ea1
        have ea1 : a1 = ht_em (ws 0) := by rw [ea1, hw11]; exact hws 0 (by decide)
        refine lv_lstore_n (lv' := [(2, .long a1), (0, .ref (M 0)), (1, .int k1)]) hx hb d_M_block_181 rfl hl (by decide) rfl (fun ls hl => ?_)
        refine lv_aload_n hx hb d_M_block_182 rfl (lv_at hl 1 rfl) ?_
        refine ht_get (C := R_M) (T := F_M) (N := 22) (v := .ref (M 11)) hx hb htb i_M hown HW hO rfl 15 (by decide) (htb _ wd_326) (fun _ h9 => h9) rfl d_M_block_183 ?_
        refine lv_iconst (v := 1) hx hb d_M_block_186 (by decide) ?_
        refine ht_lald hx hb HW h11 (by unfold vp_in; decide) d_M_block_187 ?_
        refine lv_topl (fun a2 ea2 => ?_)
        have ea2 : a2 = Lu 11 1 := ea2
        have ea2 : a2 = ht_em (ws 1) := by rw [ea2, hw11]; exact hws 1 (by decide)
        refine lv_lstore (lv' := [(4, .long a2), (2, .long a1), (0, .ref (M 0)), (1, .int k1)]) hx hb d_M_block_188 hl (by decide) rfl (fun ls hl => ?_)
        refine lv_aload_n hx hb d_M_block_190 rfl (lv_at hl 2 rfl) ?_
        refine ht_get (C := R_M) (T := F_M) (N := 22) (v := .ref (M 11)) hx hb htb i_M hown HW hO rfl 15 (by decide) (htb _ wd_326) (fun _ h9 => h9) rfl d_M_block_191 ?_
        refine lv_iconst (v := 2) hx hb d_M_block_194 (by decide) ?_
        refine ht_lald hx hb HW h11 (by unfold vp_in; decide) d_M_block_195 ?_
        refine lv_topl (fun a3 ea3 => ?_)
        have ea3 : a3 = Lu 11 2 := ea3
        have ea3 : a3 = ht_em (ws 2) := by rw [ea3, hw11]; exact hws 2 (by decide)
        refine lv_lstore (lv' := [(6, .long a3), (4, .long a2), (2, .long a1), (0, .ref (M 0)), (1, .int k1)]) hx hb d_M_block_196 hl (by decide) rfl (fun ls hl => ?_)
        refine lv_aload_n hx hb d_M_block_198 rfl (lv_at hl 3 rfl) ?_
        refine ht_get (C := R_M) (T := F_M) (N := 22) (v := .ref (M 11)) hx hb htb i_M hown HW hO rfl 15 (by decide) (htb _ wd_326) (fun _ h9 => h9) rfl d_M_block_199 ?_
        refine lv_iconst (v := 3) hx hb d_M_block_202 (by decide) ?_
        refine ht_lald hx hb HW h11 (by unfold vp_in; decide) d_M_block_203 ?_
        refine lv_topl (fun a4 ea4 => ?_)
        have ea4 : a4 = Lu 11 3 := ea4
        have ea4 : a4 = ht_em (ws 3) := by rw [ea4, hw11]; exact hws 3 (by decide)
        refine lv_lstore (lv' := [(8, .long a4), (6, .long a3), (4, .long a2), (2, .long a1), (0, .ref (M 0)), (1, .int k1)]) hx hb d_M_block_204 hl (by decide) rfl (fun ls hl => ?_)
        refine lv_aload_n hx hb d_M_block_206 rfl (lv_at hl 4 rfl) ?_
        refine ht_get (C := R_M) (T := F_M) (N := 22) (v := .ref (M 11)) hx hb htb i_M hown HW hO rfl 15 (by decide) (htb _ wd_326) (fun _ h9 => h9) rfl d_M_block_207 ?_
        refine lv_iconst (v := 4) hx hb d_M_block_210 (by decide) ?_
        refine ht_lald hx hb HW h11 (by unfold vp_in; decide) d_M_block_211 ?_
        refine lv_topl (fun a5 ea5 => ?_)
        have ea5 : a5 = Lu 11 4 := ea5
        have ea5 : a5 = ht_em (ws 4) := by rw [ea5, hw11]; exact hws 4 (by decide)
        refine lv_lstore (lv' := [(10, .long a5), (8, .long a4), (6, .long a3), (4, .long a2), (2, .long a1), (0, .ref (M 0)), (1, .int k1)]) hx hb d_M_block_212 hl (by decide) rfl (fun ls hl => ?_)
        refine lv_aload_n hx hb d_M_block_214 rfl (lv_at hl 5 rfl) ?_
        refine ht_get (C := R_M) (T := F_M) (N := 22) (v := .ref (M 11)) hx hb htb i_M hown HW hO rfl 15 (by decide) (htb _ wd_326) (fun _ h9 => h9) rfl d_M_block_215 ?_
        refine lv_iconst (v := 5) hx hb d_M_block_218 (by decide) ?_
        refine ht_lald hx hb HW h11 (by unfold vp_in; decide) d_M_block_219 ?_
        refine lv_topl (fun a6 ea6 => ?_)
        have ea6 : a6 = Lu 11 5 := ea6
        have ea6 : a6 = ht_em (ws 5) := by rw [ea6, hw11]; exact hws 5 (by decide)
        refine lv_lstore (lv' := [(12, .long a6), (10, .long a5), (8, .long a4), (6, .long a3), (4, .long a2), (2, .long a1), (0, .ref (M 0)), (1, .int k1)]) hx hb d_M_block_220 hl (by decide) rfl (fun ls hl => ?_)
        refine lv_aload_n hx hb d_M_block_222 rfl (lv_at hl 6 rfl) ?_
        refine ht_get (C := R_M) (T := F_M) (N := 22) (v := .ref (M 11)) hx hb htb i_M hown HW hO rfl 15 (by decide) (htb _ wd_326) (fun _ h9 => h9) rfl d_M_block_223 ?_
        refine lv_bipush (v := 6) hx hb d_M_block_226 (by decide) ?_
        refine ht_lald hx hb HW h11 (by unfold vp_in; decide) d_M_block_228 ?_
        refine lv_topl (fun a7 ea7 => ?_)
        have ea7 : a7 = Lu 11 6 := ea7
        have ea7 : a7 = ht_em (ws 6) := by rw [ea7, hw11]; exact hws 6 (by decide)
        refine lv_lstore (lv' := [(14, .long a7), (12, .long a6), (10, .long a5), (8, .long a4), (6, .long a3), (4, .long a2), (2, .long a1), (0, .ref (M 0)), (1, .int k1)]) hx hb d_M_block_229 hl (by decide) rfl (fun ls hl => ?_)
        refine lv_aload_n hx hb d_M_block_231 rfl (lv_at hl 7 rfl) ?_
        refine ht_get (C := R_M) (T := F_M) (N := 22) (v := .ref (M 11)) hx hb htb i_M hown HW hO rfl 15 (by decide) (htb _ wd_326) (fun _ h9 => h9) rfl d_M_block_232 ?_
        refine lv_bipush (v := 7) hx hb d_M_block_235 (by decide) ?_
        refine ht_lald hx hb HW h11 (by unfold vp_in; decide) d_M_block_237 ?_
        refine lv_topl (fun a8 ea8 => ?_)
        have ea8 : a8 = Lu 11 7 := ea8
        have ea8 : a8 = ht_em (ws 7) := by rw [ea8, hw11]; exact hws 7 (by decide)
        refine lv_lstore (lv' := [(16, .long a8), (14, .long a7), (12, .long a6), (10, .long a5), (8, .long a4), (6, .long a3), (4, .long a2), (2, .long a1), (0, .ref (M 0)), (1, .int k1)]) hx hb d_M_block_238 hl (by decide) rfl (fun ls hl => ?_)
        refine lv_iconst (v := 0) hx hb d_M_block_240 (by decide) ?_
        refine lv_istore (lv' := [(18, .int 0), (16, .long a8), (14, .long a7), (12, .long a6), (10, .long a5), (8, .long a4), (6, .long a3), (4, .long a2), (2, .long a1), (0, .ref (M 0)), (1, .int k1)]) hx hb d_M_block_241 hl (by decide) rfl (fun ls hl => ?_)
        exact loop3 u Lu hMu hfm hsm hw11 (fun j hj => by rw [hsc j (by omega), show k = 48 by omega]) 64 0 rfl a1 a2 a3 a4 a5 a6 a7 a8 ⟨ea1, ea2, ea3, ea4, ea5, ea6, ea7, ea8⟩ _ _ _ 0 rfl HW (lv_sub hl [9, 8, 7, 6, 5, 4, 3, 2, 1, 0] rfl)
      · exact absurd (nI_le (show 64 ≤ 16 + k by omega) (by omega)) (by rw [et] at c69; exact c69)
    | succ r ih =>
      intro k hk u Lu hMu hfm hsm hw11 hsc H locs ls t et HW hl
      have hO : ht_at u (M 0) (.inr (4, [.ref (M 1), .ref (M 2), .int (n 0), .ref (M 3), .ref (M 4), .ref (M 5), .ref (M 6), .int (n 1), .ref (M 7), .int (n 2), .ref (M 8), .int (n 3), .int (n 4), .ref (M 9), .ref (M 10), .ref (M 11), .ref (M 12), .ref (M 13), .ref (M 14), .ref (M 15), .ref (M 16), .ref (M 17)]) : va_E) := hMu.1
      have h11 : ht_at u (M 11) (ht_al g 8 (Lu 11)) := hMu.L 11 (by decide) rfl
      have h17 : ht_at u (M 17) (ht_al g 64 (Lu 17)) := hMu.L 17 (by decide) rfl
      refine lv_iload_n hx hb d_M_block_66 rfl (lv_at hl 2 rfl) ?_
      refine lv_bipush (v := 64) hx hb d_M_block_67 (by decide) ?_
      refine lv_icmp_ge (tgt := 175) hx hb d_M_block_69 (by decide) (fun c69 => ?_) (fun c69 => ?_)
      · exact absurd (show nI 64 ≤ nI (16 + k) by rw [et] at c69; exact c69) (nI_ge (by omega) (by omega))
      · refine lv_aload_n hx hb d_M_block_72 rfl (lv_at hl 0 rfl) ?_
        refine ht_get (C := R_M) (T := F_M) (N := 22) (v := .ref (M 17)) hx hb htb i_M hown HW hO rfl 21 (by decide) (htb _ wd_332) (fun _ h9 => h9) rfl d_M_block_73 ?_
        refine lv_iload_n hx hb d_M_block_76 rfl (lv_at hl 2 rfl) ?_
        refine lv_bipush (v := 15) hx hb d_M_block_77 (by decide) ?_
        refine lv_isub hx hb d_M_block_79 ?_
        refine lv_topi (fun ix eix => ?_)
        have hix : ix = nI (k + 1) := by rw [eix, et, show (15 : Int32) = nI 15 from rfl, pk_sub (by omega)]; congr 1; omega
        refine ht_lald hx hb HW h17 (by rw [hix]; exact vp_in_nI (by omega) (by omega)) d_M_block_80 ?_
        refine lv_topl (fun vx evx => ?_)
        have evx : vx = (Lu 17) (k + 1) := by rw [evx, hix, nI_clamp (by omega)]
        have evx : vx = ht_em (ht_sp k (fun t => ht_c4 (If 10) (fr + 4 * t)) (k + 1)) := by rw [evx]; exact hsc _ (by omega)
        refine lv_lstore_n (lv' := [(3, .long vx), (0, .ref (M 0)), (1, .int k1), (2, .int t)]) hx hb d_M_block_81 rfl hl (by decide) rfl (fun ls hl => ?_)
        refine lv_aload_n hx hb d_M_block_82 rfl (lv_at hl 1 rfl) ?_
        refine ht_get (C := R_M) (T := F_M) (N := 22) (v := .ref (M 17)) hx hb htb i_M hown HW hO rfl 21 (by decide) (htb _ wd_332) (fun _ h9 => h9) rfl d_M_block_83 ?_
        refine lv_iload_n hx hb d_M_block_86 rfl (lv_at hl 3 rfl) ?_
        refine lv_iconst (v := 2) hx hb d_M_block_87 (by decide) ?_
        refine lv_isub hx hb d_M_block_88 ?_
        refine lv_topi (fun iy eiy => ?_)
        have hiy : iy = nI (k + 14) := by rw [eiy, et, show (2 : Int32) = nI 2 from rfl, pk_sub (by omega)]; congr 1; omega
        refine ht_lald hx hb HW h17 (by rw [hiy]; exact vp_in_nI (by omega) (by omega)) d_M_block_89 ?_
        refine lv_topl (fun vy evy => ?_)
        have evy : vy = (Lu 17) (k + 14) := by rw [evy, hiy, nI_clamp (by omega)]
        have evy : vy = ht_em (ht_sp k (fun t => ht_c4 (If 10) (fr + 4 * t)) (k + 14)) := by rw [evy]; exact hsc _ (by omega)
        refine lv_lstore (lv' := [(5, .long vy), (3, .long vx), (0, .ref (M 0)), (1, .int k1), (2, .int t)]) hx hb d_M_block_90 hl (by decide) rfl (fun ls hl => ?_)
        refine lv_lload_n hx hb d_M_block_92 rfl (lv_at hl 1 rfl) ?_
        refine lv_bipush (v := 7) hx hb d_M_block_93 (by decide) ?_
        refine ht_cl HW (va_runS (own := R_M) (As := [.long vx, .int 7]) (rest := []) ⟨hx, hb, hml, hown, htb⟩ (c_M_turned l g u vx 7) (va_cwS 2 htb (ht_gs wd_462 wd_463 wd_3 g_M_turned) rfl rfl rfl (by decide +kernel) ⟨Nat.le_of_ble_eq_true rfl, Nat.le_of_ble_eq_true rfl⟩) (HW.preS _) rfl rfl hl.1 rfl (lv_room (Nat.le_of_ble_eq_true rfl)) d_M_block_95 ⟨Nat.le_of_ble_eq_true rfl, Nat.le_of_ble_eq_true rfl⟩) (fun q2 u1 H locs pu1 HW => ?_)
        obtain ⟨eq2, eu1⟩ := pu1
        subst eu1
        refine lv_lload_n hx hb d_M_block_98 rfl (lv_at hl 1 rfl) ?_
        refine lv_bipush (v := 18) hx hb d_M_block_99 (by decide) ?_
        refine ht_cl HW (va_runS (own := R_M) (As := [.long vx, .int 18]) (rest := [.long q2]) ⟨hx, hb, hml, hown, htb⟩ (c_M_turned l g u vx 18) (va_cwS 2 htb (ht_gs wd_462 wd_463 wd_3 g_M_turned) rfl rfl rfl (by decide +kernel) ⟨Nat.le_of_ble_eq_true rfl, Nat.le_of_ble_eq_true rfl⟩) (HW.preS _) rfl rfl hl.1 rfl (lv_room (Nat.le_of_ble_eq_true rfl)) d_M_block_101 ⟨Nat.le_of_ble_eq_true rfl, Nat.le_of_ble_eq_true rfl⟩) (fun q4 u3 H locs pu3 HW => ?_)
        obtain ⟨eq4, eu3⟩ := pu3
        subst eu3
        refine lv_lxor hx hb d_M_block_104 ?_
        refine lv_lload_n hx hb d_M_block_105 rfl (lv_at hl 1 rfl) ?_
        refine lv_iconst (v := 3) hx hb d_M_block_106 (by decide) ?_
        refine lv_lshr (v := vx >>> ((3 : Int32).toInt64 &&& 63)) hx hb d_M_block_107 rfl ?_
        refine lv_lxor hx hb d_M_block_108 ?_
        refine lv_topl (fun one eone => ?_)
        refine lv_lstore (lv' := [(7, .long one), (5, .long vy), (3, .long vx), (0, .ref (M 0)), (1, .int k1), (2, .int t)]) hx hb d_M_block_109 hl (by decide) rfl (fun ls hl => ?_)
        refine lv_lload hx hb d_M_block_111 (lv_at hl 1 rfl) ?_
        refine lv_bipush (v := 17) hx hb d_M_block_113 (by decide) ?_
        refine ht_cl HW (va_runS (own := R_M) (As := [.long vy, .int 17]) (rest := []) ⟨hx, hb, hml, hown, htb⟩ (c_M_turned l g u vy 17) (va_cwS 2 htb (ht_gs wd_462 wd_463 wd_3 g_M_turned) rfl rfl rfl (by decide +kernel) ⟨Nat.le_of_ble_eq_true rfl, Nat.le_of_ble_eq_true rfl⟩) (HW.preS _) rfl rfl hl.1 rfl (lv_room (Nat.le_of_ble_eq_true rfl)) d_M_block_115 ⟨Nat.le_of_ble_eq_true rfl, Nat.le_of_ble_eq_true rfl⟩) (fun q6 u5 H locs pu5 HW => ?_)
        obtain ⟨eq6, eu5⟩ := pu5
        subst eu5
        refine lv_lload hx hb d_M_block_118 (lv_at hl 1 rfl) ?_
        refine lv_bipush (v := 19) hx hb d_M_block_120 (by decide) ?_
        refine ht_cl HW (va_runS (own := R_M) (As := [.long vy, .int 19]) (rest := [.long q6]) ⟨hx, hb, hml, hown, htb⟩ (c_M_turned l g u vy 19) (va_cwS 2 htb (ht_gs wd_462 wd_463 wd_3 g_M_turned) rfl rfl rfl (by decide +kernel) ⟨Nat.le_of_ble_eq_true rfl, Nat.le_of_ble_eq_true rfl⟩) (HW.preS _) rfl rfl hl.1 rfl (lv_room (Nat.le_of_ble_eq_true rfl)) d_M_block_122 ⟨Nat.le_of_ble_eq_true rfl, Nat.le_of_ble_eq_true rfl⟩) (fun q8 u7 H locs pu7 HW => ?_)
        obtain ⟨eq8, eu7⟩ := pu7
        subst eu7
        refine lv_lxor hx hb d_M_block_125 ?_
        refine lv_lload hx hb d_M_block_126 (lv_at hl 1 rfl) ?_
        refine lv_bipush (v := 10) hx hb d_M_block_128 (by decide) ?_
        refine lv_lshr (v := vy >>> ((10 : Int32).toInt64 &&& 63)) hx hb d_M_block_130 rfl ?_
        refine lv_lxor hx hb d_M_block_131 ?_
        refine lv_topl (fun two etwo => ?_)
        refine lv_lstore (lv' := [(9, .long two), (7, .long one), (5, .long vy), (3, .long vx), (0, .ref (M 0)), (1, .int k1), (2, .int t)]) hx hb d_M_block_132 hl (by decide) rfl (fun ls hl => ?_)
        refine lv_aload_n hx hb d_M_block_134 rfl (lv_at hl 4 rfl) ?_
        refine ht_get (C := R_M) (T := F_M) (N := 22) (v := .ref (M 17)) hx hb htb i_M hown HW hO rfl 21 (by decide) (htb _ wd_332) (fun _ h9 => h9) rfl d_M_block_135 ?_
        refine lv_iload_n hx hb d_M_block_138 rfl (lv_at hl 6 rfl) ?_
        refine lv_aload_n hx hb d_M_block_139 rfl (lv_at hl 4 rfl) ?_
        refine ht_get (C := R_M) (T := F_M) (N := 22) (v := .ref (M 17)) hx hb htb i_M hown HW hO rfl 21 (by decide) (htb _ wd_332) (fun _ h9 => h9) rfl d_M_block_140 ?_
        refine lv_iload_n hx hb d_M_block_143 rfl (lv_at hl 6 rfl) ?_
        refine lv_bipush (v := 16) hx hb d_M_block_144 (by decide) ?_
        refine lv_isub hx hb d_M_block_146 ?_
        refine lv_topi (fun ip eip => ?_)
        have hip : ip = nI (k) := by rw [eip, et, show (16 : Int32) = nI 16 from rfl, pk_sub (by omega)]; congr 1; omega
        refine ht_lald hx hb HW h17 (by rw [hip]; exact vp_in_nI (by omega) (by omega)) d_M_block_147 ?_
        refine lv_topl (fun vp evp => ?_)
        have evp : vp = (Lu 17) k := by rw [evp, hip, nI_clamp (by omega)]
        have evp : vp = ht_em (ht_sp k (fun t => ht_c4 (If 10) (fr + 4 * t)) (k)) := by rw [evp]; exact hsc _ (by omega)
        refine lv_lload hx hb d_M_block_148 (lv_at hl 1 rfl) ?_
        refine lv_ladd hx hb d_M_block_150 ?_
        refine lv_aload_n hx hb d_M_block_151 rfl (lv_at hl 4 rfl) ?_
        refine ht_get (C := R_M) (T := F_M) (N := 22) (v := .ref (M 17)) hx hb htb i_M hown HW hO rfl 21 (by decide) (htb _ wd_332) (fun _ h9 => h9) rfl d_M_block_152 ?_
        refine lv_iload_n hx hb d_M_block_155 rfl (lv_at hl 6 rfl) ?_
        refine lv_bipush (v := 7) hx hb d_M_block_156 (by decide) ?_
        refine lv_isub hx hb d_M_block_158 ?_
        refine lv_topi (fun iq eiq => ?_)
        have hiq : iq = nI (k + 9) := by rw [eiq, et, show (7 : Int32) = nI 7 from rfl, pk_sub (by omega)]; congr 1; omega
        refine ht_lald hx hb HW h17 (by rw [hiq]; exact vp_in_nI (by omega) (by omega)) d_M_block_159 ?_
        refine lv_topl (fun vq evq => ?_)
        have evq : vq = (Lu 17) (k + 9) := by rw [evq, hiq, nI_clamp (by omega)]
        have evq : vq = ht_em (ht_sp k (fun t => ht_c4 (If 10) (fr + 4 * t)) (k + 9)) := by rw [evq]; exact hsc _ (by omega)
        refine lv_ladd hx hb d_M_block_160 ?_
        refine lv_lload hx hb d_M_block_161 (lv_at hl 0 rfl) ?_
        refine lv_ladd hx hb d_M_block_163 ?_
        refine lv_ldc2 (v := 4294967295) hx hb hown (htb _ wd_465) d_M_block_164 ?_
        refine lv_land hx hb d_M_block_167 ?_
        refine lv_topl (fun vv evv => ?_)
        refine ht_last hx hb HW h17 (by rw [et]; exact vp_in_nI (by omega) (by omega)) d_M_block_168 (fun H locs HW => ?_)
        rw [et, nI_clamp (by omega)] at HW
        have n_M_0_M_17 : (M 0) ≠ (M 17) := (hMu.ne 0 17 (by decide) (by decide) (by decide))
        have n_M_11_M_17 : (M 11) ≠ (M 17) := (hMu.ne 11 17 (by decide) (by decide) (by decide))
        obtain ⟨u9, hu9⟩ : ∃ zW : ht_W, zW = ht_up u (M 17) (ht_al g 64 (vp_updL (Lu 17) (16 + k) vv)) := ⟨_, rfl⟩
        have HW : ht_I g s u9 H locs := by rw [hu9]; exact HW
        have hO : ht_at u9 (M 0) (.inr (4, [.ref (M 1), .ref (M 2), .int (n 0), .ref (M 3), .ref (M 4), .ref (M 5), .ref (M 6), .int (n 1), .ref (M 7), .int (n 2), .ref (M 8), .int (n 3), .int (n 4), .ref (M 9), .ref (M 10), .ref (M 11), .ref (M 12), .ref (M 13), .ref (M 14), .ref (M 15), .ref (M 16), .ref (M 17)]) : va_E) := by rw [hu9]; exact ht_at_ne hO n_M_0_M_17
        have h11 : ht_at u9 (M 11) (ht_al g 8 (Lu 11)) := by rw [hu9]; exact ht_at_ne h11 n_M_11_M_17
        have h17 : ht_at u9 (M 17) (ht_al g 64 (vp_updL (Lu 17) (16 + k) vv)) := by rw [hu9]; exact ht_at_self h17
        obtain ⟨t2, et2⟩ : ∃ zI : Int32, zI = t + 1 := ⟨_, rfl⟩
        refine lv_iinc (v := t2) (lv' := [(2, .int t2), (9, .long two), (7, .long one), (5, .long vy), (3, .long vx), (0, .ref (M 0)), (1, .int k1)]) hx hb d_M_block_169 hl (k := 6) rfl (by rw [et2]; rfl) (by decide) rfl (fun ls hl => ?_)
        refine lv_goto (tgt := 66) hx hb d_M_block_172 (by decide) ?_
        have evv2 : vv = ht_em (((ht_sp k (fun t => ht_c4 (If 10) (fr + 4 * t)) k + ht_s0 (ht_sp k (fun t => ht_c4 (If 10) (fr + 4 * t)) (k + 1))) + ht_sp k (fun t => ht_c4 (If 10) (fr + 4 * t)) (k + 9)) + ht_s1 (ht_sp k (fun t => ht_c4 (If 10) (fr + 4 * t)) (k + 14))) := by
          rw [evv, eone, etwo, eq2, eq4, eq6, eq8, evx, evy, ht_S0, ht_S1, evp, evq, ht_em_sp]
        refine ih (k + 1) (by omega) u9 _ (by rw [hu9]; exact hMu.upL 17 (by decide) rfl _) (by rw [hu9]; exact hfm.up 17 (by decide)) (hsm.up (by decide)) ((va_up_ne _ _ (by decide)).trans hw11) (fun j hj => ?_) _ _ _ t2 (by rw [et2, et, nI_1]; rfl) HW (lv_sub hl [5, 6, 0] rfl)
        rw [va_up_self]
        unfold ht_sp
        by_cases e : j = 16 + k
        · rw [e, pk_uLs, pk_us]
          exact evv2
        · rw [pk_uLn e, pk_un e]
          exact hsc j (by omega)
  have loop1b : ∀ (z : Nat), z < 16 → (∀ (u : ht_W) (Lu : ht_LF), ht_Mo g u M n Lu If → ht_fm M w u → ht_same [11, 17] Lf Lu → Lu 11 = Lf 11 → (∀ j, j < z + 1 → Lu 17 j = ht_em ((fun t => ht_c4 (If 10) (fr + 4 * t)) j)) → ∀ (H : Heap) (locs : List Loc) (ls : Array Slot) (t : Int32), t = nI (z + 1) → ht_I g s u H locs → lv_has ls 23 [(0, .ref (M 0)), (1, .int k1), (2, .int t)] → W p l e (headSpec ws_M_block ({ frames := 1, cells := 0, slots := 0, locals := 40 } : Room)).room s m ([.ref (M 0), .int k1] : List Value).toArray below meth c H locs 0 0 (MQ below (ht_Qv g (fun u => ∃ Lf2 : ht_LF, ht_Mo g u M n Lf2 If ∧ ht_fm M w u ∧ ht_same [11, 17] Lf Lf2 ∧ ∀ j, j < 8 → Lf2 11 j = ht_em (ht_bl ws (fun t => ht_c4 (If 10) (fr + 4 * t)) j))) ([.ref (M 0), .int k1] : List Value).toArray s 0 0 (ht_A g)) (F0 m 2 ls [])) → ∀ (u : ht_W) (Lu : ht_LF), ht_Mo g u M n Lu If → ht_fm M w u → ht_same [11, 17] Lf Lu → Lu 11 = Lf 11 → (∀ j, j < z → Lu 17 j = ht_em ((fun t => ht_c4 (If 10) (fr + 4 * t)) j)) → ∀ (t : Int32), t = nI z → ∀ (r k : Nat), k + r = 4 → ∀ (H : Heap) (locs : List Loc) (ls : Array Slot) (wv : Int64) (kv : Int32), wv = lN (ht_n4 (If 10) (fr + 4 * z) k) → kv = nI k → ht_I g s u H locs → lv_has ls 23 [(0, .ref (M 0)), (1, .int k1), (2, .int t), (3, .long wv), (5, .int kv)] → W p l e (headSpec ws_M_block ({ frames := 1, cells := 0, slots := 0, locals := 40 } : Room)).room s m ([.ref (M 0), .int k1] : List Value).toArray below meth c H locs 0 0 (MQ below (ht_Qv g (fun u => ∃ Lf2 : ht_LF, ht_Mo g u M n Lf2 If ∧ ht_fm M w u ∧ ht_same [11, 17] Lf Lf2 ∧ ∀ j, j < 8 → Lf2 11 j = ht_em (ht_bl ws (fun t => ht_c4 (If 10) (fr + 4 * t)) j))) ([.ref (M 0), .int k1] : List Value).toArray s 0 0 (ht_A g)) (F0 m 13 ls []) := by
    intro z hz hgo u Lu hMu hfm hsm hw11 hsc t et r
    induction r with
    | zero =>
        intro k hk H locs ls wv kv ewv ekv HW hl
        have hO : ht_at u (M 0) (.inr (4, [.ref (M 1), .ref (M 2), .int (n 0), .ref (M 3), .ref (M 4), .ref (M 5), .ref (M 6), .int (n 1), .ref (M 7), .int (n 2), .ref (M 8), .int (n 3), .int (n 4), .ref (M 9), .ref (M 10), .ref (M 11), .ref (M 12), .ref (M 13), .ref (M 14), .ref (M 15), .ref (M 16), .ref (M 17)]) : va_E) := hMu.1
        have h10 : ht_at u (M 10) (ht_ab g 4096 (If 10)) := hMu.2.2.2.2.1
        have h17 : ht_at u (M 17) (ht_al g 64 (Lu 17)) := hMu.L 17 (by decide) rfl
        refine lv_iload hx hb d_M_block_13 (lv_at hl 4 rfl) ?_
        refine lv_iconst (v := 4) hx hb d_M_block_15 (by decide) ?_
        refine lv_icmp_ge (tgt := 50) hx hb d_M_block_16 (by decide) (fun c16 => ?_) (fun c16 => ?_)
        · refine lv_aload_n hx hb d_M_block_50 rfl (lv_at hl 0 rfl) ?_
          refine ht_get (C := R_M) (T := F_M) (N := 22) (v := .ref (M 17)) hx hb htb i_M hown HW hO rfl 21 (by decide) (htb _ wd_332) (fun _ h9 => h9) rfl d_M_block_51 ?_
          refine lv_iload_n hx hb d_M_block_54 rfl (lv_at hl 2 rfl) ?_
          refine lv_lload_n hx hb d_M_block_55 rfl (lv_at hl 3 rfl) ?_
          refine ht_last hx hb HW h17 (by rw [et]; exact vp_in_nI (by omega) (by omega)) d_M_block_56 (fun H locs HW => ?_)
          rw [et, nI_clamp (by omega)] at HW
          have n_M_0_M_17 : (M 0) ≠ (M 17) := (hMu.ne 0 17 (by decide) (by decide) (by decide))
          have n_M_10_M_17 : (M 10) ≠ (M 17) := (hMu.ne 10 17 (by decide) (by decide) (by decide))
          obtain ⟨u1, hu1⟩ : ∃ zW : ht_W, zW = ht_up u (M 17) (ht_al g 64 (vp_updL (Lu 17) z wv)) := ⟨_, rfl⟩
          have HW : ht_I g s u1 H locs := by rw [hu1]; exact HW
          have hO : ht_at u1 (M 0) (.inr (4, [.ref (M 1), .ref (M 2), .int (n 0), .ref (M 3), .ref (M 4), .ref (M 5), .ref (M 6), .int (n 1), .ref (M 7), .int (n 2), .ref (M 8), .int (n 3), .int (n 4), .ref (M 9), .ref (M 10), .ref (M 11), .ref (M 12), .ref (M 13), .ref (M 14), .ref (M 15), .ref (M 16), .ref (M 17)]) : va_E) := by rw [hu1]; exact ht_at_ne hO n_M_0_M_17
          have h10 : ht_at u1 (M 10) (ht_ab g 4096 (If 10)) := by rw [hu1]; exact ht_at_ne h10 n_M_10_M_17
          have h17 : ht_at u1 (M 17) (ht_al g 64 (vp_updL (Lu 17) z wv)) := by rw [hu1]; exact ht_at_self h17
          obtain ⟨t2, et2⟩ : ∃ zI : Int32, zI = t + 1 := ⟨_, rfl⟩
          refine lv_iinc (v := t2) (lv' := [(2, .int t2), (0, .ref (M 0)), (1, .int k1), (3, .long wv), (5, .int kv)]) hx hb d_M_block_57 hl (k := 2) rfl (by rw [et2]; rfl) (by decide) rfl (fun ls hl => ?_)
          refine lv_goto (tgt := 2) hx hb d_M_block_60 (by decide) ?_
          refine hgo u1 _ (by rw [hu1]; exact hMu.upL 17 (by decide) rfl _) (by rw [hu1]; exact hfm.up 17 (by decide)) (hsm.up (by decide)) ((va_up_ne _ _ (by decide)).trans hw11) (fun j hj => ?_) _ _ _ t2 (by rw [et2, et, nI_1]) HW (lv_sub hl [1, 2, 0] rfl)
          rw [va_up_self]
          by_cases e : j = z
          · rw [e, pk_uLs, ewv, show k = 4 by omega, ht_n4_4]
          · rw [pk_uLn e]
            exact hsc j (by omega)
        · exact absurd (nI_le (show 4 ≤ k by omega) (by omega)) (by rw [ekv] at c16; exact c16)
    | succ r ih =>
        intro k hk H locs ls wv kv ewv ekv HW hl
        have hO : ht_at u (M 0) (.inr (4, [.ref (M 1), .ref (M 2), .int (n 0), .ref (M 3), .ref (M 4), .ref (M 5), .ref (M 6), .int (n 1), .ref (M 7), .int (n 2), .ref (M 8), .int (n 3), .int (n 4), .ref (M 9), .ref (M 10), .ref (M 11), .ref (M 12), .ref (M 13), .ref (M 14), .ref (M 15), .ref (M 16), .ref (M 17)]) : va_E) := hMu.1
        have h10 : ht_at u (M 10) (ht_ab g 4096 (If 10)) := hMu.2.2.2.2.1
        have h17 : ht_at u (M 17) (ht_al g 64 (Lu 17)) := hMu.L 17 (by decide) rfl
        refine lv_iload hx hb d_M_block_13 (lv_at hl 4 rfl) ?_
        refine lv_iconst (v := 4) hx hb d_M_block_15 (by decide) ?_
        refine lv_icmp_ge (tgt := 50) hx hb d_M_block_16 (by decide) (fun c16 => ?_) (fun c16 => ?_)
        · exact absurd (show nI 4 ≤ nI k by rw [ekv] at c16; exact c16) (nI_ge (by omega) (by omega))
        · refine lv_ldc2 (v := 256) hx hb hown (htb _ wd_461) d_M_block_19 ?_
          refine lv_lload_n hx hb d_M_block_22 rfl (lv_at hl 3 rfl) ?_
          refine lv_lmul hx hb d_M_block_23 ?_
          refine lv_aload_n hx hb d_M_block_24 rfl (lv_at hl 0 rfl) ?_
          refine ht_get (C := R_M) (T := F_M) (N := 22) (v := .ref (M 10)) hx hb htb i_M hown HW hO rfl 14 (by decide) (htb _ wd_325) (fun _ h9 => h9) rfl d_M_block_25 ?_
          refine lv_iload_n hx hb d_M_block_28 rfl (lv_at hl 1 rfl) ?_
          refine lv_iconst (v := 4) hx hb d_M_block_29 (by decide) ?_
          refine lv_iload_n hx hb d_M_block_30 rfl (lv_at hl 2 rfl) ?_
          refine lv_imul hx hb d_M_block_31 ?_
          refine lv_iadd hx hb d_M_block_32 ?_
          refine lv_iload hx hb d_M_block_33 (lv_at hl 4 rfl) ?_
          refine lv_iadd hx hb d_M_block_35 ?_
          refine lv_topi (fun ix eix => ?_)
          have hix : ix = nI (fr + 4 * z + k) := by rw [eix, ek1, et, ekv, show (4 : Int32) = nI 4 from rfl, pk_mul, nI_add, nI_add]
          refine ht_bald hx hb HW h10 (by rw [hix]; exact vp_in_nI (by omega) (by omega)) d_M_block_36 ?_
          refine lv_topi (fun bb ebb => ?_)
          have ebb : bb = (If 10) (fr + 4 * z + k) := by rw [ebb, hix, nI_clamp (by omega)]
          refine lv_sipush (v := 255) hx hb d_M_block_37 (by decide) ?_
          refine lv_iand hx hb d_M_block_40 ?_
          refine lv_i2l (v := (bb &&& (255 : Int32)).toInt64) hx hb d_M_block_41 rfl ?_
          refine lv_ladd hx hb d_M_block_42 ?_
          refine lv_topl (fun wv2 ewv2 => ?_)
          refine lv_lstore_n (lv' := [(3, .long wv2), (0, .ref (M 0)), (1, .int k1), (2, .int t), (5, .int kv)]) hx hb d_M_block_43 rfl hl (by decide) rfl (fun ls hl => ?_)
          obtain ⟨kv2, ekv2⟩ : ∃ zI : Int32, zI = kv + 1 := ⟨_, rfl⟩
          refine lv_iinc (v := kv2) (lv' := [(5, .int kv2), (3, .long wv2), (0, .ref (M 0)), (1, .int k1), (2, .int t)]) hx hb d_M_block_44 hl (k := 4) rfl (by rw [ekv2]; rfl) (by decide) rfl (fun ls hl => ?_)
          refine lv_goto (tgt := 13) hx hb d_M_block_47 (by decide) ?_
          refine ih (k + 1) (by omega) _ _ _ wv2 kv2 ?_ (by rw [ekv2, ekv, nI_1]) HW (lv_sub hl [2, 3, 4, 1, 0] rfl)
          rw [ewv2, ebb, ht_bn_and, nI_l (by have := ht_bn_lt (If 10) (fr + 4 * z + k); omega), ewv, show (256 : Int64) = lN 256 from rfl, ht_lN_mul, ht_lN_add, Nat.mul_comm]
          rfl
  have loop1 : ∀ (r z : Nat), z + r = 16 → ∀ (u : ht_W) (Lu : ht_LF), ht_Mo g u M n Lu If → ht_fm M w u → ht_same [11, 17] Lf Lu → Lu 11 = Lf 11 → (∀ j, j < z → Lu 17 j = ht_em ((fun t => ht_c4 (If 10) (fr + 4 * t)) j)) → ∀ (H : Heap) (locs : List Loc) (ls : Array Slot) (t : Int32), t = nI z → ht_I g s u H locs → lv_has ls 23 [(0, .ref (M 0)), (1, .int k1), (2, .int t)] → W p l e (headSpec ws_M_block ({ frames := 1, cells := 0, slots := 0, locals := 40 } : Room)).room s m ([.ref (M 0), .int k1] : List Value).toArray below meth c H locs 0 0 (MQ below (ht_Qv g (fun u => ∃ Lf2 : ht_LF, ht_Mo g u M n Lf2 If ∧ ht_fm M w u ∧ ht_same [11, 17] Lf Lf2 ∧ ∀ j, j < 8 → Lf2 11 j = ht_em (ht_bl ws (fun t => ht_c4 (If 10) (fr + 4 * t)) j))) ([.ref (M 0), .int k1] : List Value).toArray s 0 0 (ht_A g)) (F0 m 2 ls []) := by
    intro r
    induction r with
    | zero =>
      intro z hz u Lu hMu hfm hsm hw11 hsc H locs ls t et HW hl
      refine lv_iload_n hx hb d_M_block_2 rfl (lv_at hl 2 rfl) ?_
      refine lv_bipush (v := 16) hx hb d_M_block_3 (by decide) ?_
      refine lv_icmp_ge (tgt := 63) hx hb d_M_block_5 (by decide) (fun c5 => ?_) (fun c5 => ?_)
      · refine lv_bipush (v := 16) hx hb d_M_block_63 (by decide) ?_
        refine lv_istore_n (lv' := [(2, .int 16), (0, .ref (M 0)), (1, .int k1)]) hx hb d_M_block_65 rfl hl (by decide) rfl (fun ls hl => ?_)
        exact loop2 48 0 rfl u Lu hMu hfm hsm hw11 (fun j hj => hsc j (by omega)) _ _ _ 16 rfl HW (lv_sub hl [1, 2, 0] rfl)
      · exact absurd (nI_le (show 16 ≤ z by omega) (by omega)) (by rw [et] at c5; exact c5)
    | succ r ih =>
      intro z hz u Lu hMu hfm hsm hw11 hsc H locs ls t et HW hl
      refine lv_iload_n hx hb d_M_block_2 rfl (lv_at hl 2 rfl) ?_
      refine lv_bipush (v := 16) hx hb d_M_block_3 (by decide) ?_
      refine lv_icmp_ge (tgt := 63) hx hb d_M_block_5 (by decide) (fun c5 => ?_) (fun c5 => ?_)
      · exact absurd (show nI 16 ≤ nI z by rw [et] at c5; exact c5) (nI_ge (by omega) (by omega))
      · refine lv_lconst (v := 0) hx hb d_M_block_8 (by decide) ?_
        refine lv_lstore_n (lv' := [(3, .long 0), (0, .ref (M 0)), (1, .int k1), (2, .int t)]) hx hb d_M_block_9 rfl hl (by decide) rfl (fun ls hl => ?_)
        refine lv_iconst (v := 0) hx hb d_M_block_10 (by decide) ?_
        refine lv_istore (lv' := [(5, .int 0), (3, .long 0), (0, .ref (M 0)), (1, .int k1), (2, .int t)]) hx hb d_M_block_11 hl (by decide) rfl (fun ls hl => ?_)
        exact loop1b z (by omega) (fun u Lu => ih (z + 1) (by omega) u Lu) u Lu hMu hfm hsm hw11 hsc t et 4 0 rfl _ _ _ 0 0 rfl rfl HW (lv_sub hl [2, 3, 4, 1, 0] rfl)
  refine lv_iconst (v := 0) hx hb d_M_block_0 (by decide) ?_
  refine lv_istore_n (lv' := [(2, .int 0), (0, .ref (M 0)), (1, .int k1)]) hx hb d_M_block_1 rfl hl (by decide) rfl (fun ls hl => ?_)
  exact loop1 16 0 rfl w Lf hM ht_fm.rf ht_same.rf rfl (fun j hj => absurd hj (Nat.not_lt_zero j)) _ _ _ 0 rfl HW (lv_sub hl [1, 2, 0] rfl)
