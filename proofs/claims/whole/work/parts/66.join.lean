theorem ht_td (x : Int) : (0 ≤ x → x.tdiv 16384 = x / 16384) ∧ (x < 0 → x.tdiv 16384 = -((-x) / 16384)) := by
  refine ⟨fun h => Int.tdiv_eq_ediv_of_nonneg h, fun h => ?_⟩
  have e := Int.neg_tdiv (-x) 16384
  rw [Int.neg_neg, Int.tdiv_eq_ediv_of_nonneg (a := -x) (by omega)] at e
  exact e
theorem ht_fmr (x : Int64) : (x - x / 16384 * 16384).toInt = x.toInt - x.toInt.tdiv 16384 * 16384 := by
  have h1 := x.le_toInt
  have h2 := x.toInt_lt
  have hd : (x / 16384).toInt = x.toInt.tdiv 16384 := Jvm.Kit.i64_div (x := x) (y := 16384) (fun z => absurd z.2 (by decide))
  have ht := ht_td x.toInt
  have c : (16384 : Int64).toInt = 16384 := by decide
  have hb : -2 ^ 63 ≤ x.toInt.tdiv 16384 * 16384 ∧ x.toInt.tdiv 16384 * 16384 < 2 ^ 63 := by
    rcases Int.lt_or_le x.toInt 0 with q | q
    · rw [ht.2 q]; omega
    · rw [ht.1 q]; omega
  have hm : (x / 16384 * 16384).toInt = x.toInt.tdiv 16384 * 16384 := by
    rw [Jvm.Kit.i64_mul (by rw [hd, c]; exact hb.1) (by rw [hd, c]; exact hb.2), hd, c]
  have hs : -2 ^ 63 ≤ x.toInt - x.toInt.tdiv 16384 * 16384 ∧ x.toInt - x.toInt.tdiv 16384 * 16384 < 2 ^ 63 := by
    rcases Int.lt_or_le x.toInt 0 with q | q
    · rw [ht.2 q]; omega
    · rw [ht.1 q]; omega
  rw [Jvm.Kit.i64_sub (by rw [hm]; exact hs.1) (by rw [hm]; exact hs.2), hm]
theorem ht_sx (x : Int64) : (x ^^^ 16384).toInt < 0 ↔ x.toInt < 0 := by
  have e1 : decide ((x ^^^ 16384).toInt < 0) = (x ^^^ 16384).toBitVec.msb := (BitVec.msb_eq_toInt).symm
  have e2 : decide (x.toInt < 0) = x.toBitVec.msb := (BitVec.msb_eq_toInt).symm
  have e3 : (x ^^^ 16384).toBitVec.msb = x.toBitVec.msb := by
    rw [Int64.toBitVec_xor, BitVec.msb_xor, show (16384 : Int64).toBitVec.msb = false by decide, Bool.xor_false]
  rw [e3, ← e2] at e1
  exact ⟨fun h => of_decide_eq_true (e1.symm.trans (decide_eq_true h)), fun h => of_decide_eq_true (e1.trans (decide_eq_true h))⟩
theorem ht_ofWF {l : Launch} {y : MethodName} {ws ws' : List Cond} {rm : Room} {Pc : Array Value → State → Prop} {Qc : Array Value → State → Outcome → State → Prop} {mc ms : Nat} {free : Addr → Prop} {cc : ByteArray} {maxL : Nat} {ret : Option FieldType}
    (hy : plainFor y = true) (hw : ws = Cond.code y cc maxL ret :: ws')
    (body : ∀ p e s m args below meth c s₁, BodyLoose p l y (headSpec ws rm) cc maxL ret e s m args below meth c s₁ → c.maxLocals = maxL → Pc args s →
      W p l e (headSpec ws rm).room s m args below meth c s.heap [] 0 0 (MQ below Qc args s mc ms free) (entryFrame m args maxL)) : Met l y ws rm Pc Qc mc ms free := by
  refine MetFree.of_bodySF (code := cc) (maxLocals := maxL) (ret := ret) hy ?_ ?_
  · intro args s m h hn
    obtain ⟨meth, c, h1, h2, h3, h4, h5, h6, -, -⟩ := Cond.code_spec hn (atoms_spec (ws := ws) h _ (by rw [hw]; exact List.mem_cons_self))
    exact ⟨meth, c, h1, h2, h3, h4, h5, h6⟩
  · intro p e s m args below meth c s₁ B hml hP _
    have hh0 : s₁.heap = s.heap := by rw [B.state]; rfl
    obtain ⟨t, a1, o, b1, b2, b3⟩ := body p e s m args below meth c s₁ B hml hP s₁ hh0 (Stand.of_body B)
    exact ⟨t, o, a1, b1, b2, ⟨b3.1, b3.2⟩⟩
theorem ht_lNof {x : Int64} (h0 : 0 ≤ x.toInt) {m : Nat} (h1 : x.toInt < m) (hm : m < 2 ^ 63) : ∃ s : Nat, s < m ∧ x = lN s := by
  refine ⟨x.toInt.toNat, by omega, Int64.toInt_inj.mp ?_⟩
  rw [pk_lT (by omega)]
  omega
set_option maxHeartbeats 4000000 in
set_option maxRecDepth 100000 in
theorem c_JM_floorMod (l : Launch) (g : ht_G) (w : ht_W) (x y : Int64) (ey : y = 16384) : Met l y_JM_floorMod ws_JM_floorMod ({ frames := 0, cells := 0, slots := 0, locals := 0 } : Room) (va_Pc [.long x, .long y] (ht_WS g w)) (ht_Ql g (fun r u => (∃ sl, sl < 16384 ∧ r = lN sl) ∧ w = u)) 0 0 (ht_A g) := by
  refine ht_ofWF (cc := b_JM_floorMod) (maxL := 6) (ret := (some .long)) (by decide +kernel) rfl ?_
  intro p e s m args below meth c s₁ BB hml hv
  obtain ⟨rfl, HW⟩ := hv
  have HW := ht_I.start HW
  have hx := BB.exec
  have hb := BB.bytes
  have hr := BB.returns
  have hts := atoms_spec (ws := ws_JM_floorMod) BB.pre
  have htb : ∀ w ∈ bg, w.before _ s = true := fun w h => hts w (List.mem_cons_of_mem _ h)
  have hown : s.vm.findClass R_JM = some m.cls := findClass_of_methodNamed BB.named
  have hlocks := BB.notSynchronized
  have hl := lv_entry ([.long x, .long y]) (n := 6) (Nat.le_of_ble_eq_true rfl)
  rw [lg_entry_eq]
  generalize (lg_sl ([.long x, .long y]) ++ List.replicate (6 - (lg_sl ([.long x, .long y])).length) Slot.unset).toArray = ls at hl ⊢
  have hl : lv_has ls 6 [(0, .long x), (2, .long y)] := hl
  refine lv_lload_n hx hb d_JM_floorMod_0 rfl (lv_at hl 0 rfl) ?_
  refine lv_lload_n hx hb d_JM_floorMod_1 rfl (lv_at hl 1 rfl) ?_
  refine lv_lrem hx hb d_JM_floorMod_2 (by rw [ey]; decide) ?_
  refine lv_topl (fun md emd => ?_)
  refine lv_lstore (lv' := [(4, .long md), (0, .long x), (2, .long y)]) hx hb d_JM_floorMod_3 hl (by decide) rfl (fun ls hl => ?_)
  have hmd : md.toInt = x.toInt - x.toInt.tdiv 16384 * 16384 := by rw [emd, ey]; exact ht_fmr x
  have htd := ht_td x.toInt
  refine lv_lload_n hx hb d_JM_floorMod_5 rfl (lv_at hl 1 rfl) ?_
  refine lv_lload_n hx hb d_JM_floorMod_6 rfl (lv_at hl 2 rfl) ?_
  refine lv_lxor hx hb d_JM_floorMod_7 ?_
  refine lv_lconst (v := 0) hx hb d_JM_floorMod_8 (by decide) ?_
  refine W.lcmp hx hb d_JM_floorMod_9 ?_
  refine lv_if_ge (tgt := 25) hx hb d_JM_floorMod_10 (by decide) (fun c10 => ?_) (fun c10 => ?_)
  · have hx0 : 0 ≤ x.toInt := by
      have h9 := (lg_cmp_ge _ _).mp c10
      rw [ey] at h9
      have h8 := Int64.le_iff_toInt_le.mp h9
      have h7 := ht_sx x
      have h6 : (0 : Int64).toInt = 0 := by decide
      omega
    refine lv_lload hx hb d_JM_floorMod_25 (lv_at hl 0 rfl) ?_
    exact ht_lret hx hb hr hlocks HW ⟨ht_lNof (by have h8 := htd.1 hx0; omega) (m := 16384) (by have h8 := htd.1 hx0; omega) (by decide), rfl⟩ d_JM_floorMod_27
  · have hx0 : x.toInt < 0 := by
      have h9 : ¬ 0 ≤ x ^^^ y := fun z9 => c10 ((lg_cmp_ge _ _).mpr z9)
      rw [ey] at h9
      have h8 := Int64.lt_iff_toInt_lt.mp (Int64.not_le.mp h9)
      have h6 : (0 : Int64).toInt = 0 := by decide
      exact (ht_sx x).mp (by omega)
    refine lv_lload hx hb d_JM_floorMod_13 (lv_at hl 0 rfl) ?_
    refine lv_lconst (v := 0) hx hb d_JM_floorMod_15 (by decide) ?_
    refine W.lcmp hx hb d_JM_floorMod_16 ?_
    refine lv_if_eq (tgt := 25) hx hb d_JM_floorMod_17 (by decide) (fun c17 => ?_) (fun c17 => ?_)
    · have hm0 : md = 0 := (lg_cmp_eq _ _).mp c17
      refine lv_lload hx hb d_JM_floorMod_25 (lv_at hl 0 rfl) ?_
      exact ht_lret hx hb hr hlocks HW ⟨⟨0, by decide, hm0⟩, rfl⟩ d_JM_floorMod_27
    · have hm0 : md ≠ 0 := fun z9 => c17 ((lg_cmp_eq _ _).mpr z9)
      refine lv_lload hx hb d_JM_floorMod_20 (lv_at hl 0 rfl) ?_
      refine lv_lload_n hx hb d_JM_floorMod_22 rfl (lv_at hl 2 rfl) ?_
      refine lv_ladd hx hb d_JM_floorMod_23 ?_
      exact ht_lret hx hb hr hlocks HW ⟨ht_lNof (by
          have h8 := htd.2 hx0
          have h7 : md.toInt ≠ 0 := fun z9 => hm0 (Int64.toInt_inj.mp z9)
          have h6 : (16384 : Int64).toInt = 16384 := by decide
          rw [ey, Jvm.Kit.i64_add (by omega) (by omega)]
          omega) (m := 16384) (by
          have h8 := htd.2 hx0
          have h7 : md.toInt ≠ 0 := fun z9 => hm0 (Int64.toInt_inj.mp z9)
          have h6 : (16384 : Int64).toInt = 16384 := by decide
          rw [ey, Jvm.Kit.i64_add (by omega) (by omega)]
          omega) (by decide), rfl⟩ d_JM_floorMod_24
def ht_rw (f : Nat → Int64) (i : Nat) : ht_K := (f i, f (i + 1), f (i + 2), f (i + 3))
theorem ht_rw_row {f : Nat → Int64} {i : Nat} {x : ht_K} (h : ht_row f i x) : ht_rw f i = x := by
  refine ht_kf_ext (fun j hj => ?_)
  rw [← h j hj]
  rcases (show j = 0 ∨ j = 1 ∨ j = 2 ∨ j = 3 by omega) with rfl | rfl | rfl | rfl <;> rfl
theorem ht_row_rw (f : Nat → Int64) (i : Nat) : ht_row f i (ht_rw f i) := by
  intro j hj
  rcases (show j = 0 ∨ j = 1 ∨ j = 2 ∨ j = 3 by omega) with rfl | rfl | rfl | rfl <;> rfl
theorem ht_row.cg {f f' : Nat → Int64} {i : Nat} {x : ht_K} (h : ht_row f i x) (hc : ∀ j, j < 4 → f' (i + j) = f (i + j)) : ht_row f' i x := fun j hj => (hc j hj).trans (h j hj)
/-- one place of what is kept -/
def ht_Kp1 (Lf : ht_LF) (If : ht_IF) (sl : Nat) : Prop := ∀ mk : Int32, (mk = 0 ∨ mk = 1) → If 12 sl = mk + 1 → ht_row (Lf 14) (4 * sl) (ht_dgf mk (ht_rw (Lf 13) (8 * sl)) (ht_rw (Lf 13) (8 * sl + 4)))
def ht_Kp (Lf : ht_LF) (If : ht_IF) : Prop := ∀ sl, sl < 16384 → ht_Kp1 Lf If sl
theorem ht_Kp1.cg {Lf Lf' : ht_LF} {If If' : ht_IF} {sl : Nat} (h : ht_Kp1 Lf If sl) (h1 : ∀ i, i < 8 → Lf' 13 (8 * sl + i) = Lf 13 (8 * sl + i)) (h2 : ∀ i, i < 4 → Lf' 14 (4 * sl + i) = Lf 14 (4 * sl + i)) (h3 : If' 12 sl = If 12 sl) : ht_Kp1 Lf' If' sl := by
  intro mk hmk he
  have e1 : ht_rw (Lf' 13) (8 * sl) = ht_rw (Lf 13) (8 * sl) := ht_rw_row ((ht_row_rw (Lf 13) (8 * sl)).cg (fun j hj => h1 j (by omega)))
  have e2 : ht_rw (Lf' 13) (8 * sl + 4) = ht_rw (Lf 13) (8 * sl + 4) := ht_rw_row ((ht_row_rw (Lf 13) (8 * sl + 4)).cg (fun j hj => by rw [Nat.add_assoc]; exact h1 (4 + j) (by omega)))
  rw [e1, e2]
  exact (h mk hmk (by rw [← h3]; exact he)).cg h2
theorem ht_Kp.cg {Lf Lf' : ht_LF} {If If' : ht_IF} (h : ht_Kp Lf If) (h1 : Lf' 13 = Lf 13) (h2 : Lf' 14 = Lf 14) (h3 : If' 12 = If 12) : ht_Kp Lf' If' := fun sl hs => (h sl hs).cg (fun i _ => by rw [h1]) (fun i _ => by rw [h2]) (by rw [h3])
theorem ht_ln_le (c : Nat) : ht_ln c ≤ 131072 := by
  by_cases h : c < 18
  · have : ∀ c, c < 18 → ht_ln c ≤ 131072 := by decide
    exact this c h
  · unfold ht_ln
    rw [List.getD_eq_getElem?_getD, List.getElem?_eq_none (by simp; omega)]
    decide
/-- a row that is to be joined, or none -/
def ht_ja (M : Nat → Nat) (Lf : ht_LF) (o : Option Nat) (iv : Int32) (x : ht_K) : Prop := (o = none ∧ x = ht_kz) ∨ ∃ c i, c < 9 ∧ ht_isl c = true ∧ o = some (M c) ∧ iv = nI i ∧ i + 4 ≤ ht_ln c ∧ ht_row (Lf c) i x
theorem ht_kn_kf {ws : Nat → Int32} {i : Nat} (hi : i < 4) : ht_kf (ht_kn ws) i = ht_nu ws i := by
  rcases (show i = 0 ∨ i = 1 ∨ i = 2 ∨ i = 3 by omega) with rfl | rfl | rfl | rfl <;> rfl
theorem ht_jb_sw {mf : Nat → Int32} {mk : Int32} {x y : ht_K} (h0 : mf 0 &&& 255 = mk &&& 255) (h1 : ∀ j, j < 32 → mf (1 + j) &&& 255 = ht_by (ht_kf x (j / 8)) (7 - j % 8) &&& 255) (h2 : ∀ j, j < 32 → mf (33 + j) &&& 255 = ht_by (ht_kf y (j / 8)) (7 - j % 8) &&& 255) : ht_kn (ht_sw (ht_pad mf 65) ((65 + 72) / 64)) = ht_dgf mk x y := by
  unfold ht_dgf
  rw [show (65 + 72) / 64 = 2 from rfl]
  refine congrArg ht_kn (ht_sw_c 2 (fun i hi => ?_))
  unfold ht_pad
  by_cases hi65 : i < 65
  · rw [if_pos hi65, if_pos hi65]
    unfold ht_jb
    by_cases e0 : i = 0
    · rw [if_pos e0, e0]; exact h0
    · rw [if_neg e0]
      by_cases e1 : i < 33
      · rw [if_pos e1]
        have := h1 (i - 1) (by omega)
        rw [show 1 + (i - 1) = i by omega] at this
        exact this
      · rw [if_neg e1]
        have := h2 (i - 33) (by omega)
        rw [show 33 + (i - 33) = i by omega] at this
        exact this
  · rw [if_neg hi65, if_neg hi65]
theorem ht_mk1 {mk : Int32} (h : mk = 0 ∨ mk = 1) : vp_nar .byte (mk + 1).toInt8.toInt32 = mk + 1 := by
  rcases h with rfl | rfl <;> decide
theorem ht_l2n {n : Nat} (h : n < 2 ^ 31) : (lN n).toInt32 = nI n := by
  apply Int32.toInt_inj.mp
  rw [Jvm.Kit.i32_of_i64 (by rw [pk_lT (by omega)]; omega) (by rw [pk_lT (by omega)]; omega), pk_lT (by omega), nI_toInt h]
set_option maxHeartbeats 4000000 in
set_option maxRecDepth 100000 in
theorem c_M_join (l : Launch) (g : ht_G) (w : ht_W) {M : Nat → Nat} {n : Nat → Int32} {Lf : ht_LF} {If : ht_IF} (hM : ht_Mo g w M n Lf If) (hKp : ht_Kp Lf If) (mk : Int32) (hmk : mk = 0 ∨ mk = 1) (o1 o2 : Option Nat) (i1 i2 : Int32) {x y : ht_K} (ha1 : ht_ja M Lf o1 i1 x) (ha2 : ht_ja M Lf o2 i2 y) : Met l y_M_join ws_M_join ({ frames := 3, cells := 0, slots := 0, locals := 130 } : Room) (va_Pc [.ref (M 0), .int mk, va_rf o1, .int i1, va_rf o2, .int i2] (ht_WS g w)) (ht_Qv g (fun u => ∃ (Lf2 : ht_LF) (If2 : ht_IF), ht_Mo g u M n Lf2 If2 ∧ ht_fm M w u ∧ ht_same [11, 13, 14, 15, 16, 17] Lf Lf2 ∧ ht_same [10, 12] If If2 ∧ ht_Kp Lf2 If2 ∧ ht_row (Lf2 16) 0 (ht_dgf mk x y))) 0 0 (ht_A g) := by
  refine Met.ofW (cc := b_M_join) (maxL := 11) (ret := none) (by decide) rfl ?_
  intro p e s m args below meth c s₁ BB hml hv
  obtain ⟨rfl, HW⟩ := hv
  have HW := ht_I.start HW
  have hx := BB.exec
  have hb := BB.bytes
  have hr := BB.returns
  have hts := atoms_spec (ws := ws_M_join) BB.pre
  have htb : ∀ w ∈ bg, w.before _ s = true := fun w h => hts w (List.mem_cons_of_mem _ h)
  have hown : s.vm.findClass R_M = some m.cls := findClass_of_methodNamed BB.named
  have hlocks := BB.notSynchronized
  have hl := lv_entry ([.ref (M 0), .int mk, va_rf o1, .int i1, va_rf o2, .int i2]) (n := 11) (by cases o1 <;> cases o2 <;> exact Nat.le_of_ble_eq_true rfl)
  rw [lg_entry_eq]
  generalize (lg_sl ([.ref (M 0), .int mk, va_rf o1, .int i1, va_rf o2, .int i2]) ++ List.replicate (11 - (lg_sl ([.ref (M 0), .int mk, va_rf o1, .int i1, va_rf o2, .int i2])).length) Slot.unset).toArray = ls at hl ⊢
  have hl : lv_has ls 11 [(0, .ref (M 0)), (1, .int mk), (2, va_rf o1), (3, .int i1), (4, va_rf o2), (5, .int i2)] := by cases o1 <;> cases o2 <;> exact hl
  have loop5 : ∀ (sl : Nat), sl < 16384 → ∀ (sv : Int32), sv = nI sl → ∀ (r q : Nat), q + r = 4 → ∀ (u : ht_W) (Lu : ht_LF) (Iu : ht_IF), ht_Mo g u M n Lu Iu → ht_fm M w u → ht_same [11, 13, 14, 15, 16, 17] Lf Lu → ht_same [10, 12] If Iu → ht_Kp Lu Iu → ht_row (Lu 14) (4 * sl) (ht_dgf mk x y) → (∀ j, j < q → Lu 16 j = ht_kf (ht_dgf mk x y) j) → ∀ (H : Heap) (locs : List Loc) (ls : Array Slot) (kv : Int32), kv = nI q → ht_I g s u H locs → lv_has ls 11 [(0, .ref (M 0)), (8, .int sv), (10, .int kv)] → W p l e (headSpec ws_M_join ({ frames := 3, cells := 0, slots := 0, locals := 130 } : Room)).room s m ([.ref (M 0), .int mk, va_rf o1, .int i1, va_rf o2, .int i2] : List Value).toArray below meth c H locs 0 0 (MQ below (ht_Qv g (fun u => ∃ (Lf2 : ht_LF) (If2 : ht_IF), ht_Mo g u M n Lf2 If2 ∧ ht_fm M w u ∧ ht_same [11, 13, 14, 15, 16, 17] Lf Lf2 ∧ ht_same [10, 12] If If2 ∧ ht_Kp Lf2 If2 ∧ ht_row (Lf2 16) 0 (ht_dgf mk x y))) ([.ref (M 0), .int mk, va_rf o1, .int i1, va_rf o2, .int i2] : List Value).toArray s 0 0 (ht_A g)) (F0 m 308 ls []) := by
    intro sl hsl sv esv r
    induction r with
    | zero =>
      intro q hq u Lu Iu hMu hfm hsL hsI hKu hrow hgo H locs ls kv ekv HW hl
      have hO : ht_at u (M 0) (.inr (4, [.ref (M 1), .ref (M 2), .int (n 0), .ref (M 3), .ref (M 4), .ref (M 5), .ref (M 6), .int (n 1), .ref (M 7), .int (n 2), .ref (M 8), .int (n 3), .int (n 4), .ref (M 9), .ref (M 10), .ref (M 11), .ref (M 12), .ref (M 13), .ref (M 14), .ref (M 15), .ref (M 16), .ref (M 17)]) : va_E) := hMu.1
      have h14 : ht_at u (M 14) (ht_al g 65536 (Lu 14)) := hMu.L 14 (by decide) rfl
      have h16 : ht_at u (M 16) (ht_al g 4 (Lu 16)) := hMu.L 16 (by decide) rfl
      refine lv_iload hx hb d_M_join_308 (lv_at hl 2 rfl) ?_
      refine lv_iconst (v := 4) hx hb d_M_join_310 (by decide) ?_
      refine lv_icmp_ge (tgt := 339) hx hb d_M_join_311 (by decide) (fun c311 => ?_) (fun c311 => ?_)
      · exact ht_vret hx hb hr hlocks HW ⟨Lu, Iu, hMu, hfm, hsL, hsI, hKu, fun j hj => by rw [Nat.zero_add]; exact hgo j (by omega)⟩ d_M_join_339
      · exact absurd (nI_le (show 4 ≤ q by omega) (by omega)) (by rw [ekv] at c311; exact c311)
    | succ r ih =>
      intro q hq u Lu Iu hMu hfm hsL hsI hKu hrow hgo H locs ls kv ekv HW hl
      have hO : ht_at u (M 0) (.inr (4, [.ref (M 1), .ref (M 2), .int (n 0), .ref (M 3), .ref (M 4), .ref (M 5), .ref (M 6), .int (n 1), .ref (M 7), .int (n 2), .ref (M 8), .int (n 3), .int (n 4), .ref (M 9), .ref (M 10), .ref (M 11), .ref (M 12), .ref (M 13), .ref (M 14), .ref (M 15), .ref (M 16), .ref (M 17)]) : va_E) := hMu.1
      have h14 : ht_at u (M 14) (ht_al g 65536 (Lu 14)) := hMu.L 14 (by decide) rfl
      have h16 : ht_at u (M 16) (ht_al g 4 (Lu 16)) := hMu.L 16 (by decide) rfl
      refine lv_iload hx hb d_M_join_308 (lv_at hl 2 rfl) ?_
      refine lv_iconst (v := 4) hx hb d_M_join_310 (by decide) ?_
      refine lv_icmp_ge (tgt := 339) hx hb d_M_join_311 (by decide) (fun c311 => ?_) (fun c311 => ?_)
      · exact absurd (show nI 4 ≤ nI q by rw [ekv] at c311; exact c311) (nI_ge (by omega) (by omega))
      · refine lv_aload_n hx hb d_M_join_314 rfl (lv_at hl 0 rfl) ?_
        refine ht_get (C := R_M) (T := F_M) (N := 22) (v := .ref (M 16)) hx hb htb i_M hown HW hO rfl 20 (by decide) (htb _ wd_331) (fun _ h9 => h9) rfl d_M_join_315 ?_
        refine lv_iload hx hb d_M_join_318 (lv_at hl 2 rfl) ?_
        refine lv_aload_n hx hb d_M_join_320 rfl (lv_at hl 0 rfl) ?_
        refine ht_get (C := R_M) (T := F_M) (N := 22) (v := .ref (M 14)) hx hb htb i_M hown HW hO rfl 18 (by decide) (htb _ wd_329) (fun _ h9 => h9) rfl d_M_join_321 ?_
        refine lv_iconst (v := 4) hx hb d_M_join_324 (by decide) ?_
        refine lv_iload hx hb d_M_join_325 (lv_at hl 1 rfl) ?_
        refine lv_imul hx hb d_M_join_327 ?_
        refine lv_iload hx hb d_M_join_328 (lv_at hl 2 rfl) ?_
        refine lv_iadd hx hb d_M_join_330 ?_
        refine lv_topi (fun ia eia => ?_)
        have hia : ia = nI (4 * sl + q) := by rw [eia, esv, ekv, show (4 : Int32) = nI 4 from rfl, pk_mul, nI_add]
        refine ht_lald hx hb HW h14 (by rw [hia]; exact vp_in_nI (by omega) (by omega)) d_M_join_331 ?_
        refine lv_topl (fun va eva => ?_)
        have eva : va = (Lu 14) (4 * sl + q) := by rw [eva, hia, nI_clamp (by omega)]
        have eva : va = ht_kf (ht_dgf mk x y) q := by rw [eva, hrow q (by omega)]
        refine ht_last hx hb HW h16 (by rw [ekv]; exact vp_in_nI (by omega) (by omega)) d_M_join_332 (fun H locs HW => ?_)
        rw [ekv, nI_clamp (by omega)] at HW
        have n_M_0_M_16 : (M 0) ≠ (M 16) := (hMu.ne 0 16 (by decide) (by decide) (by decide))
        have n_M_14_M_16 : (M 14) ≠ (M 16) := (hMu.ne 14 16 (by decide) (by decide) (by decide))
        obtain ⟨u1, hu1⟩ : ∃ zW : ht_W, zW = ht_up u (M 16) (ht_al g 4 (vp_updL (Lu 16) q va)) := ⟨_, rfl⟩
        have HW : ht_I g s u1 H locs := by rw [hu1]; exact HW
        have hO : ht_at u1 (M 0) (.inr (4, [.ref (M 1), .ref (M 2), .int (n 0), .ref (M 3), .ref (M 4), .ref (M 5), .ref (M 6), .int (n 1), .ref (M 7), .int (n 2), .ref (M 8), .int (n 3), .int (n 4), .ref (M 9), .ref (M 10), .ref (M 11), .ref (M 12), .ref (M 13), .ref (M 14), .ref (M 15), .ref (M 16), .ref (M 17)]) : va_E) := by rw [hu1]; exact ht_at_ne hO n_M_0_M_16
        have h14 : ht_at u1 (M 14) (ht_al g 65536 (Lu 14)) := by rw [hu1]; exact ht_at_ne h14 n_M_14_M_16
        have h16 : ht_at u1 (M 16) (ht_al g 4 (vp_updL (Lu 16) q va)) := by rw [hu1]; exact ht_at_self h16
        obtain ⟨kv2, ekv2⟩ : ∃ zI : Int32, zI = kv + 1 := ⟨_, rfl⟩
        refine lv_iinc (v := kv2) (lv' := [(10, .int kv2), (0, .ref (M 0)), (8, .int sv)]) hx hb d_M_join_333 hl (k := 2) rfl (by rw [ekv2]; rfl) (by decide) rfl (fun ls hl => ?_)
        refine lv_goto (tgt := 308) hx hb d_M_join_336 (by decide) ?_
        refine ih (q + 1) (by omega) u1 _ Iu (by rw [hu1]; exact hMu.upL 16 (by decide) rfl _) (by rw [hu1]; exact hfm.up 16 (by decide)) (hsL.up (by decide)) hsI (hKu.cg (va_up_ne _ _ (by decide)) (va_up_ne _ _ (by decide)) rfl) (by rw [va_up_ne _ _ (by decide)]; exact hrow) (fun j hj => ?_) _ _ _ kv2 (by rw [ekv2, ekv, nI_1]) HW (lv_sub hl [1, 2, 0] rfl)
        rw [va_up_self]
        by_cases e : j = q
        · rw [e, pk_uLs]; exact eva
        · rw [pk_uLn e]; exact hgo j (by omega)
  have loop4 : ∀ (sl : Nat), sl < 16384 → ∀ (sv : Int32), sv = nI sl → ∀ (ws : Nat → Int32), ht_kn ws = (ht_dgf mk x y) → ∀ (r q : Nat), q + r = 4 → ∀ (u : ht_W) (Lu : ht_LF) (Iu : ht_IF), ht_Mo g u M n Lu Iu → ht_fm M w u → ht_same [11, 13, 14, 15, 16, 17] Lf Lu → ht_same [10, 12] If Iu → (∀ s9, s9 < 16384 → s9 ≠ sl → ht_Kp1 Lu Iu s9) → Iu 12 sl = mk + 1 → ht_row (Lu 13) (8 * sl) x → ht_row (Lu 13) (8 * sl + 4) y → (∀ j, j < 8 → Lu 11 j = ht_em (ws j)) → (∀ j, j < q → Lu 14 (4 * sl + j) = ht_kf (ht_dgf mk x y) j) → ∀ (H : Heap) (locs : List Loc) (ls : Array Slot) (kv : Int32), kv = nI q → ht_I g s u H locs → lv_has ls 11 [(0, .ref (M 0)), (8, .int sv), (10, .int kv)] → W p l e (headSpec ws_M_join ({ frames := 3, cells := 0, slots := 0, locals := 130 } : Room)).room s m ([.ref (M 0), .int mk, va_rf o1, .int i1, va_rf o2, .int i2] : List Value).toArray below meth c H locs 0 0 (MQ below (ht_Qv g (fun u => ∃ (Lf2 : ht_LF) (If2 : ht_IF), ht_Mo g u M n Lf2 If2 ∧ ht_fm M w u ∧ ht_same [11, 13, 14, 15, 16, 17] Lf Lf2 ∧ ht_same [10, 12] If If2 ∧ ht_Kp Lf2 If2 ∧ ht_row (Lf2 16) 0 (ht_dgf mk x y))) ([.ref (M 0), .int mk, va_rf o1, .int i1, va_rf o2, .int i2] : List Value).toArray s 0 0 (ht_A g)) (F0 m 275 ls []) := by
    intro sl hsl sv esv ws hdg r
    induction r with
    | zero =>
      intro q hq u Lu Iu hMu hfm hsL hsI hKo h12 h13x h13y hws hd4 H locs ls kv ekv HW hl
      have hO : ht_at u (M 0) (.inr (4, [.ref (M 1), .ref (M 2), .int (n 0), .ref (M 3), .ref (M 4), .ref (M 5), .ref (M 6), .int (n 1), .ref (M 7), .int (n 2), .ref (M 8), .int (n 3), .int (n 4), .ref (M 9), .ref (M 10), .ref (M 11), .ref (M 12), .ref (M 13), .ref (M 14), .ref (M 15), .ref (M 16), .ref (M 17)]) : va_E) := hMu.1
      have h14 : ht_at u (M 14) (ht_al g 65536 (Lu 14)) := hMu.L 14 (by decide) rfl
      refine lv_iload hx hb d_M_join_275 (lv_at hl 2 rfl) ?_
      refine lv_iconst (v := 4) hx hb d_M_join_277 (by decide) ?_
      refine lv_icmp_ge (tgt := 305) hx hb d_M_join_278 (by decide) (fun c278 => ?_) (fun c278 => ?_)
      · refine lv_iconst (v := 0) hx hb d_M_join_305 (by decide) ?_
        refine lv_istore (lv' := [(10, .int 0), (0, .ref (M 0)), (8, .int sv)]) hx hb d_M_join_306 hl (by decide) rfl (fun ls hl => ?_)
        have hr14 : ht_row (Lu 14) (4 * sl) (ht_dgf mk x y) := fun j hj => hd4 j (by omega)
        refine loop5 sl hsl sv esv 4 0 rfl u Lu Iu hMu hfm hsL hsI (fun s9 hs9 => ?_) hr14 (fun j hj => absurd hj (Nat.not_lt_zero j)) _ _ _ 0 rfl HW (lv_sub hl [1, 2, 0] rfl)
        by_cases e : s9 = sl
        · subst e
          intro mk9 hmk9 he9
          have e9 : mk9 = mk := by
            rw [h12] at he9
            rcases hmk9 with rfl | rfl <;> rcases hmk with rfl | rfl <;> first | rfl | exact absurd he9 (by decide)
          rw [e9, ht_rw_row h13x, ht_rw_row h13y]
          exact hr14
        · exact hKo s9 hs9 e
      · exact absurd (nI_le (show 4 ≤ q by omega) (by omega)) (by rw [ekv] at c278; exact c278)
    | succ r ih =>
      intro q hq u Lu Iu hMu hfm hsL hsI hKo h12 h13x h13y hws hd4 H locs ls kv ekv HW hl
      have hO : ht_at u (M 0) (.inr (4, [.ref (M 1), .ref (M 2), .int (n 0), .ref (M 3), .ref (M 4), .ref (M 5), .ref (M 6), .int (n 1), .ref (M 7), .int (n 2), .ref (M 8), .int (n 3), .int (n 4), .ref (M 9), .ref (M 10), .ref (M 11), .ref (M 12), .ref (M 13), .ref (M 14), .ref (M 15), .ref (M 16), .ref (M 17)]) : va_E) := hMu.1
      have h14 : ht_at u (M 14) (ht_al g 65536 (Lu 14)) := hMu.L 14 (by decide) rfl
      refine lv_iload hx hb d_M_join_275 (lv_at hl 2 rfl) ?_
      refine lv_iconst (v := 4) hx hb d_M_join_277 (by decide) ?_
      refine lv_icmp_ge (tgt := 305) hx hb d_M_join_278 (by decide) (fun c278 => ?_) (fun c278 => ?_)
      · exact absurd (show nI 4 ≤ nI q by rw [ekv] at c278; exact c278) (nI_ge (by omega) (by omega))
      · refine lv_aload_n hx hb d_M_join_281 rfl (lv_at hl 0 rfl) ?_
        refine ht_get (C := R_M) (T := F_M) (N := 22) (v := .ref (M 14)) hx hb htb i_M hown HW hO rfl 18 (by decide) (htb _ wd_329) (fun _ h9 => h9) rfl d_M_join_282 ?_
        refine lv_iconst (v := 4) hx hb d_M_join_285 (by decide) ?_
        refine lv_iload hx hb d_M_join_286 (lv_at hl 1 rfl) ?_
        refine lv_imul hx hb d_M_join_288 ?_
        refine lv_iload hx hb d_M_join_289 (lv_at hl 2 rfl) ?_
        refine lv_iadd hx hb d_M_join_291 ?_
        refine lv_topi (fun ia eia => ?_)
        have hia : ia = nI (4 * sl + q) := by rw [eia, esv, ekv, show (4 : Int32) = nI 4 from rfl, pk_mul, nI_add]
        refine lv_aload_n hx hb d_M_join_292 rfl (lv_at hl 0 rfl) ?_
        refine lv_iload hx hb d_M_join_293 (lv_at hl 2 rfl) ?_
        refine ht_cl HW (va_runV (own := R_M) (C := R_M) (As := [.int kv]) (rest := [.int ia, .ref (M 14)]) ⟨hx, hb, hml, hown, htb⟩ (c_M_wordPair l g u hMu q (by omega) kv ekv hws) (cwV 1 htb (ht_gv wd_468 wd_470 sl_19 wd_3 g_M_wordPair) rfl rfl rfl (by decide +kernel) ⟨Nat.le_of_ble_eq_true rfl, Nat.le_of_ble_eq_true rfl⟩) (HW.preV hO rfl _) rfl rfl hl.1 rfl (lv_room (Nat.le_of_ble_eq_true rfl)) d_M_join_295 ⟨Nat.le_of_ble_eq_true rfl, Nat.le_of_ble_eq_true rfl⟩) (fun wp u1 H locs pu1 HW => ?_)
        obtain ⟨ewp, eu1⟩ := pu1
        subst eu1
        refine ht_last hx hb HW h14 (by rw [hia]; exact vp_in_nI (by omega) (by omega)) d_M_join_298 (fun H locs HW => ?_)
        rw [hia, nI_clamp (by omega)] at HW
        have n_M_0_M_14 : (M 0) ≠ (M 14) := (hMu.ne 0 14 (by decide) (by decide) (by decide))
        obtain ⟨u2, hu2⟩ : ∃ zW : ht_W, zW = ht_up u (M 14) (ht_al g 65536 (vp_updL (Lu 14) (4 * sl + q) wp)) := ⟨_, rfl⟩
        have HW : ht_I g s u2 H locs := by rw [hu2]; exact HW
        have hO : ht_at u2 (M 0) (.inr (4, [.ref (M 1), .ref (M 2), .int (n 0), .ref (M 3), .ref (M 4), .ref (M 5), .ref (M 6), .int (n 1), .ref (M 7), .int (n 2), .ref (M 8), .int (n 3), .int (n 4), .ref (M 9), .ref (M 10), .ref (M 11), .ref (M 12), .ref (M 13), .ref (M 14), .ref (M 15), .ref (M 16), .ref (M 17)]) : va_E) := by rw [hu2]; exact ht_at_ne hO n_M_0_M_14
        have h14 : ht_at u2 (M 14) (ht_al g 65536 (vp_updL (Lu 14) (4 * sl + q) wp)) := by rw [hu2]; exact ht_at_self h14
        obtain ⟨kv2, ekv2⟩ : ∃ zI : Int32, zI = kv + 1 := ⟨_, rfl⟩
        refine lv_iinc (v := kv2) (lv' := [(10, .int kv2), (0, .ref (M 0)), (8, .int sv)]) hx hb d_M_join_299 hl (k := 2) rfl (by rw [ekv2]; rfl) (by decide) rfl (fun ls hl => ?_)
        refine lv_goto (tgt := 275) hx hb d_M_join_302 (by decide) ?_
        refine ih (q + 1) (by omega) u2 _ Iu (by rw [hu2]; exact hMu.upL 14 (by decide) rfl _) (by rw [hu2]; exact hfm.up 14 (by decide)) (hsL.up (by decide)) hsI (fun s9 hs9 hn9 => (hKo s9 hs9 hn9).cg (fun i _ => by rw [va_up_ne _ _ (by decide)]) (fun i hi => ?_) rfl) h12 (by rw [va_up_ne _ _ (by decide)]; exact h13x) (by rw [va_up_ne _ _ (by decide)]; exact h13y) (fun j hj => by rw [va_up_ne _ _ (by decide)]; exact hws j hj) (fun j hj => ?_) _ _ _ kv2 (by rw [ekv2, ekv, nI_1]) HW (lv_sub hl [1, 2, 0] rfl)
        · rw [va_up_self, pk_uLn (by omega)]
        · rw [va_up_self]
          by_cases e : j = q
          · rw [e, pk_uLs, ewp, ← hdg, ht_kn_kf (by omega)]
          · rw [pk_uLn (by omega)]; exact hd4 j (by omega)
  have loop3 : ∀ (sl : Nat), sl < 16384 → ∀ (sv : Int32), sv = nI sl → ∀ (ws : Nat → Int32), ht_kn ws = (ht_dgf mk x y) → ∀ (r q : Nat), q + r = 8 → ∀ (u : ht_W) (Lu : ht_LF) (Iu : ht_IF), ht_Mo g u M n Lu Iu → ht_fm M w u → ht_same [11, 13, 14, 15, 16, 17] Lf Lu → ht_same [10, 12] If Iu → (∀ s9, s9 < 16384 → s9 ≠ sl → ht_Kp1 Lu Iu s9) → Iu 12 sl = mk + 1 → ht_row (Lu 15) 0 x → ht_row (Lu 15) 4 y → (∀ j, j < 8 → Lu 11 j = ht_em (ws j)) → (∀ j, j < q → Lu 13 (8 * sl + j) = Lu 15 j) → ∀ (H : Heap) (locs : List Loc) (ls : Array Slot) (kv : Int32), kv = nI q → ht_I g s u H locs → lv_has ls 11 [(0, .ref (M 0)), (8, .int sv), (10, .int kv)] → W p l e (headSpec ws_M_join ({ frames := 3, cells := 0, slots := 0, locals := 130 } : Room)).room s m ([.ref (M 0), .int mk, va_rf o1, .int i1, va_rf o2, .int i2] : List Value).toArray below meth c H locs 0 0 (MQ below (ht_Qv g (fun u => ∃ (Lf2 : ht_LF) (If2 : ht_IF), ht_Mo g u M n Lf2 If2 ∧ ht_fm M w u ∧ ht_same [11, 13, 14, 15, 16, 17] Lf Lf2 ∧ ht_same [10, 12] If If2 ∧ ht_Kp Lf2 If2 ∧ ht_row (Lf2 16) 0 (ht_dgf mk x y))) ([.ref (M 0), .int mk, va_rf o1, .int i1, va_rf o2, .int i2] : List Value).toArray s 0 0 (ht_A g)) (F0 m 239 ls []) := by
    intro sl hsl sv esv ws hdg r
    induction r with
    | zero =>
      intro q hq u Lu Iu hMu hfm hsL hsI hKo h12 hpx hpy hws hd8 H locs ls kv ekv HW hl
      have hO : ht_at u (M 0) (.inr (4, [.ref (M 1), .ref (M 2), .int (n 0), .ref (M 3), .ref (M 4), .ref (M 5), .ref (M 6), .int (n 1), .ref (M 7), .int (n 2), .ref (M 8), .int (n 3), .int (n 4), .ref (M 9), .ref (M 10), .ref (M 11), .ref (M 12), .ref (M 13), .ref (M 14), .ref (M 15), .ref (M 16), .ref (M 17)]) : va_E) := hMu.1
      have h13 : ht_at u (M 13) (ht_al g 131072 (Lu 13)) := hMu.L 13 (by decide) rfl
      have h15 : ht_at u (M 15) (ht_al g 8 (Lu 15)) := hMu.L 15 (by decide) rfl
      refine lv_iload hx hb d_M_join_239 (lv_at hl 2 rfl) ?_
      refine lv_bipush (v := 8) hx hb d_M_join_241 (by decide) ?_
      refine lv_icmp_ge (tgt := 272) hx hb d_M_join_243 (by decide) (fun c243 => ?_) (fun c243 => ?_)
      · refine lv_iconst (v := 0) hx hb d_M_join_272 (by decide) ?_
        refine lv_istore (lv' := [(10, .int 0), (0, .ref (M 0)), (8, .int sv)]) hx hb d_M_join_273 hl (by decide) rfl (fun ls hl => ?_)
        exact loop4 sl hsl sv esv ws hdg 4 0 rfl u Lu Iu hMu hfm hsL hsI hKo h12 (fun j hj => by rw [hd8 j (by omega), ← hpx j hj, Nat.zero_add]) (fun j hj => by rw [Nat.add_assoc, hd8 (4 + j) (by omega), ← hpy j hj]) hws (fun j hj => absurd hj (Nat.not_lt_zero j)) _ _ _ 0 rfl HW (lv_sub hl [1, 2, 0] rfl)
      · exact absurd (nI_le (show 8 ≤ q by omega) (by omega)) (by rw [ekv] at c243; exact c243)
    | succ r ih =>
      intro q hq u Lu Iu hMu hfm hsL hsI hKo h12 hpx hpy hws hd8 H locs ls kv ekv HW hl
      have hO : ht_at u (M 0) (.inr (4, [.ref (M 1), .ref (M 2), .int (n 0), .ref (M 3), .ref (M 4), .ref (M 5), .ref (M 6), .int (n 1), .ref (M 7), .int (n 2), .ref (M 8), .int (n 3), .int (n 4), .ref (M 9), .ref (M 10), .ref (M 11), .ref (M 12), .ref (M 13), .ref (M 14), .ref (M 15), .ref (M 16), .ref (M 17)]) : va_E) := hMu.1
      have h13 : ht_at u (M 13) (ht_al g 131072 (Lu 13)) := hMu.L 13 (by decide) rfl
      have h15 : ht_at u (M 15) (ht_al g 8 (Lu 15)) := hMu.L 15 (by decide) rfl
      refine lv_iload hx hb d_M_join_239 (lv_at hl 2 rfl) ?_
      refine lv_bipush (v := 8) hx hb d_M_join_241 (by decide) ?_
      refine lv_icmp_ge (tgt := 272) hx hb d_M_join_243 (by decide) (fun c243 => ?_) (fun c243 => ?_)
      · exact absurd (show nI 8 ≤ nI q by rw [ekv] at c243; exact c243) (nI_ge (by omega) (by omega))
      · refine lv_aload_n hx hb d_M_join_246 rfl (lv_at hl 0 rfl) ?_
        refine ht_get (C := R_M) (T := F_M) (N := 22) (v := .ref (M 13)) hx hb htb i_M hown HW hO rfl 17 (by decide) (htb _ wd_328) (fun _ h9 => h9) rfl d_M_join_247 ?_
        refine lv_bipush (v := 8) hx hb d_M_join_250 (by decide) ?_
        refine lv_iload hx hb d_M_join_252 (lv_at hl 1 rfl) ?_
        refine lv_imul hx hb d_M_join_254 ?_
        refine lv_iload hx hb d_M_join_255 (lv_at hl 2 rfl) ?_
        refine lv_iadd hx hb d_M_join_257 ?_
        refine lv_topi (fun ia eia => ?_)
        have hia : ia = nI (8 * sl + q) := by rw [eia, esv, ekv, show (8 : Int32) = nI 8 from rfl, pk_mul, nI_add]
        refine lv_aload_n hx hb d_M_join_258 rfl (lv_at hl 0 rfl) ?_
        refine ht_get (C := R_M) (T := F_M) (N := 22) (v := .ref (M 15)) hx hb htb i_M hown HW hO rfl 19 (by decide) (htb _ wd_330) (fun _ h9 => h9) rfl d_M_join_259 ?_
        refine lv_iload hx hb d_M_join_262 (lv_at hl 2 rfl) ?_
        refine ht_lald hx hb HW h15 (by rw [ekv]; exact vp_in_nI (by omega) (by omega)) d_M_join_264 ?_
        refine lv_topl (fun pv epv => ?_)
        have epv : pv = (Lu 15) q := by rw [epv, ekv, nI_clamp (by omega)]
        refine ht_last hx hb HW h13 (by rw [hia]; exact vp_in_nI (by omega) (by omega)) d_M_join_265 (fun H locs HW => ?_)
        rw [hia, nI_clamp (by omega)] at HW
        have n_M_0_M_13 : (M 0) ≠ (M 13) := (hMu.ne 0 13 (by decide) (by decide) (by decide))
        have n_M_15_M_13 : (M 15) ≠ (M 13) := (hMu.ne 15 13 (by decide) (by decide) (by decide))
        obtain ⟨u1, hu1⟩ : ∃ zW : ht_W, zW = ht_up u (M 13) (ht_al g 131072 (vp_updL (Lu 13) (8 * sl + q) pv)) := ⟨_, rfl⟩
        have HW : ht_I g s u1 H locs := by rw [hu1]; exact HW
        have hO : ht_at u1 (M 0) (.inr (4, [.ref (M 1), .ref (M 2), .int (n 0), .ref (M 3), .ref (M 4), .ref (M 5), .ref (M 6), .int (n 1), .ref (M 7), .int (n 2), .ref (M 8), .int (n 3), .int (n 4), .ref (M 9), .ref (M 10), .ref (M 11), .ref (M 12), .ref (M 13), .ref (M 14), .ref (M 15), .ref (M 16), .ref (M 17)]) : va_E) := by rw [hu1]; exact ht_at_ne hO n_M_0_M_13
        have h13 : ht_at u1 (M 13) (ht_al g 131072 (vp_updL (Lu 13) (8 * sl + q) pv)) := by rw [hu1]; exact ht_at_self h13
        have h15 : ht_at u1 (M 15) (ht_al g 8 (Lu 15)) := by rw [hu1]; exact ht_at_ne h15 n_M_15_M_13
        obtain ⟨kv2, ekv2⟩ : ∃ zI : Int32, zI = kv + 1 := ⟨_, rfl⟩
        refine lv_iinc (v := kv2) (lv' := [(10, .int kv2), (0, .ref (M 0)), (8, .int sv)]) hx hb d_M_join_266 hl (k := 2) rfl (by rw [ekv2]; rfl) (by decide) rfl (fun ls hl => ?_)
        refine lv_goto (tgt := 239) hx hb d_M_join_269 (by decide) ?_
        refine ih (q + 1) (by omega) u1 _ Iu (by rw [hu1]; exact hMu.upL 13 (by decide) rfl _) (by rw [hu1]; exact hfm.up 13 (by decide)) (hsL.up (by decide)) hsI (fun s9 hs9 hn9 => (hKo s9 hs9 hn9).cg (fun i hi => ?_) (fun i _ => by rw [va_up_ne _ _ (by decide)]) rfl) h12 (by rw [va_up_ne _ _ (by decide)]; exact hpx) (by rw [va_up_ne _ _ (by decide)]; exact hpy) (fun j hj => by rw [va_up_ne _ _ (by decide)]; exact hws j hj) (fun j hj => ?_) _ _ _ kv2 (by rw [ekv2, ekv, nI_1]) HW (lv_sub hl [1, 2, 0] rfl)
        · rw [va_up_self, pk_uLn (by omega)]
        · rw [va_up_self, va_up_ne _ _ (by decide)]
          by_cases e : j = q
          · rw [e, pk_uLs, epv]
          · rw [pk_uLn (by omega)]; exact hd8 j (by omega)
  have miss : ∀ (sl : Nat), sl < 16384 → ∀ (sv : Int32), sv = nI sl → ∀ (u : ht_W) (Lu : ht_LF) (Iu : ht_IF), ht_Mo g u M n Lu Iu → ht_fm M w u → ht_same [11, 13, 14, 15, 16, 17] Lf Lu → ht_same [10, 12] If Iu → ht_Kp Lu Iu → ht_row (Lu 15) 0 x → ht_row (Lu 15) 4 y → ∀ (H : Heap) (locs : List Loc) (ls : Array Slot), ht_I g s u H locs → lv_has ls 11 [(0, .ref (M 0)), (1, .int mk), (8, .int sv)] → W p l e (headSpec ws_M_join ({ frames := 3, cells := 0, slots := 0, locals := 130 } : Room)).room s m ([.ref (M 0), .int mk, va_rf o1, .int i1, va_rf o2, .int i2] : List Value).toArray below meth c H locs 0 0 (MQ below (ht_Qv g (fun u => ∃ (Lf2 : ht_LF) (If2 : ht_IF), ht_Mo g u M n Lf2 If2 ∧ ht_fm M w u ∧ ht_same [11, 13, 14, 15, 16, 17] Lf Lf2 ∧ ht_same [10, 12] If If2 ∧ ht_Kp Lf2 If2 ∧ ht_row (Lf2 16) 0 (ht_dgf mk x y))) ([.ref (M 0), .int mk, va_rf o1, .int i1, va_rf o2, .int i2] : List Value).toArray s 0 0 (ht_A g)) (F0 m 190 ls []) := by
    intro sl hsl sv esv u Lu Iu hMu hfm hsL hsI hKu hpx hpy H locs ls HW hl
    have hO : ht_at u (M 0) (.inr (4, [.ref (M 1), .ref (M 2), .int (n 0), .ref (M 3), .ref (M 4), .ref (M 5), .ref (M 6), .int (n 1), .ref (M 7), .int (n 2), .ref (M 8), .int (n 3), .int (n 4), .ref (M 9), .ref (M 10), .ref (M 11), .ref (M 12), .ref (M 13), .ref (M 14), .ref (M 15), .ref (M 16), .ref (M 17)]) : va_E) := hMu.1
    have h10 : ht_at u (M 10) (ht_ab g 4096 (Iu 10)) := hMu.2.2.2.2.1
    have h15 : ht_at u (M 15) (ht_al g 8 (Lu 15)) := hMu.L 15 (by decide) rfl
    refine lv_aload_n hx hb d_M_join_190 rfl (lv_at hl 0 rfl) ?_
    refine ht_get (C := R_M) (T := F_M) (N := 22) (v := .ref (M 10)) hx hb htb i_M hown HW hO rfl 14 (by decide) (htb _ wd_325) (fun _ h9 => h9) rfl d_M_join_191 ?_
    refine lv_iconst (v := 0) hx hb d_M_join_194 (by decide) ?_
    refine lv_iload_n hx hb d_M_join_195 rfl (lv_at hl 1 rfl) ?_
    refine lv_i2b (v := mk.toInt8.toInt32) hx hb d_M_join_196 rfl ?_
    refine ht_bast hx hb HW h10 (by unfold vp_in; decide) d_M_join_197 (fun H locs HW => ?_)
    have n_M_0_M_10 : (M 0) ≠ (M 10) := (hMu.ne 0 10 (by decide) (by decide) (by decide))
    have n_M_15_M_10 : (M 15) ≠ (M 10) := (hMu.ne 15 10 (by decide) (by decide) (by decide))
    obtain ⟨u1, hu1⟩ : ∃ zW : ht_W, zW = ht_up u (M 10) (ht_ab g 4096 (upd (Iu 10) 0 (vp_nar .byte mk.toInt8.toInt32))) := ⟨_, rfl⟩
    have HW : ht_I g s u1 H locs := by rw [hu1]; exact HW
    have hO : ht_at u1 (M 0) (.inr (4, [.ref (M 1), .ref (M 2), .int (n 0), .ref (M 3), .ref (M 4), .ref (M 5), .ref (M 6), .int (n 1), .ref (M 7), .int (n 2), .ref (M 8), .int (n 3), .int (n 4), .ref (M 9), .ref (M 10), .ref (M 11), .ref (M 12), .ref (M 13), .ref (M 14), .ref (M 15), .ref (M 16), .ref (M 17)]) : va_E) := by rw [hu1]; exact ht_at_ne hO n_M_0_M_10
    have h10 : ht_at u1 (M 10) (ht_ab g 4096 (upd (Iu 10) 0 (vp_nar .byte mk.toInt8.toInt32))) := by rw [hu1]; exact ht_at_self h10
    have h15 : ht_at u1 (M 15) (ht_al g 8 (Lu 15)) := by rw [hu1]; exact ht_at_ne h15 n_M_15_M_10
    refine lv_aload_n hx hb d_M_join_198 rfl (lv_at hl 0 rfl) ?_
    refine lv_iconst (v := 1) hx hb d_M_join_199 (by decide) ?_
    refine lv_aload_n hx hb d_M_join_200 rfl (lv_at hl 0 rfl) ?_
    refine ht_get (C := R_M) (T := F_M) (N := 22) (v := .ref (M 15)) hx hb htb i_M hown HW hO rfl 19 (by decide) (htb _ wd_330) (fun _ h9 => h9) rfl d_M_join_201 ?_
    refine lv_iconst (v := 0) hx hb d_M_join_204 (by decide) ?_
    have hM1 : ht_Mo g u1 M n Lu (va_up Iu 10 (upd (Iu 10) 0 (vp_nar .byte mk.toInt8.toInt32))) := by rw [hu1]; exact hMu.up10 _
    refine ht_cv HW (va_runV (own := R_M) (C := R_M) (As := [.int 1, .ref (M 15), .int 0]) (rest := []) ⟨hx, hb, hml, hown, htb⟩ (c_M_put l g u1 hM1 1 0 (by decide) (by decide) 1 0 rfl rfl) (cwV 3 htb (ht_gv wd_440 wd_442 sl_16 wd_3 g_M_put) rfl rfl rfl (by decide +kernel) ⟨Nat.le_of_ble_eq_true rfl, Nat.le_of_ble_eq_true rfl⟩) (HW.preV hO rfl _) rfl rfl hl.1 rfl (lv_room (Nat.le_of_ble_eq_true rfl)) d_M_join_205 ⟨Nat.le_of_ble_eq_true rfl, Nat.le_of_ble_eq_true rfl⟩) (fun u2 H locs pp HW => ?_)
    obtain ⟨I2, hM2, hfm2, hsI2, hold2, hnew2⟩ := pp
    have hO : ht_at u2 (M 0) (.inr (4, [.ref (M 1), .ref (M 2), .int (n 0), .ref (M 3), .ref (M 4), .ref (M 5), .ref (M 6), .int (n 1), .ref (M 7), .int (n 2), .ref (M 8), .int (n 3), .int (n 4), .ref (M 9), .ref (M 10), .ref (M 11), .ref (M 12), .ref (M 13), .ref (M 14), .ref (M 15), .ref (M 16), .ref (M 17)]) : va_E) := hM2.1
    have h15 : ht_at u2 (M 15) (ht_al g 8 (Lu 15)) := hM2.L 15 (by decide) rfl
    refine lv_aload_n hx hb d_M_join_208 rfl (lv_at hl 0 rfl) ?_
    refine lv_bipush (v := 33) hx hb d_M_join_209 (by decide) ?_
    refine lv_aload_n hx hb d_M_join_211 rfl (lv_at hl 0 rfl) ?_
    refine ht_get (C := R_M) (T := F_M) (N := 22) (v := .ref (M 15)) hx hb htb i_M hown HW hO rfl 19 (by decide) (htb _ wd_330) (fun _ h9 => h9) rfl d_M_join_212 ?_
    refine lv_iconst (v := 4) hx hb d_M_join_215 (by decide) ?_
    refine ht_cv HW (va_runV (own := R_M) (C := R_M) (As := [.int 33, .ref (M 15), .int 4]) (rest := []) ⟨hx, hb, hml, hown, htb⟩ (c_M_put l g u2 hM2 33 4 (by decide) (by decide) 33 4 rfl rfl) (cwV 3 htb (ht_gv wd_440 wd_442 sl_16 wd_3 g_M_put) rfl rfl rfl (by decide +kernel) ⟨Nat.le_of_ble_eq_true rfl, Nat.le_of_ble_eq_true rfl⟩) (HW.preV hO rfl _) rfl rfl hl.1 rfl (lv_room (Nat.le_of_ble_eq_true rfl)) d_M_join_216 ⟨Nat.le_of_ble_eq_true rfl, Nat.le_of_ble_eq_true rfl⟩) (fun u3 H locs pq HW => ?_)
    obtain ⟨I3, hM3, hfm3, hsI3, hold3, hnew3⟩ := pq
    have hO : ht_at u3 (M 0) (.inr (4, [.ref (M 1), .ref (M 2), .int (n 0), .ref (M 3), .ref (M 4), .ref (M 5), .ref (M 6), .int (n 1), .ref (M 7), .int (n 2), .ref (M 8), .int (n 3), .int (n 4), .ref (M 9), .ref (M 10), .ref (M 11), .ref (M 12), .ref (M 13), .ref (M 14), .ref (M 15), .ref (M 16), .ref (M 17)]) : va_E) := hM3.1
    refine lv_aload_n hx hb d_M_join_219 rfl (lv_at hl 0 rfl) ?_
    refine lv_bipush (v := 65) hx hb d_M_join_220 (by decide) ?_
    refine ht_cv HW (va_runV (own := R_M) (C := R_M) (As := [.int 65]) (rest := []) ⟨hx, hb, hml, hown, htb⟩ (c_M_digestOf l g u3 hM3 65 (by decide) 65 rfl) (cwV 1 htb (ht_gv wd_444 wd_446 sl_17 wd_3 g_M_digestOf) rfl rfl rfl (by decide +kernel) ⟨Nat.le_of_ble_eq_true rfl, Nat.le_of_ble_eq_true rfl⟩) (HW.preV hO rfl _) rfl rfl hl.1 rfl (lv_room (Nat.le_of_ble_eq_true rfl)) d_M_join_222 ⟨Nat.le_of_ble_eq_true rfl, Nat.le_of_ble_eq_true rfl⟩) (fun u4 H locs pd HW => ?_)
    obtain ⟨L4, I4, hM4, hfm4, hsL4, hsI4, hws4⟩ := pd
    have hdg : ht_kn (ht_sw (ht_pad (I3 10) 65) ((65 + 72) / 64)) = (ht_dgf mk x y) := by
      refine ht_jb_sw ?_ (fun j hj => ?_) (fun j hj => ?_)
      · rw [hold3 0 (by omega), hold2 0 (by omega), va_up_self, pk_us, ht_nar2]
      · rw [hold3 (1 + j) (by omega), hnew2 j hj, hpx (j / 8) (by omega)]
      · rw [hnew3 j hj, hpy (j / 8) (by omega)]
    have e12 : I4 12 = Iu 12 := by rw [hsI4 12 (by decide), hsI3 12 (by decide), hsI2 12 (by decide), va_up_ne _ _ (by decide)]
    have hO : ht_at u4 (M 0) (.inr (4, [.ref (M 1), .ref (M 2), .int (n 0), .ref (M 3), .ref (M 4), .ref (M 5), .ref (M 6), .int (n 1), .ref (M 7), .int (n 2), .ref (M 8), .int (n 3), .int (n 4), .ref (M 9), .ref (M 10), .ref (M 11), .ref (M 12), .ref (M 13), .ref (M 14), .ref (M 15), .ref (M 16), .ref (M 17)]) : va_E) := hM4.1
    have h12 : ht_at u4 (M 12) (ht_ab g 16384 (I4 12)) := hM4.2.2.2.2.2.1
    refine lv_aload_n hx hb d_M_join_225 rfl (lv_at hl 0 rfl) ?_
    refine ht_get (C := R_M) (T := F_M) (N := 22) (v := .ref (M 12)) hx hb htb i_M hown HW hO rfl 16 (by decide) (htb _ wd_327) (fun _ h9 => h9) rfl d_M_join_226 ?_
    refine lv_iload hx hb d_M_join_229 (lv_at hl 2 rfl) ?_
    refine lv_iload_n hx hb d_M_join_231 rfl (lv_at hl 1 rfl) ?_
    refine lv_iconst (v := 1) hx hb d_M_join_232 (by decide) ?_
    refine lv_iadd hx hb d_M_join_233 ?_
    refine lv_i2b (v := (mk + (1 : Int32)).toInt8.toInt32) hx hb d_M_join_234 rfl ?_
    refine ht_bast hx hb HW h12 (by rw [esv]; exact vp_in_nI (by omega) (by omega)) d_M_join_235 (fun H locs HW => ?_)
    rw [esv, nI_clamp (by omega)] at HW
    have n_M_0_M_12 : (M 0) ≠ (M 12) := (hM4.ne 0 12 (by decide) (by decide) (by decide))
    obtain ⟨u5, hu5⟩ : ∃ zW : ht_W, zW = ht_up u4 (M 12) (ht_ab g 16384 (upd (I4 12) sl (vp_nar .byte ((mk + (1 : Int32)).toInt8.toInt32)))) := ⟨_, rfl⟩
    have HW : ht_I g s u5 H locs := by rw [hu5]; exact HW
    have hO : ht_at u5 (M 0) (.inr (4, [.ref (M 1), .ref (M 2), .int (n 0), .ref (M 3), .ref (M 4), .ref (M 5), .ref (M 6), .int (n 1), .ref (M 7), .int (n 2), .ref (M 8), .int (n 3), .int (n 4), .ref (M 9), .ref (M 10), .ref (M 11), .ref (M 12), .ref (M 13), .ref (M 14), .ref (M 15), .ref (M 16), .ref (M 17)]) : va_E) := by rw [hu5]; exact ht_at_ne hO n_M_0_M_12
    have h12 : ht_at u5 (M 12) (ht_ab g 16384 (upd (I4 12) sl (vp_nar .byte ((mk + (1 : Int32)).toInt8.toInt32)))) := by rw [hu5]; exact ht_at_self h12
    refine lv_iconst (v := 0) hx hb d_M_join_236 (by decide) ?_
    refine lv_istore (lv' := [(10, .int 0), (0, .ref (M 0)), (1, .int mk), (8, .int sv)]) hx hb d_M_join_237 hl (by decide) rfl (fun ls hl => ?_)
    refine loop3 sl hsl sv esv _ hdg 8 0 rfl u5 L4 _ (by rw [hu5]; exact hM4.up12 _) (by rw [hu5]; exact ((((hfm.trans (by rw [hu1]; exact ht_fm.rf.up 10 (by decide))).trans hfm2).trans hfm3).trans hfm4).up 12 (by decide)) (hsL.trans (hsL4.mono (by decide))) ((((hsI.up (by decide)).trans (hsI2.mono (by decide))).trans (hsI3.mono (by decide))).trans (hsI4.mono (by decide)) |>.up (by decide)) (fun s9 hs9 hn9 => (hKu s9 hs9).cg (fun i _ => by rw [hsL4 13 (by decide)]) (fun i _ => by rw [hsL4 14 (by decide)]) (by rw [va_up_self, pk_un hn9, e12])) (by rw [va_up_self, pk_us]; exact ht_mk1 hmk) (by rw [hsL4 15 (by decide)]; exact hpx) (by rw [hsL4 15 (by decide)]; exact hpy) hws4 (fun j hj => absurd hj (Nat.not_lt_zero j)) _ _ _ 0 rfl HW (lv_sub hl [1, 3, 0] rfl)
  have no : ∀ (sl : Nat), sl < 16384 → ∀ (sv : Int32), sv = nI sl → ∀ (u : ht_W) (Lu : ht_LF) (Iu : ht_IF), ht_Mo g u M n Lu Iu → ht_fm M w u → ht_same [11, 13, 14, 15, 16, 17] Lf Lu → ht_same [10, 12] If Iu → ht_Kp Lu Iu → ht_row (Lu 15) 0 x → ht_row (Lu 15) 4 y → ∀ (H : Heap) (locs : List Loc) (ls : Array Slot) (kv : Int32), ht_I g s u H locs → lv_has ls 11 [(0, .ref (M 0)), (1, .int mk), (8, .int sv), (9, .int 0), (10, .int kv)] → W p l e (headSpec ws_M_join ({ frames := 3, cells := 0, slots := 0, locals := 130 } : Room)).room s m ([.ref (M 0), .int mk, va_rf o1, .int i1, va_rf o2, .int i2] : List Value).toArray below meth c H locs 0 0 (MQ below (ht_Qv g (fun u => ∃ (Lf2 : ht_LF) (If2 : ht_IF), ht_Mo g u M n Lf2 If2 ∧ ht_fm M w u ∧ ht_same [11, 13, 14, 15, 16, 17] Lf Lf2 ∧ ht_same [10, 12] If If2 ∧ ht_Kp Lf2 If2 ∧ ht_row (Lf2 16) 0 (ht_dgf mk x y))) ([.ref (M 0), .int mk, va_rf o1, .int i1, va_rf o2, .int i2] : List Value).toArray s 0 0 (ht_A g)) (F0 m 136 ls []) := by
    intro sl hsl sv esv u Lu Iu hMu hfm hsL hsI hKu hpx hpy H locs ls kv HW hl
    refine lv_iload hx hb d_M_join_136 (lv_at hl 4 rfl) ?_
    refine lv_bipush (v := 8) hx hb d_M_join_138 (by decide) ?_
    refine lv_icmp_ge (tgt := 185) hx hb d_M_join_140 (by decide) (fun c140 => ?_) (fun c140 => ?_)
    · refine lv_iload hx hb d_M_join_185 (lv_at hl 3 rfl) ?_
      refine lv_if_ne (tgt := 305) hx hb d_M_join_187 (by decide) (fun c187 => ?_) (fun c187 => ?_)
      · exact absurd rfl c187
      · exact miss sl hsl sv esv u Lu Iu hMu hfm hsL hsI hKu hpx hpy _ _ _ HW (lv_sub hl [0, 1, 2] rfl)
    · refine lv_iload hx hb d_M_join_143 (lv_at hl 3 rfl) ?_
      refine lv_if_eq (tgt := 185) hx hb d_M_join_145 (by decide) (fun c145 => ?_) (fun c145 => ?_)
      · refine lv_iload hx hb d_M_join_185 (lv_at hl 3 rfl) ?_
        refine lv_if_ne (tgt := 305) hx hb d_M_join_187 (by decide) (fun c187 => ?_) (fun c187 => ?_)
        · exact absurd rfl c187
        · exact miss sl hsl sv esv u Lu Iu hMu hfm hsL hsI hKu hpx hpy _ _ _ HW (lv_sub hl [0, 1, 2] rfl)
      · exact absurd rfl c145
  have loop2 : ∀ (sl : Nat), sl < 16384 → ∀ (sv : Int32), sv = nI sl → ∀ (u : ht_W) (Lu : ht_LF) (Iu : ht_IF), ht_Mo g u M n Lu Iu → ht_fm M w u → ht_same [11, 13, 14, 15, 16, 17] Lf Lu → ht_same [10, 12] If Iu → ht_Kp Lu Iu → ht_row (Lu 15) 0 x → ht_row (Lu 15) 4 y → Iu 12 sl = mk + 1 → ∀ (r q : Nat), q + r = 8 → (∀ j, j < q → Lu 13 (8 * sl + j) = Lu 15 j) → ∀ (H : Heap) (locs : List Loc) (ls : Array Slot) (kv : Int32), kv = nI q → ht_I g s u H locs → lv_has ls 11 [(0, .ref (M 0)), (1, .int mk), (8, .int sv), (9, .int 1), (10, .int kv)] → W p l e (headSpec ws_M_join ({ frames := 3, cells := 0, slots := 0, locals := 130 } : Room)).room s m ([.ref (M 0), .int mk, va_rf o1, .int i1, va_rf o2, .int i2] : List Value).toArray below meth c H locs 0 0 (MQ below (ht_Qv g (fun u => ∃ (Lf2 : ht_LF) (If2 : ht_IF), ht_Mo g u M n Lf2 If2 ∧ ht_fm M w u ∧ ht_same [11, 13, 14, 15, 16, 17] Lf Lf2 ∧ ht_same [10, 12] If If2 ∧ ht_Kp Lf2 If2 ∧ ht_row (Lf2 16) 0 (ht_dgf mk x y))) ([.ref (M 0), .int mk, va_rf o1, .int i1, va_rf o2, .int i2] : List Value).toArray s 0 0 (ht_A g)) (F0 m 136 ls []) := by
    intro sl hsl sv esv u Lu Iu hMu hfm hsL hsI hKu hpx hpy h12 r
    induction r with
    | zero =>
      intro q hq hk8 H locs ls kv ekv HW hl
      have hO : ht_at u (M 0) (.inr (4, [.ref (M 1), .ref (M 2), .int (n 0), .ref (M 3), .ref (M 4), .ref (M 5), .ref (M 6), .int (n 1), .ref (M 7), .int (n 2), .ref (M 8), .int (n 3), .int (n 4), .ref (M 9), .ref (M 10), .ref (M 11), .ref (M 12), .ref (M 13), .ref (M 14), .ref (M 15), .ref (M 16), .ref (M 17)]) : va_E) := hMu.1
      have h13 : ht_at u (M 13) (ht_al g 131072 (Lu 13)) := hMu.L 13 (by decide) rfl
      have h15 : ht_at u (M 15) (ht_al g 8 (Lu 15)) := hMu.L 15 (by decide) rfl
      refine lv_iload hx hb d_M_join_136 (lv_at hl 4 rfl) ?_
      refine lv_bipush (v := 8) hx hb d_M_join_138 (by decide) ?_
      refine lv_icmp_ge (tgt := 185) hx hb d_M_join_140 (by decide) (fun c140 => ?_) (fun c140 => ?_)
      · refine lv_iload hx hb d_M_join_185 (lv_at hl 3 rfl) ?_
        refine lv_if_ne (tgt := 305) hx hb d_M_join_187 (by decide) (fun c187 => ?_) (fun c187 => ?_)
        · refine lv_iconst (v := 0) hx hb d_M_join_305 (by decide) ?_
          refine lv_istore (lv' := [(10, .int 0), (0, .ref (M 0)), (1, .int mk), (8, .int sv), (9, .int 1)]) hx hb d_M_join_306 hl (by decide) rfl (fun ls hl => ?_)
          have e13x : ht_rw (Lu 13) (8 * sl) = x := ht_rw_row (fun j hj => by rw [hk8 j (by omega), ← hpx j hj, Nat.zero_add])
          have e13y : ht_rw (Lu 13) (8 * sl + 4) = y := ht_rw_row (fun j hj => by rw [Nat.add_assoc, hk8 (4 + j) (by omega), ← hpy j hj])
          have hr14 := hKu sl hsl mk hmk h12
          rw [e13x, e13y] at hr14
          exact loop5 sl hsl sv esv 4 0 rfl u Lu Iu hMu hfm hsL hsI hKu hr14 (fun j hj => absurd hj (Nat.not_lt_zero j)) _ _ _ 0 rfl HW (lv_sub hl [1, 3, 0] rfl)
        · exact absurd c187 (by decide)
      · exact absurd (nI_le (show 8 ≤ q by omega) (by omega)) (by rw [ekv] at c140; exact c140)
    | succ r ih =>
      intro q hq hk8 H locs ls kv ekv HW hl
      have hO : ht_at u (M 0) (.inr (4, [.ref (M 1), .ref (M 2), .int (n 0), .ref (M 3), .ref (M 4), .ref (M 5), .ref (M 6), .int (n 1), .ref (M 7), .int (n 2), .ref (M 8), .int (n 3), .int (n 4), .ref (M 9), .ref (M 10), .ref (M 11), .ref (M 12), .ref (M 13), .ref (M 14), .ref (M 15), .ref (M 16), .ref (M 17)]) : va_E) := hMu.1
      have h13 : ht_at u (M 13) (ht_al g 131072 (Lu 13)) := hMu.L 13 (by decide) rfl
      have h15 : ht_at u (M 15) (ht_al g 8 (Lu 15)) := hMu.L 15 (by decide) rfl
      refine lv_iload hx hb d_M_join_136 (lv_at hl 4 rfl) ?_
      refine lv_bipush (v := 8) hx hb d_M_join_138 (by decide) ?_
      refine lv_icmp_ge (tgt := 185) hx hb d_M_join_140 (by decide) (fun c140 => ?_) (fun c140 => ?_)
      · exact absurd (show nI 8 ≤ nI q by rw [ekv] at c140; exact c140) (nI_ge (by omega) (by omega))
      · refine lv_iload hx hb d_M_join_143 (lv_at hl 3 rfl) ?_
        refine lv_if_eq (tgt := 185) hx hb d_M_join_145 (by decide) (fun c145 => ?_) (fun c145 => ?_)
        · exact absurd c145 (by decide)
        · refine lv_aload_n hx hb d_M_join_148 rfl (lv_at hl 0 rfl) ?_
          refine ht_get (C := R_M) (T := F_M) (N := 22) (v := .ref (M 13)) hx hb htb i_M hown HW hO rfl 17 (by decide) (htb _ wd_328) (fun _ h9 => h9) rfl d_M_join_149 ?_
          refine lv_bipush (v := 8) hx hb d_M_join_152 (by decide) ?_
          refine lv_iload hx hb d_M_join_154 (lv_at hl 2 rfl) ?_
          refine lv_imul hx hb d_M_join_156 ?_
          refine lv_iload hx hb d_M_join_157 (lv_at hl 4 rfl) ?_
          refine lv_iadd hx hb d_M_join_159 ?_
          refine lv_topi (fun ia eia => ?_)
          have hia : ia = nI (8 * sl + q) := by rw [eia, esv, ekv, show (8 : Int32) = nI 8 from rfl, pk_mul, nI_add]
          refine ht_lald hx hb HW h13 (by rw [hia]; exact vp_in_nI (by omega) (by omega)) d_M_join_160 ?_
          refine lv_topl (fun va eva => ?_)
          have eva : va = (Lu 13) (8 * sl + q) := by rw [eva, hia, nI_clamp (by omega)]
          refine lv_aload_n hx hb d_M_join_161 rfl (lv_at hl 0 rfl) ?_
          refine ht_get (C := R_M) (T := F_M) (N := 22) (v := .ref (M 15)) hx hb htb i_M hown HW hO rfl 19 (by decide) (htb _ wd_330) (fun _ h9 => h9) rfl d_M_join_162 ?_
          refine lv_iload hx hb d_M_join_165 (lv_at hl 4 rfl) ?_
          refine ht_lald hx hb HW h15 (by rw [ekv]; exact vp_in_nI (by omega) (by omega)) d_M_join_167 ?_
          refine lv_topl (fun vb evb => ?_)
          have evb : vb = (Lu 15) q := by rw [evb, ekv, nI_clamp (by omega)]
          refine W.lcmp hx hb d_M_join_168 ?_
          refine lv_if_ne (tgt := 176) hx hb d_M_join_169 (by decide) (fun c169 => ?_) (fun c169 => ?_)
          · refine lv_iconst (v := 0) hx hb d_M_join_176 (by decide) ?_
            refine lv_istore (lv' := [(9, .int 0), (0, .ref (M 0)), (1, .int mk), (8, .int sv), (10, .int kv)]) hx hb d_M_join_177 hl (by decide) rfl (fun ls hl => ?_)
            obtain ⟨kv2, ekv2⟩ : ∃ zI : Int32, zI = kv + 1 := ⟨_, rfl⟩
            refine lv_iinc (v := kv2) (lv' := [(10, .int kv2), (9, .int 0), (0, .ref (M 0)), (1, .int mk), (8, .int sv)]) hx hb d_M_join_179 hl (k := 4) rfl (by rw [ekv2]; rfl) (by decide) rfl (fun ls hl => ?_)
            refine lv_goto (tgt := 136) hx hb d_M_join_182 (by decide) ?_
            exact no sl hsl sv esv u Lu Iu hMu hfm hsL hsI hKu hpx hpy _ _ _ kv2 HW (lv_sub hl [2, 3, 4, 1, 0] rfl)
          · have hsame : Lu 13 (8 * sl + q) = Lu 15 q := by
              rw [← eva, ← evb]
              exact (lg_cmp_eq va vb).mp c169
            refine lv_iconst (v := 1) hx hb d_M_join_172 (by decide) ?_
            refine lv_goto (tgt := 177) hx hb d_M_join_173 (by decide) ?_
            refine lv_istore (lv' := [(9, .int 1), (0, .ref (M 0)), (1, .int mk), (8, .int sv), (10, .int kv)]) hx hb d_M_join_177 hl (by decide) rfl (fun ls hl => ?_)
            obtain ⟨kv2, ekv2⟩ : ∃ zI : Int32, zI = kv + 1 := ⟨_, rfl⟩
            refine lv_iinc (v := kv2) (lv' := [(10, .int kv2), (9, .int 1), (0, .ref (M 0)), (1, .int mk), (8, .int sv)]) hx hb d_M_join_179 hl (k := 4) rfl (by rw [ekv2]; rfl) (by decide) rfl (fun ls hl => ?_)
            refine lv_goto (tgt := 136) hx hb d_M_join_182 (by decide) ?_
            exact ih (q + 1) (by omega) (fun j hj => by
              by_cases e : j = q
              · rw [e]; exact hsame
              · exact hk8 j (by omega)) _ _ _ kv2 (by rw [ekv2, ekv, nI_1]) HW (lv_sub hl [2, 3, 4, 1, 0] rfl)
  have mid : ∀ (u : ht_W) (Lu : ht_LF) (Iu : ht_IF), ht_Mo g u M n Lu Iu → ht_fm M w u → ht_same [11, 13, 14, 15, 16, 17] Lf Lu → ht_same [10, 12] If Iu → ht_Kp Lu Iu → ht_row (Lu 15) 0 x → ht_row (Lu 15) 4 y → ∀ (H : Heap) (locs : List Loc) (ls : Array Slot) (mx : Int64), ht_I g s u H locs → lv_has ls 11 [(0, .ref (M 0)), (1, .int mk), (6, .long mx)] → W p l e (headSpec ws_M_join ({ frames := 3, cells := 0, slots := 0, locals := 130 } : Room)).room s m ([.ref (M 0), .int mk, va_rf o1, .int i1, va_rf o2, .int i2] : List Value).toArray below meth c H locs 0 0 (MQ below (ht_Qv g (fun u => ∃ (Lf2 : ht_LF) (If2 : ht_IF), ht_Mo g u M n Lf2 If2 ∧ ht_fm M w u ∧ ht_same [11, 13, 14, 15, 16, 17] Lf Lf2 ∧ ht_same [10, 12] If If2 ∧ ht_Kp Lf2 If2 ∧ ht_row (Lf2 16) 0 (ht_dgf mk x y))) ([.ref (M 0), .int mk, va_rf o1, .int i1, va_rf o2, .int i2] : List Value).toArray s 0 0 (ht_A g)) (F0 m 96 ls []) := by
    intro u Lu Iu hMu hfm hsL hsI hKu hpx hpy H locs ls mx HW hl
    have hO : ht_at u (M 0) (.inr (4, [.ref (M 1), .ref (M 2), .int (n 0), .ref (M 3), .ref (M 4), .ref (M 5), .ref (M 6), .int (n 1), .ref (M 7), .int (n 2), .ref (M 8), .int (n 3), .int (n 4), .ref (M 9), .ref (M 10), .ref (M 11), .ref (M 12), .ref (M 13), .ref (M 14), .ref (M 15), .ref (M 16), .ref (M 17)]) : va_E) := hMu.1
    have h12 : ht_at u (M 12) (ht_ab g 16384 (Iu 12)) := hMu.2.2.2.2.2.1
    refine lv_lload hx hb d_M_join_96 (lv_at hl 2 rfl) ?_
    refine lv_lload hx hb d_M_join_98 (lv_at hl 2 rfl) ?_
    refine lv_bipush (v := 29) hx hb d_M_join_100 (by decide) ?_
    refine lv_lshr (v := mx >>> ((29 : Int32).toInt64 &&& 63)) hx hb d_M_join_102 rfl ?_
    refine lv_lxor hx hb d_M_join_103 ?_
    refine lv_ldc2 (v := 16384) hx hb hown (htb _ wd_436) d_M_join_104 ?_
    refine ht_cl HW (va_runS (own := R_M) (As := [.long (mx ^^^ (mx >>> ((29 : Int32).toInt64 &&& 63))), .long 16384]) (rest := []) ⟨hx, hb, hml, hown, htb⟩ (c_JM_floorMod l g u _ _ rfl) (va_cwS 2 htb (ht_gs wd_437 wd_438 wd_10 g_JM_floorMod) rfl rfl rfl (by decide +kernel) ⟨Nat.le_of_ble_eq_true rfl, Nat.le_of_ble_eq_true rfl⟩) (HW.preS _) rfl rfl hl.1 rfl (lv_room (Nat.le_of_ble_eq_true rfl)) d_M_join_107 ⟨Nat.le_of_ble_eq_true rfl, Nat.le_of_ble_eq_true rfl⟩) (fun fl u1 H locs pu1 HW => ?_)
    obtain ⟨hfl, eu1⟩ := pu1
    subst eu1
    obtain ⟨sl, hsl, efl⟩ := hfl
    refine lv_l2i (v := fl.toInt32) hx hb d_M_join_110 rfl ?_
    refine lv_topi (fun sv esv => ?_)
    refine lv_istore (lv' := [(8, .int sv), (0, .ref (M 0)), (1, .int mk), (6, .long mx)]) hx hb d_M_join_111 hl (by decide) rfl (fun ls hl => ?_)
    have esv : sv = nI sl := by
      rw [esv, efl]
      exact ht_l2n (by omega)
    refine lv_aload_n hx hb d_M_join_113 rfl (lv_at hl 1 rfl) ?_
    refine ht_get (C := R_M) (T := F_M) (N := 22) (v := .ref (M 12)) hx hb htb i_M hown HW hO rfl 16 (by decide) (htb _ wd_327) (fun _ h9 => h9) rfl d_M_join_114 ?_
    refine lv_iload hx hb d_M_join_117 (lv_at hl 0 rfl) ?_
    refine ht_bald hx hb HW h12 (by rw [esv]; exact vp_in_nI (by omega) (by omega)) d_M_join_119 ?_
    refine lv_topi (fun kb ekb => ?_)
    have ekb : kb = (Iu 12) sl := by rw [ekb, esv, nI_clamp (by omega)]
    refine lv_iload_n hx hb d_M_join_120 rfl (lv_at hl 2 rfl) ?_
    refine lv_iconst (v := 1) hx hb d_M_join_121 (by decide) ?_
    refine lv_iadd hx hb d_M_join_122 ?_
    refine lv_icmp_ne (tgt := 130) hx hb d_M_join_123 (by decide) (fun c123 => ?_) (fun c123 => ?_)
    · refine lv_iconst (v := 0) hx hb d_M_join_130 (by decide) ?_
      refine lv_istore (lv' := [(9, .int 0), (8, .int sv), (0, .ref (M 0)), (1, .int mk), (6, .long mx)]) hx hb d_M_join_131 hl (by decide) rfl (fun ls hl => ?_)
      refine lv_iconst (v := 0) hx hb d_M_join_133 (by decide) ?_
      refine lv_istore (lv' := [(10, .int 0), (9, .int 0), (8, .int sv), (0, .ref (M 0)), (1, .int mk), (6, .long mx)]) hx hb d_M_join_134 hl (by decide) rfl (fun ls hl => ?_)
      exact no sl hsl sv esv u Lu Iu hMu hfm hsL hsI hKu hpx hpy _ _ _ 0 HW (lv_sub hl [3, 4, 2, 1, 0] rfl)
    · have h12 : Iu 12 sl = mk + 1 := by rw [← ekb]; exact c123
      refine lv_iconst (v := 1) hx hb d_M_join_126 (by decide) ?_
      refine lv_goto (tgt := 131) hx hb d_M_join_127 (by decide) ?_
      refine lv_istore (lv' := [(9, .int 1), (8, .int sv), (0, .ref (M 0)), (1, .int mk), (6, .long mx)]) hx hb d_M_join_131 hl (by decide) rfl (fun ls hl => ?_)
      refine lv_iconst (v := 0) hx hb d_M_join_133 (by decide) ?_
      refine lv_istore (lv' := [(10, .int 0), (9, .int 1), (8, .int sv), (0, .ref (M 0)), (1, .int mk), (6, .long mx)]) hx hb d_M_join_134 hl (by decide) rfl (fun ls hl => ?_)
      exact loop2 sl hsl sv esv u Lu Iu hMu hfm hsL hsI hKu hpx hpy h12 8 0 rfl (fun j hj => absurd hj (Nat.not_lt_zero j)) _ _ _ 0 rfl HW (lv_sub hl [3, 4, 2, 1, 0] rfl)
  have loop1 : ∀ (r q : Nat), q + r = 4 → ∀ (u : ht_W) (Lu : ht_LF), ht_Mo g u M n Lu If → ht_fm M w u → ht_same [11, 13, 14, 15, 16, 17] Lf Lu → ht_same [15] Lf Lu → (∀ j, j < q → Lu 15 j = ht_kf x j ∧ Lu 15 (4 + j) = ht_kf y j) → ∀ (H : Heap) (locs : List Loc) (ls : Array Slot) (mx : Int64) (kv : Int32), kv = nI q → ht_I g s u H locs → lv_has ls 11 [(0, .ref (M 0)), (1, .int mk), (2, va_rf o1), (3, .int i1), (4, va_rf o2), (5, .int i2), (6, .long mx), (8, .int kv)] → W p l e (headSpec ws_M_join ({ frames := 3, cells := 0, slots := 0, locals := 130 } : Room)).room s m ([.ref (M 0), .int mk, va_rf o1, .int i1, va_rf o2, .int i2] : List Value).toArray below meth c H locs 0 0 (MQ below (ht_Qv g (fun u => ∃ (Lf2 : ht_LF) (If2 : ht_IF), ht_Mo g u M n Lf2 If2 ∧ ht_fm M w u ∧ ht_same [11, 13, 14, 15, 16, 17] Lf Lf2 ∧ ht_same [10, 12] If If2 ∧ ht_Kp Lf2 If2 ∧ ht_row (Lf2 16) 0 (ht_dgf mk x y))) ([.ref (M 0), .int mk, va_rf o1, .int i1, va_rf o2, .int i2] : List Value).toArray s 0 0 (ht_A g)) (F0 m 7 ls []) := by
    intro r
    induction r with
    | zero =>
      intro q hq u Lu hMu hfm hsL hs15 hp4 H locs ls mx kv ekv HW hl
      have hO : ht_at u (M 0) (.inr (4, [.ref (M 1), .ref (M 2), .int (n 0), .ref (M 3), .ref (M 4), .ref (M 5), .ref (M 6), .int (n 1), .ref (M 7), .int (n 2), .ref (M 8), .int (n 3), .int (n 4), .ref (M 9), .ref (M 10), .ref (M 11), .ref (M 12), .ref (M 13), .ref (M 14), .ref (M 15), .ref (M 16), .ref (M 17)]) : va_E) := hMu.1
      have h15 : ht_at u (M 15) (ht_al g 8 (Lu 15)) := hMu.L 15 (by decide) rfl
      refine lv_iload hx hb d_M_join_7 (lv_at hl 7 rfl) ?_
      refine lv_iconst (v := 4) hx hb d_M_join_9 (by decide) ?_
      refine lv_icmp_ge (tgt := 96) hx hb d_M_join_10 (by decide) (fun c10 => ?_) (fun c10 => ?_)
      · exact mid u Lu If hMu hfm hsL ht_same.rf (hKp.cg (hs15 13 (by decide)) (hs15 14 (by decide)) rfl) (fun j hj => by rw [Nat.zero_add]; exact (hp4 j (by omega)).1) (fun j hj => (hp4 j (by omega)).2) _ _ _ mx HW (lv_sub hl [0, 1, 6] rfl)
      · exact absurd (nI_le (show 4 ≤ q by omega) (by omega)) (by rw [ekv] at c10; exact c10)
    | succ r ih =>
      intro q hq u Lu hMu hfm hsL hs15 hp4 H locs ls mx kv ekv HW hl
      have hO : ht_at u (M 0) (.inr (4, [.ref (M 1), .ref (M 2), .int (n 0), .ref (M 3), .ref (M 4), .ref (M 5), .ref (M 6), .int (n 1), .ref (M 7), .int (n 2), .ref (M 8), .int (n 3), .int (n 4), .ref (M 9), .ref (M 10), .ref (M 11), .ref (M 12), .ref (M 13), .ref (M 14), .ref (M 15), .ref (M 16), .ref (M 17)]) : va_E) := hMu.1
      have h15 : ht_at u (M 15) (ht_al g 8 (Lu 15)) := hMu.L 15 (by decide) rfl
      rcases id ha1 with ⟨eo1, ex1⟩ | ⟨c1, j1, hk1, hl1, eo1, ei1, hle1, hro1⟩
      · subst eo1
        rcases id ha2 with ⟨eo2, ex2⟩ | ⟨c2, j2, hk2, hl2, eo2, ei2, hle2, hro2⟩
        · subst eo2
          refine lv_iload hx hb d_M_join_7 (lv_at hl 7 rfl) ?_
          refine lv_iconst (v := 4) hx hb d_M_join_9 (by decide) ?_
          refine lv_icmp_ge (tgt := 96) hx hb d_M_join_10 (by decide) (fun c10 => ?_) (fun c10 => ?_)
          · exact absurd (show nI 4 ≤ nI q by rw [ekv] at c10; exact c10) (nI_ge (by omega) (by omega))
          · refine lv_aload_n hx hb d_M_join_13 rfl (lv_at hl 0 rfl) ?_
            refine ht_get (C := R_M) (T := F_M) (N := 22) (v := .ref (M 15)) hx hb htb i_M hown HW hO rfl 19 (by decide) (htb _ wd_330) (fun _ h9 => h9) rfl d_M_join_14 ?_
            refine lv_iload hx hb d_M_join_17 (lv_at hl 7 rfl) ?_
            refine lv_aload_nN hx hb d_M_join_19 rfl (lv_at hl 2 rfl) ?_
            refine lv_ifnonnullN hx hb d_M_join_20 ?_
            refine lv_lconst (v := 0) hx hb d_M_join_23 (by decide) ?_
            refine lv_goto (tgt := 33) hx hb d_M_join_24 (by decide) ?_
            have e1x : (0 : Int64) = ht_kf x q := by rw [ex1]; exact (ht_kz0 q).symm
            skip
            refine ht_last hx hb HW h15 (by rw [ekv]; exact vp_in_nI (by omega) (by omega)) d_M_join_33 (fun H locs HW => ?_)
            rw [ekv, nI_clamp (by omega)] at HW
            have n_M_0_M_15 : (M 0) ≠ (M 15) := (hMu.ne 0 15 (by decide) (by decide) (by decide))
            obtain ⟨u1, hu1⟩ : ∃ zW : ht_W, zW = ht_up u (M 15) (ht_al g 8 (vp_updL (Lu 15) q (0 : Int64))) := ⟨_, rfl⟩
            have HW : ht_I g s u1 H locs := by rw [hu1]; exact HW
            have hO : ht_at u1 (M 0) (.inr (4, [.ref (M 1), .ref (M 2), .int (n 0), .ref (M 3), .ref (M 4), .ref (M 5), .ref (M 6), .int (n 1), .ref (M 7), .int (n 2), .ref (M 8), .int (n 3), .int (n 4), .ref (M 9), .ref (M 10), .ref (M 11), .ref (M 12), .ref (M 13), .ref (M 14), .ref (M 15), .ref (M 16), .ref (M 17)]) : va_E) := by rw [hu1]; exact ht_at_ne hO n_M_0_M_15
            have h15 : ht_at u1 (M 15) (ht_al g 8 (vp_updL (Lu 15) q (0 : Int64))) := by rw [hu1]; exact ht_at_self h15
            refine lv_aload_n hx hb d_M_join_34 rfl (lv_at hl 0 rfl) ?_
            refine ht_get (C := R_M) (T := F_M) (N := 22) (v := .ref (M 15)) hx hb htb i_M hown HW hO rfl 19 (by decide) (htb _ wd_330) (fun _ h9 => h9) rfl d_M_join_35 ?_
            refine lv_iconst (v := 4) hx hb d_M_join_38 (by decide) ?_
            refine lv_iload hx hb d_M_join_39 (lv_at hl 7 rfl) ?_
            refine lv_iadd hx hb d_M_join_41 ?_
            refine lv_topi (fun ib eib => ?_)
            have hib : ib = nI (4 + q) := by rw [eib, ekv, show (4 : Int32) = nI 4 from rfl, nI_add]
            refine lv_aloadN hx hb d_M_join_42 (lv_at hl 4 rfl) ?_
            refine lv_ifnonnullN hx hb d_M_join_44 ?_
            refine lv_lconst (v := 0) hx hb d_M_join_47 (by decide) ?_
            refine lv_goto (tgt := 59) hx hb d_M_join_48 (by decide) ?_
            have e2x : (0 : Int64) = ht_kf y q := by rw [ex2]; exact (ht_kz0 q).symm
            refine ht_last hx hb HW h15 (by rw [hib]; exact vp_in_nI (by omega) (by omega)) d_M_join_59 (fun H locs HW => ?_)
            rw [hib, nI_clamp (by omega)] at HW
            obtain ⟨u2, hu2⟩ : ∃ zW : ht_W, zW = ht_up u1 (M 15) (ht_al g 8 (vp_updL (vp_updL (Lu 15) q (0 : Int64)) (4 + q) (0 : Int64))) := ⟨_, rfl⟩
            have HW : ht_I g s u2 H locs := by rw [hu2]; exact HW
            have hO : ht_at u2 (M 0) (.inr (4, [.ref (M 1), .ref (M 2), .int (n 0), .ref (M 3), .ref (M 4), .ref (M 5), .ref (M 6), .int (n 1), .ref (M 7), .int (n 2), .ref (M 8), .int (n 3), .int (n 4), .ref (M 9), .ref (M 10), .ref (M 11), .ref (M 12), .ref (M 13), .ref (M 14), .ref (M 15), .ref (M 16), .ref (M 17)]) : va_E) := by rw [hu2]; exact ht_at_ne hO n_M_0_M_15
            have h15 : ht_at u2 (M 15) (ht_al g 8 (vp_updL (vp_updL (Lu 15) q (0 : Int64)) (4 + q) (0 : Int64))) := by rw [hu2]; exact ht_at_self h15
            refine lv_ldc2 (v := 31) hx hb hown (htb _ wd_434) d_M_join_60 ?_
            refine lv_lload hx hb d_M_join_63 (lv_at hl 6 rfl) ?_
            refine lv_lmul hx hb d_M_join_65 ?_
            refine lv_aload_n hx hb d_M_join_66 rfl (lv_at hl 0 rfl) ?_
            refine ht_get (C := R_M) (T := F_M) (N := 22) (v := .ref (M 15)) hx hb htb i_M hown HW hO rfl 19 (by decide) (htb _ wd_330) (fun _ h9 => h9) rfl d_M_join_67 ?_
            refine lv_iload hx hb d_M_join_70 (lv_at hl 7 rfl) ?_
            refine ht_lald hx hb HW h15 (by rw [ekv]; exact vp_in_nI (by omega) (by omega)) d_M_join_72 ?_
            refine lv_topl (fun p1 ep1 => ?_)
            have ep1 : p1 = (vp_updL (vp_updL (Lu 15) q (0 : Int64)) (4 + q) (0 : Int64)) q := by rw [ep1, ekv, nI_clamp (by omega)]
            refine lv_ladd hx hb d_M_join_73 ?_
            refine lv_ldc2 (v := 17) hx hb hown (htb _ wd_435) d_M_join_74 ?_
            refine lv_aload_n hx hb d_M_join_77 rfl (lv_at hl 0 rfl) ?_
            refine ht_get (C := R_M) (T := F_M) (N := 22) (v := .ref (M 15)) hx hb htb i_M hown HW hO rfl 19 (by decide) (htb _ wd_330) (fun _ h9 => h9) rfl d_M_join_78 ?_
            refine lv_iconst (v := 4) hx hb d_M_join_81 (by decide) ?_
            refine lv_iload hx hb d_M_join_82 (lv_at hl 7 rfl) ?_
            refine lv_iadd hx hb d_M_join_84 ?_
            refine lv_topi (fun ie eie => ?_)
            have hie : ie = nI (4 + q) := by rw [eie, ekv, show (4 : Int32) = nI 4 from rfl, nI_add]
            refine ht_lald hx hb HW h15 (by rw [hie]; exact vp_in_nI (by omega) (by omega)) d_M_join_85 ?_
            refine lv_topl (fun p2 ep2 => ?_)
            have ep2 : p2 = (vp_updL (vp_updL (Lu 15) q (0 : Int64)) (4 + q) (0 : Int64)) (4 + q) := by rw [ep2, hie, nI_clamp (by omega)]
            refine lv_lmul hx hb d_M_join_86 ?_
            refine lv_ladd hx hb d_M_join_87 ?_
            refine lv_topl (fun mx2 emx2 => ?_)
            refine lv_lstore (lv' := [(6, .long mx2), (0, .ref (M 0)), (1, .int mk), (2, .null), (3, .int i1), (4, .null), (5, .int i2), (8, .int kv)]) hx hb d_M_join_88 hl (by decide) rfl (fun ls hl => ?_)
            obtain ⟨kv2, ekv2⟩ : ∃ zI : Int32, zI = kv + 1 := ⟨_, rfl⟩
            refine lv_iinc (v := kv2) (lv' := [(8, .int kv2), (6, .long mx2), (0, .ref (M 0)), (1, .int mk), (2, .null), (3, .int i1), (4, .null), (5, .int i2)]) hx hb d_M_join_90 hl (k := 7) rfl (by rw [ekv2]; rfl) (by decide) rfl (fun ls hl => ?_)
            refine lv_goto (tgt := 7) hx hb d_M_join_93 (by decide) ?_
            refine ih (q + 1) (by omega) u2 _ (by rw [hu2, hu1]; exact (hMu.upL 15 (by decide) rfl _).upL 15 (by decide) rfl _) (by rw [hu2, hu1]; exact (hfm.up 15 (by decide)).up 15 (by decide)) ((hsL.up (by decide)).up (by decide)) ((hs15.up (by decide)).up (by decide)) (fun j hj => ?_) _ _ _ mx2 kv2 (by rw [ekv2, ekv, nI_1]) HW (lv_sub hl [2, 3, 4, 5, 6, 7, 1, 0] rfl)
            rw [va_up_self]
            by_cases e : j = q
            · rw [e, pk_uLs, pk_uLn (by omega), pk_uLs]
              exact ⟨e1x, e2x⟩
            · rw [pk_uLn (by omega), pk_uLn (by omega), pk_uLn (by omega), pk_uLn (by omega)]
              exact hp4 j (by omega)
        · subst eo2
          have hc2 := hMu.L c2 (by omega) hl2
          have nc2 : M c2 ≠ M 15 := hMu.ne c2 15 (by omega) (by decide) (by omega)
          have hr2 : ht_row (Lu c2) j2 y := by rw [hs15 c2 (fun z9 => by rw [List.mem_singleton.mp z9] at hk2; omega)]; exact hro2
          have hln2 := ht_ln_le c2
          refine lv_iload hx hb d_M_join_7 (lv_at hl 7 rfl) ?_
          refine lv_iconst (v := 4) hx hb d_M_join_9 (by decide) ?_
          refine lv_icmp_ge (tgt := 96) hx hb d_M_join_10 (by decide) (fun c10 => ?_) (fun c10 => ?_)
          · exact absurd (show nI 4 ≤ nI q by rw [ekv] at c10; exact c10) (nI_ge (by omega) (by omega))
          · refine lv_aload_n hx hb d_M_join_13 rfl (lv_at hl 0 rfl) ?_
            refine ht_get (C := R_M) (T := F_M) (N := 22) (v := .ref (M 15)) hx hb htb i_M hown HW hO rfl 19 (by decide) (htb _ wd_330) (fun _ h9 => h9) rfl d_M_join_14 ?_
            refine lv_iload hx hb d_M_join_17 (lv_at hl 7 rfl) ?_
            refine lv_aload_nN hx hb d_M_join_19 rfl (lv_at hl 2 rfl) ?_
            refine lv_ifnonnullN hx hb d_M_join_20 ?_
            refine lv_lconst (v := 0) hx hb d_M_join_23 (by decide) ?_
            refine lv_goto (tgt := 33) hx hb d_M_join_24 (by decide) ?_
            have e1x : (0 : Int64) = ht_kf x q := by rw [ex1]; exact (ht_kz0 q).symm
            skip
            refine ht_last hx hb HW h15 (by rw [ekv]; exact vp_in_nI (by omega) (by omega)) d_M_join_33 (fun H locs HW => ?_)
            rw [ekv, nI_clamp (by omega)] at HW
            have n_M_0_M_15 : (M 0) ≠ (M 15) := (hMu.ne 0 15 (by decide) (by decide) (by decide))
            obtain ⟨u3, hu3⟩ : ∃ zW : ht_W, zW = ht_up u (M 15) (ht_al g 8 (vp_updL (Lu 15) q (0 : Int64))) := ⟨_, rfl⟩
            have HW : ht_I g s u3 H locs := by rw [hu3]; exact HW
            have hO : ht_at u3 (M 0) (.inr (4, [.ref (M 1), .ref (M 2), .int (n 0), .ref (M 3), .ref (M 4), .ref (M 5), .ref (M 6), .int (n 1), .ref (M 7), .int (n 2), .ref (M 8), .int (n 3), .int (n 4), .ref (M 9), .ref (M 10), .ref (M 11), .ref (M 12), .ref (M 13), .ref (M 14), .ref (M 15), .ref (M 16), .ref (M 17)]) : va_E) := by rw [hu3]; exact ht_at_ne hO n_M_0_M_15
            have h15 : ht_at u3 (M 15) (ht_al g 8 (vp_updL (Lu 15) q (0 : Int64))) := by rw [hu3]; exact ht_at_self h15
            have hc2 : ht_at u3 (M c2) (ht_al g (ht_ln c2) (Lu c2)) := by rw [hu3]; exact ht_at_ne hc2 nc2
            refine lv_aload_n hx hb d_M_join_34 rfl (lv_at hl 0 rfl) ?_
            refine ht_get (C := R_M) (T := F_M) (N := 22) (v := .ref (M 15)) hx hb htb i_M hown HW hO rfl 19 (by decide) (htb _ wd_330) (fun _ h9 => h9) rfl d_M_join_35 ?_
            refine lv_iconst (v := 4) hx hb d_M_join_38 (by decide) ?_
            refine lv_iload hx hb d_M_join_39 (lv_at hl 7 rfl) ?_
            refine lv_iadd hx hb d_M_join_41 ?_
            refine lv_topi (fun ib eib => ?_)
            have hib : ib = nI (4 + q) := by rw [eib, ekv, show (4 : Int32) = nI 4 from rfl, nI_add]
            refine lv_aload hx hb d_M_join_42 (lv_at hl 4 rfl) ?_
            refine lv_ifnonnull (tgt := 51) hx hb d_M_join_44 (by decide) ?_
            refine lv_aload hx hb d_M_join_51 (lv_at hl 4 rfl) ?_
            refine lv_iload hx hb d_M_join_53 (lv_at hl 5 rfl) ?_
            refine lv_iload hx hb d_M_join_55 (lv_at hl 7 rfl) ?_
            refine lv_iadd hx hb d_M_join_57 ?_
            refine lv_topi (fun ic eic => ?_)
            have hic : ic = nI (j2 + q) := by rw [eic, ei2, ekv, nI_add]
            refine ht_lald hx hb HW hc2 (by rw [hic]; exact vp_in_nI (by omega) (by omega)) d_M_join_58 ?_
            refine lv_topl (fun v2 ev2 => ?_)
            have ev2 : v2 = (Lu c2) (j2 + q) := by rw [ev2, hic, nI_clamp (by omega)]
            have e2x : v2 = ht_kf y q := by rw [ev2, hr2 q (by omega)]
            refine ht_last hx hb HW h15 (by rw [hib]; exact vp_in_nI (by omega) (by omega)) d_M_join_59 (fun H locs HW => ?_)
            rw [hib, nI_clamp (by omega)] at HW
            obtain ⟨u4, hu4⟩ : ∃ zW : ht_W, zW = ht_up u3 (M 15) (ht_al g 8 (vp_updL (vp_updL (Lu 15) q (0 : Int64)) (4 + q) v2)) := ⟨_, rfl⟩
            have HW : ht_I g s u4 H locs := by rw [hu4]; exact HW
            have hO : ht_at u4 (M 0) (.inr (4, [.ref (M 1), .ref (M 2), .int (n 0), .ref (M 3), .ref (M 4), .ref (M 5), .ref (M 6), .int (n 1), .ref (M 7), .int (n 2), .ref (M 8), .int (n 3), .int (n 4), .ref (M 9), .ref (M 10), .ref (M 11), .ref (M 12), .ref (M 13), .ref (M 14), .ref (M 15), .ref (M 16), .ref (M 17)]) : va_E) := by rw [hu4]; exact ht_at_ne hO n_M_0_M_15
            have h15 : ht_at u4 (M 15) (ht_al g 8 (vp_updL (vp_updL (Lu 15) q (0 : Int64)) (4 + q) v2)) := by rw [hu4]; exact ht_at_self h15
            have hc2 : ht_at u4 (M c2) (ht_al g (ht_ln c2) (Lu c2)) := by rw [hu4]; exact ht_at_ne hc2 nc2
            refine lv_ldc2 (v := 31) hx hb hown (htb _ wd_434) d_M_join_60 ?_
            refine lv_lload hx hb d_M_join_63 (lv_at hl 6 rfl) ?_
            refine lv_lmul hx hb d_M_join_65 ?_
            refine lv_aload_n hx hb d_M_join_66 rfl (lv_at hl 0 rfl) ?_
            refine ht_get (C := R_M) (T := F_M) (N := 22) (v := .ref (M 15)) hx hb htb i_M hown HW hO rfl 19 (by decide) (htb _ wd_330) (fun _ h9 => h9) rfl d_M_join_67 ?_
            refine lv_iload hx hb d_M_join_70 (lv_at hl 7 rfl) ?_
            refine ht_lald hx hb HW h15 (by rw [ekv]; exact vp_in_nI (by omega) (by omega)) d_M_join_72 ?_
            refine lv_topl (fun p1 ep1 => ?_)
            have ep1 : p1 = (vp_updL (vp_updL (Lu 15) q (0 : Int64)) (4 + q) v2) q := by rw [ep1, ekv, nI_clamp (by omega)]
            refine lv_ladd hx hb d_M_join_73 ?_
            refine lv_ldc2 (v := 17) hx hb hown (htb _ wd_435) d_M_join_74 ?_
            refine lv_aload_n hx hb d_M_join_77 rfl (lv_at hl 0 rfl) ?_
            refine ht_get (C := R_M) (T := F_M) (N := 22) (v := .ref (M 15)) hx hb htb i_M hown HW hO rfl 19 (by decide) (htb _ wd_330) (fun _ h9 => h9) rfl d_M_join_78 ?_
            refine lv_iconst (v := 4) hx hb d_M_join_81 (by decide) ?_
            refine lv_iload hx hb d_M_join_82 (lv_at hl 7 rfl) ?_
            refine lv_iadd hx hb d_M_join_84 ?_
            refine lv_topi (fun ie eie => ?_)
            have hie : ie = nI (4 + q) := by rw [eie, ekv, show (4 : Int32) = nI 4 from rfl, nI_add]
            refine ht_lald hx hb HW h15 (by rw [hie]; exact vp_in_nI (by omega) (by omega)) d_M_join_85 ?_
            refine lv_topl (fun p2 ep2 => ?_)
            have ep2 : p2 = (vp_updL (vp_updL (Lu 15) q (0 : Int64)) (4 + q) v2) (4 + q) := by rw [ep2, hie, nI_clamp (by omega)]
            refine lv_lmul hx hb d_M_join_86 ?_
            refine lv_ladd hx hb d_M_join_87 ?_
            refine lv_topl (fun mx2 emx2 => ?_)
            refine lv_lstore (lv' := [(6, .long mx2), (0, .ref (M 0)), (1, .int mk), (2, .null), (3, .int i1), (4, .ref (M c2)), (5, .int i2), (8, .int kv)]) hx hb d_M_join_88 hl (by decide) rfl (fun ls hl => ?_)
            obtain ⟨kv2, ekv2⟩ : ∃ zI : Int32, zI = kv + 1 := ⟨_, rfl⟩
            refine lv_iinc (v := kv2) (lv' := [(8, .int kv2), (6, .long mx2), (0, .ref (M 0)), (1, .int mk), (2, .null), (3, .int i1), (4, .ref (M c2)), (5, .int i2)]) hx hb d_M_join_90 hl (k := 7) rfl (by rw [ekv2]; rfl) (by decide) rfl (fun ls hl => ?_)
            refine lv_goto (tgt := 7) hx hb d_M_join_93 (by decide) ?_
            refine ih (q + 1) (by omega) u4 _ (by rw [hu4, hu3]; exact (hMu.upL 15 (by decide) rfl _).upL 15 (by decide) rfl _) (by rw [hu4, hu3]; exact (hfm.up 15 (by decide)).up 15 (by decide)) ((hsL.up (by decide)).up (by decide)) ((hs15.up (by decide)).up (by decide)) (fun j hj => ?_) _ _ _ mx2 kv2 (by rw [ekv2, ekv, nI_1]) HW (lv_sub hl [2, 3, 4, 5, 6, 7, 1, 0] rfl)
            rw [va_up_self]
            by_cases e : j = q
            · rw [e, pk_uLs, pk_uLn (by omega), pk_uLs]
              exact ⟨e1x, e2x⟩
            · rw [pk_uLn (by omega), pk_uLn (by omega), pk_uLn (by omega), pk_uLn (by omega)]
              exact hp4 j (by omega)
      · subst eo1
        have hc1 := hMu.L c1 (by omega) hl1
        have nc1 : M c1 ≠ M 15 := hMu.ne c1 15 (by omega) (by decide) (by omega)
        have hr1 : ht_row (Lu c1) j1 x := by rw [hs15 c1 (fun z9 => by rw [List.mem_singleton.mp z9] at hk1; omega)]; exact hro1
        have hln1 := ht_ln_le c1
        rcases id ha2 with ⟨eo2, ex2⟩ | ⟨c2, j2, hk2, hl2, eo2, ei2, hle2, hro2⟩
        · subst eo2
          refine lv_iload hx hb d_M_join_7 (lv_at hl 7 rfl) ?_
          refine lv_iconst (v := 4) hx hb d_M_join_9 (by decide) ?_
          refine lv_icmp_ge (tgt := 96) hx hb d_M_join_10 (by decide) (fun c10 => ?_) (fun c10 => ?_)
          · exact absurd (show nI 4 ≤ nI q by rw [ekv] at c10; exact c10) (nI_ge (by omega) (by omega))
          · refine lv_aload_n hx hb d_M_join_13 rfl (lv_at hl 0 rfl) ?_
            refine ht_get (C := R_M) (T := F_M) (N := 22) (v := .ref (M 15)) hx hb htb i_M hown HW hO rfl 19 (by decide) (htb _ wd_330) (fun _ h9 => h9) rfl d_M_join_14 ?_
            refine lv_iload hx hb d_M_join_17 (lv_at hl 7 rfl) ?_
            refine lv_aload_n hx hb d_M_join_19 rfl (lv_at hl 2 rfl) ?_
            refine lv_ifnonnull (tgt := 27) hx hb d_M_join_20 (by decide) ?_
            refine lv_aload_n hx hb d_M_join_27 rfl (lv_at hl 2 rfl) ?_
            refine lv_iload_n hx hb d_M_join_28 rfl (lv_at hl 3 rfl) ?_
            refine lv_iload hx hb d_M_join_29 (lv_at hl 7 rfl) ?_
            refine lv_iadd hx hb d_M_join_31 ?_
            refine lv_topi (fun ia eia => ?_)
            have hia : ia = nI (j1 + q) := by rw [eia, ei1, ekv, nI_add]
            refine ht_lald hx hb HW hc1 (by rw [hia]; exact vp_in_nI (by omega) (by omega)) d_M_join_32 ?_
            refine lv_topl (fun v1 ev1 => ?_)
            have ev1 : v1 = (Lu c1) (j1 + q) := by rw [ev1, hia, nI_clamp (by omega)]
            have e1x : v1 = ht_kf x q := by rw [ev1, hr1 q (by omega)]
            skip
            refine ht_last hx hb HW h15 (by rw [ekv]; exact vp_in_nI (by omega) (by omega)) d_M_join_33 (fun H locs HW => ?_)
            rw [ekv, nI_clamp (by omega)] at HW
            have n_M_0_M_15 : (M 0) ≠ (M 15) := (hMu.ne 0 15 (by decide) (by decide) (by decide))
            obtain ⟨u5, hu5⟩ : ∃ zW : ht_W, zW = ht_up u (M 15) (ht_al g 8 (vp_updL (Lu 15) q v1)) := ⟨_, rfl⟩
            have HW : ht_I g s u5 H locs := by rw [hu5]; exact HW
            have hO : ht_at u5 (M 0) (.inr (4, [.ref (M 1), .ref (M 2), .int (n 0), .ref (M 3), .ref (M 4), .ref (M 5), .ref (M 6), .int (n 1), .ref (M 7), .int (n 2), .ref (M 8), .int (n 3), .int (n 4), .ref (M 9), .ref (M 10), .ref (M 11), .ref (M 12), .ref (M 13), .ref (M 14), .ref (M 15), .ref (M 16), .ref (M 17)]) : va_E) := by rw [hu5]; exact ht_at_ne hO n_M_0_M_15
            have h15 : ht_at u5 (M 15) (ht_al g 8 (vp_updL (Lu 15) q v1)) := by rw [hu5]; exact ht_at_self h15
            have hc1 : ht_at u5 (M c1) (ht_al g (ht_ln c1) (Lu c1)) := by rw [hu5]; exact ht_at_ne hc1 nc1
            refine lv_aload_n hx hb d_M_join_34 rfl (lv_at hl 0 rfl) ?_
            refine ht_get (C := R_M) (T := F_M) (N := 22) (v := .ref (M 15)) hx hb htb i_M hown HW hO rfl 19 (by decide) (htb _ wd_330) (fun _ h9 => h9) rfl d_M_join_35 ?_
            refine lv_iconst (v := 4) hx hb d_M_join_38 (by decide) ?_
            refine lv_iload hx hb d_M_join_39 (lv_at hl 7 rfl) ?_
            refine lv_iadd hx hb d_M_join_41 ?_
            refine lv_topi (fun ib eib => ?_)
            have hib : ib = nI (4 + q) := by rw [eib, ekv, show (4 : Int32) = nI 4 from rfl, nI_add]
            refine lv_aloadN hx hb d_M_join_42 (lv_at hl 4 rfl) ?_
            refine lv_ifnonnullN hx hb d_M_join_44 ?_
            refine lv_lconst (v := 0) hx hb d_M_join_47 (by decide) ?_
            refine lv_goto (tgt := 59) hx hb d_M_join_48 (by decide) ?_
            have e2x : (0 : Int64) = ht_kf y q := by rw [ex2]; exact (ht_kz0 q).symm
            refine ht_last hx hb HW h15 (by rw [hib]; exact vp_in_nI (by omega) (by omega)) d_M_join_59 (fun H locs HW => ?_)
            rw [hib, nI_clamp (by omega)] at HW
            obtain ⟨u6, hu6⟩ : ∃ zW : ht_W, zW = ht_up u5 (M 15) (ht_al g 8 (vp_updL (vp_updL (Lu 15) q v1) (4 + q) (0 : Int64))) := ⟨_, rfl⟩
            have HW : ht_I g s u6 H locs := by rw [hu6]; exact HW
            have hO : ht_at u6 (M 0) (.inr (4, [.ref (M 1), .ref (M 2), .int (n 0), .ref (M 3), .ref (M 4), .ref (M 5), .ref (M 6), .int (n 1), .ref (M 7), .int (n 2), .ref (M 8), .int (n 3), .int (n 4), .ref (M 9), .ref (M 10), .ref (M 11), .ref (M 12), .ref (M 13), .ref (M 14), .ref (M 15), .ref (M 16), .ref (M 17)]) : va_E) := by rw [hu6]; exact ht_at_ne hO n_M_0_M_15
            have h15 : ht_at u6 (M 15) (ht_al g 8 (vp_updL (vp_updL (Lu 15) q v1) (4 + q) (0 : Int64))) := by rw [hu6]; exact ht_at_self h15
            have hc1 : ht_at u6 (M c1) (ht_al g (ht_ln c1) (Lu c1)) := by rw [hu6]; exact ht_at_ne hc1 nc1
            refine lv_ldc2 (v := 31) hx hb hown (htb _ wd_434) d_M_join_60 ?_
            refine lv_lload hx hb d_M_join_63 (lv_at hl 6 rfl) ?_
            refine lv_lmul hx hb d_M_join_65 ?_
            refine lv_aload_n hx hb d_M_join_66 rfl (lv_at hl 0 rfl) ?_
            refine ht_get (C := R_M) (T := F_M) (N := 22) (v := .ref (M 15)) hx hb htb i_M hown HW hO rfl 19 (by decide) (htb _ wd_330) (fun _ h9 => h9) rfl d_M_join_67 ?_
            refine lv_iload hx hb d_M_join_70 (lv_at hl 7 rfl) ?_
            refine ht_lald hx hb HW h15 (by rw [ekv]; exact vp_in_nI (by omega) (by omega)) d_M_join_72 ?_
            refine lv_topl (fun p1 ep1 => ?_)
            have ep1 : p1 = (vp_updL (vp_updL (Lu 15) q v1) (4 + q) (0 : Int64)) q := by rw [ep1, ekv, nI_clamp (by omega)]
            refine lv_ladd hx hb d_M_join_73 ?_
            refine lv_ldc2 (v := 17) hx hb hown (htb _ wd_435) d_M_join_74 ?_
            refine lv_aload_n hx hb d_M_join_77 rfl (lv_at hl 0 rfl) ?_
            refine ht_get (C := R_M) (T := F_M) (N := 22) (v := .ref (M 15)) hx hb htb i_M hown HW hO rfl 19 (by decide) (htb _ wd_330) (fun _ h9 => h9) rfl d_M_join_78 ?_
            refine lv_iconst (v := 4) hx hb d_M_join_81 (by decide) ?_
            refine lv_iload hx hb d_M_join_82 (lv_at hl 7 rfl) ?_
            refine lv_iadd hx hb d_M_join_84 ?_
            refine lv_topi (fun ie eie => ?_)
            have hie : ie = nI (4 + q) := by rw [eie, ekv, show (4 : Int32) = nI 4 from rfl, nI_add]
            refine ht_lald hx hb HW h15 (by rw [hie]; exact vp_in_nI (by omega) (by omega)) d_M_join_85 ?_
            refine lv_topl (fun p2 ep2 => ?_)
            have ep2 : p2 = (vp_updL (vp_updL (Lu 15) q v1) (4 + q) (0 : Int64)) (4 + q) := by rw [ep2, hie, nI_clamp (by omega)]
            refine lv_lmul hx hb d_M_join_86 ?_
            refine lv_ladd hx hb d_M_join_87 ?_
            refine lv_topl (fun mx2 emx2 => ?_)
            refine lv_lstore (lv' := [(6, .long mx2), (0, .ref (M 0)), (1, .int mk), (2, .ref (M c1)), (3, .int i1), (4, .null), (5, .int i2), (8, .int kv)]) hx hb d_M_join_88 hl (by decide) rfl (fun ls hl => ?_)
            obtain ⟨kv2, ekv2⟩ : ∃ zI : Int32, zI = kv + 1 := ⟨_, rfl⟩
            refine lv_iinc (v := kv2) (lv' := [(8, .int kv2), (6, .long mx2), (0, .ref (M 0)), (1, .int mk), (2, .ref (M c1)), (3, .int i1), (4, .null), (5, .int i2)]) hx hb d_M_join_90 hl (k := 7) rfl (by rw [ekv2]; rfl) (by decide) rfl (fun ls hl => ?_)
            refine lv_goto (tgt := 7) hx hb d_M_join_93 (by decide) ?_
            refine ih (q + 1) (by omega) u6 _ (by rw [hu6, hu5]; exact (hMu.upL 15 (by decide) rfl _).upL 15 (by decide) rfl _) (by rw [hu6, hu5]; exact (hfm.up 15 (by decide)).up 15 (by decide)) ((hsL.up (by decide)).up (by decide)) ((hs15.up (by decide)).up (by decide)) (fun j hj => ?_) _ _ _ mx2 kv2 (by rw [ekv2, ekv, nI_1]) HW (lv_sub hl [2, 3, 4, 5, 6, 7, 1, 0] rfl)
            rw [va_up_self]
            by_cases e : j = q
            · rw [e, pk_uLs, pk_uLn (by omega), pk_uLs]
              exact ⟨e1x, e2x⟩
            · rw [pk_uLn (by omega), pk_uLn (by omega), pk_uLn (by omega), pk_uLn (by omega)]
              exact hp4 j (by omega)
        · subst eo2
          have hc2 := hMu.L c2 (by omega) hl2
          have nc2 : M c2 ≠ M 15 := hMu.ne c2 15 (by omega) (by decide) (by omega)
          have hr2 : ht_row (Lu c2) j2 y := by rw [hs15 c2 (fun z9 => by rw [List.mem_singleton.mp z9] at hk2; omega)]; exact hro2
          have hln2 := ht_ln_le c2
          refine lv_iload hx hb d_M_join_7 (lv_at hl 7 rfl) ?_
          refine lv_iconst (v := 4) hx hb d_M_join_9 (by decide) ?_
          refine lv_icmp_ge (tgt := 96) hx hb d_M_join_10 (by decide) (fun c10 => ?_) (fun c10 => ?_)
          · exact absurd (show nI 4 ≤ nI q by rw [ekv] at c10; exact c10) (nI_ge (by omega) (by omega))
          · refine lv_aload_n hx hb d_M_join_13 rfl (lv_at hl 0 rfl) ?_
            refine ht_get (C := R_M) (T := F_M) (N := 22) (v := .ref (M 15)) hx hb htb i_M hown HW hO rfl 19 (by decide) (htb _ wd_330) (fun _ h9 => h9) rfl d_M_join_14 ?_
            refine lv_iload hx hb d_M_join_17 (lv_at hl 7 rfl) ?_
            refine lv_aload_n hx hb d_M_join_19 rfl (lv_at hl 2 rfl) ?_
            refine lv_ifnonnull (tgt := 27) hx hb d_M_join_20 (by decide) ?_
            refine lv_aload_n hx hb d_M_join_27 rfl (lv_at hl 2 rfl) ?_
            refine lv_iload_n hx hb d_M_join_28 rfl (lv_at hl 3 rfl) ?_
            refine lv_iload hx hb d_M_join_29 (lv_at hl 7 rfl) ?_
            refine lv_iadd hx hb d_M_join_31 ?_
            refine lv_topi (fun ia eia => ?_)
            have hia : ia = nI (j1 + q) := by rw [eia, ei1, ekv, nI_add]
            refine ht_lald hx hb HW hc1 (by rw [hia]; exact vp_in_nI (by omega) (by omega)) d_M_join_32 ?_
            refine lv_topl (fun v1 ev1 => ?_)
            have ev1 : v1 = (Lu c1) (j1 + q) := by rw [ev1, hia, nI_clamp (by omega)]
            have e1x : v1 = ht_kf x q := by rw [ev1, hr1 q (by omega)]
            skip
            refine ht_last hx hb HW h15 (by rw [ekv]; exact vp_in_nI (by omega) (by omega)) d_M_join_33 (fun H locs HW => ?_)
            rw [ekv, nI_clamp (by omega)] at HW
            have n_M_0_M_15 : (M 0) ≠ (M 15) := (hMu.ne 0 15 (by decide) (by decide) (by decide))
            obtain ⟨u7, hu7⟩ : ∃ zW : ht_W, zW = ht_up u (M 15) (ht_al g 8 (vp_updL (Lu 15) q v1)) := ⟨_, rfl⟩
            have HW : ht_I g s u7 H locs := by rw [hu7]; exact HW
            have hO : ht_at u7 (M 0) (.inr (4, [.ref (M 1), .ref (M 2), .int (n 0), .ref (M 3), .ref (M 4), .ref (M 5), .ref (M 6), .int (n 1), .ref (M 7), .int (n 2), .ref (M 8), .int (n 3), .int (n 4), .ref (M 9), .ref (M 10), .ref (M 11), .ref (M 12), .ref (M 13), .ref (M 14), .ref (M 15), .ref (M 16), .ref (M 17)]) : va_E) := by rw [hu7]; exact ht_at_ne hO n_M_0_M_15
            have h15 : ht_at u7 (M 15) (ht_al g 8 (vp_updL (Lu 15) q v1)) := by rw [hu7]; exact ht_at_self h15
            have hc1 : ht_at u7 (M c1) (ht_al g (ht_ln c1) (Lu c1)) := by rw [hu7]; exact ht_at_ne hc1 nc1
            have hc2 : ht_at u7 (M c2) (ht_al g (ht_ln c2) (Lu c2)) := by rw [hu7]; exact ht_at_ne hc2 nc2
            refine lv_aload_n hx hb d_M_join_34 rfl (lv_at hl 0 rfl) ?_
            refine ht_get (C := R_M) (T := F_M) (N := 22) (v := .ref (M 15)) hx hb htb i_M hown HW hO rfl 19 (by decide) (htb _ wd_330) (fun _ h9 => h9) rfl d_M_join_35 ?_
            refine lv_iconst (v := 4) hx hb d_M_join_38 (by decide) ?_
            refine lv_iload hx hb d_M_join_39 (lv_at hl 7 rfl) ?_
            refine lv_iadd hx hb d_M_join_41 ?_
            refine lv_topi (fun ib eib => ?_)
            have hib : ib = nI (4 + q) := by rw [eib, ekv, show (4 : Int32) = nI 4 from rfl, nI_add]
            refine lv_aload hx hb d_M_join_42 (lv_at hl 4 rfl) ?_
            refine lv_ifnonnull (tgt := 51) hx hb d_M_join_44 (by decide) ?_
            refine lv_aload hx hb d_M_join_51 (lv_at hl 4 rfl) ?_
            refine lv_iload hx hb d_M_join_53 (lv_at hl 5 rfl) ?_
            refine lv_iload hx hb d_M_join_55 (lv_at hl 7 rfl) ?_
            refine lv_iadd hx hb d_M_join_57 ?_
            refine lv_topi (fun ic eic => ?_)
            have hic : ic = nI (j2 + q) := by rw [eic, ei2, ekv, nI_add]
            refine ht_lald hx hb HW hc2 (by rw [hic]; exact vp_in_nI (by omega) (by omega)) d_M_join_58 ?_
            refine lv_topl (fun v2 ev2 => ?_)
            have ev2 : v2 = (Lu c2) (j2 + q) := by rw [ev2, hic, nI_clamp (by omega)]
            have e2x : v2 = ht_kf y q := by rw [ev2, hr2 q (by omega)]
            refine ht_last hx hb HW h15 (by rw [hib]; exact vp_in_nI (by omega) (by omega)) d_M_join_59 (fun H locs HW => ?_)
            rw [hib, nI_clamp (by omega)] at HW
            obtain ⟨u8, hu8⟩ : ∃ zW : ht_W, zW = ht_up u7 (M 15) (ht_al g 8 (vp_updL (vp_updL (Lu 15) q v1) (4 + q) v2)) := ⟨_, rfl⟩
            have HW : ht_I g s u8 H locs := by rw [hu8]; exact HW
            have hO : ht_at u8 (M 0) (.inr (4, [.ref (M 1), .ref (M 2), .int (n 0), .ref (M 3), .ref (M 4), .ref (M 5), .ref (M 6), .int (n 1), .ref (M 7), .int (n 2), .ref (M 8), .int (n 3), .int (n 4), .ref (M 9), .ref (M 10), .ref (M 11), .ref (M 12), .ref (M 13), .ref (M 14), .ref (M 15), .ref (M 16), .ref (M 17)]) : va_E) := by rw [hu8]; exact ht_at_ne hO n_M_0_M_15
            have h15 : ht_at u8 (M 15) (ht_al g 8 (vp_updL (vp_updL (Lu 15) q v1) (4 + q) v2)) := by rw [hu8]; exact ht_at_self h15
            have hc1 : ht_at u8 (M c1) (ht_al g (ht_ln c1) (Lu c1)) := by rw [hu8]; exact ht_at_ne hc1 nc1
            have hc2 : ht_at u8 (M c2) (ht_al g (ht_ln c2) (Lu c2)) := by rw [hu8]; exact ht_at_ne hc2 nc2
            refine lv_ldc2 (v := 31) hx hb hown (htb _ wd_434) d_M_join_60 ?_
            refine lv_lload hx hb d_M_join_63 (lv_at hl 6 rfl) ?_
            refine lv_lmul hx hb d_M_join_65 ?_
            refine lv_aload_n hx hb d_M_join_66 rfl (lv_at hl 0 rfl) ?_
            refine ht_get (C := R_M) (T := F_M) (N := 22) (v := .ref (M 15)) hx hb htb i_M hown HW hO rfl 19 (by decide) (htb _ wd_330) (fun _ h9 => h9) rfl d_M_join_67 ?_
            refine lv_iload hx hb d_M_join_70 (lv_at hl 7 rfl) ?_
            refine ht_lald hx hb HW h15 (by rw [ekv]; exact vp_in_nI (by omega) (by omega)) d_M_join_72 ?_
            refine lv_topl (fun p1 ep1 => ?_)
            have ep1 : p1 = (vp_updL (vp_updL (Lu 15) q v1) (4 + q) v2) q := by rw [ep1, ekv, nI_clamp (by omega)]
            refine lv_ladd hx hb d_M_join_73 ?_
            refine lv_ldc2 (v := 17) hx hb hown (htb _ wd_435) d_M_join_74 ?_
            refine lv_aload_n hx hb d_M_join_77 rfl (lv_at hl 0 rfl) ?_
            refine ht_get (C := R_M) (T := F_M) (N := 22) (v := .ref (M 15)) hx hb htb i_M hown HW hO rfl 19 (by decide) (htb _ wd_330) (fun _ h9 => h9) rfl d_M_join_78 ?_
            refine lv_iconst (v := 4) hx hb d_M_join_81 (by decide) ?_
            refine lv_iload hx hb d_M_join_82 (lv_at hl 7 rfl) ?_
            refine lv_iadd hx hb d_M_join_84 ?_
            refine lv_topi (fun ie eie => ?_)
            have hie : ie = nI (4 + q) := by rw [eie, ekv, show (4 : Int32) = nI 4 from rfl, nI_add]
            refine ht_lald hx hb HW h15 (by rw [hie]; exact vp_in_nI (by omega) (by omega)) d_M_join_85 ?_
            refine lv_topl (fun p2 ep2 => ?_)
            have ep2 : p2 = (vp_updL (vp_updL (Lu 15) q v1) (4 + q) v2) (4 + q) := by rw [ep2, hie, nI_clamp (by omega)]
            refine lv_lmul hx hb d_M_join_86 ?_
            refine lv_ladd hx hb d_M_join_87 ?_
            refine lv_topl (fun mx2 emx2 => ?_)
            refine lv_lstore (lv' := [(6, .long mx2), (0, .ref (M 0)), (1, .int mk), (2, .ref (M c1)), (3, .int i1), (4, .ref (M c2)), (5, .int i2), (8, .int kv)]) hx hb d_M_join_88 hl (by decide) rfl (fun ls hl => ?_)
            obtain ⟨kv2, ekv2⟩ : ∃ zI : Int32, zI = kv + 1 := ⟨_, rfl⟩
            refine lv_iinc (v := kv2) (lv' := [(8, .int kv2), (6, .long mx2), (0, .ref (M 0)), (1, .int mk), (2, .ref (M c1)), (3, .int i1), (4, .ref (M c2)), (5, .int i2)]) hx hb d_M_join_90 hl (k := 7) rfl (by rw [ekv2]; rfl) (by decide) rfl (fun ls hl => ?_)
            refine lv_goto (tgt := 7) hx hb d_M_join_93 (by decide) ?_
            refine ih (q + 1) (by omega) u8 _ (by rw [hu8, hu7]; exact (hMu.upL 15 (by decide) rfl _).upL 15 (by decide) rfl _) (by rw [hu8, hu7]; exact (hfm.up 15 (by decide)).up 15 (by decide)) ((hsL.up (by decide)).up (by decide)) ((hs15.up (by decide)).up (by decide)) (fun j hj => ?_) _ _ _ mx2 kv2 (by rw [ekv2, ekv, nI_1]) HW (lv_sub hl [2, 3, 4, 5, 6, 7, 1, 0] rfl)
            rw [va_up_self]
            by_cases e : j = q
            · rw [e, pk_uLs, pk_uLn (by omega), pk_uLs]
              exact ⟨e1x, e2x⟩
            · rw [pk_uLn (by omega), pk_uLn (by omega), pk_uLn (by omega), pk_uLn (by omega)]
              exact hp4 j (by omega)
  refine lv_iload_n hx hb d_M_join_0 rfl (lv_at hl 1 rfl) ?_
  refine lv_i2l (v := mk.toInt64) hx hb d_M_join_1 rfl ?_
  refine lv_topl (fun z1 ez1 => ?_)
  refine lv_lstore (lv' := [(6, .long z1), (0, .ref (M 0)), (1, .int mk), (2, va_rf o1), (3, .int i1), (4, va_rf o2), (5, .int i2)]) hx hb d_M_join_2 hl (by decide) rfl (fun ls hl => ?_)
  refine lv_iconst (v := 0) hx hb d_M_join_4 (by decide) ?_
  refine lv_istore (lv' := [(8, .int 0), (6, .long z1), (0, .ref (M 0)), (1, .int mk), (2, va_rf o1), (3, .int i1), (4, va_rf o2), (5, .int i2)]) hx hb d_M_join_5 hl (by decide) rfl (fun ls hl => ?_)
  exact loop1 4 0 rfl w Lf hM ht_fm.rf ht_same.rf ht_same.rf (fun j hj => absurd hj (Nat.not_lt_zero j)) _ _ _ _ 0 rfl HW (lv_sub hl [2, 3, 4, 5, 6, 7, 1, 0] rfl)
