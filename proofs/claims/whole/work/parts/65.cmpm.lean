def ht_RL (n : Nat → Int32) (Lf : ht_LF) (R : ht_L) : Prop := R.length ≤ 512 ∧ n 0 = nI R.length ∧ ∀ p q, R[p]? = some q → ht_row (Lf 1) (4 * p) q.1 ∧ ht_row (Lf 2) (4 * p) q.2
theorem ht_gl {α : Type} {l : List α} {p : Nat} (h : p < l.length) : ∃ q, l[p]? = some q := ⟨l[p], List.getElem?_eq_getElem h⟩
theorem ht_gn {α : Type} {l : List α} {p : Nat} {q : α} (h : l[p]? = some q) : p < l.length := (List.getElem?_eq_some_iff.mp h).1
theorem ht_sbl {a b : Nat} (ha : a < 2 ^ 30) (hb : b < 2 ^ 30) (c : Int32) (c0 : Int) (hc : c.toInt = c0) : (nI a - nI b < c ↔ (a : Int) - b < c0) ∧ (nI a - nI b ≤ c ↔ (a : Int) - b ≤ c0) := by
  rw [Int32.lt_iff_toInt_lt, Int32.le_iff_toInt_le, pk_sub_toInt ha hb, hc]
  exact ⟨Iff.rfl, Iff.rfl⟩
set_option maxHeartbeats 4000000 in
set_option maxRecDepth 100000 in
theorem c_M_compare (l : Launch) (g : ht_G) (w : ht_W) {a b na nb : Nat} {fa fb : Nat → Int64} (hA : ht_at w a (ht_al g na fa)) (hB : ht_at w b (ht_al g nb fb)) (ia ib : Nat) (hia : ia + 4 ≤ na) (hib : ib + 4 ≤ nb) (hna : na < 2 ^ 31) (hnb : nb < 2 ^ 31) (k1 k2 : Int32) (ek1 : k1 = nI ia) (ek2 : k2 = nI ib) {x y : ht_K} (hrx : ht_row fa ia x) (hry : ht_row fb ib y) : Met l y_M_compare ws_M_compare ({ frames := 0, cells := 0, slots := 0, locals := 0 } : Room) (va_Pc [.ref a, .int k1, .ref b, .int k2] (ht_WS g w)) (ht_Qi g (fun r u => ((r = 0 ∧ x = y) ∨ (r = -1 ∧ ht_klt x y) ∨ (r = 1 ∧ ht_klt y x)) ∧ w = u)) 0 0 (ht_A g) := by
  refine Met.ofW (cc := b_M_compare) (maxL := 5) (ret := (some .int)) (by decide) rfl ?_
  intro p e s m args below meth c s₁ BB hml hv
  obtain ⟨rfl, HW⟩ := hv
  have HW := ht_I.start HW
  have hx := BB.exec
  have hb := BB.bytes
  have hr := BB.returns
  have hts := atoms_spec (ws := ws_M_compare) BB.pre
  have htb : ∀ w ∈ bg, w.before _ s = true := fun w h => hts w (List.mem_cons_of_mem _ h)
  have hown : s.vm.findClass R_M = some m.cls := findClass_of_methodNamed BB.named
  have hlocks := BB.notSynchronized
  have hl := lv_entry ([.ref a, .int k1, .ref b, .int k2]) (n := 5) (Nat.le_of_ble_eq_true rfl)
  rw [lg_entry_eq]
  generalize (lg_sl ([.ref a, .int k1, .ref b, .int k2]) ++ List.replicate (5 - (lg_sl ([.ref a, .int k1, .ref b, .int k2])).length) Slot.unset).toArray = ls at hl ⊢
  have hl : lv_has ls 5 [(0, .ref a), (1, .int k1), (2, .ref b), (3, .int k2)] := hl
  have loop : ∀ (r q : Nat), q + r = 4 → (∀ i, i < q → ht_kf x i = ht_kf y i) → ∀ (H : Heap) (locs : List Loc) (ls : Array Slot) (kv : Int32), kv = nI q → ht_I g s w H locs → lv_has ls 5 [(0, .ref a), (1, .int k1), (2, .ref b), (3, .int k2), (4, .int kv)] → W p l e (headSpec ws_M_compare ({ frames := 0, cells := 0, slots := 0, locals := 0 } : Room)).room s m ([.ref a, .int k1, .ref b, .int k2] : List Value).toArray below meth c H locs 0 0 (MQ below (ht_Qi g (fun r u => ((r = 0 ∧ x = y) ∨ (r = -1 ∧ ht_klt x y) ∨ (r = 1 ∧ ht_klt y x)) ∧ w = u)) ([.ref a, .int k1, .ref b, .int k2] : List Value).toArray s 0 0 (ht_A g)) (F0 m 3 ls []) := by
    intro r
    induction r with
    | zero =>
      intro q hq heq H locs ls kv ekv HW hl
      refine lv_iload hx hb d_M_compare_3 (lv_at hl 4 rfl) ?_
      refine lv_iconst (v := 4) hx hb d_M_compare_5 (by decide) ?_
      refine lv_icmp_ge (tgt := 64) hx hb d_M_compare_6 (by decide) (fun c6 => ?_) (fun c6 => ?_)
      · refine lv_iconst (v := 0) hx hb d_M_compare_64 (by decide) ?_
        exact ht_iret hx hb hr hlocks HW ⟨Or.inl ⟨rfl, ht_kf_ext (fun i hi => heq i (by omega))⟩, rfl⟩ d_M_compare_65
      · exact absurd (nI_le (show 4 ≤ q by omega) (by omega)) (by rw [ekv] at c6; exact c6)
    | succ r ih =>
      intro q hq heq H locs ls kv ekv HW hl
      refine lv_iload hx hb d_M_compare_3 (lv_at hl 4 rfl) ?_
      refine lv_iconst (v := 4) hx hb d_M_compare_5 (by decide) ?_
      refine lv_icmp_ge (tgt := 64) hx hb d_M_compare_6 (by decide) (fun c6 => ?_) (fun c6 => ?_)
      · exact absurd (show nI 4 ≤ nI q by rw [ekv] at c6; exact c6) (nI_ge (by omega) (by omega))
      · refine lv_aload_n hx hb d_M_compare_9 rfl (lv_at hl 0 rfl) ?_
        refine lv_iload_n hx hb d_M_compare_10 rfl (lv_at hl 1 rfl) ?_
        refine lv_iload hx hb d_M_compare_11 (lv_at hl 4 rfl) ?_
        refine lv_iadd hx hb d_M_compare_13 ?_
        refine lv_topi (fun ip eip => ?_)
        have hip : ip = nI (ia + q) := by rw [eip, ek1, ekv, nI_add]
        refine ht_lald hx hb HW hA (by rw [hip]; exact vp_in_nI (by omega) (by omega)) d_M_compare_14 ?_
        refine lv_topl (fun vp evp => ?_)
        have evp : vp = fa (ia + q) := by rw [evp, hip, nI_clamp (by omega)]
        have evp : vp = ht_kf x q := by rw [evp, hrx q (by omega)]
        refine lv_aload_n hx hb d_M_compare_15 rfl (lv_at hl 2 rfl) ?_
        refine lv_iload_n hx hb d_M_compare_16 rfl (lv_at hl 3 rfl) ?_
        refine lv_iload hx hb d_M_compare_17 (lv_at hl 4 rfl) ?_
        refine lv_iadd hx hb d_M_compare_19 ?_
        refine lv_topi (fun ir eir => ?_)
        have hir : ir = nI (ib + q) := by rw [eir, ek2, ekv, nI_add]
        refine ht_lald hx hb HW hB (by rw [hir]; exact vp_in_nI (by omega) (by omega)) d_M_compare_20 ?_
        refine lv_topl (fun vr evr => ?_)
        have evr : vr = fb (ib + q) := by rw [evr, hir, nI_clamp (by omega)]
        have evr : vr = ht_kf y q := by rw [evr, hry q (by omega)]
        refine W.lcmp hx hb d_M_compare_21 ?_
        refine lv_if_ne (tgt := 28) hx hb d_M_compare_22 (by decide) (fun c22 => ?_) (fun c22 => ?_)
        · have hdf : ht_kf x q ≠ ht_kf y q := fun z9 => c22 ((lg_cmp_eq vp vr).mpr (by rw [evp, evr, z9]))
          refine lv_aload_n hx hb d_M_compare_28 rfl (lv_at hl 0 rfl) ?_
          refine lv_iload_n hx hb d_M_compare_29 rfl (lv_at hl 1 rfl) ?_
          refine lv_iload hx hb d_M_compare_30 (lv_at hl 4 rfl) ?_
          refine lv_iadd hx hb d_M_compare_32 ?_
          refine lv_topi (fun is eis => ?_)
          have his : is = nI (ia + q) := by rw [eis, ek1, ekv, nI_add]
          refine ht_lald hx hb HW hA (by rw [his]; exact vp_in_nI (by omega) (by omega)) d_M_compare_33 ?_
          refine lv_topl (fun vs evs => ?_)
          have evs : vs = fa (ia + q) := by rw [evs, his, nI_clamp (by omega)]
          have evs : vs = ht_kf x q := by rw [evs, hrx q (by omega)]
          refine lv_ldc2 (v := (-9223372036854775808)) hx hb hown (htb _ wd_394) d_M_compare_34 ?_
          refine lv_ladd hx hb d_M_compare_37 ?_
          refine lv_aload_n hx hb d_M_compare_38 rfl (lv_at hl 2 rfl) ?_
          refine lv_iload_n hx hb d_M_compare_39 rfl (lv_at hl 3 rfl) ?_
          refine lv_iload hx hb d_M_compare_40 (lv_at hl 4 rfl) ?_
          refine lv_iadd hx hb d_M_compare_42 ?_
          refine lv_topi (fun it eit => ?_)
          have hit : it = nI (ib + q) := by rw [eit, ek2, ekv, nI_add]
          refine ht_lald hx hb HW hB (by rw [hit]; exact vp_in_nI (by omega) (by omega)) d_M_compare_43 ?_
          refine lv_topl (fun vt evt => ?_)
          have evt : vt = fb (ib + q) := by rw [evt, hit, nI_clamp (by omega)]
          have evt : vt = ht_kf y q := by rw [evt, hry q (by omega)]
          refine lv_ldc2 (v := (-9223372036854775808)) hx hb hown (htb _ wd_394) d_M_compare_44 ?_
          refine lv_ladd hx hb d_M_compare_47 ?_
          refine W.lcmp hx hb d_M_compare_48 ?_
          refine lv_if_ge (tgt := 56) hx hb d_M_compare_49 (by decide) (fun c49 => ?_) (fun c49 => ?_)
          · have hge := (ht_kw (by omega) heq hdf).2 (fun z9 => absurd ((lg_cmp_ge (vs + (-9223372036854775808)) (vt + (-9223372036854775808))).mp c49) (Int64.not_le.mpr (by rw [evs, evt]; exact z9)))
            refine lv_iconst (v := 1) hx hb d_M_compare_56 (by decide) ?_
            exact ht_iret hx hb hr hlocks HW ⟨Or.inr (Or.inr ⟨rfl, hge⟩), rfl⟩ d_M_compare_57
          · have hlt := (ht_kw (by omega) heq hdf).1 (by
              rw [← evs, ← evt]
              exact Int64.not_le.mp (fun z9 => c49 ((lg_cmp_ge (vs + (-9223372036854775808)) (vt + (-9223372036854775808))).mpr z9)))
            refine lv_iconst (v := -1) hx hb d_M_compare_52 (by decide) ?_
            refine lv_goto (tgt := 57) hx hb d_M_compare_53 (by decide) ?_
            exact ht_iret hx hb hr hlocks HW ⟨Or.inr (Or.inl ⟨rfl, hlt⟩), rfl⟩ d_M_compare_57
        · have hsm : ht_kf x q = ht_kf y q := by
            rw [← evp, ← evr]
            exact (lg_cmp_eq vp vr).mp c22
          refine lv_goto (tgt := 58) hx hb d_M_compare_25 (by decide) ?_
          obtain ⟨kv2, ekv2⟩ : ∃ zI : Int32, zI = kv + 1 := ⟨_, rfl⟩
          refine lv_iinc (v := kv2) (lv' := [(4, .int kv2), (0, .ref a), (1, .int k1), (2, .ref b), (3, .int k2)]) hx hb d_M_compare_58 hl (k := 4) rfl (by rw [ekv2]; rfl) (by decide) rfl (fun ls hl => ?_)
          refine lv_goto (tgt := 3) hx hb d_M_compare_61 (by decide) ?_
          exact ih (q + 1) (by omega) (fun i hi => by
            by_cases e : i = q
            · rw [e]; exact hsm
            · exact heq i (by omega)) _ _ _ kv2 (by rw [ekv2, ekv, nI_1]) HW (lv_sub hl [1, 2, 3, 4, 0] rfl)
  refine lv_iconst (v := 0) hx hb d_M_compare_0 (by decide) ?_
  refine lv_istore (lv' := [(4, .int 0), (0, .ref a), (1, .int k1), (2, .ref b), (3, .int k2)]) hx hb d_M_compare_1 hl (by decide) rfl (fun ls hl => ?_)
  exact loop 4 0 rfl (fun i hi => absurd hi (Nat.not_lt_zero i)) _ _ _ 0 rfl HW (lv_sub hl [1, 2, 3, 4, 0] rfl)
set_option maxHeartbeats 4000000 in
set_option maxRecDepth 100000 in
theorem c_M_bit (l : Launch) (g : ht_G) (w : ht_W) {a na : Nat} {fa : Nat → Int64} (hA : ht_at w a (ht_al g na fa)) (ia : Nat) (hia : ia + 4 ≤ na) (hna : na < 2 ^ 31) {x : ht_K} (hrx : ht_row fa ia x) (d : Nat) (hd : d < 256) (k1 k2 : Int32) (ek1 : k1 = nI ia) (ek2 : k2 = nI d) : Met l y_M_bit ws_M_bit ({ frames := 0, cells := 0, slots := 0, locals := 0 } : Room) (va_Pc [.ref a, .int k1, .int k2] (ht_WS g w)) (ht_Qi g (fun r u => r = ht_b1 (ht_bit x d) ∧ w = u)) 0 0 (ht_A g) := by
  refine Met.ofW (cc := b_M_bit) (maxL := 3) (ret := (some .int)) (by decide) rfl ?_
  intro p e s m args below meth c s₁ BB hml hv
  obtain ⟨rfl, HW⟩ := hv
  have HW := ht_I.start HW
  have hx := BB.exec
  have hb := BB.bytes
  have hr := BB.returns
  have hts := atoms_spec (ws := ws_M_bit) BB.pre
  have htb : ∀ w ∈ bg, w.before _ s = true := fun w h => hts w (List.mem_cons_of_mem _ h)
  have hown : s.vm.findClass R_M = some m.cls := findClass_of_methodNamed BB.named
  have hlocks := BB.notSynchronized
  have hl := lv_entry ([.ref a, .int k1, .int k2]) (n := 3) (Nat.le_of_ble_eq_true rfl)
  rw [lg_entry_eq]
  generalize (lg_sl ([.ref a, .int k1, .int k2]) ++ List.replicate (3 - (lg_sl ([.ref a, .int k1, .int k2])).length) Slot.unset).toArray = ls at hl ⊢
  have hl : lv_has ls 3 [(0, .ref a), (1, .int k1), (2, .int k2)] := hl
  refine lv_aload_n hx hb d_M_bit_0 rfl (lv_at hl 0 rfl) ?_
  refine lv_iload_n hx hb d_M_bit_1 rfl (lv_at hl 1 rfl) ?_
  refine lv_iload_n hx hb d_M_bit_2 rfl (lv_at hl 2 rfl) ?_
  refine lv_bipush (v := 64) hx hb d_M_bit_3 (by decide) ?_
  refine lv_idiv hx hb d_M_bit_5 (by decide) ?_
  refine lv_iadd hx hb d_M_bit_6 ?_
  refine lv_topi (fun ix eix => ?_)
  have hix : ix = nI (ia + d / 64) := by rw [eix, ek1, ek2, show (64 : Int32) = nI 64 from rfl, pk_div (by omega) (by decide) (by decide), nI_add]
  refine ht_lald hx hb HW hA (by rw [hix]; exact vp_in_nI (by omega) (by omega)) d_M_bit_7 ?_
  refine lv_topl (fun v ev => ?_)
  have ev : v = fa (ia + d / 64) := by rw [ev, hix, nI_clamp (by omega)]
  have ev : v = ht_kf x (d / 64) := by rw [ev, hrx _ (by omega)]
  refine lv_bipush (v := 63) hx hb d_M_bit_8 (by decide) ?_
  refine lv_iload_n hx hb d_M_bit_10 rfl (lv_at hl 2 rfl) ?_
  refine lv_bipush (v := 64) hx hb d_M_bit_11 (by decide) ?_
  refine lv_irem hx hb d_M_bit_13 (by decide) ?_
  refine lv_isub hx hb d_M_bit_14 ?_
  refine lv_topi (fun sh esh => ?_)
  have hsh : sh = nI (63 - d % 64) := by rw [esh, ek2, show (64 : Int32) = nI 64 from rfl, pk_rem (by omega) (by decide) (by decide), show (63 : Int32) = nI 63 from rfl, pk_sub (by omega)]
  refine lv_lshr (v := v >>> (sh.toInt64 &&& 63)) hx hb d_M_bit_15 rfl ?_
  refine lv_lconst (v := 1) hx hb d_M_bit_16 (by decide) ?_
  refine lv_land hx hb d_M_bit_17 ?_
  refine lv_l2i (v := ((v >>> (sh.toInt64 &&& 63)) &&& (1 : Int64)).toInt32) hx hb d_M_bit_18 rfl ?_
  exact ht_iret hx hb hr hlocks HW ⟨ht_bit_r hd ev hsh, rfl⟩ d_M_bit_19
set_option maxHeartbeats 4000000 in
set_option maxRecDepth 100000 in
theorem c_M_isNumber (l : Launch) (g : ht_G) (w : ht_W) (i : Int32) : Met l y_M_isNumber ws_M_isNumber ({ frames := 0, cells := 0, slots := 0, locals := 0 } : Room) (va_Pc [.int i] (ht_WS g w)) (ht_Qi g (fun r u => ((ht_isn i → r = 1) ∧ (¬ ht_isn i → r = 0)) ∧ w = u)) 0 0 (ht_A g) := by
  refine Met.ofW (cc := b_M_isNumber) (maxL := 1) (ret := (some .boolean)) (by decide) rfl ?_
  intro p e s m args below meth c s₁ BB hml hv
  obtain ⟨rfl, HW⟩ := hv
  have HW := ht_I.start HW
  have hx := BB.exec
  have hb := BB.bytes
  have hr := BB.returns
  have hts := atoms_spec (ws := ws_M_isNumber) BB.pre
  have htb : ∀ w ∈ bg, w.before _ s = true := fun w h => hts w (List.mem_cons_of_mem _ h)
  have hown : s.vm.findClass R_M = some m.cls := findClass_of_methodNamed BB.named
  have hlocks := BB.notSynchronized
  have hl := lv_entry ([.int i]) (n := 1) (Nat.le_of_ble_eq_true rfl)
  rw [lg_entry_eq]
  generalize (lg_sl ([.int i]) ++ List.replicate (1 - (lg_sl ([.int i])).length) Slot.unset).toArray = ls at hl ⊢
  have hl : lv_has ls 1 [(0, .int i)] := hl
  refine lv_iload_n hx hb d_M_isNumber_0 rfl (lv_at hl 0 rfl) ?_
  refine lv_if_lt (tgt := 13) hx hb d_M_isNumber_1 (by decide) (fun c1 => ?_) (fun c1 => ?_)
  · have hn : ¬ ht_isn i := fun ⟨j, hj, e9⟩ => nI_pos (n := j) (by omega) (by rw [← e9]; exact c1)
    refine lv_iconst (v := 0) hx hb d_M_isNumber_13 (by decide) ?_
    exact ht_zret hx hb hr hlocks HW (by rfl) ⟨⟨fun q => absurd q hn, fun _ => rfl⟩, rfl⟩ d_M_isNumber_14
  · refine lv_iload_n hx hb d_M_isNumber_4 rfl (lv_at hl 0 rfl) ?_
    refine lv_iconst (v := 4) hx hb d_M_isNumber_5 (by decide) ?_
    refine lv_icmp_ge (tgt := 13) hx hb d_M_isNumber_6 (by decide) (fun c6 => ?_) (fun c6 => ?_)
    · have hn : ¬ ht_isn i := fun ⟨j, hj, e9⟩ => nI_ge (b := 4) hj (by omega) (by rw [← e9]; exact c6)
      refine lv_iconst (v := 0) hx hb d_M_isNumber_13 (by decide) ?_
      exact ht_zret hx hb hr hlocks HW (by rfl) ⟨⟨fun q => absurd q hn, fun _ => rfl⟩, rfl⟩ d_M_isNumber_14
    · refine lv_iconst (v := 1) hx hb d_M_isNumber_9 (by decide) ?_
      refine lv_goto (tgt := 14) hx hb d_M_isNumber_10 (by decide) ?_
      have hn : ht_isn i := by
        obtain ⟨j, hj, rfl⟩ := nI_of c1
        exact ⟨j, Nat.not_le.mp (fun q => c6 (nI_le (a := 4) q (by omega))), rfl⟩
      exact ht_zret hx hb hr hlocks HW (by rfl) ⟨⟨fun _ => rfl, fun q => absurd hn q⟩, rfl⟩ d_M_isNumber_14
set_option maxHeartbeats 4000000 in
set_option maxRecDepth 100000 in
theorem c_M_agree (l : Launch) (g : ht_G) (w : ht_W) {M : Nat → Nat} {n : Nat → Int32} {Lf : ht_LF} {If : ht_IF} (hM : ht_Mo g w M n Lf If) (pp qq d : Nat) (hpp : pp < 512) (hqq : qq < 512) (hd : d ≤ 256) (k1 k2 k3 : Int32) (ek1 : k1 = nI pp) (ek2 : k2 = nI qq) (ek3 : k3 = nI d) {x y : ht_K} (hrx : ht_row (Lf 1) (4 * pp) x) (hry : ht_row (Lf 1) (4 * qq) y) : Met l y_M_agree ws_M_agree ({ frames := 0, cells := 0, slots := 0, locals := 0 } : Room) (va_Pc [.ref (M 0), .int k1, .int k2, .int k3] (ht_WS g w)) (ht_Qi g (fun r u => ((r = 1 ∧ ht_ag x y d) ∨ (r = 0 ∧ ¬ ht_ag x y d)) ∧ w = u)) 0 0 (ht_A g) := by
  refine Met.ofW (cc := b_M_agree) (maxL := 7) (ret := (some .boolean)) (by decide) rfl ?_
  intro p e s m args below meth c s₁ BB hml hv
  obtain ⟨rfl, HW⟩ := hv
  have HW := ht_I.start HW
  have hx := BB.exec
  have hb := BB.bytes
  have hr := BB.returns
  have hts := atoms_spec (ws := ws_M_agree) BB.pre
  have htb : ∀ w ∈ bg, w.before _ s = true := fun w h => hts w (List.mem_cons_of_mem _ h)
  have hown : s.vm.findClass R_M = some m.cls := findClass_of_methodNamed BB.named
  have hlocks := BB.notSynchronized
  have hl := lv_entry ([.ref (M 0), .int k1, .int k2, .int k3]) (n := 7) (Nat.le_of_ble_eq_true rfl)
  rw [lg_entry_eq]
  generalize (lg_sl ([.ref (M 0), .int k1, .int k2, .int k3]) ++ List.replicate (7 - (lg_sl ([.ref (M 0), .int k1, .int k2, .int k3])).length) Slot.unset).toArray = ls at hl ⊢
  have hl : lv_has ls 7 [(0, .ref (M 0)), (1, .int k1), (2, .int k2), (3, .int k3)] := hl
  have outz : ¬ ht_ag x y d → ∀ (H : Heap) (locs : List Loc) (ls : Array Slot) (kv : Int32), ht_I g s w H locs → lv_has ls 7 [(0, .ref (M 0)), (1, .int k1), (2, .int k2), (3, .int k3), (4, .int 0), (5, .int kv)] → W p l e (headSpec ws_M_agree ({ frames := 0, cells := 0, slots := 0, locals := 0 } : Room)).room s m ([.ref (M 0), .int k1, .int k2, .int k3] : List Value).toArray below meth c H locs 0 0 (MQ below (ht_Qi g (fun r u => ((r = 1 ∧ ht_ag x y d) ∨ (r = 0 ∧ ¬ ht_ag x y d)) ∧ w = u)) ([.ref (M 0), .int k1, .int k2, .int k3] : List Value).toArray s 0 0 (ht_A g)) (F0 m 6 ls []) := by
    intro hna H locs ls kv HW hl
    refine lv_iload hx hb d_M_agree_6 (lv_at hl 5 rfl) ?_
    refine lv_iconst (v := 4) hx hb d_M_agree_8 (by decide) ?_
    refine lv_icmp_ge (tgt := 125) hx hb d_M_agree_9 (by decide) (fun c9 => ?_) (fun c9 => ?_)
    · refine lv_iload hx hb d_M_agree_125 (lv_at hl 4 rfl) ?_
      exact ht_zret hx hb hr hlocks HW (by decide) ⟨Or.inr ⟨rfl, hna⟩, rfl⟩ d_M_agree_127
    · refine lv_iload hx hb d_M_agree_12 (lv_at hl 4 rfl) ?_
      refine lv_if_eq (tgt := 125) hx hb d_M_agree_14 (by decide) (fun c14 => ?_) (fun c14 => ?_)
      · refine lv_iload hx hb d_M_agree_125 (lv_at hl 4 rfl) ?_
        exact ht_zret hx hb hr hlocks HW (by decide) ⟨Or.inr ⟨rfl, hna⟩, rfl⟩ d_M_agree_127
      · exact absurd rfl c14
  have loop : ∀ (r q : Nat), q + r = 4 → ht_ag x y (min d (64 * q)) → ∀ (H : Heap) (locs : List Loc) (ls : Array Slot) (kv : Int32), kv = nI q → ht_I g s w H locs → lv_has ls 7 [(0, .ref (M 0)), (1, .int k1), (2, .int k2), (3, .int k3), (4, .int 1), (5, .int kv)] → W p l e (headSpec ws_M_agree ({ frames := 0, cells := 0, slots := 0, locals := 0 } : Room)).room s m ([.ref (M 0), .int k1, .int k2, .int k3] : List Value).toArray below meth c H locs 0 0 (MQ below (ht_Qi g (fun r u => ((r = 1 ∧ ht_ag x y d) ∨ (r = 0 ∧ ¬ ht_ag x y d)) ∧ w = u)) ([.ref (M 0), .int k1, .int k2, .int k3] : List Value).toArray s 0 0 (ht_A g)) (F0 m 6 ls []) := by
    intro r
    induction r with
    | zero =>
      intro q hq hag H locs ls kv ekv HW hl
      have hO : ht_at w (M 0) (.inr (4, [.ref (M 1), .ref (M 2), .int (n 0), .ref (M 3), .ref (M 4), .ref (M 5), .ref (M 6), .int (n 1), .ref (M 7), .int (n 2), .ref (M 8), .int (n 3), .int (n 4), .ref (M 9), .ref (M 10), .ref (M 11), .ref (M 12), .ref (M 13), .ref (M 14), .ref (M 15), .ref (M 16), .ref (M 17)]) : va_E) := hM.1
      have h1 : ht_at w (M 1) (ht_al g 2048 (Lf 1)) := hM.L 1 (by decide) rfl
      refine lv_iload hx hb d_M_agree_6 (lv_at hl 5 rfl) ?_
      refine lv_iconst (v := 4) hx hb d_M_agree_8 (by decide) ?_
      refine lv_icmp_ge (tgt := 125) hx hb d_M_agree_9 (by decide) (fun c9 => ?_) (fun c9 => ?_)
      · refine lv_iload hx hb d_M_agree_125 (lv_at hl 4 rfl) ?_
        exact ht_zret hx hb hr hlocks HW (by decide) ⟨Or.inl ⟨rfl, by rw [show min d (64 * q) = d by omega] at hag; exact hag⟩, rfl⟩ d_M_agree_127
      · exact absurd (nI_le (show 4 ≤ q by omega) (by omega)) (by rw [ekv] at c9; exact c9)
    | succ r ih =>
      intro q hq hag H locs ls kv ekv HW hl
      have hO : ht_at w (M 0) (.inr (4, [.ref (M 1), .ref (M 2), .int (n 0), .ref (M 3), .ref (M 4), .ref (M 5), .ref (M 6), .int (n 1), .ref (M 7), .int (n 2), .ref (M 8), .int (n 3), .int (n 4), .ref (M 9), .ref (M 10), .ref (M 11), .ref (M 12), .ref (M 13), .ref (M 14), .ref (M 15), .ref (M 16), .ref (M 17)]) : va_E) := hM.1
      have h1 : ht_at w (M 1) (ht_al g 2048 (Lf 1)) := hM.L 1 (by decide) rfl
      refine lv_iload hx hb d_M_agree_6 (lv_at hl 5 rfl) ?_
      refine lv_iconst (v := 4) hx hb d_M_agree_8 (by decide) ?_
      refine lv_icmp_ge (tgt := 125) hx hb d_M_agree_9 (by decide) (fun c9 => ?_) (fun c9 => ?_)
      · exact absurd (show nI 4 ≤ nI q by rw [ekv] at c9; exact c9) (nI_ge (by omega) (by omega))
      · refine lv_iload hx hb d_M_agree_12 (lv_at hl 4 rfl) ?_
        refine lv_if_eq (tgt := 125) hx hb d_M_agree_14 (by decide) (fun c14 => ?_) (fun c14 => ?_)
        · exact absurd c14 (by decide)
        · refine lv_iload_n hx hb d_M_agree_17 rfl (lv_at hl 3 rfl) ?_
          refine lv_bipush (v := 64) hx hb d_M_agree_18 (by decide) ?_
          refine lv_iload hx hb d_M_agree_20 (lv_at hl 5 rfl) ?_
          refine lv_imul hx hb d_M_agree_22 ?_
          refine lv_isub hx hb d_M_agree_23 ?_
          refine lv_topi (fun bs ebs => ?_)
          refine lv_istore (lv' := [(6, .int bs), (0, .ref (M 0)), (1, .int k1), (2, .int k2), (3, .int k3), (4, .int 1), (5, .int kv)]) hx hb d_M_agree_24 hl (by decide) rfl (fun ls hl => ?_)
          have hbs : bs = nI d - nI (64 * q) := by rw [ebs, ek3, ekv, show (64 : Int32) = nI 64 from rfl, pk_mul]
          have hw := ht_ag_w (by omega) hag
          have hsb := ht_sbl (a := d) (b := 64 * q) (by omega) (by omega) 64 64 rfl
          have hs0 := ht_sbl (a := d) (b := 64 * q) (by omega) (by omega) 0 0 rfl
          rw [← hbs] at hsb hs0
          rcases (show 64 * q + 64 ≤ d ∨ (64 * q < d ∧ d < 64 * q + 64) ∨ d ≤ 64 * q by omega) with hr1 | ⟨hr1, hr2⟩ | hr1
          · have hb9 := hw.1 hr1
            refine lv_iload hx hb d_M_agree_26 (lv_at hl 0 rfl) ?_
            refine lv_bipush (v := 64) hx hb d_M_agree_28 (by decide) ?_
            refine lv_icmp_lt (tgt := 69) hx hb d_M_agree_30 (by decide) (fun c30 => ?_) (fun c30 => ?_)
            · exact absurd (hsb.1.mp c30) (by omega)
            · refine lv_aload_n hx hb d_M_agree_33 rfl (lv_at hl 1 rfl) ?_
              refine ht_get (C := R_M) (T := F_M) (N := 22) (v := .ref (M 1)) hx hb htb i_M hown HW hO rfl 0 (by decide) (htb _ wd_311) (fun _ h9 => h9) rfl d_M_agree_34 ?_
              refine lv_iconst (v := 4) hx hb d_M_agree_37 (by decide) ?_
              refine lv_iload_n hx hb d_M_agree_38 rfl (lv_at hl 2 rfl) ?_
              refine lv_imul hx hb d_M_agree_39 ?_
              refine lv_iload hx hb d_M_agree_40 (lv_at hl 6 rfl) ?_
              refine lv_iadd hx hb d_M_agree_42 ?_
              refine lv_topi (fun ip eip => ?_)
              have hip : ip = nI (4 * pp + q) := by rw [eip, ek1, ekv, show (4 : Int32) = nI 4 from rfl, pk_mul, nI_add]
              refine ht_lald hx hb HW h1 (by rw [hip]; exact vp_in_nI (by omega) (by omega)) d_M_agree_43 ?_
              refine lv_topl (fun vp evp => ?_)
              have evp : vp = (Lf 1) (4 * pp + q) := by rw [evp, hip, nI_clamp (by omega)]
              have evp : vp = ht_kf x q := by rw [evp, hrx q (by omega)]
              refine lv_aload_n hx hb d_M_agree_44 rfl (lv_at hl 1 rfl) ?_
              refine ht_get (C := R_M) (T := F_M) (N := 22) (v := .ref (M 1)) hx hb htb i_M hown HW hO rfl 0 (by decide) (htb _ wd_311) (fun _ h9 => h9) rfl d_M_agree_45 ?_
              refine lv_iconst (v := 4) hx hb d_M_agree_48 (by decide) ?_
              refine lv_iload_n hx hb d_M_agree_49 rfl (lv_at hl 3 rfl) ?_
              refine lv_imul hx hb d_M_agree_50 ?_
              refine lv_iload hx hb d_M_agree_51 (lv_at hl 6 rfl) ?_
              refine lv_iadd hx hb d_M_agree_53 ?_
              refine lv_topi (fun ir eir => ?_)
              have hir : ir = nI (4 * qq + q) := by rw [eir, ek2, ekv, show (4 : Int32) = nI 4 from rfl, pk_mul, nI_add]
              refine ht_lald hx hb HW h1 (by rw [hir]; exact vp_in_nI (by omega) (by omega)) d_M_agree_54 ?_
              refine lv_topl (fun vr evr => ?_)
              have evr : vr = (Lf 1) (4 * qq + q) := by rw [evr, hir, nI_clamp (by omega)]
              have evr : vr = ht_kf y q := by rw [evr, hry q (by omega)]
              refine W.lcmp hx hb d_M_agree_55 ?_
              refine lv_if_ne (tgt := 63) hx hb d_M_agree_56 (by decide) (fun c56 => ?_) (fun c56 => ?_)
              · have hno : ¬ ht_ag x y d := fun z9 => c56 ((lg_cmp_eq vp vr).mpr (by rw [evp, evr]; exact hb9.mpr (ht_ag_le z9 (Nat.min_le_left _ _))))
                refine lv_iconst (v := 0) hx hb d_M_agree_63 (by decide) ?_
                refine lv_istore (lv' := [(4, .int 0), (6, .int bs), (0, .ref (M 0)), (1, .int k1), (2, .int k2), (3, .int k3), (5, .int kv)]) hx hb d_M_agree_64 hl (by decide) rfl (fun ls hl => ?_)
                refine lv_goto (tgt := 119) hx hb d_M_agree_66 (by decide) ?_
                skip
                obtain ⟨kv2, ekv2⟩ : ∃ zI : Int32, zI = kv + 1 := ⟨_, rfl⟩
                refine lv_iinc (v := kv2) (lv' := [(5, .int kv2), (4, .int 0), (6, .int bs), (0, .ref (M 0)), (1, .int k1), (2, .int k2), (3, .int k3)]) hx hb d_M_agree_119 hl (k := 6) rfl (by rw [ekv2]; rfl) (by decide) rfl (fun ls hl => ?_)
                refine lv_goto (tgt := 6) hx hb d_M_agree_122 (by decide) ?_
                exact outz hno _ _ _ kv2 HW (lv_sub hl [3, 4, 5, 6, 1, 0] rfl)
              · have hyes : ht_ag x y (min d (64 * (q + 1))) := hb9.mp (by
                  rw [← evp, ← evr]
                  exact (lg_cmp_eq vp vr).mp c56)
                refine lv_iconst (v := 1) hx hb d_M_agree_59 (by decide) ?_
                refine lv_goto (tgt := 64) hx hb d_M_agree_60 (by decide) ?_
                refine lv_istore (lv' := [(4, .int 1), (6, .int bs), (0, .ref (M 0)), (1, .int k1), (2, .int k2), (3, .int k3), (5, .int kv)]) hx hb d_M_agree_64 hl (by decide) rfl (fun ls hl => ?_)
                refine lv_goto (tgt := 119) hx hb d_M_agree_66 (by decide) ?_
                skip
                obtain ⟨kv2, ekv2⟩ : ∃ zI : Int32, zI = kv + 1 := ⟨_, rfl⟩
                refine lv_iinc (v := kv2) (lv' := [(5, .int kv2), (4, .int 1), (6, .int bs), (0, .ref (M 0)), (1, .int k1), (2, .int k2), (3, .int k3)]) hx hb d_M_agree_119 hl (k := 6) rfl (by rw [ekv2]; rfl) (by decide) rfl (fun ls hl => ?_)
                refine lv_goto (tgt := 6) hx hb d_M_agree_122 (by decide) ?_
                exact ih (q + 1) (by omega) hyes _ _ _ kv2 (by rw [ekv2, ekv, nI_1]) HW (lv_sub hl [3, 4, 5, 6, 1, 0] rfl)
          · have hb9 := hw.2.1 hr1 hr2
            have hbn : bs = nI (d - 64 * q) := by rw [hbs, pk_sub (by omega)]
            refine lv_iload hx hb d_M_agree_26 (lv_at hl 0 rfl) ?_
            refine lv_bipush (v := 64) hx hb d_M_agree_28 (by decide) ?_
            refine lv_icmp_lt (tgt := 69) hx hb d_M_agree_30 (by decide) (fun c30 => ?_) (fun c30 => ?_)
            · refine lv_iload hx hb d_M_agree_69 (lv_at hl 0 rfl) ?_
              refine lv_if_le (tgt := 119) hx hb d_M_agree_71 (by decide) (fun c71 => ?_) (fun c71 => ?_)
              · exact absurd (hs0.2.mp c71) (by omega)
              · refine lv_aload_n hx hb d_M_agree_74 rfl (lv_at hl 1 rfl) ?_
                refine ht_get (C := R_M) (T := F_M) (N := 22) (v := .ref (M 1)) hx hb htb i_M hown HW hO rfl 0 (by decide) (htb _ wd_311) (fun _ h9 => h9) rfl d_M_agree_75 ?_
                refine lv_iconst (v := 4) hx hb d_M_agree_78 (by decide) ?_
                refine lv_iload_n hx hb d_M_agree_79 rfl (lv_at hl 2 rfl) ?_
                refine lv_imul hx hb d_M_agree_80 ?_
                refine lv_iload hx hb d_M_agree_81 (lv_at hl 6 rfl) ?_
                refine lv_iadd hx hb d_M_agree_83 ?_
                refine lv_topi (fun is eis => ?_)
                have his : is = nI (4 * pp + q) := by rw [eis, ek1, ekv, show (4 : Int32) = nI 4 from rfl, pk_mul, nI_add]
                refine ht_lald hx hb HW h1 (by rw [his]; exact vp_in_nI (by omega) (by omega)) d_M_agree_84 ?_
                refine lv_topl (fun vs evs => ?_)
                have evs : vs = (Lf 1) (4 * pp + q) := by rw [evs, his, nI_clamp (by omega)]
                have evs : vs = ht_kf x q := by rw [evs, hrx q (by omega)]
                refine lv_bipush (v := 64) hx hb d_M_agree_85 (by decide) ?_
                refine lv_iload hx hb d_M_agree_87 (lv_at hl 0 rfl) ?_
                refine lv_isub hx hb d_M_agree_89 ?_
                refine lv_topi (fun im eim => ?_)
                have him : im = nI (64 - (d - 64 * q)) := by rw [eim, hbn, show (64 : Int32) = nI 64 from rfl, pk_sub (by omega)]
                refine lv_lushr (v := (vs.toUInt64 >>> (im.toInt64.toUInt64 &&& Int64.toUInt64 63)).toInt64) hx hb d_M_agree_90 rfl ?_
                refine lv_aload_n hx hb d_M_agree_91 rfl (lv_at hl 1 rfl) ?_
                refine ht_get (C := R_M) (T := F_M) (N := 22) (v := .ref (M 1)) hx hb htb i_M hown HW hO rfl 0 (by decide) (htb _ wd_311) (fun _ h9 => h9) rfl d_M_agree_92 ?_
                refine lv_iconst (v := 4) hx hb d_M_agree_95 (by decide) ?_
                refine lv_iload_n hx hb d_M_agree_96 rfl (lv_at hl 3 rfl) ?_
                refine lv_imul hx hb d_M_agree_97 ?_
                refine lv_iload hx hb d_M_agree_98 (lv_at hl 6 rfl) ?_
                refine lv_iadd hx hb d_M_agree_100 ?_
                refine lv_topi (fun it eit => ?_)
                have hit : it = nI (4 * qq + q) := by rw [eit, ek2, ekv, show (4 : Int32) = nI 4 from rfl, pk_mul, nI_add]
                refine ht_lald hx hb HW h1 (by rw [hit]; exact vp_in_nI (by omega) (by omega)) d_M_agree_101 ?_
                refine lv_topl (fun vt evt => ?_)
                have evt : vt = (Lf 1) (4 * qq + q) := by rw [evt, hit, nI_clamp (by omega)]
                have evt : vt = ht_kf y q := by rw [evt, hry q (by omega)]
                refine lv_bipush (v := 64) hx hb d_M_agree_102 (by decide) ?_
                refine lv_iload hx hb d_M_agree_104 (lv_at hl 0 rfl) ?_
                refine lv_isub hx hb d_M_agree_106 ?_
                refine lv_topi (fun io eio => ?_)
                have hio : io = nI (64 - (d - 64 * q)) := by rw [eio, hbn, show (64 : Int32) = nI 64 from rfl, pk_sub (by omega)]
                refine lv_lushr (v := (vt.toUInt64 >>> (io.toInt64.toUInt64 &&& Int64.toUInt64 63)).toInt64) hx hb d_M_agree_107 rfl ?_
                refine W.lcmp hx hb d_M_agree_108 ?_
                refine lv_if_ne (tgt := 116) hx hb d_M_agree_109 (by decide) (fun c109 => ?_) (fun c109 => ?_)
                · have hno : ¬ ht_ag x y d := fun z9 => c109 ((lg_cmp_eq _ _).mpr (by rw [hio, ← him]; exact (ht_agw (by omega) (by omega) him).mpr (by rw [evs, evt]; exact hb9.mpr (ht_ag_le z9 (Nat.min_le_left _ _)))))
                  refine lv_iconst (v := 0) hx hb d_M_agree_116 (by decide) ?_
                  refine lv_istore (lv' := [(4, .int 0), (6, .int bs), (0, .ref (M 0)), (1, .int k1), (2, .int k2), (3, .int k3), (5, .int kv)]) hx hb d_M_agree_117 hl (by decide) rfl (fun ls hl => ?_)
                  skip
                  obtain ⟨kv2, ekv2⟩ : ∃ zI : Int32, zI = kv + 1 := ⟨_, rfl⟩
                  refine lv_iinc (v := kv2) (lv' := [(5, .int kv2), (4, .int 0), (6, .int bs), (0, .ref (M 0)), (1, .int k1), (2, .int k2), (3, .int k3)]) hx hb d_M_agree_119 hl (k := 6) rfl (by rw [ekv2]; rfl) (by decide) rfl (fun ls hl => ?_)
                  refine lv_goto (tgt := 6) hx hb d_M_agree_122 (by decide) ?_
                  exact outz hno _ _ _ kv2 HW (lv_sub hl [3, 4, 5, 6, 1, 0] rfl)
                · have hyes : ht_ag x y (min d (64 * (q + 1))) := hb9.mp (by
                    rw [← evs, ← evt]
                    refine (ht_agw (by omega) (by omega) him).mp ?_
                    have h9 := (lg_cmp_eq _ _).mp c109
                    rw [hio, ← him] at h9
                    exact h9)
                  refine lv_iconst (v := 1) hx hb d_M_agree_112 (by decide) ?_
                  refine lv_goto (tgt := 117) hx hb d_M_agree_113 (by decide) ?_
                  refine lv_istore (lv' := [(4, .int 1), (6, .int bs), (0, .ref (M 0)), (1, .int k1), (2, .int k2), (3, .int k3), (5, .int kv)]) hx hb d_M_agree_117 hl (by decide) rfl (fun ls hl => ?_)
                  skip
                  obtain ⟨kv2, ekv2⟩ : ∃ zI : Int32, zI = kv + 1 := ⟨_, rfl⟩
                  refine lv_iinc (v := kv2) (lv' := [(5, .int kv2), (4, .int 1), (6, .int bs), (0, .ref (M 0)), (1, .int k1), (2, .int k2), (3, .int k3)]) hx hb d_M_agree_119 hl (k := 6) rfl (by rw [ekv2]; rfl) (by decide) rfl (fun ls hl => ?_)
                  refine lv_goto (tgt := 6) hx hb d_M_agree_122 (by decide) ?_
                  exact ih (q + 1) (by omega) hyes _ _ _ kv2 (by rw [ekv2, ekv, nI_1]) HW (lv_sub hl [3, 4, 5, 6, 1, 0] rfl)
            · exact absurd (hsb.1.mpr (by omega)) c30
          · have hb9 := hw.2.2 hr1
            refine lv_iload hx hb d_M_agree_26 (lv_at hl 0 rfl) ?_
            refine lv_bipush (v := 64) hx hb d_M_agree_28 (by decide) ?_
            refine lv_icmp_lt (tgt := 69) hx hb d_M_agree_30 (by decide) (fun c30 => ?_) (fun c30 => ?_)
            · refine lv_iload hx hb d_M_agree_69 (lv_at hl 0 rfl) ?_
              refine lv_if_le (tgt := 119) hx hb d_M_agree_71 (by decide) (fun c71 => ?_) (fun c71 => ?_)
              · have hyes : ht_ag x y (min d (64 * (q + 1))) := hb9
                obtain ⟨kv2, ekv2⟩ : ∃ zI : Int32, zI = kv + 1 := ⟨_, rfl⟩
                refine lv_iinc (v := kv2) (lv' := [(5, .int kv2), (6, .int bs), (0, .ref (M 0)), (1, .int k1), (2, .int k2), (3, .int k3), (4, .int 1)]) hx hb d_M_agree_119 hl (k := 6) rfl (by rw [ekv2]; rfl) (by decide) rfl (fun ls hl => ?_)
                refine lv_goto (tgt := 6) hx hb d_M_agree_122 (by decide) ?_
                exact ih (q + 1) (by omega) hyes _ _ _ kv2 (by rw [ekv2, ekv, nI_1]) HW (lv_sub hl [2, 3, 4, 5, 6, 0] rfl)
              · exact absurd (hs0.2.mpr (by omega)) c71
            · exact absurd (hsb.1.mpr (by omega)) c30
  refine lv_iconst (v := 1) hx hb d_M_agree_0 (by decide) ?_
  refine lv_istore (lv' := [(4, .int 1), (0, .ref (M 0)), (1, .int k1), (2, .int k2), (3, .int k3)]) hx hb d_M_agree_1 hl (by decide) rfl (fun ls hl => ?_)
  refine lv_iconst (v := 0) hx hb d_M_agree_3 (by decide) ?_
  refine lv_istore (lv' := [(5, .int 0), (4, .int 1), (0, .ref (M 0)), (1, .int k1), (2, .int k2), (3, .int k3)]) hx hb d_M_agree_4 hl (by decide) rfl (fun ls hl => ?_)
  exact loop 4 0 rfl (fun j hj => absurd hj (by omega)) _ _ _ 0 rfl HW (lv_sub hl [2, 3, 4, 5, 1, 0] rfl)
set_option maxHeartbeats 4000000 in
set_option maxRecDepth 100000 in
theorem c_M_place (l : Launch) (g : ht_G) (w : ht_W) {M : Nat → Nat} {n : Nat → Int32} {Lf : ht_LF} {If : ht_IF} (hM : ht_Mo g w M n Lf If) {R : ht_L} (hRL : ht_RL n Lf R) {k : ht_K} (hK : ht_row (Lf 3) 0 k) : Met l y_M_place ws_M_place ({ frames := 1, cells := 0, slots := 0, locals := 30 } : Room) (va_Pc [.ref (M 0)] (ht_WS g w)) (ht_Qi g (fun r u => (∃ p, r = nI p ∧ p ≤ R.length ∧ (∀ j q, j < p → R[j]? = some q → ht_klt q.1 k) ∧ ∀ q, R[p]? = some q → ¬ ht_klt q.1 k) ∧ w = u)) 0 0 (ht_A g) := by
  refine Met.ofW (cc := b_M_place) (maxL := 2) (ret := (some .int)) (by decide) rfl ?_
  intro p e s m args below meth c s₁ BB hml hv
  obtain ⟨rfl, HW⟩ := hv
  have HW := ht_I.start HW
  have hx := BB.exec
  have hb := BB.bytes
  have hr := BB.returns
  have hts := atoms_spec (ws := ws_M_place) BB.pre
  have htb : ∀ w ∈ bg, w.before _ s = true := fun w h => hts w (List.mem_cons_of_mem _ h)
  have hown : s.vm.findClass R_M = some m.cls := findClass_of_methodNamed BB.named
  have hlocks := BB.notSynchronized
  have hl := lv_entry ([.ref (M 0)]) (n := 2) (Nat.le_of_ble_eq_true rfl)
  rw [lg_entry_eq]
  generalize (lg_sl ([.ref (M 0)]) ++ List.replicate (2 - (lg_sl ([.ref (M 0)])).length) Slot.unset).toArray = ls at hl ⊢
  have hl : lv_has ls 2 [(0, .ref (M 0))] := hl
  have loop : ∀ (r j : Nat), j + r = R.length → (∀ i q, i < j → R[i]? = some q → ht_klt q.1 k) → ∀ (H : Heap) (locs : List Loc) (ls : Array Slot) (pv : Int32), pv = nI j → ht_I g s w H locs → lv_has ls 2 [(0, .ref (M 0)), (1, .int pv)] → W p l e (headSpec ws_M_place ({ frames := 1, cells := 0, slots := 0, locals := 30 } : Room)).room s m ([.ref (M 0)] : List Value).toArray below meth c H locs 0 0 (MQ below (ht_Qi g (fun r u => (∃ p, r = nI p ∧ p ≤ R.length ∧ (∀ j q, j < p → R[j]? = some q → ht_klt q.1 k) ∧ ∀ q, R[p]? = some q → ¬ ht_klt q.1 k) ∧ w = u)) ([.ref (M 0)] : List Value).toArray s 0 0 (ht_A g)) (F0 m 2 ls []) := by
    intro r
    induction r with
    | zero =>
      intro j hj hold H locs ls pv epv HW hl
      have h512 := hRL.1
      have hO : ht_at w (M 0) (.inr (4, [.ref (M 1), .ref (M 2), .int (n 0), .ref (M 3), .ref (M 4), .ref (M 5), .ref (M 6), .int (n 1), .ref (M 7), .int (n 2), .ref (M 8), .int (n 3), .int (n 4), .ref (M 9), .ref (M 10), .ref (M 11), .ref (M 12), .ref (M 13), .ref (M 14), .ref (M 15), .ref (M 16), .ref (M 17)]) : va_E) := hM.1
      have h1 : ht_at w (M 1) (ht_al g 2048 (Lf 1)) := hM.L 1 (by decide) rfl
      have h3 : ht_at w (M 3) (ht_al g 4 (Lf 3)) := hM.L 3 (by decide) rfl
      refine lv_iload_n hx hb d_M_place_2 rfl (lv_at hl 1 rfl) ?_
      refine lv_aload_n hx hb d_M_place_3 rfl (lv_at hl 0 rfl) ?_
      refine ht_get (C := R_M) (T := F_M) (N := 22) (v := .int (n 0)) hx hb htb i_M hown HW hO rfl 2 (by decide) (htb _ wd_313) (fun _ h9 => h9) rfl d_M_place_4 ?_
      refine lv_icmp_ge (tgt := 34) hx hb d_M_place_7 (by decide) (fun c7 => ?_) (fun c7 => ?_)
      · refine lv_iload_n hx hb d_M_place_34 rfl (lv_at hl 1 rfl) ?_
        exact ht_iret hx hb hr hlocks HW ⟨⟨j, epv, by omega, hold, fun q hq => absurd (ht_gn hq) (by omega)⟩, rfl⟩ d_M_place_35
      · exact absurd (nI_le (show R.length ≤ j by omega) (by omega)) (by rw [epv, hRL.2.1] at c7; exact c7)
    | succ r ih =>
      intro j hj hold H locs ls pv epv HW hl
      obtain ⟨q, hjq⟩ := ht_gl (l := R) (p := j) (by omega)
      have h512 := hRL.1
      have hO : ht_at w (M 0) (.inr (4, [.ref (M 1), .ref (M 2), .int (n 0), .ref (M 3), .ref (M 4), .ref (M 5), .ref (M 6), .int (n 1), .ref (M 7), .int (n 2), .ref (M 8), .int (n 3), .int (n 4), .ref (M 9), .ref (M 10), .ref (M 11), .ref (M 12), .ref (M 13), .ref (M 14), .ref (M 15), .ref (M 16), .ref (M 17)]) : va_E) := hM.1
      have h1 : ht_at w (M 1) (ht_al g 2048 (Lf 1)) := hM.L 1 (by decide) rfl
      have h3 : ht_at w (M 3) (ht_al g 4 (Lf 3)) := hM.L 3 (by decide) rfl
      refine lv_iload_n hx hb d_M_place_2 rfl (lv_at hl 1 rfl) ?_
      refine lv_aload_n hx hb d_M_place_3 rfl (lv_at hl 0 rfl) ?_
      refine ht_get (C := R_M) (T := F_M) (N := 22) (v := .int (n 0)) hx hb htb i_M hown HW hO rfl 2 (by decide) (htb _ wd_313) (fun _ h9 => h9) rfl d_M_place_4 ?_
      refine lv_icmp_ge (tgt := 34) hx hb d_M_place_7 (by decide) (fun c7 => ?_) (fun c7 => ?_)
      · exact absurd (show nI R.length ≤ nI j by rw [epv, hRL.2.1] at c7; exact c7) (nI_ge (by omega) (by omega))
      · refine lv_aload_n hx hb d_M_place_10 rfl (lv_at hl 0 rfl) ?_
        refine ht_get (C := R_M) (T := F_M) (N := 22) (v := .ref (M 1)) hx hb htb i_M hown HW hO rfl 0 (by decide) (htb _ wd_311) (fun _ h9 => h9) rfl d_M_place_11 ?_
        refine lv_iconst (v := 4) hx hb d_M_place_14 (by decide) ?_
        refine lv_iload_n hx hb d_M_place_15 rfl (lv_at hl 1 rfl) ?_
        refine lv_imul hx hb d_M_place_16 ?_
        refine lv_topi (fun ia eia => ?_)
        have hia : ia = nI (4 * j) := by rw [eia, epv, show (4 : Int32) = nI 4 from rfl, pk_mul]
        refine lv_aload_n hx hb d_M_place_17 rfl (lv_at hl 0 rfl) ?_
        refine ht_get (C := R_M) (T := F_M) (N := 22) (v := .ref (M 3)) hx hb htb i_M hown HW hO rfl 3 (by decide) (htb _ wd_314) (fun _ h9 => h9) rfl d_M_place_18 ?_
        refine lv_iconst (v := 0) hx hb d_M_place_21 (by decide) ?_
        refine ht_ci HW (va_runS (own := R_M) (As := [.ref (M 1), .int ia, .ref (M 3), .int 0]) (rest := []) ⟨hx, hb, hml, hown, htb⟩ (c_M_compare l g w h1 h3 (4 * j) 0 (by omega) (by decide) (by decide) (by decide) _ _ hia rfl (hRL.2.2 j q hjq).1 hK) (va_cwS 4 htb (ht_gs wd_391 wd_392 wd_3 g_M_compare) rfl rfl rfl (by decide +kernel) ⟨Nat.le_of_ble_eq_true rfl, Nat.le_of_ble_eq_true rfl⟩) (HW.preS _) rfl rfl hl.1 rfl (lv_room (Nat.le_of_ble_eq_true rfl)) d_M_place_22 ⟨Nat.le_of_ble_eq_true rfl, Nat.le_of_ble_eq_true rfl⟩) (fun q2 u1 H locs pc HW => ?_)
        obtain ⟨pc, eww⟩ := pc
        subst eww
        rcases pc with ⟨er, hc⟩ | ⟨er, hc⟩ | ⟨er, hc⟩
        · subst er
          have hnl : ¬ ht_klt q.1 k := fun z9 => z9.ne hc
          refine lv_if_ge (tgt := 34) hx hb d_M_place_25 (by decide) (fun c25 => ?_) (fun c25 => ?_)
          · refine lv_iload_n hx hb d_M_place_34 rfl (lv_at hl 1 rfl) ?_
            exact ht_iret hx hb hr hlocks HW ⟨⟨j, epv, by omega, hold, fun q2 hq2 => by rw [hjq] at hq2; cases hq2; exact hnl⟩, rfl⟩ d_M_place_35
          · exact absurd (by decide) c25
        · subst er
          refine lv_if_ge (tgt := 34) hx hb d_M_place_25 (by decide) (fun c25 => ?_) (fun c25 => ?_)
          · exact absurd c25 (by decide)
          · obtain ⟨pv2, epv2⟩ : ∃ zI : Int32, zI = pv + 1 := ⟨_, rfl⟩
            refine lv_iinc (v := pv2) (lv' := [(1, .int pv2), (0, .ref (M 0))]) hx hb d_M_place_28 hl (k := 1) rfl (by rw [epv2]; rfl) (by decide) rfl (fun ls hl => ?_)
            refine lv_goto (tgt := 2) hx hb d_M_place_31 (by decide) ?_
            exact ih (j + 1) (by omega) (fun i q2 hi hq2 => by
              by_cases e : i = j
              · rw [e, hjq] at hq2; cases hq2; exact hc
              · exact hold i q2 (by omega) hq2) _ _ _ pv2 (by rw [epv2, epv, nI_1]) HW (lv_sub hl [1, 0] rfl)
        · subst er
          have hnl : ¬ ht_klt q.1 k := fun z9 => z9.asymm hc
          refine lv_if_ge (tgt := 34) hx hb d_M_place_25 (by decide) (fun c25 => ?_) (fun c25 => ?_)
          · refine lv_iload_n hx hb d_M_place_34 rfl (lv_at hl 1 rfl) ?_
            exact ht_iret hx hb hr hlocks HW ⟨⟨j, epv, by omega, hold, fun q2 hq2 => by rw [hjq] at hq2; cases hq2; exact hnl⟩, rfl⟩ d_M_place_35
          · exact absurd (by decide) c25
  refine lv_iconst (v := 0) hx hb d_M_place_0 (by decide) ?_
  refine lv_istore_n (lv' := [(1, .int 0), (0, .ref (M 0))]) hx hb d_M_place_1 rfl hl (by decide) rfl (fun ls hl => ?_)
  exact loop R.length 0 (by omega) (fun i q hi => absurd hi (Nat.not_lt_zero i)) _ _ _ 0 rfl HW (lv_sub hl [1, 0] rfl)
set_option maxHeartbeats 4000000 in
set_option maxRecDepth 100000 in
theorem c_M_isAt (l : Launch) (g : ht_G) (w : ht_W) {M : Nat → Nat} {n : Nat → Int32} {Lf : ht_LF} {If : ht_IF} (hM : ht_Mo g w M n Lf If) {R : ht_L} (hRL : ht_RL n Lf R) {k : ht_K} (hK : ht_row (Lf 3) 0 k) (j : Nat) (hj : j ≤ R.length) (k1 : Int32) (ek1 : k1 = nI j) : Met l y_M_isAt ws_M_isAt ({ frames := 1, cells := 0, slots := 0, locals := 30 } : Room) (va_Pc [.ref (M 0), .int k1] (ht_WS g w)) (ht_Qi g (fun r u => ((r = 1 ∧ ∃ q, R[j]? = some q ∧ q.1 = k) ∨ (r = 0 ∧ ∀ q, R[j]? = some q → q.1 ≠ k)) ∧ w = u)) 0 0 (ht_A g) := by
  refine Met.ofW (cc := b_M_isAt) (maxL := 2) (ret := (some .boolean)) (by decide) rfl ?_
  intro p e s m args below meth c s₁ BB hml hv
  obtain ⟨rfl, HW⟩ := hv
  have HW := ht_I.start HW
  have hx := BB.exec
  have hb := BB.bytes
  have hr := BB.returns
  have hts := atoms_spec (ws := ws_M_isAt) BB.pre
  have htb : ∀ w ∈ bg, w.before _ s = true := fun w h => hts w (List.mem_cons_of_mem _ h)
  have hown : s.vm.findClass R_M = some m.cls := findClass_of_methodNamed BB.named
  have hlocks := BB.notSynchronized
  have hl := lv_entry ([.ref (M 0), .int k1]) (n := 2) (Nat.le_of_ble_eq_true rfl)
  rw [lg_entry_eq]
  generalize (lg_sl ([.ref (M 0), .int k1]) ++ List.replicate (2 - (lg_sl ([.ref (M 0), .int k1])).length) Slot.unset).toArray = ls at hl ⊢
  have hl : lv_has ls 2 [(0, .ref (M 0)), (1, .int k1)] := hl
  have h512 := hRL.1
  have hO : ht_at w (M 0) (.inr (4, [.ref (M 1), .ref (M 2), .int (n 0), .ref (M 3), .ref (M 4), .ref (M 5), .ref (M 6), .int (n 1), .ref (M 7), .int (n 2), .ref (M 8), .int (n 3), .int (n 4), .ref (M 9), .ref (M 10), .ref (M 11), .ref (M 12), .ref (M 13), .ref (M 14), .ref (M 15), .ref (M 16), .ref (M 17)]) : va_E) := hM.1
  have h1 : ht_at w (M 1) (ht_al g 2048 (Lf 1)) := hM.L 1 (by decide) rfl
  have h3 : ht_at w (M 3) (ht_al g 4 (Lf 3)) := hM.L 3 (by decide) rfl
  refine lv_iload_n hx hb d_M_isAt_0 rfl (lv_at hl 1 rfl) ?_
  refine lv_aload_n hx hb d_M_isAt_1 rfl (lv_at hl 0 rfl) ?_
  refine ht_get (C := R_M) (T := F_M) (N := 22) (v := .int (n 0)) hx hb htb i_M hown HW hO rfl 2 (by decide) (htb _ wd_313) (fun _ h9 => h9) rfl d_M_isAt_2 ?_
  refine lv_icmp_ge (tgt := 30) hx hb d_M_isAt_5 (by decide) (fun c5 => ?_) (fun c5 => ?_)
  · have hno : ∀ q, R[j]? = some q → q.1 ≠ k := fun q hq => absurd (ht_gn hq) (fun z9 => nI_ge z9 (by omega) (by rw [ek1, hRL.2.1] at c5; exact c5))
    refine lv_iconst (v := 0) hx hb d_M_isAt_30 (by decide) ?_
    exact ht_zret hx hb hr hlocks HW (by decide) ⟨Or.inr ⟨rfl, hno⟩, rfl⟩ d_M_isAt_31
  · have hlt : j < R.length := Nat.not_le.mp (fun z9 => c5 (by rw [ek1, hRL.2.1]; exact nI_le z9 (by omega)))
    obtain ⟨q, hjq⟩ := ht_gl hlt
    refine lv_aload_n hx hb d_M_isAt_8 rfl (lv_at hl 0 rfl) ?_
    refine ht_get (C := R_M) (T := F_M) (N := 22) (v := .ref (M 1)) hx hb htb i_M hown HW hO rfl 0 (by decide) (htb _ wd_311) (fun _ h9 => h9) rfl d_M_isAt_9 ?_
    refine lv_iconst (v := 4) hx hb d_M_isAt_12 (by decide) ?_
    refine lv_iload_n hx hb d_M_isAt_13 rfl (lv_at hl 1 rfl) ?_
    refine lv_imul hx hb d_M_isAt_14 ?_
    refine lv_topi (fun ia eia => ?_)
    have hia : ia = nI (4 * j) := by rw [eia, ek1, show (4 : Int32) = nI 4 from rfl, pk_mul]
    refine lv_aload_n hx hb d_M_isAt_15 rfl (lv_at hl 0 rfl) ?_
    refine ht_get (C := R_M) (T := F_M) (N := 22) (v := .ref (M 3)) hx hb htb i_M hown HW hO rfl 3 (by decide) (htb _ wd_314) (fun _ h9 => h9) rfl d_M_isAt_16 ?_
    refine lv_iconst (v := 0) hx hb d_M_isAt_19 (by decide) ?_
    refine ht_ci HW (va_runS (own := R_M) (As := [.ref (M 1), .int ia, .ref (M 3), .int 0]) (rest := []) ⟨hx, hb, hml, hown, htb⟩ (c_M_compare l g w h1 h3 (4 * j) 0 (by omega) (by decide) (by decide) (by decide) _ _ hia rfl (hRL.2.2 j q hjq).1 hK) (va_cwS 4 htb (ht_gs wd_391 wd_392 wd_3 g_M_compare) rfl rfl rfl (by decide +kernel) ⟨Nat.le_of_ble_eq_true rfl, Nat.le_of_ble_eq_true rfl⟩) (HW.preS _) rfl rfl hl.1 rfl (lv_room (Nat.le_of_ble_eq_true rfl)) d_M_isAt_20 ⟨Nat.le_of_ble_eq_true rfl, Nat.le_of_ble_eq_true rfl⟩) (fun q2 u1 H locs pc HW => ?_)
    obtain ⟨pc, eww⟩ := pc
    subst eww
    rcases pc with ⟨er, hc⟩ | ⟨er, hc⟩ | ⟨er, hc⟩
    · subst er
      refine lv_if_ne (tgt := 30) hx hb d_M_isAt_23 (by decide) (fun c23 => ?_) (fun c23 => ?_)
      · exact absurd rfl c23
      · refine lv_iconst (v := 1) hx hb d_M_isAt_26 (by decide) ?_
        refine lv_goto (tgt := 31) hx hb d_M_isAt_27 (by decide) ?_
        exact ht_zret hx hb hr hlocks HW (by decide) ⟨Or.inl ⟨rfl, q, hjq, hc⟩, rfl⟩ d_M_isAt_31
    · subst er
      have hnq : q.1 ≠ k := hc.ne
      refine lv_if_ne (tgt := 30) hx hb d_M_isAt_23 (by decide) (fun c23 => ?_) (fun c23 => ?_)
      · refine lv_iconst (v := 0) hx hb d_M_isAt_30 (by decide) ?_
        exact ht_zret hx hb hr hlocks HW (by decide) ⟨Or.inr ⟨rfl, fun q2 hq2 => by rw [hjq] at hq2; cases hq2; exact hnq⟩, rfl⟩ d_M_isAt_31
      · exact absurd c23 (by decide)
    · subst er
      have hnq : q.1 ≠ k := fun z9 => hc.ne z9.symm
      refine lv_if_ne (tgt := 30) hx hb d_M_isAt_23 (by decide) (fun c23 => ?_) (fun c23 => ?_)
      · refine lv_iconst (v := 0) hx hb d_M_isAt_30 (by decide) ?_
        exact ht_zret hx hb hr hlocks HW (by decide) ⟨Or.inr ⟨rfl, fun q2 hq2 => by rw [hjq] at hq2; cases hq2; exact hnq⟩, rfl⟩ d_M_isAt_31
      · exact absurd c23 (by decide)
