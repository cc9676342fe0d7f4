def ht_tz (t : ht_D) : Nat → ht_D
  | 0 => t
  | n + 1 => ht_tz (ht_tk t 0) n
/-- the end: 128, zeros, the length in bits -/
def ht_fi (t : ht_D) : ht_D := ht_tl (ht_tz (ht_tk t 128) (((56 : Int32) - (ht_tk t 128).2.2) &&& 63).toNatClampNeg) ((8 : Int64) * t.2.2.toInt64) 8
theorem ht_c8 {j y : Int32} (h : j + 8 = y) : j = y + (-8) := by
  rw [← h, Int32.add_assoc, show ((8 : Int32) + -8) = 0 by decide, Int32.add_zero]
theorem ht_c9 (x : Int32) : x + (-8) + 8 = x := by
  rw [Int32.add_assoc, show ((-8 : Int32) + 8) = 0 by decide, Int32.add_zero]
theorem ht_j8 {j : Int32} {n : Nat} (h : j + 8 = nI (8 * (n + 1))) : j = nI (8 * n) := by
  rw [ht_c8 h, show 8 * (n + 1) = 8 * n + 8 by omega, ← nI_add, Int32.add_assoc, show (nI 8 + (-8) : Int32) = 0 by decide, Int32.add_zero]
theorem ht_j80 {j : Int32} (h : j + 8 = nI (8 * 0)) : j < 0 := by
  rw [ht_c8 h]
  decide
set_option maxHeartbeats 4000000 in
set_option maxRecDepth 100000 in
theorem c_D_finish (l : Launch) (g : ht_G) (w : ht_W) {dg wd wa : Nat} {t0 : ht_D} (hD : ht_Dg g w dg wd wa t0) : Met l y_D_finish ws_D_finish ({ frames := 3, cells := 0, slots := 0, locals := 90 } : Room) (va_Pc [.ref dg] (ht_WS g w)) (ht_Qv g (fun u => u = ht_dw g w dg wd wa (ht_fi t0))) 0 0 (ht_A g) := by
  refine Met.ofW (cc := b_D_finish) (maxL := 5) (ret := none) (by decide) rfl ?_
  intro p e s m args below meth c s₁ BB hml hv
  obtain ⟨rfl, HW⟩ := hv
  have HW := ht_I.start HW
  have hx := BB.exec
  have hb := BB.bytes
  have hr := BB.returns
  have hts := atoms_spec (ws := ws_D_finish) BB.pre
  have htb : ∀ w ∈ bg, w.before _ s = true := fun w h => hts w (List.mem_cons_of_mem _ h)
  have hown : s.vm.findClass R_D = some m.cls := findClass_of_methodNamed BB.named
  have hlocks := BB.notSynchronized
  have hl := lv_entry ([.ref dg]) (n := 5) (Nat.le_of_ble_eq_true rfl)
  rw [lg_entry_eq]
  generalize (lg_sl ([.ref dg]) ++ List.replicate (5 - (lg_sl ([.ref dg])).length) Slot.unset).toArray = ls at hl ⊢
  have hl : lv_has ls 5 [(0, .ref dg)] := hl
  obtain ⟨h_dg, h_wd, h_wa⟩ := id hD
  refine lv_ldc2 (v := 8) hx hb hown (htb _ wd_259) d_D_finish_0 ?_
  refine lv_aload_n hx hb d_D_finish_3 rfl (lv_at hl 0 rfl) ?_
  refine ht_get (C := R_D) (T := F_D) (N := 3) (v := .int t0.2.2) hx hb htb i_D hown HW h_dg rfl 2 (by decide) (htb _ wd_28) (fun _ h9 => h9) rfl d_D_finish_4 ?_
  refine lv_i2l (v := t0.2.2.toInt64) hx hb d_D_finish_7 rfl ?_
  refine lv_lmul hx hb d_D_finish_8 ?_
  refine lv_topl (fun b eb => ?_)
  refine lv_lstore_n (lv' := [(1, .long b), (0, .ref dg)]) hx hb d_D_finish_9 rfl hl (by decide) rfl (fun ls hl => ?_)
  refine lv_aload_n hx hb d_D_finish_10 rfl (lv_at hl 1 rfl) ?_
  refine lv_sipush (v := 128) hx hb d_D_finish_11 (by decide) ?_
  refine ht_cv HW (va_runV (own := R_D) (C := R_D) (As := [.int 128]) (rest := []) ⟨hx, hb, hml, hown, htb⟩ (c_D_take l g w (ws := t0.1) (wf := t0.2.1) (n0 := t0.2.2) hD 128) (cwV 1 htb (ht_gv wd_234 wd_235 wd_236 wd_2 g_D_take) rfl rfl rfl (by decide +kernel) ⟨Nat.le_of_ble_eq_true rfl, Nat.le_of_ble_eq_true rfl⟩) (HW.preV h_dg rfl _) rfl rfl hl.1 rfl (lv_room (Nat.le_of_ble_eq_true rfl)) d_D_finish_14 ⟨Nat.le_of_ble_eq_true rfl, Nat.le_of_ble_eq_true rfl⟩) (fun u1 H locs pw HW => ?_)
  have hD1 : ht_Dg g u1 dg wd wa (ht_tk t0 128) := by rw [pw]; exact hD.up
  obtain ⟨h_dg, h_wd, h_wa⟩ := id hD1
  refine lv_bipush (v := 56) hx hb d_D_finish_17 (by decide) ?_
  refine lv_aload_n hx hb d_D_finish_19 rfl (lv_at hl 1 rfl) ?_
  refine ht_get (C := R_D) (T := F_D) (N := 3) (v := .int ((ht_tk t0 128).2.2)) hx hb htb i_D hown HW h_dg rfl 2 (by decide) (htb _ wd_28) (fun _ h9 => h9) rfl d_D_finish_20 ?_
  refine lv_isub hx hb d_D_finish_23 ?_
  refine lv_bipush (v := 63) hx hb d_D_finish_24 (by decide) ?_
  refine lv_iand hx hb d_D_finish_26 ?_
  refine lv_topi (fun zz ezz => ?_)
  refine lv_istore_n (lv' := [(3, .int zz), (1, .long b), (0, .ref dg)]) hx hb d_D_finish_27 rfl hl (by decide) rfl (fun ls hl => ?_)
  refine lv_iconst (v := 0) hx hb d_D_finish_28 (by decide) ?_
  refine lv_istore (lv' := [(4, .int 0), (3, .int zz), (1, .long b), (0, .ref dg)]) hx hb d_D_finish_29 hl (by decide) rfl (fun ls hl => ?_)
  obtain ⟨z, hz64, hzz⟩ := pk_andE ((56 : Int32) - (ht_tk t0 128).2.2) (m := 63) 6 (by decide)
  have ezz : zz = nI z := by rw [ezz]; exact hzz
  have hz : z = (((56 : Int32) - (ht_tk t0 128).2.2) &&& 63).toNatClampNeg := by rw [hzz, nI_clamp (by omega)]
  have loop2 : ∀ (n : Nat), n ≤ 8 → ∀ (t1 : ht_D), ht_tl t1 b n = ht_fi t0 → ∀ (H : Heap) (locs : List Loc) (ls : Array Slot) (j : Int32), j + 8 = nI (8 * n) → ht_I g s (ht_dw g w dg wd wa t1) H locs → lv_has ls 5 [(0, .ref dg), (1, .long b), (4, .int j)] → W p l e (headSpec ws_D_finish ({ frames := 3, cells := 0, slots := 0, locals := 90 } : Room)).room s m ([.ref dg] : List Value).toArray below meth c H locs 0 0 (MQ below (ht_Qv g (fun u => u = ht_dw g w dg wd wa (ht_fi t0))) ([.ref dg] : List Value).toArray s 0 0 (ht_A g)) (F0 m 52 ls []) := by
    intro n
    induction n with
    | zero =>
      intro hn t1 ht H locs ls j ej HW hl
      obtain ⟨w1, hw1⟩ : ∃ z, z = ht_dw g w dg wd wa t1 := ⟨_, rfl⟩
      rw [← hw1] at HW
      have hD1 : ht_Dg g w1 dg wd wa t1 := by rw [hw1]; exact hD.up
      obtain ⟨h_dg, h_wd, h_wa⟩ := id hD1
      refine lv_iload hx hb d_D_finish_52 (lv_at hl 2 rfl) ?_
      refine lv_if_lt (tgt := 72) hx hb d_D_finish_54 (by decide) (fun c54 => ?_) (fun c54 => ?_)
      · exact ht_vret hx hb hr hlocks HW (hw1.trans (by rw [← ht]; rfl)) d_D_finish_72
      · exact absurd (ht_j80 ej) c54
    | succ n ih =>
      intro hn t1 ht H locs ls j ej HW hl
      obtain ⟨w1, hw1⟩ : ∃ z, z = ht_dw g w dg wd wa t1 := ⟨_, rfl⟩
      rw [← hw1] at HW
      have hD1 : ht_Dg g w1 dg wd wa t1 := by rw [hw1]; exact hD.up
      obtain ⟨h_dg, h_wd, h_wa⟩ := id hD1
      have ej1 : j = nI (8 * n) := ht_j8 ej
      refine lv_iload hx hb d_D_finish_52 (lv_at hl 2 rfl) ?_
      refine lv_if_lt (tgt := 72) hx hb d_D_finish_54 (by decide) (fun c54 => ?_) (fun c54 => ?_)
      · exact absurd c54 (by rw [ej1]; exact nI_pos (by omega))
      · refine lv_aload_n hx hb d_D_finish_57 rfl (lv_at hl 0 rfl) ?_
        refine lv_lload_n hx hb d_D_finish_58 rfl (lv_at hl 1 rfl) ?_
        refine lv_iload hx hb d_D_finish_59 (lv_at hl 2 rfl) ?_
        refine lv_lushr (v := (b.toUInt64 >>> (j.toInt64.toUInt64 &&& Int64.toUInt64 63)).toInt64) hx hb d_D_finish_61 rfl ?_
        refine lv_l2i (v := ((b.toUInt64 >>> (j.toInt64.toUInt64 &&& Int64.toUInt64 63)).toInt64).toInt32) hx hb d_D_finish_62 rfl ?_
        refine lv_topi (fun b1 eb1 => ?_)
        have eb1 : b1 = ht_by b n := by rw [eb1, ej1]; unfold ht_by; rw [show (8 : Int32) = nI 8 from rfl, pk_mul]
        refine ht_cv HW (va_runV (own := R_D) (C := R_D) (As := [.int b1]) (rest := []) ⟨hx, hb, hml, hown, htb⟩ (c_D_take l g w1 (ws := t1.1) (wf := t1.2.1) (n0 := t1.2.2) hD1 b1) (cwV 1 htb (ht_gv wd_234 wd_235 wd_236 wd_2 g_D_take) rfl rfl rfl (by decide +kernel) ⟨Nat.le_of_ble_eq_true rfl, Nat.le_of_ble_eq_true rfl⟩) (HW.preV h_dg rfl _) rfl rfl hl.1 rfl (lv_room (Nat.le_of_ble_eq_true rfl)) d_D_finish_63 ⟨Nat.le_of_ble_eq_true rfl, Nat.le_of_ble_eq_true rfl⟩) (fun u1 H locs pw HW => ?_)
        obtain ⟨j2, ej2⟩ : ∃ y : Int32, y = j + (-8) := ⟨_, rfl⟩
        refine lv_iinc (v := j2) (lv' := [(4, .int j2), (0, .ref dg), (1, .long b)]) hx hb d_D_finish_66 hl (k := 2) rfl (by rw [ej2]; rfl) (by decide) rfl (fun ls hl => ?_)
        refine lv_goto (tgt := 52) hx hb d_D_finish_69 (by decide) ?_
        refine ih (by omega) (ht_tk t1 (ht_by b n)) ht _ _ _ j2 (by rw [ej2, ej1]; exact ht_c9 _) (HW.to ?_) (lv_sub hl [1, 2, 0] rfl)
        rw [pw, hw1, hD.dw, eb1]
  have loop1 : ∀ (n i : Nat), i + n = z → ∀ (t1 : ht_D), ht_tz t1 n = ht_tz (ht_tk t0 128) z → ∀ (H : Heap) (locs : List Loc) (ls : Array Slot) (j : Int32), j = nI i → ht_I g s (ht_dw g w dg wd wa t1) H locs → lv_has ls 5 [(0, .ref dg), (1, .long b), (3, .int zz), (4, .int j)] → W p l e (headSpec ws_D_finish ({ frames := 3, cells := 0, slots := 0, locals := 90 } : Room)).room s m ([.ref dg] : List Value).toArray below meth c H locs 0 0 (MQ below (ht_Qv g (fun u => u = ht_dw g w dg wd wa (ht_fi t0))) ([.ref dg] : List Value).toArray s 0 0 (ht_A g)) (F0 m 31 ls []) := by
    intro n
    induction n with
    | zero =>
      intro i hi t1 ht H locs ls j ej HW hl
      obtain ⟨w1, hw1⟩ : ∃ z, z = ht_dw g w dg wd wa t1 := ⟨_, rfl⟩
      rw [← hw1] at HW
      have hD1 : ht_Dg g w1 dg wd wa t1 := by rw [hw1]; exact hD.up
      obtain ⟨h_dg, h_wd, h_wa⟩ := id hD1
      refine lv_iload hx hb d_D_finish_31 (lv_at hl 3 rfl) ?_
      refine lv_iload_n hx hb d_D_finish_33 rfl (lv_at hl 2 rfl) ?_
      refine lv_icmp_ge (tgt := 48) hx hb d_D_finish_34 (by decide) (fun c34 => ?_) (fun c34 => ?_)
      · refine lv_bipush (v := 56) hx hb d_D_finish_48 (by decide) ?_
        refine lv_istore (lv' := [(4, .int 56), (0, .ref dg), (1, .long b), (3, .int zz)]) hx hb d_D_finish_50 hl (by decide) rfl (fun ls hl => ?_)
        exact loop2 8 (Nat.le_refl 8) t1 (by rw [show t1 = ht_tz (ht_tk t0 128) z from ht, hz, eb]; rfl) _ _ _ 56 rfl (HW.to hw1) (lv_sub hl [1, 2, 0] rfl)
      · exact absurd (by rw [ej, ezz]; exact nI_le (by omega) (by omega)) c34
    | succ n ih =>
      intro i hi t1 ht H locs ls j ej HW hl
      obtain ⟨w1, hw1⟩ : ∃ z, z = ht_dw g w dg wd wa t1 := ⟨_, rfl⟩
      rw [← hw1] at HW
      have hD1 : ht_Dg g w1 dg wd wa t1 := by rw [hw1]; exact hD.up
      obtain ⟨h_dg, h_wd, h_wa⟩ := id hD1
      refine lv_iload hx hb d_D_finish_31 (lv_at hl 3 rfl) ?_
      refine lv_iload_n hx hb d_D_finish_33 rfl (lv_at hl 2 rfl) ?_
      refine lv_icmp_ge (tgt := 48) hx hb d_D_finish_34 (by decide) (fun c34 => ?_) (fun c34 => ?_)
      · exact absurd (by rw [ej, ezz] at c34; exact c34) (nI_ge (show i < z by omega) (by omega))
      · refine lv_aload_n hx hb d_D_finish_37 rfl (lv_at hl 0 rfl) ?_
        refine lv_iconst (v := 0) hx hb d_D_finish_38 (by decide) ?_
        refine ht_cv HW (va_runV (own := R_D) (C := R_D) (As := [.int 0]) (rest := []) ⟨hx, hb, hml, hown, htb⟩ (c_D_take l g w1 (ws := t1.1) (wf := t1.2.1) (n0 := t1.2.2) hD1 0) (cwV 1 htb (ht_gv wd_234 wd_235 wd_236 wd_2 g_D_take) rfl rfl rfl (by decide +kernel) ⟨Nat.le_of_ble_eq_true rfl, Nat.le_of_ble_eq_true rfl⟩) (HW.preV h_dg rfl _) rfl rfl hl.1 rfl (lv_room (Nat.le_of_ble_eq_true rfl)) d_D_finish_39 ⟨Nat.le_of_ble_eq_true rfl, Nat.le_of_ble_eq_true rfl⟩) (fun u1 H locs pw HW => ?_)
        obtain ⟨j2, ej2⟩ : ∃ y : Int32, y = j + 1 := ⟨_, rfl⟩
        refine lv_iinc (v := j2) (lv' := [(4, .int j2), (0, .ref dg), (1, .long b), (3, .int zz)]) hx hb d_D_finish_42 hl (k := 3) rfl (by rw [ej2]; rfl) (by decide) rfl (fun ls hl => ?_)
        refine lv_goto (tgt := 31) hx hb d_D_finish_45 (by decide) ?_
        refine ih (i + 1) (by omega) (ht_tk t1 0) ht _ _ _ j2 (by rw [ej2, ej, nI_1]) (HW.to ?_) (lv_sub hl [1, 2, 3, 0] rfl)
        rw [pw, hw1, hD.dw]
  exact loop1 z 0 (by omega) (ht_tk t0 128) rfl _ _ _ 0 rfl (HW.to pw) (lv_sub hl [3, 2, 1, 0] rfl)
