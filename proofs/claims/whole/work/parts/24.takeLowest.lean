/-- byte j of a number, as the machine hands it on -/
def ht_by (x : Int64) (j : Nat) : Int32 := ((x.toUInt64 >>> (((8 : Int32) * nI j).toInt64.toUInt64 &&& Int64.toUInt64 63)).toInt64).toInt32
def ht_tl (t : ht_D) (x : Int64) : Nat → ht_D
  | 0 => t
  | n + 1 => ht_tl (ht_tk t (ht_by x n)) x n
theorem ht_c1 (x : Int32) : x + (-1) + 1 = x := by
  rw [Int32.add_assoc, show ((-1 : Int32) + 1) = 0 by decide, Int32.add_zero]
theorem ht_c2 (x : Int32) : x - 1 + 1 = x := by
  rw [Int32.sub_eq_add_neg]
  exact ht_c1 x
theorem ht_c3 {j y : Int32} (h : j + 1 = y) : j = y + (-1) := by
  rw [← h, Int32.add_assoc, show ((1 : Int32) + -1) = 0 by decide, Int32.add_zero]
theorem ht_j0 {j : Int32} (h : j + 1 = nI 0) : j < 0 := by
  rw [ht_c3 h]
  decide
theorem ht_js {j : Int32} {n : Nat} (h : j + 1 = nI (n + 1)) : j = nI n := by
  rw [ht_c3 h]
  exact pk_m1 n
set_option maxHeartbeats 4000000 in
set_option maxRecDepth 100000 in
theorem c_D_takeLowest (l : Launch) (g : ht_G) (w : ht_W) {dg wd wa : Nat} {t0 : ht_D} (hD : ht_Dg g w dg wd wa t0) (x : Int64) (k0 : Nat) (hk0 : k0 ≤ 8) (k1 : Int32) (ek1 : k1 = nI k0) : Met l y_D_takeLowest ws_D_takeLowest ({ frames := 3, cells := 0, slots := 0, locals := 90 } : Room) (va_Pc [.ref dg, .long x, .int k1] (ht_WS g w)) (ht_Qv g (fun u => u = ht_dw g w dg wd wa (ht_tl t0 x k0))) 0 0 (ht_A g) := by
  refine Met.ofW (cc := b_D_takeLowest) (maxL := 5) (ret := none) (by decide) rfl ?_
  intro p e s m args below meth c s₁ BB hml hv
  obtain ⟨rfl, HW⟩ := hv
  have HW := ht_I.start HW
  have hx := BB.exec
  have hb := BB.bytes
  have hr := BB.returns
  have hts := atoms_spec (ws := ws_D_takeLowest) BB.pre
  have htb : ∀ w ∈ bg, w.before _ s = true := fun w h => hts w (List.mem_cons_of_mem _ h)
  have hown : s.vm.findClass R_D = some m.cls := findClass_of_methodNamed BB.named
  have hlocks := BB.notSynchronized
  have hl := lv_entry ([.ref dg, .long x, .int k1]) (n := 5) (Nat.le_of_ble_eq_true rfl)
  rw [lg_entry_eq]
  generalize (lg_sl ([.ref dg, .long x, .int k1]) ++ List.replicate (5 - (lg_sl ([.ref dg, .long x, .int k1])).length) Slot.unset).toArray = ls at hl ⊢
  have hl : lv_has ls 5 [(0, .ref dg), (1, .long x), (3, .int k1)] := hl
  have loop : ∀ (n : Nat), n ≤ 8 → ∀ (t1 : ht_D), ht_tl t1 x n = ht_tl t0 x k0 → ∀ (H : Heap) (locs : List Loc) (ls : Array Slot) (j : Int32), j + 1 = nI n → ht_I g s (ht_dw g w dg wd wa t1) H locs → lv_has ls 5 [(0, .ref dg), (1, .long x), (4, .int j)] → W p l e (headSpec ws_D_takeLowest ({ frames := 3, cells := 0, slots := 0, locals := 90 } : Room)).room s m ([.ref dg, .long x, .int k1] : List Value).toArray below meth c H locs 0 0 (MQ below (ht_Qv g (fun u => u = ht_dw g w dg wd wa (ht_tl t0 x k0))) ([.ref dg, .long x, .int k1] : List Value).toArray s 0 0 (ht_A g)) (F0 m 5 ls []) := by
    intro n
    induction n with
    | zero =>
      intro hn t1 ht H locs ls j ej HW hl
      obtain ⟨w1, hw1⟩ : ∃ z, z = ht_dw g w dg wd wa t1 := ⟨_, rfl⟩
      rw [← hw1] at HW
      have hD1 : ht_Dg g w1 dg wd wa t1 := by rw [hw1]; exact hD.up
      obtain ⟨h_dg, h_wd, h_wa⟩ := id hD1
      refine lv_iload hx hb d_D_takeLowest_5 (lv_at hl 2 rfl) ?_
      refine lv_if_lt (tgt := 28) hx hb d_D_takeLowest_7 (by decide) (fun c7 => ?_) (fun c7 => ?_)
      · exact ht_vret hx hb hr hlocks HW (hw1.trans (by rw [← ht]; rfl)) d_D_takeLowest_28
      · exact absurd (ht_j0 ej) c7
    | succ n ih =>
      intro hn t1 ht H locs ls j ej HW hl
      obtain ⟨w1, hw1⟩ : ∃ z, z = ht_dw g w dg wd wa t1 := ⟨_, rfl⟩
      rw [← hw1] at HW
      have hD1 : ht_Dg g w1 dg wd wa t1 := by rw [hw1]; exact hD.up
      obtain ⟨h_dg, h_wd, h_wa⟩ := id hD1
      have ej1 : j = nI n := ht_js ej
      refine lv_iload hx hb d_D_takeLowest_5 (lv_at hl 2 rfl) ?_
      refine lv_if_lt (tgt := 28) hx hb d_D_takeLowest_7 (by decide) (fun c7 => ?_) (fun c7 => ?_)
      · exact absurd c7 (by rw [ej1]; exact nI_pos (by omega))
      · refine lv_aload_n hx hb d_D_takeLowest_10 rfl (lv_at hl 0 rfl) ?_
        refine lv_lload_n hx hb d_D_takeLowest_11 rfl (lv_at hl 1 rfl) ?_
        refine lv_bipush (v := 8) hx hb d_D_takeLowest_12 (by decide) ?_
        refine lv_iload hx hb d_D_takeLowest_14 (lv_at hl 2 rfl) ?_
        refine lv_imul hx hb d_D_takeLowest_16 ?_
        refine lv_lushr (v := (x.toUInt64 >>> (((8 : Int32) * j).toInt64.toUInt64 &&& Int64.toUInt64 63)).toInt64) hx hb d_D_takeLowest_17 rfl ?_
        refine lv_l2i (v := ((x.toUInt64 >>> (((8 : Int32) * j).toInt64.toUInt64 &&& Int64.toUInt64 63)).toInt64).toInt32) hx hb d_D_takeLowest_18 rfl ?_
        refine lv_topi (fun b1 eb1 => ?_)
        have eb1 : b1 = ht_by x n := by rw [eb1, ej1]; rfl
        refine ht_cv HW (va_runV (own := R_D) (C := R_D) (As := [.int b1]) (rest := []) ⟨hx, hb, hml, hown, htb⟩ (c_D_take l g w1 (ws := t1.1) (wf := t1.2.1) (n0 := t1.2.2) hD1 b1) (cwV 1 htb (ht_gv wd_234 wd_235 wd_236 wd_2 g_D_take) rfl rfl rfl (by decide +kernel) ⟨Nat.le_of_ble_eq_true rfl, Nat.le_of_ble_eq_true rfl⟩) (HW.preV h_dg rfl _) rfl rfl hl.1 rfl (lv_room (Nat.le_of_ble_eq_true rfl)) d_D_takeLowest_19 ⟨Nat.le_of_ble_eq_true rfl, Nat.le_of_ble_eq_true rfl⟩) (fun u1 H locs pw HW => ?_)
        obtain ⟨j2, ej2⟩ : ∃ y : Int32, y = j + (-1) := ⟨_, rfl⟩
        refine lv_iinc (v := j2) (lv' := [(4, .int j2), (0, .ref dg), (1, .long x)]) hx hb d_D_takeLowest_22 hl (k := 2) rfl (by rw [ej2]; rfl) (by decide) rfl (fun ls hl => ?_)
        refine lv_goto (tgt := 5) hx hb d_D_takeLowest_25 (by decide) ?_
        refine ih (by omega) (ht_tk t1 (ht_by x n)) ht _ _ _ j2 (by rw [ej2, ej1]; exact ht_c1 _) (HW.to ?_) (lv_sub hl [1, 2, 0] rfl)
        rw [pw, hw1, hD.dw, eb1]
  refine lv_iload_n hx hb d_D_takeLowest_0 rfl (lv_at hl 2 rfl) ?_
  refine lv_iconst (v := 1) hx hb d_D_takeLowest_1 (by decide) ?_
  refine lv_isub hx hb d_D_takeLowest_2 ?_
  refine lv_topi (fun j0 ej0 => ?_)
  refine lv_istore (lv' := [(4, .int j0), (0, .ref dg), (1, .long x), (3, .int k1)]) hx hb d_D_takeLowest_3 hl (by decide) rfl (fun ls hl => ?_)
  exact loop k0 hk0 t0 rfl _ _ _ j0 (by rw [ej0, ek1]; exact ht_c2 _) (HW.to hD.self.symm) (lv_sub hl [1, 2, 0] rfl)
