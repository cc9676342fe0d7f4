theorem ht_pl_ex (n : Int32) : ∃ j : Nat, j < 16 ∧ ht_pl n = nI j := by
  obtain ⟨j, hj, e⟩ := pk_andE n (m := 63) 6 (by decide)
  refine ⟨j / 2 ^ 2, by omega, ?_⟩
  unfold ht_pl
  rw [e]
  exact pk_shrN (by omega) _ 2 (by decide)
theorem ht_pl_in (n : Int32) : vp_in (ht_pl n) 64 := by
  obtain ⟨j, hj, e⟩ := ht_pl_ex n
  rw [e]
  exact vp_in_nI (by omega) (by omega)
set_option maxHeartbeats 4000000 in
set_option maxRecDepth 100000 in
theorem c_D_take (l : Launch) (g : ht_G) (w : ht_W) {dg wd wa : Nat} {ws wf : Nat → Int32} {n0 : Int32} (hD : ht_Dg g w dg wd wa (ws, wf, n0)) (v : Int32) : Met l y_D_take ws_D_take ({ frames := 2, cells := 0, slots := 0, locals := 60 } : Room) (va_Pc [.ref dg, .int v] (ht_WS g w)) (ht_Qv g (fun u => u = ht_dw g w dg wd wa (ht_tk (ws, wf, n0) v))) 0 0 (ht_A g) := by
  refine Met.ofW (cc := b_D_take) (maxL := 3) (ret := none) (by decide) rfl ?_
  intro p e s m args below meth c s₁ BB hml hv
  obtain ⟨rfl, HW⟩ := hv
  have HW := ht_I.start HW
  have hx := BB.exec
  have hb := BB.bytes
  have hr := BB.returns
  have hts := atoms_spec (ws := ws_D_take) BB.pre
  have htb : ∀ w ∈ bg, w.before _ s = true := fun w h => hts w (List.mem_cons_of_mem _ h)
  have hown : s.vm.findClass R_D = some m.cls := findClass_of_methodNamed BB.named
  have hlocks := BB.notSynchronized
  have hl := lv_entry ([.ref dg, .int v]) (n := 3) (Nat.le_of_ble_eq_true rfl)
  rw [lg_entry_eq]
  generalize (lg_sl ([.ref dg, .int v]) ++ List.replicate (3 - (lg_sl ([.ref dg, .int v])).length) Slot.unset).toArray = ls at hl ⊢
  have hl : lv_has ls 3 [(0, .ref dg), (1, .int v)] := hl
  obtain ⟨h_dg, h_wd, h_wa⟩ := id hD
  refine lv_aload_n hx hb d_D_take_0 rfl (lv_at hl 0 rfl) ?_
  refine ht_get (C := R_D) (T := F_D) (N := 3) (v := .int n0) hx hb htb i_D hown HW h_dg rfl 2 (by decide) (htb _ wd_28) (fun _ h9 => h9) rfl d_D_take_1 ?_
  refine lv_bipush (v := 63) hx hb d_D_take_4 (by decide) ?_
  refine lv_iand hx hb d_D_take_6 ?_
  refine lv_iconst (v := 2) hx hb d_D_take_7 (by decide) ?_
  refine lv_ishr hx hb d_D_take_8 ?_
  refine lv_topi (fun x1 ex1 => ?_)
  refine lv_istore_n (lv' := [(2, .int x1), (0, .ref dg), (1, .int v)]) hx hb d_D_take_9 rfl hl (by decide) rfl (fun ls hl => ?_)
  refine lv_aload_n hx hb d_D_take_10 rfl (lv_at hl 1 rfl) ?_
  refine ht_get (C := R_D) (T := F_D) (N := 3) (v := .ref wa) hx hb htb i_D hown HW h_dg rfl 1 (by decide) (htb _ wd_27) (fun _ h9 => h9) rfl d_D_take_11 ?_
  refine lv_iload_n hx hb d_D_take_14 rfl (lv_at hl 0 rfl) ?_
  refine lv_aload_n hx hb d_D_take_15 rfl (lv_at hl 1 rfl) ?_
  refine ht_get (C := R_D) (T := F_D) (N := 3) (v := .ref wa) hx hb htb i_D hown HW h_dg rfl 1 (by decide) (htb _ wd_27) (fun _ h9 => h9) rfl d_D_take_16 ?_
  refine lv_iload_n hx hb d_D_take_19 rfl (lv_at hl 0 rfl) ?_
  refine ht_iald hx hb HW h_wa (by rw [ex1]; exact ht_pl_in n0) d_D_take_20 ?_
  refine lv_bipush (v := 8) hx hb d_D_take_21 (by decide) ?_
  refine lv_ishl hx hb d_D_take_23 ?_
  refine lv_iload_n hx hb d_D_take_24 rfl (lv_at hl 2 rfl) ?_
  refine lv_sipush (v := 255) hx hb d_D_take_25 (by decide) ?_
  refine lv_iand hx hb d_D_take_28 ?_
  refine lv_ior hx hb d_D_take_29 ?_
  refine ht_iast hx hb HW h_wa (by rw [ex1]; exact ht_pl_in n0) d_D_take_30 (fun H locs HW => ?_)
  obtain ⟨u1, hu1⟩ : ∃ z, z = ht_up w wa (ht_ai g 64 (upd wf x1.toNatClampNeg (((wf x1.toNatClampNeg) <<< ((8 : Int32) &&& 31)) ||| (v &&& (255 : Int32))))) := ⟨_, rfl⟩
  have HW : ht_I g s u1 H locs := by rw [hu1]; exact HW
  have h_dg : ht_at u1 dg (.inr (1, [.ref wd, .ref wa, .int n0]) : va_E) := by rw [hu1]; exact ht_at_ne h_dg hD.n2
  have h_wd : ht_at u1 wd (ht_ai g 8 ws) := by rw [hu1]; exact ht_at_ne h_wd hD.n3
  have h_wa : ht_at u1 wa (ht_ai g 64 (upd wf x1.toNatClampNeg (((wf x1.toNatClampNeg) <<< ((8 : Int32) &&& 31)) ||| (v &&& (255 : Int32))))) := by rw [hu1]; exact ht_at_self h_wa
  refine lv_aload_n hx hb d_D_take_31 rfl (lv_at hl 1 rfl) ?_
  refine lv_dup hx hb d_D_take_32 rfl ?_
  refine ht_get (C := R_D) (T := F_D) (N := 3) (v := .int n0) hx hb htb i_D hown HW h_dg rfl 2 (by decide) (htb _ wd_28) (fun _ h9 => h9) rfl d_D_take_33 ?_
  refine lv_iconst (v := 1) hx hb d_D_take_36 (by decide) ?_
  refine lv_iadd hx hb d_D_take_37 ?_
  refine lv_topi (fun n1 en1 => ?_)
  refine ht_put (C := R_D) (T := F_D) (N := 3) (v := .int n1) (ty := .int) hx hb htb i_D t_D t_D_ok n_D hown HW h_dg rfl 2 (by decide) (htb _ wd_28) (fun _ h9 => h9) rfl (by decide +kernel) rfl rfl (Nat.le_of_ble_eq_true rfl) d_D_take_38 (fun H locs HW => ?_)
  have n_wd_dg : wd ≠ dg := (Ne.symm hD.n1)
  have n_wa_dg : wa ≠ dg := (Ne.symm hD.n2)
  obtain ⟨u2, hu2⟩ : ∃ z, z = ht_up u1 dg (.inr (1, [.ref wd, .ref wa, .int n1]) : va_E) := ⟨_, rfl⟩
  have HW : ht_I g s u2 H locs := by rw [hu2]; exact HW
  have h_dg : ht_at u2 dg (.inr (1, [.ref wd, .ref wa, .int n1]) : va_E) := by rw [hu2]; exact ht_at_self h_dg
  have h_wd : ht_at u2 wd (ht_ai g 8 ws) := by rw [hu2]; exact ht_at_ne h_wd n_wd_dg
  have h_wa : ht_at u2 wa (ht_ai g 64 (upd wf x1.toNatClampNeg (((wf x1.toNatClampNeg) <<< ((8 : Int32) &&& 31)) ||| (v &&& (255 : Int32))))) := by rw [hu2]; exact ht_at_ne h_wa n_wa_dg
  refine lv_aload_n hx hb d_D_take_41 rfl (lv_at hl 1 rfl) ?_
  refine ht_get (C := R_D) (T := F_D) (N := 3) (v := .int n1) hx hb htb i_D hown HW h_dg rfl 2 (by decide) (htb _ wd_28) (fun _ h9 => h9) rfl d_D_take_42 ?_
  refine lv_bipush (v := 63) hx hb d_D_take_45 (by decide) ?_
  refine lv_iand hx hb d_D_take_47 ?_
  have hq : u2 = ht_dw g w dg wd wa (ws, ht_tw (ws, wf, n0) v, n0 + 1) := by
    rw [hu2, hu1, en1, ex1]
    unfold ht_dw
    rw [ht_up_comm hD.n2.symm, ht_up_id (ht_at_ne hD.2.1 hD.n1.symm)]
    rfl
  have hD2 : ht_Dg g u2 dg wd wa (ws, ht_tw (ws, wf, n0) v, n0 + 1) := by rw [hq]; exact hD.up
  refine lv_if_ne (tgt := 59) hx hb d_D_take_48 (by decide) (fun c48 => ?_) (fun c48 => ?_)
  · exact ht_vret hx hb hr hlocks HW (by rw [hq]; unfold ht_tk; rw [if_neg (by rw [← en1]; exact c48)]) d_D_take_59
  · refine lv_aload_n hx hb d_D_take_51 rfl (lv_at hl 1 rfl) ?_
    refine ht_cv HW (va_runV (own := R_D) (C := R_D) (As := []) (rest := []) ⟨hx, hb, hml, hown, htb⟩ (c_D_spread l g u2 hD2) (cwV 0 htb (ht_gv wd_238 wd_240 sl_7 wd_2 g_D_spread) rfl rfl rfl (by decide +kernel) ⟨Nat.le_of_ble_eq_true rfl, Nat.le_of_ble_eq_true rfl⟩) (HW.preV h_dg rfl _) rfl rfl hl.1 rfl (lv_room (Nat.le_of_ble_eq_true rfl)) d_D_take_52 ⟨Nat.le_of_ble_eq_true rfl, Nat.le_of_ble_eq_true rfl⟩) (fun u3 H locs pw3 HW => ?_)
    have hD3 : ht_Dg g u3 dg wd wa (ws, ht_sp 48 (ht_tw (ws, wf, n0) v), n0 + 1) := by rw [pw3]; exact hD2.up
    obtain ⟨h_dg, h_wd, h_wa⟩ := id hD3
    refine lv_aload_n hx hb d_D_take_55 rfl (lv_at hl 1 rfl) ?_
    refine ht_cv HW (va_runV (own := R_D) (C := R_D) (As := []) (rest := []) ⟨hx, hb, hml, hown, htb⟩ (c_D_mix l g u3 hD3) (cwV 0 htb (ht_gv wd_245 wd_247 sl_8 wd_2 g_D_mix) rfl rfl rfl (by decide +kernel) ⟨Nat.le_of_ble_eq_true rfl, Nat.le_of_ble_eq_true rfl⟩) (HW.preV h_dg rfl _) rfl rfl hl.1 rfl (lv_room (Nat.le_of_ble_eq_true rfl)) d_D_take_56 ⟨Nat.le_of_ble_eq_true rfl, Nat.le_of_ble_eq_true rfl⟩) (fun u4 H locs pw4 HW => ?_)
    exact ht_vret hx hb hr hlocks HW (by rw [pw4, pw3, hq, (ht_Dg.up (t' := _) hD).dw, hD.dw]; unfold ht_tk; rw [if_pos (by rw [← en1]; exact c48)]; rfl) d_D_take_59
