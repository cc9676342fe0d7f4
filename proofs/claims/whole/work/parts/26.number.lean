def ht_nu (ws : Nat → Int32) (i : Nat) : Int64 := ((ws (2 * i)).toInt64 <<< ((32 : Int32).toInt64 &&& 63)) ||| ((ws (2 * i + 1)).toInt64 &&& 4294967295)
set_option maxHeartbeats 4000000 in
set_option maxRecDepth 100000 in
theorem c_D_number (l : Launch) (g : ht_G) (w : ht_W) {dg wd wa : Nat} {t0 : ht_D} (hD : ht_Dg g w dg wd wa t0) (i : Nat) (hi : i < 4) (k1 : Int32) (ek1 : k1 = nI i) : Met l y_D_number ws_D_number ({ frames := 0, cells := 0, slots := 0, locals := 0 } : Room) (va_Pc [.ref dg, .int k1] (ht_WS g w)) (ht_Ql g (fun r u => r = ht_nu t0.1 i ∧ w = u)) 0 0 (ht_A g) := by
  refine Met.ofW (cc := b_D_number) (maxL := 3) (ret := (some .long)) (by decide) rfl ?_
  intro p e s m args below meth c s₁ BB hml hv
  obtain ⟨rfl, HW⟩ := hv
  have HW := ht_I.start HW
  have hx := BB.exec
  have hb := BB.bytes
  have hr := BB.returns
  have hts := atoms_spec (ws := ws_D_number) BB.pre
  have htb : ∀ w ∈ bg, w.before _ s = true := fun w h => hts w (List.mem_cons_of_mem _ h)
  have hown : s.vm.findClass R_D = some m.cls := findClass_of_methodNamed BB.named
  have hlocks := BB.notSynchronized
  have hl := lv_entry ([.ref dg, .int k1]) (n := 3) (Nat.le_of_ble_eq_true rfl)
  rw [lg_entry_eq]
  generalize (lg_sl ([.ref dg, .int k1]) ++ List.replicate (3 - (lg_sl ([.ref dg, .int k1])).length) Slot.unset).toArray = ls at hl ⊢
  have hl : lv_has ls 3 [(0, .ref dg), (1, .int k1)] := hl
  obtain ⟨h_dg, h_wd, h_wa⟩ := id hD
  refine lv_iconst (v := 2) hx hb d_D_number_0 (by decide) ?_
  refine lv_iload_n hx hb d_D_number_1 rfl (lv_at hl 1 rfl) ?_
  refine lv_imul hx hb d_D_number_2 ?_
  refine lv_bipush (v := 7) hx hb d_D_number_3 (by decide) ?_
  refine lv_iand hx hb d_D_number_5 ?_
  refine lv_topi (fun x1 ex1 => ?_)
  refine lv_istore_n (lv' := [(2, .int x1), (0, .ref dg), (1, .int k1)]) hx hb d_D_number_6 rfl hl (by decide) rfl (fun ls hl => ?_)
  have ex1 : x1 = nI (2 * i) := by
    rw [ex1, ek1, show (2 : Int32) = nI 2 from rfl, pk_mul, pk_andN (by omega) (m := 7) 3 (by decide)]
    congr 1
    omega
  refine lv_aload_n hx hb d_D_number_7 rfl (lv_at hl 1 rfl) ?_
  refine ht_get (C := R_D) (T := F_D) (N := 3) (v := .ref wd) hx hb htb i_D hown HW h_dg rfl 0 (by decide) (htb _ wd_26) (fun _ h9 => h9) rfl d_D_number_8 ?_
  refine lv_iload_n hx hb d_D_number_11 rfl (lv_at hl 0 rfl) ?_
  refine ht_iald hx hb HW h_wd (by rw [ex1]; exact vp_in_nI (by omega) (by omega)) d_D_number_12 ?_
  refine lv_topi (fun z1 ez1 => ?_)
  have ez1 : z1 = t0.1 (2 * i) := by rw [ez1, ex1, nI_clamp (by omega)]
  refine lv_i2l (v := z1.toInt64) hx hb d_D_number_13 rfl ?_
  refine lv_bipush (v := 32) hx hb d_D_number_14 (by decide) ?_
  refine lv_lshl (v := z1.toInt64 <<< ((32 : Int32).toInt64 &&& 63)) hx hb d_D_number_16 rfl ?_
  refine lv_aload_n hx hb d_D_number_17 rfl (lv_at hl 1 rfl) ?_
  refine ht_get (C := R_D) (T := F_D) (N := 3) (v := .ref wd) hx hb htb i_D hown HW h_dg rfl 0 (by decide) (htb _ wd_26) (fun _ h9 => h9) rfl d_D_number_18 ?_
  refine lv_iload_n hx hb d_D_number_21 rfl (lv_at hl 0 rfl) ?_
  refine lv_iconst (v := 1) hx hb d_D_number_22 (by decide) ?_
  refine lv_iadd hx hb d_D_number_23 ?_
  refine lv_topi (fun x2 ex2 => ?_)
  have ex2 : x2 = nI (2 * i + 1) := by rw [ex2, ex1, nI_1]
  refine ht_iald hx hb HW h_wd (by rw [ex2]; exact vp_in_nI (by omega) (by omega)) d_D_number_24 ?_
  refine lv_topi (fun z2 ez2 => ?_)
  have ez2 : z2 = t0.1 (2 * i + 1) := by rw [ez2, ex2, nI_clamp (by omega)]
  refine lv_i2l (v := z2.toInt64) hx hb d_D_number_25 rfl ?_
  refine lv_ldc2 (v := 4294967295) hx hb hown (htb _ wd_264) d_D_number_26 ?_
  refine lv_land hx hb d_D_number_29 ?_
  refine lv_lor hx hb d_D_number_30 ?_
  exact ht_lret hx hb hr hlocks HW ⟨by simp only [ex1, ez1, ex2, ez2]; rfl, rfl⟩ d_D_number_31
