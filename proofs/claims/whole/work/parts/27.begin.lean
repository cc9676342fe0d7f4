def ht_w0 (j : Nat) : Int32 := ht_w8.getD j 0
theorem ht_cp0 {α : Type} {f g : Nat → α} {n j : Nat} (h : j < n) : va_cpy f g 0 0 n j = f j := by
  rw [pk_cpy_in (Nat.zero_le j) (by omega)]
  congr 1
  omega
set_option maxHeartbeats 4000000 in
set_option maxRecDepth 100000 in
theorem c_D_begin (l : Launch) (g : ht_G) (w : ht_W) {dg wd wa : Nat} {t0 : ht_D} (hD : ht_Dg g w dg wd wa t0) : Met l y_D_begin ws_D_begin ({ frames := 1, cells := 0, slots := 0, locals := 60 } : Room) (va_Pc [.ref dg] (ht_WS g w)) (ht_Qv g (fun u => u = ht_dw g w dg wd wa (ht_w0, t0.2.1, 0))) 0 0 (ht_A g) := by
  refine Met.ofW (cc := b_D_begin) (maxL := 1) (ret := none) (by decide) rfl ?_
  intro p e s m args below meth c s₁ BB hml hv
  obtain ⟨rfl, HW⟩ := hv
  have HW := ht_I.start HW
  have hx := BB.exec
  have hb := BB.bytes
  have hr := BB.returns
  have hts := atoms_spec (ws := ws_D_begin) BB.pre
  have htb : ∀ w ∈ bg, w.before _ s = true := fun w h => hts w (List.mem_cons_of_mem _ h)
  have hown : s.vm.findClass R_D = some m.cls := findClass_of_methodNamed BB.named
  have hlocks := BB.notSynchronized
  have hl := lv_entry ([.ref dg]) (n := 1) (Nat.le_of_ble_eq_true rfl)
  rw [lg_entry_eq]
  generalize (lg_sl ([.ref dg]) ++ List.replicate (1 - (lg_sl ([.ref dg])).length) Slot.unset).toArray = ls at hl ⊢
  have hl : lv_has ls 1 [(0, .ref dg)] := hl
  obtain ⟨h_dg, h_wd, h_wa⟩ := id hD
  refine ht_gets hx hb HW.2.2.1.2.1 HW hown (htb _ wd_229) (fun _ h9 => h9) d_D_begin_0 ?_
  refine lv_iconst (v := 0) hx hb d_D_begin_3 (by decide) ?_
  refine lv_aload_n hx hb d_D_begin_4 rfl (lv_at hl 0 rfl) ?_
  refine ht_get (C := R_D) (T := F_D) (N := 3) (v := .ref wd) hx hb htb i_D hown HW h_dg rfl 0 (by decide) (htb _ wd_26) (fun _ h9 => h9) rfl d_D_begin_5 ?_
  refine lv_iconst (v := 0) hx hb d_D_begin_8 (by decide) ?_
  refine lv_bipush (v := 8) hx hb d_D_begin_9 (by decide) ?_
  refine ht_cpt (f := ht_w0) hx hb (hml.trans hl.1.symm) hown (htb _ wd_231) (htb _ wd_233) (htb _ wd_232) (htb _ wd_9) HW HW.2.2.1.2.1.2 h_wd (by decide) (by decide) (by decide) (by decide) (by decide) (Nat.le_of_ble_eq_true rfl) (by decide +kernel) d_D_begin_11 (fun H locs HW => ?_)
  have HW := HW.cg (ht_eqv_i (f' := ht_w0) (fun j hj => ht_cp0 hj))
  have n_wa_wd : wa ≠ wd := (Ne.symm hD.n3)
  obtain ⟨u1, hu1⟩ : ∃ z, z = ht_up w wd (ht_ai g 8 ht_w0) := ⟨_, rfl⟩
  have HW : ht_I g s u1 H locs := by rw [hu1]; exact HW
  have h_dg : ht_at u1 dg (.inr (1, [.ref wd, .ref wa, .int t0.2.2]) : va_E) := by rw [hu1]; exact ht_at_ne h_dg hD.n1
  have h_wd : ht_at u1 wd (ht_ai g 8 ht_w0) := by rw [hu1]; exact ht_at_self h_wd
  have h_wa : ht_at u1 wa (ht_ai g 64 t0.2.1) := by rw [hu1]; exact ht_at_ne h_wa n_wa_wd
  refine lv_aload_n hx hb d_D_begin_14 rfl (lv_at hl 0 rfl) ?_
  refine lv_iconst (v := 0) hx hb d_D_begin_15 (by decide) ?_
  refine ht_put (C := R_D) (T := F_D) (N := 3) (v := .int 0) (ty := .int) hx hb htb i_D t_D t_D_ok n_D hown HW h_dg rfl 2 (by decide) (htb _ wd_28) (fun _ h9 => h9) rfl (by decide +kernel) rfl rfl (Nat.le_of_ble_eq_true rfl) d_D_begin_16 (fun H locs HW => ?_)
  have n_wd_dg : wd ≠ dg := (Ne.symm hD.n1)
  have n_wa_dg : wa ≠ dg := (Ne.symm hD.n2)
  obtain ⟨u2, hu2⟩ : ∃ z, z = ht_up u1 dg (.inr (1, [.ref wd, .ref wa, .int 0]) : va_E) := ⟨_, rfl⟩
  have HW : ht_I g s u2 H locs := by rw [hu2]; exact HW
  have h_dg : ht_at u2 dg (.inr (1, [.ref wd, .ref wa, .int 0]) : va_E) := by rw [hu2]; exact ht_at_self h_dg
  have h_wd : ht_at u2 wd (ht_ai g 8 ht_w0) := by rw [hu2]; exact ht_at_ne h_wd n_wd_dg
  have h_wa : ht_at u2 wa (ht_ai g 64 t0.2.1) := by rw [hu2]; exact ht_at_ne h_wa n_wa_dg
  exact ht_vret hx hb hr hlocks HW (by rw [hu2, hu1]; unfold ht_dw; rw [ht_up_comm hD.n1.symm, ht_up_id (w := ht_up (ht_up w dg _) wd _) (ht_at_ne (ht_at_ne hD.2.2 hD.n2.symm) hD.n3.symm)]) d_D_begin_19
