def ht_M18 (a0 a1 a2 a3 a4 a5 a6 a7 a8 a9 a10 a11 a12 a13 a14 a15 a16 a17 : Nat) : Nat → Nat := fun i => ([a0, a1, a2, a3, a4, a5, a6, a7, a8, a9, a10, a11, a12, a13, a14, a15, a16, a17] : List Nat).getD i 0
theorem ht_M18i {a0 a1 a2 a3 a4 a5 a6 a7 a8 a9 a10 a11 a12 a13 a14 a15 a16 a17 : Nat} (h : [a17, a16, a15, a14, a13, a12, a11, a10, a9, a8, a7, a6, a5, a4, a3, a2, a1, a0].Nodup) : ∀ i j, i < 18 → j < 18 → i ≠ j → ht_M18 a0 a1 a2 a3 a4 a5 a6 a7 a8 a9 a10 a11 a12 a13 a14 a15 a16 a17 i ≠ ht_M18 a0 a1 a2 a3 a4 a5 a6 a7 a8 a9 a10 a11 a12 a13 a14 a15 a16 a17 j := by
  have h : List.Pairwise (· ≠ ·) (([a0, a1, a2, a3, a4, a5, a6, a7, a8, a9, a10, a11, a12, a13, a14, a15, a16, a17] : List Nat).reverse) := h
  intro i j hi hj hne e
  have h9 := List.pairwise_iff_getElem.mp (List.pairwise_reverse.mp h)
  have hg : ∀ (x : Nat) (hx9 : x < 18), ht_M18 a0 a1 a2 a3 a4 a5 a6 a7 a8 a9 a10 a11 a12 a13 a14 a15 a16 a17 x = ([a0, a1, a2, a3, a4, a5, a6, a7, a8, a9, a10, a11, a12, a13, a14, a15, a16, a17] : List Nat)[x] := fun x hx9 => by
    unfold ht_M18
    rw [List.getD_eq_getElem?_getD, List.getElem?_eq_getElem (show x < ([a0, a1, a2, a3, a4, a5, a6, a7, a8, a9, a10, a11, a12, a13, a14, a15, a16, a17] : List Nat).length from hx9)]
    rfl
  rw [hg i hi, hg j hj] at e
  rcases Nat.lt_or_gt_of_ne hne with z | z
  · exact h9 i j hi hj z e.symm
  · exact h9 j i hj hi z e
set_option maxHeartbeats 4000000 in
set_option maxRecDepth 100000 in
theorem c_M_init (l : Launch) (g : ht_G) (w : ht_W) {o : Nat} (hO : ht_at w o (.inr (4, [.null, .null, .int 0, .null, .null, .null, .null, .int 0, .null, .int 0, .null, .int 0, .int 0, .null, .null, .null, .null, .null, .null, .null, .null, .null]) : va_E)) : Met l y_M_init ws_M_init ({ frames := 1, cells := 17, slots := 225380, locals := 20 } : Room) (va_Pc [.ref o] (ht_WS g w)) (ht_Qv g (fun u => ∃ M : Nat → Nat, M 0 = o ∧ (∀ i, 1 ≤ i → i < 18 → M i ∉ w.1) ∧ ht_Mo g u M (va_up (fun _ => 0) 4 (-1)) (fun _ _ => 0) (fun _ _ => 0) ∧ ht_fr (fun b => b = o) w u)) 17 225380 (ht_A g) := by
  refine Met.ofW (cc := b_M_init) (maxL := 1) (ret := none) (by decide) rfl ?_
  intro p e s m args below meth c s₁ BB hml hv
  obtain ⟨rfl, HW⟩ := hv
  have HW := ht_I.start HW
  have hx := BB.exec
  have hb := BB.bytes
  have hr := BB.returns
  have hts := atoms_spec (ws := ws_M_init) BB.pre
  have htb : ∀ w ∈ bg, w.before _ s = true := fun w h => hts w (List.mem_cons_of_mem _ h)
  have hown : s.vm.findClass R_M = some m.cls := findClass_of_methodNamed BB.named
  have hlocks := BB.notSynchronized
  have hin : meth.name = "<init>" := (name_of_methodNamed BB.named BB.method).1
  have hl := lv_entry ([.ref o]) (n := 1) (Nat.le_of_ble_eq_true rfl)
  rw [lg_entry_eq]
  generalize (lg_sl ([.ref o]) ++ List.replicate (1 - (lg_sl ([.ref o])).length) Slot.unset).toArray = ls at hl ⊢
  have hl : lv_has ls 1 [(0, .ref o)] := hl
  have hfr : ht_fr (fun b => b = o) w w := ht_fr.rf
  have hnd : [o].Nodup := List.nodup_cons.mpr ⟨List.not_mem_nil, List.nodup_nil⟩
  have hins : ∀ x ∈ [o], x ∈ w.1 := fun x hx9 => by rw [List.mem_singleton.mp hx9]; exact hO.1
  refine lv_aload_n hx hb d_M_init_0 rfl (lv_at hl 0 rfl) ?_
  refine W.objInit hx hb hown (htb _ wd_308) (htb _ wd_18) (htb _ wc_objectInit) rfl (by rw [hml]; exact hl.1) rfl d_M_init_1 (Nat.le_of_ble_eq_true rfl) (Nat.le_of_ble_eq_true rfl) ?_
  refine W.eq (g2 := F0 m 4 ls []) rfl ?_
  refine lv_aload_n hx hb d_M_init_4 rfl (lv_at hl 0 rfl) ?_
  refine lv_sipush (v := 2048) hx hb d_M_init_5 (by decide) ?_
  refine ht_newl (N' := 2048) hx hb (htb _ wd_36) HW (by decide) rfl (by decide) (Nat.le_of_ble_eq_true rfl) (Nat.le_of_ble_eq_true rfl) rfl d_M_init_8 (fun q1 H hq_q1 HW => ?_)
  have hq0_q1 : q1 ∉ w.1 := fun z9 => hq_q1 (hfr q1 z9 (fun e9 => hq_q1 (by rw [e9]; exact hO.1))).1
  have hnd : [q1, o].Nodup := List.nodup_cons.mpr ⟨fun z9 => hq_q1 (hins q1 z9), hnd⟩
  obtain ⟨u1, hu1⟩ : ∃ zW : ht_W, zW = ht_nw w q1 (ht_al g 2048 (fun _ => 0)) := ⟨_, rfl⟩
  have HW := HW.to hu1.symm
  have n_o_q1 : o ≠ q1 := fun z9 => hq_q1 (by rw [← z9]; exact hO.1)
  have hO : ht_at u1 o (.inr (4, [.null, .null, .int 0, .null, .null, .null, .null, .int 0, .null, .int 0, .null, .int 0, .int 0, .null, .null, .null, .null, .null, .null, .null, .null, .null]) : va_E) := by rw [hu1]; exact ht_at_old hO hq_q1
  have h_q1 : ht_at u1 q1 (ht_al g 2048 (fun _ => 0)) := by rw [hu1]; exact ht_at_new
  have hfr : ht_fr (fun b => b = o) w u1 := by rw [hu1]; exact hfr.trans (ht_fr.nw hq_q1)
  have hins : ∀ x ∈ [q1, o], x ∈ u1.1 := by
    rw [hu1]
    intro x hx9
    rcases List.mem_cons.mp hx9 with e9 | e9
    · rw [e9]; exact List.mem_append_right _ (List.mem_singleton.mpr rfl)
    · exact List.mem_append_left _ (hins x e9)
  refine ht_putF (C := R_M) (T := F_M) (N := 22) (v := .ref q1) (ty := .array .long) hx hb htb i_M t_M t_M_ok n_M hown HW hO rfl 0 (by decide) (htb _ wd_311) (fun _ h9 => h9) rfl hin rfl (by decide +kernel) rfl rfl (Nat.le_of_ble_eq_true rfl) d_M_init_10 (fun H locs HW => ?_)
  have n_q1_o : q1 ≠ o := (Ne.symm n_o_q1)
  obtain ⟨u2, hu2⟩ : ∃ zW : ht_W, zW = ht_up u1 o (.inr (4, [.ref q1, .null, .int 0, .null, .null, .null, .null, .int 0, .null, .int 0, .null, .int 0, .int 0, .null, .null, .null, .null, .null, .null, .null, .null, .null]) : va_E) := ⟨_, rfl⟩
  have HW : ht_I g s u2 H locs := by rw [hu2]; exact HW
  have hO : ht_at u2 o (.inr (4, [.ref q1, .null, .int 0, .null, .null, .null, .null, .int 0, .null, .int 0, .null, .int 0, .int 0, .null, .null, .null, .null, .null, .null, .null, .null, .null]) : va_E) := by rw [hu2]; exact ht_at_self hO
  have h_q1 : ht_at u2 q1 (ht_al g 2048 (fun _ => 0)) := by rw [hu2]; exact ht_at_ne h_q1 n_q1_o
  have hfr : ht_fr (fun b => b = o) w u2 := by rw [hu2]; exact hfr.trans (ht_fr.up rfl)
  have hins : ∀ x ∈ [q1, o], x ∈ u2.1 := by rw [hu2]; exact hins
  refine lv_aload_n hx hb d_M_init_13 rfl (lv_at hl 0 rfl) ?_
  refine lv_sipush (v := 2048) hx hb d_M_init_14 (by decide) ?_
  refine ht_newl (N' := 2048) hx hb (htb _ wd_36) HW (by decide) rfl (by decide) (Nat.le_of_ble_eq_true rfl) (Nat.le_of_ble_eq_true rfl) rfl d_M_init_17 (fun q2 H hq_q2 HW => ?_)
  have hq0_q2 : q2 ∉ w.1 := fun z9 => hq_q2 (hfr q2 z9 (fun e9 => hq_q2 (by rw [e9]; exact hO.1))).1
  have hnd : [q2, q1, o].Nodup := List.nodup_cons.mpr ⟨fun z9 => hq_q2 (hins q2 z9), hnd⟩
  obtain ⟨u3, hu3⟩ : ∃ zW : ht_W, zW = ht_nw u2 q2 (ht_al g 2048 (fun _ => 0)) := ⟨_, rfl⟩
  have HW := HW.to hu3.symm
  have n_o_q2 : o ≠ q2 := fun z9 => hq_q2 (by rw [← z9]; exact hO.1)
  have n_q1_q2 : q1 ≠ q2 := fun z9 => hq_q2 (by rw [← z9]; exact h_q1.1)
  have hO : ht_at u3 o (.inr (4, [.ref q1, .null, .int 0, .null, .null, .null, .null, .int 0, .null, .int 0, .null, .int 0, .int 0, .null, .null, .null, .null, .null, .null, .null, .null, .null]) : va_E) := by rw [hu3]; exact ht_at_old hO hq_q2
  have h_q1 : ht_at u3 q1 (ht_al g 2048 (fun _ => 0)) := by rw [hu3]; exact ht_at_old h_q1 hq_q2
  have h_q2 : ht_at u3 q2 (ht_al g 2048 (fun _ => 0)) := by rw [hu3]; exact ht_at_new
  have hfr : ht_fr (fun b => b = o) w u3 := by rw [hu3]; exact hfr.trans (ht_fr.nw hq_q2)
  have hins : ∀ x ∈ [q2, q1, o], x ∈ u3.1 := by
    rw [hu3]
    intro x hx9
    rcases List.mem_cons.mp hx9 with e9 | e9
    · rw [e9]; exact List.mem_append_right _ (List.mem_singleton.mpr rfl)
    · exact List.mem_append_left _ (hins x e9)
  refine ht_putF (C := R_M) (T := F_M) (N := 22) (v := .ref q2) (ty := .array .long) hx hb htb i_M t_M t_M_ok n_M hown HW hO rfl 1 (by decide) (htb _ wd_312) (fun _ h9 => h9) rfl hin rfl (by decide +kernel) rfl rfl (Nat.le_of_ble_eq_true rfl) d_M_init_19 (fun H locs HW => ?_)
  have n_q2_o : q2 ≠ o := (Ne.symm n_o_q2)
  obtain ⟨u4, hu4⟩ : ∃ zW : ht_W, zW = ht_up u3 o (.inr (4, [.ref q1, .ref q2, .int 0, .null, .null, .null, .null, .int 0, .null, .int 0, .null, .int 0, .int 0, .null, .null, .null, .null, .null, .null, .null, .null, .null]) : va_E) := ⟨_, rfl⟩
  have HW : ht_I g s u4 H locs := by rw [hu4]; exact HW
  have hO : ht_at u4 o (.inr (4, [.ref q1, .ref q2, .int 0, .null, .null, .null, .null, .int 0, .null, .int 0, .null, .int 0, .int 0, .null, .null, .null, .null, .null, .null, .null, .null, .null]) : va_E) := by rw [hu4]; exact ht_at_self hO
  have h_q1 : ht_at u4 q1 (ht_al g 2048 (fun _ => 0)) := by rw [hu4]; exact ht_at_ne h_q1 n_q1_o
  have h_q2 : ht_at u4 q2 (ht_al g 2048 (fun _ => 0)) := by rw [hu4]; exact ht_at_ne h_q2 n_q2_o
  have hfr : ht_fr (fun b => b = o) w u4 := by rw [hu4]; exact hfr.trans (ht_fr.up rfl)
  have hins : ∀ x ∈ [q2, q1, o], x ∈ u4.1 := by rw [hu4]; exact hins
  refine lv_aload_n hx hb d_M_init_22 rfl (lv_at hl 0 rfl) ?_
  refine lv_iconst (v := 4) hx hb d_M_init_23 (by decide) ?_
  refine ht_newl (N' := 4) hx hb (htb _ wd_36) HW (by decide) rfl (by decide) (Nat.le_of_ble_eq_true rfl) (Nat.le_of_ble_eq_true rfl) rfl d_M_init_24 (fun q3 H hq_q3 HW => ?_)
  have hq0_q3 : q3 ∉ w.1 := fun z9 => hq_q3 (hfr q3 z9 (fun e9 => hq_q3 (by rw [e9]; exact hO.1))).1
  have hnd : [q3, q2, q1, o].Nodup := List.nodup_cons.mpr ⟨fun z9 => hq_q3 (hins q3 z9), hnd⟩
  obtain ⟨u5, hu5⟩ : ∃ zW : ht_W, zW = ht_nw u4 q3 (ht_al g 4 (fun _ => 0)) := ⟨_, rfl⟩
  have HW := HW.to hu5.symm
  have n_o_q3 : o ≠ q3 := fun z9 => hq_q3 (by rw [← z9]; exact hO.1)
  have n_q1_q3 : q1 ≠ q3 := fun z9 => hq_q3 (by rw [← z9]; exact h_q1.1)
  have n_q2_q3 : q2 ≠ q3 := fun z9 => hq_q3 (by rw [← z9]; exact h_q2.1)
  have hO : ht_at u5 o (.inr (4, [.ref q1, .ref q2, .int 0, .null, .null, .null, .null, .int 0, .null, .int 0, .null, .int 0, .int 0, .null, .null, .null, .null, .null, .null, .null, .null, .null]) : va_E) := by rw [hu5]; exact ht_at_old hO hq_q3
  have h_q1 : ht_at u5 q1 (ht_al g 2048 (fun _ => 0)) := by rw [hu5]; exact ht_at_old h_q1 hq_q3
  have h_q2 : ht_at u5 q2 (ht_al g 2048 (fun _ => 0)) := by rw [hu5]; exact ht_at_old h_q2 hq_q3
  have h_q3 : ht_at u5 q3 (ht_al g 4 (fun _ => 0)) := by rw [hu5]; exact ht_at_new
  have hfr : ht_fr (fun b => b = o) w u5 := by rw [hu5]; exact hfr.trans (ht_fr.nw hq_q3)
  have hins : ∀ x ∈ [q3, q2, q1, o], x ∈ u5.1 := by
    rw [hu5]
    intro x hx9
    rcases List.mem_cons.mp hx9 with e9 | e9
    · rw [e9]; exact List.mem_append_right _ (List.mem_singleton.mpr rfl)
    · exact List.mem_append_left _ (hins x e9)
  refine ht_putF (C := R_M) (T := F_M) (N := 22) (v := .ref q3) (ty := .array .long) hx hb htb i_M t_M t_M_ok n_M hown HW hO rfl 3 (by decide) (htb _ wd_314) (fun _ h9 => h9) rfl hin rfl (by decide +kernel) rfl rfl (Nat.le_of_ble_eq_true rfl) d_M_init_26 (fun H locs HW => ?_)
  have n_q3_o : q3 ≠ o := (Ne.symm n_o_q3)
  obtain ⟨u6, hu6⟩ : ∃ zW : ht_W, zW = ht_up u5 o (.inr (4, [.ref q1, .ref q2, .int 0, .ref q3, .null, .null, .null, .int 0, .null, .int 0, .null, .int 0, .int 0, .null, .null, .null, .null, .null, .null, .null, .null, .null]) : va_E) := ⟨_, rfl⟩
  have HW : ht_I g s u6 H locs := by rw [hu6]; exact HW
  have hO : ht_at u6 o (.inr (4, [.ref q1, .ref q2, .int 0, .ref q3, .null, .null, .null, .int 0, .null, .int 0, .null, .int 0, .int 0, .null, .null, .null, .null, .null, .null, .null, .null, .null]) : va_E) := by rw [hu6]; exact ht_at_self hO
  have h_q1 : ht_at u6 q1 (ht_al g 2048 (fun _ => 0)) := by rw [hu6]; exact ht_at_ne h_q1 n_q1_o
  have h_q2 : ht_at u6 q2 (ht_al g 2048 (fun _ => 0)) := by rw [hu6]; exact ht_at_ne h_q2 n_q2_o
  have h_q3 : ht_at u6 q3 (ht_al g 4 (fun _ => 0)) := by rw [hu6]; exact ht_at_ne h_q3 n_q3_o
  have hfr : ht_fr (fun b => b = o) w u6 := by rw [hu6]; exact hfr.trans (ht_fr.up rfl)
  have hins : ∀ x ∈ [q3, q2, q1, o], x ∈ u6.1 := by rw [hu6]; exact hins
  refine lv_aload_n hx hb d_M_init_29 rfl (lv_at hl 0 rfl) ?_
  refine lv_sipush (v := 512) hx hb d_M_init_30 (by decide) ?_
  refine ht_newi (N' := 512) hx hb (htb _ wd_37) HW (by decide) rfl (by decide) (Nat.le_of_ble_eq_true rfl) (Nat.le_of_ble_eq_true rfl) rfl d_M_init_33 (fun q4 H hq_q4 HW => ?_)
  have hq0_q4 : q4 ∉ w.1 := fun z9 => hq_q4 (hfr q4 z9 (fun e9 => hq_q4 (by rw [e9]; exact hO.1))).1
  have hnd : [q4, q3, q2, q1, o].Nodup := List.nodup_cons.mpr ⟨fun z9 => hq_q4 (hins q4 z9), hnd⟩
  obtain ⟨u7, hu7⟩ : ∃ zW : ht_W, zW = ht_nw u6 q4 (ht_ai g 512 (fun _ => 0)) := ⟨_, rfl⟩
  have HW := HW.to hu7.symm
  have n_o_q4 : o ≠ q4 := fun z9 => hq_q4 (by rw [← z9]; exact hO.1)
  have n_q1_q4 : q1 ≠ q4 := fun z9 => hq_q4 (by rw [← z9]; exact h_q1.1)
  have n_q2_q4 : q2 ≠ q4 := fun z9 => hq_q4 (by rw [← z9]; exact h_q2.1)
  have n_q3_q4 : q3 ≠ q4 := fun z9 => hq_q4 (by rw [← z9]; exact h_q3.1)
  have hO : ht_at u7 o (.inr (4, [.ref q1, .ref q2, .int 0, .ref q3, .null, .null, .null, .int 0, .null, .int 0, .null, .int 0, .int 0, .null, .null, .null, .null, .null, .null, .null, .null, .null]) : va_E) := by rw [hu7]; exact ht_at_old hO hq_q4
  have h_q1 : ht_at u7 q1 (ht_al g 2048 (fun _ => 0)) := by rw [hu7]; exact ht_at_old h_q1 hq_q4
  have h_q2 : ht_at u7 q2 (ht_al g 2048 (fun _ => 0)) := by rw [hu7]; exact ht_at_old h_q2 hq_q4
  have h_q3 : ht_at u7 q3 (ht_al g 4 (fun _ => 0)) := by rw [hu7]; exact ht_at_old h_q3 hq_q4
  have h_q4 : ht_at u7 q4 (ht_ai g 512 (fun _ => 0)) := by rw [hu7]; exact ht_at_new
  have hfr : ht_fr (fun b => b = o) w u7 := by rw [hu7]; exact hfr.trans (ht_fr.nw hq_q4)
  have hins : ∀ x ∈ [q4, q3, q2, q1, o], x ∈ u7.1 := by
    rw [hu7]
    intro x hx9
    rcases List.mem_cons.mp hx9 with e9 | e9
    · rw [e9]; exact List.mem_append_right _ (List.mem_singleton.mpr rfl)
    · exact List.mem_append_left _ (hins x e9)
  refine ht_putF (C := R_M) (T := F_M) (N := 22) (v := .ref q4) (ty := .array .int) hx hb htb i_M t_M t_M_ok n_M hown HW hO rfl 4 (by decide) (htb _ wd_315) (fun _ h9 => h9) rfl hin rfl (by decide +kernel) rfl rfl (Nat.le_of_ble_eq_true rfl) d_M_init_35 (fun H locs HW => ?_)
  have n_q4_o : q4 ≠ o := (Ne.symm n_o_q4)
  obtain ⟨u8, hu8⟩ : ∃ zW : ht_W, zW = ht_up u7 o (.inr (4, [.ref q1, .ref q2, .int 0, .ref q3, .ref q4, .null, .null, .int 0, .null, .int 0, .null, .int 0, .int 0, .null, .null, .null, .null, .null, .null, .null, .null, .null]) : va_E) := ⟨_, rfl⟩
  have HW : ht_I g s u8 H locs := by rw [hu8]; exact HW
  have hO : ht_at u8 o (.inr (4, [.ref q1, .ref q2, .int 0, .ref q3, .ref q4, .null, .null, .int 0, .null, .int 0, .null, .int 0, .int 0, .null, .null, .null, .null, .null, .null, .null, .null, .null]) : va_E) := by rw [hu8]; exact ht_at_self hO
  have h_q1 : ht_at u8 q1 (ht_al g 2048 (fun _ => 0)) := by rw [hu8]; exact ht_at_ne h_q1 n_q1_o
  have h_q2 : ht_at u8 q2 (ht_al g 2048 (fun _ => 0)) := by rw [hu8]; exact ht_at_ne h_q2 n_q2_o
  have h_q3 : ht_at u8 q3 (ht_al g 4 (fun _ => 0)) := by rw [hu8]; exact ht_at_ne h_q3 n_q3_o
  have h_q4 : ht_at u8 q4 (ht_ai g 512 (fun _ => 0)) := by rw [hu8]; exact ht_at_ne h_q4 n_q4_o
  have hfr : ht_fr (fun b => b = o) w u8 := by rw [hu8]; exact hfr.trans (ht_fr.up rfl)
  have hins : ∀ x ∈ [q4, q3, q2, q1, o], x ∈ u8.1 := by rw [hu8]; exact hins
  refine lv_aload_n hx hb d_M_init_38 rfl (lv_at hl 0 rfl) ?_
  refine lv_sipush (v := 512) hx hb d_M_init_39 (by decide) ?_
  refine ht_newi (N' := 512) hx hb (htb _ wd_37) HW (by decide) rfl (by decide) (Nat.le_of_ble_eq_true rfl) (Nat.le_of_ble_eq_true rfl) rfl d_M_init_42 (fun q5 H hq_q5 HW => ?_)
  have hq0_q5 : q5 ∉ w.1 := fun z9 => hq_q5 (hfr q5 z9 (fun e9 => hq_q5 (by rw [e9]; exact hO.1))).1
  have hnd : [q5, q4, q3, q2, q1, o].Nodup := List.nodup_cons.mpr ⟨fun z9 => hq_q5 (hins q5 z9), hnd⟩
  obtain ⟨u9, hu9⟩ : ∃ zW : ht_W, zW = ht_nw u8 q5 (ht_ai g 512 (fun _ => 0)) := ⟨_, rfl⟩
  have HW := HW.to hu9.symm
  have n_o_q5 : o ≠ q5 := fun z9 => hq_q5 (by rw [← z9]; exact hO.1)
  have n_q1_q5 : q1 ≠ q5 := fun z9 => hq_q5 (by rw [← z9]; exact h_q1.1)
  have n_q2_q5 : q2 ≠ q5 := fun z9 => hq_q5 (by rw [← z9]; exact h_q2.1)
  have n_q3_q5 : q3 ≠ q5 := fun z9 => hq_q5 (by rw [← z9]; exact h_q3.1)
  have n_q4_q5 : q4 ≠ q5 := fun z9 => hq_q5 (by rw [← z9]; exact h_q4.1)
  have hO : ht_at u9 o (.inr (4, [.ref q1, .ref q2, .int 0, .ref q3, .ref q4, .null, .null, .int 0, .null, .int 0, .null, .int 0, .int 0, .null, .null, .null, .null, .null, .null, .null, .null, .null]) : va_E) := by rw [hu9]; exact ht_at_old hO hq_q5
  have h_q1 : ht_at u9 q1 (ht_al g 2048 (fun _ => 0)) := by rw [hu9]; exact ht_at_old h_q1 hq_q5
  have h_q2 : ht_at u9 q2 (ht_al g 2048 (fun _ => 0)) := by rw [hu9]; exact ht_at_old h_q2 hq_q5
  have h_q3 : ht_at u9 q3 (ht_al g 4 (fun _ => 0)) := by rw [hu9]; exact ht_at_old h_q3 hq_q5
  have h_q4 : ht_at u9 q4 (ht_ai g 512 (fun _ => 0)) := by rw [hu9]; exact ht_at_old h_q4 hq_q5
  have h_q5 : ht_at u9 q5 (ht_ai g 512 (fun _ => 0)) := by rw [hu9]; exact ht_at_new
  have hfr : ht_fr (fun b => b = o) w u9 := by rw [hu9]; exact hfr.trans (ht_fr.nw hq_q5)
  have hins : ∀ x ∈ [q5, q4, q3, q2, q1, o], x ∈ u9.1 := by
    rw [hu9]
    intro x hx9
    rcases List.mem_cons.mp hx9 with e9 | e9
    · rw [e9]; exact List.mem_append_right _ (List.mem_singleton.mpr rfl)
    · exact List.mem_append_left _ (hins x e9)
  refine ht_putF (C := R_M) (T := F_M) (N := 22) (v := .ref q5) (ty := .array .int) hx hb htb i_M t_M t_M_ok n_M hown HW hO rfl 5 (by decide) (htb _ wd_316) (fun _ h9 => h9) rfl hin rfl (by decide +kernel) rfl rfl (Nat.le_of_ble_eq_true rfl) d_M_init_44 (fun H locs HW => ?_)
  have n_q5_o : q5 ≠ o := (Ne.symm n_o_q5)
  obtain ⟨u10, hu10⟩ : ∃ zW : ht_W, zW = ht_up u9 o (.inr (4, [.ref q1, .ref q2, .int 0, .ref q3, .ref q4, .ref q5, .null, .int 0, .null, .int 0, .null, .int 0, .int 0, .null, .null, .null, .null, .null, .null, .null, .null, .null]) : va_E) := ⟨_, rfl⟩
  have HW : ht_I g s u10 H locs := by rw [hu10]; exact HW
  have hO : ht_at u10 o (.inr (4, [.ref q1, .ref q2, .int 0, .ref q3, .ref q4, .ref q5, .null, .int 0, .null, .int 0, .null, .int 0, .int 0, .null, .null, .null, .null, .null, .null, .null, .null, .null]) : va_E) := by rw [hu10]; exact ht_at_self hO
  have h_q1 : ht_at u10 q1 (ht_al g 2048 (fun _ => 0)) := by rw [hu10]; exact ht_at_ne h_q1 n_q1_o
  have h_q2 : ht_at u10 q2 (ht_al g 2048 (fun _ => 0)) := by rw [hu10]; exact ht_at_ne h_q2 n_q2_o
  have h_q3 : ht_at u10 q3 (ht_al g 4 (fun _ => 0)) := by rw [hu10]; exact ht_at_ne h_q3 n_q3_o
  have h_q4 : ht_at u10 q4 (ht_ai g 512 (fun _ => 0)) := by rw [hu10]; exact ht_at_ne h_q4 n_q4_o
  have h_q5 : ht_at u10 q5 (ht_ai g 512 (fun _ => 0)) := by rw [hu10]; exact ht_at_ne h_q5 n_q5_o
  have hfr : ht_fr (fun b => b = o) w u10 := by rw [hu10]; exact hfr.trans (ht_fr.up rfl)
  have hins : ∀ x ∈ [q5, q4, q3, q2, q1, o], x ∈ u10.1 := by rw [hu10]; exact hins
  refine lv_aload_n hx hb d_M_init_47 rfl (lv_at hl 0 rfl) ?_
  refine lv_sipush (v := 2048) hx hb d_M_init_48 (by decide) ?_
  refine ht_newl (N' := 2048) hx hb (htb _ wd_36) HW (by decide) rfl (by decide) (Nat.le_of_ble_eq_true rfl) (Nat.le_of_ble_eq_true rfl) rfl d_M_init_51 (fun q6 H hq_q6 HW => ?_)
  have hq0_q6 : q6 ∉ w.1 := fun z9 => hq_q6 (hfr q6 z9 (fun e9 => hq_q6 (by rw [e9]; exact hO.1))).1
  have hnd : [q6, q5, q4, q3, q2, q1, o].Nodup := List.nodup_cons.mpr ⟨fun z9 => hq_q6 (hins q6 z9), hnd⟩
  obtain ⟨u11, hu11⟩ : ∃ zW : ht_W, zW = ht_nw u10 q6 (ht_al g 2048 (fun _ => 0)) := ⟨_, rfl⟩
  have HW := HW.to hu11.symm
  have n_o_q6 : o ≠ q6 := fun z9 => hq_q6 (by rw [← z9]; exact hO.1)
  have n_q1_q6 : q1 ≠ q6 := fun z9 => hq_q6 (by rw [← z9]; exact h_q1.1)
  have n_q2_q6 : q2 ≠ q6 := fun z9 => hq_q6 (by rw [← z9]; exact h_q2.1)
  have n_q3_q6 : q3 ≠ q6 := fun z9 => hq_q6 (by rw [← z9]; exact h_q3.1)
  have n_q4_q6 : q4 ≠ q6 := fun z9 => hq_q6 (by rw [← z9]; exact h_q4.1)
  have n_q5_q6 : q5 ≠ q6 := fun z9 => hq_q6 (by rw [← z9]; exact h_q5.1)
  have hO : ht_at u11 o (.inr (4, [.ref q1, .ref q2, .int 0, .ref q3, .ref q4, .ref q5, .null, .int 0, .null, .int 0, .null, .int 0, .int 0, .null, .null, .null, .null, .null, .null, .null, .null, .null]) : va_E) := by rw [hu11]; exact ht_at_old hO hq_q6
  have h_q1 : ht_at u11 q1 (ht_al g 2048 (fun _ => 0)) := by rw [hu11]; exact ht_at_old h_q1 hq_q6
  have h_q2 : ht_at u11 q2 (ht_al g 2048 (fun _ => 0)) := by rw [hu11]; exact ht_at_old h_q2 hq_q6
  have h_q3 : ht_at u11 q3 (ht_al g 4 (fun _ => 0)) := by rw [hu11]; exact ht_at_old h_q3 hq_q6
  have h_q4 : ht_at u11 q4 (ht_ai g 512 (fun _ => 0)) := by rw [hu11]; exact ht_at_old h_q4 hq_q6
  have h_q5 : ht_at u11 q5 (ht_ai g 512 (fun _ => 0)) := by rw [hu11]; exact ht_at_old h_q5 hq_q6
  have h_q6 : ht_at u11 q6 (ht_al g 2048 (fun _ => 0)) := by rw [hu11]; exact ht_at_new
  have hfr : ht_fr (fun b => b = o) w u11 := by rw [hu11]; exact hfr.trans (ht_fr.nw hq_q6)
  have hins : ∀ x ∈ [q6, q5, q4, q3, q2, q1, o], x ∈ u11.1 := by
    rw [hu11]
    intro x hx9
    rcases List.mem_cons.mp hx9 with e9 | e9
    · rw [e9]; exact List.mem_append_right _ (List.mem_singleton.mpr rfl)
    · exact List.mem_append_left _ (hins x e9)
  refine ht_putF (C := R_M) (T := F_M) (N := 22) (v := .ref q6) (ty := .array .long) hx hb htb i_M t_M t_M_ok n_M hown HW hO rfl 6 (by decide) (htb _ wd_317) (fun _ h9 => h9) rfl hin rfl (by decide +kernel) rfl rfl (Nat.le_of_ble_eq_true rfl) d_M_init_53 (fun H locs HW => ?_)
  have n_q6_o : q6 ≠ o := (Ne.symm n_o_q6)
  obtain ⟨u12, hu12⟩ : ∃ zW : ht_W, zW = ht_up u11 o (.inr (4, [.ref q1, .ref q2, .int 0, .ref q3, .ref q4, .ref q5, .ref q6, .int 0, .null, .int 0, .null, .int 0, .int 0, .null, .null, .null, .null, .null, .null, .null, .null, .null]) : va_E) := ⟨_, rfl⟩
  have HW : ht_I g s u12 H locs := by rw [hu12]; exact HW
  have hO : ht_at u12 o (.inr (4, [.ref q1, .ref q2, .int 0, .ref q3, .ref q4, .ref q5, .ref q6, .int 0, .null, .int 0, .null, .int 0, .int 0, .null, .null, .null, .null, .null, .null, .null, .null, .null]) : va_E) := by rw [hu12]; exact ht_at_self hO
  have h_q1 : ht_at u12 q1 (ht_al g 2048 (fun _ => 0)) := by rw [hu12]; exact ht_at_ne h_q1 n_q1_o
  have h_q2 : ht_at u12 q2 (ht_al g 2048 (fun _ => 0)) := by rw [hu12]; exact ht_at_ne h_q2 n_q2_o
  have h_q3 : ht_at u12 q3 (ht_al g 4 (fun _ => 0)) := by rw [hu12]; exact ht_at_ne h_q3 n_q3_o
  have h_q4 : ht_at u12 q4 (ht_ai g 512 (fun _ => 0)) := by rw [hu12]; exact ht_at_ne h_q4 n_q4_o
  have h_q5 : ht_at u12 q5 (ht_ai g 512 (fun _ => 0)) := by rw [hu12]; exact ht_at_ne h_q5 n_q5_o
  have h_q6 : ht_at u12 q6 (ht_al g 2048 (fun _ => 0)) := by rw [hu12]; exact ht_at_ne h_q6 n_q6_o
  have hfr : ht_fr (fun b => b = o) w u12 := by rw [hu12]; exact hfr.trans (ht_fr.up rfl)
  have hins : ∀ x ∈ [q6, q5, q4, q3, q2, q1, o], x ∈ u12.1 := by rw [hu12]; exact hins
  refine lv_aload_n hx hb d_M_init_56 rfl (lv_at hl 0 rfl) ?_
  refine lv_iconst (v := 4) hx hb d_M_init_57 (by decide) ?_
  refine ht_newl (N' := 4) hx hb (htb _ wd_36) HW (by decide) rfl (by decide) (Nat.le_of_ble_eq_true rfl) (Nat.le_of_ble_eq_true rfl) rfl d_M_init_58 (fun q7 H hq_q7 HW => ?_)
  have hq0_q7 : q7 ∉ w.1 := fun z9 => hq_q7 (hfr q7 z9 (fun e9 => hq_q7 (by rw [e9]; exact hO.1))).1
  have hnd : [q7, q6, q5, q4, q3, q2, q1, o].Nodup := List.nodup_cons.mpr ⟨fun z9 => hq_q7 (hins q7 z9), hnd⟩
  obtain ⟨u13, hu13⟩ : ∃ zW : ht_W, zW = ht_nw u12 q7 (ht_al g 4 (fun _ => 0)) := ⟨_, rfl⟩
  have HW := HW.to hu13.symm
  have n_o_q7 : o ≠ q7 := fun z9 => hq_q7 (by rw [← z9]; exact hO.1)
  have n_q1_q7 : q1 ≠ q7 := fun z9 => hq_q7 (by rw [← z9]; exact h_q1.1)
  have n_q2_q7 : q2 ≠ q7 := fun z9 => hq_q7 (by rw [← z9]; exact h_q2.1)
  have n_q3_q7 : q3 ≠ q7 := fun z9 => hq_q7 (by rw [← z9]; exact h_q3.1)
  have n_q4_q7 : q4 ≠ q7 := fun z9 => hq_q7 (by rw [← z9]; exact h_q4.1)
  have n_q5_q7 : q5 ≠ q7 := fun z9 => hq_q7 (by rw [← z9]; exact h_q5.1)
  have n_q6_q7 : q6 ≠ q7 := fun z9 => hq_q7 (by rw [← z9]; exact h_q6.1)
  have hO : ht_at u13 o (.inr (4, [.ref q1, .ref q2, .int 0, .ref q3, .ref q4, .ref q5, .ref q6, .int 0, .null, .int 0, .null, .int 0, .int 0, .null, .null, .null, .null, .null, .null, .null, .null, .null]) : va_E) := by rw [hu13]; exact ht_at_old hO hq_q7
  have h_q1 : ht_at u13 q1 (ht_al g 2048 (fun _ => 0)) := by rw [hu13]; exact ht_at_old h_q1 hq_q7
  have h_q2 : ht_at u13 q2 (ht_al g 2048 (fun _ => 0)) := by rw [hu13]; exact ht_at_old h_q2 hq_q7
  have h_q3 : ht_at u13 q3 (ht_al g 4 (fun _ => 0)) := by rw [hu13]; exact ht_at_old h_q3 hq_q7
  have h_q4 : ht_at u13 q4 (ht_ai g 512 (fun _ => 0)) := by rw [hu13]; exact ht_at_old h_q4 hq_q7
  have h_q5 : ht_at u13 q5 (ht_ai g 512 (fun _ => 0)) := by rw [hu13]; exact ht_at_old h_q5 hq_q7
  have h_q6 : ht_at u13 q6 (ht_al g 2048 (fun _ => 0)) := by rw [hu13]; exact ht_at_old h_q6 hq_q7
  have h_q7 : ht_at u13 q7 (ht_al g 4 (fun _ => 0)) := by rw [hu13]; exact ht_at_new
  have hfr : ht_fr (fun b => b = o) w u13 := by rw [hu13]; exact hfr.trans (ht_fr.nw hq_q7)
  have hins : ∀ x ∈ [q7, q6, q5, q4, q3, q2, q1, o], x ∈ u13.1 := by
    rw [hu13]
    intro x hx9
    rcases List.mem_cons.mp hx9 with e9 | e9
    · rw [e9]; exact List.mem_append_right _ (List.mem_singleton.mpr rfl)
    · exact List.mem_append_left _ (hins x e9)
  refine ht_putF (C := R_M) (T := F_M) (N := 22) (v := .ref q7) (ty := .array .long) hx hb htb i_M t_M t_M_ok n_M hown HW hO rfl 8 (by decide) (htb _ wd_319) (fun _ h9 => h9) rfl hin rfl (by decide +kernel) rfl rfl (Nat.le_of_ble_eq_true rfl) d_M_init_60 (fun H locs HW => ?_)
  have n_q7_o : q7 ≠ o := (Ne.symm n_o_q7)
  obtain ⟨u14, hu14⟩ : ∃ zW : ht_W, zW = ht_up u13 o (.inr (4, [.ref q1, .ref q2, .int 0, .ref q3, .ref q4, .ref q5, .ref q6, .int 0, .ref q7, .int 0, .null, .int 0, .int 0, .null, .null, .null, .null, .null, .null, .null, .null, .null]) : va_E) := ⟨_, rfl⟩
  have HW : ht_I g s u14 H locs := by rw [hu14]; exact HW
  have hO : ht_at u14 o (.inr (4, [.ref q1, .ref q2, .int 0, .ref q3, .ref q4, .ref q5, .ref q6, .int 0, .ref q7, .int 0, .null, .int 0, .int 0, .null, .null, .null, .null, .null, .null, .null, .null, .null]) : va_E) := by rw [hu14]; exact ht_at_self hO
  have h_q1 : ht_at u14 q1 (ht_al g 2048 (fun _ => 0)) := by rw [hu14]; exact ht_at_ne h_q1 n_q1_o
  have h_q2 : ht_at u14 q2 (ht_al g 2048 (fun _ => 0)) := by rw [hu14]; exact ht_at_ne h_q2 n_q2_o
  have h_q3 : ht_at u14 q3 (ht_al g 4 (fun _ => 0)) := by rw [hu14]; exact ht_at_ne h_q3 n_q3_o
  have h_q4 : ht_at u14 q4 (ht_ai g 512 (fun _ => 0)) := by rw [hu14]; exact ht_at_ne h_q4 n_q4_o
  have h_q5 : ht_at u14 q5 (ht_ai g 512 (fun _ => 0)) := by rw [hu14]; exact ht_at_ne h_q5 n_q5_o
  have h_q6 : ht_at u14 q6 (ht_al g 2048 (fun _ => 0)) := by rw [hu14]; exact ht_at_ne h_q6 n_q6_o
  have h_q7 : ht_at u14 q7 (ht_al g 4 (fun _ => 0)) := by rw [hu14]; exact ht_at_ne h_q7 n_q7_o
  have hfr : ht_fr (fun b => b = o) w u14 := by rw [hu14]; exact hfr.trans (ht_fr.up rfl)
  have hins : ∀ x ∈ [q7, q6, q5, q4, q3, q2, q1, o], x ∈ u14.1 := by rw [hu14]; exact hins
  refine lv_aload_n hx hb d_M_init_63 rfl (lv_at hl 0 rfl) ?_
  refine lv_sipush (v := 1024) hx hb d_M_init_64 (by decide) ?_
  refine ht_newl (N' := 1024) hx hb (htb _ wd_36) HW (by decide) rfl (by decide) (Nat.le_of_ble_eq_true rfl) (Nat.le_of_ble_eq_true rfl) rfl d_M_init_67 (fun q8 H hq_q8 HW => ?_)
  have hq0_q8 : q8 ∉ w.1 := fun z9 => hq_q8 (hfr q8 z9 (fun e9 => hq_q8 (by rw [e9]; exact hO.1))).1
  have hnd : [q8, q7, q6, q5, q4, q3, q2, q1, o].Nodup := List.nodup_cons.mpr ⟨fun z9 => hq_q8 (hins q8 z9), hnd⟩
  obtain ⟨u15, hu15⟩ : ∃ zW : ht_W, zW = ht_nw u14 q8 (ht_al g 1024 (fun _ => 0)) := ⟨_, rfl⟩
  have HW := HW.to hu15.symm
  have n_o_q8 : o ≠ q8 := fun z9 => hq_q8 (by rw [← z9]; exact hO.1)
  have n_q1_q8 : q1 ≠ q8 := fun z9 => hq_q8 (by rw [← z9]; exact h_q1.1)
  have n_q2_q8 : q2 ≠ q8 := fun z9 => hq_q8 (by rw [← z9]; exact h_q2.1)
  have n_q3_q8 : q3 ≠ q8 := fun z9 => hq_q8 (by rw [← z9]; exact h_q3.1)
  have n_q4_q8 : q4 ≠ q8 := fun z9 => hq_q8 (by rw [← z9]; exact h_q4.1)
  have n_q5_q8 : q5 ≠ q8 := fun z9 => hq_q8 (by rw [← z9]; exact h_q5.1)
  have n_q6_q8 : q6 ≠ q8 := fun z9 => hq_q8 (by rw [← z9]; exact h_q6.1)
  have n_q7_q8 : q7 ≠ q8 := fun z9 => hq_q8 (by rw [← z9]; exact h_q7.1)
  have hO : ht_at u15 o (.inr (4, [.ref q1, .ref q2, .int 0, .ref q3, .ref q4, .ref q5, .ref q6, .int 0, .ref q7, .int 0, .null, .int 0, .int 0, .null, .null, .null, .null, .null, .null, .null, .null, .null]) : va_E) := by rw [hu15]; exact ht_at_old hO hq_q8
  have h_q1 : ht_at u15 q1 (ht_al g 2048 (fun _ => 0)) := by rw [hu15]; exact ht_at_old h_q1 hq_q8
  have h_q2 : ht_at u15 q2 (ht_al g 2048 (fun _ => 0)) := by rw [hu15]; exact ht_at_old h_q2 hq_q8
  have h_q3 : ht_at u15 q3 (ht_al g 4 (fun _ => 0)) := by rw [hu15]; exact ht_at_old h_q3 hq_q8
  have h_q4 : ht_at u15 q4 (ht_ai g 512 (fun _ => 0)) := by rw [hu15]; exact ht_at_old h_q4 hq_q8
  have h_q5 : ht_at u15 q5 (ht_ai g 512 (fun _ => 0)) := by rw [hu15]; exact ht_at_old h_q5 hq_q8
  have h_q6 : ht_at u15 q6 (ht_al g 2048 (fun _ => 0)) := by rw [hu15]; exact ht_at_old h_q6 hq_q8
  have h_q7 : ht_at u15 q7 (ht_al g 4 (fun _ => 0)) := by rw [hu15]; exact ht_at_old h_q7 hq_q8
  have h_q8 : ht_at u15 q8 (ht_al g 1024 (fun _ => 0)) := by rw [hu15]; exact ht_at_new
  have hfr : ht_fr (fun b => b = o) w u15 := by rw [hu15]; exact hfr.trans (ht_fr.nw hq_q8)
  have hins : ∀ x ∈ [q8, q7, q6, q5, q4, q3, q2, q1, o], x ∈ u15.1 := by
    rw [hu15]
    intro x hx9
    rcases List.mem_cons.mp hx9 with e9 | e9
    · rw [e9]; exact List.mem_append_right _ (List.mem_singleton.mpr rfl)
    · exact List.mem_append_left _ (hins x e9)
  refine ht_putF (C := R_M) (T := F_M) (N := 22) (v := .ref q8) (ty := .array .long) hx hb htb i_M t_M t_M_ok n_M hown HW hO rfl 10 (by decide) (htb _ wd_321) (fun _ h9 => h9) rfl hin rfl (by decide +kernel) rfl rfl (Nat.le_of_ble_eq_true rfl) d_M_init_69 (fun H locs HW => ?_)
  have n_q8_o : q8 ≠ o := (Ne.symm n_o_q8)
  obtain ⟨u16, hu16⟩ : ∃ zW : ht_W, zW = ht_up u15 o (.inr (4, [.ref q1, .ref q2, .int 0, .ref q3, .ref q4, .ref q5, .ref q6, .int 0, .ref q7, .int 0, .ref q8, .int 0, .int 0, .null, .null, .null, .null, .null, .null, .null, .null, .null]) : va_E) := ⟨_, rfl⟩
  have HW : ht_I g s u16 H locs := by rw [hu16]; exact HW
  have hO : ht_at u16 o (.inr (4, [.ref q1, .ref q2, .int 0, .ref q3, .ref q4, .ref q5, .ref q6, .int 0, .ref q7, .int 0, .ref q8, .int 0, .int 0, .null, .null, .null, .null, .null, .null, .null, .null, .null]) : va_E) := by rw [hu16]; exact ht_at_self hO
  have h_q1 : ht_at u16 q1 (ht_al g 2048 (fun _ => 0)) := by rw [hu16]; exact ht_at_ne h_q1 n_q1_o
  have h_q2 : ht_at u16 q2 (ht_al g 2048 (fun _ => 0)) := by rw [hu16]; exact ht_at_ne h_q2 n_q2_o
  have h_q3 : ht_at u16 q3 (ht_al g 4 (fun _ => 0)) := by rw [hu16]; exact ht_at_ne h_q3 n_q3_o
  have h_q4 : ht_at u16 q4 (ht_ai g 512 (fun _ => 0)) := by rw [hu16]; exact ht_at_ne h_q4 n_q4_o
  have h_q5 : ht_at u16 q5 (ht_ai g 512 (fun _ => 0)) := by rw [hu16]; exact ht_at_ne h_q5 n_q5_o
  have h_q6 : ht_at u16 q6 (ht_al g 2048 (fun _ => 0)) := by rw [hu16]; exact ht_at_ne h_q6 n_q6_o
  have h_q7 : ht_at u16 q7 (ht_al g 4 (fun _ => 0)) := by rw [hu16]; exact ht_at_ne h_q7 n_q7_o
  have h_q8 : ht_at u16 q8 (ht_al g 1024 (fun _ => 0)) := by rw [hu16]; exact ht_at_ne h_q8 n_q8_o
  have hfr : ht_fr (fun b => b = o) w u16 := by rw [hu16]; exact hfr.trans (ht_fr.up rfl)
  have hins : ∀ x ∈ [q8, q7, q6, q5, q4, q3, q2, q1, o], x ∈ u16.1 := by rw [hu16]; exact hins
  refine lv_aload_n hx hb d_M_init_72 rfl (lv_at hl 0 rfl) ?_
  refine lv_iconst (v := -1) hx hb d_M_init_73 (by decide) ?_
  refine ht_put (C := R_M) (T := F_M) (N := 22) (v := .int (-1)) (ty := .int) hx hb htb i_M t_M t_M_ok n_M hown HW hO rfl 12 (by decide) (htb _ wd_323) (fun _ h9 => h9) rfl (by decide +kernel) rfl rfl (Nat.le_of_ble_eq_true rfl) d_M_init_74 (fun H locs HW => ?_)
  obtain ⟨u17, hu17⟩ : ∃ zW : ht_W, zW = ht_up u16 o (.inr (4, [.ref q1, .ref q2, .int 0, .ref q3, .ref q4, .ref q5, .ref q6, .int 0, .ref q7, .int 0, .ref q8, .int 0, .int (-1), .null, .null, .null, .null, .null, .null, .null, .null, .null]) : va_E) := ⟨_, rfl⟩
  have HW : ht_I g s u17 H locs := by rw [hu17]; exact HW
  have hO : ht_at u17 o (.inr (4, [.ref q1, .ref q2, .int 0, .ref q3, .ref q4, .ref q5, .ref q6, .int 0, .ref q7, .int 0, .ref q8, .int 0, .int (-1), .null, .null, .null, .null, .null, .null, .null, .null, .null]) : va_E) := by rw [hu17]; exact ht_at_self hO
  have h_q1 : ht_at u17 q1 (ht_al g 2048 (fun _ => 0)) := by rw [hu17]; exact ht_at_ne h_q1 n_q1_o
  have h_q2 : ht_at u17 q2 (ht_al g 2048 (fun _ => 0)) := by rw [hu17]; exact ht_at_ne h_q2 n_q2_o
  have h_q3 : ht_at u17 q3 (ht_al g 4 (fun _ => 0)) := by rw [hu17]; exact ht_at_ne h_q3 n_q3_o
  have h_q4 : ht_at u17 q4 (ht_ai g 512 (fun _ => 0)) := by rw [hu17]; exact ht_at_ne h_q4 n_q4_o
  have h_q5 : ht_at u17 q5 (ht_ai g 512 (fun _ => 0)) := by rw [hu17]; exact ht_at_ne h_q5 n_q5_o
  have h_q6 : ht_at u17 q6 (ht_al g 2048 (fun _ => 0)) := by rw [hu17]; exact ht_at_ne h_q6 n_q6_o
  have h_q7 : ht_at u17 q7 (ht_al g 4 (fun _ => 0)) := by rw [hu17]; exact ht_at_ne h_q7 n_q7_o
  have h_q8 : ht_at u17 q8 (ht_al g 1024 (fun _ => 0)) := by rw [hu17]; exact ht_at_ne h_q8 n_q8_o
  have hfr : ht_fr (fun b => b = o) w u17 := by rw [hu17]; exact hfr.trans (ht_fr.up rfl)
  have hins : ∀ x ∈ [q8, q7, q6, q5, q4, q3, q2, q1, o], x ∈ u17.1 := by rw [hu17]; exact hins
  refine lv_aload_n hx hb d_M_init_77 rfl (lv_at hl 0 rfl) ?_
  refine lv_bipush (v := 8) hx hb d_M_init_78 (by decide) ?_
  refine ht_newl (N' := 8) hx hb (htb _ wd_36) HW (by decide) rfl (by decide) (Nat.le_of_ble_eq_true rfl) (Nat.le_of_ble_eq_true rfl) rfl d_M_init_80 (fun q9 H hq_q9 HW => ?_)
  have hq0_q9 : q9 ∉ w.1 := fun z9 => hq_q9 (hfr q9 z9 (fun e9 => hq_q9 (by rw [e9]; exact hO.1))).1
  have hnd : [q9, q8, q7, q6, q5, q4, q3, q2, q1, o].Nodup := List.nodup_cons.mpr ⟨fun z9 => hq_q9 (hins q9 z9), hnd⟩
  obtain ⟨u18, hu18⟩ : ∃ zW : ht_W, zW = ht_nw u17 q9 (ht_al g 8 (fun _ => 0)) := ⟨_, rfl⟩
  have HW := HW.to hu18.symm
  have n_o_q9 : o ≠ q9 := fun z9 => hq_q9 (by rw [← z9]; exact hO.1)
  have n_q1_q9 : q1 ≠ q9 := fun z9 => hq_q9 (by rw [← z9]; exact h_q1.1)
  have n_q2_q9 : q2 ≠ q9 := fun z9 => hq_q9 (by rw [← z9]; exact h_q2.1)
  have n_q3_q9 : q3 ≠ q9 := fun z9 => hq_q9 (by rw [← z9]; exact h_q3.1)
  have n_q4_q9 : q4 ≠ q9 := fun z9 => hq_q9 (by rw [← z9]; exact h_q4.1)
  have n_q5_q9 : q5 ≠ q9 := fun z9 => hq_q9 (by rw [← z9]; exact h_q5.1)
  have n_q6_q9 : q6 ≠ q9 := fun z9 => hq_q9 (by rw [← z9]; exact h_q6.1)
  have n_q7_q9 : q7 ≠ q9 := fun z9 => hq_q9 (by rw [← z9]; exact h_q7.1)
  have n_q8_q9 : q8 ≠ q9 := fun z9 => hq_q9 (by rw [← z9]; exact h_q8.1)
  have hO : ht_at u18 o (.inr (4, [.ref q1, .ref q2, .int 0, .ref q3, .ref q4, .ref q5, .ref q6, .int 0, .ref q7, .int 0, .ref q8, .int 0, .int (-1), .null, .null, .null, .null, .null, .null, .null, .null, .null]) : va_E) := by rw [hu18]; exact ht_at_old hO hq_q9
  have h_q1 : ht_at u18 q1 (ht_al g 2048 (fun _ => 0)) := by rw [hu18]; exact ht_at_old h_q1 hq_q9
  have h_q2 : ht_at u18 q2 (ht_al g 2048 (fun _ => 0)) := by rw [hu18]; exact ht_at_old h_q2 hq_q9
  have h_q3 : ht_at u18 q3 (ht_al g 4 (fun _ => 0)) := by rw [hu18]; exact ht_at_old h_q3 hq_q9
  have h_q4 : ht_at u18 q4 (ht_ai g 512 (fun _ => 0)) := by rw [hu18]; exact ht_at_old h_q4 hq_q9
  have h_q5 : ht_at u18 q5 (ht_ai g 512 (fun _ => 0)) := by rw [hu18]; exact ht_at_old h_q5 hq_q9
  have h_q6 : ht_at u18 q6 (ht_al g 2048 (fun _ => 0)) := by rw [hu18]; exact ht_at_old h_q6 hq_q9
  have h_q7 : ht_at u18 q7 (ht_al g 4 (fun _ => 0)) := by rw [hu18]; exact ht_at_old h_q7 hq_q9
  have h_q8 : ht_at u18 q8 (ht_al g 1024 (fun _ => 0)) := by rw [hu18]; exact ht_at_old h_q8 hq_q9
  have h_q9 : ht_at u18 q9 (ht_al g 8 (fun _ => 0)) := by rw [hu18]; exact ht_at_new
  have hfr : ht_fr (fun b => b = o) w u18 := by rw [hu18]; exact hfr.trans (ht_fr.nw hq_q9)
  have hins : ∀ x ∈ [q9, q8, q7, q6, q5, q4, q3, q2, q1, o], x ∈ u18.1 := by
    rw [hu18]
    intro x hx9
    rcases List.mem_cons.mp hx9 with e9 | e9
    · rw [e9]; exact List.mem_append_right _ (List.mem_singleton.mpr rfl)
    · exact List.mem_append_left _ (hins x e9)
  refine ht_putF (C := R_M) (T := F_M) (N := 22) (v := .ref q9) (ty := .array .long) hx hb htb i_M t_M t_M_ok n_M hown HW hO rfl 13 (by decide) (htb _ wd_324) (fun _ h9 => h9) rfl hin rfl (by decide +kernel) rfl rfl (Nat.le_of_ble_eq_true rfl) d_M_init_82 (fun H locs HW => ?_)
  have n_q9_o : q9 ≠ o := (Ne.symm n_o_q9)
  obtain ⟨u19, hu19⟩ : ∃ zW : ht_W, zW = ht_up u18 o (.inr (4, [.ref q1, .ref q2, .int 0, .ref q3, .ref q4, .ref q5, .ref q6, .int 0, .ref q7, .int 0, .ref q8, .int 0, .int (-1), .ref q9, .null, .null, .null, .null, .null, .null, .null, .null]) : va_E) := ⟨_, rfl⟩
  have HW : ht_I g s u19 H locs := by rw [hu19]; exact HW
  have hO : ht_at u19 o (.inr (4, [.ref q1, .ref q2, .int 0, .ref q3, .ref q4, .ref q5, .ref q6, .int 0, .ref q7, .int 0, .ref q8, .int 0, .int (-1), .ref q9, .null, .null, .null, .null, .null, .null, .null, .null]) : va_E) := by rw [hu19]; exact ht_at_self hO
  have h_q1 : ht_at u19 q1 (ht_al g 2048 (fun _ => 0)) := by rw [hu19]; exact ht_at_ne h_q1 n_q1_o
  have h_q2 : ht_at u19 q2 (ht_al g 2048 (fun _ => 0)) := by rw [hu19]; exact ht_at_ne h_q2 n_q2_o
  have h_q3 : ht_at u19 q3 (ht_al g 4 (fun _ => 0)) := by rw [hu19]; exact ht_at_ne h_q3 n_q3_o
  have h_q4 : ht_at u19 q4 (ht_ai g 512 (fun _ => 0)) := by rw [hu19]; exact ht_at_ne h_q4 n_q4_o
  have h_q5 : ht_at u19 q5 (ht_ai g 512 (fun _ => 0)) := by rw [hu19]; exact ht_at_ne h_q5 n_q5_o
  have h_q6 : ht_at u19 q6 (ht_al g 2048 (fun _ => 0)) := by rw [hu19]; exact ht_at_ne h_q6 n_q6_o
  have h_q7 : ht_at u19 q7 (ht_al g 4 (fun _ => 0)) := by rw [hu19]; exact ht_at_ne h_q7 n_q7_o
  have h_q8 : ht_at u19 q8 (ht_al g 1024 (fun _ => 0)) := by rw [hu19]; exact ht_at_ne h_q8 n_q8_o
  have h_q9 : ht_at u19 q9 (ht_al g 8 (fun _ => 0)) := by rw [hu19]; exact ht_at_ne h_q9 n_q9_o
  have hfr : ht_fr (fun b => b = o) w u19 := by rw [hu19]; exact hfr.trans (ht_fr.up rfl)
  have hins : ∀ x ∈ [q9, q8, q7, q6, q5, q4, q3, q2, q1, o], x ∈ u19.1 := by rw [hu19]; exact hins
  refine lv_aload_n hx hb d_M_init_85 rfl (lv_at hl 0 rfl) ?_
  refine lv_sipush (v := 4096) hx hb d_M_init_86 (by decide) ?_
  refine ht_newb (N' := 4096) hx hb (htb _ wd_378) HW (by decide) rfl (by decide) (Nat.le_of_ble_eq_true rfl) (Nat.le_of_ble_eq_true rfl) rfl d_M_init_89 (fun q10 H hq_q10 HW => ?_)
  have hq0_q10 : q10 ∉ w.1 := fun z9 => hq_q10 (hfr q10 z9 (fun e9 => hq_q10 (by rw [e9]; exact hO.1))).1
  have hnd : [q10, q9, q8, q7, q6, q5, q4, q3, q2, q1, o].Nodup := List.nodup_cons.mpr ⟨fun z9 => hq_q10 (hins q10 z9), hnd⟩
  obtain ⟨u20, hu20⟩ : ∃ zW : ht_W, zW = ht_nw u19 q10 (ht_ab g 4096 (fun _ => 0)) := ⟨_, rfl⟩
  have HW := HW.to hu20.symm
  have n_o_q10 : o ≠ q10 := fun z9 => hq_q10 (by rw [← z9]; exact hO.1)
  have n_q1_q10 : q1 ≠ q10 := fun z9 => hq_q10 (by rw [← z9]; exact h_q1.1)
  have n_q2_q10 : q2 ≠ q10 := fun z9 => hq_q10 (by rw [← z9]; exact h_q2.1)
  have n_q3_q10 : q3 ≠ q10 := fun z9 => hq_q10 (by rw [← z9]; exact h_q3.1)
  have n_q4_q10 : q4 ≠ q10 := fun z9 => hq_q10 (by rw [← z9]; exact h_q4.1)
  have n_q5_q10 : q5 ≠ q10 := fun z9 => hq_q10 (by rw [← z9]; exact h_q5.1)
  have n_q6_q10 : q6 ≠ q10 := fun z9 => hq_q10 (by rw [← z9]; exact h_q6.1)
  have n_q7_q10 : q7 ≠ q10 := fun z9 => hq_q10 (by rw [← z9]; exact h_q7.1)
  have n_q8_q10 : q8 ≠ q10 := fun z9 => hq_q10 (by rw [← z9]; exact h_q8.1)
  have n_q9_q10 : q9 ≠ q10 := fun z9 => hq_q10 (by rw [← z9]; exact h_q9.1)
  have hO : ht_at u20 o (.inr (4, [.ref q1, .ref q2, .int 0, .ref q3, .ref q4, .ref q5, .ref q6, .int 0, .ref q7, .int 0, .ref q8, .int 0, .int (-1), .ref q9, .null, .null, .null, .null, .null, .null, .null, .null]) : va_E) := by rw [hu20]; exact ht_at_old hO hq_q10
  have h_q1 : ht_at u20 q1 (ht_al g 2048 (fun _ => 0)) := by rw [hu20]; exact ht_at_old h_q1 hq_q10
  have h_q2 : ht_at u20 q2 (ht_al g 2048 (fun _ => 0)) := by rw [hu20]; exact ht_at_old h_q2 hq_q10
  have h_q3 : ht_at u20 q3 (ht_al g 4 (fun _ => 0)) := by rw [hu20]; exact ht_at_old h_q3 hq_q10
  have h_q4 : ht_at u20 q4 (ht_ai g 512 (fun _ => 0)) := by rw [hu20]; exact ht_at_old h_q4 hq_q10
  have h_q5 : ht_at u20 q5 (ht_ai g 512 (fun _ => 0)) := by rw [hu20]; exact ht_at_old h_q5 hq_q10
  have h_q6 : ht_at u20 q6 (ht_al g 2048 (fun _ => 0)) := by rw [hu20]; exact ht_at_old h_q6 hq_q10
  have h_q7 : ht_at u20 q7 (ht_al g 4 (fun _ => 0)) := by rw [hu20]; exact ht_at_old h_q7 hq_q10
  have h_q8 : ht_at u20 q8 (ht_al g 1024 (fun _ => 0)) := by rw [hu20]; exact ht_at_old h_q8 hq_q10
  have h_q9 : ht_at u20 q9 (ht_al g 8 (fun _ => 0)) := by rw [hu20]; exact ht_at_old h_q9 hq_q10
  have h_q10 : ht_at u20 q10 (ht_ab g 4096 (fun _ => 0)) := by rw [hu20]; exact ht_at_new
  have hfr : ht_fr (fun b => b = o) w u20 := by rw [hu20]; exact hfr.trans (ht_fr.nw hq_q10)
  have hins : ∀ x ∈ [q10, q9, q8, q7, q6, q5, q4, q3, q2, q1, o], x ∈ u20.1 := by
    rw [hu20]
    intro x hx9
    rcases List.mem_cons.mp hx9 with e9 | e9
    · rw [e9]; exact List.mem_append_right _ (List.mem_singleton.mpr rfl)
    · exact List.mem_append_left _ (hins x e9)
  refine ht_putF (C := R_M) (T := F_M) (N := 22) (v := .ref q10) (ty := .array .byte) hx hb htb i_M t_M t_M_ok n_M hown HW hO rfl 14 (by decide) (htb _ wd_325) (fun _ h9 => h9) rfl hin rfl (by decide +kernel) rfl rfl (Nat.le_of_ble_eq_true rfl) d_M_init_91 (fun H locs HW => ?_)
  have n_q10_o : q10 ≠ o := (Ne.symm n_o_q10)
  obtain ⟨u21, hu21⟩ : ∃ zW : ht_W, zW = ht_up u20 o (.inr (4, [.ref q1, .ref q2, .int 0, .ref q3, .ref q4, .ref q5, .ref q6, .int 0, .ref q7, .int 0, .ref q8, .int 0, .int (-1), .ref q9, .ref q10, .null, .null, .null, .null, .null, .null, .null]) : va_E) := ⟨_, rfl⟩
  have HW : ht_I g s u21 H locs := by rw [hu21]; exact HW
  have hO : ht_at u21 o (.inr (4, [.ref q1, .ref q2, .int 0, .ref q3, .ref q4, .ref q5, .ref q6, .int 0, .ref q7, .int 0, .ref q8, .int 0, .int (-1), .ref q9, .ref q10, .null, .null, .null, .null, .null, .null, .null]) : va_E) := by rw [hu21]; exact ht_at_self hO
  have h_q1 : ht_at u21 q1 (ht_al g 2048 (fun _ => 0)) := by rw [hu21]; exact ht_at_ne h_q1 n_q1_o
  have h_q2 : ht_at u21 q2 (ht_al g 2048 (fun _ => 0)) := by rw [hu21]; exact ht_at_ne h_q2 n_q2_o
  have h_q3 : ht_at u21 q3 (ht_al g 4 (fun _ => 0)) := by rw [hu21]; exact ht_at_ne h_q3 n_q3_o
  have h_q4 : ht_at u21 q4 (ht_ai g 512 (fun _ => 0)) := by rw [hu21]; exact ht_at_ne h_q4 n_q4_o
  have h_q5 : ht_at u21 q5 (ht_ai g 512 (fun _ => 0)) := by rw [hu21]; exact ht_at_ne h_q5 n_q5_o
  have h_q6 : ht_at u21 q6 (ht_al g 2048 (fun _ => 0)) := by rw [hu21]; exact ht_at_ne h_q6 n_q6_o
  have h_q7 : ht_at u21 q7 (ht_al g 4 (fun _ => 0)) := by rw [hu21]; exact ht_at_ne h_q7 n_q7_o
  have h_q8 : ht_at u21 q8 (ht_al g 1024 (fun _ => 0)) := by rw [hu21]; exact ht_at_ne h_q8 n_q8_o
  have h_q9 : ht_at u21 q9 (ht_al g 8 (fun _ => 0)) := by rw [hu21]; exact ht_at_ne h_q9 n_q9_o
  have h_q10 : ht_at u21 q10 (ht_ab g 4096 (fun _ => 0)) := by rw [hu21]; exact ht_at_ne h_q10 n_q10_o
  have hfr : ht_fr (fun b => b = o) w u21 := by rw [hu21]; exact hfr.trans (ht_fr.up rfl)
  have hins : ∀ x ∈ [q10, q9, q8, q7, q6, q5, q4, q3, q2, q1, o], x ∈ u21.1 := by rw [hu21]; exact hins
  refine lv_aload_n hx hb d_M_init_94 rfl (lv_at hl 0 rfl) ?_
  refine lv_bipush (v := 8) hx hb d_M_init_95 (by decide) ?_
  refine ht_newl (N' := 8) hx hb (htb _ wd_36) HW (by decide) rfl (by decide) (Nat.le_of_ble_eq_true rfl) (Nat.le_of_ble_eq_true rfl) rfl d_M_init_97 (fun q11 H hq_q11 HW => ?_)
  have hq0_q11 : q11 ∉ w.1 := fun z9 => hq_q11 (hfr q11 z9 (fun e9 => hq_q11 (by rw [e9]; exact hO.1))).1
  have hnd : [q11, q10, q9, q8, q7, q6, q5, q4, q3, q2, q1, o].Nodup := List.nodup_cons.mpr ⟨fun z9 => hq_q11 (hins q11 z9), hnd⟩
  obtain ⟨u22, hu22⟩ : ∃ zW : ht_W, zW = ht_nw u21 q11 (ht_al g 8 (fun _ => 0)) := ⟨_, rfl⟩
  have HW := HW.to hu22.symm
  have n_o_q11 : o ≠ q11 := fun z9 => hq_q11 (by rw [← z9]; exact hO.1)
  have n_q1_q11 : q1 ≠ q11 := fun z9 => hq_q11 (by rw [← z9]; exact h_q1.1)
  have n_q2_q11 : q2 ≠ q11 := fun z9 => hq_q11 (by rw [← z9]; exact h_q2.1)
  have n_q3_q11 : q3 ≠ q11 := fun z9 => hq_q11 (by rw [← z9]; exact h_q3.1)
  have n_q4_q11 : q4 ≠ q11 := fun z9 => hq_q11 (by rw [← z9]; exact h_q4.1)
  have n_q5_q11 : q5 ≠ q11 := fun z9 => hq_q11 (by rw [← z9]; exact h_q5.1)
  have n_q6_q11 : q6 ≠ q11 := fun z9 => hq_q11 (by rw [← z9]; exact h_q6.1)
  have n_q7_q11 : q7 ≠ q11 := fun z9 => hq_q11 (by rw [← z9]; exact h_q7.1)
  have n_q8_q11 : q8 ≠ q11 := fun z9 => hq_q11 (by rw [← z9]; exact h_q8.1)
  have n_q9_q11 : q9 ≠ q11 := fun z9 => hq_q11 (by rw [← z9]; exact h_q9.1)
  have n_q10_q11 : q10 ≠ q11 := fun z9 => hq_q11 (by rw [← z9]; exact h_q10.1)
  have hO : ht_at u22 o (.inr (4, [.ref q1, .ref q2, .int 0, .ref q3, .ref q4, .ref q5, .ref q6, .int 0, .ref q7, .int 0, .ref q8, .int 0, .int (-1), .ref q9, .ref q10, .null, .null, .null, .null, .null, .null, .null]) : va_E) := by rw [hu22]; exact ht_at_old hO hq_q11
  have h_q1 : ht_at u22 q1 (ht_al g 2048 (fun _ => 0)) := by rw [hu22]; exact ht_at_old h_q1 hq_q11
  have h_q2 : ht_at u22 q2 (ht_al g 2048 (fun _ => 0)) := by rw [hu22]; exact ht_at_old h_q2 hq_q11
  have h_q3 : ht_at u22 q3 (ht_al g 4 (fun _ => 0)) := by rw [hu22]; exact ht_at_old h_q3 hq_q11
  have h_q4 : ht_at u22 q4 (ht_ai g 512 (fun _ => 0)) := by rw [hu22]; exact ht_at_old h_q4 hq_q11
  have h_q5 : ht_at u22 q5 (ht_ai g 512 (fun _ => 0)) := by rw [hu22]; exact ht_at_old h_q5 hq_q11
  have h_q6 : ht_at u22 q6 (ht_al g 2048 (fun _ => 0)) := by rw [hu22]; exact ht_at_old h_q6 hq_q11
  have h_q7 : ht_at u22 q7 (ht_al g 4 (fun _ => 0)) := by rw [hu22]; exact ht_at_old h_q7 hq_q11
  have h_q8 : ht_at u22 q8 (ht_al g 1024 (fun _ => 0)) := by rw [hu22]; exact ht_at_old h_q8 hq_q11
  have h_q9 : ht_at u22 q9 (ht_al g 8 (fun _ => 0)) := by rw [hu22]; exact ht_at_old h_q9 hq_q11
  have h_q10 : ht_at u22 q10 (ht_ab g 4096 (fun _ => 0)) := by rw [hu22]; exact ht_at_old h_q10 hq_q11
  have h_q11 : ht_at u22 q11 (ht_al g 8 (fun _ => 0)) := by rw [hu22]; exact ht_at_new
  have hfr : ht_fr (fun b => b = o) w u22 := by rw [hu22]; exact hfr.trans (ht_fr.nw hq_q11)
  have hins : ∀ x ∈ [q11, q10, q9, q8, q7, q6, q5, q4, q3, q2, q1, o], x ∈ u22.1 := by
    rw [hu22]
    intro x hx9
    rcases List.mem_cons.mp hx9 with e9 | e9
    · rw [e9]; exact List.mem_append_right _ (List.mem_singleton.mpr rfl)
    · exact List.mem_append_left _ (hins x e9)
  refine ht_putF (C := R_M) (T := F_M) (N := 22) (v := .ref q11) (ty := .array .long) hx hb htb i_M t_M t_M_ok n_M hown HW hO rfl 15 (by decide) (htb _ wd_326) (fun _ h9 => h9) rfl hin rfl (by decide +kernel) rfl rfl (Nat.le_of_ble_eq_true rfl) d_M_init_99 (fun H locs HW => ?_)
  have n_q11_o : q11 ≠ o := (Ne.symm n_o_q11)
  obtain ⟨u23, hu23⟩ : ∃ zW : ht_W, zW = ht_up u22 o (.inr (4, [.ref q1, .ref q2, .int 0, .ref q3, .ref q4, .ref q5, .ref q6, .int 0, .ref q7, .int 0, .ref q8, .int 0, .int (-1), .ref q9, .ref q10, .ref q11, .null, .null, .null, .null, .null, .null]) : va_E) := ⟨_, rfl⟩
  have HW : ht_I g s u23 H locs := by rw [hu23]; exact HW
  have hO : ht_at u23 o (.inr (4, [.ref q1, .ref q2, .int 0, .ref q3, .ref q4, .ref q5, .ref q6, .int 0, .ref q7, .int 0, .ref q8, .int 0, .int (-1), .ref q9, .ref q10, .ref q11, .null, .null, .null, .null, .null, .null]) : va_E) := by rw [hu23]; exact ht_at_self hO
  have h_q1 : ht_at u23 q1 (ht_al g 2048 (fun _ => 0)) := by rw [hu23]; exact ht_at_ne h_q1 n_q1_o
  have h_q2 : ht_at u23 q2 (ht_al g 2048 (fun _ => 0)) := by rw [hu23]; exact ht_at_ne h_q2 n_q2_o
  have h_q3 : ht_at u23 q3 (ht_al g 4 (fun _ => 0)) := by rw [hu23]; exact ht_at_ne h_q3 n_q3_o
  have h_q4 : ht_at u23 q4 (ht_ai g 512 (fun _ => 0)) := by rw [hu23]; exact ht_at_ne h_q4 n_q4_o
  have h_q5 : ht_at u23 q5 (ht_ai g 512 (fun _ => 0)) := by rw [hu23]; exact ht_at_ne h_q5 n_q5_o
  have h_q6 : ht_at u23 q6 (ht_al g 2048 (fun _ => 0)) := by rw [hu23]; exact ht_at_ne h_q6 n_q6_o
  have h_q7 : ht_at u23 q7 (ht_al g 4 (fun _ => 0)) := by rw [hu23]; exact ht_at_ne h_q7 n_q7_o
  have h_q8 : ht_at u23 q8 (ht_al g 1024 (fun _ => 0)) := by rw [hu23]; exact ht_at_ne h_q8 n_q8_o
  have h_q9 : ht_at u23 q9 (ht_al g 8 (fun _ => 0)) := by rw [hu23]; exact ht_at_ne h_q9 n_q9_o
  have h_q10 : ht_at u23 q10 (ht_ab g 4096 (fun _ => 0)) := by rw [hu23]; exact ht_at_ne h_q10 n_q10_o
  have h_q11 : ht_at u23 q11 (ht_al g 8 (fun _ => 0)) := by rw [hu23]; exact ht_at_ne h_q11 n_q11_o
  have hfr : ht_fr (fun b => b = o) w u23 := by rw [hu23]; exact hfr.trans (ht_fr.up rfl)
  have hins : ∀ x ∈ [q11, q10, q9, q8, q7, q6, q5, q4, q3, q2, q1, o], x ∈ u23.1 := by rw [hu23]; exact hins
  refine lv_aload_n hx hb d_M_init_102 rfl (lv_at hl 0 rfl) ?_
  refine lv_sipush (v := 16384) hx hb d_M_init_103 (by decide) ?_
  refine ht_newb (N' := 16384) hx hb (htb _ wd_378) HW (by decide) rfl (by decide) (Nat.le_of_ble_eq_true rfl) (Nat.le_of_ble_eq_true rfl) rfl d_M_init_106 (fun q12 H hq_q12 HW => ?_)
  have hq0_q12 : q12 ∉ w.1 := fun z9 => hq_q12 (hfr q12 z9 (fun e9 => hq_q12 (by rw [e9]; exact hO.1))).1
  have hnd : [q12, q11, q10, q9, q8, q7, q6, q5, q4, q3, q2, q1, o].Nodup := List.nodup_cons.mpr ⟨fun z9 => hq_q12 (hins q12 z9), hnd⟩
  obtain ⟨u24, hu24⟩ : ∃ zW : ht_W, zW = ht_nw u23 q12 (ht_ab g 16384 (fun _ => 0)) := ⟨_, rfl⟩
  have HW := HW.to hu24.symm
  have n_o_q12 : o ≠ q12 := fun z9 => hq_q12 (by rw [← z9]; exact hO.1)
  have n_q1_q12 : q1 ≠ q12 := fun z9 => hq_q12 (by rw [← z9]; exact h_q1.1)
  have n_q2_q12 : q2 ≠ q12 := fun z9 => hq_q12 (by rw [← z9]; exact h_q2.1)
  have n_q3_q12 : q3 ≠ q12 := fun z9 => hq_q12 (by rw [← z9]; exact h_q3.1)
  have n_q4_q12 : q4 ≠ q12 := fun z9 => hq_q12 (by rw [← z9]; exact h_q4.1)
  have n_q5_q12 : q5 ≠ q12 := fun z9 => hq_q12 (by rw [← z9]; exact h_q5.1)
  have n_q6_q12 : q6 ≠ q12 := fun z9 => hq_q12 (by rw [← z9]; exact h_q6.1)
  have n_q7_q12 : q7 ≠ q12 := fun z9 => hq_q12 (by rw [← z9]; exact h_q7.1)
  have n_q8_q12 : q8 ≠ q12 := fun z9 => hq_q12 (by rw [← z9]; exact h_q8.1)
  have n_q9_q12 : q9 ≠ q12 := fun z9 => hq_q12 (by rw [← z9]; exact h_q9.1)
  have n_q10_q12 : q10 ≠ q12 := fun z9 => hq_q12 (by rw [← z9]; exact h_q10.1)
  have n_q11_q12 : q11 ≠ q12 := fun z9 => hq_q12 (by rw [← z9]; exact h_q11.1)
  have hO : ht_at u24 o (.inr (4, [.ref q1, .ref q2, .int 0, .ref q3, .ref q4, .ref q5, .ref q6, .int 0, .ref q7, .int 0, .ref q8, .int 0, .int (-1), .ref q9, .ref q10, .ref q11, .null, .null, .null, .null, .null, .null]) : va_E) := by rw [hu24]; exact ht_at_old hO hq_q12
  have h_q1 : ht_at u24 q1 (ht_al g 2048 (fun _ => 0)) := by rw [hu24]; exact ht_at_old h_q1 hq_q12
  have h_q2 : ht_at u24 q2 (ht_al g 2048 (fun _ => 0)) := by rw [hu24]; exact ht_at_old h_q2 hq_q12
  have h_q3 : ht_at u24 q3 (ht_al g 4 (fun _ => 0)) := by rw [hu24]; exact ht_at_old h_q3 hq_q12
  have h_q4 : ht_at u24 q4 (ht_ai g 512 (fun _ => 0)) := by rw [hu24]; exact ht_at_old h_q4 hq_q12
  have h_q5 : ht_at u24 q5 (ht_ai g 512 (fun _ => 0)) := by rw [hu24]; exact ht_at_old h_q5 hq_q12
  have h_q6 : ht_at u24 q6 (ht_al g 2048 (fun _ => 0)) := by rw [hu24]; exact ht_at_old h_q6 hq_q12
  have h_q7 : ht_at u24 q7 (ht_al g 4 (fun _ => 0)) := by rw [hu24]; exact ht_at_old h_q7 hq_q12
  have h_q8 : ht_at u24 q8 (ht_al g 1024 (fun _ => 0)) := by rw [hu24]; exact ht_at_old h_q8 hq_q12
  have h_q9 : ht_at u24 q9 (ht_al g 8 (fun _ => 0)) := by rw [hu24]; exact ht_at_old h_q9 hq_q12
  have h_q10 : ht_at u24 q10 (ht_ab g 4096 (fun _ => 0)) := by rw [hu24]; exact ht_at_old h_q10 hq_q12
  have h_q11 : ht_at u24 q11 (ht_al g 8 (fun _ => 0)) := by rw [hu24]; exact ht_at_old h_q11 hq_q12
  have h_q12 : ht_at u24 q12 (ht_ab g 16384 (fun _ => 0)) := by rw [hu24]; exact ht_at_new
  have hfr : ht_fr (fun b => b = o) w u24 := by rw [hu24]; exact hfr.trans (ht_fr.nw hq_q12)
  have hins : ∀ x ∈ [q12, q11, q10, q9, q8, q7, q6, q5, q4, q3, q2, q1, o], x ∈ u24.1 := by
    rw [hu24]
    intro x hx9
    rcases List.mem_cons.mp hx9 with e9 | e9
    · rw [e9]; exact List.mem_append_right _ (List.mem_singleton.mpr rfl)
    · exact List.mem_append_left _ (hins x e9)
  refine ht_putF (C := R_M) (T := F_M) (N := 22) (v := .ref q12) (ty := .array .byte) hx hb htb i_M t_M t_M_ok n_M hown HW hO rfl 16 (by decide) (htb _ wd_327) (fun _ h9 => h9) rfl hin rfl (by decide +kernel) rfl rfl (Nat.le_of_ble_eq_true rfl) d_M_init_108 (fun H locs HW => ?_)
  have n_q12_o : q12 ≠ o := (Ne.symm n_o_q12)
  obtain ⟨u25, hu25⟩ : ∃ zW : ht_W, zW = ht_up u24 o (.inr (4, [.ref q1, .ref q2, .int 0, .ref q3, .ref q4, .ref q5, .ref q6, .int 0, .ref q7, .int 0, .ref q8, .int 0, .int (-1), .ref q9, .ref q10, .ref q11, .ref q12, .null, .null, .null, .null, .null]) : va_E) := ⟨_, rfl⟩
  have HW : ht_I g s u25 H locs := by rw [hu25]; exact HW
  have hO : ht_at u25 o (.inr (4, [.ref q1, .ref q2, .int 0, .ref q3, .ref q4, .ref q5, .ref q6, .int 0, .ref q7, .int 0, .ref q8, .int 0, .int (-1), .ref q9, .ref q10, .ref q11, .ref q12, .null, .null, .null, .null, .null]) : va_E) := by rw [hu25]; exact ht_at_self hO
  have h_q1 : ht_at u25 q1 (ht_al g 2048 (fun _ => 0)) := by rw [hu25]; exact ht_at_ne h_q1 n_q1_o
  have h_q2 : ht_at u25 q2 (ht_al g 2048 (fun _ => 0)) := by rw [hu25]; exact ht_at_ne h_q2 n_q2_o
  have h_q3 : ht_at u25 q3 (ht_al g 4 (fun _ => 0)) := by rw [hu25]; exact ht_at_ne h_q3 n_q3_o
  have h_q4 : ht_at u25 q4 (ht_ai g 512 (fun _ => 0)) := by rw [hu25]; exact ht_at_ne h_q4 n_q4_o
  have h_q5 : ht_at u25 q5 (ht_ai g 512 (fun _ => 0)) := by rw [hu25]; exact ht_at_ne h_q5 n_q5_o
  have h_q6 : ht_at u25 q6 (ht_al g 2048 (fun _ => 0)) := by rw [hu25]; exact ht_at_ne h_q6 n_q6_o
  have h_q7 : ht_at u25 q7 (ht_al g 4 (fun _ => 0)) := by rw [hu25]; exact ht_at_ne h_q7 n_q7_o
  have h_q8 : ht_at u25 q8 (ht_al g 1024 (fun _ => 0)) := by rw [hu25]; exact ht_at_ne h_q8 n_q8_o
  have h_q9 : ht_at u25 q9 (ht_al g 8 (fun _ => 0)) := by rw [hu25]; exact ht_at_ne h_q9 n_q9_o
  have h_q10 : ht_at u25 q10 (ht_ab g 4096 (fun _ => 0)) := by rw [hu25]; exact ht_at_ne h_q10 n_q10_o
  have h_q11 : ht_at u25 q11 (ht_al g 8 (fun _ => 0)) := by rw [hu25]; exact ht_at_ne h_q11 n_q11_o
  have h_q12 : ht_at u25 q12 (ht_ab g 16384 (fun _ => 0)) := by rw [hu25]; exact ht_at_ne h_q12 n_q12_o
  have hfr : ht_fr (fun b => b = o) w u25 := by rw [hu25]; exact hfr.trans (ht_fr.up rfl)
  have hins : ∀ x ∈ [q12, q11, q10, q9, q8, q7, q6, q5, q4, q3, q2, q1, o], x ∈ u25.1 := by rw [hu25]; exact hins
  refine lv_aload_n hx hb d_M_init_111 rfl (lv_at hl 0 rfl) ?_
  refine lv_ldc (v := 131072) hx hb hown (htb _ wd_309) d_M_init_112 ?_
  refine ht_newl (N' := 131072) hx hb (htb _ wd_36) HW (by decide) rfl (by decide) (Nat.le_of_ble_eq_true rfl) (Nat.le_of_ble_eq_true rfl) rfl d_M_init_114 (fun q13 H hq_q13 HW => ?_)
  have hq0_q13 : q13 ∉ w.1 := fun z9 => hq_q13 (hfr q13 z9 (fun e9 => hq_q13 (by rw [e9]; exact hO.1))).1
  have hnd : [q13, q12, q11, q10, q9, q8, q7, q6, q5, q4, q3, q2, q1, o].Nodup := List.nodup_cons.mpr ⟨fun z9 => hq_q13 (hins q13 z9), hnd⟩
  obtain ⟨u26, hu26⟩ : ∃ zW : ht_W, zW = ht_nw u25 q13 (ht_al g 131072 (fun _ => 0)) := ⟨_, rfl⟩
  have HW := HW.to hu26.symm
  have n_o_q13 : o ≠ q13 := fun z9 => hq_q13 (by rw [← z9]; exact hO.1)
  have n_q1_q13 : q1 ≠ q13 := fun z9 => hq_q13 (by rw [← z9]; exact h_q1.1)
  have n_q2_q13 : q2 ≠ q13 := fun z9 => hq_q13 (by rw [← z9]; exact h_q2.1)
  have n_q3_q13 : q3 ≠ q13 := fun z9 => hq_q13 (by rw [← z9]; exact h_q3.1)
  have n_q4_q13 : q4 ≠ q13 := fun z9 => hq_q13 (by rw [← z9]; exact h_q4.1)
  have n_q5_q13 : q5 ≠ q13 := fun z9 => hq_q13 (by rw [← z9]; exact h_q5.1)
  have n_q6_q13 : q6 ≠ q13 := fun z9 => hq_q13 (by rw [← z9]; exact h_q6.1)
  have n_q7_q13 : q7 ≠ q13 := fun z9 => hq_q13 (by rw [← z9]; exact h_q7.1)
  have n_q8_q13 : q8 ≠ q13 := fun z9 => hq_q13 (by rw [← z9]; exact h_q8.1)
  have n_q9_q13 : q9 ≠ q13 := fun z9 => hq_q13 (by rw [← z9]; exact h_q9.1)
  have n_q10_q13 : q10 ≠ q13 := fun z9 => hq_q13 (by rw [← z9]; exact h_q10.1)
  have n_q11_q13 : q11 ≠ q13 := fun z9 => hq_q13 (by rw [← z9]; exact h_q11.1)
  have n_q12_q13 : q12 ≠ q13 := fun z9 => hq_q13 (by rw [← z9]; exact h_q12.1)
  have hO : ht_at u26 o (.inr (4, [.ref q1, .ref q2, .int 0, .ref q3, .ref q4, .ref q5, .ref q6, .int 0, .ref q7, .int 0, .ref q8, .int 0, .int (-1), .ref q9, .ref q10, .ref q11, .ref q12, .null, .null, .null, .null, .null]) : va_E) := by rw [hu26]; exact ht_at_old hO hq_q13
  have h_q1 : ht_at u26 q1 (ht_al g 2048 (fun _ => 0)) := by rw [hu26]; exact ht_at_old h_q1 hq_q13
  have h_q2 : ht_at u26 q2 (ht_al g 2048 (fun _ => 0)) := by rw [hu26]; exact ht_at_old h_q2 hq_q13
  have h_q3 : ht_at u26 q3 (ht_al g 4 (fun _ => 0)) := by rw [hu26]; exact ht_at_old h_q3 hq_q13
  have h_q4 : ht_at u26 q4 (ht_ai g 512 (fun _ => 0)) := by rw [hu26]; exact ht_at_old h_q4 hq_q13
  have h_q5 : ht_at u26 q5 (ht_ai g 512 (fun _ => 0)) := by rw [hu26]; exact ht_at_old h_q5 hq_q13
  have h_q6 : ht_at u26 q6 (ht_al g 2048 (fun _ => 0)) := by rw [hu26]; exact ht_at_old h_q6 hq_q13
  have h_q7 : ht_at u26 q7 (ht_al g 4 (fun _ => 0)) := by rw [hu26]; exact ht_at_old h_q7 hq_q13
  have h_q8 : ht_at u26 q8 (ht_al g 1024 (fun _ => 0)) := by rw [hu26]; exact ht_at_old h_q8 hq_q13
  have h_q9 : ht_at u26 q9 (ht_al g 8 (fun _ => 0)) := by rw [hu26]; exact ht_at_old h_q9 hq_q13
  have h_q10 : ht_at u26 q10 (ht_ab g 4096 (fun _ => 0)) := by rw [hu26]; exact ht_at_old h_q10 hq_q13
  have h_q11 : ht_at u26 q11 (ht_al g 8 (fun _ => 0)) := by rw [hu26]; exact ht_at_old h_q11 hq_q13
  have h_q12 : ht_at u26 q12 (ht_ab g 16384 (fun _ => 0)) := by rw [hu26]; exact ht_at_old h_q12 hq_q13
  have h_q13 : ht_at u26 q13 (ht_al g 131072 (fun _ => 0)) := by rw [hu26]; exact ht_at_new
  have hfr : ht_fr (fun b => b = o) w u26 := by rw [hu26]; exact hfr.trans (ht_fr.nw hq_q13)
  have hins : ∀ x ∈ [q13, q12, q11, q10, q9, q8, q7, q6, q5, q4, q3, q2, q1, o], x ∈ u26.1 := by
    rw [hu26]
    intro x hx9
    rcases List.mem_cons.mp hx9 with e9 | e9
    · rw [e9]; exact List.mem_append_right _ (List.mem_singleton.mpr rfl)
    · exact List.mem_append_left _ (hins x e9)
  refine ht_putF (C := R_M) (T := F_M) (N := 22) (v := .ref q13) (ty := .array .long) hx hb htb i_M t_M t_M_ok n_M hown HW hO rfl 17 (by decide) (htb _ wd_328) (fun _ h9 => h9) rfl hin rfl (by decide +kernel) rfl rfl (Nat.le_of_ble_eq_true rfl) d_M_init_116 (fun H locs HW => ?_)
  have n_q13_o : q13 ≠ o := (Ne.symm n_o_q13)
  obtain ⟨u27, hu27⟩ : ∃ zW : ht_W, zW = ht_up u26 o (.inr (4, [.ref q1, .ref q2, .int 0, .ref q3, .ref q4, .ref q5, .ref q6, .int 0, .ref q7, .int 0, .ref q8, .int 0, .int (-1), .ref q9, .ref q10, .ref q11, .ref q12, .ref q13, .null, .null, .null, .null]) : va_E) := ⟨_, rfl⟩
  have HW : ht_I g s u27 H locs := by rw [hu27]; exact HW
  have hO : ht_at u27 o (.inr (4, [.ref q1, .ref q2, .int 0, .ref q3, .ref q4, .ref q5, .ref q6, .int 0, .ref q7, .int 0, .ref q8, .int 0, .int (-1), .ref q9, .ref q10, .ref q11, .ref q12, .ref q13, .null, .null, .null, .null]) : va_E) := by rw [hu27]; exact ht_at_self hO
  have h_q1 : ht_at u27 q1 (ht_al g 2048 (fun _ => 0)) := by rw [hu27]; exact ht_at_ne h_q1 n_q1_o
  have h_q2 : ht_at u27 q2 (ht_al g 2048 (fun _ => 0)) := by rw [hu27]; exact ht_at_ne h_q2 n_q2_o
  have h_q3 : ht_at u27 q3 (ht_al g 4 (fun _ => 0)) := by rw [hu27]; exact ht_at_ne h_q3 n_q3_o
  have h_q4 : ht_at u27 q4 (ht_ai g 512 (fun _ => 0)) := by rw [hu27]; exact ht_at_ne h_q4 n_q4_o
  have h_q5 : ht_at u27 q5 (ht_ai g 512 (fun _ => 0)) := by rw [hu27]; exact ht_at_ne h_q5 n_q5_o
  have h_q6 : ht_at u27 q6 (ht_al g 2048 (fun _ => 0)) := by rw [hu27]; exact ht_at_ne h_q6 n_q6_o
  have h_q7 : ht_at u27 q7 (ht_al g 4 (fun _ => 0)) := by rw [hu27]; exact ht_at_ne h_q7 n_q7_o
  have h_q8 : ht_at u27 q8 (ht_al g 1024 (fun _ => 0)) := by rw [hu27]; exact ht_at_ne h_q8 n_q8_o
  have h_q9 : ht_at u27 q9 (ht_al g 8 (fun _ => 0)) := by rw [hu27]; exact ht_at_ne h_q9 n_q9_o
  have h_q10 : ht_at u27 q10 (ht_ab g 4096 (fun _ => 0)) := by rw [hu27]; exact ht_at_ne h_q10 n_q10_o
  have h_q11 : ht_at u27 q11 (ht_al g 8 (fun _ => 0)) := by rw [hu27]; exact ht_at_ne h_q11 n_q11_o
  have h_q12 : ht_at u27 q12 (ht_ab g 16384 (fun _ => 0)) := by rw [hu27]; exact ht_at_ne h_q12 n_q12_o
  have h_q13 : ht_at u27 q13 (ht_al g 131072 (fun _ => 0)) := by rw [hu27]; exact ht_at_ne h_q13 n_q13_o
  have hfr : ht_fr (fun b => b = o) w u27 := by rw [hu27]; exact hfr.trans (ht_fr.up rfl)
  have hins : ∀ x ∈ [q13, q12, q11, q10, q9, q8, q7, q6, q5, q4, q3, q2, q1, o], x ∈ u27.1 := by rw [hu27]; exact hins
  refine lv_aload_n hx hb d_M_init_119 rfl (lv_at hl 0 rfl) ?_
  refine lv_ldc (v := 65536) hx hb hown (htb _ wd_310) d_M_init_120 ?_
  refine ht_newl (N' := 65536) hx hb (htb _ wd_36) HW (by decide) rfl (by decide) (Nat.le_of_ble_eq_true rfl) (Nat.le_of_ble_eq_true rfl) rfl d_M_init_122 (fun q14 H hq_q14 HW => ?_)
  have hq0_q14 : q14 ∉ w.1 := fun z9 => hq_q14 (hfr q14 z9 (fun e9 => hq_q14 (by rw [e9]; exact hO.1))).1
  have hnd : [q14, q13, q12, q11, q10, q9, q8, q7, q6, q5, q4, q3, q2, q1, o].Nodup := List.nodup_cons.mpr ⟨fun z9 => hq_q14 (hins q14 z9), hnd⟩
  obtain ⟨u28, hu28⟩ : ∃ zW : ht_W, zW = ht_nw u27 q14 (ht_al g 65536 (fun _ => 0)) := ⟨_, rfl⟩
  have HW := HW.to hu28.symm
  have n_o_q14 : o ≠ q14 := fun z9 => hq_q14 (by rw [← z9]; exact hO.1)
  have n_q1_q14 : q1 ≠ q14 := fun z9 => hq_q14 (by rw [← z9]; exact h_q1.1)
  have n_q2_q14 : q2 ≠ q14 := fun z9 => hq_q14 (by rw [← z9]; exact h_q2.1)
  have n_q3_q14 : q3 ≠ q14 := fun z9 => hq_q14 (by rw [← z9]; exact h_q3.1)
  have n_q4_q14 : q4 ≠ q14 := fun z9 => hq_q14 (by rw [← z9]; exact h_q4.1)
  have n_q5_q14 : q5 ≠ q14 := fun z9 => hq_q14 (by rw [← z9]; exact h_q5.1)
  have n_q6_q14 : q6 ≠ q14 := fun z9 => hq_q14 (by rw [← z9]; exact h_q6.1)
  have n_q7_q14 : q7 ≠ q14 := fun z9 => hq_q14 (by rw [← z9]; exact h_q7.1)
  have n_q8_q14 : q8 ≠ q14 := fun z9 => hq_q14 (by rw [← z9]; exact h_q8.1)
  have n_q9_q14 : q9 ≠ q14 := fun z9 => hq_q14 (by rw [← z9]; exact h_q9.1)
  have n_q10_q14 : q10 ≠ q14 := fun z9 => hq_q14 (by rw [← z9]; exact h_q10.1)
  have n_q11_q14 : q11 ≠ q14 := fun z9 => hq_q14 (by rw [← z9]; exact h_q11.1)
  have n_q12_q14 : q12 ≠ q14 := fun z9 => hq_q14 (by rw [← z9]; exact h_q12.1)
  have n_q13_q14 : q13 ≠ q14 := fun z9 => hq_q14 (by rw [← z9]; exact h_q13.1)
  have hO : ht_at u28 o (.inr (4, [.ref q1, .ref q2, .int 0, .ref q3, .ref q4, .ref q5, .ref q6, .int 0, .ref q7, .int 0, .ref q8, .int 0, .int (-1), .ref q9, .ref q10, .ref q11, .ref q12, .ref q13, .null, .null, .null, .null]) : va_E) := by rw [hu28]; exact ht_at_old hO hq_q14
  have h_q1 : ht_at u28 q1 (ht_al g 2048 (fun _ => 0)) := by rw [hu28]; exact ht_at_old h_q1 hq_q14
  have h_q2 : ht_at u28 q2 (ht_al g 2048 (fun _ => 0)) := by rw [hu28]; exact ht_at_old h_q2 hq_q14
  have h_q3 : ht_at u28 q3 (ht_al g 4 (fun _ => 0)) := by rw [hu28]; exact ht_at_old h_q3 hq_q14
  have h_q4 : ht_at u28 q4 (ht_ai g 512 (fun _ => 0)) := by rw [hu28]; exact ht_at_old h_q4 hq_q14
  have h_q5 : ht_at u28 q5 (ht_ai g 512 (fun _ => 0)) := by rw [hu28]; exact ht_at_old h_q5 hq_q14
  have h_q6 : ht_at u28 q6 (ht_al g 2048 (fun _ => 0)) := by rw [hu28]; exact ht_at_old h_q6 hq_q14
  have h_q7 : ht_at u28 q7 (ht_al g 4 (fun _ => 0)) := by rw [hu28]; exact ht_at_old h_q7 hq_q14
  have h_q8 : ht_at u28 q8 (ht_al g 1024 (fun _ => 0)) := by rw [hu28]; exact ht_at_old h_q8 hq_q14
  have h_q9 : ht_at u28 q9 (ht_al g 8 (fun _ => 0)) := by rw [hu28]; exact ht_at_old h_q9 hq_q14
  have h_q10 : ht_at u28 q10 (ht_ab g 4096 (fun _ => 0)) := by rw [hu28]; exact ht_at_old h_q10 hq_q14
  have h_q11 : ht_at u28 q11 (ht_al g 8 (fun _ => 0)) := by rw [hu28]; exact ht_at_old h_q11 hq_q14
  have h_q12 : ht_at u28 q12 (ht_ab g 16384 (fun _ => 0)) := by rw [hu28]; exact ht_at_old h_q12 hq_q14
  have h_q13 : ht_at u28 q13 (ht_al g 131072 (fun _ => 0)) := by rw [hu28]; exact ht_at_old h_q13 hq_q14
  have h_q14 : ht_at u28 q14 (ht_al g 65536 (fun _ => 0)) := by rw [hu28]; exact ht_at_new
  have hfr : ht_fr (fun b => b = o) w u28 := by rw [hu28]; exact hfr.trans (ht_fr.nw hq_q14)
  have hins : ∀ x ∈ [q14, q13, q12, q11, q10, q9, q8, q7, q6, q5, q4, q3, q2, q1, o], x ∈ u28.1 := by
    rw [hu28]
    intro x hx9
    rcases List.mem_cons.mp hx9 with e9 | e9
    · rw [e9]; exact List.mem_append_right _ (List.mem_singleton.mpr rfl)
    · exact List.mem_append_left _ (hins x e9)
  refine ht_putF (C := R_M) (T := F_M) (N := 22) (v := .ref q14) (ty := .array .long) hx hb htb i_M t_M t_M_ok n_M hown HW hO rfl 18 (by decide) (htb _ wd_329) (fun _ h9 => h9) rfl hin rfl (by decide +kernel) rfl rfl (Nat.le_of_ble_eq_true rfl) d_M_init_124 (fun H locs HW => ?_)
  have n_q14_o : q14 ≠ o := (Ne.symm n_o_q14)
  obtain ⟨u29, hu29⟩ : ∃ zW : ht_W, zW = ht_up u28 o (.inr (4, [.ref q1, .ref q2, .int 0, .ref q3, .ref q4, .ref q5, .ref q6, .int 0, .ref q7, .int 0, .ref q8, .int 0, .int (-1), .ref q9, .ref q10, .ref q11, .ref q12, .ref q13, .ref q14, .null, .null, .null]) : va_E) := ⟨_, rfl⟩
  have HW : ht_I g s u29 H locs := by rw [hu29]; exact HW
  have hO : ht_at u29 o (.inr (4, [.ref q1, .ref q2, .int 0, .ref q3, .ref q4, .ref q5, .ref q6, .int 0, .ref q7, .int 0, .ref q8, .int 0, .int (-1), .ref q9, .ref q10, .ref q11, .ref q12, .ref q13, .ref q14, .null, .null, .null]) : va_E) := by rw [hu29]; exact ht_at_self hO
  have h_q1 : ht_at u29 q1 (ht_al g 2048 (fun _ => 0)) := by rw [hu29]; exact ht_at_ne h_q1 n_q1_o
  have h_q2 : ht_at u29 q2 (ht_al g 2048 (fun _ => 0)) := by rw [hu29]; exact ht_at_ne h_q2 n_q2_o
  have h_q3 : ht_at u29 q3 (ht_al g 4 (fun _ => 0)) := by rw [hu29]; exact ht_at_ne h_q3 n_q3_o
  have h_q4 : ht_at u29 q4 (ht_ai g 512 (fun _ => 0)) := by rw [hu29]; exact ht_at_ne h_q4 n_q4_o
  have h_q5 : ht_at u29 q5 (ht_ai g 512 (fun _ => 0)) := by rw [hu29]; exact ht_at_ne h_q5 n_q5_o
  have h_q6 : ht_at u29 q6 (ht_al g 2048 (fun _ => 0)) := by rw [hu29]; exact ht_at_ne h_q6 n_q6_o
  have h_q7 : ht_at u29 q7 (ht_al g 4 (fun _ => 0)) := by rw [hu29]; exact ht_at_ne h_q7 n_q7_o
  have h_q8 : ht_at u29 q8 (ht_al g 1024 (fun _ => 0)) := by rw [hu29]; exact ht_at_ne h_q8 n_q8_o
  have h_q9 : ht_at u29 q9 (ht_al g 8 (fun _ => 0)) := by rw [hu29]; exact ht_at_ne h_q9 n_q9_o
  have h_q10 : ht_at u29 q10 (ht_ab g 4096 (fun _ => 0)) := by rw [hu29]; exact ht_at_ne h_q10 n_q10_o
  have h_q11 : ht_at u29 q11 (ht_al g 8 (fun _ => 0)) := by rw [hu29]; exact ht_at_ne h_q11 n_q11_o
  have h_q12 : ht_at u29 q12 (ht_ab g 16384 (fun _ => 0)) := by rw [hu29]; exact ht_at_ne h_q12 n_q12_o
  have h_q13 : ht_at u29 q13 (ht_al g 131072 (fun _ => 0)) := by rw [hu29]; exact ht_at_ne h_q13 n_q13_o
  have h_q14 : ht_at u29 q14 (ht_al g 65536 (fun _ => 0)) := by rw [hu29]; exact ht_at_ne h_q14 n_q14_o
  have hfr : ht_fr (fun b => b = o) w u29 := by rw [hu29]; exact hfr.trans (ht_fr.up rfl)
  have hins : ∀ x ∈ [q14, q13, q12, q11, q10, q9, q8, q7, q6, q5, q4, q3, q2, q1, o], x ∈ u29.1 := by rw [hu29]; exact hins
  refine lv_aload_n hx hb d_M_init_127 rfl (lv_at hl 0 rfl) ?_
  refine lv_bipush (v := 8) hx hb d_M_init_128 (by decide) ?_
  refine ht_newl (N' := 8) hx hb (htb _ wd_36) HW (by decide) rfl (by decide) (Nat.le_of_ble_eq_true rfl) (Nat.le_of_ble_eq_true rfl) rfl d_M_init_130 (fun q15 H hq_q15 HW => ?_)
  have hq0_q15 : q15 ∉ w.1 := fun z9 => hq_q15 (hfr q15 z9 (fun e9 => hq_q15 (by rw [e9]; exact hO.1))).1
  have hnd : [q15, q14, q13, q12, q11, q10, q9, q8, q7, q6, q5, q4, q3, q2, q1, o].Nodup := List.nodup_cons.mpr ⟨fun z9 => hq_q15 (hins q15 z9), hnd⟩
  obtain ⟨u30, hu30⟩ : ∃ zW : ht_W, zW = ht_nw u29 q15 (ht_al g 8 (fun _ => 0)) := ⟨_, rfl⟩
  have HW := HW.to hu30.symm
  have n_o_q15 : o ≠ q15 := fun z9 => hq_q15 (by rw [← z9]; exact hO.1)
  have n_q1_q15 : q1 ≠ q15 := fun z9 => hq_q15 (by rw [← z9]; exact h_q1.1)
  have n_q2_q15 : q2 ≠ q15 := fun z9 => hq_q15 (by rw [← z9]; exact h_q2.1)
  have n_q3_q15 : q3 ≠ q15 := fun z9 => hq_q15 (by rw [← z9]; exact h_q3.1)
  have n_q4_q15 : q4 ≠ q15 := fun z9 => hq_q15 (by rw [← z9]; exact h_q4.1)
  have n_q5_q15 : q5 ≠ q15 := fun z9 => hq_q15 (by rw [← z9]; exact h_q5.1)
  have n_q6_q15 : q6 ≠ q15 := fun z9 => hq_q15 (by rw [← z9]; exact h_q6.1)
  have n_q7_q15 : q7 ≠ q15 := fun z9 => hq_q15 (by rw [← z9]; exact h_q7.1)
  have n_q8_q15 : q8 ≠ q15 := fun z9 => hq_q15 (by rw [← z9]; exact h_q8.1)
  have n_q9_q15 : q9 ≠ q15 := fun z9 => hq_q15 (by rw [← z9]; exact h_q9.1)
  have n_q10_q15 : q10 ≠ q15 := fun z9 => hq_q15 (by rw [← z9]; exact h_q10.1)
  have n_q11_q15 : q11 ≠ q15 := fun z9 => hq_q15 (by rw [← z9]; exact h_q11.1)
  have n_q12_q15 : q12 ≠ q15 := fun z9 => hq_q15 (by rw [← z9]; exact h_q12.1)
  have n_q13_q15 : q13 ≠ q15 := fun z9 => hq_q15 (by rw [← z9]; exact h_q13.1)
  have n_q14_q15 : q14 ≠ q15 := fun z9 => hq_q15 (by rw [← z9]; exact h_q14.1)
  have hO : ht_at u30 o (.inr (4, [.ref q1, .ref q2, .int 0, .ref q3, .ref q4, .ref q5, .ref q6, .int 0, .ref q7, .int 0, .ref q8, .int 0, .int (-1), .ref q9, .ref q10, .ref q11, .ref q12, .ref q13, .ref q14, .null, .null, .null]) : va_E) := by rw [hu30]; exact ht_at_old hO hq_q15
  have h_q1 : ht_at u30 q1 (ht_al g 2048 (fun _ => 0)) := by rw [hu30]; exact ht_at_old h_q1 hq_q15
  have h_q2 : ht_at u30 q2 (ht_al g 2048 (fun _ => 0)) := by rw [hu30]; exact ht_at_old h_q2 hq_q15
  have h_q3 : ht_at u30 q3 (ht_al g 4 (fun _ => 0)) := by rw [hu30]; exact ht_at_old h_q3 hq_q15
  have h_q4 : ht_at u30 q4 (ht_ai g 512 (fun _ => 0)) := by rw [hu30]; exact ht_at_old h_q4 hq_q15
  have h_q5 : ht_at u30 q5 (ht_ai g 512 (fun _ => 0)) := by rw [hu30]; exact ht_at_old h_q5 hq_q15
  have h_q6 : ht_at u30 q6 (ht_al g 2048 (fun _ => 0)) := by rw [hu30]; exact ht_at_old h_q6 hq_q15
  have h_q7 : ht_at u30 q7 (ht_al g 4 (fun _ => 0)) := by rw [hu30]; exact ht_at_old h_q7 hq_q15
  have h_q8 : ht_at u30 q8 (ht_al g 1024 (fun _ => 0)) := by rw [hu30]; exact ht_at_old h_q8 hq_q15
  have h_q9 : ht_at u30 q9 (ht_al g 8 (fun _ => 0)) := by rw [hu30]; exact ht_at_old h_q9 hq_q15
  have h_q10 : ht_at u30 q10 (ht_ab g 4096 (fun _ => 0)) := by rw [hu30]; exact ht_at_old h_q10 hq_q15
  have h_q11 : ht_at u30 q11 (ht_al g 8 (fun _ => 0)) := by rw [hu30]; exact ht_at_old h_q11 hq_q15
  have h_q12 : ht_at u30 q12 (ht_ab g 16384 (fun _ => 0)) := by rw [hu30]; exact ht_at_old h_q12 hq_q15
  have h_q13 : ht_at u30 q13 (ht_al g 131072 (fun _ => 0)) := by rw [hu30]; exact ht_at_old h_q13 hq_q15
  have h_q14 : ht_at u30 q14 (ht_al g 65536 (fun _ => 0)) := by rw [hu30]; exact ht_at_old h_q14 hq_q15
  have h_q15 : ht_at u30 q15 (ht_al g 8 (fun _ => 0)) := by rw [hu30]; exact ht_at_new
  have hfr : ht_fr (fun b => b = o) w u30 := by rw [hu30]; exact hfr.trans (ht_fr.nw hq_q15)
  have hins : ∀ x ∈ [q15, q14, q13, q12, q11, q10, q9, q8, q7, q6, q5, q4, q3, q2, q1, o], x ∈ u30.1 := by
    rw [hu30]
    intro x hx9
    rcases List.mem_cons.mp hx9 with e9 | e9
    · rw [e9]; exact List.mem_append_right _ (List.mem_singleton.mpr rfl)
    · exact List.mem_append_left _ (hins x e9)
  refine ht_putF (C := R_M) (T := F_M) (N := 22) (v := .ref q15) (ty := .array .long) hx hb htb i_M t_M t_M_ok n_M hown HW hO rfl 19 (by decide) (htb _ wd_330) (fun _ h9 => h9) rfl hin rfl (by decide +kernel) rfl rfl (Nat.le_of_ble_eq_true rfl) d_M_init_132 (fun H locs HW => ?_)
  have n_q15_o : q15 ≠ o := (Ne.symm n_o_q15)
  obtain ⟨u31, hu31⟩ : ∃ zW : ht_W, zW = ht_up u30 o (.inr (4, [.ref q1, .ref q2, .int 0, .ref q3, .ref q4, .ref q5, .ref q6, .int 0, .ref q7, .int 0, .ref q8, .int 0, .int (-1), .ref q9, .ref q10, .ref q11, .ref q12, .ref q13, .ref q14, .ref q15, .null, .null]) : va_E) := ⟨_, rfl⟩
  have HW : ht_I g s u31 H locs := by rw [hu31]; exact HW
  have hO : ht_at u31 o (.inr (4, [.ref q1, .ref q2, .int 0, .ref q3, .ref q4, .ref q5, .ref q6, .int 0, .ref q7, .int 0, .ref q8, .int 0, .int (-1), .ref q9, .ref q10, .ref q11, .ref q12, .ref q13, .ref q14, .ref q15, .null, .null]) : va_E) := by rw [hu31]; exact ht_at_self hO
  have h_q1 : ht_at u31 q1 (ht_al g 2048 (fun _ => 0)) := by rw [hu31]; exact ht_at_ne h_q1 n_q1_o
  have h_q2 : ht_at u31 q2 (ht_al g 2048 (fun _ => 0)) := by rw [hu31]; exact ht_at_ne h_q2 n_q2_o
  have h_q3 : ht_at u31 q3 (ht_al g 4 (fun _ => 0)) := by rw [hu31]; exact ht_at_ne h_q3 n_q3_o
  have h_q4 : ht_at u31 q4 (ht_ai g 512 (fun _ => 0)) := by rw [hu31]; exact ht_at_ne h_q4 n_q4_o
  have h_q5 : ht_at u31 q5 (ht_ai g 512 (fun _ => 0)) := by rw [hu31]; exact ht_at_ne h_q5 n_q5_o
  have h_q6 : ht_at u31 q6 (ht_al g 2048 (fun _ => 0)) := by rw [hu31]; exact ht_at_ne h_q6 n_q6_o
  have h_q7 : ht_at u31 q7 (ht_al g 4 (fun _ => 0)) := by rw [hu31]; exact ht_at_ne h_q7 n_q7_o
  have h_q8 : ht_at u31 q8 (ht_al g 1024 (fun _ => 0)) := by rw [hu31]; exact ht_at_ne h_q8 n_q8_o
  have h_q9 : ht_at u31 q9 (ht_al g 8 (fun _ => 0)) := by rw [hu31]; exact ht_at_ne h_q9 n_q9_o
  have h_q10 : ht_at u31 q10 (ht_ab g 4096 (fun _ => 0)) := by rw [hu31]; exact ht_at_ne h_q10 n_q10_o
  have h_q11 : ht_at u31 q11 (ht_al g 8 (fun _ => 0)) := by rw [hu31]; exact ht_at_ne h_q11 n_q11_o
  have h_q12 : ht_at u31 q12 (ht_ab g 16384 (fun _ => 0)) := by rw [hu31]; exact ht_at_ne h_q12 n_q12_o
  have h_q13 : ht_at u31 q13 (ht_al g 131072 (fun _ => 0)) := by rw [hu31]; exact ht_at_ne h_q13 n_q13_o
  have h_q14 : ht_at u31 q14 (ht_al g 65536 (fun _ => 0)) := by rw [hu31]; exact ht_at_ne h_q14 n_q14_o
  have h_q15 : ht_at u31 q15 (ht_al g 8 (fun _ => 0)) := by rw [hu31]; exact ht_at_ne h_q15 n_q15_o
  have hfr : ht_fr (fun b => b = o) w u31 := by rw [hu31]; exact hfr.trans (ht_fr.up rfl)
  have hins : ∀ x ∈ [q15, q14, q13, q12, q11, q10, q9, q8, q7, q6, q5, q4, q3, q2, q1, o], x ∈ u31.1 := by rw [hu31]; exact hins
  refine lv_aload_n hx hb d_M_init_135 rfl (lv_at hl 0 rfl) ?_
  refine lv_iconst (v := 4) hx hb d_M_init_136 (by decide) ?_
  refine ht_newl (N' := 4) hx hb (htb _ wd_36) HW (by decide) rfl (by decide) (Nat.le_of_ble_eq_true rfl) (Nat.le_of_ble_eq_true rfl) rfl d_M_init_137 (fun q16 H hq_q16 HW => ?_)
  have hq0_q16 : q16 ∉ w.1 := fun z9 => hq_q16 (hfr q16 z9 (fun e9 => hq_q16 (by rw [e9]; exact hO.1))).1
  have hnd : [q16, q15, q14, q13, q12, q11, q10, q9, q8, q7, q6, q5, q4, q3, q2, q1, o].Nodup := List.nodup_cons.mpr ⟨fun z9 => hq_q16 (hins q16 z9), hnd⟩
  obtain ⟨u32, hu32⟩ : ∃ zW : ht_W, zW = ht_nw u31 q16 (ht_al g 4 (fun _ => 0)) := ⟨_, rfl⟩
  have HW := HW.to hu32.symm
  have n_o_q16 : o ≠ q16 := fun z9 => hq_q16 (by rw [← z9]; exact hO.1)
  have n_q1_q16 : q1 ≠ q16 := fun z9 => hq_q16 (by rw [← z9]; exact h_q1.1)
  have n_q2_q16 : q2 ≠ q16 := fun z9 => hq_q16 (by rw [← z9]; exact h_q2.1)
  have n_q3_q16 : q3 ≠ q16 := fun z9 => hq_q16 (by rw [← z9]; exact h_q3.1)
  have n_q4_q16 : q4 ≠ q16 := fun z9 => hq_q16 (by rw [← z9]; exact h_q4.1)
  have n_q5_q16 : q5 ≠ q16 := fun z9 => hq_q16 (by rw [← z9]; exact h_q5.1)
  have n_q6_q16 : q6 ≠ q16 := fun z9 => hq_q16 (by rw [← z9]; exact h_q6.1)
  have n_q7_q16 : q7 ≠ q16 := fun z9 => hq_q16 (by rw [← z9]; exact h_q7.1)
  have n_q8_q16 : q8 ≠ q16 := fun z9 => hq_q16 (by rw [← z9]; exact h_q8.1)
  have n_q9_q16 : q9 ≠ q16 := fun z9 => hq_q16 (by rw [← z9]; exact h_q9.1)
  have n_q10_q16 : q10 ≠ q16 := fun z9 => hq_q16 (by rw [← z9]; exact h_q10.1)
  have n_q11_q16 : q11 ≠ q16 := fun z9 => hq_q16 (by rw [← z9]; exact h_q11.1)
  have n_q12_q16 : q12 ≠ q16 := fun z9 => hq_q16 (by rw [← z9]; exact h_q12.1)
  have n_q13_q16 : q13 ≠ q16 := fun z9 => hq_q16 (by rw [← z9]; exact h_q13.1)
  have n_q14_q16 : q14 ≠ q16 := fun z9 => hq_q16 (by rw [← z9]; exact h_q14.1)
  have n_q15_q16 : q15 ≠ q16 := fun z9 => hq_q16 (by rw [← z9]; exact h_q15.1)
  have hO : ht_at u32 o (.inr (4, [.ref q1, .ref q2, .int 0, .ref q3, .ref q4, .ref q5, .ref q6, .int 0, .ref q7, .int 0, .ref q8, .int 0, .int (-1), .ref q9, .ref q10, .ref q11, .ref q12, .ref q13, .ref q14, .ref q15, .null, .null]) : va_E) := by rw [hu32]; exact ht_at_old hO hq_q16
  have h_q1 : ht_at u32 q1 (ht_al g 2048 (fun _ => 0)) := by rw [hu32]; exact ht_at_old h_q1 hq_q16
  have h_q2 : ht_at u32 q2 (ht_al g 2048 (fun _ => 0)) := by rw [hu32]; exact ht_at_old h_q2 hq_q16
  have h_q3 : ht_at u32 q3 (ht_al g 4 (fun _ => 0)) := by rw [hu32]; exact ht_at_old h_q3 hq_q16
  have h_q4 : ht_at u32 q4 (ht_ai g 512 (fun _ => 0)) := by rw [hu32]; exact ht_at_old h_q4 hq_q16
  have h_q5 : ht_at u32 q5 (ht_ai g 512 (fun _ => 0)) := by rw [hu32]; exact ht_at_old h_q5 hq_q16
  have h_q6 : ht_at u32 q6 (ht_al g 2048 (fun _ => 0)) := by rw [hu32]; exact ht_at_old h_q6 hq_q16
  have h_q7 : ht_at u32 q7 (ht_al g 4 (fun _ => 0)) := by rw [hu32]; exact ht_at_old h_q7 hq_q16
  have h_q8 : ht_at u32 q8 (ht_al g 1024 (fun _ => 0)) := by rw [hu32]; exact ht_at_old h_q8 hq_q16
  have h_q9 : ht_at u32 q9 (ht_al g 8 (fun _ => 0)) := by rw [hu32]; exact ht_at_old h_q9 hq_q16
  have h_q10 : ht_at u32 q10 (ht_ab g 4096 (fun _ => 0)) := by rw [hu32]; exact ht_at_old h_q10 hq_q16
  have h_q11 : ht_at u32 q11 (ht_al g 8 (fun _ => 0)) := by rw [hu32]; exact ht_at_old h_q11 hq_q16
  have h_q12 : ht_at u32 q12 (ht_ab g 16384 (fun _ => 0)) := by rw [hu32]; exact ht_at_old h_q12 hq_q16
  have h_q13 : ht_at u32 q13 (ht_al g 131072 (fun _ => 0)) := by rw [hu32]; exact ht_at_old h_q13 hq_q16
  have h_q14 : ht_at u32 q14 (ht_al g 65536 (fun _ => 0)) := by rw [hu32]; exact ht_at_old h_q14 hq_q16
  have h_q15 : ht_at u32 q15 (ht_al g 8 (fun _ => 0)) := by rw [hu32]; exact ht_at_old h_q15 hq_q16
  have h_q16 : ht_at u32 q16 (ht_al g 4 (fun _ => 0)) := by rw [hu32]; exact ht_at_new
  have hfr : ht_fr (fun b => b = o) w u32 := by rw [hu32]; exact hfr.trans (ht_fr.nw hq_q16)
  have hins : ∀ x ∈ [q16, q15, q14, q13, q12, q11, q10, q9, q8, q7, q6, q5, q4, q3, q2, q1, o], x ∈ u32.1 := by
    rw [hu32]
    intro x hx9
    rcases List.mem_cons.mp hx9 with e9 | e9
    · rw [e9]; exact List.mem_append_right _ (List.mem_singleton.mpr rfl)
    · exact List.mem_append_left _ (hins x e9)
  refine ht_putF (C := R_M) (T := F_M) (N := 22) (v := .ref q16) (ty := .array .long) hx hb htb i_M t_M t_M_ok n_M hown HW hO rfl 20 (by decide) (htb _ wd_331) (fun _ h9 => h9) rfl hin rfl (by decide +kernel) rfl rfl (Nat.le_of_ble_eq_true rfl) d_M_init_139 (fun H locs HW => ?_)
  have n_q16_o : q16 ≠ o := (Ne.symm n_o_q16)
  obtain ⟨u33, hu33⟩ : ∃ zW : ht_W, zW = ht_up u32 o (.inr (4, [.ref q1, .ref q2, .int 0, .ref q3, .ref q4, .ref q5, .ref q6, .int 0, .ref q7, .int 0, .ref q8, .int 0, .int (-1), .ref q9, .ref q10, .ref q11, .ref q12, .ref q13, .ref q14, .ref q15, .ref q16, .null]) : va_E) := ⟨_, rfl⟩
  have HW : ht_I g s u33 H locs := by rw [hu33]; exact HW
  have hO : ht_at u33 o (.inr (4, [.ref q1, .ref q2, .int 0, .ref q3, .ref q4, .ref q5, .ref q6, .int 0, .ref q7, .int 0, .ref q8, .int 0, .int (-1), .ref q9, .ref q10, .ref q11, .ref q12, .ref q13, .ref q14, .ref q15, .ref q16, .null]) : va_E) := by rw [hu33]; exact ht_at_self hO
  have h_q1 : ht_at u33 q1 (ht_al g 2048 (fun _ => 0)) := by rw [hu33]; exact ht_at_ne h_q1 n_q1_o
  have h_q2 : ht_at u33 q2 (ht_al g 2048 (fun _ => 0)) := by rw [hu33]; exact ht_at_ne h_q2 n_q2_o
  have h_q3 : ht_at u33 q3 (ht_al g 4 (fun _ => 0)) := by rw [hu33]; exact ht_at_ne h_q3 n_q3_o
  have h_q4 : ht_at u33 q4 (ht_ai g 512 (fun _ => 0)) := by rw [hu33]; exact ht_at_ne h_q4 n_q4_o
  have h_q5 : ht_at u33 q5 (ht_ai g 512 (fun _ => 0)) := by rw [hu33]; exact ht_at_ne h_q5 n_q5_o
  have h_q6 : ht_at u33 q6 (ht_al g 2048 (fun _ => 0)) := by rw [hu33]; exact ht_at_ne h_q6 n_q6_o
  have h_q7 : ht_at u33 q7 (ht_al g 4 (fun _ => 0)) := by rw [hu33]; exact ht_at_ne h_q7 n_q7_o
  have h_q8 : ht_at u33 q8 (ht_al g 1024 (fun _ => 0)) := by rw [hu33]; exact ht_at_ne h_q8 n_q8_o
  have h_q9 : ht_at u33 q9 (ht_al g 8 (fun _ => 0)) := by rw [hu33]; exact ht_at_ne h_q9 n_q9_o
  have h_q10 : ht_at u33 q10 (ht_ab g 4096 (fun _ => 0)) := by rw [hu33]; exact ht_at_ne h_q10 n_q10_o
  have h_q11 : ht_at u33 q11 (ht_al g 8 (fun _ => 0)) := by rw [hu33]; exact ht_at_ne h_q11 n_q11_o
  have h_q12 : ht_at u33 q12 (ht_ab g 16384 (fun _ => 0)) := by rw [hu33]; exact ht_at_ne h_q12 n_q12_o
  have h_q13 : ht_at u33 q13 (ht_al g 131072 (fun _ => 0)) := by rw [hu33]; exact ht_at_ne h_q13 n_q13_o
  have h_q14 : ht_at u33 q14 (ht_al g 65536 (fun _ => 0)) := by rw [hu33]; exact ht_at_ne h_q14 n_q14_o
  have h_q15 : ht_at u33 q15 (ht_al g 8 (fun _ => 0)) := by rw [hu33]; exact ht_at_ne h_q15 n_q15_o
  have h_q16 : ht_at u33 q16 (ht_al g 4 (fun _ => 0)) := by rw [hu33]; exact ht_at_ne h_q16 n_q16_o
  have hfr : ht_fr (fun b => b = o) w u33 := by rw [hu33]; exact hfr.trans (ht_fr.up rfl)
  have hins : ∀ x ∈ [q16, q15, q14, q13, q12, q11, q10, q9, q8, q7, q6, q5, q4, q3, q2, q1, o], x ∈ u33.1 := by rw [hu33]; exact hins
  refine lv_aload_n hx hb d_M_init_142 rfl (lv_at hl 0 rfl) ?_
  refine lv_bipush (v := 64) hx hb d_M_init_143 (by decide) ?_
  refine ht_newl (N' := 64) hx hb (htb _ wd_36) HW (by decide) rfl (by decide) (Nat.le_of_ble_eq_true rfl) (Nat.le_of_ble_eq_true rfl) rfl d_M_init_145 (fun q17 H hq_q17 HW => ?_)
  have hq0_q17 : q17 ∉ w.1 := fun z9 => hq_q17 (hfr q17 z9 (fun e9 => hq_q17 (by rw [e9]; exact hO.1))).1
  have hnd : [q17, q16, q15, q14, q13, q12, q11, q10, q9, q8, q7, q6, q5, q4, q3, q2, q1, o].Nodup := List.nodup_cons.mpr ⟨fun z9 => hq_q17 (hins q17 z9), hnd⟩
  obtain ⟨u34, hu34⟩ : ∃ zW : ht_W, zW = ht_nw u33 q17 (ht_al g 64 (fun _ => 0)) := ⟨_, rfl⟩
  have HW := HW.to hu34.symm
  have n_o_q17 : o ≠ q17 := fun z9 => hq_q17 (by rw [← z9]; exact hO.1)
  have n_q1_q17 : q1 ≠ q17 := fun z9 => hq_q17 (by rw [← z9]; exact h_q1.1)
  have n_q2_q17 : q2 ≠ q17 := fun z9 => hq_q17 (by rw [← z9]; exact h_q2.1)
  have n_q3_q17 : q3 ≠ q17 := fun z9 => hq_q17 (by rw [← z9]; exact h_q3.1)
  have n_q4_q17 : q4 ≠ q17 := fun z9 => hq_q17 (by rw [← z9]; exact h_q4.1)
  have n_q5_q17 : q5 ≠ q17 := fun z9 => hq_q17 (by rw [← z9]; exact h_q5.1)
  have n_q6_q17 : q6 ≠ q17 := fun z9 => hq_q17 (by rw [← z9]; exact h_q6.1)
  have n_q7_q17 : q7 ≠ q17 := fun z9 => hq_q17 (by rw [← z9]; exact h_q7.1)
  have n_q8_q17 : q8 ≠ q17 := fun z9 => hq_q17 (by rw [← z9]; exact h_q8.1)
  have n_q9_q17 : q9 ≠ q17 := fun z9 => hq_q17 (by rw [← z9]; exact h_q9.1)
  have n_q10_q17 : q10 ≠ q17 := fun z9 => hq_q17 (by rw [← z9]; exact h_q10.1)
  have n_q11_q17 : q11 ≠ q17 := fun z9 => hq_q17 (by rw [← z9]; exact h_q11.1)
  have n_q12_q17 : q12 ≠ q17 := fun z9 => hq_q17 (by rw [← z9]; exact h_q12.1)
  have n_q13_q17 : q13 ≠ q17 := fun z9 => hq_q17 (by rw [← z9]; exact h_q13.1)
  have n_q14_q17 : q14 ≠ q17 := fun z9 => hq_q17 (by rw [← z9]; exact h_q14.1)
  have n_q15_q17 : q15 ≠ q17 := fun z9 => hq_q17 (by rw [← z9]; exact h_q15.1)
  have n_q16_q17 : q16 ≠ q17 := fun z9 => hq_q17 (by rw [← z9]; exact h_q16.1)
  have hO : ht_at u34 o (.inr (4, [.ref q1, .ref q2, .int 0, .ref q3, .ref q4, .ref q5, .ref q6, .int 0, .ref q7, .int 0, .ref q8, .int 0, .int (-1), .ref q9, .ref q10, .ref q11, .ref q12, .ref q13, .ref q14, .ref q15, .ref q16, .null]) : va_E) := by rw [hu34]; exact ht_at_old hO hq_q17
  have h_q1 : ht_at u34 q1 (ht_al g 2048 (fun _ => 0)) := by rw [hu34]; exact ht_at_old h_q1 hq_q17
  have h_q2 : ht_at u34 q2 (ht_al g 2048 (fun _ => 0)) := by rw [hu34]; exact ht_at_old h_q2 hq_q17
  have h_q3 : ht_at u34 q3 (ht_al g 4 (fun _ => 0)) := by rw [hu34]; exact ht_at_old h_q3 hq_q17
  have h_q4 : ht_at u34 q4 (ht_ai g 512 (fun _ => 0)) := by rw [hu34]; exact ht_at_old h_q4 hq_q17
  have h_q5 : ht_at u34 q5 (ht_ai g 512 (fun _ => 0)) := by rw [hu34]; exact ht_at_old h_q5 hq_q17
  have h_q6 : ht_at u34 q6 (ht_al g 2048 (fun _ => 0)) := by rw [hu34]; exact ht_at_old h_q6 hq_q17
  have h_q7 : ht_at u34 q7 (ht_al g 4 (fun _ => 0)) := by rw [hu34]; exact ht_at_old h_q7 hq_q17
  have h_q8 : ht_at u34 q8 (ht_al g 1024 (fun _ => 0)) := by rw [hu34]; exact ht_at_old h_q8 hq_q17
  have h_q9 : ht_at u34 q9 (ht_al g 8 (fun _ => 0)) := by rw [hu34]; exact ht_at_old h_q9 hq_q17
  have h_q10 : ht_at u34 q10 (ht_ab g 4096 (fun _ => 0)) := by rw [hu34]; exact ht_at_old h_q10 hq_q17
  have h_q11 : ht_at u34 q11 (ht_al g 8 (fun _ => 0)) := by rw [hu34]; exact ht_at_old h_q11 hq_q17
  have h_q12 : ht_at u34 q12 (ht_ab g 16384 (fun _ => 0)) := by rw [hu34]; exact ht_at_old h_q12 hq_q17
  have h_q13 : ht_at u34 q13 (ht_al g 131072 (fun _ => 0)) := by rw [hu34]; exact ht_at_old h_q13 hq_q17
  have h_q14 : ht_at u34 q14 (ht_al g 65536 (fun _ => 0)) := by rw [hu34]; exact ht_at_old h_q14 hq_q17
  have h_q15 : ht_at u34 q15 (ht_al g 8 (fun _ => 0)) := by rw [hu34]; exact ht_at_old h_q15 hq_q17
  have h_q16 : ht_at u34 q16 (ht_al g 4 (fun _ => 0)) := by rw [hu34]; exact ht_at_old h_q16 hq_q17
  have h_q17 : ht_at u34 q17 (ht_al g 64 (fun _ => 0)) := by rw [hu34]; exact ht_at_new
  have hfr : ht_fr (fun b => b = o) w u34 := by rw [hu34]; exact hfr.trans (ht_fr.nw hq_q17)
  have hins : ∀ x ∈ [q17, q16, q15, q14, q13, q12, q11, q10, q9, q8, q7, q6, q5, q4, q3, q2, q1, o], x ∈ u34.1 := by
    rw [hu34]
    intro x hx9
    rcases List.mem_cons.mp hx9 with e9 | e9
    · rw [e9]; exact List.mem_append_right _ (List.mem_singleton.mpr rfl)
    · exact List.mem_append_left _ (hins x e9)
  refine ht_putF (C := R_M) (T := F_M) (N := 22) (v := .ref q17) (ty := .array .long) hx hb htb i_M t_M t_M_ok n_M hown HW hO rfl 21 (by decide) (htb _ wd_332) (fun _ h9 => h9) rfl hin rfl (by decide +kernel) rfl rfl (Nat.le_of_ble_eq_true rfl) d_M_init_147 (fun H locs HW => ?_)
  have n_q17_o : q17 ≠ o := (Ne.symm n_o_q17)
  obtain ⟨u35, hu35⟩ : ∃ zW : ht_W, zW = ht_up u34 o (.inr (4, [.ref q1, .ref q2, .int 0, .ref q3, .ref q4, .ref q5, .ref q6, .int 0, .ref q7, .int 0, .ref q8, .int 0, .int (-1), .ref q9, .ref q10, .ref q11, .ref q12, .ref q13, .ref q14, .ref q15, .ref q16, .ref q17]) : va_E) := ⟨_, rfl⟩
  have HW : ht_I g s u35 H locs := by rw [hu35]; exact HW
  have hO : ht_at u35 o (.inr (4, [.ref q1, .ref q2, .int 0, .ref q3, .ref q4, .ref q5, .ref q6, .int 0, .ref q7, .int 0, .ref q8, .int 0, .int (-1), .ref q9, .ref q10, .ref q11, .ref q12, .ref q13, .ref q14, .ref q15, .ref q16, .ref q17]) : va_E) := by rw [hu35]; exact ht_at_self hO
  have h_q1 : ht_at u35 q1 (ht_al g 2048 (fun _ => 0)) := by rw [hu35]; exact ht_at_ne h_q1 n_q1_o
  have h_q2 : ht_at u35 q2 (ht_al g 2048 (fun _ => 0)) := by rw [hu35]; exact ht_at_ne h_q2 n_q2_o
  have h_q3 : ht_at u35 q3 (ht_al g 4 (fun _ => 0)) := by rw [hu35]; exact ht_at_ne h_q3 n_q3_o
  have h_q4 : ht_at u35 q4 (ht_ai g 512 (fun _ => 0)) := by rw [hu35]; exact ht_at_ne h_q4 n_q4_o
  have h_q5 : ht_at u35 q5 (ht_ai g 512 (fun _ => 0)) := by rw [hu35]; exact ht_at_ne h_q5 n_q5_o
  have h_q6 : ht_at u35 q6 (ht_al g 2048 (fun _ => 0)) := by rw [hu35]; exact ht_at_ne h_q6 n_q6_o
  have h_q7 : ht_at u35 q7 (ht_al g 4 (fun _ => 0)) := by rw [hu35]; exact ht_at_ne h_q7 n_q7_o
  have h_q8 : ht_at u35 q8 (ht_al g 1024 (fun _ => 0)) := by rw [hu35]; exact ht_at_ne h_q8 n_q8_o
  have h_q9 : ht_at u35 q9 (ht_al g 8 (fun _ => 0)) := by rw [hu35]; exact ht_at_ne h_q9 n_q9_o
  have h_q10 : ht_at u35 q10 (ht_ab g 4096 (fun _ => 0)) := by rw [hu35]; exact ht_at_ne h_q10 n_q10_o
  have h_q11 : ht_at u35 q11 (ht_al g 8 (fun _ => 0)) := by rw [hu35]; exact ht_at_ne h_q11 n_q11_o
  have h_q12 : ht_at u35 q12 (ht_ab g 16384 (fun _ => 0)) := by rw [hu35]; exact ht_at_ne h_q12 n_q12_o
  have h_q13 : ht_at u35 q13 (ht_al g 131072 (fun _ => 0)) := by rw [hu35]; exact ht_at_ne h_q13 n_q13_o
  have h_q14 : ht_at u35 q14 (ht_al g 65536 (fun _ => 0)) := by rw [hu35]; exact ht_at_ne h_q14 n_q14_o
  have h_q15 : ht_at u35 q15 (ht_al g 8 (fun _ => 0)) := by rw [hu35]; exact ht_at_ne h_q15 n_q15_o
  have h_q16 : ht_at u35 q16 (ht_al g 4 (fun _ => 0)) := by rw [hu35]; exact ht_at_ne h_q16 n_q16_o
  have h_q17 : ht_at u35 q17 (ht_al g 64 (fun _ => 0)) := by rw [hu35]; exact ht_at_ne h_q17 n_q17_o
  have hfr : ht_fr (fun b => b = o) w u35 := by rw [hu35]; exact hfr.trans (ht_fr.up rfl)
  have hins : ∀ x ∈ [q17, q16, q15, q14, q13, q12, q11, q10, q9, q8, q7, q6, q5, q4, q3, q2, q1, o], x ∈ u35.1 := by rw [hu35]; exact hins
  have hMo : ht_Mo g u35 (ht_M18 o q1 q2 q3 q4 q5 q6 q7 q8 q9 q10 q11 q12 q13 q14 q15 q16 q17) (va_up (fun _ => 0) 4 (-1)) (fun _ _ => 0) (fun _ _ => 0) := by
    refine ⟨hO, fun i hi hl9 => ?_, h_q4, h_q5, h_q10, h_q12, ht_M18i hnd⟩
    rcases (show i = 0 ∨ i = 1 ∨ i = 2 ∨ i = 3 ∨ i = 4 ∨ i = 5 ∨ i = 6 ∨ i = 7 ∨ i = 8 ∨ i = 9 ∨ i = 10 ∨ i = 11 ∨ i = 12 ∨ i = 13 ∨ i = 14 ∨ i = 15 ∨ i = 16 ∨ i = 17 by omega) with rfl | rfl | rfl | rfl | rfl | rfl | rfl | rfl | rfl | rfl | rfl | rfl | rfl | rfl | rfl | rfl | rfl | rfl
    · exact absurd hl9 (by decide)
    · exact h_q1
    · exact h_q2
    · exact h_q3
    · exact absurd hl9 (by decide)
    · exact absurd hl9 (by decide)
    · exact h_q6
    · exact h_q7
    · exact h_q8
    · exact h_q9
    · exact absurd hl9 (by decide)
    · exact h_q11
    · exact absurd hl9 (by decide)
    · exact h_q13
    · exact h_q14
    · exact h_q15
    · exact h_q16
    · exact h_q17
  exact ht_vret hx hb hr hlocks HW ⟨ht_M18 o q1 q2 q3 q4 q5 q6 q7 q8 q9 q10 q11 q12 q13 q14 q15 q16 q17, rfl, fun i h1 h9 => by rcases (show i = 1 ∨ i = 2 ∨ i = 3 ∨ i = 4 ∨ i = 5 ∨ i = 6 ∨ i = 7 ∨ i = 8 ∨ i = 9 ∨ i = 10 ∨ i = 11 ∨ i = 12 ∨ i = 13 ∨ i = 14 ∨ i = 15 ∨ i = 16 ∨ i = 17 by omega) with rfl | rfl | rfl | rfl | rfl | rfl | rfl | rfl | rfl | rfl | rfl | rfl | rfl | rfl | rfl | rfl | rfl; exact hq0_q1; exact hq0_q2; exact hq0_q3; exact hq0_q4; exact hq0_q5; exact hq0_q6; exact hq0_q7; exact hq0_q8; exact hq0_q9; exact hq0_q10; exact hq0_q11; exact hq0_q12; exact hq0_q13; exact hq0_q14; exact hq0_q15; exact hq0_q16; exact hq0_q17, hMo, hfr⟩ d_M_init_150
