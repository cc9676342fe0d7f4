theorem ht_nw_up {w : ht_W} {o q : Nat} {x e : va_E} (h : o ≠ q) : ht_nw (ht_up w o x) q e = ht_up (ht_nw w q e) o x := by
  simp only [ht_nw, ht_up, Prod.mk.injEq, true_and]
  funext j
  unfold va_up
  by_cases h1 : j = q
  · subst h1
    rw [if_pos rfl, if_neg (fun z => h z.symm), if_pos rfl]
  · rw [if_neg h1]
    by_cases h2 : j = o
    · rw [if_pos h2, if_pos h2]
    · rw [if_neg h2, if_neg h2, if_neg h1]
theorem ht_notin {w : ht_W} {q q' : Nat} {e : va_E} (h : q' ∉ (ht_nw w q e).1) : q' ∉ w.1 ∧ q ≠ q' := by
  constructor
  · exact fun z => h (List.mem_append_left _ z)
  · exact fun z => h (by rw [← z]; exact List.mem_append_right _ (List.mem_singleton.mpr rfl))
set_option maxHeartbeats 4000000 in
set_option maxRecDepth 100000 in
theorem c_N_init_L (l : Launch) (g : ht_G) (w : ht_W) {o ka : Nat} {lv : Int32} (hO : ht_at w o (.inr (2, [.null, .int 0, .null, .int 0, .null]))) : Met l y_N_init ws_N_init ({ frames := 1, cells := 1, slots := 4, locals := 20 } : Room) (va_Pc [.ref o, .ref ka, .int lv] (ht_WS g w)) (ht_Qv g (fun u => ∃ qh, qh ∉ w.1 ∧ u = ht_up (ht_nw w qh (ht_al g 4 (fun _ => 0))) o (.inr (2, [.ref ka, .int lv, .ref qh, .int 0, .null])))) 1 4 (ht_A g) := by
  refine Met.ofW (cc := b_N_init) (maxL := 3) (ret := none) (by decide) rfl ?_
  intro p e s m args below meth c s₁ BB hml hv
  obtain ⟨rfl, HW⟩ := hv
  have HW := ht_I.start HW
  have hx := BB.exec
  have hb := BB.bytes
  have hr := BB.returns
  have hts := atoms_spec (ws := ws_N_init) BB.pre
  have htb : ∀ w ∈ bg, w.before _ s = true := fun w h => hts w (List.mem_cons_of_mem _ h)
  have hown : s.vm.findClass R_N = some m.cls := findClass_of_methodNamed BB.named
  have hlocks := BB.notSynchronized
  have hin : meth.name = "<init>" := (name_of_methodNamed BB.named BB.method).1
  have hl := lv_entry ([.ref o, .ref ka, .int lv]) (n := 3) (Nat.le_of_ble_eq_true rfl)
  rw [lg_entry_eq]
  generalize (lg_sl ([.ref o, .ref ka, .int lv]) ++ List.replicate (3 - (lg_sl ([.ref o, .ref ka, .int lv])).length) Slot.unset).toArray = ls at hl ⊢
  have hl : lv_has ls 3 [(0, .ref o), (1, .ref ka), (2, .int lv)] := hl
  refine lv_aload_n hx hb d_N_init_0 rfl (lv_at hl 0 rfl) ?_
  refine W.objInit hx hb hown (htb _ wd_124) (htb _ wd_18) (htb _ wc_objectInit) rfl (by rw [hml]; exact hl.1) rfl d_N_init_1 (Nat.le_of_ble_eq_true rfl) (Nat.le_of_ble_eq_true rfl) ?_
  refine W.eq (g2 := F0 m 4 ls []) rfl ?_
  refine lv_aload_n hx hb d_N_init_4 rfl (lv_at hl 0 rfl) ?_
  refine lv_iconst (v := 4) hx hb d_N_init_5 (by decide) ?_
  refine ht_newl (N' := 4) hx hb (htb _ wd_36) HW (by decide) rfl (by decide) (Nat.le_of_ble_eq_true rfl) (Nat.le_of_ble_eq_true rfl) rfl d_N_init_6 (fun qh H hq_qh HW => ?_)
  obtain ⟨u1, hu1⟩ : ∃ zW : ht_W, zW = ht_nw w qh (ht_al g 4 (fun _ => 0)) := ⟨_, rfl⟩
  have HW := HW.to hu1.symm
  have n_o_qh : o ≠ qh := fun z9 => hq_qh (by rw [← z9]; exact hO.1)
  have hO : ht_at u1 o (.inr (2, [.null, .int 0, .null, .int 0, .null]) : va_E) := by rw [hu1]; exact ht_at_old hO hq_qh
  have h_qh : ht_at u1 qh (ht_al g 4 (fun _ => 0)) := by rw [hu1]; exact ht_at_new
  refine ht_putF (C := R_L) (T := F_L) (N := 5) (v := .ref qh) (ty := .array .long) hx hb htb i_L t_L t_L_ok n_L hown HW hO rfl 2 (by decide) (htb _ wd_136) (fun _ h9 => h9) rfl hin rfl (by decide +kernel) rfl rfl (Nat.le_of_ble_eq_true rfl) d_N_init_8 (fun H locs HW => ?_)
  have n_qh_o : qh ≠ o := (Ne.symm n_o_qh)
  obtain ⟨u2, hu2⟩ : ∃ zW : ht_W, zW = ht_up u1 o (.inr (2, [.null, .int 0, .ref qh, .int 0, .null]) : va_E) := ⟨_, rfl⟩
  have HW : ht_I g s u2 H locs := by rw [hu2]; exact HW
  have hO : ht_at u2 o (.inr (2, [.null, .int 0, .ref qh, .int 0, .null]) : va_E) := by rw [hu2]; exact ht_at_self hO
  have h_qh : ht_at u2 qh (ht_al g 4 (fun _ => 0)) := by rw [hu2]; exact ht_at_ne h_qh n_qh_o
  refine lv_aload_n hx hb d_N_init_11 rfl (lv_at hl 0 rfl) ?_
  refine lv_iconst (v := 0) hx hb d_N_init_12 (by decide) ?_
  refine ht_put (C := R_L) (T := F_L) (N := 5) (v := .int 0) (ty := .boolean) hx hb htb i_L t_L t_L_ok n_L hown HW hO rfl 3 (by decide) (htb _ wd_138) (fun _ h9 => h9) rfl (by decide +kernel) rfl rfl (Nat.le_of_ble_eq_true rfl) d_N_init_13 (fun H locs HW => ?_)
  obtain ⟨u3, hu3⟩ : ∃ zW : ht_W, zW = ht_up u2 o (.inr (2, [.null, .int 0, .ref qh, .int 0, .null]) : va_E) := ⟨_, rfl⟩
  have HW : ht_I g s u3 H locs := by rw [hu3]; exact HW
  have hO : ht_at u3 o (.inr (2, [.null, .int 0, .ref qh, .int 0, .null]) : va_E) := by rw [hu3]; exact ht_at_self hO
  have h_qh : ht_at u3 qh (ht_al g 4 (fun _ => 0)) := by rw [hu3]; exact ht_at_ne h_qh n_qh_o
  refine lv_aload_n hx hb d_N_init_16 rfl (lv_at hl 0 rfl) ?_
  refine lv_aload_n hx hb d_N_init_17 rfl (lv_at hl 1 rfl) ?_
  refine ht_putF (C := R_L) (T := F_L) (N := 5) (v := .ref ka) (ty := .array .long) hx hb htb i_L t_L t_L_ok n_L hown HW hO rfl 0 (by decide) (htb _ wd_127) (fun _ h9 => h9) rfl hin rfl (by decide +kernel) rfl rfl (Nat.le_of_ble_eq_true rfl) d_N_init_18 (fun H locs HW => ?_)
  obtain ⟨u4, hu4⟩ : ∃ zW : ht_W, zW = ht_up u3 o (.inr (2, [.ref ka, .int 0, .ref qh, .int 0, .null]) : va_E) := ⟨_, rfl⟩
  have HW : ht_I g s u4 H locs := by rw [hu4]; exact HW
  have hO : ht_at u4 o (.inr (2, [.ref ka, .int 0, .ref qh, .int 0, .null]) : va_E) := by rw [hu4]; exact ht_at_self hO
  have h_qh : ht_at u4 qh (ht_al g 4 (fun _ => 0)) := by rw [hu4]; exact ht_at_ne h_qh n_qh_o
  refine lv_aload_n hx hb d_N_init_21 rfl (lv_at hl 0 rfl) ?_
  refine lv_iload_n hx hb d_N_init_22 rfl (lv_at hl 2 rfl) ?_
  refine ht_putF (C := R_L) (T := F_L) (N := 5) (v := .int lv) (ty := .int) hx hb htb i_L t_L t_L_ok n_L hown HW hO rfl 1 (by decide) (htb _ wd_132) (fun _ h9 => h9) rfl hin rfl (by decide +kernel) rfl rfl (Nat.le_of_ble_eq_true rfl) d_N_init_23 (fun H locs HW => ?_)
  obtain ⟨u5, hu5⟩ : ∃ zW : ht_W, zW = ht_up u4 o (.inr (2, [.ref ka, .int lv, .ref qh, .int 0, .null]) : va_E) := ⟨_, rfl⟩
  have HW : ht_I g s u5 H locs := by rw [hu5]; exact HW
  have hO : ht_at u5 o (.inr (2, [.ref ka, .int lv, .ref qh, .int 0, .null]) : va_E) := by rw [hu5]; exact ht_at_self hO
  have h_qh : ht_at u5 qh (ht_al g 4 (fun _ => 0)) := by rw [hu5]; exact ht_at_ne h_qh n_qh_o
  exact ht_vret hx hb hr hlocks HW ⟨qh, hq_qh, by rw [hu5, hu4, hu3, hu2, hu1]; simp only [ht_up_up]⟩ d_N_init_26
set_option maxHeartbeats 4000000 in
set_option maxRecDepth 100000 in
theorem c_N_init_B (l : Launch) (g : ht_G) (w : ht_W) {o ka : Nat} {lv : Int32} (hO : ht_at w o (.inr (3, [.null, .int 0, .null, .int 0, .null, .null]))) : Met l y_N_init ws_N_init ({ frames := 1, cells := 1, slots := 4, locals := 20 } : Room) (va_Pc [.ref o, .ref ka, .int lv] (ht_WS g w)) (ht_Qv g (fun u => ∃ qh, qh ∉ w.1 ∧ u = ht_up (ht_nw w qh (ht_al g 4 (fun _ => 0))) o (.inr (3, [.ref ka, .int lv, .ref qh, .int 0, .null, .null])))) 1 4 (ht_A g) := by
  refine Met.ofW (cc := b_N_init) (maxL := 3) (ret := none) (by decide) rfl ?_
  intro p e s m args below meth c s₁ BB hml hv
  obtain ⟨rfl, HW⟩ := hv
  have HW := ht_I.start HW
  have hx := BB.exec
  have hb := BB.bytes
  have hr := BB.returns
  have hts := atoms_spec (ws := ws_N_init) BB.pre
  have htb : ∀ w ∈ bg, w.before _ s = true := fun w h => hts w (List.mem_cons_of_mem _ h)
  have hown : s.vm.findClass R_N = some m.cls := findClass_of_methodNamed BB.named
  have hlocks := BB.notSynchronized
  have hin : meth.name = "<init>" := (name_of_methodNamed BB.named BB.method).1
  have hl := lv_entry ([.ref o, .ref ka, .int lv]) (n := 3) (Nat.le_of_ble_eq_true rfl)
  rw [lg_entry_eq]
  generalize (lg_sl ([.ref o, .ref ka, .int lv]) ++ List.replicate (3 - (lg_sl ([.ref o, .ref ka, .int lv])).length) Slot.unset).toArray = ls at hl ⊢
  have hl : lv_has ls 3 [(0, .ref o), (1, .ref ka), (2, .int lv)] := hl
  refine lv_aload_n hx hb d_N_init_0 rfl (lv_at hl 0 rfl) ?_
  refine W.objInit hx hb hown (htb _ wd_124) (htb _ wd_18) (htb _ wc_objectInit) rfl (by rw [hml]; exact hl.1) rfl d_N_init_1 (Nat.le_of_ble_eq_true rfl) (Nat.le_of_ble_eq_true rfl) ?_
  refine W.eq (g2 := F0 m 4 ls []) rfl ?_
  refine lv_aload_n hx hb d_N_init_4 rfl (lv_at hl 0 rfl) ?_
  refine lv_iconst (v := 4) hx hb d_N_init_5 (by decide) ?_
  refine ht_newl (N' := 4) hx hb (htb _ wd_36) HW (by decide) rfl (by decide) (Nat.le_of_ble_eq_true rfl) (Nat.le_of_ble_eq_true rfl) rfl d_N_init_6 (fun qh H hq_qh HW => ?_)
  obtain ⟨u1, hu1⟩ : ∃ zW : ht_W, zW = ht_nw w qh (ht_al g 4 (fun _ => 0)) := ⟨_, rfl⟩
  have HW := HW.to hu1.symm
  have n_o_qh : o ≠ qh := fun z9 => hq_qh (by rw [← z9]; exact hO.1)
  have hO : ht_at u1 o (.inr (3, [.null, .int 0, .null, .int 0, .null, .null]) : va_E) := by rw [hu1]; exact ht_at_old hO hq_qh
  have h_qh : ht_at u1 qh (ht_al g 4 (fun _ => 0)) := by rw [hu1]; exact ht_at_new
  refine ht_putF (C := R_B) (T := F_B) (N := 6) (v := .ref qh) (ty := .array .long) hx hb htb i_B t_B t_B_ok n_B hown HW hO rfl 2 (by decide) (htb _ wd_136) (fun _ h9 => h9) rfl hin rfl (by decide +kernel) rfl rfl (Nat.le_of_ble_eq_true rfl) d_N_init_8 (fun H locs HW => ?_)
  have n_qh_o : qh ≠ o := (Ne.symm n_o_qh)
  obtain ⟨u2, hu2⟩ : ∃ zW : ht_W, zW = ht_up u1 o (.inr (3, [.null, .int 0, .ref qh, .int 0, .null, .null]) : va_E) := ⟨_, rfl⟩
  have HW : ht_I g s u2 H locs := by rw [hu2]; exact HW
  have hO : ht_at u2 o (.inr (3, [.null, .int 0, .ref qh, .int 0, .null, .null]) : va_E) := by rw [hu2]; exact ht_at_self hO
  have h_qh : ht_at u2 qh (ht_al g 4 (fun _ => 0)) := by rw [hu2]; exact ht_at_ne h_qh n_qh_o
  refine lv_aload_n hx hb d_N_init_11 rfl (lv_at hl 0 rfl) ?_
  refine lv_iconst (v := 0) hx hb d_N_init_12 (by decide) ?_
  refine ht_put (C := R_B) (T := F_B) (N := 6) (v := .int 0) (ty := .boolean) hx hb htb i_B t_B t_B_ok n_B hown HW hO rfl 3 (by decide) (htb _ wd_138) (fun _ h9 => h9) rfl (by decide +kernel) rfl rfl (Nat.le_of_ble_eq_true rfl) d_N_init_13 (fun H locs HW => ?_)
  obtain ⟨u3, hu3⟩ : ∃ zW : ht_W, zW = ht_up u2 o (.inr (3, [.null, .int 0, .ref qh, .int 0, .null, .null]) : va_E) := ⟨_, rfl⟩
  have HW : ht_I g s u3 H locs := by rw [hu3]; exact HW
  have hO : ht_at u3 o (.inr (3, [.null, .int 0, .ref qh, .int 0, .null, .null]) : va_E) := by rw [hu3]; exact ht_at_self hO
  have h_qh : ht_at u3 qh (ht_al g 4 (fun _ => 0)) := by rw [hu3]; exact ht_at_ne h_qh n_qh_o
  refine lv_aload_n hx hb d_N_init_16 rfl (lv_at hl 0 rfl) ?_
  refine lv_aload_n hx hb d_N_init_17 rfl (lv_at hl 1 rfl) ?_
  refine ht_putF (C := R_B) (T := F_B) (N := 6) (v := .ref ka) (ty := .array .long) hx hb htb i_B t_B t_B_ok n_B hown HW hO rfl 0 (by decide) (htb _ wd_127) (fun _ h9 => h9) rfl hin rfl (by decide +kernel) rfl rfl (Nat.le_of_ble_eq_true rfl) d_N_init_18 (fun H locs HW => ?_)
  obtain ⟨u4, hu4⟩ : ∃ zW : ht_W, zW = ht_up u3 o (.inr (3, [.ref ka, .int 0, .ref qh, .int 0, .null, .null]) : va_E) := ⟨_, rfl⟩
  have HW : ht_I g s u4 H locs := by rw [hu4]; exact HW
  have hO : ht_at u4 o (.inr (3, [.ref ka, .int 0, .ref qh, .int 0, .null, .null]) : va_E) := by rw [hu4]; exact ht_at_self hO
  have h_qh : ht_at u4 qh (ht_al g 4 (fun _ => 0)) := by rw [hu4]; exact ht_at_ne h_qh n_qh_o
  refine lv_aload_n hx hb d_N_init_21 rfl (lv_at hl 0 rfl) ?_
  refine lv_iload_n hx hb d_N_init_22 rfl (lv_at hl 2 rfl) ?_
  refine ht_putF (C := R_B) (T := F_B) (N := 6) (v := .int lv) (ty := .int) hx hb htb i_B t_B t_B_ok n_B hown HW hO rfl 1 (by decide) (htb _ wd_132) (fun _ h9 => h9) rfl hin rfl (by decide +kernel) rfl rfl (Nat.le_of_ble_eq_true rfl) d_N_init_23 (fun H locs HW => ?_)
  obtain ⟨u5, hu5⟩ : ∃ zW : ht_W, zW = ht_up u4 o (.inr (3, [.ref ka, .int lv, .ref qh, .int 0, .null, .null]) : va_E) := ⟨_, rfl⟩
  have HW : ht_I g s u5 H locs := by rw [hu5]; exact HW
  have hO : ht_at u5 o (.inr (3, [.ref ka, .int lv, .ref qh, .int 0, .null, .null]) : va_E) := by rw [hu5]; exact ht_at_self hO
  have h_qh : ht_at u5 qh (ht_al g 4 (fun _ => 0)) := by rw [hu5]; exact ht_at_ne h_qh n_qh_o
  exact ht_vret hx hb hr hlocks HW ⟨qh, hq_qh, by rw [hu5, hu4, hu3, hu2, hu1]; simp only [ht_up_up]⟩ d_N_init_26
set_option maxHeartbeats 4000000 in
set_option maxRecDepth 100000 in
theorem c_L_init (l : Launch) (g : ht_G) (w : ht_W) {o ka : Nat} (hO : ht_at w o (.inr (2, [.null, .int 0, .null, .int 0, .null]))) : Met l y_L_init ws_L_init ({ frames := 2, cells := 2, slots := 8, locals := 50 } : Room) (va_Pc [.ref o, .ref ka] (ht_WS g w)) (ht_Qv g (fun u => ∃ qh qv, qh ∉ w.1 ∧ qv ∉ w.1 ∧ qh ≠ qv ∧ u = ht_up (ht_nw (ht_nw w qh (ht_al g 4 (fun _ => 0))) qv (ht_al g 4 (fun _ => 0))) o (.inr (2, [.ref ka, .int 256, .ref qh, .int 0, .ref qv])))) 2 8 (ht_A g) := by
  refine Met.ofW (cc := b_L_init) (maxL := 2) (ret := none) (by decide) rfl ?_
  intro p e s m args below meth c s₁ BB hml hv
  obtain ⟨rfl, HW⟩ := hv
  have HW := ht_I.start HW
  have hx := BB.exec
  have hb := BB.bytes
  have hr := BB.returns
  have hts := atoms_spec (ws := ws_L_init) BB.pre
  have htb : ∀ w ∈ bg, w.before _ s = true := fun w h => hts w (List.mem_cons_of_mem _ h)
  have hown : s.vm.findClass R_L = some m.cls := findClass_of_methodNamed BB.named
  have hlocks := BB.notSynchronized
  have hin : meth.name = "<init>" := (name_of_methodNamed BB.named BB.method).1
  have hl := lv_entry ([.ref o, .ref ka]) (n := 2) (Nat.le_of_ble_eq_true rfl)
  rw [lg_entry_eq]
  generalize (lg_sl ([.ref o, .ref ka]) ++ List.replicate (2 - (lg_sl ([.ref o, .ref ka])).length) Slot.unset).toArray = ls at hl ⊢
  have hl : lv_has ls 2 [(0, .ref o), (1, .ref ka)] := hl
  refine lv_aload_n hx hb d_L_init_0 rfl (lv_at hl 0 rfl) ?_
  refine lv_aload_n hx hb d_L_init_1 rfl (lv_at hl 1 rfl) ?_
  refine lv_sipush (v := 256) hx hb d_L_init_2 (by decide) ?_
  refine ht_cv HW (va_runI (own := R_L) (As := [.ref ka, .int 256]) (rest := []) ⟨hx, hb, hml, hown, htb⟩ (c_N_init_L l g w hO) (cwI 2 htb g_N_init rfl rfl rfl (htb _ wd_6) (htb _ wd_121) (htb _ wd_122) rfl (by decide +kernel) ⟨Nat.le_of_ble_eq_true rfl, Nat.le_of_ble_eq_true rfl⟩) (HW.preS _) rfl rfl hl.1 rfl (lv_room (Nat.le_of_ble_eq_true rfl)) d_L_init_5 ⟨Nat.le_of_ble_eq_true rfl, Nat.le_of_ble_eq_true rfl⟩) (fun u1 H locs pn HW => ?_)
  obtain ⟨qh, hq_qh, eu1⟩ := pn
  have n_o_qh : o ≠ qh := fun z9 => hq_qh (by rw [← z9]; exact hO.1)
  have hO : ht_at u1 o (.inr (2, [.ref ka, .int 256, .ref qh, .int 0, .null]) : va_E) := by rw [eu1]; exact ht_at_self (ht_at_old hO hq_qh)
  have h_qh : ht_at u1 qh (ht_al g 4 (fun _ => 0)) := by rw [eu1]; exact ht_at_ne ht_at_new n_o_qh.symm
  refine lv_aload_n hx hb d_L_init_8 rfl (lv_at hl 0 rfl) ?_
  refine lv_iconst (v := 4) hx hb d_L_init_9 (by decide) ?_
  refine ht_newl (N' := 4) hx hb (htb _ wd_36) HW (by decide) rfl (by decide) (Nat.le_of_ble_eq_true rfl) (Nat.le_of_ble_eq_true rfl) rfl d_L_init_10 (fun qv H hq_qv HW => ?_)
  obtain ⟨u2, hu2⟩ : ∃ zW : ht_W, zW = ht_nw u1 qv (ht_al g 4 (fun _ => 0)) := ⟨_, rfl⟩
  have HW := HW.to hu2.symm
  have n_o_qv : o ≠ qv := fun z9 => hq_qv (by rw [← z9]; exact hO.1)
  have n_qh_qv : qh ≠ qv := fun z9 => hq_qv (by rw [← z9]; exact h_qh.1)
  have hO : ht_at u2 o (.inr (2, [.ref ka, .int 256, .ref qh, .int 0, .null]) : va_E) := by rw [hu2]; exact ht_at_old hO hq_qv
  have h_qh : ht_at u2 qh (ht_al g 4 (fun _ => 0)) := by rw [hu2]; exact ht_at_old h_qh hq_qv
  have h_qv : ht_at u2 qv (ht_al g 4 (fun _ => 0)) := by rw [hu2]; exact ht_at_new
  refine ht_putF (C := R_L) (T := F_L) (N := 5) (v := .ref qv) (ty := .array .long) hx hb htb i_L t_L t_L_ok n_L hown HW hO rfl 4 (by decide) (htb _ wd_125) (fun _ h9 => h9) rfl hin rfl (by decide +kernel) rfl rfl (Nat.le_of_ble_eq_true rfl) d_L_init_12 (fun H locs HW => ?_)
  have n_qh_o : qh ≠ o := (Ne.symm n_o_qh)
  have n_qv_o : qv ≠ o := (Ne.symm n_o_qv)
  obtain ⟨u3, hu3⟩ : ∃ zW : ht_W, zW = ht_up u2 o (.inr (2, [.ref ka, .int 256, .ref qh, .int 0, .ref qv]) : va_E) := ⟨_, rfl⟩
  have HW : ht_I g s u3 H locs := by rw [hu3]; exact HW
  have hO : ht_at u3 o (.inr (2, [.ref ka, .int 256, .ref qh, .int 0, .ref qv]) : va_E) := by rw [hu3]; exact ht_at_self hO
  have h_qh : ht_at u3 qh (ht_al g 4 (fun _ => 0)) := by rw [hu3]; exact ht_at_ne h_qh n_qh_o
  have h_qv : ht_at u3 qv (ht_al g 4 (fun _ => 0)) := by rw [hu3]; exact ht_at_ne h_qv n_qv_o
  have hqv2 := hq_qv
  rw [eu1] at hqv2
  have hqv3 := ht_notin (w := w) (q := qh) (e := ht_al g 4 (fun _ => 0)) hqv2
  exact ht_vret hx hb hr hlocks HW ⟨qh, qv, hq_qh, hqv3.1, hqv3.2, by rw [hu3, hu2, eu1, ht_nw_up n_o_qv, ht_up_up]⟩ d_L_init_15
set_option maxHeartbeats 4000000 in
set_option maxRecDepth 100000 in
theorem c_B_init (l : Launch) (g : ht_G) (w : ht_W) {o ka z on : Nat} {lv : Int32} (hO : ht_at w o (.inr (3, [.null, .int 0, .null, .int 0, .null, .null]))) : Met l y_B_init ws_B_init ({ frames := 2, cells := 1, slots := 4, locals := 50 } : Room) (va_Pc [.ref o, .ref ka, .int lv, .ref z, .ref on] (ht_WS g w)) (ht_Qv g (fun u => ∃ qh, qh ∉ w.1 ∧ u = ht_up (ht_nw w qh (ht_al g 4 (fun _ => 0))) o (.inr (3, [.ref ka, .int lv, .ref qh, .int 0, .ref z, .ref on])))) 1 4 (ht_A g) := by
  refine Met.ofW (cc := b_B_init) (maxL := 5) (ret := none) (by decide) rfl ?_
  intro p e s m args below meth c s₁ BB hml hv
  obtain ⟨rfl, HW⟩ := hv
  have HW := ht_I.start HW
  have hx := BB.exec
  have hb := BB.bytes
  have hr := BB.returns
  have hts := atoms_spec (ws := ws_B_init) BB.pre
  have htb : ∀ w ∈ bg, w.before _ s = true := fun w h => hts w (List.mem_cons_of_mem _ h)
  have hown : s.vm.findClass R_B = some m.cls := findClass_of_methodNamed BB.named
  have hlocks := BB.notSynchronized
  have hin : meth.name = "<init>" := (name_of_methodNamed BB.named BB.method).1
  have hl := lv_entry ([.ref o, .ref ka, .int lv, .ref z, .ref on]) (n := 5) (Nat.le_of_ble_eq_true rfl)
  rw [lg_entry_eq]
  generalize (lg_sl ([.ref o, .ref ka, .int lv, .ref z, .ref on]) ++ List.replicate (5 - (lg_sl ([.ref o, .ref ka, .int lv, .ref z, .ref on])).length) Slot.unset).toArray = ls at hl ⊢
  have hl : lv_has ls 5 [(0, .ref o), (1, .ref ka), (2, .int lv), (3, .ref z), (4, .ref on)] := hl
  refine lv_aload_n hx hb d_B_init_0 rfl (lv_at hl 0 rfl) ?_
  refine lv_aload_n hx hb d_B_init_1 rfl (lv_at hl 1 rfl) ?_
  refine lv_iload_n hx hb d_B_init_2 rfl (lv_at hl 2 rfl) ?_
  refine ht_cv HW (va_runI (own := R_B) (As := [.ref ka, .int lv]) (rest := []) ⟨hx, hb, hml, hown, htb⟩ (c_N_init_B l g w hO) (cwI 2 htb g_N_init rfl rfl rfl (htb _ wd_6) (htb _ wd_164) (htb _ wd_122) rfl (by decide +kernel) ⟨Nat.le_of_ble_eq_true rfl, Nat.le_of_ble_eq_true rfl⟩) (HW.preS _) rfl rfl hl.1 rfl (lv_room (Nat.le_of_ble_eq_true rfl)) d_B_init_3 ⟨Nat.le_of_ble_eq_true rfl, Nat.le_of_ble_eq_true rfl⟩) (fun u1 H locs pn HW => ?_)
  obtain ⟨qh, hq_qh, eu1⟩ := pn
  have n_o_qh : o ≠ qh := fun z9 => hq_qh (by rw [← z9]; exact hO.1)
  have hO : ht_at u1 o (.inr (3, [.ref ka, .int lv, .ref qh, .int 0, .null, .null]) : va_E) := by rw [eu1]; exact ht_at_self (ht_at_old hO hq_qh)
  have h_qh : ht_at u1 qh (ht_al g 4 (fun _ => 0)) := by rw [eu1]; exact ht_at_ne ht_at_new n_o_qh.symm
  refine lv_aload_n hx hb d_B_init_6 rfl (lv_at hl 0 rfl) ?_
  refine lv_aload_n hx hb d_B_init_7 rfl (lv_at hl 3 rfl) ?_
  refine ht_put (C := R_B) (T := F_B) (N := 6) (v := .ref z) (ty := .object "HashTree$Node") hx hb htb i_B t_B t_B_ok n_B hown HW hO rfl 4 (by decide) (htb _ wd_165) (fun _ h9 => h9) rfl (by decide +kernel) rfl rfl (Nat.le_of_ble_eq_true rfl) d_B_init_8 (fun H locs HW => ?_)
  have n_qh_o : qh ≠ o := (Ne.symm n_o_qh)
  obtain ⟨u2, hu2⟩ : ∃ zW : ht_W, zW = ht_up u1 o (.inr (3, [.ref ka, .int lv, .ref qh, .int 0, .ref z, .null]) : va_E) := ⟨_, rfl⟩
  have HW : ht_I g s u2 H locs := by rw [hu2]; exact HW
  have hO : ht_at u2 o (.inr (3, [.ref ka, .int lv, .ref qh, .int 0, .ref z, .null]) : va_E) := by rw [hu2]; exact ht_at_self hO
  have h_qh : ht_at u2 qh (ht_al g 4 (fun _ => 0)) := by rw [hu2]; exact ht_at_ne h_qh n_qh_o
  refine lv_aload_n hx hb d_B_init_11 rfl (lv_at hl 0 rfl) ?_
  refine lv_aload hx hb d_B_init_12 (lv_at hl 4 rfl) ?_
  refine ht_put (C := R_B) (T := F_B) (N := 6) (v := .ref on) (ty := .object "HashTree$Node") hx hb htb i_B t_B t_B_ok n_B hown HW hO rfl 5 (by decide) (htb _ wd_167) (fun _ h9 => h9) rfl (by decide +kernel) rfl rfl (Nat.le_of_ble_eq_true rfl) d_B_init_14 (fun H locs HW => ?_)
  obtain ⟨u3, hu3⟩ : ∃ zW : ht_W, zW = ht_up u2 o (.inr (3, [.ref ka, .int lv, .ref qh, .int 0, .ref z, .ref on]) : va_E) := ⟨_, rfl⟩
  have HW : ht_I g s u3 H locs := by rw [hu3]; exact HW
  have hO : ht_at u3 o (.inr (3, [.ref ka, .int lv, .ref qh, .int 0, .ref z, .ref on]) : va_E) := by rw [hu3]; exact ht_at_self hO
  have h_qh : ht_at u3 qh (ht_al g 4 (fun _ => 0)) := by rw [hu3]; exact ht_at_ne h_qh n_qh_o
  exact ht_vret hx hb hr hlocks HW ⟨qh, hq_qh, by rw [hu3, hu2, eu1]; simp only [ht_up_up]⟩ d_B_init_17
set_option maxHeartbeats 4000000 in
set_option maxRecDepth 100000 in
theorem c_D_init (l : Launch) (g : ht_G) (w : ht_W) {o : Nat} (hO : ht_at w o (.inr (1, [.null, .null, .int 0]))) : Met l y_D_init ws_D_init ({ frames := 1, cells := 2, slots := 72, locals := 20 } : Room) (va_Pc [.ref o] (ht_WS g w)) (ht_Qv g (fun u => ∃ wd wa, wd ∉ w.1 ∧ wa ∉ w.1 ∧ wd ≠ wa ∧ u = ht_up (ht_nw (ht_nw w wd (ht_ai g 8 (fun _ => 0))) wa (ht_ai g 64 (fun _ => 0))) o (.inr (1, [.ref wd, .ref wa, .int 0])))) 2 72 (ht_A g) := by
  refine Met.ofW (cc := b_D_init) (maxL := 1) (ret := none) (by decide) rfl ?_
  intro p e s m args below meth c s₁ BB hml hv
  obtain ⟨rfl, HW⟩ := hv
  have HW := ht_I.start HW
  have hx := BB.exec
  have hb := BB.bytes
  have hr := BB.returns
  have hts := atoms_spec (ws := ws_D_init) BB.pre
  have htb : ∀ w ∈ bg, w.before _ s = true := fun w h => hts w (List.mem_cons_of_mem _ h)
  have hown : s.vm.findClass R_D = some m.cls := findClass_of_methodNamed BB.named
  have hlocks := BB.notSynchronized
  have hin : meth.name = "<init>" := (name_of_methodNamed BB.named BB.method).1
  have hl := lv_entry ([.ref o]) (n := 1) (Nat.le_of_ble_eq_true rfl)
  rw [lg_entry_eq]
  generalize (lg_sl ([.ref o]) ++ List.replicate (1 - (lg_sl ([.ref o])).length) Slot.unset).toArray = ls at hl ⊢
  have hl : lv_has ls 1 [(0, .ref o)] := hl
  refine lv_aload_n hx hb d_D_init_0 rfl (lv_at hl 0 rfl) ?_
  refine W.objInit hx hb hown (htb _ wd_25) (htb _ wd_18) (htb _ wc_objectInit) rfl (by rw [hml]; exact hl.1) rfl d_D_init_1 (Nat.le_of_ble_eq_true rfl) (Nat.le_of_ble_eq_true rfl) ?_
  refine W.eq (g2 := F0 m 4 ls []) rfl ?_
  refine lv_aload_n hx hb d_D_init_4 rfl (lv_at hl 0 rfl) ?_
  refine lv_bipush (v := 8) hx hb d_D_init_5 (by decide) ?_
  refine ht_newi (N' := 8) hx hb (htb _ wd_37) HW (by decide) rfl (by decide) (Nat.le_of_ble_eq_true rfl) (Nat.le_of_ble_eq_true rfl) rfl d_D_init_7 (fun wd H hq_wd HW => ?_)
  obtain ⟨u1, hu1⟩ : ∃ zW : ht_W, zW = ht_nw w wd (ht_ai g 8 (fun _ => 0)) := ⟨_, rfl⟩
  have HW := HW.to hu1.symm
  have n_o_wd : o ≠ wd := fun z9 => hq_wd (by rw [← z9]; exact hO.1)
  have hO : ht_at u1 o (.inr (1, [.null, .null, .int 0]) : va_E) := by rw [hu1]; exact ht_at_old hO hq_wd
  have h_wd : ht_at u1 wd (ht_ai g 8 (fun _ => 0)) := by rw [hu1]; exact ht_at_new
  refine ht_putF (C := R_D) (T := F_D) (N := 3) (v := .ref wd) (ty := .array .int) hx hb htb i_D t_D t_D_ok n_D hown HW hO rfl 0 (by decide) (htb _ wd_26) (fun _ h9 => h9) rfl hin rfl (by decide +kernel) rfl rfl (Nat.le_of_ble_eq_true rfl) d_D_init_9 (fun H locs HW => ?_)
  have n_wd_o : wd ≠ o := (Ne.symm n_o_wd)
  obtain ⟨u2, hu2⟩ : ∃ zW : ht_W, zW = ht_up u1 o (.inr (1, [.ref wd, .null, .int 0]) : va_E) := ⟨_, rfl⟩
  have HW : ht_I g s u2 H locs := by rw [hu2]; exact HW
  have hO : ht_at u2 o (.inr (1, [.ref wd, .null, .int 0]) : va_E) := by rw [hu2]; exact ht_at_self hO
  have h_wd : ht_at u2 wd (ht_ai g 8 (fun _ => 0)) := by rw [hu2]; exact ht_at_ne h_wd n_wd_o
  refine lv_aload_n hx hb d_D_init_12 rfl (lv_at hl 0 rfl) ?_
  refine lv_bipush (v := 64) hx hb d_D_init_13 (by decide) ?_
  refine ht_newi (N' := 64) hx hb (htb _ wd_37) HW (by decide) rfl (by decide) (Nat.le_of_ble_eq_true rfl) (Nat.le_of_ble_eq_true rfl) rfl d_D_init_15 (fun wa H hq_wa HW => ?_)
  obtain ⟨u3, hu3⟩ : ∃ zW : ht_W, zW = ht_nw u2 wa (ht_ai g 64 (fun _ => 0)) := ⟨_, rfl⟩
  have HW := HW.to hu3.symm
  have n_o_wa : o ≠ wa := fun z9 => hq_wa (by rw [← z9]; exact hO.1)
  have n_wd_wa : wd ≠ wa := fun z9 => hq_wa (by rw [← z9]; exact h_wd.1)
  have hO : ht_at u3 o (.inr (1, [.ref wd, .null, .int 0]) : va_E) := by rw [hu3]; exact ht_at_old hO hq_wa
  have h_wd : ht_at u3 wd (ht_ai g 8 (fun _ => 0)) := by rw [hu3]; exact ht_at_old h_wd hq_wa
  have h_wa : ht_at u3 wa (ht_ai g 64 (fun _ => 0)) := by rw [hu3]; exact ht_at_new
  refine ht_putF (C := R_D) (T := F_D) (N := 3) (v := .ref wa) (ty := .array .int) hx hb htb i_D t_D t_D_ok n_D hown HW hO rfl 1 (by decide) (htb _ wd_27) (fun _ h9 => h9) rfl hin rfl (by decide +kernel) rfl rfl (Nat.le_of_ble_eq_true rfl) d_D_init_17 (fun H locs HW => ?_)
  have n_wa_o : wa ≠ o := (Ne.symm n_o_wa)
  obtain ⟨u4, hu4⟩ : ∃ zW : ht_W, zW = ht_up u3 o (.inr (1, [.ref wd, .ref wa, .int 0]) : va_E) := ⟨_, rfl⟩
  have HW : ht_I g s u4 H locs := by rw [hu4]; exact HW
  have hO : ht_at u4 o (.inr (1, [.ref wd, .ref wa, .int 0]) : va_E) := by rw [hu4]; exact ht_at_self hO
  have h_wd : ht_at u4 wd (ht_ai g 8 (fun _ => 0)) := by rw [hu4]; exact ht_at_ne h_wd n_wd_o
  have h_wa : ht_at u4 wa (ht_ai g 64 (fun _ => 0)) := by rw [hu4]; exact ht_at_ne h_wa n_wa_o
  refine lv_aload_n hx hb d_D_init_20 rfl (lv_at hl 0 rfl) ?_
  refine lv_iconst (v := 0) hx hb d_D_init_21 (by decide) ?_
  refine ht_put (C := R_D) (T := F_D) (N := 3) (v := .int 0) (ty := .int) hx hb htb i_D t_D t_D_ok n_D hown HW hO rfl 2 (by decide) (htb _ wd_28) (fun _ h9 => h9) rfl (by decide +kernel) rfl rfl (Nat.le_of_ble_eq_true rfl) d_D_init_22 (fun H locs HW => ?_)
  obtain ⟨u5, hu5⟩ : ∃ zW : ht_W, zW = ht_up u4 o (.inr (1, [.ref wd, .ref wa, .int 0]) : va_E) := ⟨_, rfl⟩
  have HW : ht_I g s u5 H locs := by rw [hu5]; exact HW
  have hO : ht_at u5 o (.inr (1, [.ref wd, .ref wa, .int 0]) : va_E) := by rw [hu5]; exact ht_at_self hO
  have h_wd : ht_at u5 wd (ht_ai g 8 (fun _ => 0)) := by rw [hu5]; exact ht_at_ne h_wd n_wd_o
  have h_wa : ht_at u5 wa (ht_ai g 64 (fun _ => 0)) := by rw [hu5]; exact ht_at_ne h_wa n_wa_o
  have hwa2 := hq_wa
  rw [hu2, hu1] at hwa2
  have hwa3 := ht_notin (w := w) (q := wd) (e := ht_ai g 8 (fun _ => 0)) hwa2
  exact ht_vret hx hb hr hlocks HW ⟨wd, wa, hq_wd, hwa3.1, hwa3.2, by rw [hu5, hu4, hu3, hu2, hu1, ht_nw_up n_o_wa]; simp only [ht_up_up]⟩ d_D_init_25
def ht_isn (i : Int32) : Prop := ∃ j : Nat, j < 4 ∧ i = nI j
set_option maxHeartbeats 4000000 in
set_option maxRecDepth 100000 in
theorem c_X_isNumber (l : Launch) (g : ht_G) (w : ht_W) (i : Int32) : Met l y_X_isNumber ws_X_isNumber ({ frames := 0, cells := 0, slots := 0, locals := 0 } : Room) (va_Pc [.int i] (ht_WS g w)) (ht_Qi g (fun r u => ((ht_isn i → r = 1) ∧ (¬ ht_isn i → r = 0)) ∧ w = u)) 0 0 (ht_A g) := by
  refine Met.ofW (cc := b_X_isNumber) (maxL := 1) (ret := (some .boolean)) (by decide) rfl ?_
  intro p e s m args below meth c s₁ BB hml hv
  obtain ⟨rfl, HW⟩ := hv
  have HW := ht_I.start HW
  have hx := BB.exec
  have hb := BB.bytes
  have hr := BB.returns
  have hts := atoms_spec (ws := ws_X_isNumber) BB.pre
  have htb : ∀ w ∈ bg, w.before _ s = true := fun w h => hts w (List.mem_cons_of_mem _ h)
  have hown : s.vm.findClass R_X = some m.cls := findClass_of_methodNamed BB.named
  have hlocks := BB.notSynchronized
  have hl := lv_entry ([.int i]) (n := 1) (Nat.le_of_ble_eq_true rfl)
  rw [lg_entry_eq]
  generalize (lg_sl ([.int i]) ++ List.replicate (1 - (lg_sl ([.int i])).length) Slot.unset).toArray = ls at hl ⊢
  have hl : lv_has ls 1 [(0, .int i)] := hl
  refine lv_iload_n hx hb d_X_isNumber_0 rfl (lv_at hl 0 rfl) ?_
  refine lv_if_lt (tgt := 13) hx hb d_X_isNumber_1 (by decide) (fun c1 => ?_) (fun c1 => ?_)
  · have hn : ¬ ht_isn i := fun ⟨j, hj, e9⟩ => nI_pos (n := j) (by omega) (by rw [← e9]; exact c1)
    refine lv_iconst (v := 0) hx hb d_X_isNumber_13 (by decide) ?_
    exact ht_zret hx hb hr hlocks HW (by rfl) ⟨⟨fun q => absurd q hn, fun _ => rfl⟩, rfl⟩ d_X_isNumber_14
  · refine lv_iload_n hx hb d_X_isNumber_4 rfl (lv_at hl 0 rfl) ?_
    refine lv_iconst (v := 4) hx hb d_X_isNumber_5 (by decide) ?_
    refine lv_icmp_ge (tgt := 13) hx hb d_X_isNumber_6 (by decide) (fun c6 => ?_) (fun c6 => ?_)
    · have hn : ¬ ht_isn i := fun ⟨j, hj, e9⟩ => nI_ge (b := 4) hj (by omega) (by rw [← e9]; exact c6)
      refine lv_iconst (v := 0) hx hb d_X_isNumber_13 (by decide) ?_
      exact ht_zret hx hb hr hlocks HW (by rfl) ⟨⟨fun q => absurd q hn, fun _ => rfl⟩, rfl⟩ d_X_isNumber_14
    · refine lv_iconst (v := 1) hx hb d_X_isNumber_9 (by decide) ?_
      refine lv_goto (tgt := 14) hx hb d_X_isNumber_10 (by decide) ?_
      have hn : ht_isn i := by
        obtain ⟨j, hj, rfl⟩ := nI_of c1
        exact ⟨j, Nat.not_le.mp (fun q => c6 (nI_le (a := 4) q (by omega))), rfl⟩
      exact ht_zret hx hb hr hlocks HW (by rfl) ⟨⟨fun _ => rfl, fun q => absurd hn q⟩, rfl⟩ d_X_isNumber_14
set_option maxHeartbeats 4000000 in
set_option maxRecDepth 100000 in
theorem c_X_fill (l : Launch) (g : ht_G) (w : ht_W) {a : Nat} {f0 : Nat → Int64} (hA : ht_at w a (ht_al g 4 f0)) (k1 k2 k3 k4 : Int64) : Met l y_X_fill ws_X_fill ({ frames := 0, cells := 0, slots := 0, locals := 0 } : Room) (va_Pc [.ref a, .long k1, .long k2, .long k3, .long k4] (ht_WS g w)) (ht_Qv g (fun u => u = ht_up w a (ht_al g 4 (ht_kf (k1, k2, k3, k4))))) 0 0 (ht_A g) := by
  refine Met.ofW (cc := b_X_fill) (maxL := 9) (ret := none) (by decide) rfl ?_
  intro p e s m args below meth c s₁ BB hml hv
  obtain ⟨rfl, HW⟩ := hv
  have HW := ht_I.start HW
  have hx := BB.exec
  have hb := BB.bytes
  have hr := BB.returns
  have hts := atoms_spec (ws := ws_X_fill) BB.pre
  have htb : ∀ w ∈ bg, w.before _ s = true := fun w h => hts w (List.mem_cons_of_mem _ h)
  have hown : s.vm.findClass R_X = some m.cls := findClass_of_methodNamed BB.named
  have hlocks := BB.notSynchronized
  have hl := lv_entry ([.ref a, .long k1, .long k2, .long k3, .long k4]) (n := 9) (Nat.le_of_ble_eq_true rfl)
  rw [lg_entry_eq]
  generalize (lg_sl ([.ref a, .long k1, .long k2, .long k3, .long k4]) ++ List.replicate (9 - (lg_sl ([.ref a, .long k1, .long k2, .long k3, .long k4])).length) Slot.unset).toArray = ls at hl ⊢
  have hl : lv_has ls 9 [(0, .ref a), (1, .long k1), (3, .long k2), (5, .long k3), (7, .long k4)] := hl
  refine lv_aload_n hx hb d_X_fill_0 rfl (lv_at hl 0 rfl) ?_
  refine lv_iconst (v := 0) hx hb d_X_fill_1 (by decide) ?_
  refine lv_lload_n hx hb d_X_fill_2 rfl (lv_at hl 1 rfl) ?_
  refine ht_last hx hb HW hA (by unfold vp_in; decide) d_X_fill_3 (fun H locs HW => ?_)
  obtain ⟨u1, hu1⟩ : ∃ zW : ht_W, zW = ht_up w a (ht_al g 4 (vp_updL f0 0 k1)) := ⟨_, rfl⟩
  have HW : ht_I g s u1 H locs := by rw [hu1]; exact HW
  have hA : ht_at u1 a (ht_al g 4 (vp_updL f0 0 k1)) := by rw [hu1]; exact ht_at_self hA
  refine lv_aload_n hx hb d_X_fill_4 rfl (lv_at hl 0 rfl) ?_
  refine lv_iconst (v := 1) hx hb d_X_fill_5 (by decide) ?_
  refine lv_lload_n hx hb d_X_fill_6 rfl (lv_at hl 2 rfl) ?_
  refine ht_last hx hb HW hA (by unfold vp_in; decide) d_X_fill_7 (fun H locs HW => ?_)
  obtain ⟨u2, hu2⟩ : ∃ zW : ht_W, zW = ht_up u1 a (ht_al g 4 (vp_updL (vp_updL f0 0 k1) 1 k2)) := ⟨_, rfl⟩
  have HW : ht_I g s u2 H locs := by rw [hu2]; exact HW
  have hA : ht_at u2 a (ht_al g 4 (vp_updL (vp_updL f0 0 k1) 1 k2)) := by rw [hu2]; exact ht_at_self hA
  refine lv_aload_n hx hb d_X_fill_8 rfl (lv_at hl 0 rfl) ?_
  refine lv_iconst (v := 2) hx hb d_X_fill_9 (by decide) ?_
  refine lv_lload hx hb d_X_fill_10 (lv_at hl 3 rfl) ?_
  refine ht_last hx hb HW hA (by unfold vp_in; decide) d_X_fill_12 (fun H locs HW => ?_)
  obtain ⟨u3, hu3⟩ : ∃ zW : ht_W, zW = ht_up u2 a (ht_al g 4 (vp_updL (vp_updL (vp_updL f0 0 k1) 1 k2) 2 k3)) := ⟨_, rfl⟩
  have HW : ht_I g s u3 H locs := by rw [hu3]; exact HW
  have hA : ht_at u3 a (ht_al g 4 (vp_updL (vp_updL (vp_updL f0 0 k1) 1 k2) 2 k3)) := by rw [hu3]; exact ht_at_self hA
  refine lv_aload_n hx hb d_X_fill_13 rfl (lv_at hl 0 rfl) ?_
  refine lv_iconst (v := 3) hx hb d_X_fill_14 (by decide) ?_
  refine lv_lload hx hb d_X_fill_15 (lv_at hl 4 rfl) ?_
  refine ht_last hx hb HW hA (by unfold vp_in; decide) d_X_fill_17 (fun H locs HW => ?_)
  obtain ⟨u4, hu4⟩ : ∃ zW : ht_W, zW = ht_up u3 a (ht_al g 4 (vp_updL (vp_updL (vp_updL (vp_updL f0 0 k1) 1 k2) 2 k3) 3 k4)) := ⟨_, rfl⟩
  have HW : ht_I g s u4 H locs := by rw [hu4]; exact HW
  have hA : ht_at u4 a (ht_al g 4 (vp_updL (vp_updL (vp_updL (vp_updL f0 0 k1) 1 k2) 2 k3) 3 k4)) := by rw [hu4]; exact ht_at_self hA
  rw [hu4, hu3, hu2, hu1] at HW
  simp only [ht_up_up] at HW
  have HW := HW.cg (ht_eqv_l (f' := ht_kf (k1, k2, k3, k4)) (fun j hj => by rcases (show j = 0 ∨ j = 1 ∨ j = 2 ∨ j = 3 by omega) with rfl | rfl | rfl | rfl <;> rfl))
  exact ht_vret hx hb hr hlocks HW rfl d_X_fill_18
