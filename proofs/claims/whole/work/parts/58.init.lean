def ht_X9 (a0 a1 a2 a3 a4 a5 a6 a7 a8 : Nat) : Nat → Nat := fun i => ([a0, a1, a2, a3, a4, a5, a6, a7, a8] : List Nat).getD i 0
set_option maxHeartbeats 4000000 in
theorem ht_X9i {a0 a1 a2 a3 a4 a5 a6 a7 a8 : Nat} (n01 : a0 ≠ a1) (n02 : a0 ≠ a2) (n03 : a0 ≠ a3) (n04 : a0 ≠ a4) (n05 : a0 ≠ a5) (n06 : a0 ≠ a6) (n07 : a0 ≠ a7) (n08 : a0 ≠ a8) (n12 : a1 ≠ a2) (n13 : a1 ≠ a3) (n14 : a1 ≠ a4) (n15 : a1 ≠ a5) (n16 : a1 ≠ a6) (n17 : a1 ≠ a7) (n18 : a1 ≠ a8) (n23 : a2 ≠ a3) (n24 : a2 ≠ a4) (n25 : a2 ≠ a5) (n26 : a2 ≠ a6) (n27 : a2 ≠ a7) (n28 : a2 ≠ a8) (n34 : a3 ≠ a4) (n35 : a3 ≠ a5) (n36 : a3 ≠ a6) (n37 : a3 ≠ a7) (n38 : a3 ≠ a8) (n45 : a4 ≠ a5) (n46 : a4 ≠ a6) (n47 : a4 ≠ a7) (n48 : a4 ≠ a8) (n56 : a5 ≠ a6) (n57 : a5 ≠ a7) (n58 : a5 ≠ a8) (n67 : a6 ≠ a7) (n68 : a6 ≠ a8) (n78 : a7 ≠ a8) : ∀ i j, i < 9 → j < 9 → ht_X9 a0 a1 a2 a3 a4 a5 a6 a7 a8 i = ht_X9 a0 a1 a2 a3 a4 a5 a6 a7 a8 j → i = j := by
  intro i j hi hj h
  rcases (show i = 0 ∨ i = 1 ∨ i = 2 ∨ i = 3 ∨ i = 4 ∨ i = 5 ∨ i = 6 ∨ i = 7 ∨ i = 8 by omega) with rfl | rfl | rfl | rfl | rfl | rfl | rfl | rfl | rfl <;> rcases (show j = 0 ∨ j = 1 ∨ j = 2 ∨ j = 3 ∨ j = 4 ∨ j = 5 ∨ j = 6 ∨ j = 7 ∨ j = 8 by omega) with rfl | rfl | rfl | rfl | rfl | rfl | rfl | rfl | rfl <;> first | rfl | exact absurd h n01 | exact absurd h.symm n01 | exact absurd h n02 | exact absurd h.symm n02 | exact absurd h n03 | exact absurd h.symm n03 | exact absurd h n04 | exact absurd h.symm n04 | exact absurd h n05 | exact absurd h.symm n05 | exact absurd h n06 | exact absurd h.symm n06 | exact absurd h n07 | exact absurd h.symm n07 | exact absurd h n08 | exact absurd h.symm n08 | exact absurd h n12 | exact absurd h.symm n12 | exact absurd h n13 | exact absurd h.symm n13 | exact absurd h n14 | exact absurd h.symm n14 | exact absurd h n15 | exact absurd h.symm n15 | exact absurd h n16 | exact absurd h.symm n16 | exact absurd h n17 | exact absurd h.symm n17 | exact absurd h n18 | exact absurd h.symm n18 | exact absurd h n23 | exact absurd h.symm n23 | exact absurd h n24 | exact absurd h.symm n24 | exact absurd h n25 | exact absurd h.symm n25 | exact absurd h n26 | exact absurd h.symm n26 | exact absurd h n27 | exact absurd h.symm n27 | exact absurd h n28 | exact absurd h.symm n28 | exact absurd h n34 | exact absurd h.symm n34 | exact absurd h n35 | exact absurd h.symm n35 | exact absurd h n36 | exact absurd h.symm n36 | exact absurd h n37 | exact absurd h.symm n37 | exact absurd h n38 | exact absurd h.symm n38 | exact absurd h n45 | exact absurd h.symm n45 | exact absurd h n46 | exact absurd h.symm n46 | exact absurd h n47 | exact absurd h.symm n47 | exact absurd h n48 | exact absurd h.symm n48 | exact absurd h n56 | exact absurd h.symm n56 | exact absurd h n57 | exact absurd h.symm n57 | exact absurd h n58 | exact absurd h.symm n58 | exact absurd h n67 | exact absurd h.symm n67 | exact absurd h n68 | exact absurd h.symm n68 | exact absurd h n78 | exact absurd h.symm n78
set_option maxHeartbeats 4000000 in
set_option maxRecDepth 100000 in
theorem c_X_init (l : Launch) (g : ht_G) (w : ht_W) {o : Nat} (hO : ht_at w o (.inr (0, [.null, .null, .null, .null, .int 0, .null, .null, .null, .int 0]) : va_E)) : Met l y_X_init ws_X_init ({ frames := 2, cells := 8, slots := 1372, locals := 60 } : Room) (va_Pc [.ref o] (ht_WS g w)) (ht_Qv g (fun u => ∃ X : Nat → Nat, X 0 = o ∧ (∀ i, 1 ≤ i → i < 9 → X i ∉ w.1) ∧ (∀ i j, i < 9 → j < 9 → X i = X j → i = j) ∧ ht_at u (X 0) (ht_xo X none 0 (-1)) ∧ ht_at u (X 1) (ht_al g 4 (fun _ => 0)) ∧ ht_Dg g u (X 2) (X 3) (X 4) ((fun _ => 0), (fun _ => 0), 0) ∧ ht_at u (X 5) (ht_aq g 257 (fun _ => none)) ∧ ht_at u (X 6) (ht_al g 1024 (fun _ => 0)) ∧ ht_at u (X 7) (ht_al g 4 (fun _ => 0)) ∧ ht_at u (X 8) (ht_al g 8 (fun _ => 0)) ∧ ht_fr (fun b => b = o) w u)) 8 1372 (ht_A g) := by
  refine Met.ofW (cc := b_X_init) (maxL := 1) (ret := none) (by decide) rfl ?_
  intro p e s m args below meth c s₁ BB hml hv
  obtain ⟨rfl, HW⟩ := hv
  have HW := ht_I.start HW
  have hx := BB.exec
  have hb := BB.bytes
  have hr := BB.returns
  have hts := atoms_spec (ws := ws_X_init) BB.pre
  have htb : ∀ w ∈ bg, w.before _ s = true := fun w h => hts w (List.mem_cons_of_mem _ h)
  have hown : s.vm.findClass R_X = some m.cls := findClass_of_methodNamed BB.named
  have hlocks := BB.notSynchronized
  have hin : meth.name = "<init>" := (name_of_methodNamed BB.named BB.method).1
  have hl := lv_entry ([.ref o]) (n := 1) (Nat.le_of_ble_eq_true rfl)
  rw [lg_entry_eq]
  generalize (lg_sl ([.ref o]) ++ List.replicate (1 - (lg_sl ([.ref o])).length) Slot.unset).toArray = ls at hl ⊢
  have hl : lv_has ls 1 [(0, .ref o)] := hl
  have hfr : ht_fr (fun b => b = o) w w := ht_fr.rf
  refine lv_aload_n hx hb d_X_init_0 rfl (lv_at hl 0 rfl) ?_
  refine W.objInit hx hb hown (htb _ wd_17) (htb _ wd_18) (htb _ wc_objectInit) rfl (by rw [hml]; exact hl.1) rfl d_X_init_1 (Nat.le_of_ble_eq_true rfl) (Nat.le_of_ble_eq_true rfl) ?_
  refine W.eq (g2 := F0 m 4 ls []) rfl ?_
  refine lv_aload_n hx hb d_X_init_4 rfl (lv_at hl 0 rfl) ?_
  refine lv_iconst (v := 4) hx hb d_X_init_5 (by decide) ?_
  refine ht_newl (N' := 4) hx hb (htb _ wd_36) HW (by decide) rfl (by decide) (Nat.le_of_ble_eq_true rfl) (Nat.le_of_ble_eq_true rfl) rfl d_X_init_6 (fun q1 H hq_q1 HW => ?_)
  have hq0_q1 : q1 ∉ w.1 := fun z9 => hq_q1 (hfr q1 z9 (fun e9 => hq_q1 (by rw [e9]; exact hO.1))).1
  obtain ⟨u1, hu1⟩ : ∃ zW : ht_W, zW = ht_nw w q1 (ht_al g 4 (fun _ => 0)) := ⟨_, rfl⟩
  have HW := HW.to hu1.symm
  have n_o_q1 : o ≠ q1 := fun z9 => hq_q1 (by rw [← z9]; exact hO.1)
  have hO : ht_at u1 o (.inr (0, [.null, .null, .null, .null, .int 0, .null, .null, .null, .int 0]) : va_E) := by rw [hu1]; exact ht_at_old hO hq_q1
  have h_q1 : ht_at u1 q1 (ht_al g 4 (fun _ => 0)) := by rw [hu1]; exact ht_at_new
  have hfr : ht_fr (fun b => b = o) w u1 := by rw [hu1]; exact hfr.trans (ht_fr.nw hq_q1)
  refine ht_putF (C := R_X) (T := F_X) (N := 9) (v := .ref q1) (ty := .array .long) hx hb htb i_X t_X t_X_ok n_X hown HW hO rfl 0 (by decide) (htb _ wd_40) (fun _ h9 => h9) rfl hin rfl (by decide +kernel) rfl rfl (Nat.le_of_ble_eq_true rfl) d_X_init_8 (fun H locs HW => ?_)
  have n_q1_o : q1 ≠ o := (Ne.symm n_o_q1)
  obtain ⟨u2, hu2⟩ : ∃ zW : ht_W, zW = ht_up u1 o (.inr (0, [.ref q1, .null, .null, .null, .int 0, .null, .null, .null, .int 0]) : va_E) := ⟨_, rfl⟩
  have HW : ht_I g s u2 H locs := by rw [hu2]; exact HW
  have hO : ht_at u2 o (.inr (0, [.ref q1, .null, .null, .null, .int 0, .null, .null, .null, .int 0]) : va_E) := by rw [hu2]; exact ht_at_self hO
  have h_q1 : ht_at u2 q1 (ht_al g 4 (fun _ => 0)) := by rw [hu2]; exact ht_at_ne h_q1 n_q1_o
  have hfr : ht_fr (fun b => b = o) w u2 := by rw [hu2]; exact hfr.trans (ht_fr.up rfl)
  refine lv_aload_n hx hb d_X_init_11 rfl (lv_at hl 0 rfl) ?_
  refine ht_new (C := R_D) (T := F_D) (N := 3) (ci := 1) (fs := [.null, .null, .int 0]) hx hb htb i_D t_D t_D_ok hown (htb _ wd_20) (htb _ wd_21) (htb _ wd_2) HW rfl (fun j hj => by rcases (show j = 0 ∨ j = 1 ∨ j = 2 by omega) with rfl | rfl | rfl <;> rfl) (Nat.le_of_ble_eq_true rfl) (Nat.le_of_ble_eq_true rfl) d_X_init_12 (fun qd H hq_qd HW => ?_)
  have hq0_qd : qd ∉ w.1 := fun z9 => hq_qd (hfr qd z9 (fun e9 => hq_qd (by rw [e9]; exact hO.1))).1
  obtain ⟨u3, hu3⟩ : ∃ zW : ht_W, zW = ht_nw u2 qd (.inr (1, [.null, .null, .int 0]) : va_E) := ⟨_, rfl⟩
  have HW := HW.to hu3.symm
  have n_o_qd : o ≠ qd := fun z9 => hq_qd (by rw [← z9]; exact hO.1)
  have n_q1_qd : q1 ≠ qd := fun z9 => hq_qd (by rw [← z9]; exact h_q1.1)
  have hO : ht_at u3 o (.inr (0, [.ref q1, .null, .null, .null, .int 0, .null, .null, .null, .int 0]) : va_E) := by rw [hu3]; exact ht_at_old hO hq_qd
  have h_q1 : ht_at u3 q1 (ht_al g 4 (fun _ => 0)) := by rw [hu3]; exact ht_at_old h_q1 hq_qd
  have h_qd : ht_at u3 qd (.inr (1, [.null, .null, .int 0]) : va_E) := by rw [hu3]; exact ht_at_new
  have hfr : ht_fr (fun b => b = o) w u3 := by rw [hu3]; exact hfr.trans (ht_fr.nw hq_qd)
  refine lv_dup hx hb d_X_init_15 rfl ?_
  refine ht_cv HW (va_runIN (own := R_X) (As := []) (rest := [.ref qd, .ref o]) ⟨hx, hb, hml, hown, htb⟩ (c_D_init l g u3 h_qd) ⟨va_cnB 0 htb g_D_init rfl rfl rfl HW.2.2.1.2.2.2.2.2.2.2.2.2.2 (htb _ wd_2) (by decide +kernel) ⟨Nat.le_of_ble_eq_true rfl, Nat.le_of_ble_eq_true rfl⟩, rfl, htb _ wd_23⟩ (HW.preS _) rfl rfl hl.1 rfl (lv_room (Nat.le_of_ble_eq_true rfl)) d_X_init_16 ⟨Nat.le_of_ble_eq_true rfl, Nat.le_of_ble_eq_true rfl⟩) (fun u4 H locs pd HW => ?_)
  obtain ⟨wd, wa, hq_wd, hq_wa, nww, eu4⟩ := pd
  have hq0_wd : wd ∉ w.1 := fun z9 => hq_wd (hfr wd z9 (fun e9 => hq_wd (by rw [e9]; exact hO.1))).1
  have n_o_wd : o ≠ wd := fun z9 => hq_wd (by rw [← z9]; exact hO.1)
  have n_q1_wd : q1 ≠ wd := fun z9 => hq_wd (by rw [← z9]; exact h_q1.1)
  have n_qd_wd : qd ≠ wd := fun z9 => hq_wd (by rw [← z9]; exact h_qd.1)
  have hq0_wa : wa ∉ w.1 := fun z9 => hq_wa (hfr wa z9 (fun e9 => hq_wa (by rw [e9]; exact hO.1))).1
  have n_o_wa : o ≠ wa := fun z9 => hq_wa (by rw [← z9]; exact hO.1)
  have n_q1_wa : q1 ≠ wa := fun z9 => hq_wa (by rw [← z9]; exact h_q1.1)
  have n_qd_wa : qd ≠ wa := fun z9 => hq_wa (by rw [← z9]; exact h_qd.1)
  have hwa1 : wa ∉ (ht_nw u3 wd (ht_ai g 8 (fun _ => 0))).1 := fun z9 => (List.mem_append.mp z9).elim hq_wa (fun y9 => nww (List.mem_singleton.mp y9).symm)
  have hfr : ht_fr (fun b => b = o) w u4 := by
    rw [eu4]
    exact ((hfr.trans (ht_fr.nw hq_wd)).trans (ht_fr.nw hwa1)).upn hq0_qd
  have hO : ht_at u4 o (.inr (0, [.ref q1, .null, .null, .null, .int 0, .null, .null, .null, .int 0]) : va_E) := by rw [eu4]; exact ht_at_ne (ht_at_old (ht_at_old hO hq_wd) hwa1) n_o_qd
  have h_q1 : ht_at u4 q1 (ht_al g 4 (fun _ => 0)) := by rw [eu4]; exact ht_at_ne (ht_at_old (ht_at_old h_q1 hq_wd) hwa1) n_q1_qd
  have h_qd : ht_at u4 qd (.inr (1, [.ref wd, .ref wa, .int 0]) : va_E) := by rw [eu4]; exact ht_at_self (ht_at_old (ht_at_old h_qd hq_wd) hwa1)
  have h_wd : ht_at u4 wd (ht_ai g 8 (fun _ => 0)) := by rw [eu4]; exact ht_at_ne (ht_at_old ht_at_new hwa1) n_qd_wd.symm
  have h_wa : ht_at u4 wa (ht_ai g 64 (fun _ => 0)) := by rw [eu4]; exact ht_at_ne ht_at_new n_qd_wa.symm
  refine ht_putF (C := R_X) (T := F_X) (N := 9) (v := .ref qd) (ty := .object "HashTree$Digester") hx hb htb i_X t_X t_X_ok n_X hown HW hO rfl 1 (by decide) (htb _ wd_41) (fun _ h9 => h9) rfl hin rfl (by decide +kernel) rfl rfl (Nat.le_of_ble_eq_true rfl) d_X_init_19 (fun H locs HW => ?_)
  have n_qd_o : qd ≠ o := (Ne.symm n_o_qd)
  have n_wd_o : wd ≠ o := (Ne.symm n_o_wd)
  have n_wa_o : wa ≠ o := (Ne.symm n_o_wa)
  obtain ⟨u5, hu5⟩ : ∃ zW : ht_W, zW = ht_up u4 o (.inr (0, [.ref q1, .ref qd, .null, .null, .int 0, .null, .null, .null, .int 0]) : va_E) := ⟨_, rfl⟩
  have HW : ht_I g s u5 H locs := by rw [hu5]; exact HW
  have hO : ht_at u5 o (.inr (0, [.ref q1, .ref qd, .null, .null, .int 0, .null, .null, .null, .int 0]) : va_E) := by rw [hu5]; exact ht_at_self hO
  have h_q1 : ht_at u5 q1 (ht_al g 4 (fun _ => 0)) := by rw [hu5]; exact ht_at_ne h_q1 n_q1_o
  have h_qd : ht_at u5 qd (.inr (1, [.ref wd, .ref wa, .int 0]) : va_E) := by rw [hu5]; exact ht_at_ne h_qd n_qd_o
  have h_wd : ht_at u5 wd (ht_ai g 8 (fun _ => 0)) := by rw [hu5]; exact ht_at_ne h_wd n_wd_o
  have h_wa : ht_at u5 wa (ht_ai g 64 (fun _ => 0)) := by rw [hu5]; exact ht_at_ne h_wa n_wa_o
  have hfr : ht_fr (fun b => b = o) w u5 := by rw [hu5]; exact hfr.trans (ht_fr.up rfl)
  refine lv_aload_n hx hb d_X_init_22 rfl (lv_at hl 0 rfl) ?_
  refine lv_sipush (v := 257) hx hb d_X_init_23 (by decide) ?_
  refine ht_newq (N' := 257) hx hb hown (htb _ wd_38) HW (by decide) rfl (by decide) (Nat.le_of_ble_eq_true rfl) (Nat.le_of_ble_eq_true rfl) d_X_init_26 (fun q5 H hq_q5 HW => ?_)
  have hq0_q5 : q5 ∉ w.1 := fun z9 => hq_q5 (hfr q5 z9 (fun e9 => hq_q5 (by rw [e9]; exact hO.1))).1
  obtain ⟨u6, hu6⟩ : ∃ zW : ht_W, zW = ht_nw u5 q5 (ht_aq g 257 (fun _ => none)) := ⟨_, rfl⟩
  have HW := HW.to hu6.symm
  have n_o_q5 : o ≠ q5 := fun z9 => hq_q5 (by rw [← z9]; exact hO.1)
  have n_q1_q5 : q1 ≠ q5 := fun z9 => hq_q5 (by rw [← z9]; exact h_q1.1)
  have n_qd_q5 : qd ≠ q5 := fun z9 => hq_q5 (by rw [← z9]; exact h_qd.1)
  have n_wd_q5 : wd ≠ q5 := fun z9 => hq_q5 (by rw [← z9]; exact h_wd.1)
  have n_wa_q5 : wa ≠ q5 := fun z9 => hq_q5 (by rw [← z9]; exact h_wa.1)
  have hO : ht_at u6 o (.inr (0, [.ref q1, .ref qd, .null, .null, .int 0, .null, .null, .null, .int 0]) : va_E) := by rw [hu6]; exact ht_at_old hO hq_q5
  have h_q1 : ht_at u6 q1 (ht_al g 4 (fun _ => 0)) := by rw [hu6]; exact ht_at_old h_q1 hq_q5
  have h_qd : ht_at u6 qd (.inr (1, [.ref wd, .ref wa, .int 0]) : va_E) := by rw [hu6]; exact ht_at_old h_qd hq_q5
  have h_wd : ht_at u6 wd (ht_ai g 8 (fun _ => 0)) := by rw [hu6]; exact ht_at_old h_wd hq_q5
  have h_wa : ht_at u6 wa (ht_ai g 64 (fun _ => 0)) := by rw [hu6]; exact ht_at_old h_wa hq_q5
  have h_q5 : ht_at u6 q5 (ht_aq g 257 (fun _ => none)) := by rw [hu6]; exact ht_at_new
  have hfr : ht_fr (fun b => b = o) w u6 := by rw [hu6]; exact hfr.trans (ht_fr.nw hq_q5)
  refine ht_putF (C := R_X) (T := F_X) (N := 9) (v := .ref q5) (ty := .array (.object "HashTree$Node")) hx hb htb i_X t_X t_X_ok n_X hown HW hO rfl 2 (by decide) (htb _ wd_42) (fun _ h9 => h9) rfl hin rfl (by decide +kernel) rfl rfl (Nat.le_of_ble_eq_true rfl) d_X_init_29 (fun H locs HW => ?_)
  have n_q5_o : q5 ≠ o := (Ne.symm n_o_q5)
  obtain ⟨u7, hu7⟩ : ∃ zW : ht_W, zW = ht_up u6 o (.inr (0, [.ref q1, .ref qd, .ref q5, .null, .int 0, .null, .null, .null, .int 0]) : va_E) := ⟨_, rfl⟩
  have HW : ht_I g s u7 H locs := by rw [hu7]; exact HW
  have hO : ht_at u7 o (.inr (0, [.ref q1, .ref qd, .ref q5, .null, .int 0, .null, .null, .null, .int 0]) : va_E) := by rw [hu7]; exact ht_at_self hO
  have h_q1 : ht_at u7 q1 (ht_al g 4 (fun _ => 0)) := by rw [hu7]; exact ht_at_ne h_q1 n_q1_o
  have h_qd : ht_at u7 qd (.inr (1, [.ref wd, .ref wa, .int 0]) : va_E) := by rw [hu7]; exact ht_at_ne h_qd n_qd_o
  have h_wd : ht_at u7 wd (ht_ai g 8 (fun _ => 0)) := by rw [hu7]; exact ht_at_ne h_wd n_wd_o
  have h_wa : ht_at u7 wa (ht_ai g 64 (fun _ => 0)) := by rw [hu7]; exact ht_at_ne h_wa n_wa_o
  have h_q5 : ht_at u7 q5 (ht_aq g 257 (fun _ => none)) := by rw [hu7]; exact ht_at_ne h_q5 n_q5_o
  have hfr : ht_fr (fun b => b = o) w u7 := by rw [hu7]; exact hfr.trans (ht_fr.up rfl)
  refine lv_aload_n hx hb d_X_init_32 rfl (lv_at hl 0 rfl) ?_
  refine lv_null hx hb d_X_init_33 ?_
  refine ht_put (C := R_X) (T := F_X) (N := 9) (v := .null) (ty := .object "HashTree$Node") hx hb htb i_X t_X t_X_ok n_X hown HW hO rfl 3 (by decide) (htb _ wd_43) (fun _ h9 => h9) rfl (by decide +kernel) rfl rfl (Nat.le_of_ble_eq_true rfl) d_X_init_34 (fun H locs HW => ?_)
  obtain ⟨u8, hu8⟩ : ∃ zW : ht_W, zW = ht_up u7 o (.inr (0, [.ref q1, .ref qd, .ref q5, .null, .int 0, .null, .null, .null, .int 0]) : va_E) := ⟨_, rfl⟩
  have HW : ht_I g s u8 H locs := by rw [hu8]; exact HW
  have hO : ht_at u8 o (.inr (0, [.ref q1, .ref qd, .ref q5, .null, .int 0, .null, .null, .null, .int 0]) : va_E) := by rw [hu8]; exact ht_at_self hO
  have h_q1 : ht_at u8 q1 (ht_al g 4 (fun _ => 0)) := by rw [hu8]; exact ht_at_ne h_q1 n_q1_o
  have h_qd : ht_at u8 qd (.inr (1, [.ref wd, .ref wa, .int 0]) : va_E) := by rw [hu8]; exact ht_at_ne h_qd n_qd_o
  have h_wd : ht_at u8 wd (ht_ai g 8 (fun _ => 0)) := by rw [hu8]; exact ht_at_ne h_wd n_wd_o
  have h_wa : ht_at u8 wa (ht_ai g 64 (fun _ => 0)) := by rw [hu8]; exact ht_at_ne h_wa n_wa_o
  have h_q5 : ht_at u8 q5 (ht_aq g 257 (fun _ => none)) := by rw [hu8]; exact ht_at_ne h_q5 n_q5_o
  have hfr : ht_fr (fun b => b = o) w u8 := by rw [hu8]; exact hfr.trans (ht_fr.up rfl)
  refine lv_aload_n hx hb d_X_init_37 rfl (lv_at hl 0 rfl) ?_
  refine lv_iconst (v := 0) hx hb d_X_init_38 (by decide) ?_
  refine ht_put (C := R_X) (T := F_X) (N := 9) (v := .int 0) (ty := .int) hx hb htb i_X t_X t_X_ok n_X hown HW hO rfl 4 (by decide) (htb _ wd_44) (fun _ h9 => h9) rfl (by decide +kernel) rfl rfl (Nat.le_of_ble_eq_true rfl) d_X_init_39 (fun H locs HW => ?_)
  obtain ⟨u9, hu9⟩ : ∃ zW : ht_W, zW = ht_up u8 o (.inr (0, [.ref q1, .ref qd, .ref q5, .null, .int 0, .null, .null, .null, .int 0]) : va_E) := ⟨_, rfl⟩
  have HW : ht_I g s u9 H locs := by rw [hu9]; exact HW
  have hO : ht_at u9 o (.inr (0, [.ref q1, .ref qd, .ref q5, .null, .int 0, .null, .null, .null, .int 0]) : va_E) := by rw [hu9]; exact ht_at_self hO
  have h_q1 : ht_at u9 q1 (ht_al g 4 (fun _ => 0)) := by rw [hu9]; exact ht_at_ne h_q1 n_q1_o
  have h_qd : ht_at u9 qd (.inr (1, [.ref wd, .ref wa, .int 0]) : va_E) := by rw [hu9]; exact ht_at_ne h_qd n_qd_o
  have h_wd : ht_at u9 wd (ht_ai g 8 (fun _ => 0)) := by rw [hu9]; exact ht_at_ne h_wd n_wd_o
  have h_wa : ht_at u9 wa (ht_ai g 64 (fun _ => 0)) := by rw [hu9]; exact ht_at_ne h_wa n_wa_o
  have h_q5 : ht_at u9 q5 (ht_aq g 257 (fun _ => none)) := by rw [hu9]; exact ht_at_ne h_q5 n_q5_o
  have hfr : ht_fr (fun b => b = o) w u9 := by rw [hu9]; exact hfr.trans (ht_fr.up rfl)
  refine lv_aload_n hx hb d_X_init_42 rfl (lv_at hl 0 rfl) ?_
  refine lv_sipush (v := 1024) hx hb d_X_init_43 (by decide) ?_
  refine ht_newl (N' := 1024) hx hb (htb _ wd_36) HW (by decide) rfl (by decide) (Nat.le_of_ble_eq_true rfl) (Nat.le_of_ble_eq_true rfl) rfl d_X_init_46 (fun q6 H hq_q6 HW => ?_)
  have hq0_q6 : q6 ∉ w.1 := fun z9 => hq_q6 (hfr q6 z9 (fun e9 => hq_q6 (by rw [e9]; exact hO.1))).1
  obtain ⟨u10, hu10⟩ : ∃ zW : ht_W, zW = ht_nw u9 q6 (ht_al g 1024 (fun _ => 0)) := ⟨_, rfl⟩
  have HW := HW.to hu10.symm
  have n_o_q6 : o ≠ q6 := fun z9 => hq_q6 (by rw [← z9]; exact hO.1)
  have n_q1_q6 : q1 ≠ q6 := fun z9 => hq_q6 (by rw [← z9]; exact h_q1.1)
  have n_qd_q6 : qd ≠ q6 := fun z9 => hq_q6 (by rw [← z9]; exact h_qd.1)
  have n_wd_q6 : wd ≠ q6 := fun z9 => hq_q6 (by rw [← z9]; exact h_wd.1)
  have n_wa_q6 : wa ≠ q6 := fun z9 => hq_q6 (by rw [← z9]; exact h_wa.1)
  have n_q5_q6 : q5 ≠ q6 := fun z9 => hq_q6 (by rw [← z9]; exact h_q5.1)
  have hO : ht_at u10 o (.inr (0, [.ref q1, .ref qd, .ref q5, .null, .int 0, .null, .null, .null, .int 0]) : va_E) := by rw [hu10]; exact ht_at_old hO hq_q6
  have h_q1 : ht_at u10 q1 (ht_al g 4 (fun _ => 0)) := by rw [hu10]; exact ht_at_old h_q1 hq_q6
  have h_qd : ht_at u10 qd (.inr (1, [.ref wd, .ref wa, .int 0]) : va_E) := by rw [hu10]; exact ht_at_old h_qd hq_q6
  have h_wd : ht_at u10 wd (ht_ai g 8 (fun _ => 0)) := by rw [hu10]; exact ht_at_old h_wd hq_q6
  have h_wa : ht_at u10 wa (ht_ai g 64 (fun _ => 0)) := by rw [hu10]; exact ht_at_old h_wa hq_q6
  have h_q5 : ht_at u10 q5 (ht_aq g 257 (fun _ => none)) := by rw [hu10]; exact ht_at_old h_q5 hq_q6
  have h_q6 : ht_at u10 q6 (ht_al g 1024 (fun _ => 0)) := by rw [hu10]; exact ht_at_new
  have hfr : ht_fr (fun b => b = o) w u10 := by rw [hu10]; exact hfr.trans (ht_fr.nw hq_q6)
  refine ht_putF (C := R_X) (T := F_X) (N := 9) (v := .ref q6) (ty := .array .long) hx hb htb i_X t_X t_X_ok n_X hown HW hO rfl 5 (by decide) (htb _ wd_45) (fun _ h9 => h9) rfl hin rfl (by decide +kernel) rfl rfl (Nat.le_of_ble_eq_true rfl) d_X_init_48 (fun H locs HW => ?_)
  have n_q6_o : q6 ≠ o := (Ne.symm n_o_q6)
  obtain ⟨u11, hu11⟩ : ∃ zW : ht_W, zW = ht_up u10 o (.inr (0, [.ref q1, .ref qd, .ref q5, .null, .int 0, .ref q6, .null, .null, .int 0]) : va_E) := ⟨_, rfl⟩
  have HW : ht_I g s u11 H locs := by rw [hu11]; exact HW
  have hO : ht_at u11 o (.inr (0, [.ref q1, .ref qd, .ref q5, .null, .int 0, .ref q6, .null, .null, .int 0]) : va_E) := by rw [hu11]; exact ht_at_self hO
  have h_q1 : ht_at u11 q1 (ht_al g 4 (fun _ => 0)) := by rw [hu11]; exact ht_at_ne h_q1 n_q1_o
  have h_qd : ht_at u11 qd (.inr (1, [.ref wd, .ref wa, .int 0]) : va_E) := by rw [hu11]; exact ht_at_ne h_qd n_qd_o
  have h_wd : ht_at u11 wd (ht_ai g 8 (fun _ => 0)) := by rw [hu11]; exact ht_at_ne h_wd n_wd_o
  have h_wa : ht_at u11 wa (ht_ai g 64 (fun _ => 0)) := by rw [hu11]; exact ht_at_ne h_wa n_wa_o
  have h_q5 : ht_at u11 q5 (ht_aq g 257 (fun _ => none)) := by rw [hu11]; exact ht_at_ne h_q5 n_q5_o
  have h_q6 : ht_at u11 q6 (ht_al g 1024 (fun _ => 0)) := by rw [hu11]; exact ht_at_ne h_q6 n_q6_o
  have hfr : ht_fr (fun b => b = o) w u11 := by rw [hu11]; exact hfr.trans (ht_fr.up rfl)
  refine lv_aload_n hx hb d_X_init_51 rfl (lv_at hl 0 rfl) ?_
  refine lv_iconst (v := 4) hx hb d_X_init_52 (by decide) ?_
  refine ht_newl (N' := 4) hx hb (htb _ wd_36) HW (by decide) rfl (by decide) (Nat.le_of_ble_eq_true rfl) (Nat.le_of_ble_eq_true rfl) rfl d_X_init_53 (fun q7 H hq_q7 HW => ?_)
  have hq0_q7 : q7 ∉ w.1 := fun z9 => hq_q7 (hfr q7 z9 (fun e9 => hq_q7 (by rw [e9]; exact hO.1))).1
  obtain ⟨u12, hu12⟩ : ∃ zW : ht_W, zW = ht_nw u11 q7 (ht_al g 4 (fun _ => 0)) := ⟨_, rfl⟩
  have HW := HW.to hu12.symm
  have n_o_q7 : o ≠ q7 := fun z9 => hq_q7 (by rw [← z9]; exact hO.1)
  have n_q1_q7 : q1 ≠ q7 := fun z9 => hq_q7 (by rw [← z9]; exact h_q1.1)
  have n_qd_q7 : qd ≠ q7 := fun z9 => hq_q7 (by rw [← z9]; exact h_qd.1)
  have n_wd_q7 : wd ≠ q7 := fun z9 => hq_q7 (by rw [← z9]; exact h_wd.1)
  have n_wa_q7 : wa ≠ q7 := fun z9 => hq_q7 (by rw [← z9]; exact h_wa.1)
  have n_q5_q7 : q5 ≠ q7 := fun z9 => hq_q7 (by rw [← z9]; exact h_q5.1)
  have n_q6_q7 : q6 ≠ q7 := fun z9 => hq_q7 (by rw [← z9]; exact h_q6.1)
  have hO : ht_at u12 o (.inr (0, [.ref q1, .ref qd, .ref q5, .null, .int 0, .ref q6, .null, .null, .int 0]) : va_E) := by rw [hu12]; exact ht_at_old hO hq_q7
  have h_q1 : ht_at u12 q1 (ht_al g 4 (fun _ => 0)) := by rw [hu12]; exact ht_at_old h_q1 hq_q7
  have h_qd : ht_at u12 qd (.inr (1, [.ref wd, .ref wa, .int 0]) : va_E) := by rw [hu12]; exact ht_at_old h_qd hq_q7
  have h_wd : ht_at u12 wd (ht_ai g 8 (fun _ => 0)) := by rw [hu12]; exact ht_at_old h_wd hq_q7
  have h_wa : ht_at u12 wa (ht_ai g 64 (fun _ => 0)) := by rw [hu12]; exact ht_at_old h_wa hq_q7
  have h_q5 : ht_at u12 q5 (ht_aq g 257 (fun _ => none)) := by rw [hu12]; exact ht_at_old h_q5 hq_q7
  have h_q6 : ht_at u12 q6 (ht_al g 1024 (fun _ => 0)) := by rw [hu12]; exact ht_at_old h_q6 hq_q7
  have h_q7 : ht_at u12 q7 (ht_al g 4 (fun _ => 0)) := by rw [hu12]; exact ht_at_new
  have hfr : ht_fr (fun b => b = o) w u12 := by rw [hu12]; exact hfr.trans (ht_fr.nw hq_q7)
  refine ht_putF (C := R_X) (T := F_X) (N := 9) (v := .ref q7) (ty := .array .long) hx hb htb i_X t_X t_X_ok n_X hown HW hO rfl 6 (by decide) (htb _ wd_46) (fun _ h9 => h9) rfl hin rfl (by decide +kernel) rfl rfl (Nat.le_of_ble_eq_true rfl) d_X_init_55 (fun H locs HW => ?_)
  have n_q7_o : q7 ≠ o := (Ne.symm n_o_q7)
  obtain ⟨u13, hu13⟩ : ∃ zW : ht_W, zW = ht_up u12 o (.inr (0, [.ref q1, .ref qd, .ref q5, .null, .int 0, .ref q6, .ref q7, .null, .int 0]) : va_E) := ⟨_, rfl⟩
  have HW : ht_I g s u13 H locs := by rw [hu13]; exact HW
  have hO : ht_at u13 o (.inr (0, [.ref q1, .ref qd, .ref q5, .null, .int 0, .ref q6, .ref q7, .null, .int 0]) : va_E) := by rw [hu13]; exact ht_at_self hO
  have h_q1 : ht_at u13 q1 (ht_al g 4 (fun _ => 0)) := by rw [hu13]; exact ht_at_ne h_q1 n_q1_o
  have h_qd : ht_at u13 qd (.inr (1, [.ref wd, .ref wa, .int 0]) : va_E) := by rw [hu13]; exact ht_at_ne h_qd n_qd_o
  have h_wd : ht_at u13 wd (ht_ai g 8 (fun _ => 0)) := by rw [hu13]; exact ht_at_ne h_wd n_wd_o
  have h_wa : ht_at u13 wa (ht_ai g 64 (fun _ => 0)) := by rw [hu13]; exact ht_at_ne h_wa n_wa_o
  have h_q5 : ht_at u13 q5 (ht_aq g 257 (fun _ => none)) := by rw [hu13]; exact ht_at_ne h_q5 n_q5_o
  have h_q6 : ht_at u13 q6 (ht_al g 1024 (fun _ => 0)) := by rw [hu13]; exact ht_at_ne h_q6 n_q6_o
  have h_q7 : ht_at u13 q7 (ht_al g 4 (fun _ => 0)) := by rw [hu13]; exact ht_at_ne h_q7 n_q7_o
  have hfr : ht_fr (fun b => b = o) w u13 := by rw [hu13]; exact hfr.trans (ht_fr.up rfl)
  refine lv_aload_n hx hb d_X_init_58 rfl (lv_at hl 0 rfl) ?_
  refine lv_bipush (v := 8) hx hb d_X_init_59 (by decide) ?_
  refine ht_newl (N' := 8) hx hb (htb _ wd_36) HW (by decide) rfl (by decide) (Nat.le_of_ble_eq_true rfl) (Nat.le_of_ble_eq_true rfl) rfl d_X_init_61 (fun q8 H hq_q8 HW => ?_)
  have hq0_q8 : q8 ∉ w.1 := fun z9 => hq_q8 (hfr q8 z9 (fun e9 => hq_q8 (by rw [e9]; exact hO.1))).1
  obtain ⟨u14, hu14⟩ : ∃ zW : ht_W, zW = ht_nw u13 q8 (ht_al g 8 (fun _ => 0)) := ⟨_, rfl⟩
  have HW := HW.to hu14.symm
  have n_o_q8 : o ≠ q8 := fun z9 => hq_q8 (by rw [← z9]; exact hO.1)
  have n_q1_q8 : q1 ≠ q8 := fun z9 => hq_q8 (by rw [← z9]; exact h_q1.1)
  have n_qd_q8 : qd ≠ q8 := fun z9 => hq_q8 (by rw [← z9]; exact h_qd.1)
  have n_wd_q8 : wd ≠ q8 := fun z9 => hq_q8 (by rw [← z9]; exact h_wd.1)
  have n_wa_q8 : wa ≠ q8 := fun z9 => hq_q8 (by rw [← z9]; exact h_wa.1)
  have n_q5_q8 : q5 ≠ q8 := fun z9 => hq_q8 (by rw [← z9]; exact h_q5.1)
  have n_q6_q8 : q6 ≠ q8 := fun z9 => hq_q8 (by rw [← z9]; exact h_q6.1)
  have n_q7_q8 : q7 ≠ q8 := fun z9 => hq_q8 (by rw [← z9]; exact h_q7.1)
  have hO : ht_at u14 o (.inr (0, [.ref q1, .ref qd, .ref q5, .null, .int 0, .ref q6, .ref q7, .null, .int 0]) : va_E) := by rw [hu14]; exact ht_at_old hO hq_q8
  have h_q1 : ht_at u14 q1 (ht_al g 4 (fun _ => 0)) := by rw [hu14]; exact ht_at_old h_q1 hq_q8
  have h_qd : ht_at u14 qd (.inr (1, [.ref wd, .ref wa, .int 0]) : va_E) := by rw [hu14]; exact ht_at_old h_qd hq_q8
  have h_wd : ht_at u14 wd (ht_ai g 8 (fun _ => 0)) := by rw [hu14]; exact ht_at_old h_wd hq_q8
  have h_wa : ht_at u14 wa (ht_ai g 64 (fun _ => 0)) := by rw [hu14]; exact ht_at_old h_wa hq_q8
  have h_q5 : ht_at u14 q5 (ht_aq g 257 (fun _ => none)) := by rw [hu14]; exact ht_at_old h_q5 hq_q8
  have h_q6 : ht_at u14 q6 (ht_al g 1024 (fun _ => 0)) := by rw [hu14]; exact ht_at_old h_q6 hq_q8
  have h_q7 : ht_at u14 q7 (ht_al g 4 (fun _ => 0)) := by rw [hu14]; exact ht_at_old h_q7 hq_q8
  have h_q8 : ht_at u14 q8 (ht_al g 8 (fun _ => 0)) := by rw [hu14]; exact ht_at_new
  have hfr : ht_fr (fun b => b = o) w u14 := by rw [hu14]; exact hfr.trans (ht_fr.nw hq_q8)
  refine ht_putF (C := R_X) (T := F_X) (N := 9) (v := .ref q8) (ty := .array .long) hx hb htb i_X t_X t_X_ok n_X hown HW hO rfl 7 (by decide) (htb _ wd_47) (fun _ h9 => h9) rfl hin rfl (by decide +kernel) rfl rfl (Nat.le_of_ble_eq_true rfl) d_X_init_63 (fun H locs HW => ?_)
  have n_q8_o : q8 ≠ o := (Ne.symm n_o_q8)
  obtain ⟨u15, hu15⟩ : ∃ zW : ht_W, zW = ht_up u14 o (.inr (0, [.ref q1, .ref qd, .ref q5, .null, .int 0, .ref q6, .ref q7, .ref q8, .int 0]) : va_E) := ⟨_, rfl⟩
  have HW : ht_I g s u15 H locs := by rw [hu15]; exact HW
  have hO : ht_at u15 o (.inr (0, [.ref q1, .ref qd, .ref q5, .null, .int 0, .ref q6, .ref q7, .ref q8, .int 0]) : va_E) := by rw [hu15]; exact ht_at_self hO
  have h_q1 : ht_at u15 q1 (ht_al g 4 (fun _ => 0)) := by rw [hu15]; exact ht_at_ne h_q1 n_q1_o
  have h_qd : ht_at u15 qd (.inr (1, [.ref wd, .ref wa, .int 0]) : va_E) := by rw [hu15]; exact ht_at_ne h_qd n_qd_o
  have h_wd : ht_at u15 wd (ht_ai g 8 (fun _ => 0)) := by rw [hu15]; exact ht_at_ne h_wd n_wd_o
  have h_wa : ht_at u15 wa (ht_ai g 64 (fun _ => 0)) := by rw [hu15]; exact ht_at_ne h_wa n_wa_o
  have h_q5 : ht_at u15 q5 (ht_aq g 257 (fun _ => none)) := by rw [hu15]; exact ht_at_ne h_q5 n_q5_o
  have h_q6 : ht_at u15 q6 (ht_al g 1024 (fun _ => 0)) := by rw [hu15]; exact ht_at_ne h_q6 n_q6_o
  have h_q7 : ht_at u15 q7 (ht_al g 4 (fun _ => 0)) := by rw [hu15]; exact ht_at_ne h_q7 n_q7_o
  have h_q8 : ht_at u15 q8 (ht_al g 8 (fun _ => 0)) := by rw [hu15]; exact ht_at_ne h_q8 n_q8_o
  have hfr : ht_fr (fun b => b = o) w u15 := by rw [hu15]; exact hfr.trans (ht_fr.up rfl)
  refine lv_aload_n hx hb d_X_init_66 rfl (lv_at hl 0 rfl) ?_
  refine lv_iconst (v := -1) hx hb d_X_init_67 (by decide) ?_
  refine ht_put (C := R_X) (T := F_X) (N := 9) (v := .int (-1)) (ty := .int) hx hb htb i_X t_X t_X_ok n_X hown HW hO rfl 8 (by decide) (htb _ wd_48) (fun _ h9 => h9) rfl (by decide +kernel) rfl rfl (Nat.le_of_ble_eq_true rfl) d_X_init_68 (fun H locs HW => ?_)
  obtain ⟨u16, hu16⟩ : ∃ zW : ht_W, zW = ht_up u15 o (.inr (0, [.ref q1, .ref qd, .ref q5, .null, .int 0, .ref q6, .ref q7, .ref q8, .int (-1)]) : va_E) := ⟨_, rfl⟩
  have HW : ht_I g s u16 H locs := by rw [hu16]; exact HW
  have hO : ht_at u16 o (.inr (0, [.ref q1, .ref qd, .ref q5, .null, .int 0, .ref q6, .ref q7, .ref q8, .int (-1)]) : va_E) := by rw [hu16]; exact ht_at_self hO
  have h_q1 : ht_at u16 q1 (ht_al g 4 (fun _ => 0)) := by rw [hu16]; exact ht_at_ne h_q1 n_q1_o
  have h_qd : ht_at u16 qd (.inr (1, [.ref wd, .ref wa, .int 0]) : va_E) := by rw [hu16]; exact ht_at_ne h_qd n_qd_o
  have h_wd : ht_at u16 wd (ht_ai g 8 (fun _ => 0)) := by rw [hu16]; exact ht_at_ne h_wd n_wd_o
  have h_wa : ht_at u16 wa (ht_ai g 64 (fun _ => 0)) := by rw [hu16]; exact ht_at_ne h_wa n_wa_o
  have h_q5 : ht_at u16 q5 (ht_aq g 257 (fun _ => none)) := by rw [hu16]; exact ht_at_ne h_q5 n_q5_o
  have h_q6 : ht_at u16 q6 (ht_al g 1024 (fun _ => 0)) := by rw [hu16]; exact ht_at_ne h_q6 n_q6_o
  have h_q7 : ht_at u16 q7 (ht_al g 4 (fun _ => 0)) := by rw [hu16]; exact ht_at_ne h_q7 n_q7_o
  have h_q8 : ht_at u16 q8 (ht_al g 8 (fun _ => 0)) := by rw [hu16]; exact ht_at_ne h_q8 n_q8_o
  have hfr : ht_fr (fun b => b = o) w u16 := by rw [hu16]; exact hfr.trans (ht_fr.up rfl)
  exact ht_vret hx hb hr hlocks HW ⟨ht_X9 o q1 qd wd wa q5 q6 q7 q8, rfl, fun i h1 h9 => by rcases (show i = 1 ∨ i = 2 ∨ i = 3 ∨ i = 4 ∨ i = 5 ∨ i = 6 ∨ i = 7 ∨ i = 8 by omega) with rfl | rfl | rfl | rfl | rfl | rfl | rfl | rfl; exact hq0_q1; exact hq0_qd; exact hq0_wd; exact hq0_wa; exact hq0_q5; exact hq0_q6; exact hq0_q7; exact hq0_q8, ht_X9i n_o_q1 n_o_qd n_o_wd n_o_wa n_o_q5 n_o_q6 n_o_q7 n_o_q8 n_q1_qd n_q1_wd n_q1_wa n_q1_q5 n_q1_q6 n_q1_q7 n_q1_q8 n_qd_wd n_qd_wa n_qd_q5 n_qd_q6 n_qd_q7 n_qd_q8 nww n_wd_q5 n_wd_q6 n_wd_q7 n_wd_q8 n_wa_q5 n_wa_q6 n_wa_q7 n_wa_q8 n_q5_q6 n_q5_q7 n_q5_q8 n_q6_q7 n_q6_q8 n_q7_q8, hO, h_q1, ⟨h_qd, h_wd, h_wa⟩, h_q5, h_q6, h_q7, h_q8, hfr⟩ d_X_init_71
