theorem ht_Nd_ext {g : ht_G} {u : ht_W} {N : ht_N} {A : ht_AA} {F : List Nat} {m B km hm vm qh p : Nat} {k v : ht_K} {zo : Nat × Nat} (h : ht_Nd g u N A F) (hmF : m ∉ F) (hBF : B ∉ F) (hmB : m ≠ B) (hM : ht_at u m (.inr (2, [.ref km, .int 256, .ref hm, .int 0, .ref vm]))) (hkm : ht_at u km (ht_al g 4 (ht_kf k))) (hhm : ht_at u hm (ht_al g 4 (fun _ => 0))) (hvm : ht_at u vm (ht_al g 4 (ht_kf v))) (hB : ht_at u B (.inr (3, [.ref km, .int (nI p), .ref qh, .int 0, .ref zo.1, .ref zo.2]))) (hqh : ht_at u qh (ht_al g 4 (fun _ => 0))) :
    ht_Nd g u (va_up (va_up N m (k, 256, ht_kz, false, .inl v)) B (k, p, ht_kz, false, .inr zo)) (va_up (va_up A m (km, hm, vm)) B (km, qh, 0)) (m :: B :: F) := by
  intro a ha
  rcases List.mem_cons.mp ha with e | e
  · subst e
    rw [va_up_ne _ _ hmB, va_up_ne _ _ hmB, va_up_self, va_up_self]
    exact ⟨hM, hkm, by show ht_at u hm (ht_al g 4 (ht_kf ht_kz)); rw [ht_kf_z]; exact hhm, fun v' hv' => by cases hv'; exact hvm⟩
  · rcases List.mem_cons.mp e with e | e
    · subst e
      rw [va_up_self, va_up_self]
      exact ⟨hB, hkm, by show ht_at u qh (ht_al g 4 (ht_kf ht_kz)); rw [ht_kf_z]; exact hqh, fun v' hv' => by cases hv'⟩
    · have n1 : a ≠ B := fun z => hBF (by rw [← z]; exact e)
      have n2 : a ≠ m := fun z => hmF (by rw [← z]; exact e)
      rw [va_up_ne _ _ n1, va_up_ne _ _ n2, va_up_ne _ _ n1, va_up_ne _ _ n2]
      exact h a e
def ht_InsP (dg : Int32 → ht_K → ht_K → ht_K) (g : ht_G) (w u : ht_W) (x kA dgr op sb la en : Nat) (cnt ei : Int32) (k v : ht_K) (m km hm vm : Nat) (N : ht_N) (A : ht_AA) (F : List Nat) (L : ht_L) : Prop := ∃ (N' : ht_N) (A' : ht_AA) (F' : List Nat) (top' : Option Nat), ht_at u x (.inr (0, [.ref kA, .ref dgr, .ref op, va_rf top', .int cnt, .ref sb, .ref la, .ref en, .int ei])) ∧ ht_Nd g u N' A' F' ∧ ht_T N' F' top' ((k, v) :: L) ∧ ht_FH dg N' F' top' ((k, v) :: L) ∧ ht_fr (fun b => b ∈ F ∨ b = x) w u ∧ ((F' = [m] ∧ A' = va_up A m (km, hm, vm) ∧ F = []) ∨ ∃ B qh, F' = m :: B :: F ∧ A' = va_up (va_up A m (km, hm, vm)) B (km, qh, 0) ∧ B ∉ w.1 ∧ qh ∉ w.1 ∧ B ≠ qh ∧ ∃ zo, ht_rp (N' B) = .inr zo) ∧ ∀ a ∈ F, ∀ v', ht_rp (N' a) = .inl v' → ht_rp (N a) = .inl v'
set_option maxHeartbeats 4000000 in
set_option maxRecDepth 100000 in
theorem c_X_insert (l : Launch) (g : ht_G) (w : ht_W) {x kA dg op sb la en : Nat} {top : Option Nat} {cnt ei : Int32} {k : ht_K} {N : ht_N} {A : ht_AA} {F : List Nat} {L : ht_L} (hX : ht_at w x (.inr (0, [.ref kA, .ref dg, .ref op, va_rf top, .int cnt, .ref sb, .ref la, .ref en, .int ei]))) (hK : ht_at w kA (ht_al g 4 (ht_kf k))) (hN : ht_Nd g w N A F) (hT : ht_T N F top L) {dgf : Int32 → ht_K → ht_K → ht_K} (hFH : ht_FH dgf N F top L) {mf km hm vm : Nat} {v : ht_K} (hM : ht_at w mf (.inr (2, [.ref km, .int 256, .ref hm, .int 0, .ref vm]))) (hkm : ht_at w km (ht_al g 4 (ht_kf k))) (hhm : ht_at w hm (ht_al g 4 (fun _ => 0))) (hvm : ht_at w vm (ht_al g 4 (ht_kf v))) (hmF : mf ∉ F) (hnk : ∀ q ∈ L, q.1 ≠ k) : Met l y_X_insert ws_X_insert ({ frames := 3, cells := 2, slots := 10, locals := 100 } : Room) (va_Pc [.ref x, .ref mf] (ht_WS g w)) (ht_Qv g (fun u => ht_InsP dgf g w u x kA dg op sb la en cnt ei k v mf km hm vm N A F L)) 2 10 (ht_A g) := by
  refine Met.ofW (cc := b_X_insert) (maxL := 7) (ret := none) (by decide) rfl ?_
  intro p e s m args below meth c s₁ BB hml hv
  obtain ⟨rfl, HW⟩ := hv
  have HW := ht_I.start HW
  have hx := BB.exec
  have hb := BB.bytes
  have hr := BB.returns
  have hts := atoms_spec (ws := ws_X_insert) BB.pre
  have htb : ∀ w ∈ bg, w.before _ s = true := fun w h => hts w (List.mem_cons_of_mem _ h)
  have hown : s.vm.findClass R_X = some m.cls := findClass_of_methodNamed BB.named
  have hlocks := BB.notSynchronized
  have hl := lv_entry ([.ref x, .ref mf]) (n := 7) (Nat.le_of_ble_eq_true rfl)
  rw [lg_entry_eq]
  generalize (lg_sl ([.ref x, .ref mf]) ++ List.replicate (7 - (lg_sl ([.ref x, .ref mf])).length) Slot.unset).toArray = ls at hl ⊢
  have hl : lv_has ls 7 [(0, .ref x), (1, .ref mf)] := hl
  cases top with
  | none =>
    refine lv_aload_n hx hb d_X_insert_0 rfl (lv_at hl 0 rfl) ?_
    refine ht_cq HW (va_runV (own := R_X) (C := R_X) (As := []) (rest := []) ⟨hx, hb, hml, hown, htb⟩ (c_X_nearestLeaf l g w hX hK hN hT) (cwV 0 htb (ht_gv wd_83 wd_85 sl_1 wd_1 g_X_nearestLeaf) rfl rfl rfl (by decide +kernel) ⟨Nat.le_of_ble_eq_true rfl, Nat.le_of_ble_eq_true rfl⟩) (HW.preV hX rfl _) rfl rfl hl.1 rfl (lv_room (Nat.le_of_ble_eq_true rfl)) d_X_insert_1 ⟨Nat.le_of_ble_eq_true rfl, Nat.le_of_ble_eq_true rfl⟩) (fun q2 u1 H locs pn HW => ?_)
    obtain ⟨pn, eww⟩ := pn
    subst eww
    rcases pn with ⟨er, et⟩ | ⟨b, vb, er, hbF, hp, hbest⟩
    · subst er
      refine W.eq (g2 := F0 _ 4 ls [.null]) rfl ?_
      refine lv_astore_nN (lv' := [(2, .null), (0, .ref x), (1, .ref mf)]) hx hb d_X_insert_4 rfl hl (by decide) rfl (fun ls hl => ?_)
      refine lv_aload_nN hx hb d_X_insert_5 rfl (lv_at hl 0 rfl) ?_
      refine lv_ifnonnullN hx hb d_X_insert_6 ?_
      refine lv_aload_n hx hb d_X_insert_9 rfl (lv_at hl 1 rfl) ?_
      refine lv_aload_n hx hb d_X_insert_10 rfl (lv_at hl 2 rfl) ?_
      refine ht_put (C := R_X) (T := F_X) (N := 9) (v := .ref mf) (ty := .object "HashTree$Node") hx hb htb i_X t_X t_X_ok n_X hown HW hX rfl 3 (by decide) (htb _ wd_43) (fun _ h9 => h9) rfl (by decide +kernel) rfl rfl (Nat.le_of_ble_eq_true rfl) d_X_insert_11 (fun H locs HW => ?_)
      have n_kA_x : kA ≠ x := (ht_ne hK hX (fun z => by cases z))
      have n_mf_x : mf ≠ x := (ht_ne hM hX (fun z => by cases z))
      have n_km_x : km ≠ x := (ht_ne hkm hX (fun z => by cases z))
      have n_hm_x : hm ≠ x := (ht_ne hhm hX (fun z => by cases z))
      have n_vm_x : vm ≠ x := (ht_ne hvm hX (fun z => by cases z))
      obtain ⟨u3, hu3⟩ : ∃ zW : ht_W, zW = ht_up w x (.inr (0, [.ref kA, .ref dg, .ref op, .ref mf, .int cnt, .ref sb, .ref la, .ref en, .int ei]) : va_E) := ⟨_, rfl⟩
      have HW : ht_I g s u3 H locs := by rw [hu3]; exact HW
      have hX : ht_at u3 x (.inr (0, [.ref kA, .ref dg, .ref op, .ref mf, .int cnt, .ref sb, .ref la, .ref en, .int ei]) : va_E) := by rw [hu3]; exact ht_at_self hX
      have hK : ht_at u3 kA (ht_al g 4 (ht_kf k)) := by rw [hu3]; exact ht_at_ne hK n_kA_x
      have hM : ht_at u3 mf (.inr (2, [.ref km, .int 256, .ref hm, .int 0, .ref vm]) : va_E) := by rw [hu3]; exact ht_at_ne hM n_mf_x
      have hkm : ht_at u3 km (ht_al g 4 (ht_kf k)) := by rw [hu3]; exact ht_at_ne hkm n_km_x
      have hhm : ht_at u3 hm (ht_al g 4 (fun _ => 0)) := by rw [hu3]; exact ht_at_ne hhm n_hm_x
      have hvm : ht_at u3 vm (ht_al g 4 (ht_kf v)) := by rw [hu3]; exact ht_at_ne hvm n_vm_x
      have hem := hT.2.2.1.2 rfl
      have hN' : ht_Nd g u3 (va_up N mf (k, 256, ht_kz, false, .inl v)) (va_up A mf (km, hm, vm)) [mf] := by
        intro a ha
        rw [List.mem_singleton.mp ha, va_up_self, va_up_self]
        exact ⟨hM, hkm, by show ht_at _ hm (ht_al g 4 (ht_kf ht_kz)); rw [ht_kf_z]; exact hhm, fun v' hv' => by cases hv'; exact hvm⟩
      have hTF := ht_one_T (dg := dgf) (N := va_up N mf (k, 256, ht_kz, false, .inl v)) (k := k) (v := v) (m := mf) (va_up_self _ _ _)
      refine W.widen (k := 2) (n := 10) (by omega) (by omega) ?_
      refine ht_vret hx hb hr hlocks HW ⟨_, _, [mf], some mf, hX, hN', by rw [hem.2]; exact hTF.1, by rw [hem.2]; exact hTF.2, by rw [hu3]; exact ht_fr.up (Or.inr rfl), Or.inl ⟨rfl, rfl, hem.1⟩, fun a ha => ?_⟩ d_X_insert_14
      rw [hem.1] at ha
      cases ha
    · subst er
      refine W.eq (g2 := F0 _ 4 ls [.ref b]) rfl ?_
      have hlb := hN.lf hbF hp
      have hkb := (hN b hbF).2.1
      rw [(hT.2.2.1.2 rfl).1] at hbF
      cases hbF
  | some t =>
    refine lv_aload_n hx hb d_X_insert_0 rfl (lv_at hl 0 rfl) ?_
    refine ht_cq HW (va_runV (own := R_X) (C := R_X) (As := []) (rest := []) ⟨hx, hb, hml, hown, htb⟩ (c_X_nearestLeaf l g w hX hK hN hT) (cwV 0 htb (ht_gv wd_83 wd_85 sl_1 wd_1 g_X_nearestLeaf) rfl rfl rfl (by decide +kernel) ⟨Nat.le_of_ble_eq_true rfl, Nat.le_of_ble_eq_true rfl⟩) (HW.preV hX rfl _) rfl rfl hl.1 rfl (lv_room (Nat.le_of_ble_eq_true rfl)) d_X_insert_1 ⟨Nat.le_of_ble_eq_true rfl, Nat.le_of_ble_eq_true rfl⟩) (fun q2 u1 H locs pn HW => ?_)
    obtain ⟨pn, eww⟩ := pn
    subst eww
    rcases pn with ⟨er, et⟩ | ⟨b, vb, er, hbF, hp, hbest⟩
    · subst er
      refine W.eq (g2 := F0 _ 4 ls [.null]) rfl ?_
      cases et
    · subst er
      refine W.eq (g2 := F0 _ 4 ls [.ref b]) rfl ?_
      have hlb := hN.lf hbF hp
      have hkb := (hN b hbF).2.1
      refine lv_astore_n (lv' := [(2, .ref b), (0, .ref x), (1, .ref mf)]) hx hb d_X_insert_4 rfl hl (by decide) rfl (fun ls hl => ?_)
      refine lv_aload_n hx hb d_X_insert_5 rfl (lv_at hl 0 rfl) ?_
      refine lv_ifnonnull (tgt := 15) hx hb d_X_insert_6 (by decide) ?_
      refine lv_aload_n hx hb d_X_insert_15 rfl (lv_at hl 1 rfl) ?_
      refine ht_get (C := R_X) (T := F_X) (N := 9) (v := .ref kA) hx hb htb i_X hown HW hX rfl 0 (by decide) (htb _ wd_40) (fun _ h9 => h9) rfl d_X_insert_16 ?_
      refine lv_aload_n hx hb d_X_insert_19 rfl (lv_at hl 0 rfl) ?_
      refine ht_get (C := R_L) (T := F_L) (N := 5) (v := .ref (A b).1) hx hb htb i_L hown HW hlb rfl 0 (by decide) (htb _ wd_128) (fun x h9 => u_same (htb _ wd_129) x h9) rfl d_X_insert_20 ?_
      refine ht_ci HW (va_runS (own := R_X) (As := [.ref kA, .ref (A b).1]) (rest := []) ⟨hx, hb, hml, hown, htb⟩ (c_X_partingLevel l g w hK hkb) (va_cwS 2 htb (ht_gs wd_96 wd_97 wd_1 g_X_partingLevel) rfl rfl rfl (by decide +kernel) ⟨Nat.le_of_ble_eq_true rfl, Nat.le_of_ble_eq_true rfl⟩) (HW.preS _) rfl rfl hl.1 rfl (lv_room (Nat.le_of_ble_eq_true rfl)) d_X_insert_23 ⟨Nat.le_of_ble_eq_true rfl, Nat.le_of_ble_eq_true rfl⟩) (fun q4 u3 H locs pu3 HW => ?_)
      obtain ⟨eq4, eu3⟩ := pu3
      subst eu3
      refine lv_topi (fun pv epv => ?_)
      refine lv_istore_n (lv' := [(3, .int pv), (2, .ref b), (0, .ref x), (1, .ref mf)]) hx hb d_X_insert_26 rfl hl (by decide) rfl (fun ls hl => ?_)
      obtain ⟨pl, epl⟩ : ∃ z9 : Nat, z9 = ht_part k (ht_rk (N b)) := ⟨_, rfl⟩
      have epv : pv = nI pl := by rw [epv, eq4, epl]
      have hqs : (ht_rk (N b), vb) ∈ L := (hT.2.2.2.1 b hbF vb hp).2
      have hmax : ∀ q ∈ L, ht_part k q.1 ≤ pl := by rw [epl]; exact hbest
      have hpl : pl < 256 := by
        rcases Nat.lt_or_ge pl 256 with q9 | q9
        · exact q9
        · exact absurd (ht_part_eq.mp (Nat.le_antisymm (ht_part_le k (ht_rk (N b))) (by rw [← epl]; exact q9))).symm (hnk _ hqs)
      refine lv_aload_n hx hb d_X_insert_27 rfl (lv_at hl 2 rfl) ?_
      refine lv_iload_n hx hb d_X_insert_28 rfl (lv_at hl 0 rfl) ?_
      refine ht_cq HW (va_runV (own := R_X) (C := R_X) (As := [.int pv]) (rest := []) ⟨hx, hb, hml, hown, htb⟩ (c_X_stalePath l g w hX hK hN hT pl (by omega) pv epv hqs (by rw [epl]; exact Nat.le_refl _)) (cwV 1 htb (ht_gv wd_106 wd_108 sl_2 wd_1 g_X_stalePath) rfl rfl rfl (by decide +kernel) ⟨Nat.le_of_ble_eq_true rfl, Nat.le_of_ble_eq_true rfl⟩) (HW.preV hX rfl _) rfl rfl hl.1 rfl (lv_room (Nat.le_of_ble_eq_true rfl)) d_X_insert_29 ⟨Nat.le_of_ble_eq_true rfl, Nat.le_of_ble_eq_true rfl⟩) (fun q6 u5 H locs ps HW => ?_)
      obtain ⟨N1, be, hN1, hfr1, hmk, hsl⟩ := ps
      have hxF := hN.x hX
      have hKF := hN.l hK
      have hkmF := hN.l hkm
      have hhmF := hN.l hhm
      have hvmF := hN.l hvm
      have hX : ht_at u5 x (.inr (0, [.ref kA, .ref dg, .ref op, .ref t, .int cnt, .ref sb, .ref la, .ref en, .int ei]) : va_E) := hfr1.at hX hxF
      have hK : ht_at u5 kA (ht_al g 4 (ht_kf k)) := hfr1.at hK hKF
      have hM : ht_at u5 mf (.inr (2, [.ref km, .int 256, .ref hm, .int 0, .ref vm]) : va_E) := hfr1.at hM hmF
      have hkm : ht_at u5 km (ht_al g 4 (ht_kf k)) := hfr1.at hkm hkmF
      have hhm : ht_at u5 hm (ht_al g 4 (fun _ => 0)) := hfr1.at hhm hhmF
      have hvm : ht_at u5 vm (ht_al g 4 (ht_kf v)) := hfr1.at hvm hvmF
      have hbeF := hsl.1
      have hbe := (hN1 be hbeF).1
      have n_x_be : x ≠ be := fun z9 => hxF (by rw [z9]; exact hbeF)
      have n_kA_be : kA ≠ be := fun z9 => hKF (by rw [z9]; exact hbeF)
      have n_mf_be : mf ≠ be := fun z9 => hmF (by rw [z9]; exact hbeF)
      have n_km_be : km ≠ be := fun z9 => hkmF (by rw [z9]; exact hbeF)
      have n_hm_be : hm ≠ be := fun z9 => hhmF (by rw [z9]; exact hbeF)
      have n_vm_be : vm ≠ be := fun z9 => hvmF (by rw [z9]; exact hbeF)
      rcases q6 with _ | ab
      · have etb : be = t := by
          rcases hsl.2.2 with ⟨-, q9⟩ | ⟨c9, z9, q9, -⟩
          · exact (Option.some.inj q9).symm
          · cases q9
        subst etb
        refine W.eq (g2 := F0 _ 32 ls [.null]) rfl ?_
        refine lv_astoreN (lv' := [(4, .null), (3, .int pv), (2, .ref b), (0, .ref x), (1, .ref mf)]) hx hb d_X_insert_32 hl (by decide) rfl (fun ls hl => ?_)
        refine lv_aloadN hx hb d_X_insert_34 (lv_at hl 0 rfl) ?_
        refine lv_ifnonnullN hx hb d_X_insert_36 ?_
        refine lv_aload_n hx hb d_X_insert_39 rfl (lv_at hl 3 rfl) ?_
        refine ht_get (C := R_X) (T := F_X) (N := 9) (v := .ref be) hx hb htb i_X hown HW hX rfl 3 (by decide) (htb _ wd_43) (fun _ h9 => h9) rfl d_X_insert_40 ?_
        refine lv_goto (tgt := 63) hx hb d_X_insert_43 (by decide) ?_
        refine lv_astore (lv' := [(5, .ref be), (4, .null), (3, .int pv), (2, .ref b), (0, .ref x), (1, .ref mf)]) hx hb d_X_insert_63 hl (by decide) rfl (fun ls hl => ?_)
        refine lv_aload hx hb d_X_insert_65 (lv_at hl 0 rfl) ?_
        refine lv_iconst (v := 0) hx hb d_X_insert_67 (by decide) ?_
        refine ht_npt (b := false) hx hb htb hown HW hbe (htb _ wd_142) (fun _ h9 => h9) d_X_insert_68 (fun H locs HW => ?_)
        obtain ⟨u7, hu7⟩ : ∃ zW : ht_W, zW = ht_up u5 be (ht_nc (ht_sf (N1 be) false) ((A be).1) ((A be).2.1) ((A be).2.2)) := ⟨_, rfl⟩
        have HW : ht_I g s u7 H locs := by rw [hu7]; exact HW
        have hX : ht_at u7 x (.inr (0, [.ref kA, .ref dg, .ref op, .ref be, .int cnt, .ref sb, .ref la, .ref en, .int ei]) : va_E) := by rw [hu7]; exact ht_at_ne hX n_x_be
        have hK : ht_at u7 kA (ht_al g 4 (ht_kf k)) := by rw [hu7]; exact ht_at_ne hK n_kA_be
        have hM : ht_at u7 mf (.inr (2, [.ref km, .int 256, .ref hm, .int 0, .ref vm]) : va_E) := by rw [hu7]; exact ht_at_ne hM n_mf_be
        have hkm : ht_at u7 km (ht_al g 4 (ht_kf k)) := by rw [hu7]; exact ht_at_ne hkm n_km_be
        have hhm : ht_at u7 hm (ht_al g 4 (fun _ => 0)) := by rw [hu7]; exact ht_at_ne hhm n_hm_be
        have hvm : ht_at u7 vm (ht_al g 4 (ht_kf v)) := by rw [hu7]; exact ht_at_ne hvm n_vm_be
        have hbe : ht_at u7 be (ht_nc (ht_sf (N1 be) false) ((A be).1) ((A be).2.1) ((A be).2.2)) := by rw [hu7]; exact ht_at_self hbe
        have hN2 : ht_Nd g u7 (va_up N1 be (ht_sf (N1 be) false)) A F := by rw [hu7]; exact hN1.sf hbeF false
        refine lv_aload_n hx hb d_X_insert_71 rfl (lv_at hl 4 rfl) ?_
        refine ht_get (C := R_X) (T := F_X) (N := 9) (v := .ref kA) hx hb htb i_X hown HW hX rfl 0 (by decide) (htb _ wd_40) (fun _ h9 => h9) rfl d_X_insert_72 ?_
        refine lv_iload_n hx hb d_X_insert_75 rfl (lv_at hl 2 rfl) ?_
        refine ht_ci HW (va_runS (own := R_X) (As := [.ref kA, .int pv]) (rest := []) ⟨hx, hb, hml, hown, htb⟩ (c_X_isOne l g u7 hK pl hpl _ epv) (va_cwS 2 htb (ht_gs wd_88 wd_89 wd_1 g_X_isOne) rfl rfl rfl (by decide +kernel) ⟨Nat.le_of_ble_eq_true rfl, Nat.le_of_ble_eq_true rfl⟩) (HW.preS _) rfl rfl hl.1 rfl (lv_room (Nat.le_of_ble_eq_true rfl)) d_X_insert_76 ⟨Nat.le_of_ble_eq_true rfl, Nat.le_of_ble_eq_true rfl⟩) (fun q9 u8 H locs pu8 HW => ?_)
        obtain ⟨eq9, eu8⟩ := pu8
        subst eu8
        rw [eq9]
        cases hbit : ht_bit k pl
        · refine W.eq (g2 := F0 _ 79 ls [.int 0]) rfl ?_
          refine lv_istore (lv' := [(6, .int 0), (5, .ref be), (4, .null), (3, .int pv), (2, .ref b), (0, .ref x), (1, .ref mf)]) hx hb d_X_insert_79 hl (by decide) rfl (fun ls hl => ?_)
          refine lv_aload_n hx hb d_X_insert_81 rfl (lv_at hl 5 rfl) ?_
          refine lv_aloadN hx hb d_X_insert_82 (lv_at hl 2 rfl) ?_
          refine ht_new (C := R_B) (T := F_B) (N := 6) (ci := 3) (fs := [.null, .int 0, .null, .int 0, .null, .null]) hx hb htb i_B t_B t_B_ok hown (htb _ wd_87) (htb _ wd_160) (htb _ wd_8) HW rfl (fun j hj => by rcases (show j = 0 ∨ j = 1 ∨ j = 2 ∨ j = 3 ∨ j = 4 ∨ j = 5 by omega) with rfl | rfl | rfl | rfl | rfl | rfl <;> rfl) (Nat.le_of_ble_eq_true rfl) (Nat.le_of_ble_eq_true rfl) d_X_insert_84 (fun Bq H hq_Bq HW => ?_)
          obtain ⟨u10, hu10⟩ : ∃ zW : ht_W, zW = ht_nw u7 Bq (.inr (3, [.null, .int 0, .null, .int 0, .null, .null]) : va_E) := ⟨_, rfl⟩
          have HW := HW.to hu10.symm
          have n_x_Bq : x ≠ Bq := fun z9 => hq_Bq (by rw [← z9]; exact hX.1)
          have n_kA_Bq : kA ≠ Bq := fun z9 => hq_Bq (by rw [← z9]; exact hK.1)
          have n_mf_Bq : mf ≠ Bq := fun z9 => hq_Bq (by rw [← z9]; exact hM.1)
          have n_km_Bq : km ≠ Bq := fun z9 => hq_Bq (by rw [← z9]; exact hkm.1)
          have n_hm_Bq : hm ≠ Bq := fun z9 => hq_Bq (by rw [← z9]; exact hhm.1)
          have n_vm_Bq : vm ≠ Bq := fun z9 => hq_Bq (by rw [← z9]; exact hvm.1)
          have n_be_Bq : be ≠ Bq := fun z9 => hq_Bq (by rw [← z9]; exact hbe.1)
          have hX : ht_at u10 x (.inr (0, [.ref kA, .ref dg, .ref op, .ref be, .int cnt, .ref sb, .ref la, .ref en, .int ei]) : va_E) := by rw [hu10]; exact ht_at_old hX hq_Bq
          have hK : ht_at u10 kA (ht_al g 4 (ht_kf k)) := by rw [hu10]; exact ht_at_old hK hq_Bq
          have hM : ht_at u10 mf (.inr (2, [.ref km, .int 256, .ref hm, .int 0, .ref vm]) : va_E) := by rw [hu10]; exact ht_at_old hM hq_Bq
          have hkm : ht_at u10 km (ht_al g 4 (ht_kf k)) := by rw [hu10]; exact ht_at_old hkm hq_Bq
          have hhm : ht_at u10 hm (ht_al g 4 (fun _ => 0)) := by rw [hu10]; exact ht_at_old hhm hq_Bq
          have hvm : ht_at u10 vm (ht_al g 4 (ht_kf v)) := by rw [hu10]; exact ht_at_old hvm hq_Bq
          have hbe : ht_at u10 be (ht_nc (ht_sf (N1 be) false) ((A be).1) ((A be).2.1) ((A be).2.2)) := by rw [hu10]; exact ht_at_old hbe hq_Bq
          have h_Bq : ht_at u10 Bq (.inr (3, [.null, .int 0, .null, .int 0, .null, .null]) : va_E) := by rw [hu10]; exact ht_at_new
          have hu3N : ht_Nd g u10 (va_up N1 be (ht_sf (N1 be) false)) A F := by rw [hu10]; exact hN2.nw hq_Bq
          refine lv_dup hx hb d_X_insert_87 rfl ?_
          refine lv_aload_n hx hb d_X_insert_88 rfl (lv_at hl 6 rfl) ?_
          refine ht_get (C := R_L) (T := F_L) (N := 5) (v := .ref km) hx hb htb i_L hown HW hM rfl 0 (by decide) (htb _ wd_128) (fun x h9 => u_same (htb _ wd_129) x h9) rfl d_X_insert_89 ?_
          refine lv_iload_n hx hb d_X_insert_92 rfl (lv_at hl 3 rfl) ?_
          refine lv_iload hx hb d_X_insert_93 (lv_at hl 0 rfl) ?_
          refine lv_if_eq (tgt := 103) hx hb d_X_insert_95 (by decide) (fun c95 => ?_) (fun c95 => ?_)
          · refine lv_aload_n hx hb d_X_insert_103 rfl (lv_at hl 6 rfl) ?_
            refine lv_iload hx hb d_X_insert_104 (lv_at hl 0 rfl) ?_
            refine lv_if_eq (tgt := 113) hx hb d_X_insert_106 (by decide) (fun c106 => ?_) (fun c106 => ?_)
            · refine lv_aload hx hb d_X_insert_113 (lv_at hl 1 rfl) ?_
              refine ht_cv HW (va_runI (own := R_X) (As := [.ref km, .int pv, .ref mf, .ref be]) (rest := [.ref Bq, .null, .ref x]) ⟨hx, hb, hml, hown, htb⟩ (c_B_init l g u10 (ka := km) (z := mf) (on := be) (lv := pv) h_Bq) (cwI 4 htb g_B_init rfl rfl rfl (htb _ wd_8) (htb _ wd_161) (htb _ wd_162) rfl (by decide +kernel) ⟨Nat.le_of_ble_eq_true rfl, Nat.le_of_ble_eq_true rfl⟩) (HW.preS _) rfl rfl hl.1 rfl (lv_room (Nat.le_of_ble_eq_true rfl)) d_X_insert_115 ⟨Nat.le_of_ble_eq_true rfl, Nat.le_of_ble_eq_true rfl⟩) (fun u11 H locs pb HW => ?_)
              obtain ⟨qh, hq_qh, eu11⟩ := pb
              have hBq0 := h_Bq
              have hX : ht_at u11 x (.inr (0, [.ref kA, .ref dg, .ref op, .ref be, .int cnt, .ref sb, .ref la, .ref en, .int ei]) : va_E) := by rw [eu11]; exact ht_at_ne (ht_at_old hX hq_qh) n_x_Bq
              have hK : ht_at u11 kA (ht_al g 4 (ht_kf k)) := by rw [eu11]; exact ht_at_ne (ht_at_old hK hq_qh) n_kA_Bq
              have hM : ht_at u11 mf (.inr (2, [.ref km, .int 256, .ref hm, .int 0, .ref vm]) : va_E) := by rw [eu11]; exact ht_at_ne (ht_at_old hM hq_qh) n_mf_Bq
              have hkm : ht_at u11 km (ht_al g 4 (ht_kf k)) := by rw [eu11]; exact ht_at_ne (ht_at_old hkm hq_qh) n_km_Bq
              have hhm : ht_at u11 hm (ht_al g 4 (fun _ => 0)) := by rw [eu11]; exact ht_at_ne (ht_at_old hhm hq_qh) n_hm_Bq
              have hvm : ht_at u11 vm (ht_al g 4 (ht_kf v)) := by rw [eu11]; exact ht_at_ne (ht_at_old hvm hq_qh) n_vm_Bq
              have hbe : ht_at u11 be (ht_nc (ht_sf (N1 be) false) ((A be).1) ((A be).2.1) ((A be).2.2)) := by rw [eu11]; exact ht_at_ne (ht_at_old hbe hq_qh) n_be_Bq
              have n_Bq_qh : Bq ≠ qh := fun z9 => hq_qh (by rw [← z9]; exact hBq0.1)
              have h_Bq : ht_at u11 Bq (.inr (3, [.ref km, .int pv, .ref qh, .int 0, .ref mf, .ref be]) : va_E) := by rw [eu11]; exact ht_at_self (ht_at_old h_Bq hq_qh)
              have h_qh : ht_at u11 qh (ht_al g 4 (fun _ => 0)) := by rw [eu11]; exact ht_at_ne ht_at_new n_Bq_qh.symm
              have hBqF : Bq ∉ F := fun z9 => hq_Bq (by exact (hN2 Bq z9).1.1)
              have hN4 : ht_Nd g u11 (va_up N1 be (ht_sf (N1 be) false)) A F := by rw [eu11]; exact ((hu3N).nw hq_qh).upo (ht_at_old hBq0 hq_qh) hBqF
              refine ht_cv HW (va_runV (own := R_X) (C := R_X) (As := [.null, .ref Bq]) (rest := []) ⟨hx, hb, hml, hown, htb⟩ (c_X_hang_N l g u11 (top := some be) hX Bq) (cwV 2 htb (ht_gv wd_178 wd_180 sl_4 wd_1 g_X_hang) rfl rfl rfl (by decide +kernel) ⟨Nat.le_of_ble_eq_true rfl, Nat.le_of_ble_eq_true rfl⟩) (HW.preV hX rfl _) rfl rfl hl.1 rfl (lv_room (Nat.le_of_ble_eq_true rfl)) d_X_insert_118 ⟨Nat.le_of_ble_eq_true rfl, Nat.le_of_ble_eq_true rfl⟩) (fun u12 H locs ph5 HW => ?_)
              have hM : ht_at u12 mf (.inr (2, [.ref km, .int 256, .ref hm, .int 0, .ref vm]) : va_E) := by rw [ph5]; exact ht_at_ne hM (ht_ne hM hX (fun z => by cases z))
              have hkm : ht_at u12 km (ht_al g 4 (ht_kf k)) := by rw [ph5]; exact ht_at_ne hkm (ht_ne hkm hX (fun z => by cases z))
              have hhm : ht_at u12 hm (ht_al g 4 (fun _ => 0)) := by rw [ph5]; exact ht_at_ne hhm (ht_ne hhm hX (fun z => by cases z))
              have hvm : ht_at u12 vm (ht_al g 4 (ht_kf v)) := by rw [ph5]; exact ht_at_ne hvm (ht_ne hvm hX (fun z => by cases z))
              have h_Bq : ht_at u12 Bq (.inr (3, [.ref km, .int pv, .ref qh, .int 0, .ref mf, .ref be]) : va_E) := by rw [ph5]; exact ht_at_ne h_Bq (Ne.symm n_x_Bq)
              have h_qh : ht_at u12 qh (ht_al g 4 (fun _ => 0)) := by rw [ph5]; exact ht_at_ne h_qh (ht_ne_lo h_qh hX)
              have hX5 : ht_at u12 x (.inr (0, [.ref kA, .ref dg, .ref op, va_rf (some Bq), .int cnt, .ref sb, .ref la, .ref en, .int ei])) := by rw [ph5]; exact ht_at_self hX
              have hN5 : ht_Nd g u12 (va_up N1 be (ht_sf (N1 be) false)) A F := by rw [ph5]; exact hN4.upo hX hxF
              have hmBq : mf ≠ Bq := n_mf_Bq
              have h_Bq : ht_at u12 Bq (.inr (3, [.ref km, .int (nI pl), .ref qh, .int 0, .ref (ht_zo (be, be) (ht_bit k pl) mf).1, .ref (ht_zo (be, be) (ht_bit k pl) mf).2])) := by rw [hbit, ← epv]; exact h_Bq
              have hNF := ht_Nd_ext (p := pl) (zo := ht_zo (be, be) (ht_bit k pl) mf) hN5 hmF hBqF hmBq hM hkm hhm hvm h_Bq h_qh
              have hpu := ht_ins_pure (v := v) (B := Bq) (N3 := (va_up N1 be (ht_sf (N1 be) false))) hT hFH hsl hmk hpl hmax hqs epl.symm hmF hBqF hmBq (fun a ha => by
                by_cases e9 : a = be
                · rw [if_pos e9, e9, va_up_self]
                  exact ⟨(hmk.rp be).2.1, (hmk.rp be).2.2.1, (hmk.rp be).2.2.2, rfl⟩
                · rw [if_neg e9, va_up_ne _ _ e9]
                  exact ⟨(hmk.rp a).2.1, (hmk.rp a).2.2.1, (hmk.rp a).2.2.2, rfl⟩) (fun a ha _ => by
                by_cases e9 : a = be
                · rw [e9, va_up_self]
                  exact (hmk.rp be).1
                · rw [va_up_ne _ _ e9]
                  exact (hmk.rp a).1) (fun a zo e9 _ => by cases e9)
              rw [if_pos rfl] at hpu
              have hframe : ht_fr (fun b => b ∈ F ∨ b = x) w u12 := by
                have f1 : ht_fr (fun b => b ∈ F ∨ b = x) w u7 := by
                  rw [hu7]
                  exact (hfr1.mono (fun b h9 => Or.inl h9)).trans (ht_fr.up (Or.inl hbeF))
                have f2 : ht_fr (fun b => b ∈ F ∨ b = x) w u10 := by
                  rw [hu10]
                  exact f1.trans (ht_fr.nw hq_Bq)
                have hBw : Bq ∉ w.1 ∨ Bq ∈ F ∨ Bq = x := by
                  by_cases z9 : Bq ∈ F ∨ Bq = x
                  · exact Or.inr z9
                  · exact Or.inl (fun y9 => hq_Bq (f1 Bq y9 z9).1)
                have f3 : ht_fr (fun b => b ∈ F ∨ b = x) w u11 := by
                  rw [eu11]
                  intro b9 hb9 hn9
                  obtain ⟨y1, y2⟩ := (f2.trans (ht_fr.nw hq_qh)) b9 hb9 hn9
                  refine ⟨y1, ?_⟩
                  have nB : b9 ≠ Bq := fun z9 => hq_Bq ((f1 Bq (by rw [← z9]; exact hb9) (by rw [← z9]; exact hn9)).1)
                  exact (va_up_ne _ _ nB).trans y2
                rw [ph5]
                exact f3.trans (ht_fr.up (Or.inr rfl))
              have hBw : Bq ∉ w.1 := fun y9 => by
                by_cases z9 : Bq ∈ F ∨ Bq = x
                · rcases z9 with z9 | z9
                  · exact hBqF z9
                  · exact n_x_Bq z9.symm
                · exact hq_Bq (by rw [hu7]; exact ((hfr1.mono (fun b h9 => Or.inl h9)) Bq y9 z9).1)
              have hqw : qh ∉ w.1 := fun y9 => by
                by_cases z9 : qh ∈ F ∨ qh = x
                · rcases z9 with z9 | z9
                  · exact hN5.l h_qh z9
                  · exact ht_ne_lo h_qh hX5 z9
                · exact hq_qh (by rw [hu10, hu7]; exact List.mem_append_left _ ((hfr1.mono (fun b h9 => Or.inl h9)) qh y9 z9).1)
              refine ht_vret hx hb hr hlocks HW ⟨_, _, mf :: Bq :: F, some Bq, hX5, hNF, hpu.1, hpu.2, hframe, Or.inr ⟨Bq, qh, rfl, rfl, hBw, hqw, n_Bq_qh, _, by rw [va_up_self]; rfl⟩, fun a e9 v' hv' => ?_⟩ d_X_insert_121
              have n1 : a ≠ Bq := fun z9 => hBqF (by rw [← z9]; exact e9)
              have n2 : a ≠ mf := fun z9 => hmF (by rw [← z9]; exact e9)
              rw [va_up_ne _ _ n1, va_up_ne _ _ n2] at hv'
              by_cases e7 : a = be
              · rw [e7, va_up_self] at hv'
                rw [e7]
                exact (hmk.rp be).1.symm.trans hv'
              · rw [va_up_ne _ _ e7] at hv'
                exact (hmk.rp a).1.symm.trans hv'
            · exact absurd rfl c106
          · exact absurd rfl c95
        · refine W.eq (g2 := F0 _ 79 ls [.int 1]) rfl ?_
          refine lv_istore (lv' := [(6, .int 1), (5, .ref be), (4, .null), (3, .int pv), (2, .ref b), (0, .ref x), (1, .ref mf)]) hx hb d_X_insert_79 hl (by decide) rfl (fun ls hl => ?_)
          refine lv_aload_n hx hb d_X_insert_81 rfl (lv_at hl 5 rfl) ?_
          refine lv_aloadN hx hb d_X_insert_82 (lv_at hl 2 rfl) ?_
          refine ht_new (C := R_B) (T := F_B) (N := 6) (ci := 3) (fs := [.null, .int 0, .null, .int 0, .null, .null]) hx hb htb i_B t_B t_B_ok hown (htb _ wd_87) (htb _ wd_160) (htb _ wd_8) HW rfl (fun j hj => by rcases (show j = 0 ∨ j = 1 ∨ j = 2 ∨ j = 3 ∨ j = 4 ∨ j = 5 by omega) with rfl | rfl | rfl | rfl | rfl | rfl <;> rfl) (Nat.le_of_ble_eq_true rfl) (Nat.le_of_ble_eq_true rfl) d_X_insert_84 (fun Bq H hq_Bq HW => ?_)
          obtain ⟨u13, hu13⟩ : ∃ zW : ht_W, zW = ht_nw u7 Bq (.inr (3, [.null, .int 0, .null, .int 0, .null, .null]) : va_E) := ⟨_, rfl⟩
          have HW := HW.to hu13.symm
          have n_x_Bq : x ≠ Bq := fun z9 => hq_Bq (by rw [← z9]; exact hX.1)
          have n_kA_Bq : kA ≠ Bq := fun z9 => hq_Bq (by rw [← z9]; exact hK.1)
          have n_mf_Bq : mf ≠ Bq := fun z9 => hq_Bq (by rw [← z9]; exact hM.1)
          have n_km_Bq : km ≠ Bq := fun z9 => hq_Bq (by rw [← z9]; exact hkm.1)
          have n_hm_Bq : hm ≠ Bq := fun z9 => hq_Bq (by rw [← z9]; exact hhm.1)
          have n_vm_Bq : vm ≠ Bq := fun z9 => hq_Bq (by rw [← z9]; exact hvm.1)
          have n_be_Bq : be ≠ Bq := fun z9 => hq_Bq (by rw [← z9]; exact hbe.1)
          have hX : ht_at u13 x (.inr (0, [.ref kA, .ref dg, .ref op, .ref be, .int cnt, .ref sb, .ref la, .ref en, .int ei]) : va_E) := by rw [hu13]; exact ht_at_old hX hq_Bq
          have hK : ht_at u13 kA (ht_al g 4 (ht_kf k)) := by rw [hu13]; exact ht_at_old hK hq_Bq
          have hM : ht_at u13 mf (.inr (2, [.ref km, .int 256, .ref hm, .int 0, .ref vm]) : va_E) := by rw [hu13]; exact ht_at_old hM hq_Bq
          have hkm : ht_at u13 km (ht_al g 4 (ht_kf k)) := by rw [hu13]; exact ht_at_old hkm hq_Bq
          have hhm : ht_at u13 hm (ht_al g 4 (fun _ => 0)) := by rw [hu13]; exact ht_at_old hhm hq_Bq
          have hvm : ht_at u13 vm (ht_al g 4 (ht_kf v)) := by rw [hu13]; exact ht_at_old hvm hq_Bq
          have hbe : ht_at u13 be (ht_nc (ht_sf (N1 be) false) ((A be).1) ((A be).2.1) ((A be).2.2)) := by rw [hu13]; exact ht_at_old hbe hq_Bq
          have h_Bq : ht_at u13 Bq (.inr (3, [.null, .int 0, .null, .int 0, .null, .null]) : va_E) := by rw [hu13]; exact ht_at_new
          have hu3N : ht_Nd g u13 (va_up N1 be (ht_sf (N1 be) false)) A F := by rw [hu13]; exact hN2.nw hq_Bq
          refine lv_dup hx hb d_X_insert_87 rfl ?_
          refine lv_aload_n hx hb d_X_insert_88 rfl (lv_at hl 6 rfl) ?_
          refine ht_get (C := R_L) (T := F_L) (N := 5) (v := .ref km) hx hb htb i_L hown HW hM rfl 0 (by decide) (htb _ wd_128) (fun x h9 => u_same (htb _ wd_129) x h9) rfl d_X_insert_89 ?_
          refine lv_iload_n hx hb d_X_insert_92 rfl (lv_at hl 3 rfl) ?_
          refine lv_iload hx hb d_X_insert_93 (lv_at hl 0 rfl) ?_
          refine lv_if_eq (tgt := 103) hx hb d_X_insert_95 (by decide) (fun c95 => ?_) (fun c95 => ?_)
          · exact absurd c95 (by decide)
          · refine lv_aload hx hb d_X_insert_98 (lv_at hl 1 rfl) ?_
            refine lv_goto (tgt := 104) hx hb d_X_insert_100 (by decide) ?_
            refine lv_iload hx hb d_X_insert_104 (lv_at hl 0 rfl) ?_
            refine lv_if_eq (tgt := 113) hx hb d_X_insert_106 (by decide) (fun c106 => ?_) (fun c106 => ?_)
            · exact absurd c106 (by decide)
            · refine lv_aload_n hx hb d_X_insert_109 rfl (lv_at hl 6 rfl) ?_
              refine lv_goto (tgt := 115) hx hb d_X_insert_110 (by decide) ?_
              refine ht_cv HW (va_runI (own := R_X) (As := [.ref km, .int pv, .ref be, .ref mf]) (rest := [.ref Bq, .null, .ref x]) ⟨hx, hb, hml, hown, htb⟩ (c_B_init l g u13 (ka := km) (z := be) (on := mf) (lv := pv) h_Bq) (cwI 4 htb g_B_init rfl rfl rfl (htb _ wd_8) (htb _ wd_161) (htb _ wd_162) rfl (by decide +kernel) ⟨Nat.le_of_ble_eq_true rfl, Nat.le_of_ble_eq_true rfl⟩) (HW.preS _) rfl rfl hl.1 rfl (lv_room (Nat.le_of_ble_eq_true rfl)) d_X_insert_115 ⟨Nat.le_of_ble_eq_true rfl, Nat.le_of_ble_eq_true rfl⟩) (fun u14 H locs pb HW => ?_)
              obtain ⟨qh, hq_qh, eu14⟩ := pb
              have hBq0 := h_Bq
              have hX : ht_at u14 x (.inr (0, [.ref kA, .ref dg, .ref op, .ref be, .int cnt, .ref sb, .ref la, .ref en, .int ei]) : va_E) := by rw [eu14]; exact ht_at_ne (ht_at_old hX hq_qh) n_x_Bq
              have hK : ht_at u14 kA (ht_al g 4 (ht_kf k)) := by rw [eu14]; exact ht_at_ne (ht_at_old hK hq_qh) n_kA_Bq
              have hM : ht_at u14 mf (.inr (2, [.ref km, .int 256, .ref hm, .int 0, .ref vm]) : va_E) := by rw [eu14]; exact ht_at_ne (ht_at_old hM hq_qh) n_mf_Bq
              have hkm : ht_at u14 km (ht_al g 4 (ht_kf k)) := by rw [eu14]; exact ht_at_ne (ht_at_old hkm hq_qh) n_km_Bq
              have hhm : ht_at u14 hm (ht_al g 4 (fun _ => 0)) := by rw [eu14]; exact ht_at_ne (ht_at_old hhm hq_qh) n_hm_Bq
              have hvm : ht_at u14 vm (ht_al g 4 (ht_kf v)) := by rw [eu14]; exact ht_at_ne (ht_at_old hvm hq_qh) n_vm_Bq
              have hbe : ht_at u14 be (ht_nc (ht_sf (N1 be) false) ((A be).1) ((A be).2.1) ((A be).2.2)) := by rw [eu14]; exact ht_at_ne (ht_at_old hbe hq_qh) n_be_Bq
              have n_Bq_qh : Bq ≠ qh := fun z9 => hq_qh (by rw [← z9]; exact hBq0.1)
              have h_Bq : ht_at u14 Bq (.inr (3, [.ref km, .int pv, .ref qh, .int 0, .ref be, .ref mf]) : va_E) := by rw [eu14]; exact ht_at_self (ht_at_old h_Bq hq_qh)
              have h_qh : ht_at u14 qh (ht_al g 4 (fun _ => 0)) := by rw [eu14]; exact ht_at_ne ht_at_new n_Bq_qh.symm
              have hBqF : Bq ∉ F := fun z9 => hq_Bq (by exact (hN2 Bq z9).1.1)
              have hN4 : ht_Nd g u14 (va_up N1 be (ht_sf (N1 be) false)) A F := by rw [eu14]; exact ((hu3N).nw hq_qh).upo (ht_at_old hBq0 hq_qh) hBqF
              refine ht_cv HW (va_runV (own := R_X) (C := R_X) (As := [.null, .ref Bq]) (rest := []) ⟨hx, hb, hml, hown, htb⟩ (c_X_hang_N l g u14 (top := some be) hX Bq) (cwV 2 htb (ht_gv wd_178 wd_180 sl_4 wd_1 g_X_hang) rfl rfl rfl (by decide +kernel) ⟨Nat.le_of_ble_eq_true rfl, Nat.le_of_ble_eq_true rfl⟩) (HW.preV hX rfl _) rfl rfl hl.1 rfl (lv_room (Nat.le_of_ble_eq_true rfl)) d_X_insert_118 ⟨Nat.le_of_ble_eq_true rfl, Nat.le_of_ble_eq_true rfl⟩) (fun u15 H locs ph5 HW => ?_)
              have hM : ht_at u15 mf (.inr (2, [.ref km, .int 256, .ref hm, .int 0, .ref vm]) : va_E) := by rw [ph5]; exact ht_at_ne hM (ht_ne hM hX (fun z => by cases z))
              have hkm : ht_at u15 km (ht_al g 4 (ht_kf k)) := by rw [ph5]; exact ht_at_ne hkm (ht_ne hkm hX (fun z => by cases z))
              have hhm : ht_at u15 hm (ht_al g 4 (fun _ => 0)) := by rw [ph5]; exact ht_at_ne hhm (ht_ne hhm hX (fun z => by cases z))
              have hvm : ht_at u15 vm (ht_al g 4 (ht_kf v)) := by rw [ph5]; exact ht_at_ne hvm (ht_ne hvm hX (fun z => by cases z))
              have h_Bq : ht_at u15 Bq (.inr (3, [.ref km, .int pv, .ref qh, .int 0, .ref be, .ref mf]) : va_E) := by rw [ph5]; exact ht_at_ne h_Bq (Ne.symm n_x_Bq)
              have h_qh : ht_at u15 qh (ht_al g 4 (fun _ => 0)) := by rw [ph5]; exact ht_at_ne h_qh (ht_ne_lo h_qh hX)
              have hX5 : ht_at u15 x (.inr (0, [.ref kA, .ref dg, .ref op, va_rf (some Bq), .int cnt, .ref sb, .ref la, .ref en, .int ei])) := by rw [ph5]; exact ht_at_self hX
              have hN5 : ht_Nd g u15 (va_up N1 be (ht_sf (N1 be) false)) A F := by rw [ph5]; exact hN4.upo hX hxF
              have hmBq : mf ≠ Bq := n_mf_Bq
              have h_Bq : ht_at u15 Bq (.inr (3, [.ref km, .int (nI pl), .ref qh, .int 0, .ref (ht_zo (be, be) (ht_bit k pl) mf).1, .ref (ht_zo (be, be) (ht_bit k pl) mf).2])) := by rw [hbit, ← epv]; exact h_Bq
              have hNF := ht_Nd_ext (p := pl) (zo := ht_zo (be, be) (ht_bit k pl) mf) hN5 hmF hBqF hmBq hM hkm hhm hvm h_Bq h_qh
              have hpu := ht_ins_pure (v := v) (B := Bq) (N3 := (va_up N1 be (ht_sf (N1 be) false))) hT hFH hsl hmk hpl hmax hqs epl.symm hmF hBqF hmBq (fun a ha => by
                by_cases e9 : a = be
                · rw [if_pos e9, e9, va_up_self]
                  exact ⟨(hmk.rp be).2.1, (hmk.rp be).2.2.1, (hmk.rp be).2.2.2, rfl⟩
                · rw [if_neg e9, va_up_ne _ _ e9]
                  exact ⟨(hmk.rp a).2.1, (hmk.rp a).2.2.1, (hmk.rp a).2.2.2, rfl⟩) (fun a ha _ => by
                by_cases e9 : a = be
                · rw [e9, va_up_self]
                  exact (hmk.rp be).1
                · rw [va_up_ne _ _ e9]
                  exact (hmk.rp a).1) (fun a zo e9 _ => by cases e9)
              rw [if_pos rfl] at hpu
              have hframe : ht_fr (fun b => b ∈ F ∨ b = x) w u15 := by
                have f1 : ht_fr (fun b => b ∈ F ∨ b = x) w u7 := by
                  rw [hu7]
                  exact (hfr1.mono (fun b h9 => Or.inl h9)).trans (ht_fr.up (Or.inl hbeF))
                have f2 : ht_fr (fun b => b ∈ F ∨ b = x) w u13 := by
                  rw [hu13]
                  exact f1.trans (ht_fr.nw hq_Bq)
                have hBw : Bq ∉ w.1 ∨ Bq ∈ F ∨ Bq = x := by
                  by_cases z9 : Bq ∈ F ∨ Bq = x
                  · exact Or.inr z9
                  · exact Or.inl (fun y9 => hq_Bq (f1 Bq y9 z9).1)
                have f3 : ht_fr (fun b => b ∈ F ∨ b = x) w u14 := by
                  rw [eu14]
                  intro b9 hb9 hn9
                  obtain ⟨y1, y2⟩ := (f2.trans (ht_fr.nw hq_qh)) b9 hb9 hn9
                  refine ⟨y1, ?_⟩
                  have nB : b9 ≠ Bq := fun z9 => hq_Bq ((f1 Bq (by rw [← z9]; exact hb9) (by rw [← z9]; exact hn9)).1)
                  exact (va_up_ne _ _ nB).trans y2
                rw [ph5]
                exact f3.trans (ht_fr.up (Or.inr rfl))
              have hBw : Bq ∉ w.1 := fun y9 => by
                by_cases z9 : Bq ∈ F ∨ Bq = x
                · rcases z9 with z9 | z9
                  · exact hBqF z9
                  · exact n_x_Bq z9.symm
                · exact hq_Bq (by rw [hu7]; exact ((hfr1.mono (fun b h9 => Or.inl h9)) Bq y9 z9).1)
              have hqw : qh ∉ w.1 := fun y9 => by
                by_cases z9 : qh ∈ F ∨ qh = x
                · rcases z9 with z9 | z9
                  · exact hN5.l h_qh z9
                  · exact ht_ne_lo h_qh hX5 z9
                · exact hq_qh (by rw [hu13, hu7]; exact List.mem_append_left _ ((hfr1.mono (fun b h9 => Or.inl h9)) qh y9 z9).1)
              refine ht_vret hx hb hr hlocks HW ⟨_, _, mf :: Bq :: F, some Bq, hX5, hNF, hpu.1, hpu.2, hframe, Or.inr ⟨Bq, qh, rfl, rfl, hBw, hqw, n_Bq_qh, _, by rw [va_up_self]; rfl⟩, fun a e9 v' hv' => ?_⟩ d_X_insert_121
              have n1 : a ≠ Bq := fun z9 => hBqF (by rw [← z9]; exact e9)
              have n2 : a ≠ mf := fun z9 => hmF (by rw [← z9]; exact e9)
              rw [va_up_ne _ _ n1, va_up_ne _ _ n2] at hv'
              by_cases e7 : a = be
              · rw [e7, va_up_self] at hv'
                rw [e7]
                exact (hmk.rp be).1.symm.trans hv'
              · rw [va_up_ne _ _ e7] at hv'
                exact (hmk.rp a).1.symm.trans hv'
      · obtain ⟨zc, habF, habk, hablt, habp, habc⟩ : ∃ zc, ab ∈ F ∧ ht_in N ab k ∧ ht_rl (N ab) < pl ∧ ht_rp (N ab) = .inr zc ∧ ht_ch zc (ht_bit k (ht_rl (N ab))) = be := by
          rcases hsl.2.2 with ⟨q9, -⟩ | ⟨c9, zc, q9, r1, r2, r3, r4, r5⟩
          · cases q9
          · cases q9
            exact ⟨zc, r1, r2, r3, r4, r5⟩
        have hab := hN1.br habF ((hmk.rp ab).1.trans habp)
        rw [(hmk.rp ab).2.2.1] at hab
        have n_be_ab : be ≠ ab := fun z9 => by
          have h9 := hsl.2.1
          rw [z9] at h9
          omega
        refine W.eq (g2 := F0 _ 32 ls [.ref ab]) rfl ?_
        have n_x_ab : x ≠ ab := fun z9 => hxF (by rw [z9]; exact habF)
        have n_kA_ab : kA ≠ ab := fun z9 => hKF (by rw [z9]; exact habF)
        have n_mf_ab : mf ≠ ab := fun z9 => hmF (by rw [z9]; exact habF)
        have n_km_ab : km ≠ ab := fun z9 => hkmF (by rw [z9]; exact habF)
        have n_hm_ab : hm ≠ ab := fun z9 => hhmF (by rw [z9]; exact habF)
        have n_vm_ab : vm ≠ ab := fun z9 => hvmF (by rw [z9]; exact habF)
        refine lv_astore (lv' := [(4, .ref ab), (3, .int pv), (2, .ref b), (0, .ref x), (1, .ref mf)]) hx hb d_X_insert_32 hl (by decide) rfl (fun ls hl => ?_)
        refine lv_aload hx hb d_X_insert_34 (lv_at hl 0 rfl) ?_
        refine lv_ifnonnull (tgt := 46) hx hb d_X_insert_36 (by decide) ?_
        refine lv_aload hx hb d_X_insert_46 (lv_at hl 0 rfl) ?_
        refine lv_aload_n hx hb d_X_insert_48 rfl (lv_at hl 3 rfl) ?_
        refine ht_get (C := R_X) (T := F_X) (N := 9) (v := .ref kA) hx hb htb i_X hown HW hX rfl 0 (by decide) (htb _ wd_40) (fun _ h9 => h9) rfl d_X_insert_49 ?_
        refine lv_aload hx hb d_X_insert_52 (lv_at hl 0 rfl) ?_
        refine ht_get (C := R_B) (T := F_B) (N := 6) (v := .int (nI (ht_rl (N ab)))) hx hb htb i_B hown HW hab rfl 1 (by decide) (htb _ wd_133) (fun x h9 => u_same (htb _ wd_134) x h9) rfl d_X_insert_54 ?_
        refine ht_ci HW (va_runS (own := R_X) (As := [.ref kA, .int (nI (ht_rl (N ab)))]) (rest := [.ref ab]) ⟨hx, hb, hml, hown, htb⟩ (c_X_isOne l g u5 hK (ht_rl (N ab)) (by omega) _ rfl) (va_cwS 2 htb (ht_gs wd_88 wd_89 wd_1 g_X_isOne) rfl rfl rfl (by decide +kernel) ⟨Nat.le_of_ble_eq_true rfl, Nat.le_of_ble_eq_true rfl⟩) (HW.preS _) rfl rfl hl.1 rfl (lv_room (Nat.le_of_ble_eq_true rfl)) d_X_insert_57 ⟨Nat.le_of_ble_eq_true rfl, Nat.le_of_ble_eq_true rfl⟩) (fun q17 u16 H locs pu16 HW => ?_)
        obtain ⟨eq17, eu16⟩ := pu16
        subst eu16
        rw [eq17]
        refine ht_cq HW (va_runV (own := R_X) (C := R_B) (As := [.int (ht_b1 (ht_bit k (ht_rl (N ab))))]) (rest := []) ⟨hx, hb, hml, hown, htb⟩ (c_B_half l g u5 hab (ht_bit k (ht_rl (N ab)))) (cwV 1 htb (ht_gv wd_91 wd_92 wd_93 wd_8 g_B_half) rfl rfl rfl (by decide +kernel) ⟨Nat.le_of_ble_eq_true rfl, Nat.le_of_ble_eq_true rfl⟩) (HW.preV hab rfl _) rfl rfl hl.1 rfl (lv_room (Nat.le_of_ble_eq_true rfl)) d_X_insert_60 ⟨Nat.le_of_ble_eq_true rfl, Nat.le_of_ble_eq_true rfl⟩) (fun q19 u18 H locs ph HW => ?_)
        obtain ⟨eh, eww⟩ := ph
        subst eww
        rw [show ht_ch (zc.1, zc.2) (ht_bit k (ht_rl (N ab))) = be from habc] at eh
        subst eh
        refine W.eq (g2 := F0 _ 63 ls [.ref be]) rfl ?_
        refine lv_astore (lv' := [(5, .ref be), (4, .ref ab), (3, .int pv), (2, .ref b), (0, .ref x), (1, .ref mf)]) hx hb d_X_insert_63 hl (by decide) rfl (fun ls hl => ?_)
        refine lv_aload hx hb d_X_insert_65 (lv_at hl 0 rfl) ?_
        refine lv_iconst (v := 0) hx hb d_X_insert_67 (by decide) ?_
        refine ht_npt (b := false) hx hb htb hown HW hbe (htb _ wd_142) (fun _ h9 => h9) d_X_insert_68 (fun H locs HW => ?_)
        have n_ab_be : ab ≠ be := (Ne.symm n_be_ab)
        obtain ⟨u20, hu20⟩ : ∃ zW : ht_W, zW = ht_up u5 be (ht_nc (ht_sf (N1 be) false) ((A be).1) ((A be).2.1) ((A be).2.2)) := ⟨_, rfl⟩
        have HW : ht_I g s u20 H locs := by rw [hu20]; exact HW
        have hX : ht_at u20 x (.inr (0, [.ref kA, .ref dg, .ref op, .ref t, .int cnt, .ref sb, .ref la, .ref en, .int ei]) : va_E) := by rw [hu20]; exact ht_at_ne hX n_x_be
        have hK : ht_at u20 kA (ht_al g 4 (ht_kf k)) := by rw [hu20]; exact ht_at_ne hK n_kA_be
        have hM : ht_at u20 mf (.inr (2, [.ref km, .int 256, .ref hm, .int 0, .ref vm]) : va_E) := by rw [hu20]; exact ht_at_ne hM n_mf_be
        have hkm : ht_at u20 km (ht_al g 4 (ht_kf k)) := by rw [hu20]; exact ht_at_ne hkm n_km_be
        have hhm : ht_at u20 hm (ht_al g 4 (fun _ => 0)) := by rw [hu20]; exact ht_at_ne hhm n_hm_be
        have hvm : ht_at u20 vm (ht_al g 4 (ht_kf v)) := by rw [hu20]; exact ht_at_ne hvm n_vm_be
        have hbe : ht_at u20 be (ht_nc (ht_sf (N1 be) false) ((A be).1) ((A be).2.1) ((A be).2.2)) := by rw [hu20]; exact ht_at_self hbe
        have hab : ht_at u20 ab (.inr (3, [.ref (A ab).1, .int (nI (ht_rl (N ab))), .ref (A ab).2.1, .int (ht_b1 (ht_rf (N1 ab))), .ref zc.1, .ref zc.2]) : va_E) := by rw [hu20]; exact ht_at_ne hab n_ab_be
        have hN2 : ht_Nd g u20 (va_up N1 be (ht_sf (N1 be) false)) A F := by rw [hu20]; exact hN1.sf hbeF false
        refine lv_aload_n hx hb d_X_insert_71 rfl (lv_at hl 4 rfl) ?_
        refine ht_get (C := R_X) (T := F_X) (N := 9) (v := .ref kA) hx hb htb i_X hown HW hX rfl 0 (by decide) (htb _ wd_40) (fun _ h9 => h9) rfl d_X_insert_72 ?_
        refine lv_iload_n hx hb d_X_insert_75 rfl (lv_at hl 2 rfl) ?_
        refine ht_ci HW (va_runS (own := R_X) (As := [.ref kA, .int pv]) (rest := []) ⟨hx, hb, hml, hown, htb⟩ (c_X_isOne l g u20 hK pl hpl _ epv) (va_cwS 2 htb (ht_gs wd_88 wd_89 wd_1 g_X_isOne) rfl rfl rfl (by decide +kernel) ⟨Nat.le_of_ble_eq_true rfl, Nat.le_of_ble_eq_true rfl⟩) (HW.preS _) rfl rfl hl.1 rfl (lv_room (Nat.le_of_ble_eq_true rfl)) d_X_insert_76 ⟨Nat.le_of_ble_eq_true rfl, Nat.le_of_ble_eq_true rfl⟩) (fun q22 u21 H locs pu21 HW => ?_)
        obtain ⟨eq22, eu21⟩ := pu21
        subst eu21
        rw [eq22]
        cases hbit : ht_bit k pl
        · refine W.eq (g2 := F0 _ 79 ls [.int 0]) rfl ?_
          refine lv_istore (lv' := [(6, .int 0), (5, .ref be), (4, .ref ab), (3, .int pv), (2, .ref b), (0, .ref x), (1, .ref mf)]) hx hb d_X_insert_79 hl (by decide) rfl (fun ls hl => ?_)
          refine lv_aload_n hx hb d_X_insert_81 rfl (lv_at hl 5 rfl) ?_
          refine lv_aload hx hb d_X_insert_82 (lv_at hl 2 rfl) ?_
          refine ht_new (C := R_B) (T := F_B) (N := 6) (ci := 3) (fs := [.null, .int 0, .null, .int 0, .null, .null]) hx hb htb i_B t_B t_B_ok hown (htb _ wd_87) (htb _ wd_160) (htb _ wd_8) HW rfl (fun j hj => by rcases (show j = 0 ∨ j = 1 ∨ j = 2 ∨ j = 3 ∨ j = 4 ∨ j = 5 by omega) with rfl | rfl | rfl | rfl | rfl | rfl <;> rfl) (Nat.le_of_ble_eq_true rfl) (Nat.le_of_ble_eq_true rfl) d_X_insert_84 (fun Bq H hq_Bq HW => ?_)
          obtain ⟨u23, hu23⟩ : ∃ zW : ht_W, zW = ht_nw u20 Bq (.inr (3, [.null, .int 0, .null, .int 0, .null, .null]) : va_E) := ⟨_, rfl⟩
          have HW := HW.to hu23.symm
          have n_x_Bq : x ≠ Bq := fun z9 => hq_Bq (by rw [← z9]; exact hX.1)
          have n_kA_Bq : kA ≠ Bq := fun z9 => hq_Bq (by rw [← z9]; exact hK.1)
          have n_mf_Bq : mf ≠ Bq := fun z9 => hq_Bq (by rw [← z9]; exact hM.1)
          have n_km_Bq : km ≠ Bq := fun z9 => hq_Bq (by rw [← z9]; exact hkm.1)
          have n_hm_Bq : hm ≠ Bq := fun z9 => hq_Bq (by rw [← z9]; exact hhm.1)
          have n_vm_Bq : vm ≠ Bq := fun z9 => hq_Bq (by rw [← z9]; exact hvm.1)
          have n_be_Bq : be ≠ Bq := fun z9 => hq_Bq (by rw [← z9]; exact hbe.1)
          have n_ab_Bq : ab ≠ Bq := fun z9 => hq_Bq (by rw [← z9]; exact hab.1)
          have hX : ht_at u23 x (.inr (0, [.ref kA, .ref dg, .ref op, .ref t, .int cnt, .ref sb, .ref la, .ref en, .int ei]) : va_E) := by rw [hu23]; exact ht_at_old hX hq_Bq
          have hK : ht_at u23 kA (ht_al g 4 (ht_kf k)) := by rw [hu23]; exact ht_at_old hK hq_Bq
          have hM : ht_at u23 mf (.inr (2, [.ref km, .int 256, .ref hm, .int 0, .ref vm]) : va_E) := by rw [hu23]; exact ht_at_old hM hq_Bq
          have hkm : ht_at u23 km (ht_al g 4 (ht_kf k)) := by rw [hu23]; exact ht_at_old hkm hq_Bq
          have hhm : ht_at u23 hm (ht_al g 4 (fun _ => 0)) := by rw [hu23]; exact ht_at_old hhm hq_Bq
          have hvm : ht_at u23 vm (ht_al g 4 (ht_kf v)) := by rw [hu23]; exact ht_at_old hvm hq_Bq
          have hbe : ht_at u23 be (ht_nc (ht_sf (N1 be) false) ((A be).1) ((A be).2.1) ((A be).2.2)) := by rw [hu23]; exact ht_at_old hbe hq_Bq
          have hab : ht_at u23 ab (.inr (3, [.ref (A ab).1, .int (nI (ht_rl (N ab))), .ref (A ab).2.1, .int (ht_b1 (ht_rf (N1 ab))), .ref zc.1, .ref zc.2]) : va_E) := by rw [hu23]; exact ht_at_old hab hq_Bq
          have h_Bq : ht_at u23 Bq (.inr (3, [.null, .int 0, .null, .int 0, .null, .null]) : va_E) := by rw [hu23]; exact ht_at_new
          have hu3N : ht_Nd g u23 (va_up N1 be (ht_sf (N1 be) false)) A F := by rw [hu23]; exact hN2.nw hq_Bq
          refine lv_dup hx hb d_X_insert_87 rfl ?_
          refine lv_aload_n hx hb d_X_insert_88 rfl (lv_at hl 6 rfl) ?_
          refine ht_get (C := R_L) (T := F_L) (N := 5) (v := .ref km) hx hb htb i_L hown HW hM rfl 0 (by decide) (htb _ wd_128) (fun x h9 => u_same (htb _ wd_129) x h9) rfl d_X_insert_89 ?_
          refine lv_iload_n hx hb d_X_insert_92 rfl (lv_at hl 3 rfl) ?_
          refine lv_iload hx hb d_X_insert_93 (lv_at hl 0 rfl) ?_
          refine lv_if_eq (tgt := 103) hx hb d_X_insert_95 (by decide) (fun c95 => ?_) (fun c95 => ?_)
          · refine lv_aload_n hx hb d_X_insert_103 rfl (lv_at hl 6 rfl) ?_
            refine lv_iload hx hb d_X_insert_104 (lv_at hl 0 rfl) ?_
            refine lv_if_eq (tgt := 113) hx hb d_X_insert_106 (by decide) (fun c106 => ?_) (fun c106 => ?_)
            · refine lv_aload hx hb d_X_insert_113 (lv_at hl 1 rfl) ?_
              refine ht_cv HW (va_runI (own := R_X) (As := [.ref km, .int pv, .ref mf, .ref be]) (rest := [.ref Bq, .ref ab, .ref x]) ⟨hx, hb, hml, hown, htb⟩ (c_B_init l g u23 (ka := km) (z := mf) (on := be) (lv := pv) h_Bq) (cwI 4 htb g_B_init rfl rfl rfl (htb _ wd_8) (htb _ wd_161) (htb _ wd_162) rfl (by decide +kernel) ⟨Nat.le_of_ble_eq_true rfl, Nat.le_of_ble_eq_true rfl⟩) (HW.preS _) rfl rfl hl.1 rfl (lv_room (Nat.le_of_ble_eq_true rfl)) d_X_insert_115 ⟨Nat.le_of_ble_eq_true rfl, Nat.le_of_ble_eq_true rfl⟩) (fun u24 H locs pb HW => ?_)
              obtain ⟨qh, hq_qh, eu24⟩ := pb
              have hBq0 := h_Bq
              have hX : ht_at u24 x (.inr (0, [.ref kA, .ref dg, .ref op, .ref t, .int cnt, .ref sb, .ref la, .ref en, .int ei]) : va_E) := by rw [eu24]; exact ht_at_ne (ht_at_old hX hq_qh) n_x_Bq
              have hK : ht_at u24 kA (ht_al g 4 (ht_kf k)) := by rw [eu24]; exact ht_at_ne (ht_at_old hK hq_qh) n_kA_Bq
              have hM : ht_at u24 mf (.inr (2, [.ref km, .int 256, .ref hm, .int 0, .ref vm]) : va_E) := by rw [eu24]; exact ht_at_ne (ht_at_old hM hq_qh) n_mf_Bq
              have hkm : ht_at u24 km (ht_al g 4 (ht_kf k)) := by rw [eu24]; exact ht_at_ne (ht_at_old hkm hq_qh) n_km_Bq
              have hhm : ht_at u24 hm (ht_al g 4 (fun _ => 0)) := by rw [eu24]; exact ht_at_ne (ht_at_old hhm hq_qh) n_hm_Bq
              have hvm : ht_at u24 vm (ht_al g 4 (ht_kf v)) := by rw [eu24]; exact ht_at_ne (ht_at_old hvm hq_qh) n_vm_Bq
              have hbe : ht_at u24 be (ht_nc (ht_sf (N1 be) false) ((A be).1) ((A be).2.1) ((A be).2.2)) := by rw [eu24]; exact ht_at_ne (ht_at_old hbe hq_qh) n_be_Bq
              have hab : ht_at u24 ab (.inr (3, [.ref (A ab).1, .int (nI (ht_rl (N ab))), .ref (A ab).2.1, .int (ht_b1 (ht_rf (N1 ab))), .ref zc.1, .ref zc.2]) : va_E) := by rw [eu24]; exact ht_at_ne (ht_at_old hab hq_qh) n_ab_Bq
              have n_Bq_qh : Bq ≠ qh := fun z9 => hq_qh (by rw [← z9]; exact hBq0.1)
              have h_Bq : ht_at u24 Bq (.inr (3, [.ref km, .int pv, .ref qh, .int 0, .ref mf, .ref be]) : va_E) := by rw [eu24]; exact ht_at_self (ht_at_old h_Bq hq_qh)
              have h_qh : ht_at u24 qh (ht_al g 4 (fun _ => 0)) := by rw [eu24]; exact ht_at_ne ht_at_new n_Bq_qh.symm
              have hBqF : Bq ∉ F := fun z9 => hq_Bq (by exact (hN2 Bq z9).1.1)
              have hN4 : ht_Nd g u24 (va_up N1 be (ht_sf (N1 be) false)) A F := by rw [eu24]; exact ((hu3N).nw hq_qh).upo (ht_at_old hBq0 hq_qh) hBqF
              refine ht_cv HW (va_runV (own := R_X) (C := R_X) (As := [.ref ab, .ref Bq]) (rest := []) ⟨hx, hb, hml, hown, htb⟩ (c_X_hang_S l g u24 (top := some t) hX hK (by omega) hab Bq) (cwV 2 htb (ht_gv wd_178 wd_180 sl_4 wd_1 g_X_hang) rfl rfl rfl (by decide +kernel) ⟨Nat.le_of_ble_eq_true rfl, Nat.le_of_ble_eq_true rfl⟩) (HW.preV hX rfl _) rfl rfl hl.1 rfl (lv_room (Nat.le_of_ble_eq_true rfl)) d_X_insert_118 ⟨Nat.le_of_ble_eq_true rfl, Nat.le_of_ble_eq_true rfl⟩) (fun u25 H locs ph5 HW => ?_)
              have hM : ht_at u25 mf (.inr (2, [.ref km, .int 256, .ref hm, .int 0, .ref vm]) : va_E) := by rw [ph5]; exact ht_at_ne hM n_mf_ab
              have hkm : ht_at u25 km (ht_al g 4 (ht_kf k)) := by rw [ph5]; exact ht_at_ne hkm n_km_ab
              have hhm : ht_at u25 hm (ht_al g 4 (fun _ => 0)) := by rw [ph5]; exact ht_at_ne hhm n_hm_ab
              have hvm : ht_at u25 vm (ht_al g 4 (ht_kf v)) := by rw [ph5]; exact ht_at_ne hvm n_vm_ab
              have h_Bq : ht_at u25 Bq (.inr (3, [.ref km, .int pv, .ref qh, .int 0, .ref mf, .ref be]) : va_E) := by rw [ph5]; exact ht_at_ne h_Bq (Ne.symm n_ab_Bq)
              have h_qh : ht_at u25 qh (ht_al g 4 (fun _ => 0)) := by rw [ph5]; exact ht_at_ne h_qh (ht_ne_lo h_qh hab)
              have hX5 : ht_at u25 x (.inr (0, [.ref kA, .ref dg, .ref op, va_rf (some t), .int cnt, .ref sb, .ref la, .ref en, .int ei])) := by rw [ph5]; exact ht_at_ne hX n_x_ab
              have hN5 : ht_Nd g u25 (va_up (va_up N1 be (ht_sf (N1 be) false)) ab (ht_spy (N1 ab) (.inr (ht_zo (zc.1, zc.2) (ht_bit k (ht_rl (N ab))) Bq)))) A F := by
                have h9 := hN4.sp (zo' := ht_zo (zc.1, zc.2) (ht_bit k (ht_rl (N ab))) Bq) habF (zo := zc) (by rw [va_up_ne _ _ n_be_ab.symm]; exact (hmk.rp ab).1.trans habp)
                rw [va_up_ne _ _ n_be_ab.symm, (hmk.rp ab).2.2.1] at h9
                rw [ph5]
                exact h9
              have hmBq : mf ≠ Bq := n_mf_Bq
              have h_Bq : ht_at u25 Bq (.inr (3, [.ref km, .int (nI pl), .ref qh, .int 0, .ref (ht_zo (be, be) (ht_bit k pl) mf).1, .ref (ht_zo (be, be) (ht_bit k pl) mf).2])) := by rw [hbit, ← epv]; exact h_Bq
              have hNF := ht_Nd_ext (p := pl) (zo := ht_zo (be, be) (ht_bit k pl) mf) hN5 hmF hBqF hmBq hM hkm hhm hvm h_Bq h_qh
              have hpu := ht_ins_pure (v := v) (B := Bq) (N3 := (va_up (va_up N1 be (ht_sf (N1 be) false)) ab (ht_spy (N1 ab) (.inr (ht_zo (zc.1, zc.2) (ht_bit k (ht_rl (N ab))) Bq))))) hT hFH hsl hmk hpl hmax hqs epl.symm hmF hBqF hmBq (fun a ha => by
                by_cases e8 : a = ab
                · rw [e8, va_up_self, if_neg n_be_ab.symm]
                  exact ⟨(hmk.rp ab).2.1, (hmk.rp ab).2.2.1, (hmk.rp ab).2.2.2, rfl⟩
                · rw [va_up_ne _ _ e8]
                  by_cases e9 : a = be
                  · rw [if_pos e9, e9, va_up_self]
                    exact ⟨(hmk.rp be).2.1, (hmk.rp be).2.2.1, (hmk.rp be).2.2.2, rfl⟩
                  · rw [if_neg e9, va_up_ne _ _ e9]
                    exact ⟨(hmk.rp a).2.1, (hmk.rp a).2.2.1, (hmk.rp a).2.2.2, rfl⟩) (fun a ha hna => by
                have e8 : a ≠ ab := fun z9 => hna (by rw [z9])
                rw [va_up_ne _ _ e8]
                by_cases e9 : a = be
                · rw [e9, va_up_self]
                  exact (hmk.rp be).1
                · rw [va_up_ne _ _ e9]
                  exact (hmk.rp a).1) (fun a zo e9 hz9 => by
                cases e9
                rw [va_up_self]
                rw [habp] at hz9
                cases hz9
                rfl)
              rw [if_neg (fun z9 => by cases z9)] at hpu
              have hframe : ht_fr (fun b => b ∈ F ∨ b = x) w u25 := by
                have f1 : ht_fr (fun b => b ∈ F ∨ b = x) w u20 := by
                  rw [hu20]
                  exact (hfr1.mono (fun b h9 => Or.inl h9)).trans (ht_fr.up (Or.inl hbeF))
                have f2 : ht_fr (fun b => b ∈ F ∨ b = x) w u23 := by
                  rw [hu23]
                  exact f1.trans (ht_fr.nw hq_Bq)
                have hBw : Bq ∉ w.1 ∨ Bq ∈ F ∨ Bq = x := by
                  by_cases z9 : Bq ∈ F ∨ Bq = x
                  · exact Or.inr z9
                  · exact Or.inl (fun y9 => hq_Bq (f1 Bq y9 z9).1)
                have f3 : ht_fr (fun b => b ∈ F ∨ b = x) w u24 := by
                  rw [eu24]
                  intro b9 hb9 hn9
                  obtain ⟨y1, y2⟩ := (f2.trans (ht_fr.nw hq_qh)) b9 hb9 hn9
                  refine ⟨y1, ?_⟩
                  have nB : b9 ≠ Bq := fun z9 => hq_Bq ((f1 Bq (by rw [← z9]; exact hb9) (by rw [← z9]; exact hn9)).1)
                  exact (va_up_ne _ _ nB).trans y2
                rw [ph5]
                exact f3.trans (ht_fr.up (Or.inl habF))
              have hBw : Bq ∉ w.1 := fun y9 => by
                by_cases z9 : Bq ∈ F ∨ Bq = x
                · rcases z9 with z9 | z9
                  · exact hBqF z9
                  · exact n_x_Bq z9.symm
                · exact hq_Bq (by rw [hu20]; exact ((hfr1.mono (fun b h9 => Or.inl h9)) Bq y9 z9).1)
              have hqw : qh ∉ w.1 := fun y9 => by
                by_cases z9 : qh ∈ F ∨ qh = x
                · rcases z9 with z9 | z9
                  · exact hN5.l h_qh z9
                  · exact ht_ne_lo h_qh hX5 z9
                · exact hq_qh (by rw [hu23, hu20]; exact List.mem_append_left _ ((hfr1.mono (fun b h9 => Or.inl h9)) qh y9 z9).1)
              refine ht_vret hx hb hr hlocks HW ⟨_, _, mf :: Bq :: F, some t, hX5, hNF, hpu.1, hpu.2, hframe, Or.inr ⟨Bq, qh, rfl, rfl, hBw, hqw, n_Bq_qh, _, by rw [va_up_self]; rfl⟩, fun a e9 v' hv' => ?_⟩ d_X_insert_121
              have n1 : a ≠ Bq := fun z9 => hBqF (by rw [← z9]; exact e9)
              have n2 : a ≠ mf := fun z9 => hmF (by rw [← z9]; exact e9)
              rw [va_up_ne _ _ n1, va_up_ne _ _ n2] at hv'
              by_cases e8 : a = ab
              · rw [e8, va_up_self] at hv'
                cases hv'
              · rw [va_up_ne _ _ e8] at hv'
                by_cases e7 : a = be
                · rw [e7, va_up_self] at hv'
                  rw [e7]
                  exact (hmk.rp be).1.symm.trans hv'
                · rw [va_up_ne _ _ e7] at hv'
                  exact (hmk.rp a).1.symm.trans hv'
            · exact absurd rfl c106
          · exact absurd rfl c95
        · refine W.eq (g2 := F0 _ 79 ls [.int 1]) rfl ?_
          refine lv_istore (lv' := [(6, .int 1), (5, .ref be), (4, .ref ab), (3, .int pv), (2, .ref b), (0, .ref x), (1, .ref mf)]) hx hb d_X_insert_79 hl (by decide) rfl (fun ls hl => ?_)
          refine lv_aload_n hx hb d_X_insert_81 rfl (lv_at hl 5 rfl) ?_
          refine lv_aload hx hb d_X_insert_82 (lv_at hl 2 rfl) ?_
          refine ht_new (C := R_B) (T := F_B) (N := 6) (ci := 3) (fs := [.null, .int 0, .null, .int 0, .null, .null]) hx hb htb i_B t_B t_B_ok hown (htb _ wd_87) (htb _ wd_160) (htb _ wd_8) HW rfl (fun j hj => by rcases (show j = 0 ∨ j = 1 ∨ j = 2 ∨ j = 3 ∨ j = 4 ∨ j = 5 by omega) with rfl | rfl | rfl | rfl | rfl | rfl <;> rfl) (Nat.le_of_ble_eq_true rfl) (Nat.le_of_ble_eq_true rfl) d_X_insert_84 (fun Bq H hq_Bq HW => ?_)
          obtain ⟨u26, hu26⟩ : ∃ zW : ht_W, zW = ht_nw u20 Bq (.inr (3, [.null, .int 0, .null, .int 0, .null, .null]) : va_E) := ⟨_, rfl⟩
          have HW := HW.to hu26.symm
          have n_x_Bq : x ≠ Bq := fun z9 => hq_Bq (by rw [← z9]; exact hX.1)
          have n_kA_Bq : kA ≠ Bq := fun z9 => hq_Bq (by rw [← z9]; exact hK.1)
          have n_mf_Bq : mf ≠ Bq := fun z9 => hq_Bq (by rw [← z9]; exact hM.1)
          have n_km_Bq : km ≠ Bq := fun z9 => hq_Bq (by rw [← z9]; exact hkm.1)
          have n_hm_Bq : hm ≠ Bq := fun z9 => hq_Bq (by rw [← z9]; exact hhm.1)
          have n_vm_Bq : vm ≠ Bq := fun z9 => hq_Bq (by rw [← z9]; exact hvm.1)
          have n_be_Bq : be ≠ Bq := fun z9 => hq_Bq (by rw [← z9]; exact hbe.1)
          have n_ab_Bq : ab ≠ Bq := fun z9 => hq_Bq (by rw [← z9]; exact hab.1)
          have hX : ht_at u26 x (.inr (0, [.ref kA, .ref dg, .ref op, .ref t, .int cnt, .ref sb, .ref la, .ref en, .int ei]) : va_E) := by rw [hu26]; exact ht_at_old hX hq_Bq
          have hK : ht_at u26 kA (ht_al g 4 (ht_kf k)) := by rw [hu26]; exact ht_at_old hK hq_Bq
          have hM : ht_at u26 mf (.inr (2, [.ref km, .int 256, .ref hm, .int 0, .ref vm]) : va_E) := by rw [hu26]; exact ht_at_old hM hq_Bq
          have hkm : ht_at u26 km (ht_al g 4 (ht_kf k)) := by rw [hu26]; exact ht_at_old hkm hq_Bq
          have hhm : ht_at u26 hm (ht_al g 4 (fun _ => 0)) := by rw [hu26]; exact ht_at_old hhm hq_Bq
          have hvm : ht_at u26 vm (ht_al g 4 (ht_kf v)) := by rw [hu26]; exact ht_at_old hvm hq_Bq
          have hbe : ht_at u26 be (ht_nc (ht_sf (N1 be) false) ((A be).1) ((A be).2.1) ((A be).2.2)) := by rw [hu26]; exact ht_at_old hbe hq_Bq
          have hab : ht_at u26 ab (.inr (3, [.ref (A ab).1, .int (nI (ht_rl (N ab))), .ref (A ab).2.1, .int (ht_b1 (ht_rf (N1 ab))), .ref zc.1, .ref zc.2]) : va_E) := by rw [hu26]; exact ht_at_old hab hq_Bq
          have h_Bq : ht_at u26 Bq (.inr (3, [.null, .int 0, .null, .int 0, .null, .null]) : va_E) := by rw [hu26]; exact ht_at_new
          have hu3N : ht_Nd g u26 (va_up N1 be (ht_sf (N1 be) false)) A F := by rw [hu26]; exact hN2.nw hq_Bq
          refine lv_dup hx hb d_X_insert_87 rfl ?_
          refine lv_aload_n hx hb d_X_insert_88 rfl (lv_at hl 6 rfl) ?_
          refine ht_get (C := R_L) (T := F_L) (N := 5) (v := .ref km) hx hb htb i_L hown HW hM rfl 0 (by decide) (htb _ wd_128) (fun x h9 => u_same (htb _ wd_129) x h9) rfl d_X_insert_89 ?_
          refine lv_iload_n hx hb d_X_insert_92 rfl (lv_at hl 3 rfl) ?_
          refine lv_iload hx hb d_X_insert_93 (lv_at hl 0 rfl) ?_
          refine lv_if_eq (tgt := 103) hx hb d_X_insert_95 (by decide) (fun c95 => ?_) (fun c95 => ?_)
          · exact absurd c95 (by decide)
          · refine lv_aload hx hb d_X_insert_98 (lv_at hl 1 rfl) ?_
            refine lv_goto (tgt := 104) hx hb d_X_insert_100 (by decide) ?_
            refine lv_iload hx hb d_X_insert_104 (lv_at hl 0 rfl) ?_
            refine lv_if_eq (tgt := 113) hx hb d_X_insert_106 (by decide) (fun c106 => ?_) (fun c106 => ?_)
            · exact absurd c106 (by decide)
            · refine lv_aload_n hx hb d_X_insert_109 rfl (lv_at hl 6 rfl) ?_
              refine lv_goto (tgt := 115) hx hb d_X_insert_110 (by decide) ?_
              refine ht_cv HW (va_runI (own := R_X) (As := [.ref km, .int pv, .ref be, .ref mf]) (rest := [.ref Bq, .ref ab, .ref x]) ⟨hx, hb, hml, hown, htb⟩ (c_B_init l g u26 (ka := km) (z := be) (on := mf) (lv := pv) h_Bq) (cwI 4 htb g_B_init rfl rfl rfl (htb _ wd_8) (htb _ wd_161) (htb _ wd_162) rfl (by decide +kernel) ⟨Nat.le_of_ble_eq_true rfl, Nat.le_of_ble_eq_true rfl⟩) (HW.preS _) rfl rfl hl.1 rfl (lv_room (Nat.le_of_ble_eq_true rfl)) d_X_insert_115 ⟨Nat.le_of_ble_eq_true rfl, Nat.le_of_ble_eq_true rfl⟩) (fun u27 H locs pb HW => ?_)
              obtain ⟨qh, hq_qh, eu27⟩ := pb
              have hBq0 := h_Bq
              have hX : ht_at u27 x (.inr (0, [.ref kA, .ref dg, .ref op, .ref t, .int cnt, .ref sb, .ref la, .ref en, .int ei]) : va_E) := by rw [eu27]; exact ht_at_ne (ht_at_old hX hq_qh) n_x_Bq
              have hK : ht_at u27 kA (ht_al g 4 (ht_kf k)) := by rw [eu27]; exact ht_at_ne (ht_at_old hK hq_qh) n_kA_Bq
              have hM : ht_at u27 mf (.inr (2, [.ref km, .int 256, .ref hm, .int 0, .ref vm]) : va_E) := by rw [eu27]; exact ht_at_ne (ht_at_old hM hq_qh) n_mf_Bq
              have hkm : ht_at u27 km (ht_al g 4 (ht_kf k)) := by rw [eu27]; exact ht_at_ne (ht_at_old hkm hq_qh) n_km_Bq
              have hhm : ht_at u27 hm (ht_al g 4 (fun _ => 0)) := by rw [eu27]; exact ht_at_ne (ht_at_old hhm hq_qh) n_hm_Bq
              have hvm : ht_at u27 vm (ht_al g 4 (ht_kf v)) := by rw [eu27]; exact ht_at_ne (ht_at_old hvm hq_qh) n_vm_Bq
              have hbe : ht_at u27 be (ht_nc (ht_sf (N1 be) false) ((A be).1) ((A be).2.1) ((A be).2.2)) := by rw [eu27]; exact ht_at_ne (ht_at_old hbe hq_qh) n_be_Bq
              have hab : ht_at u27 ab (.inr (3, [.ref (A ab).1, .int (nI (ht_rl (N ab))), .ref (A ab).2.1, .int (ht_b1 (ht_rf (N1 ab))), .ref zc.1, .ref zc.2]) : va_E) := by rw [eu27]; exact ht_at_ne (ht_at_old hab hq_qh) n_ab_Bq
              have n_Bq_qh : Bq ≠ qh := fun z9 => hq_qh (by rw [← z9]; exact hBq0.1)
              have h_Bq : ht_at u27 Bq (.inr (3, [.ref km, .int pv, .ref qh, .int 0, .ref be, .ref mf]) : va_E) := by rw [eu27]; exact ht_at_self (ht_at_old h_Bq hq_qh)
              have h_qh : ht_at u27 qh (ht_al g 4 (fun _ => 0)) := by rw [eu27]; exact ht_at_ne ht_at_new n_Bq_qh.symm
              have hBqF : Bq ∉ F := fun z9 => hq_Bq (by exact (hN2 Bq z9).1.1)
              have hN4 : ht_Nd g u27 (va_up N1 be (ht_sf (N1 be) false)) A F := by rw [eu27]; exact ((hu3N).nw hq_qh).upo (ht_at_old hBq0 hq_qh) hBqF
              refine ht_cv HW (va_runV (own := R_X) (C := R_X) (As := [.ref ab, .ref Bq]) (rest := []) ⟨hx, hb, hml, hown, htb⟩ (c_X_hang_S l g u27 (top := some t) hX hK (by omega) hab Bq) (cwV 2 htb (ht_gv wd_178 wd_180 sl_4 wd_1 g_X_hang) rfl rfl rfl (by decide +kernel) ⟨Nat.le_of_ble_eq_true rfl, Nat.le_of_ble_eq_true rfl⟩) (HW.preV hX rfl _) rfl rfl hl.1 rfl (lv_room (Nat.le_of_ble_eq_true rfl)) d_X_insert_118 ⟨Nat.le_of_ble_eq_true rfl, Nat.le_of_ble_eq_true rfl⟩) (fun u28 H locs ph5 HW => ?_)
              have hM : ht_at u28 mf (.inr (2, [.ref km, .int 256, .ref hm, .int 0, .ref vm]) : va_E) := by rw [ph5]; exact ht_at_ne hM n_mf_ab
              have hkm : ht_at u28 km (ht_al g 4 (ht_kf k)) := by rw [ph5]; exact ht_at_ne hkm n_km_ab
              have hhm : ht_at u28 hm (ht_al g 4 (fun _ => 0)) := by rw [ph5]; exact ht_at_ne hhm n_hm_ab
              have hvm : ht_at u28 vm (ht_al g 4 (ht_kf v)) := by rw [ph5]; exact ht_at_ne hvm n_vm_ab
              have h_Bq : ht_at u28 Bq (.inr (3, [.ref km, .int pv, .ref qh, .int 0, .ref be, .ref mf]) : va_E) := by rw [ph5]; exact ht_at_ne h_Bq (Ne.symm n_ab_Bq)
              have h_qh : ht_at u28 qh (ht_al g 4 (fun _ => 0)) := by rw [ph5]; exact ht_at_ne h_qh (ht_ne_lo h_qh hab)
              have hX5 : ht_at u28 x (.inr (0, [.ref kA, .ref dg, .ref op, va_rf (some t), .int cnt, .ref sb, .ref la, .ref en, .int ei])) := by rw [ph5]; exact ht_at_ne hX n_x_ab
              have hN5 : ht_Nd g u28 (va_up (va_up N1 be (ht_sf (N1 be) false)) ab (ht_spy (N1 ab) (.inr (ht_zo (zc.1, zc.2) (ht_bit k (ht_rl (N ab))) Bq)))) A F := by
                have h9 := hN4.sp (zo' := ht_zo (zc.1, zc.2) (ht_bit k (ht_rl (N ab))) Bq) habF (zo := zc) (by rw [va_up_ne _ _ n_be_ab.symm]; exact (hmk.rp ab).1.trans habp)
                rw [va_up_ne _ _ n_be_ab.symm, (hmk.rp ab).2.2.1] at h9
                rw [ph5]
                exact h9
              have hmBq : mf ≠ Bq := n_mf_Bq
              have h_Bq : ht_at u28 Bq (.inr (3, [.ref km, .int (nI pl), .ref qh, .int 0, .ref (ht_zo (be, be) (ht_bit k pl) mf).1, .ref (ht_zo (be, be) (ht_bit k pl) mf).2])) := by rw [hbit, ← epv]; exact h_Bq
              have hNF := ht_Nd_ext (p := pl) (zo := ht_zo (be, be) (ht_bit k pl) mf) hN5 hmF hBqF hmBq hM hkm hhm hvm h_Bq h_qh
              have hpu := ht_ins_pure (v := v) (B := Bq) (N3 := (va_up (va_up N1 be (ht_sf (N1 be) false)) ab (ht_spy (N1 ab) (.inr (ht_zo (zc.1, zc.2) (ht_bit k (ht_rl (N ab))) Bq))))) hT hFH hsl hmk hpl hmax hqs epl.symm hmF hBqF hmBq (fun a ha => by
                by_cases e8 : a = ab
                · rw [e8, va_up_self, if_neg n_be_ab.symm]
                  exact ⟨(hmk.rp ab).2.1, (hmk.rp ab).2.2.1, (hmk.rp ab).2.2.2, rfl⟩
                · rw [va_up_ne _ _ e8]
                  by_cases e9 : a = be
                  · rw [if_pos e9, e9, va_up_self]
                    exact ⟨(hmk.rp be).2.1, (hmk.rp be).2.2.1, (hmk.rp be).2.2.2, rfl⟩
                  · rw [if_neg e9, va_up_ne _ _ e9]
                    exact ⟨(hmk.rp a).2.1, (hmk.rp a).2.2.1, (hmk.rp a).2.2.2, rfl⟩) (fun a ha hna => by
                have e8 : a ≠ ab := fun z9 => hna (by rw [z9])
                rw [va_up_ne _ _ e8]
                by_cases e9 : a = be
                · rw [e9, va_up_self]
                  exact (hmk.rp be).1
                · rw [va_up_ne _ _ e9]
                  exact (hmk.rp a).1) (fun a zo e9 hz9 => by
                cases e9
                rw [va_up_self]
                rw [habp] at hz9
                cases hz9
                rfl)
              rw [if_neg (fun z9 => by cases z9)] at hpu
              have hframe : ht_fr (fun b => b ∈ F ∨ b = x) w u28 := by
                have f1 : ht_fr (fun b => b ∈ F ∨ b = x) w u20 := by
                  rw [hu20]
                  exact (hfr1.mono (fun b h9 => Or.inl h9)).trans (ht_fr.up (Or.inl hbeF))
                have f2 : ht_fr (fun b => b ∈ F ∨ b = x) w u26 := by
                  rw [hu26]
                  exact f1.trans (ht_fr.nw hq_Bq)
                have hBw : Bq ∉ w.1 ∨ Bq ∈ F ∨ Bq = x := by
                  by_cases z9 : Bq ∈ F ∨ Bq = x
                  · exact Or.inr z9
                  · exact Or.inl (fun y9 => hq_Bq (f1 Bq y9 z9).1)
                have f3 : ht_fr (fun b => b ∈ F ∨ b = x) w u27 := by
                  rw [eu27]
                  intro b9 hb9 hn9
                  obtain ⟨y1, y2⟩ := (f2.trans (ht_fr.nw hq_qh)) b9 hb9 hn9
                  refine ⟨y1, ?_⟩
                  have nB : b9 ≠ Bq := fun z9 => hq_Bq ((f1 Bq (by rw [← z9]; exact hb9) (by rw [← z9]; exact hn9)).1)
                  exact (va_up_ne _ _ nB).trans y2
                rw [ph5]
                exact f3.trans (ht_fr.up (Or.inl habF))
              have hBw : Bq ∉ w.1 := fun y9 => by
                by_cases z9 : Bq ∈ F ∨ Bq = x
                · rcases z9 with z9 | z9
                  · exact hBqF z9
                  · exact n_x_Bq z9.symm
                · exact hq_Bq (by rw [hu20]; exact ((hfr1.mono (fun b h9 => Or.inl h9)) Bq y9 z9).1)
              have hqw : qh ∉ w.1 := fun y9 => by
                by_cases z9 : qh ∈ F ∨ qh = x
                · rcases z9 with z9 | z9
                  · exact hN5.l h_qh z9
                  · exact ht_ne_lo h_qh hX5 z9
                · exact hq_qh (by rw [hu26, hu20]; exact List.mem_append_left _ ((hfr1.mono (fun b h9 => Or.inl h9)) qh y9 z9).1)
              refine ht_vret hx hb hr hlocks HW ⟨_, _, mf :: Bq :: F, some t, hX5, hNF, hpu.1, hpu.2, hframe, Or.inr ⟨Bq, qh, rfl, rfl, hBw, hqw, n_Bq_qh, _, by rw [va_up_self]; rfl⟩, fun a e9 v' hv' => ?_⟩ d_X_insert_121
              have n1 : a ≠ Bq := fun z9 => hBqF (by rw [← z9]; exact e9)
              have n2 : a ≠ mf := fun z9 => hmF (by rw [← z9]; exact e9)
              rw [va_up_ne _ _ n1, va_up_ne _ _ n2] at hv'
              by_cases e8 : a = ab
              · rw [e8, va_up_self] at hv'
                cases hv'
              · rw [va_up_ne _ _ e8] at hv'
                by_cases e7 : a = be
                · rw [e7, va_up_self] at hv'
                  rw [e7]
                  exact (hmk.rp be).1.symm.trans hv'
                · rw [va_up_ne _ _ e7] at hv'
                  exact (hmk.rp a).1.symm.trans hv'
