theorem ht_fr.upn {S : Nat → Prop} {w u : ht_W} {a : Nat} {e : va_E} (h : ht_fr S w u) (hn : a ∉ w.1) : ht_fr S w (ht_up u a e) := fun b hb hs => ⟨(h b hb hs).1, (va_up_ne _ _ (fun z => hn (by rw [← z]; exact hb))).trans (h b hb hs).2⟩
theorem ht_fr.nwn {S : Nat → Prop} {w u : ht_W} {a : Nat} {e : va_E} (h : ht_fr S w u) (hn : a ∉ w.1) : ht_fr S w (ht_nw u a e) := fun b hb hs => ⟨List.mem_append_left _ (h b hb hs).1, (va_up_ne _ _ (fun z => hn (by rw [← z]; exact hb))).trans (h b hb hs).2⟩
theorem ht_fr.out {S : Nat → Prop} {w u : ht_W} {q : Nat} (h : ht_fr S w u) (hS : ¬ S q) (hq : q ∉ u.1) : q ∉ w.1 := fun z => hq (h q z hS).1
theorem ht_at_old2 {w : ht_W} {q q' b : Nat} {e e' eb : va_E} (h : ht_at w b eb) (h1 : q ∉ w.1) (h2 : q' ∉ w.1) (hne : q ≠ q') : ht_at (ht_nw (ht_nw w q e) q' e') b eb := by
  refine ht_at_old (ht_at_old h h1) (fun z => ?_)
  rcases List.mem_append.mp z with y | y
  · exact h2 y
  · exact hne (List.mem_singleton.mp y).symm
theorem ht_Nd.in {g : ht_G} {w : ht_W} {N : ht_N} {A : ht_AA} {F : List Nat} (h : ht_Nd g w N A F) {a : Nat} (ha : a ∈ F) : a ∈ w.1 := (h a ha).1.1
theorem ht_tgs.congr {tg : Nat → Nat × Nat} {X : Nat → Nat} {N N' : ht_N} {A : ht_AA} {F : List Nat} (h : ht_tgs tg X N A F) (hp : ∀ a ∈ F, ∀ v, ht_rp (N' a) = .inl v → ∃ v', ht_rp (N a) = .inl v') : ht_tgs tg X N' A F := ⟨h.1, fun a ha => ⟨(h.2 a ha).1, (h.2 a ha).2.1, (h.2 a ha).2.2.1, fun v hv => (hp a ha v hv).elim (fun v' hv' => (h.2 a ha).2.2.2 v' hv')⟩⟩
/-- a value is set: the pure side -/
theorem ht_set_pure {dgf : Int32 → ht_K → ht_K → ht_K} {N N1 : ht_N} {F : List Nat} {top : Option Nat} {L : ht_L} {k v0 v : ht_K} {b : Nat} (hT : ht_T N F top L) (hF : ht_FH dgf N F top L) (hmk : ht_mkd N F k 256 N1) (hb : b ∈ F) (hp : ht_rp (N b) = .inl v0) (hk : ht_rk (N b) = k) :
    ht_T (va_up N1 b (ht_spy (ht_sf (N1 b) false) (.inl v))) F top (ht_sv L k v) ∧ ht_FH dgf (va_up N1 b (ht_spy (ht_sf (N1 b) false) (.inl v))) F top (ht_sv L k v) := by
  have hkl : ∀ a ∈ F, ht_rk ((va_up N1 b (ht_spy (ht_sf (N1 b) false) (.inl v))) a) = ht_rk (N a) ∧ ht_rl ((va_up N1 b (ht_spy (ht_sf (N1 b) false) (.inl v))) a) = ht_rl (N a) := by
    intro a ha
    by_cases e : a = b
    · rw [e, va_up_self]
      exact ⟨(hmk.rp b).2.1, (hmk.rp b).2.2.1⟩
    · rw [va_up_ne _ _ e]
      exact ⟨(hmk.rp a).2.1, (hmk.rp a).2.2.1⟩
  have hpn : ∀ a ∈ F, a ≠ b → ht_rp ((va_up N1 b (ht_spy (ht_sf (N1 b) false) (.inl v))) a) = ht_rp (N a) := by
    intro a ha e
    rw [va_up_ne _ _ e]
    exact (hmk.rp a).1
  have hpm : ht_rp ((va_up N1 b (ht_spy (ht_sf (N1 b) false) (.inl v))) b) = .inl v := by
    rw [va_up_self]
    rfl
  have hib : ht_in N b k := (hT.leaf_in hb hp k).mpr hk
  refine ⟨hT.setv hb hp hk hkl hpn hpm, ht_FH.setv hT hF hb hp hk hkl hpn hpm (fun a ha hr => ?_) (fun a ha hr hn => ?_)⟩
  · by_cases e : a = b
    · rw [e, va_up_self] at hr; cases hr
    · rw [va_up_ne _ _ e] at hr ⊢
      have hN1 : N1 a = N a := by
        rcases hmk.1 a with q | q
        · exact q
        · rw [q] at hr; cases hr
      refine ⟨by rw [← hN1]; exact hr, (hmk.rp a).2.2.2, fun hi => ?_⟩
      cases hpx : ht_rp (N a) with
      | inl y => exact e (hT.leaf_eq hb ha hp hpx (((hT.leaf_in ha hpx k).mp hi).trans hk.symm))
      | inr zo =>
        have := hmk.2.1 a ha hi ⟨zo, hpx⟩ (hT.half ha hpx false).2.1
        rw [this] at hr; cases hr
  · have e : a ≠ b := fun z => hn (by rw [z]; exact hib)
    rw [va_up_ne _ _ e, hmk.2.2 a hn]
    exact hr
/-- tags for the cells that a new key brings -/
def ht_tnew (w : ht_W) (tg : Nat → Nat × Nat) (mf km hm vm B : Nat) : Nat → Nat × Nat := fun b => if b ∈ w.1 then tg b else if b = mf then (2, 0) else if b = km then (3, 0) else if b = hm then (4, mf) else if b = vm then (5, mf) else if b = B then (2, 0) else (4, B)
theorem ht_tnew_old {w : ht_W} {tg : Nat → Nat × Nat} {mf km hm vm B b : Nat} (h : b ∈ w.1) : ht_tnew w tg mf km hm vm B b = tg b := if_pos h
set_option maxHeartbeats 4000000 in
set_option maxRecDepth 100000 in
theorem c_X_set (l : Launch) (g : ht_G) (w : ht_W) {dgf : Int32 → ht_K → ht_K → ht_K} {X : Nat → Nat} {tg : Nat → Nat × Nat} {k : ht_K} {N : ht_N} {A : ht_AA} {F : List Nat} {top : Option Nat} {L : ht_L} {dt : ht_D} {opf : Nat → Option Nat} {sbf lsf enf : Nat → Int64} {ei : Int32} (hR : ht_Rp dgf g w X tg k N A F top L dt opf sbf lsf enf ei) (hcap : L.length < 512) (v1 v2 v3 v4 : Int64) : Met l y_X_set ws_X_set ({ frames := 4, cells := 6, slots := 27, locals := 140 } : Room) (va_Pc [.ref (X 0), .long v1, .long v2, .long v3, .long v4] (ht_WS g w)) (ht_Qi g (fun r u => ∃ (tg' : Nat → Nat × Nat) (N' : ht_N) (A' : ht_AA) (F' : List Nat) (top' : Option Nat) (L' : ht_L), ht_Rp dgf g u X tg' k N' A' F' top' L' dt opf sbf lsf enf ei ∧ ht_fr (fun b => (tg b).1 ≠ 0) w u ∧ (∀ b ∈ w.1, tg' b = tg b) ∧ ((r = 0 ∧ (∃ v0, (k, v0) ∈ L) ∧ L' = ht_sv L k (v1, v2, v3, v4)) ∨ (r = 1 ∧ (∀ q ∈ L, q.1 ≠ k) ∧ L' = (k, (v1, v2, v3, v4)) :: L)))) 6 27 (ht_A g) := by
  refine Met.ofW (cc := b_X_set) (maxL := 11) (ret := (some .int)) (by decide) rfl ?_
  intro p e s m args below meth c s₁ BB hml hv
  obtain ⟨rfl, HW⟩ := hv
  have HW := ht_I.start HW
  have hx := BB.exec
  have hb := BB.bytes
  have hr := BB.returns
  have hts := atoms_spec (ws := ws_X_set) BB.pre
  have htb : ∀ w ∈ bg, w.before _ s = true := fun w h => hts w (List.mem_cons_of_mem _ h)
  have hown : s.vm.findClass R_X = some m.cls := findClass_of_methodNamed BB.named
  have hlocks := BB.notSynchronized
  have hl := lv_entry ([.ref (X 0), .long v1, .long v2, .long v3, .long v4]) (n := 11) (Nat.le_of_ble_eq_true rfl)
  rw [lg_entry_eq]
  generalize (lg_sl ([.ref (X 0), .long v1, .long v2, .long v3, .long v4]) ++ List.replicate (11 - (lg_sl ([.ref (X 0), .long v1, .long v2, .long v3, .long v4])).length) Slot.unset).toArray = ls at hl ⊢
  have hl : lv_has ls 11 [(0, .ref (X 0)), (1, .long v1), (3, .long v2), (5, .long v3), (7, .long v4)] := hl
  obtain ⟨hX, hK, hDg, hOp, hSb, hLs, hEn, hN, hT, hF, htg, hlen⟩ := id hR
  unfold ht_xo at hX
  have n_X_0_X_1 : X 0 ≠ X 1 := ht_tne (htg.1 0 (by decide)) (htg.1 1 (by decide)) (by decide)
  refine lv_aload_n hx hb d_X_set_0 rfl (lv_at hl 0 rfl) ?_
  refine ht_cq HW (va_runV (own := R_X) (C := R_X) (As := []) (rest := []) ⟨hx, hb, hml, hown, htb⟩ (c_X_leafOfKey l g w hX hK hN hT) (cwV 0 htb (ht_gv wd_79 wd_81 sl_0 wd_1 g_X_leafOfKey) rfl rfl rfl (by decide +kernel) ⟨Nat.le_of_ble_eq_true rfl, Nat.le_of_ble_eq_true rfl⟩) (HW.preV hX rfl _) rfl rfl hl.1 rfl (lv_room (Nat.le_of_ble_eq_true rfl)) d_X_set_1 ⟨Nat.le_of_ble_eq_true rfl, Nat.le_of_ble_eq_true rfl⟩) (fun q2 u1 H locs pn HW => ?_)
  obtain ⟨pn, eww⟩ := pn
  subst eww
  rcases pn with ⟨er, hnk⟩ | ⟨b, v0, er, hbF, hp, hbk⟩
  · subst er
    refine W.eq (g2 := F0 _ 4 ls [.null]) rfl ?_
    refine lv_astoreN (lv' := [(9, .null), (0, .ref (X 0)), (1, .long v1), (3, .long v2), (5, .long v3), (7, .long v4)]) hx hb d_X_set_4 hl (by decide) rfl (fun ls hl => ?_)
    refine lv_aloadN hx hb d_X_set_6 (lv_at hl 0 rfl) ?_
    refine lv_ifnullN (tgt := 41) hx hb d_X_set_8 (by decide) ?_
    refine lv_aload_n hx hb d_X_set_41 rfl (lv_at hl 1 rfl) ?_
    refine ht_get (C := R_X) (T := F_X) (N := 9) (v := .int (nI L.length)) hx hb htb i_X hown HW hX rfl 4 (by decide) (htb _ wd_44) (fun _ h9 => h9) rfl d_X_set_42 ?_
    refine lv_sipush (v := 512) hx hb d_X_set_45 (by decide) ?_
    refine lv_icmp_lt (tgt := 54) hx hb d_X_set_48 (by decide) (fun c48 => ?_) (fun c48 => ?_)
    · refine ht_new (C := R_L) (T := F_L) (N := 5) (ci := 2) (fs := [.null, .int 0, .null, .int 0, .null]) hx hb htb i_L t_L t_L_ok hown (htb _ wd_95) (htb _ wd_110) (htb _ wd_7) HW rfl (fun j hj => by rcases (show j = 0 ∨ j = 1 ∨ j = 2 ∨ j = 3 ∨ j = 4 by omega) with rfl | rfl | rfl | rfl | rfl <;> rfl) (Nat.le_of_ble_eq_true rfl) (Nat.le_of_ble_eq_true rfl) d_X_set_54 (fun mf H hq_mf HW => ?_)
      obtain ⟨u3, hu3⟩ : ∃ zW : ht_W, zW = ht_nw w mf (.inr (2, [.null, .int 0, .null, .int 0, .null]) : va_E) := ⟨_, rfl⟩
      have HW := HW.to hu3.symm
      have n_X_0_mf : (X 0) ≠ mf := fun z9 => hq_mf (by rw [← z9]; exact hX.1)
      have n_X_1_mf : (X 1) ≠ mf := fun z9 => hq_mf (by rw [← z9]; exact hK.1)
      have hX : ht_at u3 (X 0) (.inr (0, [.ref (X 1), .ref (X 2), .ref (X 5), va_rf top, .int (nI L.length), .ref (X 6), .ref (X 7), .ref (X 8), .int ei]) : va_E) := by rw [hu3]; exact ht_at_old hX hq_mf
      have hK : ht_at u3 (X 1) (ht_al g 4 (ht_kf k)) := by rw [hu3]; exact ht_at_old hK hq_mf
      have h_mf : ht_at u3 mf (.inr (2, [.null, .int 0, .null, .int 0, .null]) : va_E) := by rw [hu3]; exact ht_at_new
      refine lv_dup hx hb d_X_set_57 rfl ?_
      refine lv_aload_n hx hb d_X_set_58 rfl (lv_at hl 1 rfl) ?_
      refine ht_get (C := R_X) (T := F_X) (N := 9) (v := .ref (X 1)) hx hb htb i_X hown HW hX rfl 0 (by decide) (htb _ wd_40) (fun _ h9 => h9) rfl d_X_set_59 ?_
      refine ht_clone hx hb (hml.trans hl.1.symm) hown (htb _ wd_111) (htb _ wd_112) (htb _ wd_113) (htb _ wd_114) (htb _ wd_115) HW hK (Nat.le_of_ble_eq_true rfl) (Nat.le_of_ble_eq_true rfl) (Nat.le_of_ble_eq_true rfl) (Nat.le_of_ble_eq_true rfl) d_X_set_62 (fun km H hq_km HW => ?_)
      obtain ⟨u4, hu4⟩ : ∃ zW : ht_W, zW = ht_nw u3 km (ht_al g 4 (ht_kf k)) := ⟨_, rfl⟩
      have HW := HW.to hu4.symm
      have n_X_0_km : (X 0) ≠ km := fun z9 => hq_km (by rw [← z9]; exact hX.1)
      have n_X_1_km : (X 1) ≠ km := fun z9 => hq_km (by rw [← z9]; exact hK.1)
      have n_mf_km : mf ≠ km := fun z9 => hq_km (by rw [← z9]; exact h_mf.1)
      have hX : ht_at u4 (X 0) (.inr (0, [.ref (X 1), .ref (X 2), .ref (X 5), va_rf top, .int (nI L.length), .ref (X 6), .ref (X 7), .ref (X 8), .int ei]) : va_E) := by rw [hu4]; exact ht_at_old hX hq_km
      have hK : ht_at u4 (X 1) (ht_al g 4 (ht_kf k)) := by rw [hu4]; exact ht_at_old hK hq_km
      have h_mf : ht_at u4 mf (.inr (2, [.null, .int 0, .null, .int 0, .null]) : va_E) := by rw [hu4]; exact ht_at_old h_mf hq_km
      have h_km : ht_at u4 km (ht_al g 4 (ht_kf k)) := by rw [hu4]; exact ht_at_new
      refine ht_castJ hx hb hown (htb _ wd_117) HW h_km d_X_set_65 ?_
      have hX9 := hX
      have hK9 := hK
      refine ht_cv HW (va_runI (own := R_X) (As := [.ref km]) (rest := [.ref mf]) ⟨hx, hb, hml, hown, htb⟩ (c_L_init l g u4 (ka := km) h_mf) (cwI 1 htb g_L_init rfl rfl rfl (htb _ wd_7) (htb _ wd_118) (htb _ wd_119) rfl (by decide +kernel) ⟨Nat.le_of_ble_eq_true rfl, Nat.le_of_ble_eq_true rfl⟩) (HW.preS _) rfl rfl hl.1 rfl (lv_room (Nat.le_of_ble_eq_true rfl)) d_X_set_68 ⟨Nat.le_of_ble_eq_true rfl, Nat.le_of_ble_eq_true rfl⟩) (fun u5 H locs pl HW => ?_)
      obtain ⟨hm, vm, hq_hm, hq_vm, n_hm_vm, eu5⟩ := pl
      have n_mf_hm : mf ≠ hm := fun z9 => hq_hm (by rw [← z9]; exact h_mf.1)
      have n_mf_vm : mf ≠ vm := fun z9 => hq_vm (by rw [← z9]; exact h_mf.1)
      have n_km_hm : km ≠ hm := fun z9 => hq_hm (by rw [← z9]; exact h_km.1)
      have n_km_vm : km ≠ vm := fun z9 => hq_vm (by rw [← z9]; exact h_km.1)
      have hX : ht_at u5 (X 0) (.inr (0, [.ref (X 1), .ref (X 2), .ref (X 5), va_rf top, .int (nI L.length), .ref (X 6), .ref (X 7), .ref (X 8), .int ei]) : va_E) := by rw [eu5]; exact ht_at_ne (ht_at_old2 hX hq_hm hq_vm n_hm_vm) n_X_0_mf
      have hK : ht_at u5 (X 1) (ht_al g 4 (ht_kf k)) := by rw [eu5]; exact ht_at_ne (ht_at_old2 hK hq_hm hq_vm n_hm_vm) n_X_1_mf
      have h_km : ht_at u5 km (ht_al g 4 (ht_kf k)) := by rw [eu5]; exact ht_at_ne (ht_at_old2 h_km hq_hm hq_vm n_hm_vm) (Ne.symm n_mf_km)
      have h_mf : ht_at u5 mf (.inr (2, [.ref km, .int 256, .ref hm, .int 0, .ref vm]) : va_E) := by rw [eu5]; exact ht_at_self (ht_at_old2 h_mf hq_hm hq_vm n_hm_vm)
      have hvn : vm ∉ (ht_nw u4 hm (ht_al g 4 (fun _ => 0))).1 := fun z9 => (List.mem_append.mp z9).elim hq_vm (fun y9 => n_hm_vm (List.mem_singleton.mp y9).symm)
      have h_hm : ht_at u5 hm (ht_al g 4 (fun _ => 0)) := by rw [eu5]; exact ht_at_ne (ht_at_old ht_at_new hvn) n_mf_hm.symm
      have h_vm : ht_at u5 vm (ht_al g 4 (fun _ => 0)) := by rw [eu5]; exact ht_at_ne ht_at_new n_mf_vm.symm
      refine lv_astore (lv' := [(10, .ref mf), (9, .null), (0, .ref (X 0)), (1, .long v1), (3, .long v2), (5, .long v3), (7, .long v4)]) hx hb d_X_set_71 hl (by decide) rfl (fun ls hl => ?_)
      refine lv_aload hx hb d_X_set_73 (lv_at hl 0 rfl) ?_
      refine ht_get (C := R_L) (T := F_L) (N := 5) (v := .ref vm) hx hb htb i_L hown HW h_mf rfl 4 (by decide) (htb _ wd_126) (fun _ h9 => h9) rfl d_X_set_75 ?_
      refine lv_lload_n hx hb d_X_set_78 rfl (lv_at hl 3 rfl) ?_
      refine lv_lload_n hx hb d_X_set_79 rfl (lv_at hl 4 rfl) ?_
      refine lv_lload hx hb d_X_set_80 (lv_at hl 5 rfl) ?_
      refine lv_lload hx hb d_X_set_82 (lv_at hl 6 rfl) ?_
      refine ht_cv HW (va_runS (own := R_X) (As := [.ref vm, .long v1, .long v2, .long v3, .long v4]) (rest := []) ⟨hx, hb, hml, hown, htb⟩ (c_X_fill l g u5 h_vm v1 v2 v3 v4) (va_cwS 5 htb (ht_gs wd_72 wd_73 wd_1 g_X_fill) rfl rfl rfl (by decide +kernel) ⟨Nat.le_of_ble_eq_true rfl, Nat.le_of_ble_eq_true rfl⟩) (HW.preS _) rfl rfl hl.1 rfl (lv_room (Nat.le_of_ble_eq_true rfl)) d_X_set_84 ⟨Nat.le_of_ble_eq_true rfl, Nat.le_of_ble_eq_true rfl⟩) (fun u6 H locs pf HW => ?_)
      have hX : ht_at u6 (X 0) (.inr (0, [.ref (X 1), .ref (X 2), .ref (X 5), va_rf top, .int (nI L.length), .ref (X 6), .ref (X 7), .ref (X 8), .int ei]) : va_E) := by rw [pf]; exact ht_at_ne hX (fun z9 => hq_vm (by rw [← z9]; exact hX9.1))
      have hK : ht_at u6 (X 1) (ht_al g 4 (ht_kf k)) := by rw [pf]; exact ht_at_ne hK (fun z9 => hq_vm (by rw [← z9]; exact hK9.1))
      have h_mf : ht_at u6 mf (.inr (2, [.ref km, .int 256, .ref hm, .int 0, .ref vm]) : va_E) := by rw [pf]; exact ht_at_ne h_mf n_mf_vm
      have h_km : ht_at u6 km (ht_al g 4 (ht_kf k)) := by rw [pf]; exact ht_at_ne h_km n_km_vm
      have h_hm : ht_at u6 hm (ht_al g 4 (fun _ => 0)) := by rw [pf]; exact ht_at_ne h_hm n_hm_vm
      have h_vm : ht_at u6 vm (ht_al g 4 (ht_kf (v1, v2, v3, v4))) := by rw [pf]; exact ht_at_self h_vm
      refine lv_aload_n hx hb d_X_set_87 rfl (lv_at hl 2 rfl) ?_
      refine lv_aload hx hb d_X_set_88 (lv_at hl 0 rfl) ?_
      have hmw : mf ∉ w.1 := hq_mf
      have hkw : km ∉ w.1 := fun z9 => hq_km (by rw [hu3]; exact List.mem_append_left _ z9)
      have hhw : hm ∉ w.1 := fun z9 => hq_hm (by rw [hu4, hu3]; exact List.mem_append_left _ (List.mem_append_left _ z9))
      have hvw : vm ∉ w.1 := fun z9 => hq_vm (by rw [hu4, hu3]; exact List.mem_append_left _ (List.mem_append_left _ z9))
      have f0 : ht_fr (fun _ => False) w u6 := by
        rw [pf, eu5, hu4, hu3]
        exact (((((ht_fr.rf.nwn hmw).nwn hkw).nwn hhw).nwn hvw).upn hmw).upn hvw
      have hNi := hN.fr f0 (fun _ _ z9 => z9) (fun _ _ _ _ z9 => z9)
      have hmF : mf ∉ F := fun z9 => hmw (hN.in z9)
      have hXi := hX
      refine ht_cv HW (va_runV (own := R_X) (C := R_X) (As := [.ref mf]) (rest := []) ⟨hx, hb, hml, hown, htb⟩ (c_X_insert l g u6 hX hK hNi hT hF h_mf h_km h_hm h_vm hmF hnk) (cwV 1 htb (ht_gv wd_156 wd_158 sl_3 wd_1 g_X_insert) rfl rfl rfl (by decide +kernel) ⟨Nat.le_of_ble_eq_true rfl, Nat.le_of_ble_eq_true rfl⟩) (HW.preV hX rfl _) rfl rfl hl.1 rfl (lv_room (Nat.le_of_ble_eq_true rfl)) d_X_set_90 ⟨Nat.le_of_ble_eq_true rfl, Nat.le_of_ble_eq_true rfl⟩) (fun u7 H locs pi HW => ?_)
      obtain ⟨N', A', F', top', hX', hNd', hT', hFH', hfr', hcase, hleaf⟩ := pi
      have hX : ht_at u7 (X 0) (.inr (0, [.ref (X 1), .ref (X 2), .ref (X 5), va_rf top', .int (nI L.length), .ref (X 6), .ref (X 7), .ref (X 8), .int ei]) : va_E) := hX'
      refine lv_aload_n hx hb d_X_set_93 rfl (lv_at hl 2 rfl) ?_
      refine lv_dup hx hb d_X_set_94 rfl ?_
      refine ht_get (C := R_X) (T := F_X) (N := 9) (v := .int (nI L.length)) hx hb htb i_X hown HW hX rfl 4 (by decide) (htb _ wd_44) (fun _ h9 => h9) rfl d_X_set_95 ?_
      refine lv_iconst (v := 1) hx hb d_X_set_98 (by decide) ?_
      refine lv_iadd hx hb d_X_set_99 ?_
      refine lv_topi (fun cn ecn => ?_)
      refine ht_put (C := R_X) (T := F_X) (N := 9) (v := .int cn) (ty := .int) hx hb htb i_X t_X t_X_ok n_X hown HW hX rfl 4 (by decide) (htb _ wd_44) (fun _ h9 => h9) rfl (by decide +kernel) rfl rfl (Nat.le_of_ble_eq_true rfl) d_X_set_100 (fun H locs HW => ?_)
      obtain ⟨u8, hu8⟩ : ∃ zW : ht_W, zW = ht_up u7 (X 0) (.inr (0, [.ref (X 1), .ref (X 2), .ref (X 5), va_rf top', .int cn, .ref (X 6), .ref (X 7), .ref (X 8), .int ei]) : va_E) := ⟨_, rfl⟩
      have HW : ht_I g s u8 H locs := by rw [hu8]; exact HW
      have hX : ht_at u8 (X 0) (.inr (0, [.ref (X 1), .ref (X 2), .ref (X 5), va_rf top', .int cn, .ref (X 6), .ref (X 7), .ref (X 8), .int ei]) : va_E) := by rw [hu8]; exact ht_at_self hX
      refine lv_iconst (v := 1) hx hb d_X_set_103 (by decide) ?_
      have ecn2 : cn = nI ((k, (v1, v2, v3, v4)) :: L).length := by rw [ecn, nI_1]; rfl
      have hfrI : ht_fr (fun z9 => z9 ∈ F ∨ z9 = X 0) w u8 := by
        rw [hu8]
        exact ((f0.mono (fun _ z9 => z9.elim)).trans hfr').trans (ht_fr.up (Or.inr rfl))
      have hNf : ht_Nd g u8 N' A' F' := by
        rw [hu8]
        exact hNd'.upo hX' (fun z9 => by
          rcases hcase with ⟨q1, -⟩ | ⟨B9, q9, q1, -, q3, -⟩
          · rw [q1] at z9
            exact hmw (by rw [← List.mem_singleton.mp z9]; exact hR.1.1)
          · rw [q1] at z9
            rcases List.mem_cons.mp z9 with y9 | y9
            · exact hmw (by rw [← y9]; exact hR.1.1)
            · rcases List.mem_cons.mp y9 with y9 | y9
              · exact q3 (by rw [← y9]; exact hXi.1)
              · exact hR.out 0 (by decide) y9)
      have hS9 : ∀ i9, 1 ≤ i9 → i9 < 9 → ¬ (X i9 ∈ F ∨ X i9 = X 0) := fun i9 h1 hi9 q9 => q9.elim (fun y9 => hR.out i9 hi9 y9) (fun y9 => ht_tne (htg.1 i9 hi9) (htg.1 0 (by decide)) (fun z9 => by injection z9 with z1 z2; omega) y9)
      have hwo : ∀ z9, z9 ∈ w.1 → z9 ∈ u6.1 := fun z9 h9 => (f0 z9 h9 (fun q9 => q9)).1
      have hfin : ∃ tg' : Nat → Nat × Nat, ht_tgs tg' X N' A' F' ∧ (∀ b ∈ w.1, tg' b = tg b) ∧ F'.length ≤ 2 * ((k, (v1, v2, v3, v4)) :: L).length := by
        have hX9w : ∀ i9, i9 < 9 → X i9 ∈ w.1 := fun i9 hi9 => by
          rcases (show i9 = 0 ∨ i9 = 1 ∨ i9 = 2 ∨ i9 = 3 ∨ i9 = 4 ∨ i9 = 5 ∨ i9 = 6 ∨ i9 = 7 ∨ i9 = 8 by omega) with rfl | rfl | rfl | rfl | rfl | rfl | rfl | rfl | rfl
          · exact hR.1.1
          · exact hR.2.1.1
          · exact hDg.1.1
          · exact hDg.2.1.1
          · exact hDg.2.2.1
          · exact hOp.1
          · exact hSb.1
          · exact hLs.1
          · exact hEn.1
        have em : ∀ B9, ht_tnew w tg mf km hm vm B9 mf = (2, 0) := fun B9 => by unfold ht_tnew; rw [if_neg hmw, if_pos rfl]
        have ek : ∀ B9, ht_tnew w tg mf km hm vm B9 km = (3, 0) := fun B9 => by unfold ht_tnew; rw [if_neg hkw, if_neg n_mf_km.symm, if_pos rfl]
        have eh : ∀ B9, ht_tnew w tg mf km hm vm B9 hm = (4, mf) := fun B9 => by unfold ht_tnew; rw [if_neg hhw, if_neg n_mf_hm.symm, if_neg n_km_hm.symm, if_pos rfl]
        have ev : ∀ B9, ht_tnew w tg mf km hm vm B9 vm = (5, mf) := fun B9 => by unfold ht_tnew; rw [if_neg hvw, if_neg n_mf_vm.symm, if_neg n_km_vm.symm, if_neg n_hm_vm.symm, if_pos rfl]
        have hAw : ∀ a ∈ F, (A a).1 ∈ w.1 ∧ (A a).2.1 ∈ w.1 := fun a ha => ⟨(hN a ha).2.1.1, (hN a ha).2.2.1.1⟩
        rcases hcase with ⟨q1, q2, q3⟩ | ⟨B9, q9, q1, q2, q3, q4, q5, zo9, q6⟩
        · refine ⟨ht_tnew w tg mf km hm vm 0, ⟨fun i9 hi9 => (ht_tnew_old (hX9w i9 hi9)).trans (htg.1 i9 hi9), fun a ha => ?_⟩, fun b hb => ht_tnew_old hb, by rw [q1]; simp; omega⟩
          rw [q1] at ha
          rw [List.mem_singleton.mp ha, q2, va_up_self]
          exact ⟨em 0, ek 0, eh 0, fun _ _ => ev 0⟩
        · have nB : ∀ {z9 : Nat} {e9 : va_E}, ht_at u6 z9 e9 → B9 ≠ z9 := fun h9 y9 => q3 (by rw [y9]; exact h9.1)
          have nQ : ∀ {z9 : Nat} {e9 : va_E}, ht_at u6 z9 e9 → q9 ≠ z9 := fun h9 y9 => q4 (by rw [y9]; exact h9.1)
          have hBw : B9 ∉ w.1 := fun z9 => q3 (hwo _ z9)
          have hQw : q9 ∉ w.1 := fun z9 => q4 (hwo _ z9)
          have eB : ht_tnew w tg mf km hm vm B9 B9 = (2, 0) := by unfold ht_tnew; rw [if_neg hBw, if_neg (nB h_mf), if_neg (nB h_km), if_neg (nB h_hm), if_neg (nB h_vm), if_pos rfl]
          have eQ : ht_tnew w tg mf km hm vm B9 q9 = (4, B9) := by unfold ht_tnew; rw [if_neg hQw, if_neg (nQ h_mf), if_neg (nQ h_km), if_neg (nQ h_hm), if_neg (nQ h_vm), if_neg (fun z9 => q5 z9.symm)]
          refine ⟨ht_tnew w tg mf km hm vm B9, ⟨fun i9 hi9 => (ht_tnew_old (hX9w i9 hi9)).trans (htg.1 i9 hi9), fun a ha => ?_⟩, fun b hb => ht_tnew_old hb, by rw [q1]; simp; omega⟩
          rw [q1] at ha
          rcases List.mem_cons.mp ha with e9 | e9
          · rw [e9, q2, va_up_ne _ _ (nB h_mf).symm, va_up_self]
            exact ⟨em B9, ek B9, eh B9, fun _ _ => ev B9⟩
          · rcases List.mem_cons.mp e9 with e9 | e9
            · rw [e9, q2, va_up_self]
              exact ⟨eB, ek B9, eQ, fun v9 hv9 => by rw [q6] at hv9; cases hv9⟩
            · have n1 : a ≠ B9 := fun z9 => hBw (by rw [← z9]; exact hN.in e9)
              have n2 : a ≠ mf := fun z9 => hmF (by rw [← z9]; exact e9)
              rw [q2, va_up_ne _ _ n1, va_up_ne _ _ n2]
              obtain ⟨y1, y2, y3, y4⟩ := htg.2 a e9
              exact ⟨(ht_tnew_old (hN.in e9)).trans y1, (ht_tnew_old (hAw a e9).1).trans y2, (ht_tnew_old (hAw a e9).2).trans y3, fun v9 hv9 => (ht_tnew_old ((hN a e9).2.2.2 v9 (hleaf a e9 v9 hv9)).1).trans (y4 v9 (hleaf a e9 v9 hv9))⟩
      obtain ⟨tg', ht1, ht2, ht3⟩ := hfin
      have hRn := hR.re (tg' := tg') (L' := (k, (v1, v2, v3, v4)) :: L) hfrI hS9 (by rw [← ecn2]; exact hX) hNf hT' hFH' ht1 ht3
      exact ht_iret hx hb hr hlocks HW ⟨tg', N', A', F', top', _, hRn, hfrI.mono (fun z9 h9 => h9.elim (fun y9 => by rw [(htg.2 z9 y9).1]; decide) (fun y9 => by rw [y9, htg.1 0 (by decide)]; decide)), ht2, Or.inr ⟨rfl, hnk, rfl⟩⟩ d_X_set_104
    · exact absurd (show nI L.length < nI 512 from nI_lt hcap (by omega)) c48
  · subst er
    refine W.eq (g2 := F0 _ 4 ls [.ref b]) rfl ?_
    obtain ⟨t, ett⟩ : ∃ t, some t = top := by
      cases top with
      | none => rw [(hT.2.2.1.2 rfl).1] at hbF; cases hbF
      | some t => exact ⟨t, rfl⟩
    subst ett
    have hkv : (k, v0) ∈ L := by rw [← hbk]; exact (hT.2.2.2.1 b hbF v0 hp).2
    refine lv_astore (lv' := [(9, .ref b), (0, .ref (X 0)), (1, .long v1), (3, .long v2), (5, .long v3), (7, .long v4)]) hx hb d_X_set_4 hl (by decide) rfl (fun ls hl => ?_)
    refine lv_aload hx hb d_X_set_6 (lv_at hl 0 rfl) ?_
    refine lv_ifnull hx hb d_X_set_8 ?_
    refine lv_aload_n hx hb d_X_set_11 rfl (lv_at hl 1 rfl) ?_
    refine lv_sipush (v := 256) hx hb d_X_set_12 (by decide) ?_
    refine ht_cq HW (va_runV (own := R_X) (C := R_X) (As := [.int 256]) (rest := []) ⟨hx, hb, hml, hown, htb⟩ (c_X_stalePath l g w (t := t) hX hK hN hT 256 (Nat.le_refl _) 256 rfl hkv (by rw [ht_part_eq.mpr rfl]; exact Nat.le_refl _)) (cwV 1 htb (ht_gv wd_106 wd_108 sl_2 wd_1 g_X_stalePath) rfl rfl rfl (by decide +kernel) ⟨Nat.le_of_ble_eq_true rfl, Nat.le_of_ble_eq_true rfl⟩) (HW.preV hX rfl _) rfl rfl hl.1 rfl (lv_room (Nat.le_of_ble_eq_true rfl)) d_X_set_15 ⟨Nat.le_of_ble_eq_true rfl, Nat.le_of_ble_eq_true rfl⟩) (fun q10 u9 H locs ps HW => ?_)
    obtain ⟨N1, be, hN1, hfr1, hmk, -⟩ := ps
    have hX : ht_at u9 (X 0) (.inr (0, [.ref (X 1), .ref (X 2), .ref (X 5), .ref t, .int (nI L.length), .ref (X 6), .ref (X 7), .ref (X 8), .int ei]) : va_E) := hfr1.at hX (hR.out 0 (by decide))
    have hK : ht_at u9 (X 1) (ht_al g 4 (ht_kf k)) := hfr1.at hK (hR.out 1 (by decide))
    have hb1 := (hN1 b hbF).1
    have n_X_0_b : X 0 ≠ b := fun z9 => hR.out 0 (by decide) (by rw [z9]; exact hbF)
    have n_X_1_b : X 1 ≠ b := fun z9 => hR.out 1 (by decide) (by rw [z9]; exact hbF)
    refine lv_pop hx hb d_X_set_18 (by cases q10 <;> rfl) ?_
    refine lv_aload hx hb d_X_set_19 (lv_at hl 0 rfl) ?_
    refine lv_iconst (v := 0) hx hb d_X_set_21 (by decide) ?_
    refine ht_npt (b := false) hx hb htb hown HW hb1 (htb _ wd_139) (fun x h9 => u_same (htb _ wd_140) x h9) d_X_set_22 (fun H locs HW => ?_)
    obtain ⟨u11, hu11⟩ : ∃ zW : ht_W, zW = ht_up u9 b (ht_nc (ht_sf (N1 b) false) ((A b).1) ((A b).2.1) ((A b).2.2)) := ⟨_, rfl⟩
    have HW : ht_I g s u11 H locs := by rw [hu11]; exact HW
    have hX : ht_at u11 (X 0) (.inr (0, [.ref (X 1), .ref (X 2), .ref (X 5), .ref t, .int (nI L.length), .ref (X 6), .ref (X 7), .ref (X 8), .int ei]) : va_E) := by rw [hu11]; exact ht_at_ne hX n_X_0_b
    have hK : ht_at u11 (X 1) (ht_al g 4 (ht_kf k)) := by rw [hu11]; exact ht_at_ne hK n_X_1_b
    have hb1 : ht_at u11 b (ht_nc (ht_sf (N1 b) false) ((A b).1) ((A b).2.1) ((A b).2.2)) := by rw [hu11]; exact ht_at_self hb1
    obtain ⟨N2, eN2⟩ : ∃ z9 : ht_N, z9 = va_up N1 b (ht_sf (N1 b) false) := ⟨_, rfl⟩
    have hN2 : ht_Nd g u11 N2 A F := by rw [hu11, eN2]; exact hN1.sf hbF false
    have hp2 : ht_rp (N2 b) = .inl v0 := by rw [eN2, va_up_self]; exact (hmk.rp b).1.trans hp
    have hbl := hN2.lf hbF hp2
    have hvb := (hN2 b hbF).2.2.2 v0 hp2
    refine lv_aload hx hb d_X_set_25 (lv_at hl 0 rfl) ?_
    refine ht_get (C := R_L) (T := F_L) (N := 5) (v := .ref (A b).2.2) hx hb htb i_L hown HW hbl rfl 4 (by decide) (htb _ wd_126) (fun _ h9 => h9) rfl d_X_set_27 ?_
    refine lv_lload_n hx hb d_X_set_30 rfl (lv_at hl 2 rfl) ?_
    refine lv_lload_n hx hb d_X_set_31 rfl (lv_at hl 3 rfl) ?_
    refine lv_lload hx hb d_X_set_32 (lv_at hl 4 rfl) ?_
    refine lv_lload hx hb d_X_set_34 (lv_at hl 5 rfl) ?_
    refine ht_cv HW (va_runS (own := R_X) (As := [.ref (A b).2.2, .long v1, .long v2, .long v3, .long v4]) (rest := []) ⟨hx, hb, hml, hown, htb⟩ (c_X_fill l g u11 hvb v1 v2 v3 v4) (va_cwS 5 htb (ht_gs wd_72 wd_73 wd_1 g_X_fill) rfl rfl rfl (by decide +kernel) ⟨Nat.le_of_ble_eq_true rfl, Nat.le_of_ble_eq_true rfl⟩) (HW.preS _) rfl rfl hl.1 rfl (lv_room (Nat.le_of_ble_eq_true rfl)) d_X_set_36 ⟨Nat.le_of_ble_eq_true rfl, Nat.le_of_ble_eq_true rfl⟩) (fun u12 H locs pf HW => ?_)
    refine lv_iconst (v := 0) hx hb d_X_set_39 (by decide) ?_
    have htg2 : ht_tgs tg X N2 A F := htg.congr (fun a ha v9 hv9 => by
      rw [eN2] at hv9
      by_cases e9 : a = b
      · exact ⟨v0, by rw [e9]; exact hp⟩
      · rw [va_up_ne _ _ e9] at hv9
        exact ⟨v9, (hmk.rp a).1.symm.trans hv9⟩)
    have hN3 := hN2.val (v := (v1, v2, v3, v4)) htg2 hbF hp2
    have eN3 : va_up N2 b (ht_spy (N2 b) (.inl (v1, v2, v3, v4))) = va_up N1 b (ht_spy (ht_sf (N1 b) false) (.inl (v1, v2, v3, v4))) := by
      rw [eN2, va_up_self, bx_uu]
    rw [← pf, eN3] at hN3
    have hpu := ht_set_pure (v := (v1, v2, v3, v4)) hT hF hmk hbF hp hbk
    have tvb := (htg.2 b hbF).2.2.2 v0 hp
    have hfr3 : ht_fr (fun z9 => z9 ∈ F ∨ z9 = (A b).2.2) w u12 := by
      rw [pf, hu11]
      exact ((hfr1.mono (fun z9 h9 => Or.inl h9)).trans (ht_fr.up (Or.inl hbF))).trans (ht_fr.up (Or.inr rfl))
    have hS9 : ∀ i9, i9 < 9 → ¬ (X i9 ∈ F ∨ X i9 = (A b).2.2) := fun i9 hi9 q9 => q9.elim (fun y9 => hR.out i9 hi9 y9) (fun y9 => ht_tne (htg.1 i9 hi9) tvb (fun z9 => by cases z9) y9)
    have hRn := hR.re (tg' := tg) (L' := ht_sv L k (v1, v2, v3, v4)) hfr3 (fun i9 _ h9 => hS9 i9 h9) (by
      have h9 := hfr3.at hR.1 (hS9 0 (by decide))
      have e9 : (ht_sv L k (v1, v2, v3, v4)).length = L.length := by unfold ht_sv; rw [List.length_map]
      rw [e9]
      exact h9) hN3 hpu.1 hpu.2 (htg.congr (fun a ha v9 hv9 => by
      by_cases e9 : a = b
      · exact ⟨v0, by rw [e9]; exact hp⟩
      · rw [va_up_ne _ _ e9] at hv9
        exact ⟨v9, (hmk.rp a).1.symm.trans hv9⟩)) (by unfold ht_sv; rw [List.length_map]; exact hlen)
    refine W.widen (k := 6) (n := 27) (by omega) (by omega) ?_
    exact ht_iret hx hb hr hlocks HW ⟨tg, _, A, F, some t, _, hRn, hfr3.mono (fun z9 h9 => h9.elim (fun y9 => by rw [(htg.2 z9 y9).1]; decide) (fun y9 => by rw [y9, tvb]; exact fun z9 => by cases z9)), fun _ _ => rfl, Or.inl ⟨rfl, ⟨v0, hkv⟩, rfl⟩⟩ d_X_set_40
