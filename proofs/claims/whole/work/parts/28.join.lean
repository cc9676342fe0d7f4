/-- four numbers taken, eight bytes each -/
def ht_ts (t : ht_D) (f : Nat → Int64) : Nat → ht_D
  | 0 => t
  | k + 1 => ht_tl (ht_ts t f k) (f k) 8
def ht_jt (row : Nat → Int32) (mark : Int32) (lf rf : Nat → Int64) : ht_D := ht_fi (ht_ts (ht_ts (ht_tk (ht_w0, row, 0) mark) lf 4) rf 4)
def ht_kn (ws : Nat → Int32) : ht_K := (ht_nu ws 0, ht_nu ws 1, ht_nu ws 2, ht_nu ws 3)
def ht_jf (ws : Nat → Int32) (f0 : Nat → Int64) (k : Nat) : Nat → Int64 := fun j => if j < k then ht_nu ws j else f0 j
theorem ht_jf_s {ws : Nat → Int32} {f0 : Nat → Int64} {k : Nat} : vp_updL (ht_jf ws f0 k) k (ht_nu ws k) = ht_jf ws f0 (k + 1) := by
  funext j
  unfold vp_updL ht_jf
  by_cases h : j = k
  · subst h
    rw [if_pos rfl, if_pos (Nat.lt_succ_self j)]
  · rw [if_neg h]
    by_cases h2 : j < k
    · rw [if_pos h2, if_pos (by omega)]
    · rw [if_neg h2, if_neg (by omega)]
theorem ht_jf_4 {ws : Nat → Int32} {f0 : Nat → Int64} : ∀ j, j < 4 → ht_jf ws f0 4 j = ht_kf (ht_kn ws) j := by
  intro j hj
  unfold ht_jf
  rw [if_pos hj]
  rcases (show j = 0 ∨ j = 1 ∨ j = 2 ∨ j = 3 by omega) with rfl | rfl | rfl | rfl <;> rfl
theorem ht_ne_ol {ci n : Nat} {fs : List Value} {g : ht_G} {f : Nat → Int64} : ht_al g n f ≠ (.inr (ci, fs) : va_E) := fun z => by cases z
theorem ht_ne_li {n n' : Nat} {g : ht_G} {f : Nat → Int64} {f' : Nat → Int32} : ht_al g n f ≠ ht_ai g n' f' := fun z => by injection z with z; injection z with z1 z2; injection z2 with z3 z4; cases z4
theorem ht_Dg.al {g : ht_G} {w : ht_W} {dg wd wa b n : Nat} {t t' : ht_D} {f : Nat → Int64} (h : ht_Dg g w dg wd wa t) (hb : ht_at w b (ht_al g n f)) : ht_at (ht_dw g w dg wd wa t') b (ht_al g n f) := ht_Dg.ne hb (ht_ne hb h.1 ht_ne_ol) (ht_ne hb h.2.1 ht_ne_li) (ht_ne hb h.2.2 ht_ne_li)
theorem ht_Dg.rd {g : ht_G} {w : ht_W} {dg wd wa b : Nat} {t t' : ht_D} {f : Nat → Int64} (h : ht_Dg g w dg wd wa t) (hb : ht_rd g w b f) : ht_rd g (ht_dw g w dg wd wa t') b f := hb.elim (fun q => Or.inl (h.al q)) Or.inr
theorem ht_Dg.of_al {g : ht_G} {w : ht_W} {dg wd wa b n n' : Nat} {t : ht_D} {f f' : Nat → Int64} (h : ht_Dg g w dg wd wa t) (hb : ht_at w b (ht_al g n f)) : ht_Dg g (ht_up w b (ht_al g n' f')) dg wd wa t := ⟨ht_at_ne h.1 (ht_ne h.1 hb (Ne.symm ht_ne_ol)), ht_at_ne h.2.1 (ht_ne h.2.1 hb (Ne.symm ht_ne_li)), ht_at_ne h.2.2 (ht_ne h.2.2 hb (Ne.symm ht_ne_li))⟩
set_option maxHeartbeats 4000000 in
set_option maxRecDepth 100000 in
theorem c_D_join (l : Launch) (g : ht_G) (w : ht_W) {dg wd wa : Nat} {t0 : ht_D} (hD : ht_Dg g w dg wd wa t0) (mk : Int32) {la ra ia : Nat} {lf rf f0 : Nat → Int64} (hL : ht_rd g w la lf) (hR : ht_rd g w ra rf) (hI : ht_at w ia (ht_al g 4 f0)) : Met l y_D_join ws_D_join ({ frames := 4, cells := 0, slots := 0, locals := 120 } : Room) (va_Pc [.ref dg, .int mk, .ref la, .ref ra, .ref ia] (ht_WS g w)) (ht_Qv g (fun u => u = ht_up (ht_dw g w dg wd wa (ht_jt t0.2.1 mk lf rf)) ia (ht_al g 4 (ht_kf (ht_kn (ht_jt t0.2.1 mk lf rf).1))))) 0 0 (ht_A g) := by
  refine Met.ofW (cc := b_D_join) (maxL := 6) (ret := none) (by decide) rfl ?_
  intro p e s m args below meth c s₁ BB hml hv
  obtain ⟨rfl, HW⟩ := hv
  have HW := ht_I.start HW
  have hx := BB.exec
  have hb := BB.bytes
  have hr := BB.returns
  have hts := atoms_spec (ws := ws_D_join) BB.pre
  have htb : ∀ w ∈ bg, w.before _ s = true := fun w h => hts w (List.mem_cons_of_mem _ h)
  have hown : s.vm.findClass R_D = some m.cls := findClass_of_methodNamed BB.named
  have hlocks := BB.notSynchronized
  have hl := lv_entry ([.ref dg, .int mk, .ref la, .ref ra, .ref ia]) (n := 6) (Nat.le_of_ble_eq_true rfl)
  rw [lg_entry_eq]
  generalize (lg_sl ([.ref dg, .int mk, .ref la, .ref ra, .ref ia]) ++ List.replicate (6 - (lg_sl ([.ref dg, .int mk, .ref la, .ref ra, .ref ia])).length) Slot.unset).toArray = ls at hl ⊢
  have hl : lv_has ls 6 [(0, .ref dg), (1, .int mk), (2, .ref la), (3, .ref ra), (4, .ref ia)] := hl
  have loop3 : ∀ (n k : Nat), k + n = 4 → ∀ (H : Heap) (locs : List Loc) (ls : Array Slot) (j : Int32), j = nI k → ht_I g s (ht_up (ht_dw g w dg wd wa (ht_jt t0.2.1 mk lf rf)) ia (ht_al g 4 (ht_jf (ht_jt t0.2.1 mk lf rf).1 f0 k))) H locs → lv_has ls 6 [(0, .ref dg), (4, .ref ia), (5, .int j)] → W p l e (headSpec ws_D_join ({ frames := 4, cells := 0, slots := 0, locals := 120 } : Room)).room s m ([.ref dg, .int mk, .ref la, .ref ra, .ref ia] : List Value).toArray below meth c H locs 0 0 (MQ below (ht_Qv g (fun u => u = ht_up (ht_dw g w dg wd wa (ht_jt t0.2.1 mk lf rf)) ia (ht_al g 4 (ht_kf (ht_kn (ht_jt t0.2.1 mk lf rf).1))))) ([.ref dg, .int mk, .ref la, .ref ra, .ref ia] : List Value).toArray s 0 0 (ht_A g)) (F0 m 66 ls []) := by
    intro n
    induction n with
    | zero =>
      intro k hk H locs ls j ej HW hl
      obtain ⟨w1, hw1⟩ : ∃ z, z = ht_up (ht_dw g w dg wd wa (ht_jt t0.2.1 mk lf rf)) ia (ht_al g 4 (ht_jf (ht_jt t0.2.1 mk lf rf).1 f0 k)) := ⟨_, rfl⟩
      rw [← hw1] at HW
      have hD1 : ht_Dg g w1 dg wd wa (ht_jt t0.2.1 mk lf rf) := by rw [hw1]; exact hD.up.of_al (hD.al hI)
      have h_ia : ht_at w1 ia (ht_al g 4 (ht_jf (ht_jt t0.2.1 mk lf rf).1 f0 k)) := by rw [hw1]; exact ht_at_self (hD.al hI)
      obtain ⟨h_dg, h_wd, h_wa⟩ := id hD1
      have hn1 : dg ≠ ia := ht_ne h_dg h_ia (Ne.symm ht_ne_ol)
      have hn2 : wd ≠ ia := ht_ne h_wd h_ia (Ne.symm ht_ne_li)
      have hn3 : wa ≠ ia := ht_ne h_wa h_ia (Ne.symm ht_ne_li)
      refine lv_iload hx hb d_D_join_66 (lv_at hl 2 rfl) ?_
      refine lv_iconst (v := 4) hx hb d_D_join_68 (by decide) ?_
      refine lv_icmp_ge (tgt := 89) hx hb d_D_join_69 (by decide) (fun c69 => ?_) (fun c69 => ?_)
      · have hk4 : k = 4 := by omega
        subst hk4
        rw [hw1] at HW
        have HW := HW.cg (ht_eqv_l ht_jf_4)
        exact ht_vret hx hb hr hlocks HW rfl d_D_join_89
      · exact absurd (by rw [ej]; exact nI_le (show 4 ≤ k by omega) (by omega)) c69
    | succ n ih =>
      intro k hk H locs ls j ej HW hl
      obtain ⟨w1, hw1⟩ : ∃ z, z = ht_up (ht_dw g w dg wd wa (ht_jt t0.2.1 mk lf rf)) ia (ht_al g 4 (ht_jf (ht_jt t0.2.1 mk lf rf).1 f0 k)) := ⟨_, rfl⟩
      rw [← hw1] at HW
      have hD1 : ht_Dg g w1 dg wd wa (ht_jt t0.2.1 mk lf rf) := by rw [hw1]; exact hD.up.of_al (hD.al hI)
      have h_ia : ht_at w1 ia (ht_al g 4 (ht_jf (ht_jt t0.2.1 mk lf rf).1 f0 k)) := by rw [hw1]; exact ht_at_self (hD.al hI)
      obtain ⟨h_dg, h_wd, h_wa⟩ := id hD1
      have hn1 : dg ≠ ia := ht_ne h_dg h_ia (Ne.symm ht_ne_ol)
      have hn2 : wd ≠ ia := ht_ne h_wd h_ia (Ne.symm ht_ne_li)
      have hn3 : wa ≠ ia := ht_ne h_wa h_ia (Ne.symm ht_ne_li)
      refine lv_iload hx hb d_D_join_66 (lv_at hl 2 rfl) ?_
      refine lv_iconst (v := 4) hx hb d_D_join_68 (by decide) ?_
      refine lv_icmp_ge (tgt := 89) hx hb d_D_join_69 (by decide) (fun c69 => ?_) (fun c69 => ?_)
      · exact absurd (by rw [ej] at c69; exact c69) (nI_ge (show k < 4 by omega) (by omega))
      · refine lv_aload hx hb d_D_join_72 (lv_at hl 1 rfl) ?_
        refine lv_iload hx hb d_D_join_74 (lv_at hl 2 rfl) ?_
        refine lv_aload_n hx hb d_D_join_76 rfl (lv_at hl 0 rfl) ?_
        refine lv_iload hx hb d_D_join_77 (lv_at hl 2 rfl) ?_
        refine ht_cl HW (va_runV (own := R_D) (C := R_D) (As := [.int j]) (rest := [.int j, .ref ia]) ⟨hx, hb, hml, hown, htb⟩ (c_D_number l g w1 hD1 k (by omega) j ej) (cwV 1 htb (ht_gv wd_260 wd_261 wd_262 wd_2 g_D_number) rfl rfl rfl (by decide +kernel) ⟨Nat.le_of_ble_eq_true rfl, Nat.le_of_ble_eq_true rfl⟩) (HW.preV h_dg rfl _) rfl rfl hl.1 rfl (lv_room (Nat.le_of_ble_eq_true rfl)) d_D_join_79 ⟨Nat.le_of_ble_eq_true rfl, Nat.le_of_ble_eq_true rfl⟩) (fun q2 u1 H locs pu1 HW => ?_)
        obtain ⟨eq2, eu1⟩ := pu1
        subst eu1
        refine ht_last hx hb HW h_ia (by rw [ej]; exact vp_in_nI (by omega) (by omega)) d_D_join_82 (fun H locs HW => ?_)
        rw [ej, nI_clamp (by omega)] at HW
        obtain ⟨u3, hu3⟩ : ∃ z, z = ht_up w1 ia (ht_al g 4 (vp_updL (ht_jf (ht_jt t0.2.1 mk lf rf).1 f0 k) k q2)) := ⟨_, rfl⟩
        have HW : ht_I g s u3 H locs := by rw [hu3]; exact HW
        have h_dg : ht_at u3 dg (.inr (1, [.ref wd, .ref wa, .int ((ht_jt t0.2.1 mk lf rf).2.2)]) : va_E) := by rw [hu3]; exact ht_at_ne h_dg hn1
        have h_wd : ht_at u3 wd (ht_ai g 8 ((ht_jt t0.2.1 mk lf rf).1)) := by rw [hu3]; exact ht_at_ne h_wd hn2
        have h_wa : ht_at u3 wa (ht_ai g 64 ((ht_jt t0.2.1 mk lf rf).2.1)) := by rw [hu3]; exact ht_at_ne h_wa hn3
        have h_ia : ht_at u3 ia (ht_al g 4 (vp_updL (ht_jf (ht_jt t0.2.1 mk lf rf).1 f0 k) k q2)) := by rw [hu3]; exact ht_at_self h_ia
        obtain ⟨j2, ej2⟩ : ∃ y : Int32, y = j + 1 := ⟨_, rfl⟩
        refine lv_iinc (v := j2) (lv' := [(5, .int j2), (0, .ref dg), (4, .ref ia)]) hx hb d_D_join_83 hl (k := 2) rfl (by rw [ej2]; rfl) (by decide) rfl (fun ls hl => ?_)
        refine lv_goto (tgt := 66) hx hb d_D_join_86 (by decide) ?_
        refine ih (k + 1) (by omega) _ _ _ j2 (by rw [ej2, ej, nI_1]) (HW.to ?_) (lv_sub hl [1, 2, 0] rfl)
        rw [hu3, hw1, ht_up_up, eq2, ht_jf_s]
  have loop2 : ∀ (n k : Nat), k + n = 4 → ∀ (H : Heap) (locs : List Loc) (ls : Array Slot) (j : Int32), j = nI k → ht_I g s (ht_dw g w dg wd wa (ht_ts (ht_ts (ht_tk (ht_w0, t0.2.1, 0) mk) lf 4) rf k)) H locs → lv_has ls 6 [(0, .ref dg), (2, .ref la), (3, .ref ra), (4, .ref ia), (5, .int j)] → W p l e (headSpec ws_D_join ({ frames := 4, cells := 0, slots := 0, locals := 120 } : Room)).room s m ([.ref dg, .int mk, .ref la, .ref ra, .ref ia] : List Value).toArray below meth c H locs 0 0 (MQ below (ht_Qv g (fun u => u = ht_up (ht_dw g w dg wd wa (ht_jt t0.2.1 mk lf rf)) ia (ht_al g 4 (ht_kf (ht_kn (ht_jt t0.2.1 mk lf rf).1))))) ([.ref dg, .int mk, .ref la, .ref ra, .ref ia] : List Value).toArray s 0 0 (ht_A g)) (F0 m 37 ls []) := by
    intro n
    induction n with
    | zero =>
      intro k hk H locs ls j ej HW hl
      obtain ⟨w1, hw1⟩ : ∃ z, z = ht_dw g w dg wd wa (ht_ts (ht_ts (ht_tk (ht_w0, t0.2.1, 0) mk) lf 4) rf k) := ⟨_, rfl⟩
      rw [← hw1] at HW
      have hD1 : ht_Dg g w1 dg wd wa (ht_ts (ht_ts (ht_tk (ht_w0, t0.2.1, 0) mk) lf 4) rf k) := by rw [hw1]; exact hD.up
      obtain ⟨h_dg, h_wd, h_wa⟩ := id hD1
      have hk4 : k = 4 := by omega
      subst hk4
      refine lv_iload hx hb d_D_join_37 (lv_at hl 4 rfl) ?_
      refine lv_iconst (v := 4) hx hb d_D_join_39 (by decide) ?_
      refine lv_icmp_ge (tgt := 59) hx hb d_D_join_40 (by decide) (fun c40 => ?_) (fun c40 => ?_)
      · refine lv_aload_n hx hb d_D_join_59 rfl (lv_at hl 0 rfl) ?_
        refine ht_cv HW (va_runV (own := R_D) (C := R_D) (As := []) (rest := []) ⟨hx, hb, hml, hown, htb⟩ (c_D_finish l g w1 hD1) (cwV 0 htb (ht_gv wd_255 wd_256 wd_257 wd_2 g_D_finish) rfl rfl rfl (by decide +kernel) ⟨Nat.le_of_ble_eq_true rfl, Nat.le_of_ble_eq_true rfl⟩) (HW.preV h_dg rfl _) rfl rfl hl.1 rfl (lv_room (Nat.le_of_ble_eq_true rfl)) d_D_join_60 ⟨Nat.le_of_ble_eq_true rfl, Nat.le_of_ble_eq_true rfl⟩) (fun u1 H locs pw HW => ?_)
        refine lv_iconst (v := 0) hx hb d_D_join_63 (by decide) ?_
        refine lv_istore (lv' := [(5, .int 0), (0, .ref dg), (2, .ref la), (3, .ref ra), (4, .ref ia)]) hx hb d_D_join_64 hl (by decide) rfl (fun ls hl => ?_)
        refine loop3 4 0 rfl _ _ _ 0 rfl (HW.to ?_) (lv_sub hl [1, 4, 0] rfl)
        rw [pw, hw1, hD.dw]
        exact (ht_up_id (hD.al hI)).symm
      · exact absurd (by rw [ej]; exact nI_le (Nat.le_refl 4) (by omega)) c40
    | succ n ih =>
      intro k hk H locs ls j ej HW hl
      obtain ⟨w1, hw1⟩ : ∃ z, z = ht_dw g w dg wd wa (ht_ts (ht_ts (ht_tk (ht_w0, t0.2.1, 0) mk) lf 4) rf k) := ⟨_, rfl⟩
      rw [← hw1] at HW
      have hD1 : ht_Dg g w1 dg wd wa (ht_ts (ht_ts (ht_tk (ht_w0, t0.2.1, 0) mk) lf 4) rf k) := by rw [hw1]; exact hD.up
      obtain ⟨h_dg, h_wd, h_wa⟩ := id hD1
      refine lv_iload hx hb d_D_join_37 (lv_at hl 4 rfl) ?_
      refine lv_iconst (v := 4) hx hb d_D_join_39 (by decide) ?_
      refine lv_icmp_ge (tgt := 59) hx hb d_D_join_40 (by decide) (fun c40 => ?_) (fun c40 => ?_)
      · exact absurd (by rw [ej] at c40; exact c40) (nI_ge (show k < 4 by omega) (by omega))
      · refine lv_aload_n hx hb d_D_join_43 rfl (lv_at hl 0 rfl) ?_
        refine lv_aload_n hx hb d_D_join_44 rfl (lv_at hl 2 rfl) ?_
        refine lv_iload hx hb d_D_join_45 (lv_at hl 4 rfl) ?_
        have hrd : ht_rd g w1 ra rf := by rw [hw1]; exact hD.rd hR
        refine ht_rdl hx hb HW hrd (by rw [ej]; exact vp_in_nI (by omega) (by omega)) d_D_join_47 ?_
        refine lv_topl (fun z1 ez1 => ?_)
        have ez1 : z1 = rf k := by rw [ez1, ej, nI_clamp (by omega)]
        refine lv_bipush (v := 8) hx hb d_D_join_48 (by decide) ?_
        refine ht_cv HW (va_runV (own := R_D) (C := R_D) (As := [.long z1, .int 8]) (rest := []) ⟨hx, hb, hml, hown, htb⟩ (c_D_takeLowest l g w1 hD1 z1 8 (Nat.le_refl 8) 8 rfl) (cwV 2 htb (ht_gv wd_251 wd_252 wd_253 wd_2 g_D_takeLowest) rfl rfl rfl (by decide +kernel) ⟨Nat.le_of_ble_eq_true rfl, Nat.le_of_ble_eq_true rfl⟩) (HW.preV h_dg rfl _) rfl rfl hl.1 rfl (lv_room (Nat.le_of_ble_eq_true rfl)) d_D_join_50 ⟨Nat.le_of_ble_eq_true rfl, Nat.le_of_ble_eq_true rfl⟩) (fun u2 H locs pw HW => ?_)
        obtain ⟨j2, ej2⟩ : ∃ y : Int32, y = j + 1 := ⟨_, rfl⟩
        refine lv_iinc (v := j2) (lv' := [(5, .int j2), (0, .ref dg), (2, .ref la), (3, .ref ra), (4, .ref ia)]) hx hb d_D_join_53 hl (k := 4) rfl (by rw [ej2]; rfl) (by decide) rfl (fun ls hl => ?_)
        refine lv_goto (tgt := 37) hx hb d_D_join_56 (by decide) ?_
        refine ih (k + 1) (by omega) _ _ _ j2 (by rw [ej2, ej, nI_1]) (HW.to ?_) (lv_sub hl [1, 2, 3, 4, 0] rfl)
        rw [pw, hw1, hD.dw, ez1]
        rfl
  have loop1 : ∀ (n k : Nat), k + n = 4 → ∀ (H : Heap) (locs : List Loc) (ls : Array Slot) (j : Int32), j = nI k → ht_I g s (ht_dw g w dg wd wa (ht_ts (ht_tk (ht_w0, t0.2.1, 0) mk) lf k)) H locs → lv_has ls 6 [(0, .ref dg), (2, .ref la), (3, .ref ra), (4, .ref ia), (5, .int j)] → W p l e (headSpec ws_D_join ({ frames := 4, cells := 0, slots := 0, locals := 120 } : Room)).room s m ([.ref dg, .int mk, .ref la, .ref ra, .ref ia] : List Value).toArray below meth c H locs 0 0 (MQ below (ht_Qv g (fun u => u = ht_up (ht_dw g w dg wd wa (ht_jt t0.2.1 mk lf rf)) ia (ht_al g 4 (ht_kf (ht_kn (ht_jt t0.2.1 mk lf rf).1))))) ([.ref dg, .int mk, .ref la, .ref ra, .ref ia] : List Value).toArray s 0 0 (ht_A g)) (F0 m 12 ls []) := by
    intro n
    induction n with
    | zero =>
      intro k hk H locs ls j ej HW hl
      obtain ⟨w1, hw1⟩ : ∃ z, z = ht_dw g w dg wd wa (ht_ts (ht_tk (ht_w0, t0.2.1, 0) mk) lf k) := ⟨_, rfl⟩
      rw [← hw1] at HW
      have hD1 : ht_Dg g w1 dg wd wa (ht_ts (ht_tk (ht_w0, t0.2.1, 0) mk) lf k) := by rw [hw1]; exact hD.up
      obtain ⟨h_dg, h_wd, h_wa⟩ := id hD1
      have hk4 : k = 4 := by omega
      subst hk4
      refine lv_iload hx hb d_D_join_12 (lv_at hl 4 rfl) ?_
      refine lv_iconst (v := 4) hx hb d_D_join_14 (by decide) ?_
      refine lv_icmp_ge (tgt := 34) hx hb d_D_join_15 (by decide) (fun c15 => ?_) (fun c15 => ?_)
      · refine lv_iconst (v := 0) hx hb d_D_join_34 (by decide) ?_
        refine lv_istore (lv' := [(5, .int 0), (0, .ref dg), (2, .ref la), (3, .ref ra), (4, .ref ia)]) hx hb d_D_join_35 hl (by decide) rfl (fun ls hl => ?_)
        exact loop2 4 0 rfl _ _ _ 0 rfl (HW.to hw1) (lv_sub hl [1, 2, 3, 4, 0] rfl)
      · exact absurd (by rw [ej]; exact nI_le (Nat.le_refl 4) (by omega)) c15
    | succ n ih =>
      intro k hk H locs ls j ej HW hl
      obtain ⟨w1, hw1⟩ : ∃ z, z = ht_dw g w dg wd wa (ht_ts (ht_tk (ht_w0, t0.2.1, 0) mk) lf k) := ⟨_, rfl⟩
      rw [← hw1] at HW
      have hD1 : ht_Dg g w1 dg wd wa (ht_ts (ht_tk (ht_w0, t0.2.1, 0) mk) lf k) := by rw [hw1]; exact hD.up
      obtain ⟨h_dg, h_wd, h_wa⟩ := id hD1
      refine lv_iload hx hb d_D_join_12 (lv_at hl 4 rfl) ?_
      refine lv_iconst (v := 4) hx hb d_D_join_14 (by decide) ?_
      refine lv_icmp_ge (tgt := 34) hx hb d_D_join_15 (by decide) (fun c15 => ?_) (fun c15 => ?_)
      · exact absurd (by rw [ej] at c15; exact c15) (nI_ge (show k < 4 by omega) (by omega))
      · refine lv_aload_n hx hb d_D_join_18 rfl (lv_at hl 0 rfl) ?_
        refine lv_aload_n hx hb d_D_join_19 rfl (lv_at hl 1 rfl) ?_
        refine lv_iload hx hb d_D_join_20 (lv_at hl 4 rfl) ?_
        have hrd : ht_rd g w1 la lf := by rw [hw1]; exact hD.rd hL
        refine ht_rdl hx hb HW hrd (by rw [ej]; exact vp_in_nI (by omega) (by omega)) d_D_join_22 ?_
        refine lv_topl (fun z1 ez1 => ?_)
        have ez1 : z1 = lf k := by rw [ez1, ej, nI_clamp (by omega)]
        refine lv_bipush (v := 8) hx hb d_D_join_23 (by decide) ?_
        refine ht_cv HW (va_runV (own := R_D) (C := R_D) (As := [.long z1, .int 8]) (rest := []) ⟨hx, hb, hml, hown, htb⟩ (c_D_takeLowest l g w1 hD1 z1 8 (Nat.le_refl 8) 8 rfl) (cwV 2 htb (ht_gv wd_251 wd_252 wd_253 wd_2 g_D_takeLowest) rfl rfl rfl (by decide +kernel) ⟨Nat.le_of_ble_eq_true rfl, Nat.le_of_ble_eq_true rfl⟩) (HW.preV h_dg rfl _) rfl rfl hl.1 rfl (lv_room (Nat.le_of_ble_eq_true rfl)) d_D_join_25 ⟨Nat.le_of_ble_eq_true rfl, Nat.le_of_ble_eq_true rfl⟩) (fun u2 H locs pw HW => ?_)
        obtain ⟨j2, ej2⟩ : ∃ y : Int32, y = j + 1 := ⟨_, rfl⟩
        refine lv_iinc (v := j2) (lv' := [(5, .int j2), (0, .ref dg), (2, .ref la), (3, .ref ra), (4, .ref ia)]) hx hb d_D_join_28 hl (k := 4) rfl (by rw [ej2]; rfl) (by decide) rfl (fun ls hl => ?_)
        refine lv_goto (tgt := 12) hx hb d_D_join_31 (by decide) ?_
        refine ih (k + 1) (by omega) _ _ _ j2 (by rw [ej2, ej, nI_1]) (HW.to ?_) (lv_sub hl [1, 2, 3, 4, 0] rfl)
        rw [pw, hw1, hD.dw, ez1]
        rfl
  obtain ⟨h_dg, h_wd, h_wa⟩ := id hD
  refine lv_aload_n hx hb d_D_join_0 rfl (lv_at hl 0 rfl) ?_
  refine ht_cv HW (va_runV (own := R_D) (C := R_D) (As := []) (rest := []) ⟨hx, hb, hml, hown, htb⟩ (c_D_begin l g w hD) (cwV 0 htb (ht_gv wd_225 wd_226 wd_227 wd_2 g_D_begin) rfl rfl rfl (by decide +kernel) ⟨Nat.le_of_ble_eq_true rfl, Nat.le_of_ble_eq_true rfl⟩) (HW.preV h_dg rfl _) rfl rfl hl.1 rfl (lv_room (Nat.le_of_ble_eq_true rfl)) d_D_join_1 ⟨Nat.le_of_ble_eq_true rfl, Nat.le_of_ble_eq_true rfl⟩) (fun u1 H locs pw1 HW => ?_)
  have hD1 : ht_Dg g u1 dg wd wa (ht_w0, t0.2.1, 0) := by rw [pw1]; exact hD.up
  obtain ⟨h_dg, h_wd, h_wa⟩ := id hD1
  refine lv_aload_n hx hb d_D_join_4 rfl (lv_at hl 0 rfl) ?_
  refine lv_iload_n hx hb d_D_join_5 rfl (lv_at hl 1 rfl) ?_
  refine ht_cv HW (va_runV (own := R_D) (C := R_D) (As := [.int mk]) (rest := []) ⟨hx, hb, hml, hown, htb⟩ (c_D_take l g u1 hD1 mk) (cwV 1 htb (ht_gv wd_234 wd_235 wd_236 wd_2 g_D_take) rfl rfl rfl (by decide +kernel) ⟨Nat.le_of_ble_eq_true rfl, Nat.le_of_ble_eq_true rfl⟩) (HW.preV h_dg rfl _) rfl rfl hl.1 rfl (lv_room (Nat.le_of_ble_eq_true rfl)) d_D_join_6 ⟨Nat.le_of_ble_eq_true rfl, Nat.le_of_ble_eq_true rfl⟩) (fun u2 H locs pw2 HW => ?_)
  refine lv_iconst (v := 0) hx hb d_D_join_9 (by decide) ?_
  refine lv_istore (lv' := [(5, .int 0), (0, .ref dg), (1, .int mk), (2, .ref la), (3, .ref ra), (4, .ref ia)]) hx hb d_D_join_10 hl (by decide) rfl (fun ls hl => ?_)
  exact loop1 4 0 rfl _ _ _ 0 rfl (HW.to (by rw [pw2, pw1, hD.dw]; rfl)) (lv_sub hl [1, 3, 4, 5, 0] rfl)
