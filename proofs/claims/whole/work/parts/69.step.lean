def ht_stI (g : ht_G) (M : Nat → Nat) (n : Nat → Int32) (w u : ht_W) (Lf Lu : ht_LF) (If Iu : ht_IF) (d fr : Nat) (P Q : List ht_L) (nn : Nat) : Prop := ht_Mo g u M n Lu Iu ∧ ht_fm M w u ∧ ht_same [6, 11, 13, 14, 15, 16, 17] Lf Lu ∧ ht_same [4, 5, 10, 12] If Iu ∧ ht_Kp Lu Iu ∧ ht_ga (Iu 4) (Iu 5) (Lu 6) (ht_h ht_dgf (256 - d)) 0 fr P ∧ ht_ga (Iu 4) (Iu 5) (Lu 6) (ht_h ht_dgf (255 - d)) nn (fr + P.flatten.length) Q ∧ P.length ≤ nn ∧ ht_si d P Q
def ht_stM (g : ht_G) (M : Nat → Nat) (n : Nat → Int32) (w u : ht_W) (Lf Lu : ht_LF) (If Iu : ht_IF) (d fr : Nat) (P : List ht_L) (g1 : ht_L) (Q : List ht_L) (nn : Nat) : Prop := ht_Mo g u M n Lu Iu ∧ ht_fm M w u ∧ ht_same [6, 11, 13, 14, 15, 16, 17] Lf Lu ∧ ht_same [4, 5, 10, 12] If Iu ∧ ht_Kp Lu Iu ∧ ht_ga (Iu 4) (Iu 5) (Lu 6) (ht_h ht_dgf (256 - d)) 0 fr P ∧ ht_ga (Iu 4) (Iu 5) (Lu 6) (ht_h ht_dgf (255 - d)) nn (fr + P.flatten.length + g1.length) Q ∧ P.length + 1 ≤ nn ∧ ht_si d (P ++ [g1]) Q ∧ ht_row (Lu 6) (4 * P.length) (ht_h ht_dgf (256 - d) g1)
theorem ht_stI.mid {g : ht_G} {M : Nat → Nat} {n : Nat → Int32} {w u : ht_W} {Lf Lu : ht_LF} {If Iu : ht_IF} {d fr : Nat} {P Q : List ht_L} {nn : Nat} (h : ht_stI g M n w u Lf Lu If Iu d fr P Q nn) {u2 : ht_W} {L2 : ht_LF} {I2 : ht_IF} (hM2 : ht_Mo g u2 M n L2 I2) (hfm2 : ht_fm M u u2) (hsL2 : ht_same [6, 11, 13, 14, 15, 16, 17] Lu L2) (hsI2 : ht_same [10, 12] Iu I2) (hK2 : ht_Kp L2 I2) {g1 : ht_L} {Q1 : List ht_L} {nn1 : Nat} (hrow : ht_row (L2 6) (4 * P.length) (ht_h ht_dgf (256 - d) g1)) (hold : ∀ i, i < 4 * P.length ∨ 4 * P.length + 4 ≤ i → L2 6 i = Lu 6 i) (hnn : nn + 1 ≤ nn1) (hgQ : ht_ga (Iu 4) (Iu 5) (Lu 6) (ht_h ht_dgf (255 - d)) nn1 (fr + P.flatten.length + g1.length) Q1) (hsi : ht_si d (P ++ [g1]) Q1) : ht_stM g M n w u2 Lf L2 If I2 d fr P g1 Q1 nn1 := by
  obtain ⟨h1, h2, h3, h4, h5, h6, h7, h8, h9⟩ := h
  have e4 : I2 4 = Iu 4 := hsI2 4 (by decide)
  have e5 : I2 5 = Iu 5 := hsI2 5 (by decide)
  refine ⟨hM2, h2.trans hfm2, h3.trans hsL2, h4.trans (hsI2.mono (by decide)), hK2, h6.cg (fun j hj1 hj2 => ⟨by rw [e4], by rw [e5], fun i hi => hold _ (by omega)⟩), hgQ.cg (fun j hj1 hj2 => ⟨by rw [e4], by rw [e5], fun i hi => hold _ (by omega)⟩), by omega, hsi, hrow⟩
theorem ht_stM.fin {g : ht_G} {M : Nat → Nat} {n : Nat → Int32} {w u : ht_W} {Lf Lu : ht_LF} {If Iu : ht_IF} {d fr : Nat} {P : List ht_L} {g1 : ht_L} {Q : List ht_L} {nn : Nat} (h : ht_stM g M n w u Lf Lu If Iu d fr P g1 Q nn) {u2 : ht_W} {bg sz : Int32} (hM2 : ht_Mo g u2 M n Lu (va_up (va_up Iu 4 (upd (Iu 4) P.length bg)) 5 (upd (Iu 5) P.length sz))) (hfm2 : ht_fm M w u2) (hbg : bg = nI (fr + P.flatten.length)) (hsz : sz = nI g1.length) : ht_stI g M n w u2 Lf Lu If (va_up (va_up Iu 4 (upd (Iu 4) P.length bg)) 5 (upd (Iu 5) P.length sz)) d fr (P ++ [g1]) Q nn := by
  obtain ⟨h1, h2, h3, h4, h5, h6, h7, h8, h9, h10⟩ := h
  have e4 : (va_up (va_up Iu 4 (upd (Iu 4) P.length bg)) 5 (upd (Iu 5) P.length sz)) 4 = upd (Iu 4) P.length bg := by rw [va_up_ne _ _ (by decide), va_up_self]
  have e5 : (va_up (va_up Iu 4 (upd (Iu 4) P.length bg)) 5 (upd (Iu 5) P.length sz)) 5 = upd (Iu 5) P.length sz := va_up_self _ _ _
  have e12 : (va_up (va_up Iu 4 (upd (Iu 4) P.length bg)) 5 (upd (Iu 5) P.length sz)) 12 = Iu 12 := by rw [va_up_ne _ _ (by decide), va_up_ne _ _ (by decide)]
  have efl : (P ++ [g1]).flatten.length = P.flatten.length + g1.length := by simp
  have epl : (P ++ [g1]).length = P.length + 1 := by simp
  refine ⟨hM2, hfm2, h3, (h4.up (by decide)).up (by decide), h5.cg rfl rfl e12, ?_, ?_, by rw [epl]; exact h8, h9⟩
  · refine ht_ga.app (h6.cg (fun j hj1 hj2 => ⟨by rw [e4, pk_un (by omega)], by rw [e5, pk_un (by omega)], fun _ _ => rfl⟩)) ?_
    rw [Nat.zero_add]
    exact ⟨by rw [e4, pk_us]; exact hbg, by rw [e5, pk_us]; exact hsz, h10, trivial⟩
  · rw [efl, ← Nat.add_assoc]
    exact h7.cg (fun j hj1 hj2 => ⟨by rw [e4, pk_un (by omega)], by rw [e5, pk_un (by omega)], fun _ _ => rfl⟩)
theorem ht_subl {R : ht_L} {fr : Nat} {l : ht_L} (h : ht_sub R fr l) : l.length ≤ R.length := by
  cases hl : l.length with
  | zero => exact Nat.zero_le _
  | succ k =>
    obtain ⟨q, hq⟩ := ht_gl (l := l) (p := k) (by omega)
    have := ht_gn (h k q hq)
    omega
set_option maxHeartbeats 4000000 in
set_option maxRecDepth 100000 in
theorem c_M_step (l : Launch) (g : ht_G) (w : ht_W) {M : Nat → Nat} {n : Nat → Int32} {Lf : ht_LF} {If : ht_IF} (hM : ht_Mo g w M n Lf If) (hKp : ht_Kp Lf If) {R : ht_L} (hRL : ht_RL n Lf R) (fr d : Nat) (hd : d ≤ 255) {G : List ht_L} (hG : ht_gp (d + 1) G) (hGl : G.length ≤ 512) (hsub : ht_sub R fr G.flatten) (hn1 : n 1 = nI G.length) (hga : ht_ga (If 4) (If 5) (Lf 6) (ht_h ht_dgf (255 - d)) 0 fr G) (dv : Int32) (ed : dv = nI d) : Met l y_M_step ws_M_step ({ frames := 5, cells := 0, slots := 0, locals := 200 } : Room) (va_Pc [.ref (M 0), .int dv] (ht_WS g w)) (ht_Qv g (fun u => ∃ (n2 : Nat → Int32) (Lf2 : ht_LF) (If2 : ht_IF) (G2 : List ht_L), ht_Mo g u M n2 Lf2 If2 ∧ ht_fm M w u ∧ ht_same [1] n n2 ∧ ht_same [6, 11, 13, 14, 15, 16, 17] Lf Lf2 ∧ ht_same [4, 5, 10, 12] If If2 ∧ ht_Kp Lf2 If2 ∧ n2 1 = nI G2.length ∧ G2.length ≤ 512 ∧ ht_ga (If2 4) (If2 5) (Lf2 6) (ht_h ht_dgf (256 - d)) 0 fr G2 ∧ ht_gp d G2 ∧ G2.flatten = G.flatten)) 0 0 (ht_A g) := by
  refine Met.ofW (cc := b_M_step) (maxL := 8) (ret := none) (by decide) rfl ?_
  intro p e s m args below meth c s₁ BB hml hv
  obtain ⟨rfl, HW⟩ := hv
  have HW := ht_I.start HW
  have hx := BB.exec
  have hb := BB.bytes
  have hr := BB.returns
  have hts := atoms_spec (ws := ws_M_step) BB.pre
  have htb : ∀ w ∈ bg, w.before _ s = true := fun w h => hts w (List.mem_cons_of_mem _ h)
  have hown : s.vm.findClass R_M = some m.cls := findClass_of_methodNamed BB.named
  have hlocks := BB.notSynchronized
  have hl := lv_entry ([.ref (M 0), .int dv]) (n := 8) (Nat.le_of_ble_eq_true rfl)
  rw [lg_entry_eq]
  generalize (lg_sl ([.ref (M 0), .int dv]) ++ List.replicate (8 - (lg_sl ([.ref (M 0), .int dv])).length) Slot.unset).toArray = ls at hl ⊢
  have hl : lv_has ls 8 [(0, .ref (M 0)), (1, .int dv)] := hl
  have tail0 : ∀ (P : List ht_L) (g1 : ht_L) (Q : List ht_L) (nn : Nat), nn < 512 → (∀ (u : ht_W) (Lu : ht_LF) (Iu : ht_IF), ht_stI g M n w u Lf Lu If Iu d fr (P ++ [g1]) Q (nn + 1) → ∀ (H : Heap) (locs : List Loc) (ls : Array Slot) (kpv nv : Int32), kpv = nI (P ++ [g1]).length → nv = nI (nn + 1) → ht_I g s u H locs → lv_has ls 8 [(0, .ref (M 0)), (1, .int dv), (2, .int kpv), (3, .int nv)] → W p l e (headSpec ws_M_step ({ frames := 5, cells := 0, slots := 0, locals := 200 } : Room)).room s m ([.ref (M 0), .int dv] : List Value).toArray below meth c H locs 0 0 (MQ below (ht_Qv g (fun u => ∃ (n2 : Nat → Int32) (Lf2 : ht_LF) (If2 : ht_IF) (G2 : List ht_L), ht_Mo g u M n2 Lf2 If2 ∧ ht_fm M w u ∧ ht_same [1] n n2 ∧ ht_same [6, 11, 13, 14, 15, 16, 17] Lf Lf2 ∧ ht_same [4, 5, 10, 12] If If2 ∧ ht_Kp Lf2 If2 ∧ n2 1 = nI G2.length ∧ G2.length ≤ 512 ∧ ht_ga (If2 4) (If2 5) (Lf2 6) (ht_h ht_dgf (256 - d)) 0 fr G2 ∧ ht_gp d G2 ∧ G2.flatten = G.flatten)) ([.ref (M 0), .int dv] : List Value).toArray s 0 0 (ht_A g)) (F0 m 4 ls [])) → ∀ (u : ht_W) (Lu : ht_LF) (Iu : ht_IF), ht_stM g M n w u Lf Lu If Iu d fr P g1 Q (nn + 1) → P.length < 512 → ∀ (H : Heap) (locs : List Loc) (ls : Array Slot) (kpv nv szv bgv : Int32), kpv = nI P.length → nv = nI nn → szv = nI g1.length → bgv = nI (fr + P.flatten.length) → ht_I g s u H locs → lv_has ls 8 [(0, .ref (M 0)), (1, .int dv), (2, .int kpv), (3, .int nv), (4, .int 0), (5, .int szv), (6, .int bgv)] → W p l e (headSpec ws_M_step ({ frames := 5, cells := 0, slots := 0, locals := 200 } : Room)).room s m ([.ref (M 0), .int dv] : List Value).toArray below meth c H locs 0 0 (MQ below (ht_Qv g (fun u => ∃ (n2 : Nat → Int32) (Lf2 : ht_LF) (If2 : ht_IF) (G2 : List ht_L), ht_Mo g u M n2 Lf2 If2 ∧ ht_fm M w u ∧ ht_same [1] n n2 ∧ ht_same [6, 11, 13, 14, 15, 16, 17] Lf Lf2 ∧ ht_same [4, 5, 10, 12] If If2 ∧ ht_Kp Lf2 If2 ∧ n2 1 = nI G2.length ∧ G2.length ≤ 512 ∧ ht_ga (If2 4) (If2 5) (Lf2 6) (ht_h ht_dgf (256 - d)) 0 fr G2 ∧ ht_gp d G2 ∧ G2.flatten = G.flatten)) ([.ref (M 0), .int dv] : List Value).toArray s 0 0 (ht_A g)) (F0 m 201 ls []) := by
    intro P g1 Q nn hnn hgo u Lu Iu hst hP5 H locs ls kpv nv szv bgv ekp env esz ebg HW hl
    obtain ⟨hMu, hfm, -, -, -, -, -, hle, -⟩ := id hst
    have hO : ht_at u (M 0) (.inr (4, [.ref (M 1), .ref (M 2), .int (n 0), .ref (M 3), .ref (M 4), .ref (M 5), .ref (M 6), .int (n 1), .ref (M 7), .int (n 2), .ref (M 8), .int (n 3), .int (n 4), .ref (M 9), .ref (M 10), .ref (M 11), .ref (M 12), .ref (M 13), .ref (M 14), .ref (M 15), .ref (M 16), .ref (M 17)]) : va_E) := hMu.1
    have h4 : ht_at u (M 4) (ht_ai g 512 (Iu 4)) := hMu.2.2.1
    have h5 : ht_at u (M 5) (ht_ai g 512 (Iu 5)) := hMu.2.2.2.1
    refine lv_aload_n hx hb d_M_step_201 rfl (lv_at hl 0 rfl) ?_
    refine ht_get (C := R_M) (T := F_M) (N := 22) (v := .ref (M 4)) hx hb htb i_M hown HW hO rfl 4 (by decide) (htb _ wd_315) (fun _ h9 => h9) rfl d_M_step_202 ?_
    refine lv_iload_n hx hb d_M_step_205 rfl (lv_at hl 2 rfl) ?_
    refine lv_iload hx hb d_M_step_206 (lv_at hl 6 rfl) ?_
    refine ht_iast hx hb HW h4 (by rw [ekp]; exact vp_in_nI (by omega) (by omega)) d_M_step_208 (fun H locs HW => ?_)
    rw [ekp, nI_clamp (by omega)] at HW
    have n_M_0_M_4 : (M 0) ≠ (M 4) := (hMu.ne 0 4 (by decide) (by decide) (by decide))
    have n_M_5_M_4 : (M 5) ≠ (M 4) := (hMu.ne 5 4 (by decide) (by decide) (by decide))
    obtain ⟨u1, hu1⟩ : ∃ zW : ht_W, zW = ht_up u (M 4) (ht_ai g 512 (upd (Iu 4) P.length bgv)) := ⟨_, rfl⟩
    have HW : ht_I g s u1 H locs := by rw [hu1]; exact HW
    have hO : ht_at u1 (M 0) (.inr (4, [.ref (M 1), .ref (M 2), .int (n 0), .ref (M 3), .ref (M 4), .ref (M 5), .ref (M 6), .int (n 1), .ref (M 7), .int (n 2), .ref (M 8), .int (n 3), .int (n 4), .ref (M 9), .ref (M 10), .ref (M 11), .ref (M 12), .ref (M 13), .ref (M 14), .ref (M 15), .ref (M 16), .ref (M 17)]) : va_E) := by rw [hu1]; exact ht_at_ne hO n_M_0_M_4
    have h4 : ht_at u1 (M 4) (ht_ai g 512 (upd (Iu 4) P.length bgv)) := by rw [hu1]; exact ht_at_self h4
    have h5 : ht_at u1 (M 5) (ht_ai g 512 (Iu 5)) := by rw [hu1]; exact ht_at_ne h5 n_M_5_M_4
    refine lv_aload_n hx hb d_M_step_209 rfl (lv_at hl 0 rfl) ?_
    refine ht_get (C := R_M) (T := F_M) (N := 22) (v := .ref (M 5)) hx hb htb i_M hown HW hO rfl 5 (by decide) (htb _ wd_316) (fun _ h9 => h9) rfl d_M_step_210 ?_
    refine lv_iload_n hx hb d_M_step_213 rfl (lv_at hl 2 rfl) ?_
    refine lv_iload hx hb d_M_step_214 (lv_at hl 5 rfl) ?_
    refine ht_iast hx hb HW h5 (by rw [ekp]; exact vp_in_nI (by omega) (by omega)) d_M_step_216 (fun H locs HW => ?_)
    rw [ekp, nI_clamp (by omega)] at HW
    have n_M_0_M_5 : (M 0) ≠ (M 5) := (hMu.ne 0 5 (by decide) (by decide) (by decide))
    have n_M_4_M_5 : (M 4) ≠ (M 5) := (Ne.symm n_M_5_M_4)
    obtain ⟨u2, hu2⟩ : ∃ zW : ht_W, zW = ht_up u1 (M 5) (ht_ai g 512 (upd (Iu 5) P.length szv)) := ⟨_, rfl⟩
    have HW : ht_I g s u2 H locs := by rw [hu2]; exact HW
    have hO : ht_at u2 (M 0) (.inr (4, [.ref (M 1), .ref (M 2), .int (n 0), .ref (M 3), .ref (M 4), .ref (M 5), .ref (M 6), .int (n 1), .ref (M 7), .int (n 2), .ref (M 8), .int (n 3), .int (n 4), .ref (M 9), .ref (M 10), .ref (M 11), .ref (M 12), .ref (M 13), .ref (M 14), .ref (M 15), .ref (M 16), .ref (M 17)]) : va_E) := by rw [hu2]; exact ht_at_ne hO n_M_0_M_5
    have h4 : ht_at u2 (M 4) (ht_ai g 512 (upd (Iu 4) P.length bgv)) := by rw [hu2]; exact ht_at_ne h4 n_M_4_M_5
    have h5 : ht_at u2 (M 5) (ht_ai g 512 (upd (Iu 5) P.length szv)) := by rw [hu2]; exact ht_at_self h5
    obtain ⟨kp2, ekp2⟩ : ∃ zI : Int32, zI = kpv + 1 := ⟨_, rfl⟩
    refine lv_iinc (v := kp2) (lv' := [(2, .int kp2), (0, .ref (M 0)), (1, .int dv), (3, .int nv), (4, .int 0), (5, .int szv), (6, .int bgv)]) hx hb d_M_step_217 hl (k := 2) rfl (by rw [ekp2]; rfl) (by decide) rfl (fun ls hl => ?_)
    refine lv_iload_n hx hb d_M_step_220 rfl (lv_at hl 3 rfl) ?_
    refine lv_iload hx hb d_M_step_221 (lv_at hl 4 rfl) ?_
    refine lv_if_eq (tgt := 230) hx hb d_M_step_223 (by decide) (fun c223 => ?_) (fun c223 => ?_)
    · refine lv_iconst (v := 1) hx hb d_M_step_230 (by decide) ?_
      refine lv_iadd hx hb d_M_step_231 ?_
      refine lv_topi (fun nv2 env2 => ?_)
      refine lv_istore_n (lv' := [(3, .int nv2), (2, .int kp2), (0, .ref (M 0)), (1, .int dv), (4, .int 0), (5, .int szv), (6, .int bgv)]) hx hb d_M_step_232 rfl hl (by decide) rfl (fun ls hl => ?_)
      refine lv_goto (tgt := 4) hx hb d_M_step_233 (by decide) ?_
      exact hgo u2 Lu _ (hst.fin (by rw [hu2, hu1]; exact (hMu.up4 _).up5 _) (by rw [hu2, hu1]; exact (hfm.up 4 (by decide)).up 5 (by decide)) ebg esz) _ _ _ kp2 nv2 (by rw [ekp2, ekp, nI_1]; exact congrArg nI (by simp)) (by rw [env2, env, nI_1]) HW (lv_sub hl [2, 3, 1, 0] rfl)
    · exact absurd rfl c223
  have tail1 : ∀ (P : List ht_L) (g1 : ht_L) (Q : List ht_L) (nn : Nat), nn < 512 → (∀ (u : ht_W) (Lu : ht_LF) (Iu : ht_IF), ht_stI g M n w u Lf Lu If Iu d fr (P ++ [g1]) Q (nn + 2) → ∀ (H : Heap) (locs : List Loc) (ls : Array Slot) (kpv nv : Int32), kpv = nI (P ++ [g1]).length → nv = nI (nn + 2) → ht_I g s u H locs → lv_has ls 8 [(0, .ref (M 0)), (1, .int dv), (2, .int kpv), (3, .int nv)] → W p l e (headSpec ws_M_step ({ frames := 5, cells := 0, slots := 0, locals := 200 } : Room)).room s m ([.ref (M 0), .int dv] : List Value).toArray below meth c H locs 0 0 (MQ below (ht_Qv g (fun u => ∃ (n2 : Nat → Int32) (Lf2 : ht_LF) (If2 : ht_IF) (G2 : List ht_L), ht_Mo g u M n2 Lf2 If2 ∧ ht_fm M w u ∧ ht_same [1] n n2 ∧ ht_same [6, 11, 13, 14, 15, 16, 17] Lf Lf2 ∧ ht_same [4, 5, 10, 12] If If2 ∧ ht_Kp Lf2 If2 ∧ n2 1 = nI G2.length ∧ G2.length ≤ 512 ∧ ht_ga (If2 4) (If2 5) (Lf2 6) (ht_h ht_dgf (256 - d)) 0 fr G2 ∧ ht_gp d G2 ∧ G2.flatten = G.flatten)) ([.ref (M 0), .int dv] : List Value).toArray s 0 0 (ht_A g)) (F0 m 4 ls [])) → ∀ (u : ht_W) (Lu : ht_LF) (Iu : ht_IF), ht_stM g M n w u Lf Lu If Iu d fr P g1 Q (nn + 2) → P.length < 512 → ∀ (H : Heap) (locs : List Loc) (ls : Array Slot) (kpv nv szv bgv : Int32), kpv = nI P.length → nv = nI nn → szv = nI g1.length → bgv = nI (fr + P.flatten.length) → ht_I g s u H locs → lv_has ls 8 [(0, .ref (M 0)), (1, .int dv), (2, .int kpv), (3, .int nv), (4, .int 1), (5, .int szv), (6, .int bgv)] → W p l e (headSpec ws_M_step ({ frames := 5, cells := 0, slots := 0, locals := 200 } : Room)).room s m ([.ref (M 0), .int dv] : List Value).toArray below meth c H locs 0 0 (MQ below (ht_Qv g (fun u => ∃ (n2 : Nat → Int32) (Lf2 : ht_LF) (If2 : ht_IF) (G2 : List ht_L), ht_Mo g u M n2 Lf2 If2 ∧ ht_fm M w u ∧ ht_same [1] n n2 ∧ ht_same [6, 11, 13, 14, 15, 16, 17] Lf Lf2 ∧ ht_same [4, 5, 10, 12] If If2 ∧ ht_Kp Lf2 If2 ∧ n2 1 = nI G2.length ∧ G2.length ≤ 512 ∧ ht_ga (If2 4) (If2 5) (Lf2 6) (ht_h ht_dgf (256 - d)) 0 fr G2 ∧ ht_gp d G2 ∧ G2.flatten = G.flatten)) ([.ref (M 0), .int dv] : List Value).toArray s 0 0 (ht_A g)) (F0 m 201 ls []) := by
    intro P g1 Q nn hnn hgo u Lu Iu hst hP5 H locs ls kpv nv szv bgv ekp env esz ebg HW hl
    obtain ⟨hMu, hfm, -, -, -, -, -, hle, -⟩ := id hst
    have hO : ht_at u (M 0) (.inr (4, [.ref (M 1), .ref (M 2), .int (n 0), .ref (M 3), .ref (M 4), .ref (M 5), .ref (M 6), .int (n 1), .ref (M 7), .int (n 2), .ref (M 8), .int (n 3), .int (n 4), .ref (M 9), .ref (M 10), .ref (M 11), .ref (M 12), .ref (M 13), .ref (M 14), .ref (M 15), .ref (M 16), .ref (M 17)]) : va_E) := hMu.1
    have h4 : ht_at u (M 4) (ht_ai g 512 (Iu 4)) := hMu.2.2.1
    have h5 : ht_at u (M 5) (ht_ai g 512 (Iu 5)) := hMu.2.2.2.1
    refine lv_aload_n hx hb d_M_step_201 rfl (lv_at hl 0 rfl) ?_
    refine ht_get (C := R_M) (T := F_M) (N := 22) (v := .ref (M 4)) hx hb htb i_M hown HW hO rfl 4 (by decide) (htb _ wd_315) (fun _ h9 => h9) rfl d_M_step_202 ?_
    refine lv_iload_n hx hb d_M_step_205 rfl (lv_at hl 2 rfl) ?_
    refine lv_iload hx hb d_M_step_206 (lv_at hl 6 rfl) ?_
    refine ht_iast hx hb HW h4 (by rw [ekp]; exact vp_in_nI (by omega) (by omega)) d_M_step_208 (fun H locs HW => ?_)
    rw [ekp, nI_clamp (by omega)] at HW
    have n_M_0_M_4 : (M 0) ≠ (M 4) := (hMu.ne 0 4 (by decide) (by decide) (by decide))
    have n_M_5_M_4 : (M 5) ≠ (M 4) := (hMu.ne 5 4 (by decide) (by decide) (by decide))
    obtain ⟨u1, hu1⟩ : ∃ zW : ht_W, zW = ht_up u (M 4) (ht_ai g 512 (upd (Iu 4) P.length bgv)) := ⟨_, rfl⟩
    have HW : ht_I g s u1 H locs := by rw [hu1]; exact HW
    have hO : ht_at u1 (M 0) (.inr (4, [.ref (M 1), .ref (M 2), .int (n 0), .ref (M 3), .ref (M 4), .ref (M 5), .ref (M 6), .int (n 1), .ref (M 7), .int (n 2), .ref (M 8), .int (n 3), .int (n 4), .ref (M 9), .ref (M 10), .ref (M 11), .ref (M 12), .ref (M 13), .ref (M 14), .ref (M 15), .ref (M 16), .ref (M 17)]) : va_E) := by rw [hu1]; exact ht_at_ne hO n_M_0_M_4
    have h4 : ht_at u1 (M 4) (ht_ai g 512 (upd (Iu 4) P.length bgv)) := by rw [hu1]; exact ht_at_self h4
    have h5 : ht_at u1 (M 5) (ht_ai g 512 (Iu 5)) := by rw [hu1]; exact ht_at_ne h5 n_M_5_M_4
    refine lv_aload_n hx hb d_M_step_209 rfl (lv_at hl 0 rfl) ?_
    refine ht_get (C := R_M) (T := F_M) (N := 22) (v := .ref (M 5)) hx hb htb i_M hown HW hO rfl 5 (by decide) (htb _ wd_316) (fun _ h9 => h9) rfl d_M_step_210 ?_
    refine lv_iload_n hx hb d_M_step_213 rfl (lv_at hl 2 rfl) ?_
    refine lv_iload hx hb d_M_step_214 (lv_at hl 5 rfl) ?_
    refine ht_iast hx hb HW h5 (by rw [ekp]; exact vp_in_nI (by omega) (by omega)) d_M_step_216 (fun H locs HW => ?_)
    rw [ekp, nI_clamp (by omega)] at HW
    have n_M_0_M_5 : (M 0) ≠ (M 5) := (hMu.ne 0 5 (by decide) (by decide) (by decide))
    have n_M_4_M_5 : (M 4) ≠ (M 5) := (Ne.symm n_M_5_M_4)
    obtain ⟨u2, hu2⟩ : ∃ zW : ht_W, zW = ht_up u1 (M 5) (ht_ai g 512 (upd (Iu 5) P.length szv)) := ⟨_, rfl⟩
    have HW : ht_I g s u2 H locs := by rw [hu2]; exact HW
    have hO : ht_at u2 (M 0) (.inr (4, [.ref (M 1), .ref (M 2), .int (n 0), .ref (M 3), .ref (M 4), .ref (M 5), .ref (M 6), .int (n 1), .ref (M 7), .int (n 2), .ref (M 8), .int (n 3), .int (n 4), .ref (M 9), .ref (M 10), .ref (M 11), .ref (M 12), .ref (M 13), .ref (M 14), .ref (M 15), .ref (M 16), .ref (M 17)]) : va_E) := by rw [hu2]; exact ht_at_ne hO n_M_0_M_5
    have h4 : ht_at u2 (M 4) (ht_ai g 512 (upd (Iu 4) P.length bgv)) := by rw [hu2]; exact ht_at_ne h4 n_M_4_M_5
    have h5 : ht_at u2 (M 5) (ht_ai g 512 (upd (Iu 5) P.length szv)) := by rw [hu2]; exact ht_at_self h5
    obtain ⟨kp2, ekp2⟩ : ∃ zI : Int32, zI = kpv + 1 := ⟨_, rfl⟩
    refine lv_iinc (v := kp2) (lv' := [(2, .int kp2), (0, .ref (M 0)), (1, .int dv), (3, .int nv), (4, .int 1), (5, .int szv), (6, .int bgv)]) hx hb d_M_step_217 hl (k := 2) rfl (by rw [ekp2]; rfl) (by decide) rfl (fun ls hl => ?_)
    refine lv_iload_n hx hb d_M_step_220 rfl (lv_at hl 3 rfl) ?_
    refine lv_iload hx hb d_M_step_221 (lv_at hl 4 rfl) ?_
    refine lv_if_eq (tgt := 230) hx hb d_M_step_223 (by decide) (fun c223 => ?_) (fun c223 => ?_)
    · exact absurd c223 (by decide)
    · refine lv_iconst (v := 2) hx hb d_M_step_226 (by decide) ?_
      refine lv_goto (tgt := 231) hx hb d_M_step_227 (by decide) ?_
      refine lv_iadd hx hb d_M_step_231 ?_
      refine lv_topi (fun nv2 env2 => ?_)
      refine lv_istore_n (lv' := [(3, .int nv2), (2, .int kp2), (0, .ref (M 0)), (1, .int dv), (4, .int 1), (5, .int szv), (6, .int bgv)]) hx hb d_M_step_232 rfl hl (by decide) rfl (fun ls hl => ?_)
      refine lv_goto (tgt := 4) hx hb d_M_step_233 (by decide) ?_
      exact hgo u2 Lu _ (hst.fin (by rw [hu2, hu1]; exact (hMu.up4 _).up5 _) (by rw [hu2, hu1]; exact (hfm.up 4 (by decide)).up 5 (by decide)) ebg esz) _ _ _ kp2 nv2 (by rw [ekp2, ekp, nI_1]; exact congrArg nI (by simp)) (by rw [env2, env, show (2 : Int32) = nI 2 from rfl, nI_add]) HW (lv_sub hl [2, 3, 1, 0] rfl)
  have copy : ∀ (P : List ht_L) (g1 : ht_L) (Q : List ht_L) (nn : Nat), nn < 512 → (∀ (u : ht_W) (Lu : ht_LF) (Iu : ht_IF), ht_stI g M n w u Lf Lu If Iu d fr (P ++ [g1]) Q (nn + 1) → ∀ (H : Heap) (locs : List Loc) (ls : Array Slot) (kpv nv : Int32), kpv = nI (P ++ [g1]).length → nv = nI (nn + 1) → ht_I g s u H locs → lv_has ls 8 [(0, .ref (M 0)), (1, .int dv), (2, .int kpv), (3, .int nv)] → W p l e (headSpec ws_M_step ({ frames := 5, cells := 0, slots := 0, locals := 200 } : Room)).room s m ([.ref (M 0), .int dv] : List Value).toArray below meth c H locs 0 0 (MQ below (ht_Qv g (fun u => ∃ (n2 : Nat → Int32) (Lf2 : ht_LF) (If2 : ht_IF) (G2 : List ht_L), ht_Mo g u M n2 Lf2 If2 ∧ ht_fm M w u ∧ ht_same [1] n n2 ∧ ht_same [6, 11, 13, 14, 15, 16, 17] Lf Lf2 ∧ ht_same [4, 5, 10, 12] If If2 ∧ ht_Kp Lf2 If2 ∧ n2 1 = nI G2.length ∧ G2.length ≤ 512 ∧ ht_ga (If2 4) (If2 5) (Lf2 6) (ht_h ht_dgf (256 - d)) 0 fr G2 ∧ ht_gp d G2 ∧ G2.flatten = G.flatten)) ([.ref (M 0), .int dv] : List Value).toArray s 0 0 (ht_A g)) (F0 m 4 ls [])) → ∀ (u0 : ht_W) (L0 : ht_LF) (I0 : ht_IF), ht_stI g M n w u0 Lf L0 If I0 d fr P (g1 :: Q) nn → g1.length = 1 → ht_si d (P ++ [g1]) Q → P.length < 512 → ∀ (kpv nv szv bgv : Int32), kpv = nI P.length → nv = nI nn → szv = nI g1.length → bgv = nI (fr + P.flatten.length) → ∀ (r q : Nat), q + r = 4 → ∀ (u : ht_W) (Lu : ht_LF), ht_Mo g u M n Lu I0 → ht_fm M u0 u → ht_same [6, 11, 13, 14, 15, 16, 17] L0 Lu → ht_Kp Lu I0 → (∀ j, j < q → Lu 6 (4 * P.length + j) = L0 6 (4 * nn + j)) → (∀ i, i < 4 * P.length ∨ 4 * P.length + q ≤ i → Lu 6 i = L0 6 i) → ∀ (H : Heap) (locs : List Loc) (ls : Array Slot) (kv : Int32), kv = nI q → ht_I g s u H locs → lv_has ls 8 [(0, .ref (M 0)), (1, .int dv), (2, .int kpv), (3, .int nv), (4, .int 0), (5, .int szv), (6, .int bgv), (7, .int kv)] → W p l e (headSpec ws_M_step ({ frames := 5, cells := 0, slots := 0, locals := 200 } : Room)).room s m ([.ref (M 0), .int dv] : List Value).toArray below meth c H locs 0 0 (MQ below (ht_Qv g (fun u => ∃ (n2 : Nat → Int32) (Lf2 : ht_LF) (If2 : ht_IF) (G2 : List ht_L), ht_Mo g u M n2 Lf2 If2 ∧ ht_fm M w u ∧ ht_same [1] n n2 ∧ ht_same [6, 11, 13, 14, 15, 16, 17] Lf Lf2 ∧ ht_same [4, 5, 10, 12] If If2 ∧ ht_Kp Lf2 If2 ∧ n2 1 = nI G2.length ∧ G2.length ≤ 512 ∧ ht_ga (If2 4) (If2 5) (Lf2 6) (ht_h ht_dgf (256 - d)) 0 fr G2 ∧ ht_gp d G2 ∧ G2.flatten = G.flatten)) ([.ref (M 0), .int dv] : List Value).toArray s 0 0 (ht_A g)) (F0 m 167 ls []) := by
    intro P g1 Q nn hnn hgo u0 L0 I0 hst h1l hsi hP5 kpv nv szv bgv ekp env esz ebg r
    obtain ⟨-, -, -, -, -, -, ⟨-, -, hr0, hgQ⟩, hle, -⟩ := id hst
    induction r with
    | zero =>
      intro q hq u Lu hMu hfm2 hsL2 hK2 hgo4 hold H locs ls kv ekv HW hl
      have hO : ht_at u (M 0) (.inr (4, [.ref (M 1), .ref (M 2), .int (n 0), .ref (M 3), .ref (M 4), .ref (M 5), .ref (M 6), .int (n 1), .ref (M 7), .int (n 2), .ref (M 8), .int (n 3), .int (n 4), .ref (M 9), .ref (M 10), .ref (M 11), .ref (M 12), .ref (M 13), .ref (M 14), .ref (M 15), .ref (M 16), .ref (M 17)]) : va_E) := hMu.1
      have h6 : ht_at u (M 6) (ht_al g 2048 (Lu 6)) := hMu.L 6 (by decide) rfl
      refine lv_iload hx hb d_M_step_167 (lv_at hl 7 rfl) ?_
      refine lv_iconst (v := 4) hx hb d_M_step_169 (by decide) ?_
      refine lv_icmp_ge (tgt := 201) hx hb d_M_step_170 (by decide) (fun c170 => ?_) (fun c170 => ?_)
      · exact tail0 P g1 Q nn hnn hgo u Lu I0 (hst.mid hMu hfm2 hsL2 ht_same.rf hK2 (fun j hj => (hgo4 j (by omega)).trans (by rw [ht_si.h0 h1l]; exact hr0 j hj)) (fun i hi => hold i (by omega)) (Nat.le_refl _) hgQ hsi) hP5 _ _ _ kpv nv szv bgv ekp env esz ebg HW (lv_sub hl [0, 1, 2, 3, 4, 5, 6] rfl)
      · exact absurd (nI_le (show 4 ≤ q by omega) (by omega)) (by rw [ekv] at c170; exact c170)
    | succ r ih =>
      intro q hq u Lu hMu hfm2 hsL2 hK2 hgo4 hold H locs ls kv ekv HW hl
      have hO : ht_at u (M 0) (.inr (4, [.ref (M 1), .ref (M 2), .int (n 0), .ref (M 3), .ref (M 4), .ref (M 5), .ref (M 6), .int (n 1), .ref (M 7), .int (n 2), .ref (M 8), .int (n 3), .int (n 4), .ref (M 9), .ref (M 10), .ref (M 11), .ref (M 12), .ref (M 13), .ref (M 14), .ref (M 15), .ref (M 16), .ref (M 17)]) : va_E) := hMu.1
      have h6 : ht_at u (M 6) (ht_al g 2048 (Lu 6)) := hMu.L 6 (by decide) rfl
      refine lv_iload hx hb d_M_step_167 (lv_at hl 7 rfl) ?_
      refine lv_iconst (v := 4) hx hb d_M_step_169 (by decide) ?_
      refine lv_icmp_ge (tgt := 201) hx hb d_M_step_170 (by decide) (fun c170 => ?_) (fun c170 => ?_)
      · exact absurd (show nI 4 ≤ nI q by rw [ekv] at c170; exact c170) (nI_ge (by omega) (by omega))
      · refine lv_aload_n hx hb d_M_step_173 rfl (lv_at hl 0 rfl) ?_
        refine ht_get (C := R_M) (T := F_M) (N := 22) (v := .ref (M 6)) hx hb htb i_M hown HW hO rfl 6 (by decide) (htb _ wd_317) (fun _ h9 => h9) rfl d_M_step_174 ?_
        refine lv_iconst (v := 4) hx hb d_M_step_177 (by decide) ?_
        refine lv_iload_n hx hb d_M_step_178 rfl (lv_at hl 2 rfl) ?_
        refine lv_imul hx hb d_M_step_179 ?_
        refine lv_iload hx hb d_M_step_180 (lv_at hl 7 rfl) ?_
        refine lv_iadd hx hb d_M_step_182 ?_
        refine lv_topi (fun ia eia => ?_)
        have hia : ia = nI (4 * P.length + q) := by rw [eia, ekp, ekv, show (4 : Int32) = nI 4 from rfl, pk_mul, nI_add]
        refine lv_aload_n hx hb d_M_step_183 rfl (lv_at hl 0 rfl) ?_
        refine ht_get (C := R_M) (T := F_M) (N := 22) (v := .ref (M 6)) hx hb htb i_M hown HW hO rfl 6 (by decide) (htb _ wd_317) (fun _ h9 => h9) rfl d_M_step_184 ?_
        refine lv_iconst (v := 4) hx hb d_M_step_187 (by decide) ?_
        refine lv_iload_n hx hb d_M_step_188 rfl (lv_at hl 3 rfl) ?_
        refine lv_imul hx hb d_M_step_189 ?_
        refine lv_iload hx hb d_M_step_190 (lv_at hl 7 rfl) ?_
        refine lv_iadd hx hb d_M_step_192 ?_
        refine lv_topi (fun ib eib => ?_)
        have hib : ib = nI (4 * nn + q) := by rw [eib, env, ekv, show (4 : Int32) = nI 4 from rfl, pk_mul, nI_add]
        refine ht_lald hx hb HW h6 (by rw [hib]; exact vp_in_nI (by omega) (by omega)) d_M_step_193 ?_
        refine lv_topl (fun cv ecv => ?_)
        have ecv : cv = (Lu 6) (4 * nn + q) := by rw [ecv, hib, nI_clamp (by omega)]
        have ecv : cv = L0 6 (4 * nn + q) := by rw [ecv, hold _ (by omega)]
        refine ht_last hx hb HW h6 (by rw [hia]; exact vp_in_nI (by omega) (by omega)) d_M_step_194 (fun H locs HW => ?_)
        rw [hia, nI_clamp (by omega)] at HW
        have n_M_0_M_6 : (M 0) ≠ (M 6) := (hMu.ne 0 6 (by decide) (by decide) (by decide))
        obtain ⟨u1, hu1⟩ : ∃ zW : ht_W, zW = ht_up u (M 6) (ht_al g 2048 (vp_updL (Lu 6) (4 * P.length + q) cv)) := ⟨_, rfl⟩
        have HW : ht_I g s u1 H locs := by rw [hu1]; exact HW
        have hO : ht_at u1 (M 0) (.inr (4, [.ref (M 1), .ref (M 2), .int (n 0), .ref (M 3), .ref (M 4), .ref (M 5), .ref (M 6), .int (n 1), .ref (M 7), .int (n 2), .ref (M 8), .int (n 3), .int (n 4), .ref (M 9), .ref (M 10), .ref (M 11), .ref (M 12), .ref (M 13), .ref (M 14), .ref (M 15), .ref (M 16), .ref (M 17)]) : va_E) := by rw [hu1]; exact ht_at_ne hO n_M_0_M_6
        have h6 : ht_at u1 (M 6) (ht_al g 2048 (vp_updL (Lu 6) (4 * P.length + q) cv)) := by rw [hu1]; exact ht_at_self h6
        obtain ⟨kv2, ekv2⟩ : ∃ zI : Int32, zI = kv + 1 := ⟨_, rfl⟩
        refine lv_iinc (v := kv2) (lv' := [(7, .int kv2), (0, .ref (M 0)), (1, .int dv), (2, .int kpv), (3, .int nv), (4, .int 0), (5, .int szv), (6, .int bgv)]) hx hb d_M_step_195 hl (k := 7) rfl (by rw [ekv2]; rfl) (by decide) rfl (fun ls hl => ?_)
        refine lv_goto (tgt := 167) hx hb d_M_step_198 (by decide) ?_
        refine ih (q + 1) (by omega) u1 _ (by rw [hu1]; exact hMu.upL 6 (by decide) rfl _) (by rw [hu1]; exact hfm2.up 6 (by decide)) (hsL2.up (by decide)) (hK2.cg (va_up_ne _ _ (by decide)) (va_up_ne _ _ (by decide)) rfl) (fun j hj => ?_) (fun i hi => ?_) _ _ _ kv2 (by rw [ekv2, ekv, nI_1]) HW (lv_sub hl [1, 2, 3, 4, 5, 6, 7, 0] rfl)
        · rw [va_up_self]
          by_cases e : j = q
          · rw [e, pk_uLs]; exact ecv
          · rw [pk_uLn (by omega)]; exact hgo4 j (by omega)
        · rw [va_up_self, pk_uLn (by omega)]
          exact hold i (by omega)
  have loop : ∀ (r : Nat) (P Q : List ht_L) (nn : Nat), Q.length ≤ r → nn + Q.length = G.length → P.flatten ++ Q.flatten = G.flatten → (∀ (u : ht_W) (Lu : ht_LF) (Iu : ht_IF), ht_stI g M n w u Lf Lu If Iu d fr P Q nn → ∀ (H : Heap) (locs : List Loc) (ls : Array Slot) (kpv nv : Int32), kpv = nI (P).length → nv = nI nn → ht_I g s u H locs → lv_has ls 8 [(0, .ref (M 0)), (1, .int dv), (2, .int kpv), (3, .int nv)] → W p l e (headSpec ws_M_step ({ frames := 5, cells := 0, slots := 0, locals := 200 } : Room)).room s m ([.ref (M 0), .int dv] : List Value).toArray below meth c H locs 0 0 (MQ below (ht_Qv g (fun u => ∃ (n2 : Nat → Int32) (Lf2 : ht_LF) (If2 : ht_IF) (G2 : List ht_L), ht_Mo g u M n2 Lf2 If2 ∧ ht_fm M w u ∧ ht_same [1] n n2 ∧ ht_same [6, 11, 13, 14, 15, 16, 17] Lf Lf2 ∧ ht_same [4, 5, 10, 12] If If2 ∧ ht_Kp Lf2 If2 ∧ n2 1 = nI G2.length ∧ G2.length ≤ 512 ∧ ht_ga (If2 4) (If2 5) (Lf2 6) (ht_h ht_dgf (256 - d)) 0 fr G2 ∧ ht_gp d G2 ∧ G2.flatten = G.flatten)) ([.ref (M 0), .int dv] : List Value).toArray s 0 0 (ht_A g)) (F0 m 4 ls [])) := by
    intro r
    induction r with
    | zero =>
      intro P Q nn hrr hlen hfl u Lu Iu hst H locs ls kpv nv ekp env HW hl
      rcases Q with _ | ⟨g1, Q1⟩
      · obtain ⟨hMu, hfm, hsL, hsI, hKu, hgP, hgQ, hle, hsi⟩ := id hst
        have hO : ht_at u (M 0) (.inr (4, [.ref (M 1), .ref (M 2), .int (n 0), .ref (M 3), .ref (M 4), .ref (M 5), .ref (M 6), .int (n 1), .ref (M 7), .int (n 2), .ref (M 8), .int (n 3), .int (n 4), .ref (M 9), .ref (M 10), .ref (M 11), .ref (M 12), .ref (M 13), .ref (M 14), .ref (M 15), .ref (M 16), .ref (M 17)]) : va_E) := hMu.1
        refine lv_iload_n hx hb d_M_step_4 rfl (lv_at hl 3 rfl) ?_
        refine lv_aload_n hx hb d_M_step_5 rfl (lv_at hl 0 rfl) ?_
        refine ht_get (C := R_M) (T := F_M) (N := 22) (v := .int (n 1)) hx hb htb i_M hown HW hO rfl 7 (by decide) (htb _ wd_318) (fun _ h9 => h9) rfl d_M_step_6 ?_
        refine lv_icmp_ge (tgt := 236) hx hb d_M_step_9 (by decide) (fun c9 => ?_) (fun c9 => ?_)
        · refine lv_aload_n hx hb d_M_step_236 rfl (lv_at hl 0 rfl) ?_
          refine lv_iload_n hx hb d_M_step_237 rfl (lv_at hl 2 rfl) ?_
          refine ht_put (C := R_M) (T := F_M) (N := 22) (v := .int kpv) (ty := .int) hx hb htb i_M t_M t_M_ok n_M hown HW hO rfl 7 (by decide) (htb _ wd_318) (fun _ h9 => h9) rfl (by decide +kernel) rfl rfl (Nat.le_of_ble_eq_true rfl) d_M_step_238 (fun H locs HW => ?_)
          obtain ⟨u1, hu1⟩ : ∃ zW : ht_W, zW = ht_up u (M 0) (.inr (4, [.ref (M 1), .ref (M 2), .int (n 0), .ref (M 3), .ref (M 4), .ref (M 5), .ref (M 6), .int kpv, .ref (M 7), .int (n 2), .ref (M 8), .int (n 3), .int (n 4), .ref (M 9), .ref (M 10), .ref (M 11), .ref (M 12), .ref (M 13), .ref (M 14), .ref (M 15), .ref (M 16), .ref (M 17)]) : va_E) := ⟨_, rfl⟩
          have HW : ht_I g s u1 H locs := by rw [hu1]; exact HW
          have hO : ht_at u1 (M 0) (.inr (4, [.ref (M 1), .ref (M 2), .int (n 0), .ref (M 3), .ref (M 4), .ref (M 5), .ref (M 6), .int kpv, .ref (M 7), .int (n 2), .ref (M 8), .int (n 3), .int (n 4), .ref (M 9), .ref (M 10), .ref (M 11), .ref (M 12), .ref (M 13), .ref (M 14), .ref (M 15), .ref (M 16), .ref (M 17)]) : va_E) := by rw [hu1]; exact ht_at_self hO
          exact ht_vret hx hb hr hlocks HW ⟨va_up n 1 kpv, Lu, Iu, P, by rw [hu1]; exact hMu.up0 (va_up n 1 kpv), by rw [hu1]; exact hfm.up 0 (by decide), ht_same.rf.up (by decide), hsL, hsI, hKu, ekp, by simp only [List.length_nil] at hlen; omega, hgP, hsi.1, by rw [← hfl]; simp⟩ d_M_step_241
        · exact absurd (by rw [env, hn1]; exact nI_le (by simp only [List.length_nil] at hlen; omega) (by omega)) c9
      · exact absurd hrr (by simp)
    | succ r ih =>
      intro P Q nn hrr hlen hfl u Lu Iu hst H locs ls kpv nv ekp env HW hl
      rcases Q with _ | ⟨g1, Q1⟩
      · obtain ⟨hMu, hfm, hsL, hsI, hKu, hgP, hgQ, hle, hsi⟩ := id hst
        have hO : ht_at u (M 0) (.inr (4, [.ref (M 1), .ref (M 2), .int (n 0), .ref (M 3), .ref (M 4), .ref (M 5), .ref (M 6), .int (n 1), .ref (M 7), .int (n 2), .ref (M 8), .int (n 3), .int (n 4), .ref (M 9), .ref (M 10), .ref (M 11), .ref (M 12), .ref (M 13), .ref (M 14), .ref (M 15), .ref (M 16), .ref (M 17)]) : va_E) := hMu.1
        refine lv_iload_n hx hb d_M_step_4 rfl (lv_at hl 3 rfl) ?_
        refine lv_aload_n hx hb d_M_step_5 rfl (lv_at hl 0 rfl) ?_
        refine ht_get (C := R_M) (T := F_M) (N := 22) (v := .int (n 1)) hx hb htb i_M hown HW hO rfl 7 (by decide) (htb _ wd_318) (fun _ h9 => h9) rfl d_M_step_6 ?_
        refine lv_icmp_ge (tgt := 236) hx hb d_M_step_9 (by decide) (fun c9 => ?_) (fun c9 => ?_)
        · refine lv_aload_n hx hb d_M_step_236 rfl (lv_at hl 0 rfl) ?_
          refine lv_iload_n hx hb d_M_step_237 rfl (lv_at hl 2 rfl) ?_
          refine ht_put (C := R_M) (T := F_M) (N := 22) (v := .int kpv) (ty := .int) hx hb htb i_M t_M t_M_ok n_M hown HW hO rfl 7 (by decide) (htb _ wd_318) (fun _ h9 => h9) rfl (by decide +kernel) rfl rfl (Nat.le_of_ble_eq_true rfl) d_M_step_238 (fun H locs HW => ?_)
          obtain ⟨u1, hu1⟩ : ∃ zW : ht_W, zW = ht_up u (M 0) (.inr (4, [.ref (M 1), .ref (M 2), .int (n 0), .ref (M 3), .ref (M 4), .ref (M 5), .ref (M 6), .int kpv, .ref (M 7), .int (n 2), .ref (M 8), .int (n 3), .int (n 4), .ref (M 9), .ref (M 10), .ref (M 11), .ref (M 12), .ref (M 13), .ref (M 14), .ref (M 15), .ref (M 16), .ref (M 17)]) : va_E) := ⟨_, rfl⟩
          have HW : ht_I g s u1 H locs := by rw [hu1]; exact HW
          have hO : ht_at u1 (M 0) (.inr (4, [.ref (M 1), .ref (M 2), .int (n 0), .ref (M 3), .ref (M 4), .ref (M 5), .ref (M 6), .int kpv, .ref (M 7), .int (n 2), .ref (M 8), .int (n 3), .int (n 4), .ref (M 9), .ref (M 10), .ref (M 11), .ref (M 12), .ref (M 13), .ref (M 14), .ref (M 15), .ref (M 16), .ref (M 17)]) : va_E) := by rw [hu1]; exact ht_at_self hO
          exact ht_vret hx hb hr hlocks HW ⟨va_up n 1 kpv, Lu, Iu, P, by rw [hu1]; exact hMu.up0 (va_up n 1 kpv), by rw [hu1]; exact hfm.up 0 (by decide), ht_same.rf.up (by decide), hsL, hsI, hKu, ekp, by simp only [List.length_nil] at hlen; omega, hgP, hsi.1, by rw [← hfl]; simp⟩ d_M_step_241
        · exact absurd (by rw [env, hn1]; exact nI_le (by simp only [List.length_nil] at hlen; omega) (by omega)) c9
      · rcases Q1 with _ | ⟨g2, Q2⟩
        · obtain ⟨hMu, hfm, hsL, hsI, hKu, hgP, ⟨hb1, hs1, hr1, hgQ1⟩, hle, hsi⟩ := id hst
          rw [List.length_cons] at hlen
          have hnn : nn < 512 := by omega
          have hP5 : P.length < 512 := by omega
          have hne1 : g1 ≠ [] := (hsi.2.1.1 g1 List.mem_cons_self).1
          have hg1 : 1 ≤ g1.length := List.length_pos_iff.mpr hne1
          rw [List.flatten_cons] at hfl
          have hsub1 := hsub
          rw [← hfl] at hsub1
          obtain ⟨p1, hp1, hR1⟩ := hsub1.hd hne1
          have hlt1 := ht_gn hR1
          have h512 := hRL.1
          have hrx : ht_row (Lu 1) (4 * (fr + P.flatten.length)) p1.1 := by rw [hsL 1 (by decide)]; exact (hRL.2.2 _ _ hR1).1
          have hglen : g1.length ≤ 512 := by
            have h9 : g1.length ≤ G.flatten.length := by rw [← hfl]; simp only [List.length_append]; omega
            have h8 : G.flatten.length ≤ R.length := ht_subl hsub
            omega
          have hO : ht_at u (M 0) (.inr (4, [.ref (M 1), .ref (M 2), .int (n 0), .ref (M 3), .ref (M 4), .ref (M 5), .ref (M 6), .int (n 1), .ref (M 7), .int (n 2), .ref (M 8), .int (n 3), .int (n 4), .ref (M 9), .ref (M 10), .ref (M 11), .ref (M 12), .ref (M 13), .ref (M 14), .ref (M 15), .ref (M 16), .ref (M 17)]) : va_E) := hMu.1
          have h1 : ht_at u (M 1) (ht_al g 2048 (Lu 1)) := hMu.L 1 (by decide) rfl
          have h4 : ht_at u (M 4) (ht_ai g 512 (Iu 4)) := hMu.2.2.1
          have h5 : ht_at u (M 5) (ht_ai g 512 (Iu 5)) := hMu.2.2.2.1
          have h6 : ht_at u (M 6) (ht_al g 2048 (Lu 6)) := hMu.L 6 (by decide) rfl
          refine lv_iload_n hx hb d_M_step_4 rfl (lv_at hl 3 rfl) ?_
          refine lv_aload_n hx hb d_M_step_5 rfl (lv_at hl 0 rfl) ?_
          refine ht_get (C := R_M) (T := F_M) (N := 22) (v := .int (n 1)) hx hb htb i_M hown HW hO rfl 7 (by decide) (htb _ wd_318) (fun _ h9 => h9) rfl d_M_step_6 ?_
          refine lv_icmp_ge (tgt := 236) hx hb d_M_step_9 (by decide) (fun c9 => ?_) (fun c9 => ?_)
          · exact absurd (show nI G.length ≤ nI nn by rw [env, hn1] at c9; exact c9) (nI_ge (by omega) (by omega))
          · refine lv_iload_n hx hb d_M_step_12 rfl (lv_at hl 3 rfl) ?_
            refine lv_iconst (v := 1) hx hb d_M_step_13 (by decide) ?_
            refine lv_iadd hx hb d_M_step_14 ?_
            refine lv_topi (fun n1v en1v => ?_)
            have hn1v : n1v = nI (nn + 1) := by rw [en1v, env, nI_1]
            refine lv_aload_n hx hb d_M_step_15 rfl (lv_at hl 0 rfl) ?_
            refine ht_get (C := R_M) (T := F_M) (N := 22) (v := .int (n 1)) hx hb htb i_M hown HW hO rfl 7 (by decide) (htb _ wd_318) (fun _ h9 => h9) rfl d_M_step_16 ?_
            refine lv_icmp_ge (tgt := 48) hx hb d_M_step_19 (by decide) (fun c19 => ?_) (fun c19 => ?_)
            · refine lv_iconst (v := 0) hx hb d_M_step_48 (by decide) ?_
              refine lv_istore (lv' := [(4, .int 0), (0, .ref (M 0)), (1, .int dv), (2, .int kpv), (3, .int nv)]) hx hb d_M_step_49 hl (by decide) rfl (fun ls hl => ?_)
              refine lv_iload hx hb d_M_step_51 (lv_at hl 0 rfl) ?_
              refine lv_if_eq (tgt := 74) hx hb d_M_step_53 (by decide) (fun c53 => ?_) (fun c53 => ?_)
              · refine lv_aload_n hx hb d_M_step_74 rfl (lv_at hl 1 rfl) ?_
                refine ht_get (C := R_M) (T := F_M) (N := 22) (v := .ref (M 5)) hx hb htb i_M hown HW hO rfl 5 (by decide) (htb _ wd_316) (fun _ h9 => h9) rfl d_M_step_75 ?_
                refine lv_iload_n hx hb d_M_step_78 rfl (lv_at hl 4 rfl) ?_
                refine ht_iald hx hb HW h5 (by rw [env]; exact vp_in_nI (by omega) (by omega)) d_M_step_79 ?_
                refine lv_topi (fun s1 es1 => ?_)
                have es1 : s1 = (Iu 5) nn := by rw [es1, env, nI_clamp (by omega)]
                have es1 : s1 = nI g1.length := by rw [es1, hs1]
                refine lv_istore (lv' := [(5, .int s1), (4, .int 0), (0, .ref (M 0)), (1, .int dv), (2, .int kpv), (3, .int nv)]) hx hb d_M_step_80 hl (by decide) rfl (fun ls hl => ?_)
                refine lv_aload_n hx hb d_M_step_82 rfl (lv_at hl 2 rfl) ?_
                refine ht_get (C := R_M) (T := F_M) (N := 22) (v := .ref (M 4)) hx hb htb i_M hown HW hO rfl 4 (by decide) (htb _ wd_315) (fun _ h9 => h9) rfl d_M_step_83 ?_
                refine lv_iload_n hx hb d_M_step_86 rfl (lv_at hl 5 rfl) ?_
                refine ht_iald hx hb HW h4 (by rw [env]; exact vp_in_nI (by omega) (by omega)) d_M_step_87 ?_
                refine lv_topi (fun bg ebg => ?_)
                have ebg : bg = (Iu 4) nn := by rw [ebg, env, nI_clamp (by omega)]
                have ebg : bg = nI (fr + P.flatten.length) := by rw [ebg, hb1]
                refine lv_istore (lv' := [(6, .int bg), (5, .int s1), (4, .int 0), (0, .ref (M 0)), (1, .int dv), (2, .int kpv), (3, .int nv)]) hx hb d_M_step_88 hl (by decide) rfl (fun ls hl => ?_)
                refine lv_iload hx hb d_M_step_90 (lv_at hl 2 rfl) ?_
                refine lv_if_eq (tgt := 107) hx hb d_M_step_92 (by decide) (fun c92 => ?_) (fun c92 => ?_)
                · refine lv_iload hx hb d_M_step_107 (lv_at hl 1 rfl) ?_
                  refine lv_iconst (v := 1) hx hb d_M_step_109 (by decide) ?_
                  refine lv_icmp_le (tgt := 164) hx hb d_M_step_110 (by decide) (fun c110 => ?_) (fun c110 => ?_)
                  · have hl1 : g1.length = 1 := by
                      have h9 : g1.length ≤ 1 := Nat.not_lt.mp (fun z9 => nI_ge z9 (by have := hglen; omega) (show nI g1.length ≤ nI 1 by rw [es1] at c110; exact c110))
                      omega
                    refine lv_iconst (v := 0) hx hb d_M_step_164 (by decide) ?_
                    refine lv_istore (lv' := [(7, .int 0), (6, .int bg), (5, .int s1), (4, .int 0), (0, .ref (M 0)), (1, .int dv), (2, .int kpv), (3, .int nv)]) hx hb d_M_step_165 hl (by decide) rfl (fun ls hl => ?_)
                    exact copy P g1 [] nn hnn (ih (P ++ [g1]) [] (nn + 1) (by simp only [List.length_cons, List.length_nil] at hlen hrr ⊢; omega) (by simp only [List.length_cons, List.length_nil] at hlen ⊢; omega) (by rw [← hfl]; simp)) u Lu Iu hst hl1 (hsi.one (by omega) (fun g9 Q9 e9 => by cases e9)) hP5 kpv nv s1 bg ekp env es1 ebg 4 0 rfl u Lu hMu ht_fm.rf ht_same.rf hKu (fun j hj => absurd hj (Nat.not_lt_zero j)) (fun i _ => rfl) _ _ _ 0 rfl HW (lv_sub hl [4, 5, 6, 7, 3, 2, 1, 0] rfl)
                  · have hl2 : 2 ≤ g1.length := Nat.not_lt.mp (fun z9 => c110 (by rw [es1]; exact nI_le (show g1.length ≤ 1 by omega) (by decide)))
                    refine lv_aload_n hx hb d_M_step_113 rfl (lv_at hl 3 rfl) ?_
                    refine ht_get (C := R_M) (T := F_M) (N := 22) (v := .ref (M 1)) hx hb htb i_M hown HW hO rfl 0 (by decide) (htb _ wd_311) (fun _ h9 => h9) rfl d_M_step_114 ?_
                    refine lv_iconst (v := 4) hx hb d_M_step_117 (by decide) ?_
                    refine lv_iload hx hb d_M_step_118 (lv_at hl 0 rfl) ?_
                    refine lv_imul hx hb d_M_step_120 ?_
                    refine lv_topi (fun ia eia => ?_)
                    have hia : ia = nI (4 * (fr + P.flatten.length)) := by rw [eia, ebg, show (4 : Int32) = nI 4 from rfl, pk_mul]
                    refine lv_iload_n hx hb d_M_step_121 rfl (lv_at hl 4 rfl) ?_
                    refine ht_ci HW (va_runS (own := R_M) (As := [.ref (M 1), .int ia, .int dv]) (rest := []) ⟨hx, hb, hml, hown, htb⟩ (c_M_bit l g u h1 (4 * (fr + P.flatten.length)) (by omega) (by decide) hrx d (by omega) ia dv hia ed) (va_cwS 3 htb (ht_gs wd_484 wd_485 wd_3 g_M_bit) rfl rfl rfl (by decide +kernel) ⟨Nat.le_of_ble_eq_true rfl, Nat.le_of_ble_eq_true rfl⟩) (HW.preS _) rfl rfl hl.1 rfl (lv_room (Nat.le_of_ble_eq_true rfl)) d_M_step_122 ⟨Nat.le_of_ble_eq_true rfl, Nat.le_of_ble_eq_true rfl⟩) (fun q2 u1 H locs pb HW => ?_)
                    obtain ⟨er, eww⟩ := pb
                    subst eww
                    subst er
                    rcases hbt : ht_bit p1.1 d with _ | _
                    · skip
                      refine lv_iconst (v := 1) hx hb d_M_step_125 (by decide) ?_
                      refine W.eq (g2 := F0 _ 126 ls [.int 1, .int 0]) rfl ?_
                      refine lv_icmp_ne (tgt := 133) hx hb d_M_step_126 (by decide) (fun c126 => ?_) (fun c126 => ?_)
                      · refine lv_iconst (v := 0) hx hb d_M_step_133 (by decide) ?_
                        refine lv_istore (lv' := [(7, .int 0), (6, .int bg), (5, .int s1), (4, .int 0), (0, .ref (M 0)), (1, .int dv), (2, .int kpv), (3, .int nv)]) hx hb d_M_step_134 hl (by decide) rfl (fun ls hl => ?_)
                        refine lv_aload_n hx hb d_M_step_136 rfl (lv_at hl 4 rfl) ?_
                        refine lv_iload_n hx hb d_M_step_137 rfl (lv_at hl 6 rfl) ?_
                        refine lv_iload hx hb d_M_step_138 (lv_at hl 0 rfl) ?_
                        refine lv_if_eq (tgt := 147) hx hb d_M_step_140 (by decide) (fun c140 => ?_) (fun c140 => ?_)
                        · refine lv_iload_n hx hb d_M_step_147 rfl (lv_at hl 7 rfl) ?_
                          refine lv_iload hx hb d_M_step_148 (lv_at hl 0 rfl) ?_
                          refine lv_if_eq (tgt := 157) hx hb d_M_step_150 (by decide) (fun c150 => ?_) (fun c150 => ?_)
                          · refine lv_iconst (v := -1) hx hb d_M_step_157 (by decide) ?_
                            refine ht_cv HW (va_runV (own := R_M) (C := R_M) (As := [.int kpv, .int nv, .int (-1)]) (rest := []) ⟨hx, hb, hml, hown, htb⟩ (c_M_fork l g u hMu hKu P.length hP5 kpv nv (-1) ekp (Or.inr ⟨nn, hnn, env, hr1⟩) (Or.inl ⟨rfl, rfl⟩)) (cwV 3 htb (ht_gv wd_480 wd_482 sl_22 wd_3 g_M_fork) rfl rfl rfl (by decide +kernel) ⟨Nat.le_of_ble_eq_true rfl, Nat.le_of_ble_eq_true rfl⟩) (HW.preV hO rfl _) rfl rfl hl.1 rfl (lv_room (Nat.le_of_ble_eq_true rfl)) d_M_step_158 ⟨Nat.le_of_ble_eq_true rfl, Nat.le_of_ble_eq_true rfl⟩) (fun u3 H locs pf HW => ?_)
                            obtain ⟨L2, I2, hM2, hfm2, hs2L, hs2I, hK2, hrow2, hold2⟩ := pf
                            refine lv_goto (tgt := 201) hx hb d_M_step_161 (by decide) ?_
                            exact tail0 P g1 [] nn hnn (ih (P ++ [g1]) [] (nn + 1) (by simp only [List.length_cons, List.length_nil] at hlen hrr ⊢; omega) (by simp only [List.length_cons, List.length_nil] at hlen ⊢; omega) (by rw [← hfl]; simp)) u3 L2 I2 (hst.mid hM2 hfm2 hs2L hs2I hK2 (by rw [hsi.h1 hd hp1 hl2, hbt]; exact hrow2) hold2 (by omega) hgQ1 (hsi.one (by omega) (fun g9 Q9 e9 => by cases e9))) hP5 _ _ _ kpv nv s1 bg ekp env es1 ebg HW (lv_sub hl [4, 5, 6, 7, 3, 2, 1] rfl)
                          · exact absurd rfl c150
                        · exact absurd rfl c140
                      · exact absurd c126 (by decide)
                    · skip
                      refine lv_iconst (v := 1) hx hb d_M_step_125 (by decide) ?_
                      refine W.eq (g2 := F0 _ 126 ls [.int 1, .int 1]) rfl ?_
                      refine lv_icmp_ne (tgt := 133) hx hb d_M_step_126 (by decide) (fun c126 => ?_) (fun c126 => ?_)
                      · exact absurd rfl c126
                      · refine lv_iconst (v := 1) hx hb d_M_step_129 (by decide) ?_
                        refine lv_goto (tgt := 134) hx hb d_M_step_130 (by decide) ?_
                        refine lv_istore (lv' := [(7, .int 1), (6, .int bg), (5, .int s1), (4, .int 0), (0, .ref (M 0)), (1, .int dv), (2, .int kpv), (3, .int nv)]) hx hb d_M_step_134 hl (by decide) rfl (fun ls hl => ?_)
                        refine lv_aload_n hx hb d_M_step_136 rfl (lv_at hl 4 rfl) ?_
                        refine lv_iload_n hx hb d_M_step_137 rfl (lv_at hl 6 rfl) ?_
                        refine lv_iload hx hb d_M_step_138 (lv_at hl 0 rfl) ?_
                        refine lv_if_eq (tgt := 147) hx hb d_M_step_140 (by decide) (fun c140 => ?_) (fun c140 => ?_)
                        · exact absurd c140 (by decide)
                        · refine lv_iconst (v := -1) hx hb d_M_step_143 (by decide) ?_
                          refine lv_goto (tgt := 148) hx hb d_M_step_144 (by decide) ?_
                          refine lv_iload hx hb d_M_step_148 (lv_at hl 0 rfl) ?_
                          refine lv_if_eq (tgt := 157) hx hb d_M_step_150 (by decide) (fun c150 => ?_) (fun c150 => ?_)
                          · exact absurd c150 (by decide)
                          · refine lv_iload_n hx hb d_M_step_153 rfl (lv_at hl 7 rfl) ?_
                            refine lv_goto (tgt := 158) hx hb d_M_step_154 (by decide) ?_
                            refine ht_cv HW (va_runV (own := R_M) (C := R_M) (As := [.int kpv, .int (-1), .int nv]) (rest := []) ⟨hx, hb, hml, hown, htb⟩ (c_M_fork l g u hMu hKu P.length hP5 kpv (-1) nv ekp (Or.inl ⟨rfl, rfl⟩) (Or.inr ⟨nn, hnn, env, hr1⟩)) (cwV 3 htb (ht_gv wd_480 wd_482 sl_22 wd_3 g_M_fork) rfl rfl rfl (by decide +kernel) ⟨Nat.le_of_ble_eq_true rfl, Nat.le_of_ble_eq_true rfl⟩) (HW.preV hO rfl _) rfl rfl hl.1 rfl (lv_room (Nat.le_of_ble_eq_true rfl)) d_M_step_158 ⟨Nat.le_of_ble_eq_true rfl, Nat.le_of_ble_eq_true rfl⟩) (fun u4 H locs pf HW => ?_)
                            obtain ⟨L2, I2, hM2, hfm2, hs2L, hs2I, hK2, hrow2, hold2⟩ := pf
                            refine lv_goto (tgt := 201) hx hb d_M_step_161 (by decide) ?_
                            exact tail0 P g1 [] nn hnn (ih (P ++ [g1]) [] (nn + 1) (by simp only [List.length_cons, List.length_nil] at hlen hrr ⊢; omega) (by simp only [List.length_cons, List.length_nil] at hlen ⊢; omega) (by rw [← hfl]; simp)) u4 L2 I2 (hst.mid hM2 hfm2 hs2L hs2I hK2 (by rw [hsi.h1 hd hp1 hl2, hbt]; exact hrow2) hold2 (by omega) hgQ1 (hsi.one (by omega) (fun g9 Q9 e9 => by cases e9))) hP5 _ _ _ kpv nv s1 bg ekp env es1 ebg HW (lv_sub hl [4, 5, 6, 7, 3, 2, 1] rfl)
                · exact absurd rfl c92
              · exact absurd rfl c53
            · exact absurd (by rw [hn1v, hn1]; exact nI_le (by simp only [List.length_nil] at hlen; omega) (by omega)) c19
        · obtain ⟨hMu, hfm, hsL, hsI, hKu, hgP, ⟨hb1, hs1, hr1, hgQ1⟩, hle, hsi⟩ := id hst
          rw [List.length_cons] at hlen
          have hnn : nn < 512 := by omega
          have hP5 : P.length < 512 := by omega
          have hne1 : g1 ≠ [] := (hsi.2.1.1 g1 List.mem_cons_self).1
          have hg1 : 1 ≤ g1.length := List.length_pos_iff.mpr hne1
          rw [List.flatten_cons] at hfl
          have hsub1 := hsub
          rw [← hfl] at hsub1
          obtain ⟨p1, hp1, hR1⟩ := hsub1.hd hne1
          have hlt1 := ht_gn hR1
          have h512 := hRL.1
          have hrx : ht_row (Lu 1) (4 * (fr + P.flatten.length)) p1.1 := by rw [hsL 1 (by decide)]; exact (hRL.2.2 _ _ hR1).1
          have hglen : g1.length ≤ 512 := by
            have h9 : g1.length ≤ G.flatten.length := by rw [← hfl]; simp only [List.length_append]; omega
            have h8 : G.flatten.length ≤ R.length := ht_subl hsub
            omega
          have hne2 : g2 ≠ [] := (hsi.2.1.1 g2 (List.mem_cons_of_mem _ List.mem_cons_self)).1
          have hsub2 := hsub1
          rw [List.flatten_cons, ← List.append_assoc] at hsub2
          obtain ⟨p2, hp2, hR2⟩ := hsub2.hd hne2
          rw [List.length_append, ← Nat.add_assoc] at hR2
          have hlt2 := ht_gn hR2
          have hry : ht_row (Lu 1) (4 * (fr + P.flatten.length + g1.length)) p2.1 := by rw [hsL 1 (by decide)]; exact (hRL.2.2 _ _ hR2).1
          have hO : ht_at u (M 0) (.inr (4, [.ref (M 1), .ref (M 2), .int (n 0), .ref (M 3), .ref (M 4), .ref (M 5), .ref (M 6), .int (n 1), .ref (M 7), .int (n 2), .ref (M 8), .int (n 3), .int (n 4), .ref (M 9), .ref (M 10), .ref (M 11), .ref (M 12), .ref (M 13), .ref (M 14), .ref (M 15), .ref (M 16), .ref (M 17)]) : va_E) := hMu.1
          have h1 : ht_at u (M 1) (ht_al g 2048 (Lu 1)) := hMu.L 1 (by decide) rfl
          have h4 : ht_at u (M 4) (ht_ai g 512 (Iu 4)) := hMu.2.2.1
          have h5 : ht_at u (M 5) (ht_ai g 512 (Iu 5)) := hMu.2.2.2.1
          have h6 : ht_at u (M 6) (ht_al g 2048 (Lu 6)) := hMu.L 6 (by decide) rfl
          refine lv_iload_n hx hb d_M_step_4 rfl (lv_at hl 3 rfl) ?_
          refine lv_aload_n hx hb d_M_step_5 rfl (lv_at hl 0 rfl) ?_
          refine ht_get (C := R_M) (T := F_M) (N := 22) (v := .int (n 1)) hx hb htb i_M hown HW hO rfl 7 (by decide) (htb _ wd_318) (fun _ h9 => h9) rfl d_M_step_6 ?_
          refine lv_icmp_ge (tgt := 236) hx hb d_M_step_9 (by decide) (fun c9 => ?_) (fun c9 => ?_)
          · exact absurd (show nI G.length ≤ nI nn by rw [env, hn1] at c9; exact c9) (nI_ge (by omega) (by omega))
          · refine lv_iload_n hx hb d_M_step_12 rfl (lv_at hl 3 rfl) ?_
            refine lv_iconst (v := 1) hx hb d_M_step_13 (by decide) ?_
            refine lv_iadd hx hb d_M_step_14 ?_
            refine lv_topi (fun n1v en1v => ?_)
            have hn1v : n1v = nI (nn + 1) := by rw [en1v, env, nI_1]
            refine lv_aload_n hx hb d_M_step_15 rfl (lv_at hl 0 rfl) ?_
            refine ht_get (C := R_M) (T := F_M) (N := 22) (v := .int (n 1)) hx hb htb i_M hown HW hO rfl 7 (by decide) (htb _ wd_318) (fun _ h9 => h9) rfl d_M_step_16 ?_
            refine lv_icmp_ge (tgt := 48) hx hb d_M_step_19 (by decide) (fun c19 => ?_) (fun c19 => ?_)
            · exact absurd (show nI G.length ≤ nI (nn + 1) by rw [hn1v, hn1] at c19; exact c19) (nI_ge (by simp only [List.length_cons] at hlen; omega) (by omega))
            · refine lv_aload_n hx hb d_M_step_22 rfl (lv_at hl 0 rfl) ?_
              refine lv_aload_n hx hb d_M_step_23 rfl (lv_at hl 0 rfl) ?_
              refine ht_get (C := R_M) (T := F_M) (N := 22) (v := .ref (M 4)) hx hb htb i_M hown HW hO rfl 4 (by decide) (htb _ wd_315) (fun _ h9 => h9) rfl d_M_step_24 ?_
              refine lv_iload_n hx hb d_M_step_27 rfl (lv_at hl 3 rfl) ?_
              refine ht_iald hx hb HW h4 (by rw [env]; exact vp_in_nI (by omega) (by omega)) d_M_step_28 ?_
              refine lv_topi (fun b1 eb1 => ?_)
              have eb1 : b1 = (Iu 4) nn := by rw [eb1, env, nI_clamp (by omega)]
              have eb1 : b1 = nI (fr + P.flatten.length) := by rw [eb1, hb1]
              refine lv_aload_n hx hb d_M_step_29 rfl (lv_at hl 0 rfl) ?_
              refine ht_get (C := R_M) (T := F_M) (N := 22) (v := .ref (M 4)) hx hb htb i_M hown HW hO rfl 4 (by decide) (htb _ wd_315) (fun _ h9 => h9) rfl d_M_step_30 ?_
              refine lv_iload_n hx hb d_M_step_33 rfl (lv_at hl 3 rfl) ?_
              refine lv_iconst (v := 1) hx hb d_M_step_34 (by decide) ?_
              refine lv_iadd hx hb d_M_step_35 ?_
              refine lv_topi (fun n2v en2v => ?_)
              have hn2v : n2v = nI (nn + 1) := by rw [en2v, env, nI_1]
              refine ht_iald hx hb HW h4 (by rw [hn2v]; exact vp_in_nI (by simp only [List.length_cons] at hlen; omega) (by omega)) d_M_step_36 ?_
              refine lv_topi (fun b2 eb2 => ?_)
              have eb2 : b2 = (Iu 4) (nn + 1) := by rw [eb2, hn2v, nI_clamp (by omega)]
              have eb2 : b2 = nI (fr + P.flatten.length + g1.length) := by rw [eb2, hgQ1.1]
              refine lv_iload_n hx hb d_M_step_37 rfl (lv_at hl 1 rfl) ?_
              refine ht_ci HW (va_runV (own := R_M) (C := R_M) (As := [.int b1, .int b2, .int dv]) (rest := []) ⟨hx, hb, hml, hown, htb⟩ (c_M_agree l g u hMu (fr + P.flatten.length) (fr + P.flatten.length + g1.length) d (by omega) (by omega) (by omega) b1 b2 dv eb1 eb2 ed hrx hry) (cwV 3 htb (ht_gv wd_476 wd_478 sl_21 wd_3 g_M_agree) rfl rfl rfl (by decide +kernel) ⟨Nat.le_of_ble_eq_true rfl, Nat.le_of_ble_eq_true rfl⟩) (HW.preV hO rfl _) rfl rfl hl.1 rfl (lv_room (Nat.le_of_ble_eq_true rfl)) d_M_step_38 ⟨Nat.le_of_ble_eq_true rfl, Nat.le_of_ble_eq_true rfl⟩) (fun q2 u1 H locs pg HW => ?_)
              obtain ⟨pg, eww⟩ := pg
              subst eww
              rcases pg with ⟨er, hag⟩ | ⟨er, hag⟩
              · subst er
                refine lv_if_eq (tgt := 48) hx hb d_M_step_41 (by decide) (fun c41 => ?_) (fun c41 => ?_)
                · exact absurd c41 (by decide)
                · refine lv_iconst (v := 1) hx hb d_M_step_44 (by decide) ?_
                  refine lv_goto (tgt := 49) hx hb d_M_step_45 (by decide) ?_
                  refine lv_istore (lv' := [(4, .int 1), (0, .ref (M 0)), (1, .int dv), (2, .int kpv), (3, .int nv)]) hx hb d_M_step_49 hl (by decide) rfl (fun ls hl => ?_)
                  refine lv_iload hx hb d_M_step_51 (lv_at hl 0 rfl) ?_
                  refine lv_if_eq (tgt := 74) hx hb d_M_step_53 (by decide) (fun c53 => ?_) (fun c53 => ?_)
                  · exact absurd c53 (by decide)
                  · refine lv_aload_n hx hb d_M_step_56 rfl (lv_at hl 1 rfl) ?_
                    refine ht_get (C := R_M) (T := F_M) (N := 22) (v := .ref (M 5)) hx hb htb i_M hown HW hO rfl 5 (by decide) (htb _ wd_316) (fun _ h9 => h9) rfl d_M_step_57 ?_
                    refine lv_iload_n hx hb d_M_step_60 rfl (lv_at hl 4 rfl) ?_
                    refine ht_iald hx hb HW h5 (by rw [env]; exact vp_in_nI (by omega) (by omega)) d_M_step_61 ?_
                    refine lv_topi (fun s1 es1 => ?_)
                    have es1 : s1 = (Iu 5) nn := by rw [es1, env, nI_clamp (by omega)]
                    have es1 : s1 = nI g1.length := by rw [es1, hs1]
                    refine lv_aload_n hx hb d_M_step_62 rfl (lv_at hl 1 rfl) ?_
                    refine ht_get (C := R_M) (T := F_M) (N := 22) (v := .ref (M 5)) hx hb htb i_M hown HW hO rfl 5 (by decide) (htb _ wd_316) (fun _ h9 => h9) rfl d_M_step_63 ?_
                    refine lv_iload_n hx hb d_M_step_66 rfl (lv_at hl 4 rfl) ?_
                    refine lv_iconst (v := 1) hx hb d_M_step_67 (by decide) ?_
                    refine lv_iadd hx hb d_M_step_68 ?_
                    refine lv_topi (fun n3v en3v => ?_)
                    have hn3v : n3v = nI (nn + 1) := by rw [en3v, env, nI_1]
                    refine ht_iald hx hb HW h5 (by rw [hn3v]; exact vp_in_nI (by simp only [List.length_cons] at hlen; omega) (by omega)) d_M_step_69 ?_
                    refine lv_topi (fun s2 es2 => ?_)
                    have es2 : s2 = (Iu 5) (nn + 1) := by rw [es2, hn3v, nI_clamp (by omega)]
                    have es2 : s2 = nI g2.length := by rw [es2, hgQ1.2.1]
                    refine lv_iadd hx hb d_M_step_70 ?_
                    refine lv_goto (tgt := 80) hx hb d_M_step_71 (by decide) ?_
                    refine lv_topi (fun szv eszv => ?_)
                    refine lv_istore (lv' := [(5, .int szv), (4, .int 1), (0, .ref (M 0)), (1, .int dv), (2, .int kpv), (3, .int nv)]) hx hb d_M_step_80 hl (by decide) rfl (fun ls hl => ?_)
                    have eszv : szv = nI (g1 ++ g2).length := by rw [eszv, es1, es2, nI_add, List.length_append]
                    refine lv_aload_n hx hb d_M_step_82 rfl (lv_at hl 2 rfl) ?_
                    refine ht_get (C := R_M) (T := F_M) (N := 22) (v := .ref (M 4)) hx hb htb i_M hown HW hO rfl 4 (by decide) (htb _ wd_315) (fun _ h9 => h9) rfl d_M_step_83 ?_
                    refine lv_iload_n hx hb d_M_step_86 rfl (lv_at hl 5 rfl) ?_
                    refine ht_iald hx hb HW h4 (by rw [env]; exact vp_in_nI (by omega) (by omega)) d_M_step_87 ?_
                    refine lv_topi (fun bg ebg => ?_)
                    have ebg : bg = (Iu 4) nn := by rw [ebg, env, nI_clamp (by omega)]
                    have ebg : bg = nI (fr + P.flatten.length) := by rw [ebg, hb1]
                    refine lv_istore (lv' := [(6, .int bg), (5, .int szv), (4, .int 1), (0, .ref (M 0)), (1, .int dv), (2, .int kpv), (3, .int nv)]) hx hb d_M_step_88 hl (by decide) rfl (fun ls hl => ?_)
                    refine lv_iload hx hb d_M_step_90 (lv_at hl 2 rfl) ?_
                    refine lv_if_eq (tgt := 107) hx hb d_M_step_92 (by decide) (fun c92 => ?_) (fun c92 => ?_)
                    · exact absurd c92 (by decide)
                    · refine lv_aload_n hx hb d_M_step_95 rfl (lv_at hl 3 rfl) ?_
                      refine lv_iload_n hx hb d_M_step_96 rfl (lv_at hl 5 rfl) ?_
                      refine lv_iload_n hx hb d_M_step_97 rfl (lv_at hl 6 rfl) ?_
                      refine lv_iload_n hx hb d_M_step_98 rfl (lv_at hl 6 rfl) ?_
                      refine lv_iconst (v := 1) hx hb d_M_step_99 (by decide) ?_
                      refine lv_iadd hx hb d_M_step_100 ?_
                      refine lv_topi (fun n4v en4v => ?_)
                      have hn4v : n4v = nI (nn + 1) := by rw [en4v, env, nI_1]
                      refine ht_cv HW (va_runV (own := R_M) (C := R_M) (As := [.int kpv, .int nv, .int n4v]) (rest := []) ⟨hx, hb, hml, hown, htb⟩ (c_M_fork l g u hMu hKu P.length hP5 kpv nv n4v ekp (Or.inr ⟨nn, hnn, env, hr1⟩) (Or.inr ⟨nn + 1, by simp only [List.length_cons] at hlen; omega, hn4v, hgQ1.2.2.1⟩)) (cwV 3 htb (ht_gv wd_480 wd_482 sl_22 wd_3 g_M_fork) rfl rfl rfl (by decide +kernel) ⟨Nat.le_of_ble_eq_true rfl, Nat.le_of_ble_eq_true rfl⟩) (HW.preV hO rfl _) rfl rfl hl.1 rfl (lv_room (Nat.le_of_ble_eq_true rfl)) d_M_step_101 ⟨Nat.le_of_ble_eq_true rfl, Nat.le_of_ble_eq_true rfl⟩) (fun u3 H locs pf HW => ?_)
                      obtain ⟨L2, I2, hM2, hfm2, hs2L, hs2I, hK2, hrow2, hold2⟩ := pf
                      refine lv_goto (tgt := 201) hx hb d_M_step_104 (by decide) ?_
                      exact tail1 P (g1 ++ g2) Q2 nn hnn (ih (P ++ [g1 ++ g2]) Q2 (nn + 2) (by simp only [List.length_cons, List.length_nil] at hlen hrr ⊢; omega) (by simp only [List.length_cons, List.length_nil] at hlen ⊢; omega) (by rw [← hfl]; simp)) u3 L2 I2 (hst.mid hM2 hfm2 hs2L hs2I hK2 (by rw [hsi.h2 hd hp1 hp2 hag]; exact hrow2) hold2 (by omega) (by rw [List.length_append, ← Nat.add_assoc]; exact hgQ1.2.2.2) (hsi.two hp1 hp2 hag)) hP5 _ _ _ kpv nv szv bg ekp env eszv ebg HW (lv_sub hl [3, 4, 5, 6, 2, 1, 0] rfl)
              · subst er
                have hsi1 : ht_si d (P ++ [g1]) (g2 :: Q2) := hsi.one (by omega) (fun g9 Q9 e9 => by cases e9; exact ⟨p1, hp1, p2, hp2, hag⟩)
                refine lv_if_eq (tgt := 48) hx hb d_M_step_41 (by decide) (fun c41 => ?_) (fun c41 => ?_)
                · refine lv_iconst (v := 0) hx hb d_M_step_48 (by decide) ?_
                  refine lv_istore (lv' := [(4, .int 0), (0, .ref (M 0)), (1, .int dv), (2, .int kpv), (3, .int nv)]) hx hb d_M_step_49 hl (by decide) rfl (fun ls hl => ?_)
                  refine lv_iload hx hb d_M_step_51 (lv_at hl 0 rfl) ?_
                  refine lv_if_eq (tgt := 74) hx hb d_M_step_53 (by decide) (fun c53 => ?_) (fun c53 => ?_)
                  · refine lv_aload_n hx hb d_M_step_74 rfl (lv_at hl 1 rfl) ?_
                    refine ht_get (C := R_M) (T := F_M) (N := 22) (v := .ref (M 5)) hx hb htb i_M hown HW hO rfl 5 (by decide) (htb _ wd_316) (fun _ h9 => h9) rfl d_M_step_75 ?_
                    refine lv_iload_n hx hb d_M_step_78 rfl (lv_at hl 4 rfl) ?_
                    refine ht_iald hx hb HW h5 (by rw [env]; exact vp_in_nI (by omega) (by omega)) d_M_step_79 ?_
                    refine lv_topi (fun s1 es1 => ?_)
                    have es1 : s1 = (Iu 5) nn := by rw [es1, env, nI_clamp (by omega)]
                    have es1 : s1 = nI g1.length := by rw [es1, hs1]
                    refine lv_istore (lv' := [(5, .int s1), (4, .int 0), (0, .ref (M 0)), (1, .int dv), (2, .int kpv), (3, .int nv)]) hx hb d_M_step_80 hl (by decide) rfl (fun ls hl => ?_)
                    refine lv_aload_n hx hb d_M_step_82 rfl (lv_at hl 2 rfl) ?_
                    refine ht_get (C := R_M) (T := F_M) (N := 22) (v := .ref (M 4)) hx hb htb i_M hown HW hO rfl 4 (by decide) (htb _ wd_315) (fun _ h9 => h9) rfl d_M_step_83 ?_
                    refine lv_iload_n hx hb d_M_step_86 rfl (lv_at hl 5 rfl) ?_
                    refine ht_iald hx hb HW h4 (by rw [env]; exact vp_in_nI (by omega) (by omega)) d_M_step_87 ?_
                    refine lv_topi (fun bg ebg => ?_)
                    have ebg : bg = (Iu 4) nn := by rw [ebg, env, nI_clamp (by omega)]
                    have ebg : bg = nI (fr + P.flatten.length) := by rw [ebg, hb1]
                    refine lv_istore (lv' := [(6, .int bg), (5, .int s1), (4, .int 0), (0, .ref (M 0)), (1, .int dv), (2, .int kpv), (3, .int nv)]) hx hb d_M_step_88 hl (by decide) rfl (fun ls hl => ?_)
                    refine lv_iload hx hb d_M_step_90 (lv_at hl 2 rfl) ?_
                    refine lv_if_eq (tgt := 107) hx hb d_M_step_92 (by decide) (fun c92 => ?_) (fun c92 => ?_)
                    · refine lv_iload hx hb d_M_step_107 (lv_at hl 1 rfl) ?_
                      refine lv_iconst (v := 1) hx hb d_M_step_109 (by decide) ?_
                      refine lv_icmp_le (tgt := 164) hx hb d_M_step_110 (by decide) (fun c110 => ?_) (fun c110 => ?_)
                      · have hl1 : g1.length = 1 := by
                          have h9 : g1.length ≤ 1 := Nat.not_lt.mp (fun z9 => nI_ge z9 (by have := hglen; omega) (show nI g1.length ≤ nI 1 by rw [es1] at c110; exact c110))
                          omega
                        refine lv_iconst (v := 0) hx hb d_M_step_164 (by decide) ?_
                        refine lv_istore (lv' := [(7, .int 0), (6, .int bg), (5, .int s1), (4, .int 0), (0, .ref (M 0)), (1, .int dv), (2, .int kpv), (3, .int nv)]) hx hb d_M_step_165 hl (by decide) rfl (fun ls hl => ?_)
                        exact copy P g1 (g2 :: Q2) nn hnn (ih (P ++ [g1]) (g2 :: Q2) (nn + 1) (by simp only [List.length_cons, List.length_nil] at hlen hrr ⊢; omega) (by simp only [List.length_cons, List.length_nil] at hlen ⊢; omega) (by rw [← hfl]; simp)) u Lu Iu hst hl1 hsi1 hP5 kpv nv s1 bg ekp env es1 ebg 4 0 rfl u Lu hMu ht_fm.rf ht_same.rf hKu (fun j hj => absurd hj (Nat.not_lt_zero j)) (fun i _ => rfl) _ _ _ 0 rfl HW (lv_sub hl [4, 5, 6, 7, 3, 2, 1, 0] rfl)
                      · have hl2 : 2 ≤ g1.length := Nat.not_lt.mp (fun z9 => c110 (by rw [es1]; exact nI_le (show g1.length ≤ 1 by omega) (by decide)))
                        refine lv_aload_n hx hb d_M_step_113 rfl (lv_at hl 3 rfl) ?_
                        refine ht_get (C := R_M) (T := F_M) (N := 22) (v := .ref (M 1)) hx hb htb i_M hown HW hO rfl 0 (by decide) (htb _ wd_311) (fun _ h9 => h9) rfl d_M_step_114 ?_
                        refine lv_iconst (v := 4) hx hb d_M_step_117 (by decide) ?_
                        refine lv_iload hx hb d_M_step_118 (lv_at hl 0 rfl) ?_
                        refine lv_imul hx hb d_M_step_120 ?_
                        refine lv_topi (fun ia eia => ?_)
                        have hia : ia = nI (4 * (fr + P.flatten.length)) := by rw [eia, ebg, show (4 : Int32) = nI 4 from rfl, pk_mul]
                        refine lv_iload_n hx hb d_M_step_121 rfl (lv_at hl 4 rfl) ?_
                        refine ht_ci HW (va_runS (own := R_M) (As := [.ref (M 1), .int ia, .int dv]) (rest := []) ⟨hx, hb, hml, hown, htb⟩ (c_M_bit l g u h1 (4 * (fr + P.flatten.length)) (by omega) (by decide) hrx d (by omega) ia dv hia ed) (va_cwS 3 htb (ht_gs wd_484 wd_485 wd_3 g_M_bit) rfl rfl rfl (by decide +kernel) ⟨Nat.le_of_ble_eq_true rfl, Nat.le_of_ble_eq_true rfl⟩) (HW.preS _) rfl rfl hl.1 rfl (lv_room (Nat.le_of_ble_eq_true rfl)) d_M_step_122 ⟨Nat.le_of_ble_eq_true rfl, Nat.le_of_ble_eq_true rfl⟩) (fun q5 u4 H locs pb HW => ?_)
                        obtain ⟨er, eww⟩ := pb
                        subst eww
                        subst er
                        rcases hbt : ht_bit p1.1 d with _ | _
                        · skip
                          refine lv_iconst (v := 1) hx hb d_M_step_125 (by decide) ?_
                          refine W.eq (g2 := F0 _ 126 ls [.int 1, .int 0]) rfl ?_
                          refine lv_icmp_ne (tgt := 133) hx hb d_M_step_126 (by decide) (fun c126 => ?_) (fun c126 => ?_)
                          · refine lv_iconst (v := 0) hx hb d_M_step_133 (by decide) ?_
                            refine lv_istore (lv' := [(7, .int 0), (6, .int bg), (5, .int s1), (4, .int 0), (0, .ref (M 0)), (1, .int dv), (2, .int kpv), (3, .int nv)]) hx hb d_M_step_134 hl (by decide) rfl (fun ls hl => ?_)
                            refine lv_aload_n hx hb d_M_step_136 rfl (lv_at hl 4 rfl) ?_
                            refine lv_iload_n hx hb d_M_step_137 rfl (lv_at hl 6 rfl) ?_
                            refine lv_iload hx hb d_M_step_138 (lv_at hl 0 rfl) ?_
                            refine lv_if_eq (tgt := 147) hx hb d_M_step_140 (by decide) (fun c140 => ?_) (fun c140 => ?_)
                            · refine lv_iload_n hx hb d_M_step_147 rfl (lv_at hl 7 rfl) ?_
                              refine lv_iload hx hb d_M_step_148 (lv_at hl 0 rfl) ?_
                              refine lv_if_eq (tgt := 157) hx hb d_M_step_150 (by decide) (fun c150 => ?_) (fun c150 => ?_)
                              · refine lv_iconst (v := -1) hx hb d_M_step_157 (by decide) ?_
                                refine ht_cv HW (va_runV (own := R_M) (C := R_M) (As := [.int kpv, .int nv, .int (-1)]) (rest := []) ⟨hx, hb, hml, hown, htb⟩ (c_M_fork l g u hMu hKu P.length hP5 kpv nv (-1) ekp (Or.inr ⟨nn, hnn, env, hr1⟩) (Or.inl ⟨rfl, rfl⟩)) (cwV 3 htb (ht_gv wd_480 wd_482 sl_22 wd_3 g_M_fork) rfl rfl rfl (by decide +kernel) ⟨Nat.le_of_ble_eq_true rfl, Nat.le_of_ble_eq_true rfl⟩) (HW.preV hO rfl _) rfl rfl hl.1 rfl (lv_room (Nat.le_of_ble_eq_true rfl)) d_M_step_158 ⟨Nat.le_of_ble_eq_true rfl, Nat.le_of_ble_eq_true rfl⟩) (fun u6 H locs pf HW => ?_)
                                obtain ⟨L2, I2, hM2, hfm2, hs2L, hs2I, hK2, hrow2, hold2⟩ := pf
                                refine lv_goto (tgt := 201) hx hb d_M_step_161 (by decide) ?_
                                exact tail0 P g1 (g2 :: Q2) nn hnn (ih (P ++ [g1]) (g2 :: Q2) (nn + 1) (by simp only [List.length_cons, List.length_nil] at hlen hrr ⊢; omega) (by simp only [List.length_cons, List.length_nil] at hlen ⊢; omega) (by rw [← hfl]; simp)) u6 L2 I2 (hst.mid hM2 hfm2 hs2L hs2I hK2 (by rw [hsi.h1 hd hp1 hl2, hbt]; exact hrow2) hold2 (by omega) hgQ1 hsi1) hP5 _ _ _ kpv nv s1 bg ekp env es1 ebg HW (lv_sub hl [4, 5, 6, 7, 3, 2, 1] rfl)
                              · exact absurd rfl c150
                            · exact absurd rfl c140
                          · exact absurd c126 (by decide)
                        · skip
                          refine lv_iconst (v := 1) hx hb d_M_step_125 (by decide) ?_
                          refine W.eq (g2 := F0 _ 126 ls [.int 1, .int 1]) rfl ?_
                          refine lv_icmp_ne (tgt := 133) hx hb d_M_step_126 (by decide) (fun c126 => ?_) (fun c126 => ?_)
                          · exact absurd rfl c126
                          · refine lv_iconst (v := 1) hx hb d_M_step_129 (by decide) ?_
                            refine lv_goto (tgt := 134) hx hb d_M_step_130 (by decide) ?_
                            refine lv_istore (lv' := [(7, .int 1), (6, .int bg), (5, .int s1), (4, .int 0), (0, .ref (M 0)), (1, .int dv), (2, .int kpv), (3, .int nv)]) hx hb d_M_step_134 hl (by decide) rfl (fun ls hl => ?_)
                            refine lv_aload_n hx hb d_M_step_136 rfl (lv_at hl 4 rfl) ?_
                            refine lv_iload_n hx hb d_M_step_137 rfl (lv_at hl 6 rfl) ?_
                            refine lv_iload hx hb d_M_step_138 (lv_at hl 0 rfl) ?_
                            refine lv_if_eq (tgt := 147) hx hb d_M_step_140 (by decide) (fun c140 => ?_) (fun c140 => ?_)
                            · exact absurd c140 (by decide)
                            · refine lv_iconst (v := -1) hx hb d_M_step_143 (by decide) ?_
                              refine lv_goto (tgt := 148) hx hb d_M_step_144 (by decide) ?_
                              refine lv_iload hx hb d_M_step_148 (lv_at hl 0 rfl) ?_
                              refine lv_if_eq (tgt := 157) hx hb d_M_step_150 (by decide) (fun c150 => ?_) (fun c150 => ?_)
                              · exact absurd c150 (by decide)
                              · refine lv_iload_n hx hb d_M_step_153 rfl (lv_at hl 7 rfl) ?_
                                refine lv_goto (tgt := 158) hx hb d_M_step_154 (by decide) ?_
                                refine ht_cv HW (va_runV (own := R_M) (C := R_M) (As := [.int kpv, .int (-1), .int nv]) (rest := []) ⟨hx, hb, hml, hown, htb⟩ (c_M_fork l g u hMu hKu P.length hP5 kpv (-1) nv ekp (Or.inl ⟨rfl, rfl⟩) (Or.inr ⟨nn, hnn, env, hr1⟩)) (cwV 3 htb (ht_gv wd_480 wd_482 sl_22 wd_3 g_M_fork) rfl rfl rfl (by decide +kernel) ⟨Nat.le_of_ble_eq_true rfl, Nat.le_of_ble_eq_true rfl⟩) (HW.preV hO rfl _) rfl rfl hl.1 rfl (lv_room (Nat.le_of_ble_eq_true rfl)) d_M_step_158 ⟨Nat.le_of_ble_eq_true rfl, Nat.le_of_ble_eq_true rfl⟩) (fun u7 H locs pf HW => ?_)
                                obtain ⟨L2, I2, hM2, hfm2, hs2L, hs2I, hK2, hrow2, hold2⟩ := pf
                                refine lv_goto (tgt := 201) hx hb d_M_step_161 (by decide) ?_
                                exact tail0 P g1 (g2 :: Q2) nn hnn (ih (P ++ [g1]) (g2 :: Q2) (nn + 1) (by simp only [List.length_cons, List.length_nil] at hlen hrr ⊢; omega) (by simp only [List.length_cons, List.length_nil] at hlen ⊢; omega) (by rw [← hfl]; simp)) u7 L2 I2 (hst.mid hM2 hfm2 hs2L hs2I hK2 (by rw [hsi.h1 hd hp1 hl2, hbt]; exact hrow2) hold2 (by omega) hgQ1 hsi1) hP5 _ _ _ kpv nv s1 bg ekp env es1 ebg HW (lv_sub hl [4, 5, 6, 7, 3, 2, 1] rfl)
                    · exact absurd rfl c92
                  · exact absurd rfl c53
                · exact absurd rfl c41
  refine lv_iconst (v := 0) hx hb d_M_step_0 (by decide) ?_
  refine lv_istore_n (lv' := [(2, .int 0), (0, .ref (M 0)), (1, .int dv)]) hx hb d_M_step_1 rfl hl (by decide) rfl (fun ls hl => ?_)
  refine lv_iconst (v := 0) hx hb d_M_step_2 (by decide) ?_
  refine lv_istore_n (lv' := [(3, .int 0), (2, .int 0), (0, .ref (M 0)), (1, .int dv)]) hx hb d_M_step_3 rfl hl (by decide) rfl (fun ls hl => ?_)
  exact loop G.length [] G 0 (Nat.le_refl _) (by omega) rfl w Lf If ⟨hM, ht_fm.rf, ht_same.rf, ht_same.rf, hKp, trivial, hga, Nat.le_refl _, ht_si.start hG⟩ _ _ _ 0 0 rfl rfl HW (lv_sub hl [2, 3, 1, 0] rfl)
