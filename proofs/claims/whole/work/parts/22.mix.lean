def ht_kt (j : Nat) : Int32 := ht_k64.getD j 0
theorem ht_fin {g : ht_G} {w : ht_W} {dg wd wa : Nat} {ws wf : Nat → Int32} {n0 : Int32} (hD : ht_Dg g w dg wd wa (ws, wf, n0)) (f : Nat → Int32) : ht_up w wd (ht_ai g 8 f) = ht_dw g w dg wd wa (f, wf, n0) := by
  unfold ht_dw
  rw [ht_up_id hD.1, ht_up_id (ht_at_ne hD.2.2 hD.n3.symm)]
set_option maxHeartbeats 4000000 in
set_option maxRecDepth 100000 in
theorem c_D_mix (l : Launch) (g : ht_G) (w : ht_W) {dg wd wa : Nat} {ws wf : Nat → Int32} {n0 : Int32} (hD : ht_Dg g w dg wd wa (ws, wf, n0)) : Met l y_D_mix ws_D_mix ({ frames := 1, cells := 0, slots := 0, locals := 21 } : Room) (va_Pc [.ref dg] (ht_WS g w)) (ht_Qv g (fun u => u = ht_dw g w dg wd wa (ht_ad ws (ht_rn wf (ht_o8 ws) 64), wf, n0))) 0 0 (ht_A g) := by
  refine Met.ofW (cc := b_D_mix) (maxL := 14) (ret := none) (by decide) rfl ?_
  intro p e s m args below meth c s₁ BB hml hv
  obtain ⟨rfl, HW⟩ := hv
  have HW := ht_I.start HW
  have hx := BB.exec
  have hb := BB.bytes
  have hr := BB.returns
  have hts := atoms_spec (ws := ws_D_mix) BB.pre
  have htb : ∀ w ∈ bg, w.before _ s = true := fun w h => hts w (List.mem_cons_of_mem _ h)
  have hown : s.vm.findClass R_D = some m.cls := findClass_of_methodNamed BB.named
  have hlocks := BB.notSynchronized
  have hl := lv_entry ([.ref dg]) (n := 14) (Nat.le_of_ble_eq_true rfl)
  rw [lg_entry_eq]
  generalize (lg_sl ([.ref dg]) ++ List.replicate (14 - (lg_sl ([.ref dg])).length) Slot.unset).toArray = ls at hl ⊢
  have hl : lv_has ls 14 [(0, .ref dg)] := hl
  have loop : ∀ (n k : Nat), k + n = 64 → ∀ (a1 a2 a3 a4 a5 a6 a7 a8 : Int32), (a1, a2, a3, a4, a5, a6, a7, a8) = ht_rn wf (ht_o8 ws) k → ∀ (H : Heap) (locs : List Loc) (ls : Array Slot) (t : Int32), t = nI k → ht_I g s w H locs → lv_has ls 14 [(0, .ref dg), (1, .int a1), (2, .int a2), (3, .int a3), (4, .int a4), (5, .int a5), (6, .int a6), (7, .int a7), (8, .int a8), (9, .int t)] → W p l e (headSpec ws_D_mix ({ frames := 1, cells := 0, slots := 0, locals := 21 } : Room)).room s m ([.ref dg] : List Value).toArray below meth c H locs 0 0 (MQ below (ht_Qv g (fun u => u = ht_dw g w dg wd wa (ht_ad ws (ht_rn wf (ht_o8 ws) 64), wf, n0))) ([.ref dg] : List Value).toArray s 0 0 (ht_A g)) (F0 m 66 ls []) := by
    intro n
    induction n with
    | zero =>
      intro k hk a1 a2 a3 a4 a5 a6 a7 a8 ha H locs ls t et HW hl
      obtain ⟨h_dg, h_wd, h_wa⟩ := id hD
      refine lv_iload hx hb d_D_mix_66 (lv_at hl 9 rfl) ?_
      refine lv_bipush (v := 64) hx hb d_D_mix_68 (by decide) ?_
      refine lv_icmp_ge (tgt := 209) hx hb d_D_mix_70 (by decide) (fun c70 => ?_) (fun c70 => ?_)
      · refine lv_aload_n hx hb d_D_mix_209 rfl (lv_at hl 0 rfl) ?_
        refine ht_get (C := R_D) (T := F_D) (N := 3) (v := .ref wd) hx hb htb i_D hown HW h_dg rfl 0 (by decide) (htb _ wd_26) (fun _ h9 => h9) rfl d_D_mix_210 ?_
        refine lv_iconst (v := 0) hx hb d_D_mix_213 (by decide) ?_
        refine lv_dup2_11 hx hb d_D_mix_214 rfl rfl ?_
        refine ht_iald hx hb HW h_wd (by unfold vp_in; decide) d_D_mix_215 ?_
        refine lv_topi (fun z1 ez1 => ?_)
        have ez1 : z1 = ws 0 := ez1
        refine lv_iload_n hx hb d_D_mix_216 rfl (lv_at hl 1 rfl) ?_
        refine lv_iadd hx hb d_D_mix_217 ?_
        refine ht_iast hx hb HW h_wd (by unfold vp_in; decide) d_D_mix_218 (fun H locs HW => ?_)
        have n_wa_wd : wa ≠ wd := (Ne.symm hD.n3)
        obtain ⟨u2, hu2⟩ : ∃ z, z = ht_up w wd (ht_ai g 8 (upd ws 0 (z1 + a1))) := ⟨_, rfl⟩
        have HW : ht_I g s u2 H locs := by rw [hu2]; exact HW
        have h_dg : ht_at u2 dg (.inr (1, [.ref wd, .ref wa, .int n0]) : va_E) := by rw [hu2]; exact ht_at_ne h_dg hD.n1
        have h_wd : ht_at u2 wd (ht_ai g 8 (upd ws 0 (z1 + a1))) := by rw [hu2]; exact ht_at_self h_wd
        have h_wa : ht_at u2 wa (ht_ai g 64 wf) := by rw [hu2]; exact ht_at_ne h_wa n_wa_wd
        refine lv_aload_n hx hb d_D_mix_219 rfl (lv_at hl 0 rfl) ?_
        refine ht_get (C := R_D) (T := F_D) (N := 3) (v := .ref wd) hx hb htb i_D hown HW h_dg rfl 0 (by decide) (htb _ wd_26) (fun _ h9 => h9) rfl d_D_mix_220 ?_
        refine lv_iconst (v := 1) hx hb d_D_mix_223 (by decide) ?_
        refine lv_dup2_11 hx hb d_D_mix_224 rfl rfl ?_
        refine ht_iald hx hb HW h_wd (by unfold vp_in; decide) d_D_mix_225 ?_
        refine lv_topi (fun z3 ez3 => ?_)
        have ez3 : z3 = ws 1 := ez3
        refine lv_iload_n hx hb d_D_mix_226 rfl (lv_at hl 2 rfl) ?_
        refine lv_iadd hx hb d_D_mix_227 ?_
        refine ht_iast hx hb HW h_wd (by unfold vp_in; decide) d_D_mix_228 (fun H locs HW => ?_)
        obtain ⟨u4, hu4⟩ : ∃ z, z = ht_up u2 wd (ht_ai g 8 (upd (upd ws 0 (z1 + a1)) 1 (z3 + a2))) := ⟨_, rfl⟩
        have HW : ht_I g s u4 H locs := by rw [hu4]; exact HW
        have h_dg : ht_at u4 dg (.inr (1, [.ref wd, .ref wa, .int n0]) : va_E) := by rw [hu4]; exact ht_at_ne h_dg hD.n1
        have h_wd : ht_at u4 wd (ht_ai g 8 (upd (upd ws 0 (z1 + a1)) 1 (z3 + a2))) := by rw [hu4]; exact ht_at_self h_wd
        have h_wa : ht_at u4 wa (ht_ai g 64 wf) := by rw [hu4]; exact ht_at_ne h_wa n_wa_wd
        refine lv_aload_n hx hb d_D_mix_229 rfl (lv_at hl 0 rfl) ?_
        refine ht_get (C := R_D) (T := F_D) (N := 3) (v := .ref wd) hx hb htb i_D hown HW h_dg rfl 0 (by decide) (htb _ wd_26) (fun _ h9 => h9) rfl d_D_mix_230 ?_
        refine lv_iconst (v := 2) hx hb d_D_mix_233 (by decide) ?_
        refine lv_dup2_11 hx hb d_D_mix_234 rfl rfl ?_
        refine ht_iald hx hb HW h_wd (by unfold vp_in; decide) d_D_mix_235 ?_
        refine lv_topi (fun z5 ez5 => ?_)
        have ez5 : z5 = ws 2 := ez5
        refine lv_iload_n hx hb d_D_mix_236 rfl (lv_at hl 3 rfl) ?_
        refine lv_iadd hx hb d_D_mix_237 ?_
        refine ht_iast hx hb HW h_wd (by unfold vp_in; decide) d_D_mix_238 (fun H locs HW => ?_)
        obtain ⟨u6, hu6⟩ : ∃ z, z = ht_up u4 wd (ht_ai g 8 (upd (upd (upd ws 0 (z1 + a1)) 1 (z3 + a2)) 2 (z5 + a3))) := ⟨_, rfl⟩
        have HW : ht_I g s u6 H locs := by rw [hu6]; exact HW
        have h_dg : ht_at u6 dg (.inr (1, [.ref wd, .ref wa, .int n0]) : va_E) := by rw [hu6]; exact ht_at_ne h_dg hD.n1
        have h_wd : ht_at u6 wd (ht_ai g 8 (upd (upd (upd ws 0 (z1 + a1)) 1 (z3 + a2)) 2 (z5 + a3))) := by rw [hu6]; exact ht_at_self h_wd
        have h_wa : ht_at u6 wa (ht_ai g 64 wf) := by rw [hu6]; exact ht_at_ne h_wa n_wa_wd
        refine lv_aload_n hx hb d_D_mix_239 rfl (lv_at hl 0 rfl) ?_
        refine ht_get (C := R_D) (T := F_D) (N := 3) (v := .ref wd) hx hb htb i_D hown HW h_dg rfl 0 (by decide) (htb _ wd_26) (fun _ h9 => h9) rfl d_D_mix_240 ?_
        refine lv_iconst (v := 3) hx hb d_D_mix_243 (by decide) ?_
        refine lv_dup2_11 hx hb d_D_mix_244 rfl rfl ?_
        refine ht_iald hx hb HW h_wd (by unfold vp_in; decide) d_D_mix_245 ?_
        refine lv_topi (fun z7 ez7 => ?_)
        have ez7 : z7 = ws 3 := ez7
        refine lv_iload hx hb d_D_mix_246 (lv_at hl 4 rfl) ?_
        refine lv_iadd hx hb d_D_mix_248 ?_
        refine ht_iast hx hb HW h_wd (by unfold vp_in; decide) d_D_mix_249 (fun H locs HW => ?_)
        obtain ⟨u8, hu8⟩ : ∃ z, z = ht_up u6 wd (ht_ai g 8 (upd (upd (upd (upd ws 0 (z1 + a1)) 1 (z3 + a2)) 2 (z5 + a3)) 3 (z7 + a4))) := ⟨_, rfl⟩
        have HW : ht_I g s u8 H locs := by rw [hu8]; exact HW
        have h_dg : ht_at u8 dg (.inr (1, [.ref wd, .ref wa, .int n0]) : va_E) := by rw [hu8]; exact ht_at_ne h_dg hD.n1
        have h_wd : ht_at u8 wd (ht_ai g 8 (upd (upd (upd (upd ws 0 (z1 + a1)) 1 (z3 + a2)) 2 (z5 + a3)) 3 (z7 + a4))) := by rw [hu8]; exact ht_at_self h_wd
        have h_wa : ht_at u8 wa (ht_ai g 64 wf) := by rw [hu8]; exact ht_at_ne h_wa n_wa_wd
        refine lv_aload_n hx hb d_D_mix_250 rfl (lv_at hl 0 rfl) ?_
        refine ht_get (C := R_D) (T := F_D) (N := 3) (v := .ref wd) hx hb htb i_D hown HW h_dg rfl 0 (by decide) (htb _ wd_26) (fun _ h9 => h9) rfl d_D_mix_251 ?_
        refine lv_iconst (v := 4) hx hb d_D_mix_254 (by decide) ?_
        refine lv_dup2_11 hx hb d_D_mix_255 rfl rfl ?_
        refine ht_iald hx hb HW h_wd (by unfold vp_in; decide) d_D_mix_256 ?_
        refine lv_topi (fun z9 ez9 => ?_)
        have ez9 : z9 = ws 4 := ez9
        refine lv_iload hx hb d_D_mix_257 (lv_at hl 5 rfl) ?_
        refine lv_iadd hx hb d_D_mix_259 ?_
        refine ht_iast hx hb HW h_wd (by unfold vp_in; decide) d_D_mix_260 (fun H locs HW => ?_)
        obtain ⟨u10, hu10⟩ : ∃ z, z = ht_up u8 wd (ht_ai g 8 (upd (upd (upd (upd (upd ws 0 (z1 + a1)) 1 (z3 + a2)) 2 (z5 + a3)) 3 (z7 + a4)) 4 (z9 + a5))) := ⟨_, rfl⟩
        have HW : ht_I g s u10 H locs := by rw [hu10]; exact HW
        have h_dg : ht_at u10 dg (.inr (1, [.ref wd, .ref wa, .int n0]) : va_E) := by rw [hu10]; exact ht_at_ne h_dg hD.n1
        have h_wd : ht_at u10 wd (ht_ai g 8 (upd (upd (upd (upd (upd ws 0 (z1 + a1)) 1 (z3 + a2)) 2 (z5 + a3)) 3 (z7 + a4)) 4 (z9 + a5))) := by rw [hu10]; exact ht_at_self h_wd
        have h_wa : ht_at u10 wa (ht_ai g 64 wf) := by rw [hu10]; exact ht_at_ne h_wa n_wa_wd
        refine lv_aload_n hx hb d_D_mix_261 rfl (lv_at hl 0 rfl) ?_
        refine ht_get (C := R_D) (T := F_D) (N := 3) (v := .ref wd) hx hb htb i_D hown HW h_dg rfl 0 (by decide) (htb _ wd_26) (fun _ h9 => h9) rfl d_D_mix_262 ?_
        refine lv_iconst (v := 5) hx hb d_D_mix_265 (by decide) ?_
        refine lv_dup2_11 hx hb d_D_mix_266 rfl rfl ?_
        refine ht_iald hx hb HW h_wd (by unfold vp_in; decide) d_D_mix_267 ?_
        refine lv_topi (fun z11 ez11 => ?_)
        have ez11 : z11 = ws 5 := ez11
        refine lv_iload hx hb d_D_mix_268 (lv_at hl 6 rfl) ?_
        refine lv_iadd hx hb d_D_mix_270 ?_
        refine ht_iast hx hb HW h_wd (by unfold vp_in; decide) d_D_mix_271 (fun H locs HW => ?_)
        obtain ⟨u12, hu12⟩ : ∃ z, z = ht_up u10 wd (ht_ai g 8 (upd (upd (upd (upd (upd (upd ws 0 (z1 + a1)) 1 (z3 + a2)) 2 (z5 + a3)) 3 (z7 + a4)) 4 (z9 + a5)) 5 (z11 + a6))) := ⟨_, rfl⟩
        have HW : ht_I g s u12 H locs := by rw [hu12]; exact HW
        have h_dg : ht_at u12 dg (.inr (1, [.ref wd, .ref wa, .int n0]) : va_E) := by rw [hu12]; exact ht_at_ne h_dg hD.n1
        have h_wd : ht_at u12 wd (ht_ai g 8 (upd (upd (upd (upd (upd (upd ws 0 (z1 + a1)) 1 (z3 + a2)) 2 (z5 + a3)) 3 (z7 + a4)) 4 (z9 + a5)) 5 (z11 + a6))) := by rw [hu12]; exact ht_at_self h_wd
        have h_wa : ht_at u12 wa (ht_ai g 64 wf) := by rw [hu12]; exact ht_at_ne h_wa n_wa_wd
        refine lv_aload_n hx hb d_D_mix_272 rfl (lv_at hl 0 rfl) ?_
        refine ht_get (C := R_D) (T := F_D) (N := 3) (v := .ref wd) hx hb htb i_D hown HW h_dg rfl 0 (by decide) (htb _ wd_26) (fun _ h9 => h9) rfl d_D_mix_273 ?_
        refine lv_bipush (v := 6) hx hb d_D_mix_276 (by decide) ?_
        refine lv_dup2_11 hx hb d_D_mix_278 rfl rfl ?_
        refine ht_iald hx hb HW h_wd (by unfold vp_in; decide) d_D_mix_279 ?_
        refine lv_topi (fun z13 ez13 => ?_)
        have ez13 : z13 = ws 6 := ez13
        refine lv_iload hx hb d_D_mix_280 (lv_at hl 7 rfl) ?_
        refine lv_iadd hx hb d_D_mix_282 ?_
        refine ht_iast hx hb HW h_wd (by unfold vp_in; decide) d_D_mix_283 (fun H locs HW => ?_)
        obtain ⟨u14, hu14⟩ : ∃ z, z = ht_up u12 wd (ht_ai g 8 (upd (upd (upd (upd (upd (upd (upd ws 0 (z1 + a1)) 1 (z3 + a2)) 2 (z5 + a3)) 3 (z7 + a4)) 4 (z9 + a5)) 5 (z11 + a6)) 6 (z13 + a7))) := ⟨_, rfl⟩
        have HW : ht_I g s u14 H locs := by rw [hu14]; exact HW
        have h_dg : ht_at u14 dg (.inr (1, [.ref wd, .ref wa, .int n0]) : va_E) := by rw [hu14]; exact ht_at_ne h_dg hD.n1
        have h_wd : ht_at u14 wd (ht_ai g 8 (upd (upd (upd (upd (upd (upd (upd ws 0 (z1 + a1)) 1 (z3 + a2)) 2 (z5 + a3)) 3 (z7 + a4)) 4 (z9 + a5)) 5 (z11 + a6)) 6 (z13 + a7))) := by rw [hu14]; exact ht_at_self h_wd
        have h_wa : ht_at u14 wa (ht_ai g 64 wf) := by rw [hu14]; exact ht_at_ne h_wa n_wa_wd
        refine lv_aload_n hx hb d_D_mix_284 rfl (lv_at hl 0 rfl) ?_
        refine ht_get (C := R_D) (T := F_D) (N := 3) (v := .ref wd) hx hb htb i_D hown HW h_dg rfl 0 (by decide) (htb _ wd_26) (fun _ h9 => h9) rfl d_D_mix_285 ?_
        refine lv_bipush (v := 7) hx hb d_D_mix_288 (by decide) ?_
        refine lv_dup2_11 hx hb d_D_mix_290 rfl rfl ?_
        refine ht_iald hx hb HW h_wd (by unfold vp_in; decide) d_D_mix_291 ?_
        refine lv_topi (fun z15 ez15 => ?_)
        have ez15 : z15 = ws 7 := ez15
        refine lv_iload hx hb d_D_mix_292 (lv_at hl 8 rfl) ?_
        refine lv_iadd hx hb d_D_mix_294 ?_
        refine ht_iast hx hb HW h_wd (by unfold vp_in; decide) d_D_mix_295 (fun H locs HW => ?_)
        obtain ⟨u16, hu16⟩ : ∃ z, z = ht_up u14 wd (ht_ai g 8 (upd (upd (upd (upd (upd (upd (upd (upd ws 0 (z1 + a1)) 1 (z3 + a2)) 2 (z5 + a3)) 3 (z7 + a4)) 4 (z9 + a5)) 5 (z11 + a6)) 6 (z13 + a7)) 7 (z15 + a8))) := ⟨_, rfl⟩
        have HW : ht_I g s u16 H locs := by rw [hu16]; exact HW
        have h_dg : ht_at u16 dg (.inr (1, [.ref wd, .ref wa, .int n0]) : va_E) := by rw [hu16]; exact ht_at_ne h_dg hD.n1
        have h_wd : ht_at u16 wd (ht_ai g 8 (upd (upd (upd (upd (upd (upd (upd (upd ws 0 (z1 + a1)) 1 (z3 + a2)) 2 (z5 + a3)) 3 (z7 + a4)) 4 (z9 + a5)) 5 (z11 + a6)) 6 (z13 + a7)) 7 (z15 + a8))) := by rw [hu16]; exact ht_at_self h_wd
        have h_wa : ht_at u16 wa (ht_ai g 64 wf) := by rw [hu16]; exact ht_at_ne h_wa n_wa_wd
        have hk64 : k = 64 := by omega
        exact ht_vret hx hb hr hlocks HW (by
            have ha64 : (a1, a2, a3, a4, a5, a6, a7, a8) = ht_rn wf (ht_o8 ws) 64 := hk64 ▸ ha
            rw [← ha64, hu16, hu14, hu12, hu10, hu8, hu6, hu4, hu2]
            simp only [ht_up_up, ez1, ez3, ez5, ez7, ez9, ez11, ez13, ez15]
            exact ht_fin hD _) d_D_mix_296
      · exact absurd (nI_le (show 64 ≤ k by omega) (by omega)) (by rw [et] at c70; exact c70)
    | succ n ih =>
      intro k hk a1 a2 a3 a4 a5 a6 a7 a8 ha H locs ls t et HW hl
      obtain ⟨h_dg, h_wd, h_wa⟩ := id hD
      refine lv_iload hx hb d_D_mix_66 (lv_at hl 9 rfl) ?_
      refine lv_bipush (v := 64) hx hb d_D_mix_68 (by decide) ?_
      refine lv_icmp_ge (tgt := 209) hx hb d_D_mix_70 (by decide) (fun c70 => ?_) (fun c70 => ?_)
      · exact absurd (show nI 64 ≤ nI k by rw [et] at c70; exact c70) (nI_ge (by omega) (by omega))
      · refine lv_iload hx hb d_D_mix_73 (lv_at hl 5 rfl) ?_
        refine lv_bipush (v := 6) hx hb d_D_mix_75 (by decide) ?_
        refine ht_ci HW (va_runS (own := R_D) (As := [.int a5, .int 6]) (rest := []) ⟨hx, hb, hml, hown, htb⟩ (c_JI_rotateRight l g w a5 (6 : Int32)) (va_cwS 2 htb (ht_gs wd_242 wd_243 wd_5 g_JI_rotateRight) rfl rfl rfl (by decide +kernel) ⟨Nat.le_of_ble_eq_true rfl, Nat.le_of_ble_eq_true rfl⟩) (HW.preS _) rfl rfl hl.1 rfl (lv_room (Nat.le_of_ble_eq_true rfl)) d_D_mix_77 ⟨Nat.le_of_ble_eq_true rfl, Nat.le_of_ble_eq_true rfl⟩) (fun q2 u1 H locs pu1 HW => ?_)
        obtain ⟨eq2, eu1⟩ := pu1
        subst eu1
        refine lv_iload hx hb d_D_mix_80 (lv_at hl 5 rfl) ?_
        refine lv_bipush (v := 11) hx hb d_D_mix_82 (by decide) ?_
        refine ht_ci HW (va_runS (own := R_D) (As := [.int a5, .int 11]) (rest := [.int q2]) ⟨hx, hb, hml, hown, htb⟩ (c_JI_rotateRight l g w a5 (11 : Int32)) (va_cwS 2 htb (ht_gs wd_242 wd_243 wd_5 g_JI_rotateRight) rfl rfl rfl (by decide +kernel) ⟨Nat.le_of_ble_eq_true rfl, Nat.le_of_ble_eq_true rfl⟩) (HW.preS _) rfl rfl hl.1 rfl (lv_room (Nat.le_of_ble_eq_true rfl)) d_D_mix_84 ⟨Nat.le_of_ble_eq_true rfl, Nat.le_of_ble_eq_true rfl⟩) (fun q4 u3 H locs pu3 HW => ?_)
        obtain ⟨eq4, eu3⟩ := pu3
        subst eu3
        refine lv_ixor hx hb d_D_mix_87 ?_
        refine lv_iload hx hb d_D_mix_88 (lv_at hl 5 rfl) ?_
        refine lv_bipush (v := 25) hx hb d_D_mix_90 (by decide) ?_
        refine ht_ci HW (va_runS (own := R_D) (As := [.int a5, .int 25]) (rest := [.int (q2 ^^^ q4)]) ⟨hx, hb, hml, hown, htb⟩ (c_JI_rotateRight l g w a5 (25 : Int32)) (va_cwS 2 htb (ht_gs wd_242 wd_243 wd_5 g_JI_rotateRight) rfl rfl rfl (by decide +kernel) ⟨Nat.le_of_ble_eq_true rfl, Nat.le_of_ble_eq_true rfl⟩) (HW.preS _) rfl rfl hl.1 rfl (lv_room (Nat.le_of_ble_eq_true rfl)) d_D_mix_92 ⟨Nat.le_of_ble_eq_true rfl, Nat.le_of_ble_eq_true rfl⟩) (fun q6 u5 H locs pu5 HW => ?_)
        obtain ⟨eq6, eu5⟩ := pu5
        subst eu5
        refine lv_ixor hx hb d_D_mix_95 ?_
        refine lv_topi (fun z7 ez7 => ?_)
        refine lv_istore (lv' := [(10, .int z7), (0, .ref dg), (1, .int a1), (2, .int a2), (3, .int a3), (4, .int a4), (5, .int a5), (6, .int a6), (7, .int a7), (8, .int a8), (9, .int t)]) hx hb d_D_mix_96 hl (by decide) rfl (fun ls hl => ?_)
        refine lv_iload_n hx hb d_D_mix_98 rfl (lv_at hl 2 rfl) ?_
        refine lv_iconst (v := 2) hx hb d_D_mix_99 (by decide) ?_
        refine ht_ci HW (va_runS (own := R_D) (As := [.int a1, .int 2]) (rest := []) ⟨hx, hb, hml, hown, htb⟩ (c_JI_rotateRight l g w a1 (2 : Int32)) (va_cwS 2 htb (ht_gs wd_242 wd_243 wd_5 g_JI_rotateRight) rfl rfl rfl (by decide +kernel) ⟨Nat.le_of_ble_eq_true rfl, Nat.le_of_ble_eq_true rfl⟩) (HW.preS _) rfl rfl hl.1 rfl (lv_room (Nat.le_of_ble_eq_true rfl)) d_D_mix_100 ⟨Nat.le_of_ble_eq_true rfl, Nat.le_of_ble_eq_true rfl⟩) (fun q9 u8 H locs pu8 HW => ?_)
        obtain ⟨eq9, eu8⟩ := pu8
        subst eu8
        refine lv_iload_n hx hb d_D_mix_103 rfl (lv_at hl 2 rfl) ?_
        refine lv_bipush (v := 13) hx hb d_D_mix_104 (by decide) ?_
        refine ht_ci HW (va_runS (own := R_D) (As := [.int a1, .int 13]) (rest := [.int q9]) ⟨hx, hb, hml, hown, htb⟩ (c_JI_rotateRight l g w a1 (13 : Int32)) (va_cwS 2 htb (ht_gs wd_242 wd_243 wd_5 g_JI_rotateRight) rfl rfl rfl (by decide +kernel) ⟨Nat.le_of_ble_eq_true rfl, Nat.le_of_ble_eq_true rfl⟩) (HW.preS _) rfl rfl hl.1 rfl (lv_room (Nat.le_of_ble_eq_true rfl)) d_D_mix_106 ⟨Nat.le_of_ble_eq_true rfl, Nat.le_of_ble_eq_true rfl⟩) (fun q11 u10 H locs pu10 HW => ?_)
        obtain ⟨eq11, eu10⟩ := pu10
        subst eu10
        refine lv_ixor hx hb d_D_mix_109 ?_
        refine lv_iload_n hx hb d_D_mix_110 rfl (lv_at hl 2 rfl) ?_
        refine lv_bipush (v := 22) hx hb d_D_mix_111 (by decide) ?_
        refine ht_ci HW (va_runS (own := R_D) (As := [.int a1, .int 22]) (rest := [.int (q9 ^^^ q11)]) ⟨hx, hb, hml, hown, htb⟩ (c_JI_rotateRight l g w a1 (22 : Int32)) (va_cwS 2 htb (ht_gs wd_242 wd_243 wd_5 g_JI_rotateRight) rfl rfl rfl (by decide +kernel) ⟨Nat.le_of_ble_eq_true rfl, Nat.le_of_ble_eq_true rfl⟩) (HW.preS _) rfl rfl hl.1 rfl (lv_room (Nat.le_of_ble_eq_true rfl)) d_D_mix_113 ⟨Nat.le_of_ble_eq_true rfl, Nat.le_of_ble_eq_true rfl⟩) (fun q13 u12 H locs pu12 HW => ?_)
        obtain ⟨eq13, eu12⟩ := pu12
        subst eu12
        refine lv_ixor hx hb d_D_mix_116 ?_
        refine lv_topi (fun z14 ez14 => ?_)
        refine lv_istore (lv' := [(11, .int z14), (10, .int z7), (0, .ref dg), (1, .int a1), (2, .int a2), (3, .int a3), (4, .int a4), (5, .int a5), (6, .int a6), (7, .int a7), (8, .int a8), (9, .int t)]) hx hb d_D_mix_117 hl (by decide) rfl (fun ls hl => ?_)
        refine lv_iload hx hb d_D_mix_119 (lv_at hl 10 rfl) ?_
        refine lv_iload hx hb d_D_mix_121 (lv_at hl 1 rfl) ?_
        refine lv_iadd hx hb d_D_mix_123 ?_
        refine lv_iload hx hb d_D_mix_124 (lv_at hl 7 rfl) ?_
        refine lv_iload hx hb d_D_mix_126 (lv_at hl 8 rfl) ?_
        refine lv_iand hx hb d_D_mix_128 ?_
        refine lv_iload hx hb d_D_mix_129 (lv_at hl 7 rfl) ?_
        refine lv_iconst (v := -1) hx hb d_D_mix_131 (by decide) ?_
        refine lv_ixor hx hb d_D_mix_132 ?_
        refine lv_iload hx hb d_D_mix_133 (lv_at hl 9 rfl) ?_
        refine lv_iand hx hb d_D_mix_135 ?_
        refine lv_ixor hx hb d_D_mix_136 ?_
        refine lv_iadd hx hb d_D_mix_137 ?_
        refine ht_gets hx hb HW.2.2.1.2.2.1 HW hown (htb _ wd_249) (fun _ h9 => h9) d_D_mix_138 ?_
        refine lv_iload hx hb d_D_mix_141 (lv_at hl 11 rfl) ?_
        refine va_ti (v := .int (ht_kt t.toNatClampNeg)) hx hb HW.2.2.1.2.2.1.2 HW.2.2.2.2.2 (by rw [et]; exact vp_in_nI (by omega) (by omega)) rfl d_D_mix_143 ?_
        refine lv_topi (fun z15 ez15 => ?_)
        have ez15 : z15 = ht_kt k := by rw [ez15, et, nI_clamp (by omega)]
        refine lv_iadd hx hb d_D_mix_144 ?_
        refine lv_aload_n hx hb d_D_mix_145 rfl (lv_at hl 2 rfl) ?_
        refine ht_get (C := R_D) (T := F_D) (N := 3) (v := .ref wa) hx hb htb i_D hown HW h_dg rfl 1 (by decide) (htb _ wd_27) (fun _ h9 => h9) rfl d_D_mix_146 ?_
        refine lv_iload hx hb d_D_mix_149 (lv_at hl 11 rfl) ?_
        refine ht_iald hx hb HW h_wa (by rw [et]; exact vp_in_nI (by omega) (by omega)) d_D_mix_151 ?_
        refine lv_topi (fun z16 ez16 => ?_)
        have ez16 : z16 = wf k := by rw [ez16, et, nI_clamp (by omega)]
        refine lv_iadd hx hb d_D_mix_152 ?_
        refine lv_topi (fun z17 ez17 => ?_)
        refine lv_istore (lv' := [(12, .int z17), (11, .int z14), (10, .int z7), (0, .ref dg), (1, .int a1), (2, .int a2), (3, .int a3), (4, .int a4), (5, .int a5), (6, .int a6), (7, .int a7), (8, .int a8), (9, .int t)]) hx hb d_D_mix_153 hl (by decide) rfl (fun ls hl => ?_)
        refine lv_iload hx hb d_D_mix_155 (lv_at hl 1 rfl) ?_
        refine lv_iload_n hx hb d_D_mix_157 rfl (lv_at hl 4 rfl) ?_
        refine lv_iload_n hx hb d_D_mix_158 rfl (lv_at hl 5 rfl) ?_
        refine lv_iand hx hb d_D_mix_159 ?_
        refine lv_iload_n hx hb d_D_mix_160 rfl (lv_at hl 4 rfl) ?_
        refine lv_iload_n hx hb d_D_mix_161 rfl (lv_at hl 6 rfl) ?_
        refine lv_iand hx hb d_D_mix_162 ?_
        refine lv_ixor hx hb d_D_mix_163 ?_
        refine lv_iload_n hx hb d_D_mix_164 rfl (lv_at hl 5 rfl) ?_
        refine lv_iload_n hx hb d_D_mix_165 rfl (lv_at hl 6 rfl) ?_
        refine lv_iand hx hb d_D_mix_166 ?_
        refine lv_ixor hx hb d_D_mix_167 ?_
        refine lv_iadd hx hb d_D_mix_168 ?_
        refine lv_topi (fun z18 ez18 => ?_)
        refine lv_istore (lv' := [(13, .int z18), (12, .int z17), (11, .int z14), (10, .int z7), (0, .ref dg), (1, .int a1), (2, .int a2), (3, .int a3), (4, .int a4), (5, .int a5), (6, .int a6), (7, .int a7), (8, .int a8), (9, .int t)]) hx hb d_D_mix_169 hl (by decide) rfl (fun ls hl => ?_)
        refine lv_iload hx hb d_D_mix_171 (lv_at hl 11 rfl) ?_
        refine lv_istore (lv' := [(8, .int a7), (13, .int z18), (12, .int z17), (11, .int z14), (10, .int z7), (0, .ref dg), (1, .int a1), (2, .int a2), (3, .int a3), (4, .int a4), (5, .int a5), (6, .int a6), (7, .int a7), (9, .int t)]) hx hb d_D_mix_173 hl (by decide) rfl (fun ls hl => ?_)
        refine lv_iload hx hb d_D_mix_175 (lv_at hl 11 rfl) ?_
        refine lv_istore (lv' := [(7, .int a6), (8, .int a7), (13, .int z18), (12, .int z17), (11, .int z14), (10, .int z7), (0, .ref dg), (1, .int a1), (2, .int a2), (3, .int a3), (4, .int a4), (5, .int a5), (6, .int a6), (9, .int t)]) hx hb d_D_mix_177 hl (by decide) rfl (fun ls hl => ?_)
        refine lv_iload hx hb d_D_mix_179 (lv_at hl 11 rfl) ?_
        refine lv_istore (lv' := [(6, .int a5), (7, .int a6), (8, .int a7), (13, .int z18), (12, .int z17), (11, .int z14), (10, .int z7), (0, .ref dg), (1, .int a1), (2, .int a2), (3, .int a3), (4, .int a4), (5, .int a5), (9, .int t)]) hx hb d_D_mix_181 hl (by decide) rfl (fun ls hl => ?_)
        refine lv_iload hx hb d_D_mix_183 (lv_at hl 11 rfl) ?_
        refine lv_iload hx hb d_D_mix_185 (lv_at hl 4 rfl) ?_
        refine lv_iadd hx hb d_D_mix_187 ?_
        refine lv_topi (fun z19 ez19 => ?_)
        refine lv_istore (lv' := [(5, .int z19), (6, .int a5), (7, .int a6), (8, .int a7), (13, .int z18), (12, .int z17), (11, .int z14), (10, .int z7), (0, .ref dg), (1, .int a1), (2, .int a2), (3, .int a3), (4, .int a4), (9, .int t)]) hx hb d_D_mix_188 hl (by decide) rfl (fun ls hl => ?_)
        refine lv_iload_n hx hb d_D_mix_190 rfl (lv_at hl 11 rfl) ?_
        refine lv_istore (lv' := [(4, .int a3), (5, .int z19), (6, .int a5), (7, .int a6), (8, .int a7), (13, .int z18), (12, .int z17), (11, .int z14), (10, .int z7), (0, .ref dg), (1, .int a1), (2, .int a2), (3, .int a3), (9, .int t)]) hx hb d_D_mix_191 hl (by decide) rfl (fun ls hl => ?_)
        refine lv_iload_n hx hb d_D_mix_193 rfl (lv_at hl 11 rfl) ?_
        refine lv_istore_n (lv' := [(3, .int a2), (4, .int a3), (5, .int z19), (6, .int a5), (7, .int a6), (8, .int a7), (13, .int z18), (12, .int z17), (11, .int z14), (10, .int z7), (0, .ref dg), (1, .int a1), (2, .int a2), (9, .int t)]) hx hb d_D_mix_194 rfl hl (by decide) rfl (fun ls hl => ?_)
        refine lv_iload_n hx hb d_D_mix_195 rfl (lv_at hl 11 rfl) ?_
        refine lv_istore_n (lv' := [(2, .int a1), (3, .int a2), (4, .int a3), (5, .int z19), (6, .int a5), (7, .int a6), (8, .int a7), (13, .int z18), (12, .int z17), (11, .int z14), (10, .int z7), (0, .ref dg), (1, .int a1), (9, .int t)]) hx hb d_D_mix_196 rfl hl (by decide) rfl (fun ls hl => ?_)
        refine lv_iload hx hb d_D_mix_197 (lv_at hl 8 rfl) ?_
        refine lv_iload hx hb d_D_mix_199 (lv_at hl 7 rfl) ?_
        refine lv_iadd hx hb d_D_mix_201 ?_
        refine lv_topi (fun z20 ez20 => ?_)
        refine lv_istore_n (lv' := [(1, .int z20), (2, .int a1), (3, .int a2), (4, .int a3), (5, .int z19), (6, .int a5), (7, .int a6), (8, .int a7), (13, .int z18), (12, .int z17), (11, .int z14), (10, .int z7), (0, .ref dg), (9, .int t)]) hx hb d_D_mix_202 rfl hl (by decide) rfl (fun ls hl => ?_)
        obtain ⟨t2, et2⟩ : ∃ y : Int32, y = t + 1 := ⟨_, rfl⟩
        refine lv_iinc (v := t2) (lv' := [(9, .int t2), (1, .int z20), (2, .int a1), (3, .int a2), (4, .int a3), (5, .int z19), (6, .int a5), (7, .int a6), (8, .int a7), (13, .int z18), (12, .int z17), (11, .int z14), (10, .int z7), (0, .ref dg)]) hx hb d_D_mix_203 hl (k := 13) rfl (by rw [et2]; rfl) (by decide) rfl (fun ls hl => ?_)
        refine lv_goto (tgt := 66) hx hb d_D_mix_206 (by decide) ?_
        refine ih (k + 1) (by omega) z20 a1 a2 a3 z19 a5 a6 a7 ?_ _ _ _ t2 (by rw [et2, et, nI_1]) HW (lv_sub hl [13, 1, 2, 3, 4, 5, 6, 7, 8, 0] rfl)
        show _ = ht_r1 (ht_k64.getD k 0) (wf k) (ht_rn wf (ht_o8 ws) k)
        rw [← ha]
        simp only [eq2, eq4, eq6, ez7, eq9, eq11, eq13, ez14, ez15, ez16, ez17, ez18, ez19, ez20]
        rfl
  obtain ⟨h_dg, h_wd, h_wa⟩ := id hD
  refine lv_aload_n hx hb d_D_mix_0 rfl (lv_at hl 0 rfl) ?_
  refine ht_get (C := R_D) (T := F_D) (N := 3) (v := .ref wd) hx hb htb i_D hown HW h_dg rfl 0 (by decide) (htb _ wd_26) (fun _ h9 => h9) rfl d_D_mix_1 ?_
  refine lv_iconst (v := 0) hx hb d_D_mix_4 (by decide) ?_
  refine ht_iald hx hb HW h_wd (by unfold vp_in; decide) d_D_mix_5 ?_
  refine lv_topi (fun z1 ez1 => ?_)
  have ez1 : z1 = ws 0 := ez1
  refine lv_istore_n (lv' := [(1, .int z1), (0, .ref dg)]) hx hb d_D_mix_6 rfl hl (by decide) rfl (fun ls hl => ?_)
  refine lv_aload_n hx hb d_D_mix_7 rfl (lv_at hl 1 rfl) ?_
  refine ht_get (C := R_D) (T := F_D) (N := 3) (v := .ref wd) hx hb htb i_D hown HW h_dg rfl 0 (by decide) (htb _ wd_26) (fun _ h9 => h9) rfl d_D_mix_8 ?_
  refine lv_iconst (v := 1) hx hb d_D_mix_11 (by decide) ?_
  refine ht_iald hx hb HW h_wd (by unfold vp_in; decide) d_D_mix_12 ?_
  refine lv_topi (fun z2 ez2 => ?_)
  have ez2 : z2 = ws 1 := ez2
  refine lv_istore_n (lv' := [(2, .int z2), (1, .int z1), (0, .ref dg)]) hx hb d_D_mix_13 rfl hl (by decide) rfl (fun ls hl => ?_)
  refine lv_aload_n hx hb d_D_mix_14 rfl (lv_at hl 2 rfl) ?_
  refine ht_get (C := R_D) (T := F_D) (N := 3) (v := .ref wd) hx hb htb i_D hown HW h_dg rfl 0 (by decide) (htb _ wd_26) (fun _ h9 => h9) rfl d_D_mix_15 ?_
  refine lv_iconst (v := 2) hx hb d_D_mix_18 (by decide) ?_
  refine ht_iald hx hb HW h_wd (by unfold vp_in; decide) d_D_mix_19 ?_
  refine lv_topi (fun z3 ez3 => ?_)
  have ez3 : z3 = ws 2 := ez3
  refine lv_istore_n (lv' := [(3, .int z3), (2, .int z2), (1, .int z1), (0, .ref dg)]) hx hb d_D_mix_20 rfl hl (by decide) rfl (fun ls hl => ?_)
  refine lv_aload_n hx hb d_D_mix_21 rfl (lv_at hl 3 rfl) ?_
  refine ht_get (C := R_D) (T := F_D) (N := 3) (v := .ref wd) hx hb htb i_D hown HW h_dg rfl 0 (by decide) (htb _ wd_26) (fun _ h9 => h9) rfl d_D_mix_22 ?_
  refine lv_iconst (v := 3) hx hb d_D_mix_25 (by decide) ?_
  refine ht_iald hx hb HW h_wd (by unfold vp_in; decide) d_D_mix_26 ?_
  refine lv_topi (fun z4 ez4 => ?_)
  have ez4 : z4 = ws 3 := ez4
  refine lv_istore (lv' := [(4, .int z4), (3, .int z3), (2, .int z2), (1, .int z1), (0, .ref dg)]) hx hb d_D_mix_27 hl (by decide) rfl (fun ls hl => ?_)
  refine lv_aload_n hx hb d_D_mix_29 rfl (lv_at hl 4 rfl) ?_
  refine ht_get (C := R_D) (T := F_D) (N := 3) (v := .ref wd) hx hb htb i_D hown HW h_dg rfl 0 (by decide) (htb _ wd_26) (fun _ h9 => h9) rfl d_D_mix_30 ?_
  refine lv_iconst (v := 4) hx hb d_D_mix_33 (by decide) ?_
  refine ht_iald hx hb HW h_wd (by unfold vp_in; decide) d_D_mix_34 ?_
  refine lv_topi (fun z5 ez5 => ?_)
  have ez5 : z5 = ws 4 := ez5
  refine lv_istore (lv' := [(5, .int z5), (4, .int z4), (3, .int z3), (2, .int z2), (1, .int z1), (0, .ref dg)]) hx hb d_D_mix_35 hl (by decide) rfl (fun ls hl => ?_)
  refine lv_aload_n hx hb d_D_mix_37 rfl (lv_at hl 5 rfl) ?_
  refine ht_get (C := R_D) (T := F_D) (N := 3) (v := .ref wd) hx hb htb i_D hown HW h_dg rfl 0 (by decide) (htb _ wd_26) (fun _ h9 => h9) rfl d_D_mix_38 ?_
  refine lv_iconst (v := 5) hx hb d_D_mix_41 (by decide) ?_
  refine ht_iald hx hb HW h_wd (by unfold vp_in; decide) d_D_mix_42 ?_
  refine lv_topi (fun z6 ez6 => ?_)
  have ez6 : z6 = ws 5 := ez6
  refine lv_istore (lv' := [(6, .int z6), (5, .int z5), (4, .int z4), (3, .int z3), (2, .int z2), (1, .int z1), (0, .ref dg)]) hx hb d_D_mix_43 hl (by decide) rfl (fun ls hl => ?_)
  refine lv_aload_n hx hb d_D_mix_45 rfl (lv_at hl 6 rfl) ?_
  refine ht_get (C := R_D) (T := F_D) (N := 3) (v := .ref wd) hx hb htb i_D hown HW h_dg rfl 0 (by decide) (htb _ wd_26) (fun _ h9 => h9) rfl d_D_mix_46 ?_
  refine lv_bipush (v := 6) hx hb d_D_mix_49 (by decide) ?_
  refine ht_iald hx hb HW h_wd (by unfold vp_in; decide) d_D_mix_51 ?_
  refine lv_topi (fun z7 ez7 => ?_)
  have ez7 : z7 = ws 6 := ez7
  refine lv_istore (lv' := [(7, .int z7), (6, .int z6), (5, .int z5), (4, .int z4), (3, .int z3), (2, .int z2), (1, .int z1), (0, .ref dg)]) hx hb d_D_mix_52 hl (by decide) rfl (fun ls hl => ?_)
  refine lv_aload_n hx hb d_D_mix_54 rfl (lv_at hl 7 rfl) ?_
  refine ht_get (C := R_D) (T := F_D) (N := 3) (v := .ref wd) hx hb htb i_D hown HW h_dg rfl 0 (by decide) (htb _ wd_26) (fun _ h9 => h9) rfl d_D_mix_55 ?_
  refine lv_bipush (v := 7) hx hb d_D_mix_58 (by decide) ?_
  refine ht_iald hx hb HW h_wd (by unfold vp_in; decide) d_D_mix_60 ?_
  refine lv_topi (fun z8 ez8 => ?_)
  have ez8 : z8 = ws 7 := ez8
  refine lv_istore (lv' := [(8, .int z8), (7, .int z7), (6, .int z6), (5, .int z5), (4, .int z4), (3, .int z3), (2, .int z2), (1, .int z1), (0, .ref dg)]) hx hb d_D_mix_61 hl (by decide) rfl (fun ls hl => ?_)
  refine lv_iconst (v := 0) hx hb d_D_mix_63 (by decide) ?_
  refine lv_istore (lv' := [(9, .int 0), (8, .int z8), (7, .int z7), (6, .int z6), (5, .int z5), (4, .int z4), (3, .int z3), (2, .int z2), (1, .int z1), (0, .ref dg)]) hx hb d_D_mix_64 hl (by decide) rfl (fun ls hl => ?_)
  exact loop 64 0 rfl z1 z2 z3 z4 z5 z6 z7 z8 (by simp only [ez1, ez2, ez3, ez4, ez5, ez6, ez7, ez8]; rfl) _ _ _ 0 rfl HW (lv_sub hl [9, 8, 7, 6, 5, 4, 3, 2, 1, 0] rfl)
