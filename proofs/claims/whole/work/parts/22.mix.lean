def ht_kt (j : Nat) : Int32 := ht_k64.getD j 0
theorem ht_fin {g : ht_G} {w : ht_W} {dg wd wa : Nat} {ws wf : Nat → Int32} {n0 : Int32} (hD : ht_Dg g w dg wd wa (ws, wf, n0)) (f : Nat → Int32) : ht_up w wd (ht_ai g 8 f) = ht_dw g w dg wd wa (f, wf, n0) := by
  unfold ht_dw
  rw [ht_up_id hD.1, ht_up_id (ht_at_ne hD.2.2 hD.n3.symm)]
set_option maxHeartbeats 4000000 in
set_option maxRecDepth 100000 in
theorem c_D_mix (l : Launch) (g : ht_G) (w : ht_W) {dg wd wa : Nat} {ws wf : Nat → Int32} {n0 : Int32} (hD : ht_Dg g w dg wd wa (ws, wf, n0)) : Met l y_D_mix ws_D_mix ({ frames := 1, cells := 0, slots := 0, locals := 21 } : Room) (va_Pc [.ref dg] (ht_WS g w)) (ht_Qv g (fun u => u = ht_dw g w dg wd wa (ht_ad ws (ht_rn wf (ht_o8 ws) 64), wf, n0))) 0 0 (ht_A g) := by
  refine Met.ofW (cc := b_D_mix) (maxL := 14) (ret := none) (by decide) rfl ?_
  intro p e s m args below meth c s₁ BB hml hv
  obtain ⟨rfl, HW⟩ := hv
  have HW := ht_I.start HW
  have hx := BB.exec
  have hb := BB.bytes
  have hr := BB.returns
  have hts := atoms_spec (ws := ws_D_mix) BB.pre
  have htb : ∀ w ∈ bg, w.before _ s = true := fun w h => hts w (List.mem_cons_of_mem _ h)
  have hown : s.vm.findClass R_D = some m.cls := findClass_of_methodNamed BB.named
  have hlocks := BB.notSynchronized
  have hl := lv_entry ([.ref dg]) (n := 14) (Nat.le_of_ble_eq_true rfl)
  rw [lg_entry_eq]
  generalize (lg_sl ([.ref dg]) ++ List.replicate (14 - (lg_sl ([.ref dg])).length) Slot.unset).toArray = ls at hl ⊢
  have hl : lv_has ls 14 [(0, .ref dg)] := hl
  have loop : ∀ (n k : Nat), k + n = 64 → ∀ (a1 a2 a3 a4 a5 a6 a7 a8 : Int32), (a1, a2, a3, a4, a5, a6, a7, a8) = ht_rn wf (ht_o8 ws) k → ∀ (H : Heap) (locs : List Loc) (ls : Array Slot) (t : Int32), t = nI k → ht_I g s w H locs → lv_has ls 14 [(0, .ref dg), (1, .int a1), (2, .int a2), (3, .int a3), (4, .int a4), (5, .int a5), (6, .int a6), (7, .int a7), (8, .int a8), (9, .int t)] → W p l e (headSpec ws_D_mix ({ frames := 1, cells := 0, slots := 0, locals := 21 } : Room)).room s m ([.ref dg] : List Value).toArray below meth c H locs 0 0 (MQ below (ht_Qv g (fun u => u = ht_dw g w dg wd wa (ht_ad ws (ht_rn wf (ht_o8 ws) 64), wf, n0))) ([.ref dg] : List Value).toArray s 0 0 (ht_A g)) (F0 m 66 ls []) := by
    intro n
    induction n with
    | zero =>
      intro k hk a1 a2 a3 a4 a5 a6 a7 a8 ha H locs ls t et HW hl
      obtain ⟨h_dg, h_wd, h_wa⟩ := id hD
      refine lv_iload hx hb d_D_mix_66 (lv_at hl 9 rfl) ?_
      refine lv_bipush (v := 64) hx hb d_D_mix_68 (by decide) ?_
      refine lv_icmp_ge (tgt := 209) hx hb d_D_mix_70 (by decide) (fun c70 => ?_) (fun c70 => ?_)
      · refine lv_aload_n hx hb d_D_mix_209 rfl (lv_at hl 0 rfl) ?_
        refine ht_get (C := R_D) (T := F_D) (N := 3) (v := .ref wd) hx hb htb i_D hown HW h_dg rfl 0 (by decide) (htb _ wd_26) (fun _ h9 => h9) rfl d_D_mix_210 ?_
        refine lv_iconst (v := 0) hx hb d_D_mix_213 (by decide) ?_
        refine lv_dup2_11 hx hb d_D_mix_214 rfl rfl ?_
        refine ht_iald hx hb HW h_wd (by unfold vp_in; decide) d_D_mix_215 ?_
        refine lv_topi (fun x1 ex1 => ?_)
        have ex1 : x1 = ws 0 := ex1
        refine lv_iload_n hx hb d_D_mix_216 rfl (lv_at hl 1 rfl) ?_
        refine lv_iadd hx hb d_D_mix_217 ?_
        refine ht_iast hx hb HW h_wd (by unfold vp_in; decide) d_D_mix_218 (fun H locs HW => ?_)
        have n_wa_wd : wa ≠ wd := (Ne.symm hD.n3)
        obtain ⟨w2, hw2⟩ : ∃ z, z = ht_up w wd (ht_ai g 8 (upd ws 0 (x1 + a1))) := ⟨_, rfl⟩
        have HW : ht_I g s w2 H locs := by rw [hw2]; exact HW
        have h_dg : ht_at w2 dg (.inr (1, [.ref wd, .ref wa, .int n0]) : va_E) := by rw [hw2]; exact ht_at_ne h_dg hD.n1
        have h_wd : ht_at w2 wd (ht_ai g 8 (upd ws 0 (x1 + a1))) := by rw [hw2]; exact ht_at_self h_wd
        have h_wa : ht_at w2 wa (ht_ai g 64 wf) := by rw [hw2]; exact ht_at_ne h_wa n_wa_wd
        refine lv_aload_n hx hb d_D_mix_219 rfl (lv_at hl 0 rfl) ?_
        refine ht_get (C := R_D) (T := F_D) (N := 3) (v := .ref wd) hx hb htb i_D hown HW h_dg rfl 0 (by decide) (htb _ wd_26) (fun _ h9 => h9) rfl d_D_mix_220 ?_
        refine lv_iconst (v := 1) hx hb d_D_mix_223 (by decide) ?_
        refine lv_dup2_11 hx hb d_D_mix_224 rfl rfl ?_
        refine ht_iald hx hb HW h_wd (by unfold vp_in; decide) d_D_mix_225 ?_
        refine lv_topi (fun x3 ex3 => ?_)
        have ex3 : x3 = ws 1 := ex3
        refine lv_iload_n hx hb d_D_mix_226 rfl (lv_at hl 2 rfl) ?_
        refine lv_iadd hx hb d_D_mix_227 ?_
        refine ht_iast hx hb HW h_wd (by unfold vp_in; decide) d_D_mix_228 (fun H locs HW => ?_)
        obtain ⟨w4, hw4⟩ : ∃ z, z = ht_up w2 wd (ht_ai g 8 (upd (upd ws 0 (x1 + a1)) 1 (x3 + a2))) := ⟨_, rfl⟩
        have HW : ht_I g s w4 H locs := by rw [hw4]; exact HW
        have h_dg : ht_at w4 dg (.inr (1, [.ref wd, .ref wa, .int n0]) : va_E) := by rw [hw4]; exact ht_at_ne h_dg hD.n1
        have h_wd : ht_at w4 wd (ht_ai g 8 (upd (upd ws 0 (x1 + a1)) 1 (x3 + a2))) := by rw [hw4]; exact ht_at_self h_wd
        have h_wa : ht_at w4 wa (ht_ai g 64 wf) := by rw [hw4]; exact ht_at_ne h_wa n_wa_wd
        refine lv_aload_n hx hb d_D_mix_229 rfl (lv_at hl 0 rfl) ?_
        refine ht_get (C := R_D) (T := F_D) (N := 3) (v := .ref wd) hx hb htb i_D hown HW h_dg rfl 0 (by decide) (htb _ wd_26) (fun _ h9 => h9) rfl d_D_mix_230 ?_
        refine lv_iconst (v := 2) hx hb d_D_mix_233 (by decide) ?_
        refine lv_dup2_11 hx hb d_D_mix_234 rfl rfl ?_
        refine ht_iald hx hb HW h_wd (by unfold vp_in; decide) d_D_mix_235 ?_
        refine lv_topi (fun x5 ex5 => ?_)
        have ex5 : x5 = ws 2 := ex5
        refine lv_iload_n hx hb d_D_mix_236 rfl (lv_at hl 3 rfl) ?_
        refine lv_iadd hx hb d_D_mix_237 ?_
        refine ht_iast hx hb HW h_wd (by unfold vp_in; decide) d_D_mix_238 (fun H locs HW => ?_)
        obtain ⟨w6, hw6⟩ : ∃ z, z = ht_up w4 wd (ht_ai g 8 (upd (upd (upd ws 0 (x1 + a1)) 1 (x3 + a2)) 2 (x5 + a3))) := ⟨_, rfl⟩
        have HW : ht_I g s w6 H locs := by rw [hw6]; exact HW
        have h_dg : ht_at w6 dg (.inr (1, [.ref wd, .ref wa, .int n0]) : va_E) := by rw [hw6]; exact ht_at_ne h_dg hD.n1
        have h_wd : ht_at w6 wd (ht_ai g 8 (upd (upd (upd ws 0 (x1 + a1)) 1 (x3 + a2)) 2 (x5 + a3))) := by rw [hw6]; exact ht_at_self h_wd
        have h_wa : ht_at w6 wa (ht_ai g 64 wf) := by rw [hw6]; exact ht_at_ne h_wa n_wa_wd
        refine lv_aload_n hx hb d_D_mix_239 rfl (lv_at hl 0 rfl) ?_
        refine ht_get (C := R_D) (T := F_D) (N := 3) (v := .ref wd) hx hb htb i_D hown HW h_dg rfl 0 (by decide) (htb _ wd_26) (fun _ h9 => h9) rfl d_D_mix_240 ?_
        refine lv_iconst (v := 3) hx hb d_D_mix_243 (by decide) ?_
        refine lv_dup2_11 hx hb d_D_mix_244 rfl rfl ?_
        refine ht_iald hx hb HW h_wd (by unfold vp_in; decide) d_D_mix_245 ?_
        refine lv_topi (fun x7 ex7 => ?_)
        have ex7 : x7 = ws 3 := ex7
        refine lv_iload hx hb d_D_mix_246 (lv_at hl 4 rfl) ?_
        refine lv_iadd hx hb d_D_mix_248 ?_
        refine ht_iast hx hb HW h_wd (by unfold vp_in; decide) d_D_mix_249 (fun H locs HW => ?_)
        obtain ⟨w8, hw8⟩ : ∃ z, z = ht_up w6 wd (ht_ai g 8 (upd (upd (upd (upd ws 0 (x1 + a1)) 1 (x3 + a2)) 2 (x5 + a3)) 3 (x7 + a4))) := ⟨_, rfl⟩
        have HW : ht_I g s w8 H locs := by rw [hw8]; exact HW
        have h_dg : ht_at w8 dg (.inr (1, [.ref wd, .ref wa, .int n0]) : va_E) := by rw [hw8]; exact ht_at_ne h_dg hD.n1
        have h_wd : ht_at w8 wd (ht_ai g 8 (upd (upd (upd (upd ws 0 (x1 + a1)) 1 (x3 + a2)) 2 (x5 + a3)) 3 (x7 + a4))) := by rw [hw8]; exact ht_at_self h_wd
        have h_wa : ht_at w8 wa (ht_ai g 64 wf) := by rw [hw8]; exact ht_at_ne h_wa n_wa_wd
        refine lv_aload_n hx hb d_D_mix_250 rfl (lv_at hl 0 rfl) ?_
        refine ht_get (C := R_D) (T := F_D) (N := 3) (v := .ref wd) hx hb htb i_D hown HW h_dg rfl 0 (by decide) (htb _ wd_26) (fun _ h9 => h9) rfl d_D_mix_251 ?_
        refine lv_iconst (v := 4) hx hb d_D_mix_254 (by decide) ?_
        refine lv_dup2_11 hx hb d_D_mix_255 rfl rfl ?_
        refine ht_iald hx hb HW h_wd (by unfold vp_in; decide) d_D_mix_256 ?_
        refine lv_topi (fun x9 ex9 => ?_)
        have ex9 : x9 = ws 4 := ex9
        refine lv_iload hx hb d_D_mix_257 (lv_at hl 5 rfl) ?_
        refine lv_iadd hx hb d_D_mix_259 ?_
        refine ht_iast hx hb HW h_wd (by unfold vp_in; decide) d_D_mix_260 (fun H locs HW => ?_)
        obtain ⟨w10, hw10⟩ : ∃ z, z = ht_up w8 wd (ht_ai g 8 (upd (upd (upd (upd (upd ws 0 (x1 + a1)) 1 (x3 + a2)) 2 (x5 + a3)) 3 (x7 + a4)) 4 (x9 + a5))) := ⟨_, rfl⟩
        have HW : ht_I g s w10 H locs := by rw [hw10]; exact HW
        have h_dg : ht_at w10 dg (.inr (1, [.ref wd, .ref wa, .int n0]) : va_E) := by rw [hw10]; exact ht_at_ne h_dg hD.n1
        have h_wd : ht_at w10 wd (ht_ai g 8 (upd (upd (upd (upd (upd ws 0 (x1 + a1)) 1 (x3 + a2)) 2 (x5 + a3)) 3 (x7 + a4)) 4 (x9 + a5))) := by rw [hw10]; exact ht_at_self h_wd
        have h_wa : ht_at w10 wa (ht_ai g 64 wf) := by rw [hw10]; exact ht_at_ne h_wa n_wa_wd
        refine lv_aload_n hx hb d_D_mix_261 rfl (lv_at hl 0 rfl) ?_
        refine ht_get (C := R_D) (T := F_D) (N := 3) (v := .ref wd) hx hb htb i_D hown HW h_dg rfl 0 (by decide) (htb _ wd_26) (fun _ h9 => h9) rfl d_D_mix_262 ?_
        refine lv_iconst (v := 5) hx hb d_D_mix_265 (by decide) ?_
        refine lv_dup2_11 hx hb d_D_mix_266 rfl rfl ?_
        refine ht_iald hx hb HW h_wd (by unfold vp_in; decide) d_D_mix_267 ?_
        refine lv_topi (fun x11 ex11 => ?_)
        have ex11 : x11 = ws 5 := ex11
        refine lv_iload hx hb d_D_mix_268 (lv_at hl 6 rfl) ?_
        refine lv_iadd hx hb d_D_mix_270 ?_
        refine ht_iast hx hb HW h_wd (by unfold vp_in; decide) d_D_mix_271 (fun H locs HW => ?_)
        obtain ⟨w12, hw12⟩ : ∃ z, z = ht_up w10 wd (ht_ai g 8 (upd (upd (upd (upd (upd (upd ws 0 (x1 + a1)) 1 (x3 + a2)) 2 (x5 + a3)) 3 (x7 + a4)) 4 (x9 + a5)) 5 (x11 + a6))) := ⟨_, rfl⟩
        have HW : ht_I g s w12 H locs := by rw [hw12]; exact HW
        have h_dg : ht_at w12 dg (.inr (1, [.ref wd, .ref wa, .int n0]) : va_E) := by rw [hw12]; exact ht_at_ne h_dg hD.n1
        have h_wd : ht_at w12 wd (ht_ai g 8 (upd (upd (upd (upd (upd (upd ws 0 (x1 + a1)) 1 (x3 + a2)) 2 (x5 + a3)) 3 (x7 + a4)) 4 (x9 + a5)) 5 (x11 + a6))) := by rw [hw12]; exact ht_at_self h_wd
        have h_wa : ht_at w12 wa (ht_ai g 64 wf) := by rw [hw12]; exact ht_at_ne h_wa n_wa_wd
        refine lv_aload_n hx hb d_D_mix_272 rfl (lv_at hl 0 rfl) ?_
        refine ht_get (C := R_D) (T := F_D) (N := 3) (v := .ref wd) hx hb htb i_D hown HW h_dg rfl 0 (by decide) (htb _ wd_26) (fun _ h9 => h9) rfl d_D_mix_273 ?_
        refine lv_bipush (v := 6) hx hb d_D_mix_276 (by decide) ?_
        refine lv_dup2_11 hx hb d_D_mix_278 rfl rfl ?_
        refine ht_iald hx hb HW h_wd (by unfold vp_in; decide) d_D_mix_279 ?_
        refine lv_topi (fun x13 ex13 => ?_)
        have ex13 : x13 = ws 6 := ex13
        refine lv_iload hx hb d_D_mix_280 (lv_at hl 7 rfl) ?_
        refine lv_iadd hx hb d_D_mix_282 ?_
        refine ht_iast hx hb HW h_wd (by unfold vp_in; decide) d_D_mix_283 (fun H locs HW => ?_)
        obtain ⟨w14, hw14⟩ : ∃ z, z = ht_up w12 wd (ht_ai g 8 (upd (upd (upd (upd (upd (upd (upd ws 0 (x1 + a1)) 1 (x3 + a2)) 2 (x5 + a3)) 3 (x7 + a4)) 4 (x9 + a5)) 5 (x11 + a6)) 6 (x13 + a7))) := ⟨_, rfl⟩
        have HW : ht_I g s w14 H locs := by rw [hw14]; exact HW
        have h_dg : ht_at w14 dg (.inr (1, [.ref wd, .ref wa, .int n0]) : va_E) := by rw [hw14]; exact ht_at_ne h_dg hD.n1
        have h_wd : ht_at w14 wd (ht_ai g 8 (upd (upd (upd (upd (upd (upd (upd ws 0 (x1 + a1)) 1 (x3 + a2)) 2 (x5 + a3)) 3 (x7 + a4)) 4 (x9 + a5)) 5 (x11 + a6)) 6 (x13 + a7))) := by rw [hw14]; exact ht_at_self h_wd
        have h_wa : ht_at w14 wa (ht_ai g 64 wf) := by rw [hw14]; exact ht_at_ne h_wa n_wa_wd
        refine lv_aload_n hx hb d_D_mix_284 rfl (lv_at hl 0 rfl) ?_
        refine ht_get (C := R_D) (T := F_D) (N := 3) (v := .ref wd) hx hb htb i_D hown HW h_dg rfl 0 (by decide) (htb _ wd_26) (fun _ h9 => h9) rfl d_D_mix_285 ?_
        refine lv_bipush (v := 7) hx hb d_D_mix_288 (by decide) ?_
        refine lv_dup2_11 hx hb d_D_mix_290 rfl rfl ?_
        refine ht_iald hx hb HW h_wd (by unfold vp_in; decide) d_D_mix_291 ?_
        refine lv_topi (fun x15 ex15 => ?_)
        have ex15 : x15 = ws 7 := ex15
        refine lv_iload hx hb d_D_mix_292 (lv_at hl 8 rfl) ?_
        refine lv_iadd hx hb d_D_mix_294 ?_
        refine ht_iast hx hb HW h_wd (by unfold vp_in; decide) d_D_mix_295 (fun H locs HW => ?_)
        obtain ⟨w16, hw16⟩ : ∃ z, z = ht_up w14 wd (ht_ai g 8 (upd (upd (upd (upd (upd (upd (upd (upd ws 0 (x1 + a1)) 1 (x3 + a2)) 2 (x5 + a3)) 3 (x7 + a4)) 4 (x9 + a5)) 5 (x11 + a6)) 6 (x13 + a7)) 7 (x15 + a8))) := ⟨_, rfl⟩
        have HW : ht_I g s w16 H locs := by rw [hw16]; exact HW
        have h_dg : ht_at w16 dg (.inr (1, [.ref wd, .ref wa, .int n0]) : va_E) := by rw [hw16]; exact ht_at_ne h_dg hD.n1
        have h_wd : ht_at w16 wd (ht_ai g 8 (upd (upd (upd (upd (upd (upd (upd (upd ws 0 (x1 + a1)) 1 (x3 + a2)) 2 (x5 + a3)) 3 (x7 + a4)) 4 (x9 + a5)) 5 (x11 + a6)) 6 (x13 + a7)) 7 (x15 + a8))) := by rw [hw16]; exact ht_at_self h_wd
        have h_wa : ht_at w16 wa (ht_ai g 64 wf) := by rw [hw16]; exact ht_at_ne h_wa n_wa_wd
        have hk64 : k = 64 := by omega
        exact ht_vret hx hb hr hlocks HW (by
            have ha64 : (a1, a2, a3, a4, a5, a6, a7, a8) = ht_rn wf (ht_o8 ws) 64 := hk64 ▸ ha
            rw [← ha64, hw16, hw14, hw12, hw10, hw8, hw6, hw4, hw2]
            simp only [ht_up_up, ex1, ex3, ex5, ex7, ex9, ex11, ex13, ex15]
            exact ht_fin hD _) d_D_mix_296
      · exact absurd (nI_le (show 64 ≤ k by omega) (by omega)) (by rw [et] at c70; exact c70)
    | succ n ih =>
      intro k hk a1 a2 a3 a4 a5 a6 a7 a8 ha H locs ls t et HW hl
      obtain ⟨h_dg, h_wd, h_wa⟩ := id hD
      refine lv_iload hx hb d_D_mix_66 (lv_at hl 9 rfl) ?_
      refine lv_bipush (v := 64) hx hb d_D_mix_68 (by decide) ?_
      refine lv_icmp_ge (tgt := 209) hx hb d_D_mix_70 (by decide) (fun c70 => ?_) (fun c70 => ?_)
      · exact absurd (show nI 64 ≤ nI k by rw [et] at c70; exact c70) (nI_ge (by omega) (by omega))
      · refine lv_iload hx hb d_D_mix_73 (lv_at hl 5 rfl) ?_
        refine lv_bipush (v := 6) hx hb d_D_mix_75 (by decide) ?_
        refine ht_ci HW (va_runS (own := R_D) (As := [.int a5, .int 6]) (rest := []) ⟨hx, hb, hml, hown, htb⟩ (c_JI_rotateRight l g w a5 (6 : Int32)) (va_cwS 2 htb (ht_gs wd_242 wd_243 wd_5 g_JI_rotateRight) rfl rfl rfl (by decide +kernel) ⟨Nat.le_of_ble_eq_true rfl, Nat.le_of_ble_eq_true rfl⟩) (HW.preS _) rfl rfl hl.1 rfl (lv_room (Nat.le_of_ble_eq_true rfl)) d_D_mix_77 ⟨Nat.le_of_ble_eq_true rfl, Nat.le_of_ble_eq_true rfl⟩) (fun r2 w1 H locs pw1 HW => ?_)
        obtain ⟨er2, ew1⟩ := pw1
        subst ew1
        refine lv_iload hx hb d_D_mix_80 (lv_at hl 5 rfl) ?_
        refine lv_bipush (v := 11) hx hb d_D_mix_82 (by decide) ?_
        refine ht_ci HW (va_runS (own := R_D) (As := [.int a5, .int 11]) (rest := [.int r2]) ⟨hx, hb, hml, hown, htb⟩ (c_JI_rotateRight l g w a5 (11 : Int32)) (va_cwS 2 htb (ht_gs wd_242 wd_243 wd_5 g_JI_rotateRight) rfl rfl rfl (by decide +kernel) ⟨Nat.le_of_ble_eq_true rfl, Nat.le_of_ble_eq_true rfl⟩) (HW.preS _) rfl rfl hl.1 rfl (lv_room (Nat.le_of_ble_eq_true rfl)) d_D_mix_84 ⟨Nat.le_of_ble_eq_true rfl, Nat.le_of_ble_eq_true rfl⟩) (fun r4 w3 H locs pw3 HW => ?_)
        obtain ⟨er4, ew3⟩ := pw3
        subst ew3
        refine lv_ixor hx hb d_D_mix_87 ?_
        refine lv_iload hx hb d_D_mix_88 (lv_at hl 5 rfl) ?_
        refine lv_bipush (v := 25) hx hb d_D_mix_90 (by decide) ?_
        refine ht_ci HW (va_runS (own := R_D) (As := [.int a5, .int 25]) (rest := [.int (r2 ^^^ r4)]) ⟨hx, hb, hml, hown, htb⟩ (c_JI_rotateRight l g w a5 (25 : Int32)) (va_cwS 2 htb (ht_gs wd_242 wd_243 wd_5 g_JI_rotateRight) rfl rfl rfl (by decide +kernel) ⟨Nat.le_of_ble_eq_true rfl, Nat.le_of_ble_eq_true rfl⟩) (HW.preS _) rfl rfl hl.1 rfl (lv_room (Nat.le_of_ble_eq_true rfl)) d_D_mix_92 ⟨Nat.le_of_ble_eq_true rfl, Nat.le_of_ble_eq_true rfl⟩) (fun r6 w5 H locs pw5 HW => ?_)
        obtain ⟨er6, ew5⟩ := pw5
        subst ew5
        refine lv_ixor hx hb d_D_mix_95 ?_
        refine lv_topi (fun x7 ex7 => ?_)
        refine lv_istore (lv' := [(10, .int x7), (0, .ref dg), (1, .int a1), (2, .int a2), (3, .int a3), (4, .int a4), (5, .int a5), (6, .int a6), (7, .int a7), (8, .int a8), (9, .int t)]) hx hb d_D_mix_96 hl (by decide) rfl (fun ls hl => ?_)
        refine lv_iload_n hx hb d_D_mix_98 rfl (lv_at hl 2 rfl) ?_
        refine lv_iconst (v := 2) hx hb d_D_mix_99 (by decide) ?_
        refine ht_ci HW (va_runS (own := R_D) (As := [.int a1, .int 2]) (rest := []) ⟨hx, hb, hml, hown, htb⟩ (c_JI_rotateRight l g w a1 (2 : Int32)) (va_cwS 2 htb (ht_gs wd_242 wd_243 wd_5 g_JI_rotateRight) rfl rfl rfl (by decide +kernel) ⟨Nat.le_of_ble_eq_true rfl, Nat.le_of_ble_eq_true rfl⟩) (HW.preS _) rfl rfl hl.1 rfl (lv_room (Nat.le_of_ble_eq_true rfl)) d_D_mix_100 ⟨Nat.le_of_ble_eq_true rfl, Nat.le_of_ble_eq_true rfl⟩) (fun r9 w8 H locs pw8 HW => ?_)
        obtain ⟨er9, ew8⟩ := pw8
        subst ew8
        refine lv_iload_n hx hb d_D_mix_103 rfl (lv_at hl 2 rfl) ?_
        refine lv_bipush (v := 13) hx hb d_D_mix_104 (by decide) ?_
        refine ht_ci HW (va_runS (own := R_D) (As := [.int a1, .int 13]) (rest := [.int r9]) ⟨hx, hb, hml, hown, htb⟩ (c_JI_rotateRight l g w a1 (13 : Int32)) (va_cwS 2 htb (ht_gs wd_242 wd_243 wd_5 g_JI_rotateRight) rfl rfl rfl (by decide +kernel) ⟨Nat.le_of_ble_eq_true rfl, Nat.le_of_ble_eq_true rfl⟩) (HW.preS _) rfl rfl hl.1 rfl (lv_room (Nat.le_of_ble_eq_true rfl)) d_D_mix_106 ⟨Nat.le_of_ble_eq_true rfl, Nat.le_of_ble_eq_true rfl⟩) (fun r11 w10 H locs pw10 HW => ?_)
        obtain ⟨er11, ew10⟩ := pw10
        subst ew10
        refine lv_ixor hx hb d_D_mix_109 ?_
        refine lv_iload_n hx hb d_D_mix_110 rfl (lv_at hl 2 rfl) ?_
        refine lv_bipush (v := 22) hx hb d_D_mix_111 (by decide) ?_
        refine ht_ci HW (va_runS (own := R_D) (As := [.int a1, .int 22]) (rest := [.int (r9 ^^^ r11)]) ⟨hx, hb, hml, hown, htb⟩ (c_JI_rotateRight l g w a1 (22 : Int32)) (va_cwS 2 htb (ht_gs wd_242 wd_243 wd_5 g_JI_rotateRight) rfl rfl rfl (by decide +kernel) ⟨Nat.le_of_ble_eq_true rfl, Nat.le_of_ble_eq_true rfl⟩) (HW.preS _) rfl rfl hl.1 rfl (lv_room (Nat.le_of_ble_eq_true rfl)) d_D_mix_113 ⟨Nat.le_of_ble_eq_true rfl, Nat.le_of_ble_eq_true rfl⟩) (fun r13 w12 H locs pw12 HW => ?_)
        obtain ⟨er13, ew12⟩ := pw12
        subst ew12
        refine lv_ixor hx hb d_D_mix_116 ?_
        refine lv_topi (fun x14 ex14 => ?_)
        refine lv_istore (lv' := [(11, .int x14), (10, .int x7), (0, .ref dg), (1, .int a1), (2, .int a2), (3, .int a3), (4, .int a4), (5, .int a5), (6, .int a6), (7, .int a7), (8, .int a8), (9, .int t)]) hx hb d_D_mix_117 hl (by decide) rfl (fun ls hl => ?_)
        refine lv_iload hx hb d_D_mix_119 (lv_at hl 10 rfl) ?_
        refine lv_iload hx hb d_D_mix_121 (lv_at hl 1 rfl) ?_
        refine lv_iadd hx hb d_D_mix_123 ?_
        refine lv_iload hx hb d_D_mix_124 (lv_at hl 7 rfl) ?_
        refine lv_iload hx hb d_D_mix_126 (lv_at hl 8 rfl) ?_
        refine lv_iand hx hb d_D_mix_128 ?_
        refine lv_iload hx hb d_D_mix_129 (lv_at hl 7 rfl) ?_
        refine lv_iconst (v := -1) hx hb d_D_mix_131 (by decide) ?_
        refine lv_ixor hx hb d_D_mix_132 ?_
        refine lv_iload hx hb d_D_mix_133 (lv_at hl 9 rfl) ?_
        refine lv_iand hx hb d_D_mix_135 ?_
        refine lv_ixor hx hb d_D_mix_136 ?_
        refine lv_iadd hx hb d_D_mix_137 ?_
        refine ht_gets hx hb HW.2.2.1.2.2.1 HW hown (htb _ wd_249) (fun _ h9 => h9) d_D_mix_138 ?_
        refine lv_iload hx hb d_D_mix_141 (lv_at hl 11 rfl) ?_
        refine va_ti (v := .int (ht_kt t.toNatClampNeg)) hx hb HW.2.2.1.2.2.1.2 HW.2.2.2.2.2 (by rw [et]; exact vp_in_nI (by omega) (by omega)) rfl d_D_mix_143 ?_
        refine lv_topi (fun x15 ex15 => ?_)
        have ex15 : x15 = ht_kt k := by rw [ex15, et, nI_clamp (by omega)]
        refine lv_iadd hx hb d_D_mix_144 ?_
        refine lv_aload_n hx hb d_D_mix_145 rfl (lv_at hl 2 rfl) ?_
        refine ht_get (C := R_D) (T := F_D) (N := 3) (v := .ref wa) hx hb htb i_D hown HW h_dg rfl 1 (by decide) (htb _ wd_27) (fun _ h9 => h9) rfl d_D_mix_146 ?_
        refine lv_iload hx hb d_D_mix_149 (lv_at hl 11 rfl) ?_
        refine ht_iald hx hb HW h_wa (by rw [et]; exact vp_in_nI (by omega) (by omega)) d_D_mix_151 ?_
        refine lv_topi (fun x16 ex16 => ?_)
        have ex16 : x16 = wf k := by rw [ex16, et, nI_clamp (by omega)]
        refine lv_iadd hx hb d_D_mix_152 ?_
        refine lv_topi (fun x17 ex17 => ?_)
        refine lv_istore (lv' := [(12, .int x17), (11, .int x14), (10, .int x7), (0, .ref dg), (1, .int a1), (2, .int a2), (3, .int a3), (4, .int a4), (5, .int a5), (6, .int a6), (7, .int a7), (8, .int a8), (9, .int t)]) hx hb d_D_mix_153 hl (by decide) rfl (fun ls hl => ?_)
        refine lv_iload hx hb d_D_mix_155 (lv_at hl 1 rfl) ?_
        refine lv_iload_n hx hb d_D_mix_157 rfl (lv_at hl 4 rfl) ?_
        refine lv_iload_n hx hb d_D_mix_158 rfl (lv_at hl 5 rfl) ?_
        refine lv_iand hx hb d_D_mix_159 ?_
        refine lv_iload_n hx hb d_D_mix_160 rfl (lv_at hl 4 rfl) ?_
        refine lv_iload_n hx hb d_D_mix_161 rfl (lv_at hl 6 rfl) ?_
        refine lv_iand hx hb d_D_mix_162 ?_
        refine lv_ixor hx hb d_D_mix_163 ?_
        refine lv_iload_n hx hb d_D_mix_164 rfl (lv_at hl 5 rfl) ?_
        refine lv_iload_n hx hb d_D_mix_165 rfl (lv_at hl 6 rfl) ?_
        refine lv_iand hx hb d_D_mix_166 ?_
        refine lv_ixor hx hb d_D_mix_167 ?_
        refine lv_iadd hx hb d_D_mix_168 ?_
        refine lv_topi (fun x18 ex18 => ?_)
        refine lv_istore (lv' := [(13, .int x18), (12, .int x17), (11, .int x14), (10, .int x7), (0, .ref dg), (1, .int a1), (2, .int a2), (3, .int a3), (4, .int a4), (5, .int a5), (6, .int a6), (7, .int a7), (8, .int a8), (9, .int t)]) hx hb d_D_mix_169 hl (by decide) rfl (fun ls hl => ?_)
        refine lv_iload hx hb d_D_mix_171 (lv_at hl 11 rfl) ?_
        refine lv_istore (lv' := [(8, .int a7), (13, .int x18), (12, .int x17), (11, .int x14), (10, .int x7), (0, .ref dg), (1, .int a1), (2, .int a2), (3, .int a3), (4, .int a4), (5, .int a5), (6, .int a6), (7, .int a7), (9, .int t)]) hx hb d_D_mix_173 hl (by decide) rfl (fun ls hl => ?_)
        refine lv_iload hx hb d_D_mix_175 (lv_at hl 11 rfl) ?_
        refine lv_istore (lv' := [(7, .int a6), (8, .int a7), (13, .int x18), (12, .int x17), (11, .int x14), (10, .int x7), (0, .ref dg), (1, .int a1), (2, .int a2), (3, .int a3), (4, .int a4), (5, .int a5), (6, .int a6), (9, .int t)]) hx hb d_D_mix_177 hl (by decide) rfl (fun ls hl => ?_)
        refine lv_iload hx hb d_D_mix_179 (lv_at hl 11 rfl) ?_
        refine lv_istore (lv' := [(6, .int a5), (7, .int a6), (8, .int a7), (13, .int x18), (12, .int x17), (11, .int x14), (10, .int x7), (0, .ref dg), (1, .int a1), (2, .int a2), (3, .int a3), (4, .int a4), (5, .int a5), (9, .int t)]) hx hb d_D_mix_181 hl (by decide) rfl (fun ls hl => ?_)
        refine lv_iload hx hb d_D_mix_183 (lv_at hl 11 rfl) ?_
        refine lv_iload hx hb d_D_mix_185 (lv_at hl 4 rfl) ?_
        refine lv_iadd hx hb d_D_mix_187 ?_
        refine lv_topi (fun x19 ex19 => ?_)
        refine lv_istore (lv' := [(5, .int x19), (6, .int a5), (7, .int a6), (8, .int a7), (13, .int x18), (12, .int x17), (11, .int x14), (10, .int x7), (0, .ref dg), (1, .int a1), (2, .int a2), (3, .int a3), (4, .int a4), (9, .int t)]) hx hb d_D_mix_188 hl (by decide) rfl (fun ls hl => ?_)
        refine lv_iload_n hx hb d_D_mix_190 rfl (lv_at hl 11 rfl) ?_
        refine lv_istore (lv' := [(4, .int a3), (5, .int x19), (6, .int a5), (7, .int a6), (8, .int a7), (13, .int x18), (12, .int x17), (11, .int x14), (10, .int x7), (0, .ref dg), (1, .int a1), (2, .int a2), (3, .int a3), (9, .int t)]) hx hb d_D_mix_191 hl (by decide) rfl (fun ls hl => ?_)
        refine lv_iload_n hx hb d_D_mix_193 rfl (lv_at hl 11 rfl) ?_
        refine lv_istore_n (lv' := [(3, .int a2), (4, .int a3), (5, .int x19), (6, .int a5), (7, .int a6), (8, .int a7), (13, .int x18), (12, .int x17), (11, .int x14), (10, .int x7), (0, .ref dg), (1, .int a1), (2, .int a2), (9, .int t)]) hx hb d_D_mix_194 rfl hl (by decide) rfl (fun ls hl => ?_)
        refine lv_iload_n hx hb d_D_mix_195 rfl (lv_at hl 11 rfl) ?_
        refine lv_istore_n (lv' := [(2, .int a1), (3, .int a2), (4, .int a3), (5, .int x19), (6, .int a5), (7, .int a6), (8, .int a7), (13, .int x18), (12, .int x17), (11, .int x14), (10, .int x7), (0, .ref dg), (1, .int a1), (9, .int t)]) hx hb d_D_mix_196 rfl hl (by decide) rfl (fun ls hl => ?_)
        refine lv_iload hx hb d_D_mix_197 (lv_at hl 8 rfl) ?_
        refine lv_iload hx hb d_D_mix_199 (lv_at hl 7 rfl) ?_
        refine lv_iadd hx hb d_D_mix_201 ?_
        refine lv_topi (fun x20 ex20 => ?_)
        refine lv_istore_n (lv' := [(1, .int x20), (2, .int a1), (3, .int a2), (4, .int a3), (5, .int x19), (6, .int a5), (7, .int a6), (8, .int a7), (13, .int x18), (12, .int x17), (11, .int x14), (10, .int x7), (0, .ref dg), (9, .int t)]) hx hb d_D_mix_202 rfl hl (by decide) rfl (fun ls hl => ?_)
        obtain ⟨t2, et2⟩ : ∃ y : Int32, y = t + 1 := ⟨_, rfl⟩
        refine lv_iinc (v := t2) (lv' := [(9, .int t2), (1, .int x20), (2, .int a1), (3, .int a2), (4, .int a3), (5, .int x19), (6, .int a5), (7, .int a6), (8, .int a7), (13, .int x18), (12, .int x17), (11, .int x14), (10, .int x7), (0, .ref dg)]) hx hb d_D_mix_203 hl (k := 13) rfl (by rw [et2]; rfl) (by decide) rfl (fun ls hl => ?_)
        refine lv_goto (tgt := 66) hx hb d_D_mix_206 (by decide) ?_
        refine ih (k + 1) (by omega) x20 a1 a2 a3 x19 a5 a6 a7 ?_ _ _ _ t2 (by rw [et2, et, nI_1]) HW (lv_sub hl [13, 1, 2, 3, 4, 5, 6, 7, 8, 0] rfl)
        show _ = ht_r1 (ht_k64.getD k 0) (wf k) (ht_rn wf (ht_o8 ws) k)
        rw [← ha]
        simp only [er2, er4, er6, ex7, er9, er11, er13, ex14, ex15, ex16, ex17, ex18, ex19, ex20]
        rfl
  obtain ⟨h_dg, h_wd, h_wa⟩ := id hD
  refine lv_aload_n hx hb d_D_mix_0 rfl (lv_at hl 0 rfl) ?_
  refine ht_get (C := R_D) (T := F_D) (N := 3) (v := .ref wd) hx hb htb i_D hown HW h_dg rfl 0 (by decide) (htb _ wd_26) (fun _ h9 => h9) rfl d_D_mix_1 ?_
  refine lv_iconst (v := 0) hx hb d_D_mix_4 (by decide) ?_
  refine ht_iald hx hb HW h_wd (by unfold vp_in; decide) d_D_mix_5 ?_
  refine lv_topi (fun x1 ex1 => ?_)
  have ex1 : x1 = ws 0 := ex1
  refine lv_istore_n (lv' := [(1, .int x1), (0, .ref dg)]) hx hb d_D_mix_6 rfl hl (by decide) rfl (fun ls hl => ?_)
  refine lv_aload_n hx hb d_D_mix_7 rfl (lv_at hl 1 rfl) ?_
  refine ht_get (C := R_D) (T := F_D) (N := 3) (v := .ref wd) hx hb htb i_D hown HW h_dg rfl 0 (by decide) (htb _ wd_26) (fun _ h9 => h9) rfl d_D_mix_8 ?_
  refine lv_iconst (v := 1) hx hb d_D_mix_11 (by decide) ?_
  refine ht_iald hx hb HW h_wd (by unfold vp_in; decide) d_D_mix_12 ?_
  refine lv_topi (fun x2 ex2 => ?_)
  have ex2 : x2 = ws 1 := ex2
  refine lv_istore_n (lv' := [(2, .int x2), (1, .int x1), (0, .ref dg)]) hx hb d_D_mix_13 rfl hl (by decide) rfl (fun ls hl => ?_)
  refine lv_aload_n hx hb d_D_mix_14 rfl (lv_at hl 2 rfl) ?_
  refine ht_get (C := R_D) (T := F_D) (N := 3) (v := .ref wd) hx hb htb i_D hown HW h_dg rfl 0 (by decide) (htb _ wd_26) (fun _ h9 => h9) rfl d_D_mix_15 ?_
  refine lv_iconst (v := 2) hx hb d_D_mix_18 (by decide) ?_
  refine ht_iald hx hb HW h_wd (by unfold vp_in; decide) d_D_mix_19 ?_
  refine lv_topi (fun x3 ex3 => ?_)
  have ex3 : x3 = ws 2 := ex3
  refine lv_istore_n (lv' := [(3, .int x3), (2, .int x2), (1, .int x1), (0, .ref dg)]) hx hb d_D_mix_20 rfl hl (by decide) rfl (fun ls hl => ?_)
  refine lv_aload_n hx hb d_D_mix_21 rfl (lv_at hl 3 rfl) ?_
  refine ht_get (C := R_D) (T := F_D) (N := 3) (v := .ref wd) hx hb htb i_D hown HW h_dg rfl 0 (by decide) (htb _ wd_26) (fun _ h9 => h9) rfl d_D_mix_22 ?_
  refine lv_iconst (v := 3) hx hb d_D_mix_25 (by decide) ?_
  refine ht_iald hx hb HW h_wd (by unfold vp_in; decide) d_D_mix_26 ?_
  refine lv_topi (fun x4 ex4 => ?_)
  have ex4 : x4 = ws 3 := ex4
  refine lv_istore (lv' := [(4, .int x4), (3, .int x3), (2, .int x2), (1, .int x1), (0, .ref dg)]) hx hb d_D_mix_27 hl (by decide) rfl (fun ls hl => ?_)
  refine lv_aload_n hx hb d_D_mix_29 rfl (lv_at hl 4 rfl) ?_
  refine ht_get (C := R_D) (T := F_D) (N := 3) (v := .ref wd) hx hb htb i_D hown HW h_dg rfl 0 (by decide) (htb _ wd_26) (fun _ h9 => h9) rfl d_D_mix_30 ?_
  refine lv_iconst (v := 4) hx hb d_D_mix_33 (by decide) ?_
  refine ht_iald hx hb HW h_wd (by unfold vp_in; decide) d_D_mix_34 ?_
  refine lv_topi (fun x5 ex5 => ?_)
  have ex5 : x5 = ws 4 := ex5
  refine lv_istore (lv' := [(5, .int x5), (4, .int x4), (3, .int x3), (2, .int x2), (1, .int x1), (0, .ref dg)]) hx hb d_D_mix_35 hl (by decide) rfl (fun ls hl => ?_)
  refine lv_aload_n hx hb d_D_mix_37 rfl (lv_at hl 5 rfl) ?_
  refine ht_get (C := R_D) (T := F_D) (N := 3) (v := .ref wd) hx hb htb i_D hown HW h_dg rfl 0 (by decide) (htb _ wd_26) (fun _ h9 => h9) rfl d_D_mix_38 ?_
  refine lv_iconst (v := 5) hx hb d_D_mix_41 (by decide) ?_
  refine ht_iald hx hb HW h_wd (by unfold vp_in; decide) d_D_mix_42 ?_
  refine lv_topi (fun x6 ex6 => ?_)
  have ex6 : x6 = ws 5 := ex6
  refine lv_istore (lv' := [(6, .int x6), (5, .int x5), (4, .int x4), (3, .int x3), (2, .int x2), (1, .int x1), (0, .ref dg)]) hx hb d_D_mix_43 hl (by decide) rfl (fun ls hl => ?_)
  refine lv_aload_n hx hb d_D_mix_45 rfl (lv_at hl 6 rfl) ?_
  refine ht_get (C := R_D) (T := F_D) (N := 3) (v := .ref wd) hx hb htb i_D hown HW h_dg rfl 0 (by decide) (htb _ wd_26) (fun _ h9 => h9) rfl d_D_mix_46 ?_
  refine lv_bipush (v := 6) hx hb d_D_mix_49 (by decide) ?_
  refine ht_iald hx hb HW h_wd (by unfold vp_in; decide) d_D_mix_51 ?_
  refine lv_topi (fun x7 ex7 => ?_)
  have ex7 : x7 = ws 6 := ex7
  refine lv_istore (lv' := [(7, .int x7), (6, .int x6), (5, .int x5), (4, .int x4), (3, .int x3), (2, .int x2), (1, .int x1), (0, .ref dg)]) hx hb d_D_mix_52 hl (by decide) rfl (fun ls hl => ?_)
  refine lv_aload_n hx hb d_D_mix_54 rfl (lv_at hl 7 rfl) ?_
  refine ht_get (C := R_D) (T := F_D) (N := 3) (v := .ref wd) hx hb htb i_D hown HW h_dg rfl 0 (by decide) (htb _ wd_26) (fun _ h9 => h9) rfl d_D_mix_55 ?_
  refine lv_bipush (v := 7) hx hb d_D_mix_58 (by decide) ?_
  refine ht_iald hx hb HW h_wd (by unfold vp_in; decide) d_D_mix_60 ?_
  refine lv_topi (fun x8 ex8 => ?_)
  have ex8 : x8 = ws 7 := ex8
  refine lv_istore (lv' := [(8, .int x8), (7, .int x7), (6, .int x6), (5, .int x5), (4, .int x4), (3, .int x3), (2, .int x2), (1, .int x1), (0, .ref dg)]) hx hb d_D_mix_61 hl (by decide) rfl (fun ls hl => ?_)
  refine lv_iconst (v := 0) hx hb d_D_mix_63 (by decide) ?_
  refine lv_istore (lv' := [(9, .int 0), (8, .int x8), (7, .int x7), (6, .int x6), (5, .int x5), (4, .int x4), (3, .int x3), (2, .int x2), (1, .int x1), (0, .ref dg)]) hx hb d_D_mix_64 hl (by decide) rfl (fun ls hl => ?_)
  exact loop 64 0 rfl x1 x2 x3 x4 x5 x6 x7 x8 (by simp only [ex1, ex2, ex3, ex4, ex5, ex6, ex7, ex8]; rfl) _ _ _ 0 rfl HW (lv_sub hl [9, 8, 7, 6, 5, 4, 3, 2, 1, 0] rfl)
