set_option maxHeartbeats 4000000 in
set_option maxRecDepth 100000 in
theorem c_X_prove (l : Launch) (g : ht_G) (w : ht_W) {X : Nat → Nat} {tg : Nat → Nat × Nat} {k : ht_K} {N : ht_N} {A : ht_AA} {F : List Nat} {top : Option Nat} {L : ht_L} {dt : ht_D} {opf : Nat → Option Nat} {sbf lsf enf : Nat → Int64} {ei : Int32} (hR : ht_Rp ht_dgf g w X tg k N A F top L dt opf sbf lsf enf ei) (hcap : L.length ≤ 512) : Met l y_X_prove ws_X_prove ({ frames := 7, cells := 0, slots := 0, locals := 220 } : Room) (va_Pc [.ref (X 0)] (ht_WS g w)) (ht_Qi g (fun r u => ∃ (N' : ht_N) (dt' : ht_D) (opf' : Nat → Option Nat) (sbf' lsf' enf' : Nat → Int64) (ei' : Int32) (D : Nat), ht_Rp ht_dgf g u X tg k N' A F top L dt' opf' sbf' lsf' enf' ei' ∧ ht_fr (fun b => (tg b).1 ≠ 0) w u ∧ ht_pv L k D sbf' enf' ei' ∧ r = nI D)) 0 0 (ht_A g) := by
  refine Met.ofW (cc := b_X_prove) (maxL := 7) (ret := (some .int)) (by decide) rfl ?_
  intro p e s m args below meth c s₁ BB hml hv
  obtain ⟨rfl, HW⟩ := hv
  have HW := ht_I.start HW
  have hx := BB.exec
  have hb := BB.bytes
  have hr := BB.returns
  have hts := atoms_spec (ws := ws_X_prove) BB.pre
  have htb : ∀ w ∈ bg, w.before _ s = true := fun w h => hts w (List.mem_cons_of_mem _ h)
  have hown : s.vm.findClass R_X = some m.cls := findClass_of_methodNamed BB.named
  have hlocks := BB.notSynchronized
  have hl := lv_entry ([.ref (X 0)]) (n := 7) (Nat.le_of_ble_eq_true rfl)
  rw [lg_entry_eq]
  generalize (lg_sl ([.ref (X 0)]) ++ List.replicate (7 - (lg_sl ([.ref (X 0)])).length) Slot.unset).toArray = ls at hl ⊢
  have hl : lv_has ls 7 [(0, .ref (X 0))] := hl
  obtain ⟨hX, hK, hDg, hOp, hSb, hLs, hEn, hN, hT, hF, htg, hlen⟩ := id hR
  unfold ht_xo at hX
  have loop : ∀ (N : ht_N) (dt : ht_D) (opf : Nat → Option Nat) (f3 : Nat → Int64) (b : Nat) (vb : ht_K) (pv : Int32), b ∈ F → ht_rp (N b) = .inl vb → (ht_rk (N b), vb) ∈ L → (∀ q ∈ L, ht_part k q.1 ≤ ht_part k (ht_rk (N b))) → (∀ j, j < 8 → f3 j = 0) → pv = nI (ht_part k (ht_rk (N b))) → ∀ (n a lv : Nat) (f : Nat → Int64) (u : ht_W), ht_Rp ht_dgf g u X tg k N A F top L dt opf f lsf f3 0 → ht_fr (fun b => (tg b).1 ≠ 0) w u → ht_pi N F L k (ht_rk (N b)) a lv f → ht_rf (N a) = true → 256 ≤ ht_rl (N a) + n → ∀ (H : Heap) (locs : List Loc) (ls : Array Slot) (lvv : Int32), lvv = nI lv → ht_I g s u H locs → lv_has ls 7 [(0, .ref (X 0)), (1, .ref b), (2, .int pv), (3, .int lvv), (4, .ref a)] → W p l e (headSpec ws_X_prove ({ frames := 7, cells := 0, slots := 0, locals := 220 } : Room)).room s m ([.ref (X 0)] : List Value).toArray below meth c H locs 0 0 (MQ below (ht_Qi g (fun r u => ∃ (N' : ht_N) (dt' : ht_D) (opf' : Nat → Option Nat) (sbf' lsf' enf' : Nat → Int64) (ei' : Int32) (D : Nat), ht_Rp ht_dgf g u X tg k N' A F top L dt' opf' sbf' lsf' enf' ei' ∧ ht_fr (fun b => (tg b).1 ≠ 0) w u ∧ ht_pv L k D sbf' enf' ei' ∧ r = nI D)) ([.ref (X 0)] : List Value).toArray s 0 0 (ht_A g)) (F0 m 56 ls []) := by
      intro N dt opf f3 b vb pv hbF hpb hbL hmax h3 epv n
      induction n with
      | zero =>
        intro a lv f u hRi hfri hpi hfra hn H locs ls lvv elv HW hl
        cases hp : ht_rp (N a) with
        | inl v =>
          obtain ⟨hX, hK, hDg, hOp, hSb, hLs, hEn, hN, hT, hF, htg, hlen⟩ := id hRi
          unfold ht_xo at hX
          have haF := hpi.1
          have hlvl := hpi.2.1
          have hal := hT.lv haF
          have hla := hN.lf haF hp
          have hbL := hN.lf hbF hpb
          refine lv_aload hx hb d_X_prove_56 (lv_at hl 4 rfl) ?_
          refine va_instNo hx hb hown (htb _ wd_87) HW.2.2.1.2.2.2.2.2.2.2.1 (HW.recv hla (q := (R_L, F_L, 5)) rfl) d_X_prove_58 ?_
          refine lv_if_eq (tgt := 141) hx hb d_X_prove_61 (by decide) (fun c61 => ?_) (fun c61 => ?_)
          · refine lv_aload hx hb d_X_prove_141 (lv_at hl 4 rfl) ?_
            refine va_instNo hx hb hown (htb _ wd_87) HW.2.2.1.2.2.2.2.2.2.2.1 (HW.recv hla (q := (R_L, F_L, 5)) rfl) d_X_prove_143 ?_
            refine lv_if_eq (tgt := 182) hx hb d_X_prove_146 (by decide) (fun c146 => ?_) (fun c146 => ?_)
            · refine lv_aload_n hx hb d_X_prove_182 rfl (lv_at hl 0 rfl) ?_
              refine lv_aload_n hx hb d_X_prove_183 rfl (lv_at hl 1 rfl) ?_
              refine ht_cv HW (va_runV (own := R_X) (C := R_X) (As := [.ref b]) (rest := []) ⟨hx, hb, hml, hown, htb⟩ (c_X_keepEnd l g u hX hEn hbL (hN b hbF).2.1 ((hN b hbF).2.2.2 vb hpb) (ht_tne ((htg.2 b hbF).2.2.2 vb hpb) (htg.1 8 (by decide)) (fun z9 => by cases z9))) (cwV 1 htb (ht_gv wd_279 wd_281 sl_10 wd_1 g_X_keepEnd) rfl rfl rfl (by decide +kernel) ⟨Nat.le_of_ble_eq_true rfl, Nat.le_of_ble_eq_true rfl⟩) (HW.preV hX rfl _) rfl rfl hl.1 rfl (lv_room (Nat.le_of_ble_eq_true rfl)) d_X_prove_184 ⟨Nat.le_of_ble_eq_true rfl, Nat.le_of_ble_eq_true rfl⟩) (fun u1 H locs ph HW => ?_)
              have hR2 := hRi.en (f := va_cpy (ht_kf vb) (va_cpy (ht_kf (ht_rk (N b))) f3 0 0 4) 0 4 4)
              rw [← ph] at hR2
              obtain ⟨hX2, -⟩ := id hR2
              unfold ht_xo at hX2
              refine lv_aload_n hx hb d_X_prove_187 rfl (lv_at hl 0 rfl) ?_
              refine lv_iload_n hx hb d_X_prove_188 rfl (lv_at hl 2 rfl) ?_
              refine lv_sipush (v := 256) hx hb d_X_prove_189 (by decide) ?_
              refine lv_icmp_ne (tgt := 199) hx hb d_X_prove_192 (by decide) (fun c192 => ?_) (fun c192 => ?_)
              · have hei : (ht_part k (ht_rk (N b)) = 256 ∧ (2 : Int32) = 1) ∨ (ht_part k (ht_rk (N b)) ≠ 256 ∧ (2 : Int32) = 2) := Or.inr ⟨fun z9 => c192 (by rw [epv, z9]; rfl), rfl⟩
                refine lv_iconst (v := 2) hx hb d_X_prove_199 (by decide) ?_
                refine ht_put (C := R_X) (T := F_X) (N := 9) (v := .int 2) (ty := .int) hx hb htb i_X t_X t_X_ok n_X hown HW hX2 rfl 8 (by decide) (htb _ wd_48) (fun _ h9 => h9) rfl (by decide +kernel) rfl rfl (Nat.le_of_ble_eq_true rfl) d_X_prove_200 (fun H locs HW => ?_)
                obtain ⟨u2, hu2⟩ : ∃ zW : ht_W, zW = ht_up u1 (X 0) (.inr (0, [.ref (X 1), .ref (X 2), .ref (X 5), va_rf top, .int (nI L.length), .ref (X 6), .ref (X 7), .ref (X 8), .int 2]) : va_E) := ⟨_, rfl⟩
                have HW : ht_I g s u2 H locs := by rw [hu2]; exact HW
                have hX2 : ht_at u2 (X 0) (.inr (0, [.ref (X 1), .ref (X 2), .ref (X 5), va_rf top, .int (nI L.length), .ref (X 6), .ref (X 7), .ref (X 8), .int 2]) : va_E) := by rw [hu2]; exact ht_at_self hX2
                refine lv_iload_n hx hb d_X_prove_203 rfl (lv_at hl 3 rfl) ?_
                exact ht_iret hx hb hr hlocks HW ⟨N, dt, opf, f, lsf, _, _, lv, by rw [hu2]; exact hR2.ei, by rw [hu2, ph]; exact (hfri.trans (ht_fr.up (S := fun b => (tg b).1 ≠ 0) (by rw [htg.1 8 (by decide)]; decide))).trans (ht_fr.up (S := fun b => (tg b).1 ≠ 0) (by rw [htg.1 0 (by decide)]; decide)), ht_pi.leaf hT hpi hbF hp hpb hei ht_cpe, elv⟩ d_X_prove_204
              · have hei : (ht_part k (ht_rk (N b)) = 256 ∧ (1 : Int32) = 1) ∨ (ht_part k (ht_rk (N b)) ≠ 256 ∧ (1 : Int32) = 2) := Or.inl ⟨by
                  rw [epv] at c192
                  exact (nI_eq (by have := ht_part_le k (ht_rk (N b)); omega) (by omega)).mp c192, rfl⟩
                refine lv_iconst (v := 1) hx hb d_X_prove_195 (by decide) ?_
                refine lv_goto (tgt := 200) hx hb d_X_prove_196 (by decide) ?_
                refine ht_put (C := R_X) (T := F_X) (N := 9) (v := .int 1) (ty := .int) hx hb htb i_X t_X t_X_ok n_X hown HW hX2 rfl 8 (by decide) (htb _ wd_48) (fun _ h9 => h9) rfl (by decide +kernel) rfl rfl (Nat.le_of_ble_eq_true rfl) d_X_prove_200 (fun H locs HW => ?_)
                obtain ⟨u3, hu3⟩ : ∃ zW : ht_W, zW = ht_up u1 (X 0) (.inr (0, [.ref (X 1), .ref (X 2), .ref (X 5), va_rf top, .int (nI L.length), .ref (X 6), .ref (X 7), .ref (X 8), .int 1]) : va_E) := ⟨_, rfl⟩
                have HW : ht_I g s u3 H locs := by rw [hu3]; exact HW
                have hX2 : ht_at u3 (X 0) (.inr (0, [.ref (X 1), .ref (X 2), .ref (X 5), va_rf top, .int (nI L.length), .ref (X 6), .ref (X 7), .ref (X 8), .int 1]) : va_E) := by rw [hu3]; exact ht_at_self hX2
                refine lv_iload_n hx hb d_X_prove_203 rfl (lv_at hl 3 rfl) ?_
                exact ht_iret hx hb hr hlocks HW ⟨N, dt, opf, f, lsf, _, _, lv, by rw [hu3]; exact hR2.ei, by rw [hu3, ph]; exact (hfri.trans (ht_fr.up (S := fun b => (tg b).1 ≠ 0) (by rw [htg.1 8 (by decide)]; decide))).trans (ht_fr.up (S := fun b => (tg b).1 ≠ 0) (by rw [htg.1 0 (by decide)]; decide)), ht_pi.leaf hT hpi hbF hp hpb hei ht_cpe, elv⟩ d_X_prove_204
            · exact absurd rfl c146
          · exact absurd rfl c61
        | inr zo =>
          obtain ⟨hX, hK, hDg, hOp, hSb, hLs, hEn, hN, hT, hF, htg, hlen⟩ := id hRi
          unfold ht_xo at hX
          have haF := hpi.1
          have hlvl := hpi.2.1
          have hal := hT.lv haF
          have hla := hN.br haF hp
          have h256 := (hT.half haF hp false).2.1
          omega
      | succ n ih =>
        intro a lv f u hRi hfri hpi hfra hn H locs ls lvv elv HW hl
        cases hp : ht_rp (N a) with
        | inl v =>
          obtain ⟨hX, hK, hDg, hOp, hSb, hLs, hEn, hN, hT, hF, htg, hlen⟩ := id hRi
          unfold ht_xo at hX
          have haF := hpi.1
          have hlvl := hpi.2.1
          have hal := hT.lv haF
          have hla := hN.lf haF hp
          have hbL := hN.lf hbF hpb
          refine lv_aload hx hb d_X_prove_56 (lv_at hl 4 rfl) ?_
          refine va_instNo hx hb hown (htb _ wd_87) HW.2.2.1.2.2.2.2.2.2.2.1 (HW.recv hla (q := (R_L, F_L, 5)) rfl) d_X_prove_58 ?_
          refine lv_if_eq (tgt := 141) hx hb d_X_prove_61 (by decide) (fun c61 => ?_) (fun c61 => ?_)
          · refine lv_aload hx hb d_X_prove_141 (lv_at hl 4 rfl) ?_
            refine va_instNo hx hb hown (htb _ wd_87) HW.2.2.1.2.2.2.2.2.2.2.1 (HW.recv hla (q := (R_L, F_L, 5)) rfl) d_X_prove_143 ?_
            refine lv_if_eq (tgt := 182) hx hb d_X_prove_146 (by decide) (fun c146 => ?_) (fun c146 => ?_)
            · refine lv_aload_n hx hb d_X_prove_182 rfl (lv_at hl 0 rfl) ?_
              refine lv_aload_n hx hb d_X_prove_183 rfl (lv_at hl 1 rfl) ?_
              refine ht_cv HW (va_runV (own := R_X) (C := R_X) (As := [.ref b]) (rest := []) ⟨hx, hb, hml, hown, htb⟩ (c_X_keepEnd l g u hX hEn hbL (hN b hbF).2.1 ((hN b hbF).2.2.2 vb hpb) (ht_tne ((htg.2 b hbF).2.2.2 vb hpb) (htg.1 8 (by decide)) (fun z9 => by cases z9))) (cwV 1 htb (ht_gv wd_279 wd_281 sl_10 wd_1 g_X_keepEnd) rfl rfl rfl (by decide +kernel) ⟨Nat.le_of_ble_eq_true rfl, Nat.le_of_ble_eq_true rfl⟩) (HW.preV hX rfl _) rfl rfl hl.1 rfl (lv_room (Nat.le_of_ble_eq_true rfl)) d_X_prove_184 ⟨Nat.le_of_ble_eq_true rfl, Nat.le_of_ble_eq_true rfl⟩) (fun u1 H locs ph HW => ?_)
              have hR2 := hRi.en (f := va_cpy (ht_kf vb) (va_cpy (ht_kf (ht_rk (N b))) f3 0 0 4) 0 4 4)
              rw [← ph] at hR2
              obtain ⟨hX2, -⟩ := id hR2
              unfold ht_xo at hX2
              refine lv_aload_n hx hb d_X_prove_187 rfl (lv_at hl 0 rfl) ?_
              refine lv_iload_n hx hb d_X_prove_188 rfl (lv_at hl 2 rfl) ?_
              refine lv_sipush (v := 256) hx hb d_X_prove_189 (by decide) ?_
              refine lv_icmp_ne (tgt := 199) hx hb d_X_prove_192 (by decide) (fun c192 => ?_) (fun c192 => ?_)
              · have hei : (ht_part k (ht_rk (N b)) = 256 ∧ (2 : Int32) = 1) ∨ (ht_part k (ht_rk (N b)) ≠ 256 ∧ (2 : Int32) = 2) := Or.inr ⟨fun z9 => c192 (by rw [epv, z9]; rfl), rfl⟩
                refine lv_iconst (v := 2) hx hb d_X_prove_199 (by decide) ?_
                refine ht_put (C := R_X) (T := F_X) (N := 9) (v := .int 2) (ty := .int) hx hb htb i_X t_X t_X_ok n_X hown HW hX2 rfl 8 (by decide) (htb _ wd_48) (fun _ h9 => h9) rfl (by decide +kernel) rfl rfl (Nat.le_of_ble_eq_true rfl) d_X_prove_200 (fun H locs HW => ?_)
                obtain ⟨u2, hu2⟩ : ∃ zW : ht_W, zW = ht_up u1 (X 0) (.inr (0, [.ref (X 1), .ref (X 2), .ref (X 5), va_rf top, .int (nI L.length), .ref (X 6), .ref (X 7), .ref (X 8), .int 2]) : va_E) := ⟨_, rfl⟩
                have HW : ht_I g s u2 H locs := by rw [hu2]; exact HW
                have hX2 : ht_at u2 (X 0) (.inr (0, [.ref (X 1), .ref (X 2), .ref (X 5), va_rf top, .int (nI L.length), .ref (X 6), .ref (X 7), .ref (X 8), .int 2]) : va_E) := by rw [hu2]; exact ht_at_self hX2
                refine lv_iload_n hx hb d_X_prove_203 rfl (lv_at hl 3 rfl) ?_
                exact ht_iret hx hb hr hlocks HW ⟨N, dt, opf, f, lsf, _, _, lv, by rw [hu2]; exact hR2.ei, by rw [hu2, ph]; exact (hfri.trans (ht_fr.up (S := fun b => (tg b).1 ≠ 0) (by rw [htg.1 8 (by decide)]; decide))).trans (ht_fr.up (S := fun b => (tg b).1 ≠ 0) (by rw [htg.1 0 (by decide)]; decide)), ht_pi.leaf hT hpi hbF hp hpb hei ht_cpe, elv⟩ d_X_prove_204
              · have hei : (ht_part k (ht_rk (N b)) = 256 ∧ (1 : Int32) = 1) ∨ (ht_part k (ht_rk (N b)) ≠ 256 ∧ (1 : Int32) = 2) := Or.inl ⟨by
                  rw [epv] at c192
                  exact (nI_eq (by have := ht_part_le k (ht_rk (N b)); omega) (by omega)).mp c192, rfl⟩
                refine lv_iconst (v := 1) hx hb d_X_prove_195 (by decide) ?_
                refine lv_goto (tgt := 200) hx hb d_X_prove_196 (by decide) ?_
                refine ht_put (C := R_X) (T := F_X) (N := 9) (v := .int 1) (ty := .int) hx hb htb i_X t_X t_X_ok n_X hown HW hX2 rfl 8 (by decide) (htb _ wd_48) (fun _ h9 => h9) rfl (by decide +kernel) rfl rfl (Nat.le_of_ble_eq_true rfl) d_X_prove_200 (fun H locs HW => ?_)
                obtain ⟨u3, hu3⟩ : ∃ zW : ht_W, zW = ht_up u1 (X 0) (.inr (0, [.ref (X 1), .ref (X 2), .ref (X 5), va_rf top, .int (nI L.length), .ref (X 6), .ref (X 7), .ref (X 8), .int 1]) : va_E) := ⟨_, rfl⟩
                have HW : ht_I g s u3 H locs := by rw [hu3]; exact HW
                have hX2 : ht_at u3 (X 0) (.inr (0, [.ref (X 1), .ref (X 2), .ref (X 5), va_rf top, .int (nI L.length), .ref (X 6), .ref (X 7), .ref (X 8), .int 1]) : va_E) := by rw [hu3]; exact ht_at_self hX2
                refine lv_iload_n hx hb d_X_prove_203 rfl (lv_at hl 3 rfl) ?_
                exact ht_iret hx hb hr hlocks HW ⟨N, dt, opf, f, lsf, _, _, lv, by rw [hu3]; exact hR2.ei, by rw [hu3, ph]; exact (hfri.trans (ht_fr.up (S := fun b => (tg b).1 ≠ 0) (by rw [htg.1 8 (by decide)]; decide))).trans (ht_fr.up (S := fun b => (tg b).1 ≠ 0) (by rw [htg.1 0 (by decide)]; decide)), ht_pi.leaf hT hpi hbF hp hpb hei ht_cpe, elv⟩ d_X_prove_204
            · exact absurd rfl c146
          · exact absurd rfl c61
        | inr zo =>
          obtain ⟨hX, hK, hDg, hOp, hSb, hLs, hEn, hN, hT, hF, htg, hlen⟩ := id hRi
          unfold ht_xo at hX
          have haF := hpi.1
          have hlvl := hpi.2.1
          have hal := hT.lv haF
          have hla := hN.br haF hp
          have h256 := (hT.half haF hp false).2.1
          refine lv_aload hx hb d_X_prove_56 (lv_at hl 4 rfl) ?_
          refine va_instS hx hb hown (htb _ wd_87) (HW.2.1.1 3 _ rfl).2 (HW.recv hla (q := (R_B, F_B, 6)) rfl) d_X_prove_58 ?_
          refine lv_if_eq (tgt := 141) hx hb d_X_prove_61 (by decide) (fun c61 => ?_) (fun c61 => ?_)
          · exact absurd c61 (by decide)
          · refine lv_aload hx hb d_X_prove_64 (lv_at hl 4 rfl) ?_
            refine va_castS hx hb hown (htb _ wd_87) (HW.2.1.1 3 _ rfl).2 (HW.recv hla (q := (R_B, F_B, 6)) rfl) d_X_prove_66 ?_
            refine lv_astore (lv' := [(5, .ref a), (0, .ref (X 0)), (1, .ref b), (2, .int pv), (3, .int lvv), (4, .ref a)]) hx hb d_X_prove_69 hl (by decide) rfl (fun ls hl => ?_)
            refine lv_aload hx hb d_X_prove_71 (lv_at hl 0 rfl) ?_
            refine ht_get (C := R_B) (T := F_B) (N := 6) (v := .int (nI (ht_rl (N a)))) hx hb htb i_B hown HW hla rfl 1 (by decide) (htb _ wd_133) (fun x h9 => u_same (htb _ wd_134) x h9) rfl d_X_prove_73 ?_
            refine lv_iload_n hx hb d_X_prove_76 rfl (lv_at hl 3 rfl) ?_
            refine lv_icmp_ge (tgt := 141) hx hb d_X_prove_77 (by decide) (fun c77 => ?_) (fun c77 => ?_)
            · have hge : ht_part k (ht_rk (N b)) ≤ ht_rl (N a) := Nat.not_lt.mp (fun z9 => nI_ge z9 (by have := ht_part_le k (ht_rk (N b)); omega) (show nI (ht_part k (ht_rk (N b))) ≤ nI (ht_rl (N a)) by rw [epv] at c77; exact c77))
              have hplt := hpi.lt hT hmax hp hge
              refine lv_aload hx hb d_X_prove_141 (lv_at hl 5 rfl) ?_
              refine va_instS hx hb hown (htb _ wd_87) (HW.2.1.1 3 _ rfl).2 (HW.recv hla (q := (R_B, F_B, 6)) rfl) d_X_prove_143 ?_
              refine lv_if_eq (tgt := 182) hx hb d_X_prove_146 (by decide) (fun c146 => ?_) (fun c146 => ?_)
              · exact absurd c146 (by decide)
              · refine lv_aload hx hb d_X_prove_149 (lv_at hl 5 rfl) ?_
                refine va_castS hx hb hown (htb _ wd_87) (HW.2.1.1 3 _ rfl).2 (HW.recv hla (q := (R_B, F_B, 6)) rfl) d_X_prove_151 ?_
                refine lv_astore (lv' := [(5, .ref a), (0, .ref (X 0)), (1, .ref b), (2, .int pv), (3, .int lvv), (4, .ref a)]) hx hb d_X_prove_154 hl (by decide) rfl (fun ls hl => ?_)
                refine lv_aload_n hx hb d_X_prove_156 rfl (lv_at hl 1 rfl) ?_
                refine lv_aload hx hb d_X_prove_157 (lv_at hl 0 rfl) ?_
                refine lv_iload_n hx hb d_X_prove_159 rfl (lv_at hl 3 rfl) ?_
                refine lv_iconst (v := 1) hx hb d_X_prove_160 (by decide) ?_
                refine lv_iadd hx hb d_X_prove_161 ?_
                refine lv_topi (fun lv1 elv1 => ?_)
                have hlv1 : lv1 = nI (ht_part k (ht_rk (N b)) + 1) := by rw [elv1, epv, nI_1]
                refine lv_aload_n hx hb d_X_prove_162 rfl (lv_at hl 1 rfl) ?_
                refine ht_get (C := R_X) (T := F_X) (N := 9) (v := .ref (X 7)) hx hb htb i_X hown HW hX rfl 6 (by decide) (htb _ wd_46) (fun _ h9 => h9) rfl d_X_prove_163 ?_
                refine ht_cv HW (va_runV (own := R_X) (C := R_X) (As := [.ref a, .int lv1, .ref (X 7)]) (rest := []) ⟨hx, hb, hml, hown, htb⟩ (c_X_hashAt_B l g u hX hDg hN hT haF hLs (ht_tne (htg.2 a haF).2.1 (htg.1 7 (by decide)) (fun z9 => by cases z9)) hp (ht_part k (ht_rk (N b)) + 1) (by omega) lv1 hlv1) (cwV 3 htb (ht_gv wd_217 wd_219 sl_6 wd_1 g_X_hashAt) rfl rfl rfl (by decide +kernel) ⟨Nat.le_of_ble_eq_true rfl, Nat.le_of_ble_eq_true rfl⟩) (HW.preV hX rfl _) rfl rfl hl.1 rfl (lv_room (Nat.le_of_ble_eq_true rfl)) d_X_prove_166 ⟨Nat.le_of_ble_eq_true rfl, Nat.le_of_ble_eq_true rfl⟩) (fun u1 H locs ph HW => ?_)
                obtain ⟨dt1, eu1⟩ := ph
                have hHV := hT.hash_cv haF hp (hz := ht_rh (N zo.1)) (ho := ht_rh (N zo.2)) ((hF.2 a haF zo hp false).1 ((hF.2 a haF zo hp false).2 hfra)) ((hF.2 a haF zo hp true).1 ((hF.2 a haF zo hp true).2 hfra)) (ht_rl (N a) - (ht_part k (ht_rk (N b)) + 1)) (Nat.sub_le _ _)
                rw [show ht_rl (N a) - (ht_rl (N a) - (ht_part k (ht_rk (N b)) + 1)) = ht_part k (ht_rk (N b)) + 1 by omega] at hHV
                have hR2 := (hRi.dw (dt' := dt1)).ls (f := ht_kf (ht_chn (ht_rk (N a)) (ht_rl (N a)) (ht_dgf 1 (ht_rh (N zo.1)) (ht_rh (N zo.2))) (ht_rl (N a) - (ht_part k (ht_rk (N b)) + 1))))
                rw [← eu1] at hR2
                obtain ⟨hX2, -, -, -, hSb2, hLs2, -⟩ := id hR2
                unfold ht_xo at hX2
                refine lv_aload_n hx hb d_X_prove_169 rfl (lv_at hl 1 rfl) ?_
                refine lv_iload_n hx hb d_X_prove_170 rfl (lv_at hl 3 rfl) ?_
                refine lv_aload_n hx hb d_X_prove_171 rfl (lv_at hl 1 rfl) ?_
                refine ht_get (C := R_X) (T := F_X) (N := 9) (v := .ref (X 7)) hx hb htb i_X hown HW hX2 rfl 6 (by decide) (htb _ wd_46) (fun _ h9 => h9) rfl d_X_prove_172 ?_
                refine ht_cv HW (va_runV (own := R_X) (C := R_X) (As := [.int pv, .ref (X 7)]) (rest := []) ⟨hx, hb, hml, hown, htb⟩ (c_X_keepSibling l g u1 hX2 hSb2 hLs2 (ht_part k (ht_rk (N b))) (by omega) pv epv) (cwV 2 htb (ht_gv wd_274 wd_276 sl_9 wd_1 g_X_keepSibling) rfl rfl rfl (by decide +kernel) ⟨Nat.le_of_ble_eq_true rfl, Nat.le_of_ble_eq_true rfl⟩) (HW.preV hX2 rfl _) rfl rfl hl.1 rfl (lv_room (Nat.le_of_ble_eq_true rfl)) d_X_prove_175 ⟨Nat.le_of_ble_eq_true rfl, Nat.le_of_ble_eq_true rfl⟩) (fun u2 H locs pk HW => ?_)
                refine lv_iload_n hx hb d_X_prove_178 rfl (lv_at hl 3 rfl) ?_
                refine lv_iconst (v := 1) hx hb d_X_prove_179 (by decide) ?_
                refine lv_iadd hx hb d_X_prove_180 ?_
                refine lv_topi (fun rr err => ?_)
                exact ht_iret hx hb hr hlocks HW ⟨N, dt1, opf, _, _, f3, 0, ht_part k (ht_rk (N b)) + 1, by rw [pk]; exact hR2.sb, by rw [pk, eu1]; exact ((hfri.trans (ht_frp (by rw [htg.1 2 (by decide)]; decide) (by rw [htg.1 3 (by decide)]; decide) (by rw [htg.1 4 (by decide)]; decide))).trans (ht_fr.up (S := fun b => (tg b).1 ≠ 0) (by rw [htg.1 7 (by decide)]; decide))).trans (ht_fr.up (S := fun b => (tg b).1 ≠ 0) (by rw [htg.1 6 (by decide)]; decide)), hpi.branch hT hbL hmax hp hplt hHV ht_cpr h3, by rw [err, epv, nI_1]⟩ d_X_prove_181
            · have hplt : ht_rl (N a) < ht_part k (ht_rk (N b)) := Nat.not_le.mp (fun z9 => c77 (by rw [epv]; exact nI_le z9 (by omega)))
              refine lv_aload_n hx hb d_X_prove_80 rfl (lv_at hl 1 rfl) ?_
              refine ht_get (C := R_X) (T := F_X) (N := 9) (v := .ref (X 1)) hx hb htb i_X hown HW hX rfl 0 (by decide) (htb _ wd_40) (fun _ h9 => h9) rfl d_X_prove_81 ?_
              refine lv_aload hx hb d_X_prove_84 (lv_at hl 0 rfl) ?_
              refine ht_get (C := R_B) (T := F_B) (N := 6) (v := .int (nI (ht_rl (N a)))) hx hb htb i_B hown HW hla rfl 1 (by decide) (htb _ wd_133) (fun x h9 => u_same (htb _ wd_134) x h9) rfl d_X_prove_86 ?_
              refine ht_ci HW (va_runS (own := R_X) (As := [.ref (X 1), .int (nI (ht_rl (N a)))]) (rest := []) ⟨hx, hb, hml, hown, htb⟩ (c_X_isOne l g u hK (ht_rl (N a)) h256 _ rfl) (va_cwS 2 htb (ht_gs wd_88 wd_89 wd_1 g_X_isOne) rfl rfl rfl (by decide +kernel) ⟨Nat.le_of_ble_eq_true rfl, Nat.le_of_ble_eq_true rfl⟩) (HW.preS _) rfl rfl hl.1 rfl (lv_room (Nat.le_of_ble_eq_true rfl)) d_X_prove_89 ⟨Nat.le_of_ble_eq_true rfl, Nat.le_of_ble_eq_true rfl⟩) (fun qb u3 H locs pu3 HW => ?_)
              obtain ⟨eqb, eu3⟩ := pu3
              subst eu3
              refine lv_istore (lv' := [(6, .int qb), (5, .ref a), (0, .ref (X 0)), (1, .ref b), (2, .int pv), (3, .int lvv), (4, .ref a)]) hx hb d_X_prove_92 hl (by decide) rfl (fun ls hl => ?_)
              refine lv_aload_n hx hb d_X_prove_94 rfl (lv_at hl 2 rfl) ?_
              refine lv_aload hx hb d_X_prove_95 (lv_at hl 1 rfl) ?_
              refine ht_get (C := R_B) (T := F_B) (N := 6) (v := .int (nI (ht_rl (N a)))) hx hb htb i_B hown HW hla rfl 1 (by decide) (htb _ wd_133) (fun x h9 => u_same (htb _ wd_134) x h9) rfl d_X_prove_97 ?_
              refine lv_aload hx hb d_X_prove_100 (lv_at hl 1 rfl) ?_
              refine lv_iload hx hb d_X_prove_102 (lv_at hl 0 rfl) ?_
              refine lv_if_ne (tgt := 111) hx hb d_X_prove_104 (by decide) (fun c104 => ?_) (fun c104 => ?_)
              · have hbt := ht_b1_1 (b := (ht_bit k (ht_rl (N a)))) (by rw [← eqb]; exact c104)
                refine lv_iconst (v := 0) hx hb d_X_prove_111 (by decide) ?_
                rw [show (0 : Int32) = ht_b1 (!(ht_bit k (ht_rl (N a)))) by rw [hbt]; rfl]
                refine ht_cq HW (va_runV (own := R_X) (C := R_B) (As := [.int (ht_b1 (!(ht_bit k (ht_rl (N a)))))]) (rest := [.int (nI (ht_rl (N a))), .ref (X 0)]) ⟨hx, hb, hml, hown, htb⟩ (c_B_half l g u hla (!(ht_bit k (ht_rl (N a))))) (cwV 1 htb (ht_gv wd_91 wd_92 wd_93 wd_8 g_B_half) rfl rfl rfl (by decide +kernel) ⟨Nat.le_of_ble_eq_true rfl, Nat.le_of_ble_eq_true rfl⟩) (HW.preV hla rfl _) rfl rfl hl.1 rfl (lv_room (Nat.le_of_ble_eq_true rfl)) d_X_prove_112 ⟨Nat.le_of_ble_eq_true rfl, Nat.le_of_ble_eq_true rfl⟩) (fun q5 u4 H locs ph HW => ?_)
                obtain ⟨eh, eww⟩ := ph
                subst eww
                subst eh
                refine W.eq (g2 := F0 m 115 ls [.ref (ht_ch zo (!(ht_bit k (ht_rl (N a))))), .int (nI (ht_rl (N a))), .ref (X 0)]) rfl ?_
                have hoF := (hT.half haF hp (!(ht_bit k (ht_rl (N a))))).1
                have hoc := (hN _ hoF).1
                refine ht_ngt hx hb htb hown HW hoc 2 (by decide) (htb _ wd_137) (fun _ h9 => h9) (v := .ref (A (ht_ch zo (!(ht_bit k (ht_rl (N a)))))).2.1) rfl d_X_prove_115 ?_
                refine ht_cv HW (va_runV (own := R_X) (C := R_X) (As := [.int (nI (ht_rl (N a))), .ref (A (ht_ch zo (!(ht_bit k (ht_rl (N a)))))).2.1]) (rest := []) ⟨hx, hb, hml, hown, htb⟩ (c_X_keepSibling l g u hX hSb (hN (ht_ch zo (!(ht_bit k (ht_rl (N a))))) hoF).2.2.1 (ht_rl (N a)) h256 _ rfl) (cwV 2 htb (ht_gv wd_274 wd_276 sl_9 wd_1 g_X_keepSibling) rfl rfl rfl (by decide +kernel) ⟨Nat.le_of_ble_eq_true rfl, Nat.le_of_ble_eq_true rfl⟩) (HW.preV hX rfl _) rfl rfl hl.1 rfl (lv_room (Nat.le_of_ble_eq_true rfl)) d_X_prove_118 ⟨Nat.le_of_ble_eq_true rfl, Nat.le_of_ble_eq_true rfl⟩) (fun u6 H locs pk HW => ?_)
                have hR2 := hRi.sb (f := va_cpy (ht_kf (ht_rh (N (ht_ch zo (!(ht_bit k (ht_rl (N a)))))))) f 0 (ht_rl (N a) * 4) 4)
                rw [← pk] at hR2
                obtain ⟨hX2, -, -, -, -, -, -, hN2, -⟩ := id hR2
                unfold ht_xo at hX2
                have hla2 := hN2.br haF hp
                refine lv_aload hx hb d_X_prove_121 (lv_at hl 1 rfl) ?_
                refine ht_get (C := R_B) (T := F_B) (N := 6) (v := .int (nI (ht_rl (N a)))) hx hb htb i_B hown HW hla2 rfl 1 (by decide) (htb _ wd_133) (fun x h9 => u_same (htb _ wd_134) x h9) rfl d_X_prove_123 ?_
                refine lv_iconst (v := 1) hx hb d_X_prove_126 (by decide) ?_
                refine lv_iadd hx hb d_X_prove_127 ?_
                refine lv_topi (fun lv2 elv2 => ?_)
                refine lv_istore_n (lv' := [(3, .int lv2), (6, .int qb), (5, .ref a), (0, .ref (X 0)), (1, .ref b), (2, .int pv), (4, .ref a)]) hx hb d_X_prove_128 rfl hl (by decide) rfl (fun ls hl => ?_)
                refine lv_aload hx hb d_X_prove_129 (lv_at hl 2 rfl) ?_
                refine lv_iload hx hb d_X_prove_131 (lv_at hl 1 rfl) ?_
                rw [eqb]
                refine ht_cq HW (va_runV (own := R_X) (C := R_B) (As := [.int (ht_b1 (ht_bit k (ht_rl (N a))))]) (rest := []) ⟨hx, hb, hml, hown, htb⟩ (c_B_half l g u6 hla2 (ht_bit k (ht_rl (N a)))) (cwV 1 htb (ht_gv wd_91 wd_92 wd_93 wd_8 g_B_half) rfl rfl rfl (by decide +kernel) ⟨Nat.le_of_ble_eq_true rfl, Nat.le_of_ble_eq_true rfl⟩) (HW.preV hla2 rfl _) rfl rfl hl.1 rfl (lv_room (Nat.le_of_ble_eq_true rfl)) d_X_prove_133 ⟨Nat.le_of_ble_eq_true rfl, Nat.le_of_ble_eq_true rfl⟩) (fun q8 u7 H locs ph HW => ?_)
                obtain ⟨eh, eww⟩ := ph
                subst eww
                subst eh
                refine W.eq (g2 := F0 m 136 ls [.ref (ht_ch zo (ht_bit k (ht_rl (N a))))]) rfl ?_
                refine lv_astore (lv' := [(4, .ref (ht_ch zo (ht_bit k (ht_rl (N a))))), (3, .int lv2), (6, .int qb), (5, .ref a), (0, .ref (X 0)), (1, .ref b), (2, .int pv)]) hx hb d_X_prove_136 hl (by decide) rfl (fun ls hl => ?_)
                refine lv_goto (tgt := 56) hx hb d_X_prove_138 (by decide) ?_
                exact ih _ (ht_rl (N a) + 1) _ u6 hR2 (by rw [pk]; exact hfri.trans (ht_fr.up (S := fun b => (tg b).1 ≠ 0) (by rw [htg.1 6 (by decide)]; decide))) (hpi.step hT hbL hp hplt ((hF.2 a haF zo hp (!(ht_bit k (ht_rl (N a))))).1 ((hF.2 a haF zo hp (!(ht_bit k (ht_rl (N a))))).2 hfra)) ht_cpr) ((hF.2 a haF zo hp (ht_bit k (ht_rl (N a)))).2 hfra) (by have := (hT.half haF hp (ht_bit k (ht_rl (N a)))).2.2.1; omega) _ _ _ lv2 (by rw [elv2, nI_1]) HW (lv_sub hl [4, 5, 6, 1, 0] rfl)
              · have hbt := ht_b1_0 (b := (ht_bit k (ht_rl (N a)))) (by rw [← eqb]; exact c104)
                refine lv_iconst (v := 1) hx hb d_X_prove_107 (by decide) ?_
                refine lv_goto (tgt := 112) hx hb d_X_prove_108 (by decide) ?_
                rw [show (1 : Int32) = ht_b1 (!(ht_bit k (ht_rl (N a)))) by rw [hbt]; rfl]
                refine ht_cq HW (va_runV (own := R_X) (C := R_B) (As := [.int (ht_b1 (!(ht_bit k (ht_rl (N a)))))]) (rest := [.int (nI (ht_rl (N a))), .ref (X 0)]) ⟨hx, hb, hml, hown, htb⟩ (c_B_half l g u hla (!(ht_bit k (ht_rl (N a))))) (cwV 1 htb (ht_gv wd_91 wd_92 wd_93 wd_8 g_B_half) rfl rfl rfl (by decide +kernel) ⟨Nat.le_of_ble_eq_true rfl, Nat.le_of_ble_eq_true rfl⟩) (HW.preV hla rfl _) rfl rfl hl.1 rfl (lv_room (Nat.le_of_ble_eq_true rfl)) d_X_prove_112 ⟨Nat.le_of_ble_eq_true rfl, Nat.le_of_ble_eq_true rfl⟩) (fun q10 u9 H locs ph HW => ?_)
                obtain ⟨eh, eww⟩ := ph
                subst eww
                subst eh
                refine W.eq (g2 := F0 m 115 ls [.ref (ht_ch zo (!(ht_bit k (ht_rl (N a))))), .int (nI (ht_rl (N a))), .ref (X 0)]) rfl ?_
                have hoF := (hT.half haF hp (!(ht_bit k (ht_rl (N a))))).1
                have hoc := (hN _ hoF).1
                refine ht_ngt hx hb htb hown HW hoc 2 (by decide) (htb _ wd_137) (fun _ h9 => h9) (v := .ref (A (ht_ch zo (!(ht_bit k (ht_rl (N a)))))).2.1) rfl d_X_prove_115 ?_
                refine ht_cv HW (va_runV (own := R_X) (C := R_X) (As := [.int (nI (ht_rl (N a))), .ref (A (ht_ch zo (!(ht_bit k (ht_rl (N a)))))).2.1]) (rest := []) ⟨hx, hb, hml, hown, htb⟩ (c_X_keepSibling l g u hX hSb (hN (ht_ch zo (!(ht_bit k (ht_rl (N a))))) hoF).2.2.1 (ht_rl (N a)) h256 _ rfl) (cwV 2 htb (ht_gv wd_274 wd_276 sl_9 wd_1 g_X_keepSibling) rfl rfl rfl (by decide +kernel) ⟨Nat.le_of_ble_eq_true rfl, Nat.le_of_ble_eq_true rfl⟩) (HW.preV hX rfl _) rfl rfl hl.1 rfl (lv_room (Nat.le_of_ble_eq_true rfl)) d_X_prove_118 ⟨Nat.le_of_ble_eq_true rfl, Nat.le_of_ble_eq_true rfl⟩) (fun u11 H locs pk HW => ?_)
                have hR2 := hRi.sb (f := va_cpy (ht_kf (ht_rh (N (ht_ch zo (!(ht_bit k (ht_rl (N a)))))))) f 0 (ht_rl (N a) * 4) 4)
                rw [← pk] at hR2
                obtain ⟨hX2, -, -, -, -, -, -, hN2, -⟩ := id hR2
                unfold ht_xo at hX2
                have hla2 := hN2.br haF hp
                refine lv_aload hx hb d_X_prove_121 (lv_at hl 1 rfl) ?_
                refine ht_get (C := R_B) (T := F_B) (N := 6) (v := .int (nI (ht_rl (N a)))) hx hb htb i_B hown HW hla2 rfl 1 (by decide) (htb _ wd_133) (fun x h9 => u_same (htb _ wd_134) x h9) rfl d_X_prove_123 ?_
                refine lv_iconst (v := 1) hx hb d_X_prove_126 (by decide) ?_
                refine lv_iadd hx hb d_X_prove_127 ?_
                refine lv_topi (fun lv2 elv2 => ?_)
                refine lv_istore_n (lv' := [(3, .int lv2), (6, .int qb), (5, .ref a), (0, .ref (X 0)), (1, .ref b), (2, .int pv), (4, .ref a)]) hx hb d_X_prove_128 rfl hl (by decide) rfl (fun ls hl => ?_)
                refine lv_aload hx hb d_X_prove_129 (lv_at hl 2 rfl) ?_
                refine lv_iload hx hb d_X_prove_131 (lv_at hl 1 rfl) ?_
                rw [eqb]
                refine ht_cq HW (va_runV (own := R_X) (C := R_B) (As := [.int (ht_b1 (ht_bit k (ht_rl (N a))))]) (rest := []) ⟨hx, hb, hml, hown, htb⟩ (c_B_half l g u11 hla2 (ht_bit k (ht_rl (N a)))) (cwV 1 htb (ht_gv wd_91 wd_92 wd_93 wd_8 g_B_half) rfl rfl rfl (by decide +kernel) ⟨Nat.le_of_ble_eq_true rfl, Nat.le_of_ble_eq_true rfl⟩) (HW.preV hla2 rfl _) rfl rfl hl.1 rfl (lv_room (Nat.le_of_ble_eq_true rfl)) d_X_prove_133 ⟨Nat.le_of_ble_eq_true rfl, Nat.le_of_ble_eq_true rfl⟩) (fun q13 u12 H locs ph HW => ?_)
                obtain ⟨eh, eww⟩ := ph
                subst eww
                subst eh
                refine W.eq (g2 := F0 m 136 ls [.ref (ht_ch zo (ht_bit k (ht_rl (N a))))]) rfl ?_
                refine lv_astore (lv' := [(4, .ref (ht_ch zo (ht_bit k (ht_rl (N a))))), (3, .int lv2), (6, .int qb), (5, .ref a), (0, .ref (X 0)), (1, .ref b), (2, .int pv)]) hx hb d_X_prove_136 hl (by decide) rfl (fun ls hl => ?_)
                refine lv_goto (tgt := 56) hx hb d_X_prove_138 (by decide) ?_
                exact ih _ (ht_rl (N a) + 1) _ u11 hR2 (by rw [pk]; exact hfri.trans (ht_fr.up (S := fun b => (tg b).1 ≠ 0) (by rw [htg.1 6 (by decide)]; decide))) (hpi.step hT hbL hp hplt ((hF.2 a haF zo hp (!(ht_bit k (ht_rl (N a))))).1 ((hF.2 a haF zo hp (!(ht_bit k (ht_rl (N a))))).2 hfra)) ht_cpr) ((hF.2 a haF zo hp (ht_bit k (ht_rl (N a)))).2 hfra) (by have := (hT.half haF hp (ht_bit k (ht_rl (N a)))).2.2.1; omega) _ _ _ lv2 (by rw [elv2, nI_1]) HW (lv_sub hl [4, 5, 6, 1, 0] rfl)
  refine lv_aload_n hx hb d_X_prove_0 rfl (lv_at hl 0 rfl) ?_
  refine ht_get (C := R_X) (T := F_X) (N := 9) (v := .ref (X 6)) hx hb htb i_X hown HW hX rfl 5 (by decide) (htb _ wd_45) (fun _ h9 => h9) rfl d_X_prove_1 ?_
  refine lv_lconst (v := 0) hx hb d_X_prove_4 (by decide) ?_
  refine ht_cv HW (va_runS (own := R_X) (As := [.ref (X 6), .long 0]) (rest := []) ⟨hx, hb, hml, hown, htb⟩ (c_JA_fill l g w hSb (by decide) 0) (va_cwS 2 htb (ht_gs wd_271 wd_272 wd_11 g_JA_fill) rfl rfl rfl (by decide +kernel) ⟨Nat.le_of_ble_eq_true rfl, Nat.le_of_ble_eq_true rfl⟩) (HW.preS _) rfl rfl hl.1 rfl (lv_room (Nat.le_of_ble_eq_true rfl)) d_X_prove_5 ⟨Nat.le_of_ble_eq_true rfl, Nat.le_of_ble_eq_true rfl⟩) (fun u1 H locs pf HW => ?_)
  obtain ⟨f2, hf2, pf⟩ := pf
  have hR1 := hR.sb (f := f2)
  rw [← pf] at hR1
  obtain ⟨hX, hK, hDg, hOp, hSb, hLs, hEn, hN, hT, hF, htg, hlen⟩ := id hR1
  unfold ht_xo at hX
  refine lv_aload_n hx hb d_X_prove_8 rfl (lv_at hl 0 rfl) ?_
  refine ht_get (C := R_X) (T := F_X) (N := 9) (v := .ref (X 8)) hx hb htb i_X hown HW hX rfl 7 (by decide) (htb _ wd_47) (fun _ h9 => h9) rfl d_X_prove_9 ?_
  refine lv_lconst (v := 0) hx hb d_X_prove_12 (by decide) ?_
  refine ht_cv HW (va_runS (own := R_X) (As := [.ref (X 8), .long 0]) (rest := []) ⟨hx, hb, hml, hown, htb⟩ (c_JA_fill l g u1 hEn (by decide) 0) (va_cwS 2 htb (ht_gs wd_271 wd_272 wd_11 g_JA_fill) rfl rfl rfl (by decide +kernel) ⟨Nat.le_of_ble_eq_true rfl, Nat.le_of_ble_eq_true rfl⟩) (HW.preS _) rfl rfl hl.1 rfl (lv_room (Nat.le_of_ble_eq_true rfl)) d_X_prove_13 ⟨Nat.le_of_ble_eq_true rfl, Nat.le_of_ble_eq_true rfl⟩) (fun u2 H locs pe HW => ?_)
  obtain ⟨f3, hf3, pe⟩ := pe
  have hR2 := hR1.en (f := f3)
  rw [← pe] at hR2
  obtain ⟨hX, hK, hDg, hOp, hSb, hLs, hEn, hN, hT, hF, htg, hlen⟩ := id hR2
  unfold ht_xo at hX
  refine lv_aload_n hx hb d_X_prove_16 rfl (lv_at hl 0 rfl) ?_
  refine lv_iconst (v := 0) hx hb d_X_prove_17 (by decide) ?_
  refine ht_put (C := R_X) (T := F_X) (N := 9) (v := .int 0) (ty := .int) hx hb htb i_X t_X t_X_ok n_X hown HW hX rfl 8 (by decide) (htb _ wd_48) (fun _ h9 => h9) rfl (by decide +kernel) rfl rfl (Nat.le_of_ble_eq_true rfl) d_X_prove_18 (fun H locs HW => ?_)
  have n_X_1_X_0 : (X 1) ≠ (X 0) := (ht_ne hK hX (fun z => by cases z))
  have n_X_6_X_0 : (X 6) ≠ (X 0) := (ht_ne hSb hX (fun z => by cases z))
  have n_X_7_X_0 : (X 7) ≠ (X 0) := (ht_ne hLs hX (fun z => by cases z))
  have n_X_8_X_0 : (X 8) ≠ (X 0) := (ht_ne hEn hX (fun z => by cases z))
  obtain ⟨u3, hu3⟩ : ∃ zW : ht_W, zW = ht_up u2 (X 0) (.inr (0, [.ref (X 1), .ref (X 2), .ref (X 5), va_rf top, .int (nI L.length), .ref (X 6), .ref (X 7), .ref (X 8), .int 0]) : va_E) := ⟨_, rfl⟩
  have HW : ht_I g s u3 H locs := by rw [hu3]; exact HW
  have hX : ht_at u3 (X 0) (.inr (0, [.ref (X 1), .ref (X 2), .ref (X 5), va_rf top, .int (nI L.length), .ref (X 6), .ref (X 7), .ref (X 8), .int 0]) : va_E) := by rw [hu3]; exact ht_at_self hX
  have hK : ht_at u3 (X 1) (ht_al g 4 (ht_kf k)) := by rw [hu3]; exact ht_at_ne hK n_X_1_X_0
  have hSb : ht_at u3 (X 6) (ht_al g 1024 f2) := by rw [hu3]; exact ht_at_ne hSb n_X_6_X_0
  have hLs : ht_at u3 (X 7) (ht_al g 4 lsf) := by rw [hu3]; exact ht_at_ne hLs n_X_7_X_0
  have hEn : ht_at u3 (X 8) (ht_al g 8 f3) := by rw [hu3]; exact ht_at_ne hEn n_X_8_X_0
  have hR3 := hR2.ei (x := 0)
  unfold ht_xo at hR3
  rw [← hu3] at hR3
  have hfr3 : ht_fr (fun b => (tg b).1 ≠ 0) w u3 := by rw [hu3, pe, pf]; exact ((ht_fr.up (S := fun b => (tg b).1 ≠ 0) (by rw [htg.1 6 (by decide)]; decide)).trans (ht_fr.up (S := fun b => (tg b).1 ≠ 0) (by rw [htg.1 8 (by decide)]; decide))).trans (ht_fr.up (S := fun b => (tg b).1 ≠ 0) (by rw [htg.1 0 (by decide)]; decide))
  obtain ⟨hX, hK, hDg, hOp, hSb, hLs, hEn, hN, hT, hF, htg, hlen⟩ := id hR3
  unfold ht_xo at hX
  refine lv_aload_n hx hb d_X_prove_21 rfl (lv_at hl 0 rfl) ?_
  refine ht_cq HW (va_runV (own := R_X) (C := R_X) (As := []) (rest := []) ⟨hx, hb, hml, hown, htb⟩ (c_X_nearestLeaf l g u3 hX hK hN hT) (cwV 0 htb (ht_gv wd_83 wd_85 sl_1 wd_1 g_X_nearestLeaf) rfl rfl rfl (by decide +kernel) ⟨Nat.le_of_ble_eq_true rfl, Nat.le_of_ble_eq_true rfl⟩) (HW.preV hX rfl _) rfl rfl hl.1 rfl (lv_room (Nat.le_of_ble_eq_true rfl)) d_X_prove_22 ⟨Nat.le_of_ble_eq_true rfl, Nat.le_of_ble_eq_true rfl⟩) (fun q5 u4 H locs pn HW => ?_)
  obtain ⟨pn, eww⟩ := pn
  subst eww
  rcases pn with ⟨er, et⟩ | ⟨b, vb, er, hbF, hpb, hbest⟩
  · have HW9 := HW
    subst er
    subst et
    have HW := HW9
    refine W.eq (g2 := F0 _ 25 ls [.null]) rfl ?_
    refine lv_astore_nN (lv' := [(1, .null), (0, .ref (X 0))]) hx hb d_X_prove_25 rfl hl (by decide) rfl (fun ls hl => ?_)
    refine lv_aload_nN hx hb d_X_prove_26 rfl (lv_at hl 0 rfl) ?_
    refine lv_ifnonnullN hx hb d_X_prove_27 ?_
    refine lv_iconst (v := 0) hx hb d_X_prove_30 (by decide) ?_
    exact ht_iret hx hb hr hlocks HW ⟨N, dt, opf, f2, lsf, f3, 0, 0, hR3, hfr3, by rw [(hT.2.2.1.2 rfl).2]; exact ht_pv_nil hf2 hf3, rfl⟩ d_X_prove_31
  · have HW9 := HW
    subst er
    refine W.eq (g2 := F0 _ 25 ls [.ref b]) rfl ?_
    obtain ⟨t, rfl⟩ : ∃ t, top = some t := by
      cases top with
      | none => rw [(hT.2.2.1.2 rfl).1] at hbF; cases hbF
      | some t => exact ⟨t, rfl⟩
    have HW := HW9
    refine lv_astore_n (lv' := [(1, .ref b), (0, .ref (X 0))]) hx hb d_X_prove_25 rfl hl (by decide) rfl (fun ls hl => ?_)
    refine lv_aload_n hx hb d_X_prove_26 rfl (lv_at hl 0 rfl) ?_
    refine lv_ifnonnull (tgt := 32) hx hb d_X_prove_27 (by decide) ?_
    refine lv_aload_n hx hb d_X_prove_32 rfl (lv_at hl 1 rfl) ?_
    refine ht_cv HW (va_runV (own := R_X) (C := R_X) (As := []) (rest := []) ⟨hx, hb, hml, hown, htb⟩ (c_X_refresh l g u3 hR3 hcap) (cwV 0 htb (ht_gv wd_209 wd_211 sl_5 wd_1 g_X_refresh) rfl rfl rfl (by decide +kernel) ⟨Nat.le_of_ble_eq_true rfl, Nat.le_of_ble_eq_true rfl⟩) (HW.preV hX rfl _) rfl rfl hl.1 rfl (lv_room (Nat.le_of_ble_eq_true rfl)) d_X_prove_33 ⟨Nat.le_of_ble_eq_true rfl, Nat.le_of_ble_eq_true rfl⟩) (fun u6 H locs pr HW => ?_)
    obtain ⟨N1, dt1, opf1, hR4, hfr4, hfre, hsm⟩ := pr
    have hpb1 : ht_rp (N1 b) = .inl vb := by rw [(hsm b).2.2]; exact hpb
    have hmax : ∀ q ∈ L, ht_part k q.1 ≤ ht_part k (ht_rk (N1 b)) := by rw [(hsm b).1]; exact hbest
    obtain ⟨hX, hK, hDg, hOp, hSb, hLs, hEn, hN, hT, hF, htg, hlen⟩ := id hR4
    unfold ht_xo at hX
    have hbL := hN.lf hbF hpb1
    have hbK := (hN b hbF).2.1
    refine lv_aload_n hx hb d_X_prove_36 rfl (lv_at hl 1 rfl) ?_
    refine ht_get (C := R_X) (T := F_X) (N := 9) (v := .ref (X 1)) hx hb htb i_X hown HW hX rfl 0 (by decide) (htb _ wd_40) (fun _ h9 => h9) rfl d_X_prove_37 ?_
    refine lv_aload_n hx hb d_X_prove_40 rfl (lv_at hl 0 rfl) ?_
    refine ht_get (C := R_L) (T := F_L) (N := 5) (v := .ref (A b).1) hx hb htb i_L hown HW hbL rfl 0 (by decide) (htb _ wd_128) (fun x h9 => u_same (htb _ wd_129) x h9) rfl d_X_prove_41 ?_
    refine ht_ci HW (va_runS (own := R_X) (As := [.ref (X 1), .ref (A b).1]) (rest := []) ⟨hx, hb, hml, hown, htb⟩ (c_X_partingLevel l g u6 hK hbK) (va_cwS 2 htb (ht_gs wd_96 wd_97 wd_1 g_X_partingLevel) rfl rfl rfl (by decide +kernel) ⟨Nat.le_of_ble_eq_true rfl, Nat.le_of_ble_eq_true rfl⟩) (HW.preS _) rfl rfl hl.1 rfl (lv_room (Nat.le_of_ble_eq_true rfl)) d_X_prove_44 ⟨Nat.le_of_ble_eq_true rfl, Nat.le_of_ble_eq_true rfl⟩) (fun pv u7 H locs pu7 HW => ?_)
    obtain ⟨epv, eu7⟩ := pu7
    subst eu7
    refine lv_istore_n (lv' := [(2, .int pv), (1, .ref b), (0, .ref (X 0))]) hx hb d_X_prove_47 rfl hl (by decide) rfl (fun ls hl => ?_)
    refine lv_iconst (v := 0) hx hb d_X_prove_48 (by decide) ?_
    refine lv_istore_n (lv' := [(3, .int 0), (2, .int pv), (1, .ref b), (0, .ref (X 0))]) hx hb d_X_prove_49 rfl hl (by decide) rfl (fun ls hl => ?_)
    refine lv_aload_n hx hb d_X_prove_50 rfl (lv_at hl 3 rfl) ?_
    refine ht_get (C := R_X) (T := F_X) (N := 9) (v := .ref t) hx hb htb i_X hown HW hX rfl 3 (by decide) (htb _ wd_43) (fun _ h9 => h9) rfl d_X_prove_51 ?_
    refine lv_astore (lv' := [(4, .ref t), (3, .int 0), (2, .int pv), (1, .ref b), (0, .ref (X 0))]) hx hb d_X_prove_54 hl (by decide) rfl (fun ls hl => ?_)
    exact loop N1 dt1 opf1 f3 b vb pv hbF hpb1 (hT.2.2.2.1 b hbF vb hpb1).2 hmax hf3 epv 256 t 0 f2 u6 hR4 (hfr3.trans hfr4) (ht_pi.start hT (hT.2.2.2.1 b hbF vb hpb1).2 hf2) (hfre t rfl) (by omega) _ _ _ 0 rfl HW (lv_sub hl [4, 3, 2, 1, 0] rfl)
