theorem ht_anyN {g : ht_G} {s : State} {w : ht_W} {H : Heap} {locs : List Loc} (HW : ht_I g s w H locs) {a : Nat} {r : ht_R} {ka ha va : Nat} (he : ht_at w a (ht_nc r ka ha va)) : va_Any "HashTree$Node" s H a := by
  cases hp : ht_rp r with
  | inl x =>
    rw [ht_nc_l hp] at he
    obtain ⟨q, hq⟩ := ht_ix he
    exact va_rAny HW.2.1 HW.2.2.2.1 hq (r := (R_L, F_L, 5)) rfl (fun comp c0 h1 h2 => vb_asgC HW.2.2.1.2.2.2.2.2.1 comp c0 h1 h2)
  | inr zo =>
    rw [ht_nc_b hp] at he
    obtain ⟨q, hq⟩ := ht_ix he
    exact va_rAny HW.2.1 HW.2.2.2.1 hq (r := (R_B, F_B, 6)) rfl (fun comp c0 h1 h2 => vb_asgC HW.2.2.1.2.2.2.2.1 comp c0 h1 h2)
def ht_sm (N N' : ht_N) : Prop := ∀ a, ht_rk (N' a) = ht_rk (N a) ∧ ht_rl (N' a) = ht_rl (N a) ∧ ht_rp (N' a) = ht_rp (N a)
theorem ht_sm.rf {N : ht_N} : ht_sm N N := fun _ => ⟨rfl, rfl, rfl⟩
theorem ht_sm.pop {N N' : ht_N} (h : ht_sm N N') (a : Nat) (HV : ht_K) : ht_sm N (va_up N' a (ht_sf (ht_sh (N' a) HV) true)) := by
  intro x
  by_cases e : x = a
  · subst e
    rw [va_up_self]
    exact h x
  · rw [va_up_ne _ _ e]
    exact h x
theorem ht_frp {tg : Nat → Nat × Nat} {w : ht_W} {dg wd wa : Nat} {g : ht_G} {t : ht_D} (h1 : (tg dg).1 ≠ 0) (h2 : (tg wd).1 ≠ 0) (h3 : (tg wa).1 ≠ 0) : ht_fr (fun b => (tg b).1 ≠ 0) w (ht_dw g w dg wd wa t) := by
  unfold ht_dw
  exact ((ht_fr.up (S := fun b => (tg b).1 ≠ 0) h1).trans (ht_fr.up (S := fun b => (tg b).1 ≠ 0) h2)).trans (ht_fr.up (S := fun b => (tg b).1 ≠ 0) h3)
set_option maxHeartbeats 4000000 in
set_option maxRecDepth 100000 in
theorem c_X_refresh (l : Launch) (g : ht_G) (w : ht_W) {X : Nat → Nat} {tg : Nat → Nat × Nat} {k : ht_K} {N : ht_N} {A : ht_AA} {F : List Nat} {top : Option Nat} {L : ht_L} {dt : ht_D} {opf : Nat → Option Nat} {sbf lsf enf : Nat → Int64} {ei : Int32} (hR : ht_Rp ht_dgf g w X tg k N A F top L dt opf sbf lsf enf ei) (hcap : L.length ≤ 512) : Met l y_X_refresh ws_X_refresh ({ frames := 6, cells := 0, slots := 0, locals := 180 } : Room) (va_Pc [.ref (X 0)] (ht_WS g w)) (ht_Qv g (fun u => ∃ (N' : ht_N) (dt' : ht_D) (opf' : Nat → Option Nat), ht_Rp ht_dgf g u X tg k N' A F top L dt' opf' sbf lsf enf ei ∧ ht_fr (fun b => (tg b).1 ≠ 0) w u ∧ (∀ t, top = some t → ht_rf (N' t) = true) ∧ ht_sm N N')) 0 0 (ht_A g) := by
  refine Met.ofW (cc := b_X_refresh) (maxL := 6) (ret := none) (by decide) rfl ?_
  intro p e s m args below meth c s₁ BB hml hv
  obtain ⟨rfl, HW⟩ := hv
  have HW := ht_I.start HW
  have hx := BB.exec
  have hb := BB.bytes
  have hr := BB.returns
  have hts := atoms_spec (ws := ws_X_refresh) BB.pre
  have htb : ∀ w ∈ bg, w.before _ s = true := fun w h => hts w (List.mem_cons_of_mem _ h)
  have hown : s.vm.findClass R_X = some m.cls := findClass_of_methodNamed BB.named
  have hlocks := BB.notSynchronized
  have hl := lv_entry ([.ref (X 0)]) (n := 6) (Nat.le_of_ble_eq_true rfl)
  rw [lg_entry_eq]
  generalize (lg_sl ([.ref (X 0)]) ++ List.replicate (6 - (lg_sl ([.ref (X 0)])).length) Slot.unset).toArray = ls at hl ⊢
  have hl : lv_has ls 6 [(0, .ref (X 0))] := hl
  obtain ⟨hX, hK, hDg, hOp, hSb, hLs, hEn, hN, hT, hF, htg, hlen⟩ := id hR
  unfold ht_xo at hX
  have loop : ∀ (n : Nat) (stk : List Nat) (Ni : ht_N) (dti : ht_D) (opi : Nat → Option Nat) (u : ht_W) (st : Nat), ht_Rp ht_dgf g u X tg k Ni A F top L dti opi sbf lsf enf ei → ht_sm N Ni → ht_fr (fun b => (tg b).1 ≠ 0) w u → ht_stk Ni F top stk → ht_ops opi stk → (stk = [] → ∀ t, top = some t → ht_rf (Ni t) = true) → 2 * ht_st Ni F ≤ n + stk.length → st + n ≤ 2048 → ∀ (H : Heap) (locs : List Loc) (ls : Array Slot) (dp sp : Int32), dp = nI stk.length → sp = nI st → ht_I g s u H locs → lv_has ls 6 [(0, .ref (X 0)), (1, .int dp), (2, .int sp)] → W p l e (headSpec ws_X_refresh ({ frames := 6, cells := 0, slots := 0, locals := 180 } : Room)).room s m ([.ref (X 0)] : List Value).toArray below meth c H locs 0 0 (MQ below (ht_Qv g (fun u => ∃ (N' : ht_N) (dt' : ht_D) (opf' : Nat → Option Nat), ht_Rp ht_dgf g u X tg k N' A F top L dt' opf' sbf lsf enf ei ∧ ht_fr (fun b => (tg b).1 ≠ 0) w u ∧ (∀ t, top = some t → ht_rf (N' t) = true) ∧ ht_sm N N')) ([.ref (X 0)] : List Value).toArray s 0 0 (ht_A g)) (F0 m 33 ls []) := by
    intro n
    induction n with
    | zero =>
      intro stk Ni dti opi u st hRi hsmi hfri hstk hopsi hdone hms hst H locs ls dp sp edp esp HW hl
      rcases stk with _ | ⟨a, r⟩
      · refine lv_iload_n hx hb d_X_refresh_33 rfl (lv_at hl 1 rfl) ?_
        refine lv_if_le (tgt := 148) hx hb d_X_refresh_34 (by decide) (fun c34 => ?_) (fun c34 => ?_)
        · exact ht_vret hx hb hr hlocks HW ⟨Ni, dti, opi, hRi, hfri, hdone rfl, hsmi⟩ d_X_refresh_148
        · exact absurd (by rw [edp]; decide) c34
      · have := ht_stk.len hRi.2.2.2.2.2.2.2.2.1 hstk
        simp only [List.length_cons] at this hms
        omega
    | succ n ih =>
      intro stk Ni dti opi u st hRi hsmi hfri hstk hopsi hdone hms hst H locs ls dp sp edp esp HW hl
      rcases stk with _ | ⟨a, r⟩
      · refine lv_iload_n hx hb d_X_refresh_33 rfl (lv_at hl 1 rfl) ?_
        refine lv_if_le (tgt := 148) hx hb d_X_refresh_34 (by decide) (fun c34 => ?_) (fun c34 => ?_)
        · exact ht_vret hx hb hr hlocks HW ⟨Ni, dti, opi, hRi, hfri, hdone rfl, hsmi⟩ d_X_refresh_148
        · exact absurd (by rw [edp]; decide) c34
      · obtain ⟨hX, hK, hDgi, hOp, hSb, hLs, hEn, hNi, hTi, hFi, htgi, hleni⟩ := id hRi
        unfold ht_xo at hX
        have n05 : X 0 ≠ X 5 := ht_tne (htgi.1 0 (by decide)) (htgi.1 5 (by decide)) (by decide)
        have haF := hstk.hd.1
        have hlst := ht_stk.len hTi hstk
        have hllv := (ht_stk.lt hTi hstk).1
        have hal := hTi.lv haF
        have hlen257 : (a :: r).length ≤ 257 := by rw [List.length_cons]; omega
        have hha := (hNi a haF).2.2.1
        have hne : (A a).1 ≠ (A a).2.1 := ht_tne (htgi.2 a haF).2.1 (htgi.2 a haF).2.2.1 (fun z9 => by cases z9)
        rw [List.length_cons] at hlst
        refine lv_iload_n hx hb d_X_refresh_33 rfl (lv_at hl 1 rfl) ?_
        refine lv_if_le (tgt := 148) hx hb d_X_refresh_34 (by decide) (fun c34 => ?_) (fun c34 => ?_)
        · exact absurd (by rw [edp] at c34; exact c34) (nI_nle (by simp) (by omega))
        · refine lv_iload_n hx hb d_X_refresh_37 rfl (lv_at hl 2 rfl) ?_
          refine lv_sipush (v := 2048) hx hb d_X_refresh_38 (by decide) ?_
          refine lv_icmp_ge (tgt := 148) hx hb d_X_refresh_41 (by decide) (fun c41 => ?_) (fun c41 => ?_)
          · exact absurd (show nI 2048 ≤ nI st by rw [esp] at c41; exact c41) (nI_ge (by omega) (by omega))
          · refine lv_aload_n hx hb d_X_refresh_44 rfl (lv_at hl 0 rfl) ?_
            refine ht_get (C := R_X) (T := F_X) (N := 9) (v := .ref (X 5)) hx hb htb i_X hown HW hX rfl 2 (by decide) (htb _ wd_42) (fun _ h9 => h9) rfl d_X_refresh_45 ?_
            refine lv_iload_n hx hb d_X_refresh_48 rfl (lv_at hl 1 rfl) ?_
            refine lv_iconst (v := 1) hx hb d_X_refresh_49 (by decide) ?_
            refine lv_isub hx hb d_X_refresh_50 ?_
            refine lv_topi (fun i1 ei1 => ?_)
            have hi1 : i1 = nI r.length := by rw [ei1]; exact ht_sb (b := 1) edp rfl (by rw [List.length_cons]; omega)
            refine ht_aald hx hb HW hOp (by rw [hi1]; exact vp_in_nI (by omega) (by omega)) d_X_refresh_51 ?_
            rw [hi1, nI_clamp (by omega), hopsi.1]
            refine W.eq (g2 := F0 _ 52 ls [.ref a]) rfl ?_
            refine lv_astore_n (lv' := [(3, .ref a), (0, .ref (X 0)), (1, .int dp), (2, .int sp)]) hx hb d_X_refresh_52 rfl hl (by decide) rfl (fun ls hl => ?_)
            rcases hp : ht_rp (Ni a) with v | zo
            · have hla := hNi.lf haF hp
              refine lv_aload_n hx hb d_X_refresh_53 rfl (lv_at hl 0 rfl) ?_
              refine va_instNo hx hb hown (htb _ wd_87) HW.2.2.1.2.2.2.2.2.2.2.1 (HW.recv hla (q := (R_L, F_L, 5)) rfl) d_X_refresh_54 ?_
              refine lv_if_eq (tgt := 74) hx hb d_X_refresh_57 (by decide) (fun c57 => ?_) (fun c57 => ?_)
              · refine lv_null hx hb d_X_refresh_74 ?_
                refine lv_astoreN (lv' := [(4, .null), (3, .ref a), (0, .ref (X 0)), (1, .int dp), (2, .int sp)]) hx hb d_X_refresh_75 hl (by decide) rfl (fun ls hl => ?_)
                refine lv_aloadN hx hb d_X_refresh_77 (lv_at hl 0 rfl) ?_
                refine lv_ifnullN (tgt := 103) hx hb d_X_refresh_79 (by decide) ?_
                have hchl : ∀ zo9, ht_rp (Ni a) = .inr zo9 → ∀ b9, ht_rf (Ni (ht_ch zo9 b9)) = true := fun zo9 hz9 b9 => by rw [hp] at hz9; cases hz9
                rcases r with _ | ⟨p, r2⟩
                · have hpar : (0 = 0 ∧ top = some a) ∨ ∃ p zo b, p ∈ F ∧ ht_rp (Ni p) = .inr zo ∧ ht_ch zo b = a ∧ 0 = ht_rl (Ni p) + 1 := Or.inl ⟨rfl, hstk.2.2⟩
                  refine lv_aload_n hx hb d_X_refresh_103 rfl (lv_at hl 2 rfl) ?_
                  refine lv_aload_n hx hb d_X_refresh_104 rfl (lv_at hl 1 rfl) ?_
                  refine lv_iload_n hx hb d_X_refresh_105 rfl (lv_at hl 3 rfl) ?_
                  refine lv_iconst (v := 1) hx hb d_X_refresh_106 (by decide) ?_
                  refine lv_icmp_le (tgt := 126) hx hb d_X_refresh_107 (by decide) (fun c107 => ?_) (fun c107 => ?_)
                  · refine lv_iconst (v := 0) hx hb d_X_refresh_126 (by decide) ?_
                    refine lv_aload_n hx hb d_X_refresh_127 rfl (lv_at hl 1 rfl) ?_
                    refine ht_get (C := R_L) (T := F_L) (N := 5) (v := .ref (A a).2.1) hx hb htb i_L hown HW hla rfl 2 (by decide) (htb _ wd_137) (fun _ h9 => h9) rfl d_X_refresh_128 ?_
                    refine ht_cv HW (va_runV (own := R_X) (C := R_X) (As := [.ref a, .int 0, .ref (A a).2.1]) (rest := []) ⟨hx, hb, hml, hown, htb⟩ (c_X_hashAt_L l g u hX hDgi hNi hTi haF hha hne hp 0) (cwV 3 htb (ht_gv wd_217 wd_219 sl_6 wd_1 g_X_hashAt) rfl rfl rfl (by decide +kernel) ⟨Nat.le_of_ble_eq_true rfl, Nat.le_of_ble_eq_true rfl⟩) (HW.preV hX rfl _) rfl rfl hl.1 rfl (lv_room (Nat.le_of_ble_eq_true rfl)) d_X_refresh_131 ⟨Nat.le_of_ble_eq_true rfl, Nat.le_of_ble_eq_true rfl⟩) (fun u1 H locs ph HW => ?_)
                    obtain ⟨dt1, eu1⟩ := ph
                    obtain ⟨HV, eHV⟩ : ∃ z9 : ht_K, z9 = (ht_dgf 0 (ht_rk (Ni a)) v) := ⟨_, rfl⟩
                    rw [← eHV] at eu1
                    have hHV : HV = ht_h ht_dgf (256 - 0) (ht_U Ni L a) := by
                      rw [eHV]
                      exact (by rw [hTi.U_leaf haF hp, ht_h_one])
                    have hF2 := ht_FH.pop hTi hFi haF hchl hpar hHV
                    have hR2 := hRi.pop (dt' := dt1) haF hF2
                    have hna : ht_at u1 a (ht_nc (ht_sh (Ni a) HV) (A a).1 (A a).2.1 (A a).2.2) := by
                      rw [eu1]
                      exact ht_at_ne (ht_Dg.ne (hNi a haF).1 (fun z9 => hRi.out 2 (by decide) (by rw [← z9]; exact haF)) (fun z9 => hRi.out 3 (by decide) (by rw [← z9]; exact haF)) (fun z9 => hRi.out 4 (by decide) (by rw [← z9]; exact haF))) (ht_tne (htgi.2 a haF).1 (htgi.2 a haF).2.2.1 (fun z9 => by cases z9))
                    refine lv_aload_n hx hb d_X_refresh_134 rfl (lv_at hl 1 rfl) ?_
                    refine lv_iconst (v := 1) hx hb d_X_refresh_135 (by decide) ?_
                    refine ht_npt (b := true) hx hb htb hown HW hna (htb _ wd_142) (fun _ h9 => h9) d_X_refresh_136 (fun H locs HW => ?_)
                    obtain ⟨u2, hu2⟩ : ∃ zW : ht_W, zW = ht_up u1 a (ht_nc (ht_sf (ht_sh (Ni a) HV) true) ((A a).1) ((A a).2.1) ((A a).2.2)) := ⟨_, rfl⟩
                    have HW : ht_I g s u2 H locs := by rw [hu2]; exact HW
                    have hna : ht_at u2 a (ht_nc (ht_sf (ht_sh (Ni a) HV) true) ((A a).1) ((A a).2.1) ((A a).2.2)) := by rw [hu2]; exact ht_at_self hna
                    obtain ⟨dp2, edp2⟩ : ∃ zI : Int32, zI = dp + (-1) := ⟨_, rfl⟩
                    refine lv_iinc (v := dp2) (lv' := [(1, .int dp2), (4, .null), (3, .ref a), (0, .ref (X 0)), (2, .int sp)]) hx hb d_X_refresh_139 hl (k := 3) rfl (by rw [edp2]; rfl) (by decide) rfl (fun ls hl => ?_)
                    obtain ⟨sp2, esp2⟩ : ∃ zI : Int32, zI = sp + 1 := ⟨_, rfl⟩
                    refine lv_iinc (v := sp2) (lv' := [(2, .int sp2), (1, .int dp2), (4, .null), (3, .ref a), (0, .ref (X 0))]) hx hb d_X_refresh_142 hl (k := 4) rfl (by rw [esp2]; rfl) (by decide) rfl (fun ls hl => ?_)
                    refine lv_goto (tgt := 33) hx hb d_X_refresh_145 (by decide) ?_
                    have hRz : ht_Rp ht_dgf g u2 X tg k (va_up Ni a (ht_sf (ht_sh (Ni a) HV) true)) A F top L dt1 opi sbf lsf enf ei := by rw [hu2, eu1]; exact hR2
                    have hst2 := ht_st_pop (HV := HV) hTi.1 haF hstk.hd.2
                    refine ih [] _ dt1 opi u2 (st + 1) hRz (hsmi.pop a HV) ?_ ?_ hopsi.2 ?_ ?_ (by omega) _ _ _ dp2 sp2 ?_ (by rw [esp2, esp, nI_1]) HW (lv_sub hl [4, 1, 0] rfl)
                    · rw [hu2, eu1]
                      exact ((hfri.trans (ht_frp (by rw [htgi.1 2 (by decide)]; decide) (by rw [htgi.1 3 (by decide)]; decide) (by rw [htgi.1 4 (by decide)]; decide))).trans (ht_fr.up (by rw [(htgi.2 a haF).2.2.1]; exact fun z9 => by cases z9))).trans (ht_fr.up (by rw [(htgi.2 a haF).1]; decide))
                    · refine hstk.tl.cg (fun x9 hx9 => ?_)
                      have nx9 : x9 ≠ a := fun z9 => Nat.lt_irrefl _ ((ht_stk.lt hTi hstk).2 a (by rw [← z9]; exact hx9))
                      rw [va_up_ne _ _ nx9]
                      exact ⟨rfl, rfl⟩
                    · intro _ t9 ht9
                      rw [hstk.2.2] at ht9
                      cases ht9
                      rw [va_up_self]
                      rfl
                    · simp only [List.length_cons] at hms ⊢
                      omega
                    · rw [edp2, edp]
                      exact pk_m1 _
                  · exact absurd (by rw [edp]; exact Int32.le_refl 1) c107
                · obtain ⟨zp, bp, hpz, hpe⟩ := hstk.2.2.1
                  have hpF := hstk.2.2.2.hd.1
                  have hpc := (hNi p hpF).1
                  have hpl := (hTi.half hpF hpz bp).2.2.1
                  rw [hpe] at hpl
                  have hpar : (ht_rl (Ni p) + 1 = 0 ∧ top = some a) ∨ ∃ p1 zo b, p1 ∈ F ∧ ht_rp (Ni p1) = .inr zo ∧ ht_ch zo b = a ∧ ht_rl (Ni p) + 1 = ht_rl (Ni p1) + 1 := Or.inr ⟨p, zp, bp, hpF, hpz, hpe, rfl⟩
                  refine lv_aload_n hx hb d_X_refresh_103 rfl (lv_at hl 2 rfl) ?_
                  refine lv_aload_n hx hb d_X_refresh_104 rfl (lv_at hl 1 rfl) ?_
                  refine lv_iload_n hx hb d_X_refresh_105 rfl (lv_at hl 3 rfl) ?_
                  refine lv_iconst (v := 1) hx hb d_X_refresh_106 (by decide) ?_
                  refine lv_icmp_le (tgt := 126) hx hb d_X_refresh_107 (by decide) (fun c107 => ?_) (fun c107 => ?_)
                  · exact absurd (show nI (a :: p :: r2).length ≤ nI 1 by rw [edp] at c107; exact c107) (nI_ge (by simp) (by simp only [List.length_cons] at hlen257 ⊢; omega))
                  · refine lv_aload_n hx hb d_X_refresh_110 rfl (lv_at hl 2 rfl) ?_
                    refine ht_get (C := R_X) (T := F_X) (N := 9) (v := .ref (X 5)) hx hb htb i_X hown HW hX rfl 2 (by decide) (htb _ wd_42) (fun _ h9 => h9) rfl d_X_refresh_111 ?_
                    refine lv_iload_n hx hb d_X_refresh_114 rfl (lv_at hl 3 rfl) ?_
                    refine lv_iconst (v := 2) hx hb d_X_refresh_115 (by decide) ?_
                    refine lv_isub hx hb d_X_refresh_116 ?_
                    refine lv_topi (fun i2 ei2 => ?_)
                    have hi2 : i2 = nI r2.length := by rw [ei2]; exact ht_sb (b := 2) edp rfl (by simp only [List.length_cons]; omega)
                    refine ht_aald hx hb HW hOp (by rw [hi2]; exact vp_in_nI (by simp only [List.length_cons] at hlen257; omega) (by omega)) d_X_refresh_117 ?_
                    rw [hi2, nI_clamp (by simp only [List.length_cons] at hlen257; omega), hopsi.2.1]
                    refine W.eq (g2 := F0 _ 118 ls [.ref p, .ref a, .ref (X 0)]) rfl ?_
                    refine ht_ngt hx hb htb hown HW hpc 1 (by decide) (htb _ wd_135) (fun _ h9 => h9) (v := .int (nI (ht_rl (Ni p)))) rfl d_X_refresh_118 ?_
                    refine lv_iconst (v := 1) hx hb d_X_refresh_121 (by decide) ?_
                    refine lv_iadd hx hb d_X_refresh_122 ?_
                    refine lv_topi (fun lvl elvl => ?_)
                    have elvl : lvl = nI (ht_rl (Ni p) + 1) := by rw [elvl, nI_1]
                    refine lv_goto (tgt := 127) hx hb d_X_refresh_123 (by decide) ?_
                    refine lv_aload_n hx hb d_X_refresh_127 rfl (lv_at hl 1 rfl) ?_
                    refine ht_get (C := R_L) (T := F_L) (N := 5) (v := .ref (A a).2.1) hx hb htb i_L hown HW hla rfl 2 (by decide) (htb _ wd_137) (fun _ h9 => h9) rfl d_X_refresh_128 ?_
                    refine ht_cv HW (va_runV (own := R_X) (C := R_X) (As := [.ref a, .int lvl, .ref (A a).2.1]) (rest := []) ⟨hx, hb, hml, hown, htb⟩ (c_X_hashAt_L l g u hX hDgi hNi hTi haF hha hne hp lvl) (cwV 3 htb (ht_gv wd_217 wd_219 sl_6 wd_1 g_X_hashAt) rfl rfl rfl (by decide +kernel) ⟨Nat.le_of_ble_eq_true rfl, Nat.le_of_ble_eq_true rfl⟩) (HW.preV hX rfl _) rfl rfl hl.1 rfl (lv_room (Nat.le_of_ble_eq_true rfl)) d_X_refresh_131 ⟨Nat.le_of_ble_eq_true rfl, Nat.le_of_ble_eq_true rfl⟩) (fun u3 H locs ph HW => ?_)
                    obtain ⟨dt1, eu3⟩ := ph
                    obtain ⟨HV, eHV⟩ : ∃ z9 : ht_K, z9 = (ht_dgf 0 (ht_rk (Ni a)) v) := ⟨_, rfl⟩
                    rw [← eHV] at eu3
                    have hHV : HV = ht_h ht_dgf (256 - (ht_rl (Ni p) + 1)) (ht_U Ni L a) := by
                      rw [eHV]
                      exact (by rw [hTi.U_leaf haF hp, ht_h_one])
                    have hF2 := ht_FH.pop hTi hFi haF hchl hpar hHV
                    have hR2 := hRi.pop (dt' := dt1) haF hF2
                    have hna : ht_at u3 a (ht_nc (ht_sh (Ni a) HV) (A a).1 (A a).2.1 (A a).2.2) := by
                      rw [eu3]
                      exact ht_at_ne (ht_Dg.ne (hNi a haF).1 (fun z9 => hRi.out 2 (by decide) (by rw [← z9]; exact haF)) (fun z9 => hRi.out 3 (by decide) (by rw [← z9]; exact haF)) (fun z9 => hRi.out 4 (by decide) (by rw [← z9]; exact haF))) (ht_tne (htgi.2 a haF).1 (htgi.2 a haF).2.2.1 (fun z9 => by cases z9))
                    refine lv_aload_n hx hb d_X_refresh_134 rfl (lv_at hl 1 rfl) ?_
                    refine lv_iconst (v := 1) hx hb d_X_refresh_135 (by decide) ?_
                    refine ht_npt (b := true) hx hb htb hown HW hna (htb _ wd_142) (fun _ h9 => h9) d_X_refresh_136 (fun H locs HW => ?_)
                    obtain ⟨u4, hu4⟩ : ∃ zW : ht_W, zW = ht_up u3 a (ht_nc (ht_sf (ht_sh (Ni a) HV) true) ((A a).1) ((A a).2.1) ((A a).2.2)) := ⟨_, rfl⟩
                    have HW : ht_I g s u4 H locs := by rw [hu4]; exact HW
                    have hna : ht_at u4 a (ht_nc (ht_sf (ht_sh (Ni a) HV) true) ((A a).1) ((A a).2.1) ((A a).2.2)) := by rw [hu4]; exact ht_at_self hna
                    obtain ⟨dp2, edp2⟩ : ∃ zI : Int32, zI = dp + (-1) := ⟨_, rfl⟩
                    refine lv_iinc (v := dp2) (lv' := [(1, .int dp2), (4, .null), (3, .ref a), (0, .ref (X 0)), (2, .int sp)]) hx hb d_X_refresh_139 hl (k := 3) rfl (by rw [edp2]; rfl) (by decide) rfl (fun ls hl => ?_)
                    obtain ⟨sp2, esp2⟩ : ∃ zI : Int32, zI = sp + 1 := ⟨_, rfl⟩
                    refine lv_iinc (v := sp2) (lv' := [(2, .int sp2), (1, .int dp2), (4, .null), (3, .ref a), (0, .ref (X 0))]) hx hb d_X_refresh_142 hl (k := 4) rfl (by rw [esp2]; rfl) (by decide) rfl (fun ls hl => ?_)
                    refine lv_goto (tgt := 33) hx hb d_X_refresh_145 (by decide) ?_
                    have hRz : ht_Rp ht_dgf g u4 X tg k (va_up Ni a (ht_sf (ht_sh (Ni a) HV) true)) A F top L dt1 opi sbf lsf enf ei := by rw [hu4, eu3]; exact hR2
                    have hst2 := ht_st_pop (HV := HV) hTi.1 haF hstk.hd.2
                    refine ih (p :: r2) _ dt1 opi u4 (st + 1) hRz (hsmi.pop a HV) ?_ ?_ hopsi.2 ?_ ?_ (by omega) _ _ _ dp2 sp2 ?_ (by rw [esp2, esp, nI_1]) HW (lv_sub hl [4, 1, 0] rfl)
                    · rw [hu4, eu3]
                      exact ((hfri.trans (ht_frp (by rw [htgi.1 2 (by decide)]; decide) (by rw [htgi.1 3 (by decide)]; decide) (by rw [htgi.1 4 (by decide)]; decide))).trans (ht_fr.up (by rw [(htgi.2 a haF).2.2.1]; exact fun z9 => by cases z9))).trans (ht_fr.up (by rw [(htgi.2 a haF).1]; decide))
                    · refine hstk.tl.cg (fun x9 hx9 => ?_)
                      have nx9 : x9 ≠ a := fun z9 => Nat.lt_irrefl _ ((ht_stk.lt hTi hstk).2 a (by rw [← z9]; exact hx9))
                      rw [va_up_ne _ _ nx9]
                      exact ⟨rfl, rfl⟩
                    · intro z9
                      cases z9
                    · simp only [List.length_cons] at hms ⊢
                      omega
                    · rw [edp2, edp]
                      exact pk_m1 _
              · exact absurd rfl c57
            · have hla := hNi.br haF hp
              have hzF := (hTi.half haF hp false).1
              have hoF := (hTi.half haF hp true).1
              have hc1 := (hNi zo.1 hzF).1
              have hc2 := (hNi zo.2 hoF).1
              have halt := (hTi.half haF hp false).2.1
              have nz5 : zo.1 ≠ X 5 := fun z9 => hRi.out 5 (by decide) (by rw [← z9]; exact hzF)
              have no5 : zo.2 ≠ X 5 := fun z9 => hRi.out 5 (by decide) (by rw [← z9]; exact hoF)
              have na5 : a ≠ X 5 := fun z9 => hRi.out 5 (by decide) (by rw [← z9]; exact haF)
              refine lv_aload_n hx hb d_X_refresh_53 rfl (lv_at hl 0 rfl) ?_
              refine va_instS hx hb hown (htb _ wd_87) (HW.2.1.1 3 _ rfl).2 (HW.recv hla (q := (R_B, F_B, 6)) rfl) d_X_refresh_54 ?_
              refine lv_if_eq (tgt := 74) hx hb d_X_refresh_57 (by decide) (fun c57 => ?_) (fun c57 => ?_)
              · exact absurd c57 (by decide)
              · refine lv_aload_n hx hb d_X_refresh_60 rfl (lv_at hl 0 rfl) ?_
                refine va_castS hx hb hown (htb _ wd_87) (HW.2.1.1 3 _ rfl).2 (HW.recv hla (q := (R_B, F_B, 6)) rfl) d_X_refresh_61 ?_
                refine lv_astore (lv' := [(5, .ref a), (3, .ref a), (0, .ref (X 0)), (1, .int dp), (2, .int sp)]) hx hb d_X_refresh_64 hl (by decide) rfl (fun ls hl => ?_)
                refine lv_aload hx hb d_X_refresh_66 (lv_at hl 0 rfl) ?_
                refine ht_cq HW (va_runV (own := R_X) (C := R_B) (As := []) (rest := []) ⟨hx, hb, hml, hown, htb⟩ (c_B_staleHalf l g u hla hc1 hc2) (cwV 0 htb (ht_gv wd_213 wd_214 wd_215 wd_8 g_B_staleHalf) rfl rfl rfl (by decide +kernel) ⟨Nat.le_of_ble_eq_true rfl, Nat.le_of_ble_eq_true rfl⟩) (HW.preV hla rfl _) rfl rfl hl.1 rfl (lv_room (Nat.le_of_ble_eq_true rfl)) d_X_refresh_68 ⟨Nat.le_of_ble_eq_true rfl, Nat.le_of_ble_eq_true rfl⟩) (fun q6 u5 H locs ps HW => ?_)
                obtain ⟨er, eww⟩ := ps
                subst eww
                rcases hf1 : ht_rf (Ni zo.1) with _ | _
                · rw [if_neg (by rw [hf1]; decide)] at er
                  subst er
                  refine W.eq (g2 := F0 _ 71 ls [.ref zo.1]) rfl ?_
                  obtain ⟨bb, hbb⟩ : ∃ bb, ht_ch zo bb = zo.1 := ⟨false, rfl⟩
                  have hchf := hf1
                  have hchF := hzF
                  have hchc := hc1
                  refine lv_goto (tgt := 75) hx hb d_X_refresh_71 (by decide) ?_
                  refine lv_astore (lv' := [(4, .ref zo.1), (5, .ref a), (3, .ref a), (0, .ref (X 0)), (1, .int dp), (2, .int sp)]) hx hb d_X_refresh_75 hl (by decide) rfl (fun ls hl => ?_)
                  refine lv_aload hx hb d_X_refresh_77 (lv_at hl 0 rfl) ?_
                  refine lv_ifnull hx hb d_X_refresh_79 ?_
                  refine lv_iload_n hx hb d_X_refresh_82 rfl (lv_at hl 4 rfl) ?_
                  refine lv_sipush (v := 257) hx hb d_X_refresh_83 (by decide) ?_
                  refine lv_icmp_ge (tgt := 103) hx hb d_X_refresh_86 (by decide) (fun c86 => ?_) (fun c86 => ?_)
                  · exact absurd (show nI 257 ≤ nI (a :: r).length by rw [edp] at c86; exact c86) (nI_ge (by rw [List.length_cons]; omega) (by omega))
                  · refine lv_aload_n hx hb d_X_refresh_89 rfl (lv_at hl 3 rfl) ?_
                    refine ht_get (C := R_X) (T := F_X) (N := 9) (v := .ref (X 5)) hx hb htb i_X hown HW hX rfl 2 (by decide) (htb _ wd_42) (fun _ h9 => h9) rfl d_X_refresh_90 ?_
                    refine lv_iload_n hx hb d_X_refresh_93 rfl (lv_at hl 4 rfl) ?_
                    refine lv_aload hx hb d_X_refresh_94 (lv_at hl 0 rfl) ?_
                    refine ht_aast hx hb HW hOp (ht_anyN HW hchc) (by rw [edp]; exact vp_in_nI (by rw [List.length_cons]; omega) (by omega)) d_X_refresh_96 (fun H locs HW => ?_)
                    rw [edp, nI_clamp (by rw [List.length_cons]; omega)] at HW
                    obtain ⟨u7, hu7⟩ : ∃ zW : ht_W, zW = ht_up u (X 5) (ht_aq g 257 (va_up opi (a :: r).length (some zo.1))) := ⟨_, rfl⟩
                    have HW : ht_I g s u7 H locs := by rw [hu7]; exact HW
                    have hX : ht_at u7 (X 0) (.inr (0, [.ref (X 1), .ref (X 2), .ref (X 5), va_rf top, .int (nI L.length), .ref (X 6), .ref (X 7), .ref (X 8), .int ei]) : va_E) := by rw [hu7]; exact ht_at_ne hX n05
                    have hOp : ht_at u7 (X 5) (ht_aq g 257 (va_up opi (a :: r).length (some zo.1))) := by rw [hu7]; exact ht_at_self hOp
                    have hla : ht_at u7 a (.inr (3, [.ref (A a).1, .int (nI (ht_rl (Ni a))), .ref (A a).2.1, .int (ht_b1 (ht_rf (Ni a))), .ref zo.1, .ref zo.2]) : va_E) := by rw [hu7]; exact ht_at_ne hla na5
                    have hc1 : ht_at u7 zo.1 (ht_nc (Ni zo.1) ((A zo.1).1) ((A zo.1).2.1) ((A zo.1).2.2)) := by rw [hu7]; exact ht_at_ne hc1 nz5
                    have hc2 : ht_at u7 zo.2 (ht_nc (Ni zo.2) ((A zo.2).1) ((A zo.2).2.1) ((A zo.2).2.2)) := by rw [hu7]; exact ht_at_ne hc2 no5
                    obtain ⟨dp2, edp2⟩ : ∃ zI : Int32, zI = dp + 1 := ⟨_, rfl⟩
                    refine lv_iinc (v := dp2) (lv' := [(1, .int dp2), (4, .ref zo.1), (5, .ref a), (3, .ref a), (0, .ref (X 0)), (2, .int sp)]) hx hb d_X_refresh_97 hl (k := 4) rfl (by rw [edp2]; rfl) (by decide) rfl (fun ls hl => ?_)
                    refine lv_goto (tgt := 142) hx hb d_X_refresh_100 (by decide) ?_
                    obtain ⟨sp2, esp2⟩ : ∃ zI : Int32, zI = sp + 1 := ⟨_, rfl⟩
                    refine lv_iinc (v := sp2) (lv' := [(2, .int sp2), (1, .int dp2), (4, .ref zo.1), (5, .ref a), (3, .ref a), (0, .ref (X 0))]) hx hb d_X_refresh_142 hl (k := 5) rfl (by rw [esp2]; rfl) (by decide) rfl (fun ls hl => ?_)
                    refine lv_goto (tgt := 33) hx hb d_X_refresh_145 (by decide) ?_
                    refine ih (zo.1 :: a :: r) Ni dti _ u7 (st + 1) (by rw [hu7]; exact hRi.opn) hsmi (by rw [hu7]; exact hfri.trans (ht_fr.up (by rw [htgi.1 5 (by decide)]; decide))) ⟨hchF, hchf, ⟨zo, bb, hp, hbb⟩, hstk⟩ ⟨va_up_self _ _ _, hopsi.cg (fun i9 hi9 => va_up_ne _ _ (by omega))⟩ (fun z9 => by cases z9) (by simp only [List.length_cons] at hms ⊢; omega) (by omega) _ _ _ dp2 sp2 (by rw [edp2, edp, nI_1]; rfl) (by rw [esp2, esp, nI_1]) HW (lv_sub hl [5, 1, 0] rfl)
                · rw [if_pos hf1] at er
                  rcases hf2 : ht_rf (Ni zo.2) with _ | _
                  · rw [if_neg (by rw [hf2]; decide)] at er
                    subst er
                    refine W.eq (g2 := F0 _ 71 ls [.ref zo.2]) rfl ?_
                    obtain ⟨bb, hbb⟩ : ∃ bb, ht_ch zo bb = zo.2 := ⟨true, rfl⟩
                    have hchf := hf2
                    have hchF := hoF
                    have hchc := hc2
                    refine lv_goto (tgt := 75) hx hb d_X_refresh_71 (by decide) ?_
                    refine lv_astore (lv' := [(4, .ref zo.2), (5, .ref a), (3, .ref a), (0, .ref (X 0)), (1, .int dp), (2, .int sp)]) hx hb d_X_refresh_75 hl (by decide) rfl (fun ls hl => ?_)
                    refine lv_aload hx hb d_X_refresh_77 (lv_at hl 0 rfl) ?_
                    refine lv_ifnull hx hb d_X_refresh_79 ?_
                    refine lv_iload_n hx hb d_X_refresh_82 rfl (lv_at hl 4 rfl) ?_
                    refine lv_sipush (v := 257) hx hb d_X_refresh_83 (by decide) ?_
                    refine lv_icmp_ge (tgt := 103) hx hb d_X_refresh_86 (by decide) (fun c86 => ?_) (fun c86 => ?_)
                    · exact absurd (show nI 257 ≤ nI (a :: r).length by rw [edp] at c86; exact c86) (nI_ge (by rw [List.length_cons]; omega) (by omega))
                    · refine lv_aload_n hx hb d_X_refresh_89 rfl (lv_at hl 3 rfl) ?_
                      refine ht_get (C := R_X) (T := F_X) (N := 9) (v := .ref (X 5)) hx hb htb i_X hown HW hX rfl 2 (by decide) (htb _ wd_42) (fun _ h9 => h9) rfl d_X_refresh_90 ?_
                      refine lv_iload_n hx hb d_X_refresh_93 rfl (lv_at hl 4 rfl) ?_
                      refine lv_aload hx hb d_X_refresh_94 (lv_at hl 0 rfl) ?_
                      refine ht_aast hx hb HW hOp (ht_anyN HW hchc) (by rw [edp]; exact vp_in_nI (by rw [List.length_cons]; omega) (by omega)) d_X_refresh_96 (fun H locs HW => ?_)
                      rw [edp, nI_clamp (by rw [List.length_cons]; omega)] at HW
                      obtain ⟨u8, hu8⟩ : ∃ zW : ht_W, zW = ht_up u (X 5) (ht_aq g 257 (va_up opi (a :: r).length (some zo.2))) := ⟨_, rfl⟩
                      have HW : ht_I g s u8 H locs := by rw [hu8]; exact HW
                      have hX : ht_at u8 (X 0) (.inr (0, [.ref (X 1), .ref (X 2), .ref (X 5), va_rf top, .int (nI L.length), .ref (X 6), .ref (X 7), .ref (X 8), .int ei]) : va_E) := by rw [hu8]; exact ht_at_ne hX n05
                      have hOp : ht_at u8 (X 5) (ht_aq g 257 (va_up opi (a :: r).length (some zo.2))) := by rw [hu8]; exact ht_at_self hOp
                      have hla : ht_at u8 a (.inr (3, [.ref (A a).1, .int (nI (ht_rl (Ni a))), .ref (A a).2.1, .int (ht_b1 (ht_rf (Ni a))), .ref zo.1, .ref zo.2]) : va_E) := by rw [hu8]; exact ht_at_ne hla na5
                      have hc1 : ht_at u8 zo.1 (ht_nc (Ni zo.1) ((A zo.1).1) ((A zo.1).2.1) ((A zo.1).2.2)) := by rw [hu8]; exact ht_at_ne hc1 nz5
                      have hc2 : ht_at u8 zo.2 (ht_nc (Ni zo.2) ((A zo.2).1) ((A zo.2).2.1) ((A zo.2).2.2)) := by rw [hu8]; exact ht_at_ne hc2 no5
                      obtain ⟨dp2, edp2⟩ : ∃ zI : Int32, zI = dp + 1 := ⟨_, rfl⟩
                      refine lv_iinc (v := dp2) (lv' := [(1, .int dp2), (4, .ref zo.2), (5, .ref a), (3, .ref a), (0, .ref (X 0)), (2, .int sp)]) hx hb d_X_refresh_97 hl (k := 4) rfl (by rw [edp2]; rfl) (by decide) rfl (fun ls hl => ?_)
                      refine lv_goto (tgt := 142) hx hb d_X_refresh_100 (by decide) ?_
                      obtain ⟨sp2, esp2⟩ : ∃ zI : Int32, zI = sp + 1 := ⟨_, rfl⟩
                      refine lv_iinc (v := sp2) (lv' := [(2, .int sp2), (1, .int dp2), (4, .ref zo.2), (5, .ref a), (3, .ref a), (0, .ref (X 0))]) hx hb d_X_refresh_142 hl (k := 5) rfl (by rw [esp2]; rfl) (by decide) rfl (fun ls hl => ?_)
                      refine lv_goto (tgt := 33) hx hb d_X_refresh_145 (by decide) ?_
                      refine ih (zo.2 :: a :: r) Ni dti _ u8 (st + 1) (by rw [hu8]; exact hRi.opn) hsmi (by rw [hu8]; exact hfri.trans (ht_fr.up (by rw [htgi.1 5 (by decide)]; decide))) ⟨hchF, hchf, ⟨zo, bb, hp, hbb⟩, hstk⟩ ⟨va_up_self _ _ _, hopsi.cg (fun i9 hi9 => va_up_ne _ _ (by omega))⟩ (fun z9 => by cases z9) (by simp only [List.length_cons] at hms ⊢; omega) (by omega) _ _ _ dp2 sp2 (by rw [edp2, edp, nI_1]; rfl) (by rw [esp2, esp, nI_1]) HW (lv_sub hl [5, 1, 0] rfl)
                  · rw [if_pos hf2] at er
                    subst er
                    refine W.eq (g2 := F0 _ 71 ls [.null]) rfl ?_
                    refine lv_goto (tgt := 75) hx hb d_X_refresh_71 (by decide) ?_
                    refine lv_astoreN (lv' := [(4, .null), (5, .ref a), (3, .ref a), (0, .ref (X 0)), (1, .int dp), (2, .int sp)]) hx hb d_X_refresh_75 hl (by decide) rfl (fun ls hl => ?_)
                    refine lv_aloadN hx hb d_X_refresh_77 (lv_at hl 0 rfl) ?_
                    refine lv_ifnullN (tgt := 103) hx hb d_X_refresh_79 (by decide) ?_
                    have hchl : ∀ zo9, ht_rp (Ni a) = .inr zo9 → ∀ b9, ht_rf (Ni (ht_ch zo9 b9)) = true := fun zo9 hz9 b9 => by
                      rw [hp] at hz9
                      cases hz9
                      cases b9
                      · exact hf1
                      · exact hf2
                    rcases r with _ | ⟨p, r2⟩
                    · have hpar : (0 = 0 ∧ top = some a) ∨ ∃ p zo b, p ∈ F ∧ ht_rp (Ni p) = .inr zo ∧ ht_ch zo b = a ∧ 0 = ht_rl (Ni p) + 1 := Or.inl ⟨rfl, hstk.2.2⟩
                      refine lv_aload_n hx hb d_X_refresh_103 rfl (lv_at hl 3 rfl) ?_
                      refine lv_aload_n hx hb d_X_refresh_104 rfl (lv_at hl 2 rfl) ?_
                      refine lv_iload_n hx hb d_X_refresh_105 rfl (lv_at hl 4 rfl) ?_
                      refine lv_iconst (v := 1) hx hb d_X_refresh_106 (by decide) ?_
                      refine lv_icmp_le (tgt := 126) hx hb d_X_refresh_107 (by decide) (fun c107 => ?_) (fun c107 => ?_)
                      · refine lv_iconst (v := 0) hx hb d_X_refresh_126 (by decide) ?_
                        refine lv_aload_n hx hb d_X_refresh_127 rfl (lv_at hl 2 rfl) ?_
                        refine ht_get (C := R_B) (T := F_B) (N := 6) (v := .ref (A a).2.1) hx hb htb i_B hown HW hla rfl 2 (by decide) (htb _ wd_137) (fun _ h9 => h9) rfl d_X_refresh_128 ?_
                        refine ht_cv HW (va_runV (own := R_X) (C := R_X) (As := [.ref a, .int 0, .ref (A a).2.1]) (rest := []) ⟨hx, hb, hml, hown, htb⟩ (c_X_hashAt_B l g u hX hDgi hNi hTi haF hha hne hp 0 (by omega) 0 rfl) (cwV 3 htb (ht_gv wd_217 wd_219 sl_6 wd_1 g_X_hashAt) rfl rfl rfl (by decide +kernel) ⟨Nat.le_of_ble_eq_true rfl, Nat.le_of_ble_eq_true rfl⟩) (HW.preV hX rfl _) rfl rfl hl.1 rfl (lv_room (Nat.le_of_ble_eq_true rfl)) d_X_refresh_131 ⟨Nat.le_of_ble_eq_true rfl, Nat.le_of_ble_eq_true rfl⟩) (fun u9 H locs ph HW => ?_)
                        obtain ⟨dt1, eu9⟩ := ph
                        obtain ⟨HV, eHV⟩ : ∃ z9 : ht_K, z9 = (ht_chn (ht_rk (Ni a)) (ht_rl (Ni a)) (ht_dgf 1 (ht_rh (Ni zo.1)) (ht_rh (Ni zo.2))) (ht_rl (Ni a) - 0)) := ⟨_, rfl⟩
                        rw [← eHV] at eu9
                        have hHV : HV = ht_h ht_dgf (256 - 0) (ht_U Ni L a) := by
                          rw [eHV]
                          exact (by
                          rw [hTi.hash_cv haF hp (hz := ht_rh (Ni zo.1)) (ho := ht_rh (Ni zo.2)) ((hFi.2 a haF zo hp false).1 hf1) ((hFi.2 a haF zo hp true).1 hf2) _ (Nat.sub_le _ _), show ht_rl (Ni a) - (ht_rl (Ni a) - 0) = 0 by omega])
                        have hF2 := ht_FH.pop hTi hFi haF hchl hpar hHV
                        have hR2 := hRi.pop (dt' := dt1) haF hF2
                        have hna : ht_at u9 a (ht_nc (ht_sh (Ni a) HV) (A a).1 (A a).2.1 (A a).2.2) := by
                          rw [eu9]
                          exact ht_at_ne (ht_Dg.ne (hNi a haF).1 (fun z9 => hRi.out 2 (by decide) (by rw [← z9]; exact haF)) (fun z9 => hRi.out 3 (by decide) (by rw [← z9]; exact haF)) (fun z9 => hRi.out 4 (by decide) (by rw [← z9]; exact haF))) (ht_tne (htgi.2 a haF).1 (htgi.2 a haF).2.2.1 (fun z9 => by cases z9))
                        refine lv_aload_n hx hb d_X_refresh_134 rfl (lv_at hl 2 rfl) ?_
                        refine lv_iconst (v := 1) hx hb d_X_refresh_135 (by decide) ?_
                        refine ht_npt (b := true) hx hb htb hown HW hna (htb _ wd_142) (fun _ h9 => h9) d_X_refresh_136 (fun H locs HW => ?_)
                        obtain ⟨u10, hu10⟩ : ∃ zW : ht_W, zW = ht_up u9 a (ht_nc (ht_sf (ht_sh (Ni a) HV) true) ((A a).1) ((A a).2.1) ((A a).2.2)) := ⟨_, rfl⟩
                        have HW : ht_I g s u10 H locs := by rw [hu10]; exact HW
                        have hna : ht_at u10 a (ht_nc (ht_sf (ht_sh (Ni a) HV) true) ((A a).1) ((A a).2.1) ((A a).2.2)) := by rw [hu10]; exact ht_at_self hna
                        obtain ⟨dp2, edp2⟩ : ∃ zI : Int32, zI = dp + (-1) := ⟨_, rfl⟩
                        refine lv_iinc (v := dp2) (lv' := [(1, .int dp2), (4, .null), (5, .ref a), (3, .ref a), (0, .ref (X 0)), (2, .int sp)]) hx hb d_X_refresh_139 hl (k := 4) rfl (by rw [edp2]; rfl) (by decide) rfl (fun ls hl => ?_)
                        obtain ⟨sp2, esp2⟩ : ∃ zI : Int32, zI = sp + 1 := ⟨_, rfl⟩
                        refine lv_iinc (v := sp2) (lv' := [(2, .int sp2), (1, .int dp2), (4, .null), (5, .ref a), (3, .ref a), (0, .ref (X 0))]) hx hb d_X_refresh_142 hl (k := 5) rfl (by rw [esp2]; rfl) (by decide) rfl (fun ls hl => ?_)
                        refine lv_goto (tgt := 33) hx hb d_X_refresh_145 (by decide) ?_
                        have hRz : ht_Rp ht_dgf g u10 X tg k (va_up Ni a (ht_sf (ht_sh (Ni a) HV) true)) A F top L dt1 opi sbf lsf enf ei := by rw [hu10, eu9]; exact hR2
                        have hst2 := ht_st_pop (HV := HV) hTi.1 haF hstk.hd.2
                        refine ih [] _ dt1 opi u10 (st + 1) hRz (hsmi.pop a HV) ?_ ?_ hopsi.2 ?_ ?_ (by omega) _ _ _ dp2 sp2 ?_ (by rw [esp2, esp, nI_1]) HW (lv_sub hl [5, 1, 0] rfl)
                        · rw [hu10, eu9]
                          exact ((hfri.trans (ht_frp (by rw [htgi.1 2 (by decide)]; decide) (by rw [htgi.1 3 (by decide)]; decide) (by rw [htgi.1 4 (by decide)]; decide))).trans (ht_fr.up (by rw [(htgi.2 a haF).2.2.1]; exact fun z9 => by cases z9))).trans (ht_fr.up (by rw [(htgi.2 a haF).1]; decide))
                        · refine hstk.tl.cg (fun x9 hx9 => ?_)
                          have nx9 : x9 ≠ a := fun z9 => Nat.lt_irrefl _ ((ht_stk.lt hTi hstk).2 a (by rw [← z9]; exact hx9))
                          rw [va_up_ne _ _ nx9]
                          exact ⟨rfl, rfl⟩
                        · intro _ t9 ht9
                          rw [hstk.2.2] at ht9
                          cases ht9
                          rw [va_up_self]
                          rfl
                        · simp only [List.length_cons] at hms ⊢
                          omega
                        · rw [edp2, edp]
                          exact pk_m1 _
                      · exact absurd (by rw [edp]; exact Int32.le_refl 1) c107
                    · obtain ⟨zp, bp, hpz, hpe⟩ := hstk.2.2.1
                      have hpF := hstk.2.2.2.hd.1
                      have hpc := (hNi p hpF).1
                      have hpl := (hTi.half hpF hpz bp).2.2.1
                      rw [hpe] at hpl
                      have hpar : (ht_rl (Ni p) + 1 = 0 ∧ top = some a) ∨ ∃ p1 zo b, p1 ∈ F ∧ ht_rp (Ni p1) = .inr zo ∧ ht_ch zo b = a ∧ ht_rl (Ni p) + 1 = ht_rl (Ni p1) + 1 := Or.inr ⟨p, zp, bp, hpF, hpz, hpe, rfl⟩
                      refine lv_aload_n hx hb d_X_refresh_103 rfl (lv_at hl 3 rfl) ?_
                      refine lv_aload_n hx hb d_X_refresh_104 rfl (lv_at hl 2 rfl) ?_
                      refine lv_iload_n hx hb d_X_refresh_105 rfl (lv_at hl 4 rfl) ?_
                      refine lv_iconst (v := 1) hx hb d_X_refresh_106 (by decide) ?_
                      refine lv_icmp_le (tgt := 126) hx hb d_X_refresh_107 (by decide) (fun c107 => ?_) (fun c107 => ?_)
                      · exact absurd (show nI (a :: p :: r2).length ≤ nI 1 by rw [edp] at c107; exact c107) (nI_ge (by simp) (by simp only [List.length_cons] at hlen257 ⊢; omega))
                      · refine lv_aload_n hx hb d_X_refresh_110 rfl (lv_at hl 3 rfl) ?_
                        refine ht_get (C := R_X) (T := F_X) (N := 9) (v := .ref (X 5)) hx hb htb i_X hown HW hX rfl 2 (by decide) (htb _ wd_42) (fun _ h9 => h9) rfl d_X_refresh_111 ?_
                        refine lv_iload_n hx hb d_X_refresh_114 rfl (lv_at hl 4 rfl) ?_
                        refine lv_iconst (v := 2) hx hb d_X_refresh_115 (by decide) ?_
                        refine lv_isub hx hb d_X_refresh_116 ?_
                        refine lv_topi (fun i2 ei2 => ?_)
                        have hi2 : i2 = nI r2.length := by rw [ei2]; exact ht_sb (b := 2) edp rfl (by simp only [List.length_cons]; omega)
                        refine ht_aald hx hb HW hOp (by rw [hi2]; exact vp_in_nI (by simp only [List.length_cons] at hlen257; omega) (by omega)) d_X_refresh_117 ?_
                        rw [hi2, nI_clamp (by simp only [List.length_cons] at hlen257; omega), hopsi.2.1]
                        refine W.eq (g2 := F0 _ 118 ls [.ref p, .ref a, .ref (X 0)]) rfl ?_
                        refine ht_ngt hx hb htb hown HW hpc 1 (by decide) (htb _ wd_135) (fun _ h9 => h9) (v := .int (nI (ht_rl (Ni p)))) rfl d_X_refresh_118 ?_
                        refine lv_iconst (v := 1) hx hb d_X_refresh_121 (by decide) ?_
                        refine lv_iadd hx hb d_X_refresh_122 ?_
                        refine lv_topi (fun lvl elvl => ?_)
                        have elvl : lvl = nI (ht_rl (Ni p) + 1) := by rw [elvl, nI_1]
                        refine lv_goto (tgt := 127) hx hb d_X_refresh_123 (by decide) ?_
                        refine lv_aload_n hx hb d_X_refresh_127 rfl (lv_at hl 2 rfl) ?_
                        refine ht_get (C := R_B) (T := F_B) (N := 6) (v := .ref (A a).2.1) hx hb htb i_B hown HW hla rfl 2 (by decide) (htb _ wd_137) (fun _ h9 => h9) rfl d_X_refresh_128 ?_
                        refine ht_cv HW (va_runV (own := R_X) (C := R_X) (As := [.ref a, .int lvl, .ref (A a).2.1]) (rest := []) ⟨hx, hb, hml, hown, htb⟩ (c_X_hashAt_B l g u hX hDgi hNi hTi haF hha hne hp (ht_rl (Ni p) + 1) (by omega) lvl elvl) (cwV 3 htb (ht_gv wd_217 wd_219 sl_6 wd_1 g_X_hashAt) rfl rfl rfl (by decide +kernel) ⟨Nat.le_of_ble_eq_true rfl, Nat.le_of_ble_eq_true rfl⟩) (HW.preV hX rfl _) rfl rfl hl.1 rfl (lv_room (Nat.le_of_ble_eq_true rfl)) d_X_refresh_131 ⟨Nat.le_of_ble_eq_true rfl, Nat.le_of_ble_eq_true rfl⟩) (fun u11 H locs ph HW => ?_)
                        obtain ⟨dt1, eu11⟩ := ph
                        obtain ⟨HV, eHV⟩ : ∃ z9 : ht_K, z9 = (ht_chn (ht_rk (Ni a)) (ht_rl (Ni a)) (ht_dgf 1 (ht_rh (Ni zo.1)) (ht_rh (Ni zo.2))) (ht_rl (Ni a) - (ht_rl (Ni p) + 1))) := ⟨_, rfl⟩
                        rw [← eHV] at eu11
                        have hHV : HV = ht_h ht_dgf (256 - (ht_rl (Ni p) + 1)) (ht_U Ni L a) := by
                          rw [eHV]
                          exact (by
                          rw [hTi.hash_cv haF hp (hz := ht_rh (Ni zo.1)) (ho := ht_rh (Ni zo.2)) ((hFi.2 a haF zo hp false).1 hf1) ((hFi.2 a haF zo hp true).1 hf2) _ (Nat.sub_le _ _), show ht_rl (Ni a) - (ht_rl (Ni a) - (ht_rl (Ni p) + 1)) = (ht_rl (Ni p) + 1) by omega])
                        have hF2 := ht_FH.pop hTi hFi haF hchl hpar hHV
                        have hR2 := hRi.pop (dt' := dt1) haF hF2
                        have hna : ht_at u11 a (ht_nc (ht_sh (Ni a) HV) (A a).1 (A a).2.1 (A a).2.2) := by
                          rw [eu11]
                          exact ht_at_ne (ht_Dg.ne (hNi a haF).1 (fun z9 => hRi.out 2 (by decide) (by rw [← z9]; exact haF)) (fun z9 => hRi.out 3 (by decide) (by rw [← z9]; exact haF)) (fun z9 => hRi.out 4 (by decide) (by rw [← z9]; exact haF))) (ht_tne (htgi.2 a haF).1 (htgi.2 a haF).2.2.1 (fun z9 => by cases z9))
                        refine lv_aload_n hx hb d_X_refresh_134 rfl (lv_at hl 2 rfl) ?_
                        refine lv_iconst (v := 1) hx hb d_X_refresh_135 (by decide) ?_
                        refine ht_npt (b := true) hx hb htb hown HW hna (htb _ wd_142) (fun _ h9 => h9) d_X_refresh_136 (fun H locs HW => ?_)
                        obtain ⟨u12, hu12⟩ : ∃ zW : ht_W, zW = ht_up u11 a (ht_nc (ht_sf (ht_sh (Ni a) HV) true) ((A a).1) ((A a).2.1) ((A a).2.2)) := ⟨_, rfl⟩
                        have HW : ht_I g s u12 H locs := by rw [hu12]; exact HW
                        have hna : ht_at u12 a (ht_nc (ht_sf (ht_sh (Ni a) HV) true) ((A a).1) ((A a).2.1) ((A a).2.2)) := by rw [hu12]; exact ht_at_self hna
                        obtain ⟨dp2, edp2⟩ : ∃ zI : Int32, zI = dp + (-1) := ⟨_, rfl⟩
                        refine lv_iinc (v := dp2) (lv' := [(1, .int dp2), (4, .null), (5, .ref a), (3, .ref a), (0, .ref (X 0)), (2, .int sp)]) hx hb d_X_refresh_139 hl (k := 4) rfl (by rw [edp2]; rfl) (by decide) rfl (fun ls hl => ?_)
                        obtain ⟨sp2, esp2⟩ : ∃ zI : Int32, zI = sp + 1 := ⟨_, rfl⟩
                        refine lv_iinc (v := sp2) (lv' := [(2, .int sp2), (1, .int dp2), (4, .null), (5, .ref a), (3, .ref a), (0, .ref (X 0))]) hx hb d_X_refresh_142 hl (k := 5) rfl (by rw [esp2]; rfl) (by decide) rfl (fun ls hl => ?_)
                        refine lv_goto (tgt := 33) hx hb d_X_refresh_145 (by decide) ?_
                        have hRz : ht_Rp ht_dgf g u12 X tg k (va_up Ni a (ht_sf (ht_sh (Ni a) HV) true)) A F top L dt1 opi sbf lsf enf ei := by rw [hu12, eu11]; exact hR2
                        have hst2 := ht_st_pop (HV := HV) hTi.1 haF hstk.hd.2
                        refine ih (p :: r2) _ dt1 opi u12 (st + 1) hRz (hsmi.pop a HV) ?_ ?_ hopsi.2 ?_ ?_ (by omega) _ _ _ dp2 sp2 ?_ (by rw [esp2, esp, nI_1]) HW (lv_sub hl [5, 1, 0] rfl)
                        · rw [hu12, eu11]
                          exact ((hfri.trans (ht_frp (by rw [htgi.1 2 (by decide)]; decide) (by rw [htgi.1 3 (by decide)]; decide) (by rw [htgi.1 4 (by decide)]; decide))).trans (ht_fr.up (by rw [(htgi.2 a haF).2.2.1]; exact fun z9 => by cases z9))).trans (ht_fr.up (by rw [(htgi.2 a haF).1]; decide))
                        · refine hstk.tl.cg (fun x9 hx9 => ?_)
                          have nx9 : x9 ≠ a := fun z9 => Nat.lt_irrefl _ ((ht_stk.lt hTi hstk).2 a (by rw [← z9]; exact hx9))
                          rw [va_up_ne _ _ nx9]
                          exact ⟨rfl, rfl⟩
                        · intro z9
                          cases z9
                        · simp only [List.length_cons] at hms ⊢
                          omega
                        · rw [edp2, edp]
                          exact pk_m1 _
  cases top with
  | none =>
    refine lv_iconst (v := 0) hx hb d_X_refresh_0 (by decide) ?_
    refine lv_istore_n (lv' := [(1, .int 0), (0, .ref (X 0))]) hx hb d_X_refresh_1 rfl hl (by decide) rfl (fun ls hl => ?_)
    refine lv_aload_n hx hb d_X_refresh_2 rfl (lv_at hl 1 rfl) ?_
    refine ht_get (C := R_X) (T := F_X) (N := 9) (v := .null) hx hb htb i_X hown HW hX rfl 3 (by decide) (htb _ wd_43) (fun _ h9 => h9) rfl d_X_refresh_3 ?_
    refine lv_ifnullN (tgt := 31) hx hb d_X_refresh_6 (by decide) ?_
    refine lv_iconst (v := 0) hx hb d_X_refresh_31 (by decide) ?_
    refine lv_istore_n (lv' := [(2, .int 0), (1, .int 0), (0, .ref (X 0))]) hx hb d_X_refresh_32 rfl hl (by decide) rfl (fun ls hl => ?_)
    exact loop 0 [] N dt opf w 0 hR ht_sm.rf ht_fr.rf trivial trivial (fun _ t9 h9 => by cases h9) (by rw [(hT.2.2.1.2 rfl).1]; exact Nat.le_refl 0) (by omega) _ _ _ 0 0 rfl rfl HW (lv_sub hl [2, 1, 0] rfl)
  | some t =>
    have htF := (hT.2.2.1.1 t rfl).1
    have htc := (hN t htF).1
    have n05 : X 0 ≠ X 5 := ht_tne (htg.1 0 (by decide)) (htg.1 5 (by decide)) (by decide)
    have nt5 : t ≠ X 5 := fun z9 => hR.out 5 (by decide) (by rw [← z9]; exact htF)
    have nt0 : X 0 ≠ t := fun z9 => hR.out 0 (by decide) (by rw [z9]; exact htF)
    have hstF : ht_st N F ≤ F.length := List.length_filter_le _ _
    have hst1 : ht_rf (N t) = false → 1 ≤ ht_st N F := fun h9 => List.length_pos_of_mem (List.mem_filter.mpr ⟨htF, by rw [h9]; rfl⟩)
    refine lv_iconst (v := 0) hx hb d_X_refresh_0 (by decide) ?_
    refine lv_istore_n (lv' := [(1, .int 0), (0, .ref (X 0))]) hx hb d_X_refresh_1 rfl hl (by decide) rfl (fun ls hl => ?_)
    refine lv_aload_n hx hb d_X_refresh_2 rfl (lv_at hl 1 rfl) ?_
    refine ht_get (C := R_X) (T := F_X) (N := 9) (v := .ref t) hx hb htb i_X hown HW hX rfl 3 (by decide) (htb _ wd_43) (fun _ h9 => h9) rfl d_X_refresh_3 ?_
    refine lv_ifnull hx hb d_X_refresh_6 ?_
    refine lv_aload_n hx hb d_X_refresh_9 rfl (lv_at hl 1 rfl) ?_
    refine ht_get (C := R_X) (T := F_X) (N := 9) (v := .ref t) hx hb htb i_X hown HW hX rfl 3 (by decide) (htb _ wd_43) (fun _ h9 => h9) rfl d_X_refresh_10 ?_
    refine ht_ngt hx hb htb hown HW htc 3 (by decide) (htb _ wd_142) (fun _ h9 => h9) (v := .int (ht_b1 (ht_rf (N t)))) rfl d_X_refresh_13 ?_
    refine lv_if_ne (tgt := 31) hx hb d_X_refresh_16 (by decide) (fun c16 => ?_) (fun c16 => ?_)
    · have hfr0 := ht_b1_1 c16
      refine lv_iconst (v := 0) hx hb d_X_refresh_31 (by decide) ?_
      refine lv_istore_n (lv' := [(2, .int 0), (1, .int 0), (0, .ref (X 0))]) hx hb d_X_refresh_32 rfl hl (by decide) rfl (fun ls hl => ?_)
      exact loop (2 * ht_st N F) [] N dt opf w 0 hR ht_sm.rf ht_fr.rf trivial trivial (fun _ t9 h9 => by cases h9; exact hfr0) (Nat.le_refl _) (by omega) _ _ _ 0 0 rfl rfl HW (lv_sub hl [2, 1, 0] rfl)
    · have hfr0 := ht_b1_0 c16
      refine lv_aload_n hx hb d_X_refresh_19 rfl (lv_at hl 1 rfl) ?_
      refine ht_get (C := R_X) (T := F_X) (N := 9) (v := .ref (X 5)) hx hb htb i_X hown HW hX rfl 2 (by decide) (htb _ wd_42) (fun _ h9 => h9) rfl d_X_refresh_20 ?_
      refine lv_iconst (v := 0) hx hb d_X_refresh_23 (by decide) ?_
      refine lv_aload_n hx hb d_X_refresh_24 rfl (lv_at hl 1 rfl) ?_
      refine ht_get (C := R_X) (T := F_X) (N := 9) (v := .ref t) hx hb htb i_X hown HW hX rfl 3 (by decide) (htb _ wd_43) (fun _ h9 => h9) rfl d_X_refresh_25 ?_
      refine ht_aast hx hb HW hOp (ht_anyN HW htc) (by unfold vp_in; decide) d_X_refresh_28 (fun H locs HW => ?_)
      obtain ⟨u1, hu1⟩ : ∃ zW : ht_W, zW = ht_up w (X 5) (ht_aq g 257 (va_up opf 0 (some t))) := ⟨_, rfl⟩
      have HW : ht_I g s u1 H locs := by rw [hu1]; exact HW
      have hX : ht_at u1 (X 0) (.inr (0, [.ref (X 1), .ref (X 2), .ref (X 5), .ref t, .int (nI L.length), .ref (X 6), .ref (X 7), .ref (X 8), .int ei]) : va_E) := by rw [hu1]; exact ht_at_ne hX n05
      have hOp : ht_at u1 (X 5) (ht_aq g 257 (va_up opf 0 (some t))) := by rw [hu1]; exact ht_at_self hOp
      have htc : ht_at u1 t (ht_nc (N t) ((A t).1) ((A t).2.1) ((A t).2.2)) := by rw [hu1]; exact ht_at_ne htc nt5
      refine lv_iconst (v := 1) hx hb d_X_refresh_29 (by decide) ?_
      refine lv_istore_n (lv' := [(1, .int 1), (0, .ref (X 0))]) hx hb d_X_refresh_30 rfl hl (by decide) rfl (fun ls hl => ?_)
      refine lv_iconst (v := 0) hx hb d_X_refresh_31 (by decide) ?_
      refine lv_istore_n (lv' := [(2, .int 0), (1, .int 1), (0, .ref (X 0))]) hx hb d_X_refresh_32 rfl hl (by decide) rfl (fun ls hl => ?_)
      exact loop (2 * ht_st N F - 1) [t] N dt _ u1 0 (by rw [hu1]; exact hR.opn) ht_sm.rf (by rw [hu1]; exact ht_fr.up (by rw [htg.1 5 (by decide)]; decide)) ⟨htF, hfr0, rfl⟩ ⟨va_up_self _ _ _, trivial⟩ (fun z9 => by cases z9) (by simp only [List.length_cons, List.length_nil]; omega) (by omega) _ _ _ 1 0 rfl rfl HW (lv_sub hl [2, 1, 0] rfl)
