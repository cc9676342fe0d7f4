/-- the branches on a key's way that part keys before level b have been marked; nothing else has changed -/
def ht_mkd (N : ht_N) (F : List Nat) (k : ht_K) (b : Nat) (N' : ht_N) : Prop := (∀ a, N' a = N a ∨ N' a = ht_sf (N a) false) ∧ (∀ a ∈ F, ht_in N a k → (∃ zo, ht_rp (N a) = .inr zo) → ht_rl (N a) < b → ht_rf (N' a) = false) ∧ ∀ a, ¬ ht_in N a k → N' a = N a
theorem ht_mkd.rp {N : ht_N} {F : List Nat} {k : ht_K} {b : Nat} {N' : ht_N} (h : ht_mkd N F k b N') (a : Nat) : ht_rp (N' a) = ht_rp (N a) ∧ ht_rk (N' a) = ht_rk (N a) ∧ ht_rl (N' a) = ht_rl (N a) ∧ ht_rh (N' a) = ht_rh (N a) := by
  rcases h.1 a with e | e <;> rw [e] <;> exact ⟨rfl, rfl, rfl, rfl⟩
theorem ht_mkd.le {N : ht_N} {F : List Nat} {k : ht_K} {b b' : Nat} {N' : ht_N} (h : ht_mkd N F k b N') (hb : b' ≤ b) : ht_mkd N F k b' N' := ⟨h.1, fun a ha hi hz hl => h.2.1 a ha hi hz (Nat.lt_of_lt_of_le hl hb), h.2.2⟩
theorem ht_mkd.start {N : ht_N} {F : List Nat} {k : ht_K} {t : Nat} {L : ht_L} (hT : ht_T N F (some t) L) : ht_mkd N F k (ht_rl (N t)) N := ⟨fun _ => Or.inl rfl, fun a ha _ _ hl => absurd hl (Nat.not_lt.mpr (hT.topL ha)), fun _ _ => rfl⟩
theorem ht_mkd.step {N : ht_N} {F : List Nat} {k : ht_K} {top : Option Nat} {L : ht_L} {N' : ht_N} {c : Nat} (hT : ht_T N F top L) (h : ht_mkd N F k (ht_rl (N c)) N') (hc : c ∈ F) (hi : ht_in N c k) {zo : Nat × Nat} (hp : ht_rp (N c) = .inr zo) : ht_mkd N F k (ht_rl (N (ht_ch zo (ht_bit k (ht_rl (N c)))))) (va_up N' c (ht_sf (N' c) false)) := by
  refine ⟨fun a => ?_, fun a ha hia hz hl => ?_, fun a hna => ?_⟩
  · by_cases e : a = c
    · subst e
      rw [va_up_self]
      rcases h.1 a with e | e <;> rw [e]
      · exact Or.inr rfl
      · exact Or.inr rfl
    · rw [va_up_ne _ _ e]
      exact h.1 a
  · by_cases e : a = c
    · subst e
      rw [va_up_self]
      rfl
    · rw [va_up_ne _ _ e]
      rcases Nat.lt_trichotomy (ht_rl (N a)) (ht_rl (N c)) with q | q | q
      · exact h.2.1 a ha hia hz q
      · exact absurd (hT.same ha hc hi hia q) e
      · exact absurd (hT.nojump ha hc hp hi hia q) (Nat.not_le.mpr hl)
  · have e : a ≠ c := fun z => hna (z ▸ hi)
    rw [va_up_ne _ _ e]
    exact h.2.2 a hna
set_option maxHeartbeats 4000000 in
set_option maxRecDepth 100000 in
theorem c_X_stalePath (l : Launch) (g : ht_G) (w : ht_W) {x kA dg op sb la en : Nat} {t : Nat} {cnt ei : Int32} {k : ht_K} {N : ht_N} {A : ht_AA} {F : List Nat} {L : ht_L} (hX : ht_at w x (.inr (0, [.ref kA, .ref dg, .ref op, .ref t, .int cnt, .ref sb, .ref la, .ref en, .int ei]))) (hK : ht_at w kA (ht_al g 4 (ht_kf k))) (hN : ht_Nd g w N A F) (hT : ht_T N F (some t) L) (lim : Nat) (hlim : lim ≤ 256) (li : Int32) (eli : li = nI lim) {qs : ht_K × ht_K} (hqs : qs ∈ L) (hqp : lim ≤ ht_part k qs.1) : Met l y_X_stalePath ws_X_stalePath ({ frames := 1, cells := 0, slots := 0, locals := 30 } : Room) (va_Pc [.ref x, .int li] (ht_WS g w)) (ht_Qq g (fun r u => ∃ (N' : ht_N) (be : Nat), ht_Nd g u N' A F ∧ ht_fr (fun b => b ∈ F) w u ∧ ht_mkd N F k lim N' ∧ ht_slot N F (some t) k lim r be)) 0 0 (ht_A g) := by
  refine Met.ofW (cc := b_X_stalePath) (maxL := 5) (ret := (some (.object "HashTree$Branch"))) (by decide) rfl ?_
  intro p e s m args below meth c s₁ BB hml hv
  obtain ⟨rfl, HW⟩ := hv
  have HW := ht_I.start HW
  have hx := BB.exec
  have hb := BB.bytes
  have hr := BB.returns
  have hts := atoms_spec (ws := ws_X_stalePath) BB.pre
  have htb : ∀ w ∈ bg, w.before _ s = true := fun w h => hts w (List.mem_cons_of_mem _ h)
  have hown : s.vm.findClass R_X = some m.cls := findClass_of_methodNamed BB.named
  have hlocks := BB.notSynchronized
  have hl := lv_entry ([.ref x, .int li]) (n := 5) (Nat.le_of_ble_eq_true rfl)
  rw [lg_entry_eq]
  generalize (lg_sl ([.ref x, .int li]) ++ List.replicate (5 - (lg_sl ([.ref x, .int li])).length) Slot.unset).toArray = ls at hl ⊢
  have hl : lv_has ls 5 [(0, .ref x), (1, .int li)] := hl
  have loop : ∀ (n cu : Nat), cu ∈ F → ht_in N cu qs.1 → 256 ≤ ht_rl (N cu) + n → ∀ (last : Option Nat) (Ni : ht_N) (u : ht_W), ht_Nd g u Ni A F → ht_fr (fun b => b ∈ F) w u → ht_mkd N F k (ht_rl (N cu)) Ni → ((last = none ∧ t = cu) ∨ ∃ c1 zo, last = some c1 ∧ c1 ∈ F ∧ ht_in N c1 k ∧ ht_rl (N c1) < lim ∧ ht_rp (N c1) = .inr zo ∧ ht_ch zo (ht_bit k (ht_rl (N c1))) = cu) → ∀ (H : Heap) (locs : List Loc) (ls : Array Slot), ht_I g s u H locs → lv_has ls 5 [(0, .ref x), (1, .int li), (2, va_rf last), (3, .ref cu)] → W p l e (headSpec ws_X_stalePath ({ frames := 1, cells := 0, slots := 0, locals := 30 } : Room)).room s m ([.ref x, .int li] : List Value).toArray below meth c H locs 0 0 (MQ below (ht_Qq g (fun r u => ∃ (N' : ht_N) (be : Nat), ht_Nd g u N' A F ∧ ht_fr (fun b => b ∈ F) w u ∧ ht_mkd N F k lim N' ∧ ht_slot N F (some t) k lim r be)) ([.ref x, .int li] : List Value).toArray s 0 0 (ht_A g)) (F0 m 7 ls []) := by
    intro n
    induction n with
    | zero =>
      intro cu hc hcq hn last Ni u hNi hfr hmk hlast H locs ls HW hl
      have hX := hfr.at hX (hN.x hX)
      have hK := hfr.at hK (hN.l hK)
      cases hp : ht_rp (N cu) with
      | inl v =>
        have hpi := (hmk.rp cu).1.trans hp
        have hla := hNi.lf hc hpi
        rw [(hmk.rp cu).2.2.1] at hla
        have hlc : lim ≤ ht_rl (N cu) := by rw [(hT.2.2.2.1 cu hc v hp).1]; exact hlim
        refine lv_aload_n hx hb d_X_stalePath_7 rfl (lv_at hl 3 rfl) ?_
        refine va_instNo hx hb hown (htb _ wd_87) HW.2.2.1.2.2.2.2.2.2.2.1 (HW.recv hla (q := (R_L, F_L, 5)) rfl) d_X_stalePath_8 ?_
        refine lv_if_eq (tgt := 59) hx hb d_X_stalePath_11 (by decide) (fun c11 => ?_) (fun c11 => ?_)
        · have hsl : ht_slot N F (some t) k lim last cu := ⟨hc, hlc, hlast.elim (fun q => Or.inl ⟨q.1, by rw [q.2]⟩) Or.inr⟩
          rcases last with _ | pp
          · refine lv_aload_nN hx hb d_X_stalePath_59 rfl (lv_at hl 2 rfl) ?_
            exact ht_qret (r := none) hx hb hr hlocks HW ⟨Ni, cu, hNi, hfr, hmk.le hlc, hsl⟩ d_X_stalePath_60
          · refine lv_aload_n hx hb d_X_stalePath_59 rfl (lv_at hl 2 rfl) ?_
            exact ht_qret (r := some pp) hx hb hr hlocks HW ⟨Ni, cu, hNi, hfr, hmk.le hlc, hsl⟩ d_X_stalePath_60
        · exact absurd rfl c11
      | inr zo =>
        have := (hT.half hc hp false).2.1
        omega
    | succ n ih =>
      intro cu hc hcq hn last Ni u hNi hfr hmk hlast H locs ls HW hl
      have hX := hfr.at hX (hN.x hX)
      have hK := hfr.at hK (hN.l hK)
      cases hp : ht_rp (N cu) with
      | inl v =>
        have hpi := (hmk.rp cu).1.trans hp
        have hla := hNi.lf hc hpi
        rw [(hmk.rp cu).2.2.1] at hla
        have hlc : lim ≤ ht_rl (N cu) := by rw [(hT.2.2.2.1 cu hc v hp).1]; exact hlim
        refine lv_aload_n hx hb d_X_stalePath_7 rfl (lv_at hl 3 rfl) ?_
        refine va_instNo hx hb hown (htb _ wd_87) HW.2.2.1.2.2.2.2.2.2.2.1 (HW.recv hla (q := (R_L, F_L, 5)) rfl) d_X_stalePath_8 ?_
        refine lv_if_eq (tgt := 59) hx hb d_X_stalePath_11 (by decide) (fun c11 => ?_) (fun c11 => ?_)
        · have hsl : ht_slot N F (some t) k lim last cu := ⟨hc, hlc, hlast.elim (fun q => Or.inl ⟨q.1, by rw [q.2]⟩) Or.inr⟩
          rcases last with _ | pp
          · refine lv_aload_nN hx hb d_X_stalePath_59 rfl (lv_at hl 2 rfl) ?_
            exact ht_qret (r := none) hx hb hr hlocks HW ⟨Ni, cu, hNi, hfr, hmk.le hlc, hsl⟩ d_X_stalePath_60
          · refine lv_aload_n hx hb d_X_stalePath_59 rfl (lv_at hl 2 rfl) ?_
            exact ht_qret (r := some pp) hx hb hr hlocks HW ⟨Ni, cu, hNi, hfr, hmk.le hlc, hsl⟩ d_X_stalePath_60
        · exact absurd rfl c11
      | inr zo =>
        have hpi := (hmk.rp cu).1.trans hp
        have hla := hNi.br hc hpi
        rw [(hmk.rp cu).2.2.1] at hla
        have hz := hT.half hc hp (ht_bit k (ht_rl (N cu)))
        refine lv_aload_n hx hb d_X_stalePath_7 rfl (lv_at hl 3 rfl) ?_
        refine va_instS hx hb hown (htb _ wd_87) (HW.2.1.1 3 _ rfl).2 (HW.recv hla (q := (R_B, F_B, 6)) rfl) d_X_stalePath_8 ?_
        refine lv_if_eq (tgt := 59) hx hb d_X_stalePath_11 (by decide) (fun c11 => ?_) (fun c11 => ?_)
        · exact absurd c11 (by decide)
        · refine lv_aload_n hx hb d_X_stalePath_14 rfl (lv_at hl 3 rfl) ?_
          refine va_castS hx hb hown (htb _ wd_87) (HW.2.1.1 3 _ rfl).2 (HW.recv hla (q := (R_B, F_B, 6)) rfl) d_X_stalePath_15 ?_
          refine lv_astore (lv' := [(4, .ref cu), (0, .ref x), (1, .int li), (2, va_rf last), (3, .ref cu)]) hx hb d_X_stalePath_18 hl (by decide) rfl (fun ls hl => ?_)
          refine lv_aload hx hb d_X_stalePath_20 (lv_at hl 0 rfl) ?_
          refine ht_get (C := R_B) (T := F_B) (N := 6) (v := .int (nI (ht_rl (N cu)))) hx hb htb i_B hown HW hla rfl 1 (by decide) (htb _ wd_133) (fun x h9 => u_same (htb _ wd_134) x h9) rfl d_X_stalePath_22 ?_
          refine lv_iload_n hx hb d_X_stalePath_25 rfl (lv_at hl 2 rfl) ?_
          refine lv_icmp_ge (tgt := 59) hx hb d_X_stalePath_26 (by decide) (fun c26 => ?_) (fun c26 => ?_)
          · have hlc : lim ≤ ht_rl (N cu) := by
              rw [eli] at c26
              exact (nI_leI (by omega) (by have := hT.lv hc; omega)).mp c26
            have hsl : ht_slot N F (some t) k lim last cu := ⟨hc, hlc, hlast.elim (fun q => Or.inl ⟨q.1, by rw [q.2]⟩) Or.inr⟩
            rcases last with _ | pp
            · refine lv_aload_nN hx hb d_X_stalePath_59 rfl (lv_at hl 3 rfl) ?_
              exact ht_qret (r := none) hx hb hr hlocks HW ⟨Ni, cu, hNi, hfr, hmk.le hlc, hsl⟩ d_X_stalePath_60
            · refine lv_aload_n hx hb d_X_stalePath_59 rfl (lv_at hl 3 rfl) ?_
              exact ht_qret (r := some pp) hx hb hr hlocks HW ⟨Ni, cu, hNi, hfr, hmk.le hlc, hsl⟩ d_X_stalePath_60
          · have hlc : ht_rl (N cu) < lim := Nat.not_le.mp (fun q9 => c26 (by rw [eli]; exact nI_le q9 (by have := hT.lv hc; omega)))
            have hik : ht_in N cu k := hT.up hc hcq (ht_ag_symm (ht_ag_le (ht_part_ag k qs.1) (by omega)))
            refine lv_aload hx hb d_X_stalePath_29 (lv_at hl 0 rfl) ?_
            refine lv_iconst (v := 0) hx hb d_X_stalePath_31 (by decide) ?_
            refine ht_put (C := R_B) (T := F_B) (N := 6) (v := .int 0) (ty := .boolean) hx hb htb i_B t_B t_B_ok n_B hown HW hla rfl 3 (by decide) (htb _ wd_143) (fun x h9 => u_same (htb _ wd_144) x h9) rfl (by decide +kernel) rfl rfl (Nat.le_of_ble_eq_true rfl) d_X_stalePath_32 (fun H locs HW => ?_)
            have n_x_cu : x ≠ cu := (ht_ne hX hla (fun z => by cases z))
            have n_kA_cu : kA ≠ cu := (ht_ne hK hla (fun z => by cases z))
            obtain ⟨u1, hu1⟩ : ∃ zW : ht_W, zW = ht_up u cu (.inr (3, [.ref (A cu).1, .int (nI (ht_rl (N cu))), .ref (A cu).2.1, .int 0, .ref zo.1, .ref zo.2]) : va_E) := ⟨_, rfl⟩
            have HW : ht_I g s u1 H locs := by rw [hu1]; exact HW
            have hX : ht_at u1 x (.inr (0, [.ref kA, .ref dg, .ref op, .ref t, .int cnt, .ref sb, .ref la, .ref en, .int ei]) : va_E) := by rw [hu1]; exact ht_at_ne hX n_x_cu
            have hK : ht_at u1 kA (ht_al g 4 (ht_kf k)) := by rw [hu1]; exact ht_at_ne hK n_kA_cu
            have hla : ht_at u1 cu (.inr (3, [.ref (A cu).1, .int (nI (ht_rl (N cu))), .ref (A cu).2.1, .int 0, .ref zo.1, .ref zo.2]) : va_E) := by rw [hu1]; exact ht_at_self hla
            refine lv_aload hx hb d_X_stalePath_35 (lv_at hl 0 rfl) ?_
            refine lv_astore_n (lv' := [(2, .ref cu), (4, .ref cu), (0, .ref x), (1, .int li), (3, .ref cu)]) hx hb d_X_stalePath_37 rfl hl (by decide) rfl (fun ls hl => ?_)
            refine lv_aload hx hb d_X_stalePath_38 (lv_at hl 1 rfl) ?_
            refine lv_aload_n hx hb d_X_stalePath_40 rfl (lv_at hl 2 rfl) ?_
            refine ht_get (C := R_X) (T := F_X) (N := 9) (v := .ref kA) hx hb htb i_X hown HW hX rfl 0 (by decide) (htb _ wd_40) (fun _ h9 => h9) rfl d_X_stalePath_41 ?_
            refine lv_aload hx hb d_X_stalePath_44 (lv_at hl 1 rfl) ?_
            refine ht_get (C := R_B) (T := F_B) (N := 6) (v := .int (nI (ht_rl (N cu)))) hx hb htb i_B hown HW hla rfl 1 (by decide) (htb _ wd_133) (fun x h9 => u_same (htb _ wd_134) x h9) rfl d_X_stalePath_46 ?_
            refine ht_ci HW (va_runS (own := R_X) (As := [.ref kA, .int (nI (ht_rl (N cu)))]) (rest := [.ref cu]) ⟨hx, hb, hml, hown, htb⟩ (c_X_isOne l g u1 hK (ht_rl (N cu)) hz.2.1 _ rfl) (va_cwS 2 htb (ht_gs wd_88 wd_89 wd_1 g_X_isOne) rfl rfl rfl (by decide +kernel) ⟨Nat.le_of_ble_eq_true rfl, Nat.le_of_ble_eq_true rfl⟩) (HW.preS _) rfl rfl hl.1 rfl (lv_room (Nat.le_of_ble_eq_true rfl)) d_X_stalePath_49 ⟨Nat.le_of_ble_eq_true rfl, Nat.le_of_ble_eq_true rfl⟩) (fun q3 u2 H locs pu2 HW => ?_)
            obtain ⟨eq3, eu2⟩ := pu2
            subst eu2
            rw [eq3]
            refine ht_cq HW (va_runV (own := R_X) (C := R_B) (As := [.int (ht_b1 (ht_bit k (ht_rl (N cu))))]) (rest := []) ⟨hx, hb, hml, hown, htb⟩ (c_B_half l g u1 hla (ht_bit k (ht_rl (N cu)))) (cwV 1 htb (ht_gv wd_91 wd_92 wd_93 wd_8 g_B_half) rfl rfl rfl (by decide +kernel) ⟨Nat.le_of_ble_eq_true rfl, Nat.le_of_ble_eq_true rfl⟩) (HW.preV hla rfl _) rfl rfl hl.1 rfl (lv_room (Nat.le_of_ble_eq_true rfl)) d_X_stalePath_52 ⟨Nat.le_of_ble_eq_true rfl, Nat.le_of_ble_eq_true rfl⟩) (fun q5 u4 H locs ph HW => ?_)
            obtain ⟨eh, eww⟩ := ph
            subst eww
            subst eh
            refine W.eq (g2 := F0 m 55 ls [.ref (ht_ch zo (ht_bit k (ht_rl (N cu))))]) rfl ?_
            refine lv_astore_n (lv' := [(3, .ref (ht_ch zo (ht_bit k (ht_rl (N cu))))), (2, .ref cu), (4, .ref cu), (0, .ref x), (1, .int li)]) hx hb d_X_stalePath_55 rfl hl (by decide) rfl (fun ls hl => ?_)
            refine lv_goto (tgt := 7) hx hb d_X_stalePath_56 (by decide) ?_
            have hz := hT.half hc hp (ht_bit k (ht_rl (N cu)))
            refine ih _ hz.1 (((hz.2.2.2 qs hqs).mp ⟨hcq, (ht_part_ag k qs.1 _ (by omega)).symm⟩)) (by have := hz.2.2.1; omega) (some cu) (va_up Ni cu (ht_sf (Ni cu) false)) u1 ?_ (hfr.trans (by rw [hu1]; exact ht_fr.up hc)) (hmk.step hT hc hik hp) (Or.inr ⟨cu, zo, rfl, hc, hik, hlc, hp, rfl⟩) _ _ _ HW (lv_sub hl [3, 4, 1, 0] rfl)
            have h9 := hNi.sf hc false
            rw [ht_nc_b (show ht_rp (ht_sf (Ni cu) false) = .inr zo from hpi)] at h9
            rw [hu1]
            have e9 : ht_rl (ht_sf (Ni cu) false) = ht_rl (N cu) := (hmk.rp cu).2.2.1
            rw [e9] at h9
            exact h9
  refine lv_null hx hb d_X_stalePath_0 ?_
  refine lv_astore_nN (lv' := [(2, .null), (0, .ref x), (1, .int li)]) hx hb d_X_stalePath_1 rfl hl (by decide) rfl (fun ls hl => ?_)
  refine lv_aload_n hx hb d_X_stalePath_2 rfl (lv_at hl 1 rfl) ?_
  refine ht_get (C := R_X) (T := F_X) (N := 9) (v := .ref t) hx hb htb i_X hown HW hX rfl 3 (by decide) (htb _ wd_43) (fun _ h9 => h9) rfl d_X_stalePath_3 ?_
  refine lv_astore_n (lv' := [(3, .ref t), (2, .null), (0, .ref x), (1, .int li)]) hx hb d_X_stalePath_6 rfl hl (by decide) rfl (fun ls hl => ?_)
  exact loop 256 t (hT.2.2.1.1 t rfl).1 ((hT.2.2.1.1 t rfl).2 qs hqs) (by omega) none N w hN ht_fr.rf (ht_mkd.start hT) (Or.inl ⟨rfl, rfl⟩) _ _ _ HW (lv_sub hl [2, 3, 1, 0] rfl)
