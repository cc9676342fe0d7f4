set_option maxHeartbeats 4000000 in
set_option maxRecDepth 100000 in
theorem c_X_hashAt_L (l : Launch) (g : ht_G) (w : ht_W) {x kA dg wd wa op sb la en : Nat} {top : Option Nat} {cnt ei : Int32} {N : ht_N} {A : ht_AA} {F : List Nat} {L : ht_L} {dt : ht_D} (hX : ht_at w x (.inr (0, [.ref kA, .ref dg, .ref op, va_rf top, .int cnt, .ref sb, .ref la, .ref en, .int ei]))) (hDg : ht_Dg g w dg wd wa dt) (hN : ht_Nd g w N A F) (hT : ht_T N F top L) {a ia : Nat} (ha : a ∈ F) {f0 : Nat → Int64} (hI : ht_at w ia (ht_al g 4 f0)) (hne : (A a).1 ≠ ia) {v : ht_K} (hp : ht_rp (N a) = .inl v) (lv : Int32) : Met l y_X_hashAt ws_X_hashAt ({ frames := 5, cells := 0, slots := 0, locals := 150 } : Room) (va_Pc [.ref x, .ref a, .int lv, .ref ia] (ht_WS g w)) (ht_Qv g (fun u => ∃ dt' : ht_D, u = ht_up (ht_dw g w dg wd wa dt') ia (ht_al g 4 (ht_kf (ht_dgf 0 (ht_rk (N a)) v))))) 0 0 (ht_A g) := by
  refine Met.ofW (cc := b_X_hashAt) (maxL := 8) (ret := none) (by decide) rfl ?_
  intro p e s m args below meth c s₁ BB hml hv
  obtain ⟨rfl, HW⟩ := hv
  have HW := ht_I.start HW
  have hx := BB.exec
  have hb := BB.bytes
  have hr := BB.returns
  have hts := atoms_spec (ws := ws_X_hashAt) BB.pre
  have htb : ∀ w ∈ bg, w.before _ s = true := fun w h => hts w (List.mem_cons_of_mem _ h)
  have hown : s.vm.findClass R_X = some m.cls := findClass_of_methodNamed BB.named
  have hlocks := BB.notSynchronized
  have hl := lv_entry ([.ref x, .ref a, .int lv, .ref ia]) (n := 8) (Nat.le_of_ble_eq_true rfl)
  rw [lg_entry_eq]
  generalize (lg_sl ([.ref x, .ref a, .int lv, .ref ia]) ++ List.replicate (8 - (lg_sl ([.ref x, .ref a, .int lv, .ref ia])).length) Slot.unset).toArray = ls at hl ⊢
  have hl : lv_has ls 8 [(0, .ref x), (1, .ref a), (2, .int lv), (3, .ref ia)] := hl
  have hla := hN.lf ha hp
  have hDg1 := hDg.1
  have hka := (hN a ha).2.1
  have hva := (hN a ha).2.2.2 v hp
  refine lv_aload_n hx hb d_X_hashAt_0 rfl (lv_at hl 1 rfl) ?_
  refine va_instS hx hb hown (htb _ wd_95) (HW.2.1.1 2 _ rfl).2 (HW.recv hla (q := (R_L, F_L, 5)) rfl) d_X_hashAt_1 ?_
  refine lv_if_eq (tgt := 35) hx hb d_X_hashAt_4 (by decide) (fun c4 => ?_) (fun c4 => ?_)
  · exact absurd c4 (by decide)
  · refine lv_aload_n hx hb d_X_hashAt_7 rfl (lv_at hl 1 rfl) ?_
    refine va_castS hx hb hown (htb _ wd_95) (HW.2.1.1 2 _ rfl).2 (HW.recv hla (q := (R_L, F_L, 5)) rfl) d_X_hashAt_8 ?_
    refine lv_astore (lv' := [(4, .ref a), (0, .ref x), (1, .ref a), (2, .int lv), (3, .ref ia)]) hx hb d_X_hashAt_11 hl (by decide) rfl (fun ls hl => ?_)
    refine lv_aload_n hx hb d_X_hashAt_13 rfl (lv_at hl 1 rfl) ?_
    refine ht_get (C := R_X) (T := F_X) (N := 9) (v := .ref dg) hx hb htb i_X hown HW hX rfl 1 (by decide) (htb _ wd_41) (fun _ h9 => h9) rfl d_X_hashAt_14 ?_
    refine lv_iconst (v := 0) hx hb d_X_hashAt_17 (by decide) ?_
    refine lv_aload hx hb d_X_hashAt_18 (lv_at hl 0 rfl) ?_
    refine ht_get (C := R_L) (T := F_L) (N := 5) (v := .ref (A a).1) hx hb htb i_L hown HW hla rfl 0 (by decide) (htb _ wd_128) (fun x h9 => u_same (htb _ wd_129) x h9) rfl d_X_hashAt_20 ?_
    refine lv_aload hx hb d_X_hashAt_23 (lv_at hl 0 rfl) ?_
    refine ht_get (C := R_L) (T := F_L) (N := 5) (v := .ref (A a).2.2) hx hb htb i_L hown HW hla rfl 4 (by decide) (htb _ wd_126) (fun _ h9 => h9) rfl d_X_hashAt_25 ?_
    refine lv_aload_n hx hb d_X_hashAt_28 rfl (lv_at hl 4 rfl) ?_
    refine ht_cv HW (va_runV (own := R_X) (C := R_D) (As := [.int 0, .ref (A a).1, .ref (A a).2.2, .ref ia]) (rest := []) ⟨hx, hb, hml, hown, htb⟩ (c_D_join l g w hDg 0 (Or.inl hka) (Or.inl hva) hI) (cwV 4 htb (ht_gv wd_221 wd_222 wd_223 wd_2 g_D_join) rfl rfl rfl (by decide +kernel) ⟨Nat.le_of_ble_eq_true rfl, Nat.le_of_ble_eq_true rfl⟩) (HW.preV hDg1 rfl _) rfl rfl hl.1 rfl (lv_room (Nat.le_of_ble_eq_true rfl)) d_X_hashAt_29 ⟨Nat.le_of_ble_eq_true rfl, Nat.le_of_ble_eq_true rfl⟩) (fun u1 H locs pj HW => ?_)
    refine lv_goto (tgt := 139) hx hb d_X_hashAt_32 (by decide) ?_
    exact ht_vret hx hb hr hlocks HW ⟨_, by rw [pj, ht_jt_dgf]⟩ d_X_hashAt_139
set_option maxHeartbeats 4000000 in
set_option maxRecDepth 100000 in
theorem c_X_hashAt_B (l : Launch) (g : ht_G) (w : ht_W) {x kA dg wd wa op sb la en : Nat} {top : Option Nat} {cnt ei : Int32} {N : ht_N} {A : ht_AA} {F : List Nat} {L : ht_L} {dt : ht_D} (hX : ht_at w x (.inr (0, [.ref kA, .ref dg, .ref op, va_rf top, .int cnt, .ref sb, .ref la, .ref en, .int ei]))) (hDg : ht_Dg g w dg wd wa dt) (hN : ht_Nd g w N A F) (hT : ht_T N F top L) {a ia : Nat} (ha : a ∈ F) {f0 : Nat → Int64} (hI : ht_at w ia (ht_al g 4 f0)) (hne : (A a).1 ≠ ia) {zo : Nat × Nat} (hp : ht_rp (N a) = .inr zo) (d : Nat) (hd : d ≤ ht_rl (N a)) (lv : Int32) (elv : lv = nI d) : Met l y_X_hashAt ws_X_hashAt ({ frames := 5, cells := 0, slots := 0, locals := 150 } : Room) (va_Pc [.ref x, .ref a, .int lv, .ref ia] (ht_WS g w)) (ht_Qv g (fun u => ∃ dt' : ht_D, u = ht_up (ht_dw g w dg wd wa dt') ia (ht_al g 4 (ht_kf (ht_chn (ht_rk (N a)) (ht_rl (N a)) (ht_dgf 1 (ht_rh (N zo.1)) (ht_rh (N zo.2))) (ht_rl (N a) - d)))))) 0 0 (ht_A g) := by
  refine Met.ofW (cc := b_X_hashAt) (maxL := 8) (ret := none) (by decide) rfl ?_
  intro p e s m args below meth c s₁ BB hml hv
  obtain ⟨rfl, HW⟩ := hv
  have HW := ht_I.start HW
  have hx := BB.exec
  have hb := BB.bytes
  have hr := BB.returns
  have hts := atoms_spec (ws := ws_X_hashAt) BB.pre
  have htb : ∀ w ∈ bg, w.before _ s = true := fun w h => hts w (List.mem_cons_of_mem _ h)
  have hown : s.vm.findClass R_X = some m.cls := findClass_of_methodNamed BB.named
  have hlocks := BB.notSynchronized
  have hl := lv_entry ([.ref x, .ref a, .int lv, .ref ia]) (n := 8) (Nat.le_of_ble_eq_true rfl)
  rw [lg_entry_eq]
  generalize (lg_sl ([.ref x, .ref a, .int lv, .ref ia]) ++ List.replicate (8 - (lg_sl ([.ref x, .ref a, .int lv, .ref ia])).length) Slot.unset).toArray = ls at hl ⊢
  have hl : lv_has ls 8 [(0, .ref x), (1, .ref a), (2, .int lv), (3, .ref ia)] := hl
  have hlt := (hT.half ha hp false).2.1
  have hx1 : x ≠ dg := ht_ne hX hDg.1 (fun z9 => by cases z9)
  have hx2 : x ≠ wd := ht_ne hX hDg.2.1 ht_ne_oi
  have hx3 : x ≠ wa := ht_ne hX hDg.2.2 ht_ne_oi
  have hx4 : x ≠ ia := (ht_ne_lo hI hX).symm
  have ha1 : a ≠ dg := ht_ne (hN.br ha hp) hDg.1 (fun z9 => by cases z9)
  have ha2 : a ≠ wd := ht_ne (hN.br ha hp) hDg.2.1 ht_ne_oi
  have ha3 : a ≠ wa := ht_ne (hN.br ha hp) hDg.2.2 ht_ne_oi
  have ha4 : a ≠ ia := (ht_ne_lo hI (hN.br ha hp)).symm
  have hn1 : ia ≠ dg := ht_ne_lo hI hDg.1
  have hn2 : ia ≠ wd := ht_ne hI hDg.2.1 ht_ne_li
  have hn3 : ia ≠ wa := ht_ne hI hDg.2.2 ht_ne_li
  have loop : ∀ (n j : Nat), j + n = ht_rl (N a) - d → ∀ (dj : ht_D) (H : Heap) (locs : List Loc) (ls : Array Slot) (y : Int32), y + 1 = nI (ht_rl (N a) - j) → ht_I g s (ht_up (ht_dw g w dg wd wa dj) ia (ht_al g 4 (ht_kf (ht_chn (ht_rk (N a)) (ht_rl (N a)) (ht_dgf 1 (ht_rh (N zo.1)) (ht_rh (N zo.2))) j)))) H locs → lv_has ls 8 [(0, .ref x), (2, .int lv), (3, .ref ia), (5, .ref a), (6, .int y)] → W p l e (headSpec ws_X_hashAt ({ frames := 5, cells := 0, slots := 0, locals := 150 } : Room)).room s m ([.ref x, .ref a, .int lv, .ref ia] : List Value).toArray below meth c H locs 0 0 (MQ below (ht_Qv g (fun u => ∃ dt' : ht_D, u = ht_up (ht_dw g w dg wd wa dt') ia (ht_al g 4 (ht_kf (ht_chn (ht_rk (N a)) (ht_rl (N a)) (ht_dgf 1 (ht_rh (N zo.1)) (ht_rh (N zo.2))) (ht_rl (N a) - d)))))) ([.ref x, .ref a, .int lv, .ref ia] : List Value).toArray s 0 0 (ht_A g)) (F0 m 82 ls []) := by
    intro n
    induction n with
    | zero =>
      intro j hj dj H locs ls y ey HW hl
      obtain ⟨w1, hw1⟩ : ∃ zW : ht_W, zW = (ht_up (ht_dw g w dg wd wa dj) ia (ht_al g 4 (ht_kf (ht_chn (ht_rk (N a)) (ht_rl (N a)) (ht_dgf 1 (ht_rh (N zo.1)) (ht_rh (N zo.2))) j)))) := ⟨_, rfl⟩
      rw [← hw1] at HW
      have hD1 : ht_Dg g w1 dg wd wa dj := by rw [hw1]; exact hDg.up.of_al (hDg.al hI)
      have hI1 : ht_at w1 ia (ht_al g 4 (ht_kf (ht_chn (ht_rk (N a)) (ht_rl (N a)) (ht_dgf 1 (ht_rh (N zo.1)) (ht_rh (N zo.2))) j))) := by rw [hw1]; exact ht_at_self (hDg.al hI)
      have hX : ht_at w1 x (.inr (0, [.ref kA, .ref dg, .ref op, va_rf top, .int cnt, .ref sb, .ref la, .ref en, .int ei]) : va_E) := by rw [hw1]; exact ht_at_ne (ht_Dg.ne hX hx1 hx2 hx3) hx4
      have hla : ht_at w1 a (.inr (3, [.ref (A a).1, .int (nI (ht_rl (N a))), .ref (A a).2.1, .int (ht_b1 (ht_rf (N a))), .ref zo.1, .ref zo.2]) : va_E) := by rw [hw1]; exact ht_at_ne (ht_Dg.ne (hN.br ha hp) ha1 ha2 ha3) ha4
      have hkr : ht_at w1 (A a).1 (ht_al g 4 (ht_kf (ht_rk (N a)))) := by rw [hw1]; exact ht_at_ne (hDg.al (hN a ha).2.1) hne
      refine lv_iload hx hb d_X_hashAt_82 (lv_at hl 4 rfl) ?_
      refine lv_iload_n hx hb d_X_hashAt_84 rfl (lv_at hl 1 rfl) ?_
      refine lv_icmp_lt (tgt := 139) hx hb d_X_hashAt_85 (by decide) (fun c85 => ?_) (fun c85 => ?_)
      · exact ht_vret hx hb hr hlocks HW ⟨dj, by rw [hw1, show ht_rl (N a) - d = j by omega]⟩ d_X_hashAt_139
      · exact absurd (by rw [elv, ← show ht_rl (N a) - j = d by omega]; exact ht_xl ey (by omega)) c85
    | succ n ih =>
      intro j hj dj H locs ls y ey HW hl
      obtain ⟨w1, hw1⟩ : ∃ zW : ht_W, zW = (ht_up (ht_dw g w dg wd wa dj) ia (ht_al g 4 (ht_kf (ht_chn (ht_rk (N a)) (ht_rl (N a)) (ht_dgf 1 (ht_rh (N zo.1)) (ht_rh (N zo.2))) j)))) := ⟨_, rfl⟩
      rw [← hw1] at HW
      have hD1 : ht_Dg g w1 dg wd wa dj := by rw [hw1]; exact hDg.up.of_al (hDg.al hI)
      have hI1 : ht_at w1 ia (ht_al g 4 (ht_kf (ht_chn (ht_rk (N a)) (ht_rl (N a)) (ht_dgf 1 (ht_rh (N zo.1)) (ht_rh (N zo.2))) j))) := by rw [hw1]; exact ht_at_self (hDg.al hI)
      have hX : ht_at w1 x (.inr (0, [.ref kA, .ref dg, .ref op, va_rf top, .int cnt, .ref sb, .ref la, .ref en, .int ei]) : va_E) := by rw [hw1]; exact ht_at_ne (ht_Dg.ne hX hx1 hx2 hx3) hx4
      have hla : ht_at w1 a (.inr (3, [.ref (A a).1, .int (nI (ht_rl (N a))), .ref (A a).2.1, .int (ht_b1 (ht_rf (N a))), .ref zo.1, .ref zo.2]) : va_E) := by rw [hw1]; exact ht_at_ne (ht_Dg.ne (hN.br ha hp) ha1 ha2 ha3) ha4
      have hkr : ht_at w1 (A a).1 (ht_al g 4 (ht_kf (ht_rk (N a)))) := by rw [hw1]; exact ht_at_ne (hDg.al (hN a ha).2.1) hne
      have ey1 : y = nI (ht_rl (N a) - 1 - j) := ht_js (by rw [ey]; congr 1; omega)
      refine lv_iload hx hb d_X_hashAt_82 (lv_at hl 4 rfl) ?_
      refine lv_iload_n hx hb d_X_hashAt_84 rfl (lv_at hl 1 rfl) ?_
      refine lv_icmp_lt (tgt := 139) hx hb d_X_hashAt_85 (by decide) (fun c85 => ?_) (fun c85 => ?_)
      · exact absurd (by rw [elv, ey1] at c85; exact c85) (nI_nlt (show d ≤ ht_rl (N a) - 1 - j by omega) (by omega))
      · refine lv_aload hx hb d_X_hashAt_88 (lv_at hl 3 rfl) ?_
        refine ht_get (C := R_B) (T := F_B) (N := 6) (v := .ref (A a).1) hx hb htb i_B hown HW hla rfl 0 (by decide) (htb _ wd_130) (fun x h9 => u_same (htb _ wd_131) x h9) rfl d_X_hashAt_90 ?_
        refine lv_iload hx hb d_X_hashAt_93 (lv_at hl 4 rfl) ?_
        refine ht_ci HW (va_runS (own := R_X) (As := [.ref (A a).1, .int y]) (rest := []) ⟨hx, hb, hml, hown, htb⟩ (c_X_isOne l g w1 hkr (ht_rl (N a) - 1 - j) (by omega) _ ey1) (va_cwS 2 htb (ht_gs wd_88 wd_89 wd_1 g_X_isOne) rfl rfl rfl (by decide +kernel) ⟨Nat.le_of_ble_eq_true rfl, Nat.le_of_ble_eq_true rfl⟩) (HW.preS _) rfl rfl hl.1 rfl (lv_room (Nat.le_of_ble_eq_true rfl)) d_X_hashAt_95 ⟨Nat.le_of_ble_eq_true rfl, Nat.le_of_ble_eq_true rfl⟩) (fun q2 u1 H locs pu1 HW => ?_)
        obtain ⟨eq2, eu1⟩ := pu1
        subst eu1
        rw [eq2]
        cases hbit : ht_bit (ht_rk (N a)) (ht_rl (N a) - 1 - j)
        · refine W.eq (g2 := F0 _ 98 ls [.int 0]) rfl ?_
          refine lv_istore (lv' := [(7, .int 0), (0, .ref x), (2, .int lv), (3, .ref ia), (5, .ref a), (6, .int y)]) hx hb d_X_hashAt_98 hl (by decide) rfl (fun ls hl => ?_)
          refine lv_aload_n hx hb d_X_hashAt_100 rfl (lv_at hl 1 rfl) ?_
          refine ht_get (C := R_X) (T := F_X) (N := 9) (v := .ref dg) hx hb htb i_X hown HW hX rfl 1 (by decide) (htb _ wd_41) (fun _ h9 => h9) rfl d_X_hashAt_101 ?_
          refine lv_iconst (v := 1) hx hb d_X_hashAt_104 (by decide) ?_
          refine lv_iload hx hb d_X_hashAt_105 (lv_at hl 0 rfl) ?_
          refine lv_if_eq (tgt := 116) hx hb d_X_hashAt_107 (by decide) (fun c107 => ?_) (fun c107 => ?_)
          · refine lv_aload_n hx hb d_X_hashAt_116 rfl (lv_at hl 3 rfl) ?_
            refine lv_iload hx hb d_X_hashAt_117 (lv_at hl 0 rfl) ?_
            refine lv_if_eq (tgt := 126) hx hb d_X_hashAt_119 (by decide) (fun c119 => ?_) (fun c119 => ?_)
            · refine ht_gets hx hb HW.2.2.1.1 HW hown (htb _ wd_265) (fun _ h9 => h9) d_X_hashAt_126 ?_
              refine lv_aload_n hx hb d_X_hashAt_129 rfl (lv_at hl 3 rfl) ?_
              refine ht_cv HW (va_runV (own := R_X) (C := R_D) (As := [.int 1, .ref ia, .ref (g.2.2.2 0), .ref ia]) (rest := []) ⟨hx, hb, hml, hown, htb⟩ (c_D_join l g w1 hD1 1 (lf := ht_kf (ht_chn (ht_rk (N a)) (ht_rl (N a)) (ht_dgf 1 (ht_rh (N zo.1)) (ht_rh (N zo.2))) j)) (rf := ht_kf ht_kz) (Or.inl hI1) (Or.inr ⟨rfl, fun j9 _ => by rw [ht_kf_z]⟩) hI1) (cwV 4 htb (ht_gv wd_221 wd_222 wd_223 wd_2 g_D_join) rfl rfl rfl (by decide +kernel) ⟨Nat.le_of_ble_eq_true rfl, Nat.le_of_ble_eq_true rfl⟩) (HW.preV hD1.1 rfl _) rfl rfl hl.1 rfl (lv_room (Nat.le_of_ble_eq_true rfl)) d_X_hashAt_130 ⟨Nat.le_of_ble_eq_true rfl, Nat.le_of_ble_eq_true rfl⟩) (fun u3 H locs pj HW => ?_)
              obtain ⟨y2, ey2⟩ : ∃ zI : Int32, zI = y + (-1) := ⟨_, rfl⟩
              refine lv_iinc (v := y2) (lv' := [(6, .int y2), (7, .int 0), (0, .ref x), (2, .int lv), (3, .ref ia), (5, .ref a)]) hx hb d_X_hashAt_133 hl (k := 5) rfl (by rw [ey2]; rfl) (by decide) rfl (fun ls hl => ?_)
              refine lv_goto (tgt := 82) hx hb d_X_hashAt_136 (by decide) ?_
              refine ih (j + 1) (by omega) (ht_jt dj.2.1 1 (ht_kf (ht_chn (ht_rk (N a)) (ht_rl (N a)) (ht_dgf 1 (ht_rh (N zo.1)) (ht_rh (N zo.2))) j)) (ht_kf ht_kz)) _ _ _ y2 (by rw [ey2, ey1, ht_c1]; congr 1; omega) (HW.to ?_) (lv_sub hl [2, 3, 4, 5, 0] rfl)
              · rw [pj, hw1, ht_dw_up hn1 hn2 hn3, hDg.dw, ht_up_up, ht_jt_dgf]
                show _ = ht_up (ht_dw g w dg wd wa _) ia (ht_al g 4 (ht_kf (if ht_bit (ht_rk (N a)) (ht_rl (N a) - 1 - j) then ht_dgf 1 ht_kz (ht_chn (ht_rk (N a)) (ht_rl (N a)) (ht_dgf 1 (ht_rh (N zo.1)) (ht_rh (N zo.2))) j) else ht_dgf 1 (ht_chn (ht_rk (N a)) (ht_rl (N a)) (ht_dgf 1 (ht_rh (N zo.1)) (ht_rh (N zo.2))) j) ht_kz)))
                rw [hbit]
                rfl
            · exact absurd rfl c119
          · exact absurd rfl c107
        · refine W.eq (g2 := F0 _ 98 ls [.int 1]) rfl ?_
          refine lv_istore (lv' := [(7, .int 1), (0, .ref x), (2, .int lv), (3, .ref ia), (5, .ref a), (6, .int y)]) hx hb d_X_hashAt_98 hl (by decide) rfl (fun ls hl => ?_)
          refine lv_aload_n hx hb d_X_hashAt_100 rfl (lv_at hl 1 rfl) ?_
          refine ht_get (C := R_X) (T := F_X) (N := 9) (v := .ref dg) hx hb htb i_X hown HW hX rfl 1 (by decide) (htb _ wd_41) (fun _ h9 => h9) rfl d_X_hashAt_101 ?_
          refine lv_iconst (v := 1) hx hb d_X_hashAt_104 (by decide) ?_
          refine lv_iload hx hb d_X_hashAt_105 (lv_at hl 0 rfl) ?_
          refine lv_if_eq (tgt := 116) hx hb d_X_hashAt_107 (by decide) (fun c107 => ?_) (fun c107 => ?_)
          · exact absurd c107 (by decide)
          · refine ht_gets hx hb HW.2.2.1.1 HW hown (htb _ wd_265) (fun _ h9 => h9) d_X_hashAt_110 ?_
            refine lv_goto (tgt := 117) hx hb d_X_hashAt_113 (by decide) ?_
            refine lv_iload hx hb d_X_hashAt_117 (lv_at hl 0 rfl) ?_
            refine lv_if_eq (tgt := 126) hx hb d_X_hashAt_119 (by decide) (fun c119 => ?_) (fun c119 => ?_)
            · exact absurd c119 (by decide)
            · refine lv_aload_n hx hb d_X_hashAt_122 rfl (lv_at hl 3 rfl) ?_
              refine lv_goto (tgt := 129) hx hb d_X_hashAt_123 (by decide) ?_
              refine lv_aload_n hx hb d_X_hashAt_129 rfl (lv_at hl 3 rfl) ?_
              refine ht_cv HW (va_runV (own := R_X) (C := R_D) (As := [.int 1, .ref (g.2.2.2 0), .ref ia, .ref ia]) (rest := []) ⟨hx, hb, hml, hown, htb⟩ (c_D_join l g w1 hD1 1 (lf := ht_kf ht_kz) (rf := ht_kf (ht_chn (ht_rk (N a)) (ht_rl (N a)) (ht_dgf 1 (ht_rh (N zo.1)) (ht_rh (N zo.2))) j)) (Or.inr ⟨rfl, fun j9 _ => by rw [ht_kf_z]⟩) (Or.inl hI1) hI1) (cwV 4 htb (ht_gv wd_221 wd_222 wd_223 wd_2 g_D_join) rfl rfl rfl (by decide +kernel) ⟨Nat.le_of_ble_eq_true rfl, Nat.le_of_ble_eq_true rfl⟩) (HW.preV hD1.1 rfl _) rfl rfl hl.1 rfl (lv_room (Nat.le_of_ble_eq_true rfl)) d_X_hashAt_130 ⟨Nat.le_of_ble_eq_true rfl, Nat.le_of_ble_eq_true rfl⟩) (fun u4 H locs pj HW => ?_)
              obtain ⟨y2, ey2⟩ : ∃ zI : Int32, zI = y + (-1) := ⟨_, rfl⟩
              refine lv_iinc (v := y2) (lv' := [(6, .int y2), (7, .int 1), (0, .ref x), (2, .int lv), (3, .ref ia), (5, .ref a)]) hx hb d_X_hashAt_133 hl (k := 5) rfl (by rw [ey2]; rfl) (by decide) rfl (fun ls hl => ?_)
              refine lv_goto (tgt := 82) hx hb d_X_hashAt_136 (by decide) ?_
              refine ih (j + 1) (by omega) (ht_jt dj.2.1 1 (ht_kf ht_kz) (ht_kf (ht_chn (ht_rk (N a)) (ht_rl (N a)) (ht_dgf 1 (ht_rh (N zo.1)) (ht_rh (N zo.2))) j))) _ _ _ y2 (by rw [ey2, ey1, ht_c1]; congr 1; omega) (HW.to ?_) (lv_sub hl [2, 3, 4, 5, 0] rfl)
              · rw [pj, hw1, ht_dw_up hn1 hn2 hn3, hDg.dw, ht_up_up, ht_jt_dgf]
                show _ = ht_up (ht_dw g w dg wd wa _) ia (ht_al g 4 (ht_kf (if ht_bit (ht_rk (N a)) (ht_rl (N a) - 1 - j) then ht_dgf 1 ht_kz (ht_chn (ht_rk (N a)) (ht_rl (N a)) (ht_dgf 1 (ht_rh (N zo.1)) (ht_rh (N zo.2))) j) else ht_dgf 1 (ht_chn (ht_rk (N a)) (ht_rl (N a)) (ht_dgf 1 (ht_rh (N zo.1)) (ht_rh (N zo.2))) j) ht_kz)))
                rw [hbit]
                rfl
  have hla := hN.br ha hp
  have hDg1 := hDg.1
  have hzF := (hT.half ha hp false).1
  have hoF := (hT.half ha hp true).1
  have hz := (hN zo.1 hzF).1
  have ho := (hN zo.2 hoF).1
  have hhz := (hN zo.1 hzF).2.2.1
  have hho := (hN zo.2 hoF).2.2.1
  refine lv_aload_n hx hb d_X_hashAt_0 rfl (lv_at hl 1 rfl) ?_
  refine va_instNo hx hb hown (htb _ wd_95) HW.2.2.1.2.2.2.2.2.2.2.2.1 (HW.recv hla (q := (R_B, F_B, 6)) rfl) d_X_hashAt_1 ?_
  refine lv_if_eq (tgt := 35) hx hb d_X_hashAt_4 (by decide) (fun c4 => ?_) (fun c4 => ?_)
  · refine lv_aload_n hx hb d_X_hashAt_35 rfl (lv_at hl 1 rfl) ?_
    refine va_instS hx hb hown (htb _ wd_87) (HW.2.1.1 3 _ rfl).2 (HW.recv hla (q := (R_B, F_B, 6)) rfl) d_X_hashAt_36 ?_
    refine lv_if_eq (tgt := 139) hx hb d_X_hashAt_39 (by decide) (fun c39 => ?_) (fun c39 => ?_)
    · exact absurd c39 (by decide)
    · refine lv_aload_n hx hb d_X_hashAt_42 rfl (lv_at hl 1 rfl) ?_
      refine va_castS hx hb hown (htb _ wd_87) (HW.2.1.1 3 _ rfl).2 (HW.recv hla (q := (R_B, F_B, 6)) rfl) d_X_hashAt_43 ?_
      refine lv_astore (lv' := [(5, .ref a), (0, .ref x), (1, .ref a), (2, .int lv), (3, .ref ia)]) hx hb d_X_hashAt_46 hl (by decide) rfl (fun ls hl => ?_)
      refine lv_aload_n hx hb d_X_hashAt_48 rfl (lv_at hl 1 rfl) ?_
      refine ht_get (C := R_X) (T := F_X) (N := 9) (v := .ref dg) hx hb htb i_X hown HW hX rfl 1 (by decide) (htb _ wd_41) (fun _ h9 => h9) rfl d_X_hashAt_49 ?_
      refine lv_iconst (v := 1) hx hb d_X_hashAt_52 (by decide) ?_
      refine lv_aload hx hb d_X_hashAt_53 (lv_at hl 0 rfl) ?_
      refine ht_get (C := R_B) (T := F_B) (N := 6) (v := .ref zo.1) hx hb htb i_B hown HW hla rfl 4 (by decide) (htb _ wd_166) (fun _ h9 => h9) rfl d_X_hashAt_55 ?_
      refine ht_ngt hx hb htb hown HW hz 2 (by decide) (htb _ wd_137) (fun _ h9 => h9) (v := .ref (A zo.1).2.1) rfl d_X_hashAt_58 ?_
      refine lv_aload hx hb d_X_hashAt_61 (lv_at hl 0 rfl) ?_
      refine ht_get (C := R_B) (T := F_B) (N := 6) (v := .ref zo.2) hx hb htb i_B hown HW hla rfl 5 (by decide) (htb _ wd_168) (fun _ h9 => h9) rfl d_X_hashAt_63 ?_
      refine ht_ngt hx hb htb hown HW ho 2 (by decide) (htb _ wd_137) (fun _ h9 => h9) (v := .ref (A zo.2).2.1) rfl d_X_hashAt_66 ?_
      refine lv_aload_n hx hb d_X_hashAt_69 rfl (lv_at hl 4 rfl) ?_
      refine ht_cv HW (va_runV (own := R_X) (C := R_D) (As := [.int 1, .ref (A zo.1).2.1, .ref (A zo.2).2.1, .ref ia]) (rest := []) ⟨hx, hb, hml, hown, htb⟩ (c_D_join l g w hDg 1 (Or.inl hhz) (Or.inl hho) hI) (cwV 4 htb (ht_gv wd_221 wd_222 wd_223 wd_2 g_D_join) rfl rfl rfl (by decide +kernel) ⟨Nat.le_of_ble_eq_true rfl, Nat.le_of_ble_eq_true rfl⟩) (HW.preV hDg1 rfl _) rfl rfl hl.1 rfl (lv_room (Nat.le_of_ble_eq_true rfl)) d_X_hashAt_70 ⟨Nat.le_of_ble_eq_true rfl, Nat.le_of_ble_eq_true rfl⟩) (fun u1 H locs pj HW => ?_)
      have hla : ht_at u1 a (.inr (3, [.ref (A a).1, .int (nI (ht_rl (N a))), .ref (A a).2.1, .int (ht_b1 (ht_rf (N a))), .ref zo.1, .ref zo.2]) : va_E) := by rw [pj]; exact ht_at_ne (ht_Dg.ne hla ha1 ha2 ha3) ha4
      refine lv_aload hx hb d_X_hashAt_73 (lv_at hl 0 rfl) ?_
      refine ht_get (C := R_B) (T := F_B) (N := 6) (v := .int (nI (ht_rl (N a)))) hx hb htb i_B hown HW hla rfl 1 (by decide) (htb _ wd_133) (fun x h9 => u_same (htb _ wd_134) x h9) rfl d_X_hashAt_75 ?_
      refine lv_iconst (v := 1) hx hb d_X_hashAt_78 (by decide) ?_
      refine lv_isub hx hb d_X_hashAt_79 ?_
      refine lv_topi (fun y ey => ?_)
      refine lv_istore (lv' := [(6, .int y), (5, .ref a), (0, .ref x), (1, .ref a), (2, .int lv), (3, .ref ia)]) hx hb d_X_hashAt_80 hl (by decide) rfl (fun ls hl => ?_)
      exact loop (ht_rl (N a) - d) 0 (by omega) _ _ _ _ y (by rw [ey, ht_c2]; rfl) (HW.to (by rw [pj, ht_jt_dgf]; rfl)) (lv_sub hl [2, 4, 5, 1, 0] rfl)
  · exact absurd rfl c4
