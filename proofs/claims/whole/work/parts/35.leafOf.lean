set_option maxHeartbeats 4000000 in
set_option maxRecDepth 100000 in
theorem c_X_leafOfKey (l : Launch) (g : ht_G) (w : ht_W) {x kA dg op sb la en : Nat} {top : Option Nat} {cnt ei : Int32} {k : ht_K} {N : ht_N} {A : ht_AA} {F : List Nat} {L : ht_L} (hX : ht_at w x (.inr (0, [.ref kA, .ref dg, .ref op, va_rf top, .int cnt, .ref sb, .ref la, .ref en, .int ei]))) (hK : ht_at w kA (ht_al g 4 (ht_kf k))) (hN : ht_Nd g w N A F) (hT : ht_T N F top L) : Met l y_X_leafOfKey ws_X_leafOfKey ({ frames := 3, cells := 0, slots := 0, locals := 80 } : Room) (va_Pc [.ref x] (ht_WS g w)) (ht_Qq g (fun r u => ((r = none ∧ ∀ q ∈ L, q.1 ≠ k) ∨ ∃ b v, r = some b ∧ b ∈ F ∧ ht_rp (N b) = .inl v ∧ ht_rk (N b) = k) ∧ w = u)) 0 0 (ht_A g) := by
  refine Met.ofW (cc := b_X_leafOfKey) (maxL := 2) (ret := (some (.object "HashTree$Leaf"))) (by decide) rfl ?_
  intro p e s m args below meth c s₁ BB hml hv
  obtain ⟨rfl, HW⟩ := hv
  have HW := ht_I.start HW
  have hx := BB.exec
  have hb := BB.bytes
  have hr := BB.returns
  have hts := atoms_spec (ws := ws_X_leafOfKey) BB.pre
  have htb : ∀ w ∈ bg, w.before _ s = true := fun w h => hts w (List.mem_cons_of_mem _ h)
  have hown : s.vm.findClass R_X = some m.cls := findClass_of_methodNamed BB.named
  have hlocks := BB.notSynchronized
  have hl := lv_entry ([.ref x]) (n := 2) (Nat.le_of_ble_eq_true rfl)
  rw [lg_entry_eq]
  generalize (lg_sl ([.ref x]) ++ List.replicate (2 - (lg_sl ([.ref x])).length) Slot.unset).toArray = ls at hl ⊢
  have hl : lv_has ls 2 [(0, .ref x)] := hl
  refine lv_aload_n hx hb d_X_leafOfKey_0 rfl (lv_at hl 0 rfl) ?_
  refine ht_cq HW (va_runV (own := R_X) (C := R_X) (As := []) (rest := []) ⟨hx, hb, hml, hown, htb⟩ (c_X_nearestLeaf l g w hX hK hN hT) (cwV 0 htb (ht_gv wd_83 wd_85 sl_1 wd_1 g_X_nearestLeaf) rfl rfl rfl (by decide +kernel) ⟨Nat.le_of_ble_eq_true rfl, Nat.le_of_ble_eq_true rfl⟩) (HW.preV hX rfl _) rfl rfl hl.1 rfl (lv_room (Nat.le_of_ble_eq_true rfl)) d_X_leafOfKey_1 ⟨Nat.le_of_ble_eq_true rfl, Nat.le_of_ble_eq_true rfl⟩) (fun q2 u1 H locs pn HW => ?_)
  obtain ⟨pn, eww⟩ := pn
  subst eww
  rcases pn with ⟨er, et⟩ | ⟨b, v, er, hbF, hp, hbest⟩
  · subst er
    subst et
    refine W.eq (g2 := F0 m 4 ls [.null]) rfl ?_
    refine lv_astore_nN (lv' := [(1, .null), (0, .ref x)]) hx hb d_X_leafOfKey_4 rfl hl (by decide) rfl (fun ls hl => ?_)
    refine lv_aload_nN hx hb d_X_leafOfKey_5 rfl (lv_at hl 0 rfl) ?_
    refine lv_ifnullN (tgt := 30) hx hb d_X_leafOfKey_6 (by decide) ?_
    refine lv_null hx hb d_X_leafOfKey_30 ?_
    exact ht_qret (r := none) hx hb hr hlocks HW ⟨Or.inl ⟨rfl, fun q hq => by rw [(hT.2.2.1.2 rfl).2] at hq; cases hq⟩, rfl⟩ d_X_leafOfKey_31
  · subst er
    refine W.eq (g2 := F0 m 4 ls [.ref b]) rfl ?_
    have hlb := hN.lf hbF hp
    have hkb := (hN b hbF).2.1
    refine lv_astore_n (lv' := [(1, .ref b), (0, .ref x)]) hx hb d_X_leafOfKey_4 rfl hl (by decide) rfl (fun ls hl => ?_)
    refine lv_aload_n hx hb d_X_leafOfKey_5 rfl (lv_at hl 0 rfl) ?_
    refine lv_ifnull hx hb d_X_leafOfKey_6 ?_
    refine lv_aload_n hx hb d_X_leafOfKey_9 rfl (lv_at hl 1 rfl) ?_
    refine ht_get (C := R_X) (T := F_X) (N := 9) (v := .ref kA) hx hb htb i_X hown HW hX rfl 0 (by decide) (htb _ wd_40) (fun _ h9 => h9) rfl d_X_leafOfKey_10 ?_
    refine lv_aload_n hx hb d_X_leafOfKey_13 rfl (lv_at hl 0 rfl) ?_
    refine ht_get (C := R_L) (T := F_L) (N := 5) (v := .ref (A b).1) hx hb htb i_L hown HW hlb rfl 0 (by decide) (htb _ wd_128) (fun x h9 => u_same (htb _ wd_129) x h9) rfl d_X_leafOfKey_14 ?_
    refine ht_ci HW (va_runS (own := R_X) (As := [.ref kA, .ref (A b).1]) (rest := []) ⟨hx, hb, hml, hown, htb⟩ (c_X_partingLevel l g w hK hkb) (va_cwS 2 htb (ht_gs wd_96 wd_97 wd_1 g_X_partingLevel) rfl rfl rfl (by decide +kernel) ⟨Nat.le_of_ble_eq_true rfl, Nat.le_of_ble_eq_true rfl⟩) (HW.preS _) rfl rfl hl.1 rfl (lv_room (Nat.le_of_ble_eq_true rfl)) d_X_leafOfKey_17 ⟨Nat.le_of_ble_eq_true rfl, Nat.le_of_ble_eq_true rfl⟩) (fun q4 u3 H locs pu3 HW => ?_)
    obtain ⟨eq4, eu3⟩ := pu3
    subst eu3
    refine lv_sipush (v := 256) hx hb d_X_leafOfKey_20 (by decide) ?_
    refine lv_icmp_ne (tgt := 30) hx hb d_X_leafOfKey_23 (by decide) (fun c23 => ?_) (fun c23 => ?_)
    · have hne : ¬ ht_part k (ht_rk (N b)) = 256 := fun q9 => c23 (by rw [eq4, q9]; rfl)
      refine lv_null hx hb d_X_leafOfKey_30 ?_
      exact ht_qret (r := none) hx hb hr hlocks HW ⟨Or.inl ⟨rfl, fun q hq e9 => hne (Nat.le_antisymm (ht_part_le _ _) (by have h9 := hbest q hq; rw [ht_part_eq.mpr e9.symm] at h9; exact h9))⟩, rfl⟩ d_X_leafOfKey_31
    · have heq : ht_part k (ht_rk (N b)) = 256 := by
        rw [eq4] at c23
        exact (nI_eq (by have := ht_part_le k (ht_rk (N b)); omega) (by omega)).mp c23
      refine lv_aload_n hx hb d_X_leafOfKey_26 rfl (lv_at hl 0 rfl) ?_
      refine lv_goto (tgt := 31) hx hb d_X_leafOfKey_27 (by decide) ?_
      exact ht_qret (r := some b) hx hb hr hlocks HW ⟨Or.inr ⟨b, v, rfl, hbF, hp, (ht_part_eq.mp heq).symm⟩, rfl⟩ d_X_leafOfKey_31
