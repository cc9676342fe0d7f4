theorem ht_LS.mono {g : ht_G} {w : ht_W} {X M : Nat → Nat} {a b : Nat} (h : ht_LS g w X M a) (hab : a ≤ b) : ht_LS g w X M b := by
  obtain ⟨tg, k, Lc, R, sbf, enf, ei, n, Lf, If, h1, h2, h3, h4, h5⟩ := h
  exact ⟨tg, k, Lc, R, sbf, enf, ei, n, Lf, If, h1, h2, h3, Nat.le_trans h4 hab, h5⟩
theorem ht_len9 {L z : Nat} (hL : L ≤ 4608) (hz : z ≤ 512) : (Int32.ofNat L - 9 < nI (9 * z)) ↔ ¬ 9 * z + 9 ≤ L := by
  have h1 := pk_sub_toInt (a := L) (b := 9) (by omega) (by omega)
  have h2 := nI_toInt (n := 9 * z) (by omega)
  have e : Int32.ofNat L - 9 = nI L - nI 9 := rfl
  rw [e, Int32.lt_iff_toInt_lt, h1, h2]
  omega
set_option maxHeartbeats 4000000 in
set_option maxRecDepth 100000 in
theorem law_loop {p : Program} {l : Launch} {e : Env} {s : State} {m : MethodId} {below : List Frame} {meth : Method} {c : Code} {b L : Nat} {xs : Nat → Int32} (C0 : lw_At p s m meth c b L xs) (g : ht_G) (hg : g.2.1 = s.heap.size) (X M : Nat → Nat) (hL : L ≤ 4608) : ∀ (r z : Nat), z + r = 512 → ∀ (iv : Int32), iv = nI (9 * z) → ∀ (w : ht_W) (H : Heap) (locs : List Loc) (ls : Array Slot), ht_LS g w X M z → ht_I g s w H locs → lv_has ls 4 [(0, .ref b), (1, .ref (X 0)), (2, .ref (M 0)), (3, .int iv)] → W p l e room_1 s m #[Value.ref b] below meth c H locs (27 + 6 * z) (226783 + 27 * z) (lw_Z below #[Value.ref b] s) (F0 m 18 ls []) := by
  obtain ⟨hx, hb, hr, hml, hown, hts, hX, hbl, hlocks, hgv⟩ := id C0
  have hbA : ¬ ht_A g b := by unfold ht_A; rw [hg]; exact Nat.not_le.mpr hbl
  intro r
  induction r with
  | zero =>
    intro z hz9 iv eiv w H locs ls hLS HW hl
    have eiv0 : iv = nI (9 * z + 0) := eiv
    refine lv_iload_n hx hb d_W_law_18 rfl (lv_at hl 3 rfl) ?_
    refine lv_aload_n hx hb d_W_law_19 rfl (lv_at hl 0 rfl) ?_
    refine va_slen hx hb hX hbl hbA HW.2.2.2.2.2 d_W_law_20 ?_
    refine lv_bipush (v := 9) hx hb d_W_law_21 (by decide) ?_
    refine lv_isub hx hb d_W_law_23 ?_
    refine lv_icmp_gt (tgt := 723) hx hb d_W_law_24 (by decide) (fun c24 => ?_) (fun c24 => ?_)
    · refine lv_iconst (v := 1) hx hb d_W_law_723 (by decide) ?_
      refine va_forget (fun q hq => by rw [← hg]; exact HW.2.2.2.2.2.2.2 q hq) ?_
      refine W.widen (k := 600000) (n := 7302250) (by omega) (by omega) ?_
      exact lw_ret hx hb hr hlocks d_W_law_724
    · exact absurd ((ht_len9 (z := z) hL (by omega)).mpr (by omega)) (by rw [eiv] at c24; exact c24)
  | succ r ih =>
    intro z hz9 iv eiv w H locs ls hLS HW hl
    have eiv0 : iv = nI (9 * z + 0) := eiv
    refine lv_iload_n hx hb d_W_law_18 rfl (lv_at hl 3 rfl) ?_
    refine lv_aload_n hx hb d_W_law_19 rfl (lv_at hl 0 rfl) ?_
    refine va_slen hx hb hX hbl hbA HW.2.2.2.2.2 d_W_law_20 ?_
    refine lv_bipush (v := 9) hx hb d_W_law_21 (by decide) ?_
    refine lv_isub hx hb d_W_law_23 ?_
    refine lv_icmp_gt (tgt := 723) hx hb d_W_law_24 (by decide) (fun c24 => ?_) (fun c24 => ?_)
    · refine lv_iconst (v := 1) hx hb d_W_law_723 (by decide) ?_
      refine va_forget (fun q hq => by rw [← hg]; exact HW.2.2.2.2.2.2.2 q hq) ?_
      refine W.widen (k := 600000) (n := 7302250) (by omega) (by omega) ?_
      exact lw_ret hx hb hr hlocks d_W_law_724
    · have hz : 9 * z + 9 ≤ L := Classical.not_not.mp (fun y9 => c24 (by rw [eiv]; exact (ht_len9 hL (by omega)).mpr y9))
      have nxt : ∀ (w : ht_W) (H : Heap) (locs : List Loc) (ls : Array Slot), ht_LS g w X M (z + 1) → ht_I g s w H locs → lv_has ls 4 [(0, .ref b), (1, .ref (X 0)), (2, .ref (M 0)), (3, .int iv)] → W p l e room_1 s m #[Value.ref b] below meth c H locs (27 + 6 * z + 6) (226783 + 27 * z + 27) (lw_Z below #[Value.ref b] s) (F0 m 717 ls []) := by
        intro w H locs ls hLS HW hl
        obtain ⟨iv2, eiv2⟩ : ∃ zI : Int32, zI = iv + 9 := ⟨_, rfl⟩
        refine lv_iinc (v := iv2) (lv' := [(3, .int iv2), (0, .ref b), (1, .ref (X 0)), (2, .ref (M 0))]) hx hb d_W_law_717 hl (k := 3) rfl (by rw [eiv2]; rfl) (by decide) rfl (fun ls hl => ?_)
        refine lv_goto (tgt := 18) hx hb d_W_law_720 (by decide) ?_
        have h9 := ih (z + 1) (by omega) iv2 (by rw [eiv2, eiv]; exact nI_add (9 * z) 9) w H locs ls hLS HW (lv_sub hl [1, 2, 3, 0] rfl)
        rw [show 27 + 6 * (z + 1) = 27 + 6 * z + 6 by omega, show 226783 + 27 * (z + 1) = 226783 + 27 * z + 27 by omega] at h9
        exact h9
      refine lv_aload_n hx hb d_W_law_27 rfl (lv_at hl 0 rfl) ?_
      refine lv_iload_n hx hb d_W_law_28 rfl (lv_at hl 3 rfl) ?_
      refine va_sld hx hb hX hbl hbA HW.2.2.2.2.2 (by rw [eiv0]; exact vp_in_nI (by omega) (by omega)) d_W_law_29 ?_
      refine lv_topi (fun y1 ey1 => ?_)
      have ey1 : y1 = xs (9 * z + 0) := by rw [ey1, eiv0, nI_clamp (by omega)]
      subst ey1
      refine lv_bipush (v := 15) hx hb d_W_law_30 (by decide) ?_
      refine lv_iand hx hb d_W_law_32 ?_
      obtain ⟨j, hj, ej⟩ := pk_andE (xs (9 * z + 0)) (m := 15) 4 (by decide)
      rw [ej]
      rcases (show j = 0 ∨ j = 1 ∨ j = 2 ∨ j = 3 ∨ j = 4 ∨ j = 5 ∨ j = 6 ∨ j = 7 ∨ j = 8 ∨ j = 9 ∨ j = 10 ∨ j = 11 ∨ j = 12 ∨ j = 13 ∨ j = 14 ∨ j = 15 by omega) with rfl | rfl | rfl | rfl | rfl | rfl | rfl | rfl | rfl | rfl | rfl | rfl | rfl | rfl | rfl | rfl
      · refine lv_tableIn (off := 63) (tgt := 96) hx hb d_W_law_33 (by decide) (by decide) (by decide) (by decide) ?_
        exact lc_key C0 g hg X M z hz hL iv eiv _ _ (by omega) (by omega) nxt w H locs ls hLS HW (lv_sub hl [0, 1, 2, 3] rfl)
      · refine lv_tableIn (off := 240) (tgt := 273) hx hb d_W_law_33 (by decide) (by decide) (by decide) (by decide) ?_
        exact lc_set C0 g hg X M z hz hL iv eiv _ _ (by omega) (by omega) nxt w H locs ls hLS HW (lv_sub hl [0, 1, 2, 3] rfl)
      · refine lv_tableIn (off := 419) (tgt := 452) hx hb d_W_law_33 (by decide) (by decide) (by decide) (by decide) ?_
        exact lc_remove C0 g hg X M z hz hL iv eiv _ _ (by omega) (by omega) nxt w H locs ls hLS HW (lv_sub hl [0, 1, 2, 3] rfl)
      · refine lv_tableIn (off := 432) (tgt := 465) hx hb d_W_law_33 (by decide) (by decide) (by decide) (by decide) ?_
        exact lc_has C0 g hg X M z hz hL iv eiv _ _ (by omega) (by omega) nxt w H locs ls hLS HW (lv_sub hl [0, 1, 2, 3] rfl)
      · refine lv_tableIn (off := 445) (tgt := 478) hx hb d_W_law_33 (by decide) (by decide) (by decide) (by decide) ?_
        exact lc_value C0 g hg X M z hz hL iv eiv _ _ (by omega) (by omega) nxt w H locs ls hLS HW (lv_sub hl [0, 1, 2, 3] rfl)
      · refine lv_tableIn (off := 469) (tgt := 502) hx hb d_W_law_33 (by decide) (by decide) (by decide) (by decide) ?_
        exact lc_count C0 g hg X M z hz hL iv eiv _ _ (by omega) (by omega) nxt w H locs ls hLS HW (lv_sub hl [0, 1, 2, 3] rfl)
      · refine lv_tableIn (off := 482) (tgt := 515) hx hb d_W_law_33 (by decide) (by decide) (by decide) (by decide) ?_
        exact lc_root C0 g hg X M z hz hL iv eiv _ _ (by omega) (by omega) nxt w H locs ls hLS HW (lv_sub hl [0, 1, 2, 3] rfl)
      · refine lv_tableIn (off := 506) (tgt := 539) hx hb d_W_law_33 (by decide) (by decide) (by decide) (by decide) ?_
        exact lc_prove C0 g hg X M z hz hL iv eiv _ _ (by omega) (by omega) nxt w H locs ls hLS HW (lv_sub hl [0, 1, 2, 3] rfl)
      · refine lv_tableIn (off := 519) (tgt := 552) hx hb d_W_law_33 (by decide) (by decide) (by decide) (by decide) ?_
        exact lc_sibling C0 g hg X M z hz hL iv eiv _ _ (by omega) (by omega) nxt w H locs ls hLS HW (lv_sub hl [0, 1, 2, 3] rfl)
      · refine lv_tableIn (off := 553) (tgt := 586) hx hb d_W_law_33 (by decide) (by decide) (by decide) (by decide) ?_
        exact lc_ending C0 g hg X M z hz hL iv eiv _ _ (by omega) (by omega) nxt w H locs ls hLS HW (lv_sub hl [0, 1, 2, 3] rfl)
      · refine lv_tableIn (off := 566) (tgt := 599) hx hb d_W_law_33 (by decide) (by decide) (by decide) (by decide) ?_
        exact lc_endNumber C0 g hg X M z hz hL iv eiv _ _ (by omega) (by omega) nxt w H locs ls hLS HW (lv_sub hl [0, 1, 2, 3] rfl)
      · refine lv_tableIn (off := 600) (tgt := 633) hx hb d_W_law_33 (by decide) (by decide) (by decide) (by decide) ?_
        exact lc_digest C0 g hg X M z hz hL iv eiv _ _ (by omega) (by omega) nxt w H locs ls hLS HW (lv_sub hl [0, 1, 2, 3] rfl)
      · refine lv_tableOut (tgt := 717) hx hb d_W_law_33 (Or.inr (by decide)) (by decide) ?_
        refine W.widen (k := 27 + 6 * z + 6) (n := 226783 + 27 * z + 27) (by omega) (by omega) ?_
        exact nxt w H locs ls (hLS.mono (Nat.le_succ z)) HW (lv_sub hl [0, 1, 2, 3] rfl)
      · refine lv_tableOut (tgt := 717) hx hb d_W_law_33 (Or.inr (by decide)) (by decide) ?_
        refine W.widen (k := 27 + 6 * z + 6) (n := 226783 + 27 * z + 27) (by omega) (by omega) ?_
        exact nxt w H locs ls (hLS.mono (Nat.le_succ z)) HW (lv_sub hl [0, 1, 2, 3] rfl)
      · refine lv_tableOut (tgt := 717) hx hb d_W_law_33 (Or.inr (by decide)) (by decide) ?_
        refine W.widen (k := 27 + 6 * z + 6) (n := 226783 + 27 * z + 27) (by omega) (by omega) ?_
        exact nxt w H locs ls (hLS.mono (Nat.le_succ z)) HW (lv_sub hl [0, 1, 2, 3] rfl)
      · refine lv_tableOut (tgt := 717) hx hb d_W_law_33 (Or.inr (by decide)) (by decide) ?_
        refine W.widen (k := 27 + 6 * z + 6) (n := 226783 + 27 * z + 27) (by omega) (by omega) ?_
        exact nxt w H locs ls (hLS.mono (Nat.le_succ z)) HW (lv_sub hl [0, 1, 2, 3] rfl)
