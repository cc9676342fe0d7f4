theorem ht_nE : ∀ j, j < 4 → (Cond.eq (.elem (.static "HashTree" "EMPTY" "[J") (.int (Int32.ofNat j))) (.long 0) : Cond) ∈ flatC (Jvm.Cond.and given_1 narrow_1) := by decide +kernel
theorem ht_mE : (Cond.arrayOf (.static "HashTree" "EMPTY" "[J") .long : Cond) ∈ flatC (Jvm.Cond.and given_1 narrow_1) ∧ (Cond.eq (.length (.static "HashTree" "EMPTY" "[J")) (.int 4) : Cond) ∈ flatC (Jvm.Cond.and given_1 narrow_1) := by decide +kernel
theorem ht_nF : ∀ j, j < 8 → (Cond.eq (.elem (.static "HashTree$Digester" "FIRST_WORDS" "[I") (.int (Int32.ofNat j))) (.int (ht_w8.getD j 0)) : Cond) ∈ flatC (Jvm.Cond.and given_1 narrow_1) := by decide +kernel
theorem ht_mF : (Cond.arrayOf (.static "HashTree$Digester" "FIRST_WORDS" "[I") .int : Cond) ∈ flatC (Jvm.Cond.and given_1 narrow_1) ∧ (Cond.eq (.length (.static "HashTree$Digester" "FIRST_WORDS" "[I")) (.int 8) : Cond) ∈ flatC (Jvm.Cond.and given_1 narrow_1) := by decide +kernel
theorem ht_nK : ∀ j, j < 64 → (Cond.eq (.elem (.static "HashTree$Digester" "K" "[I") (.int (Int32.ofNat j))) (.int (ht_k64.getD j 0)) : Cond) ∈ flatC (Jvm.Cond.and given_1 narrow_1) := by decide +kernel
theorem ht_mK : (Cond.arrayOf (.static "HashTree$Digester" "K" "[I") .int : Cond) ∈ flatC (Jvm.Cond.and given_1 narrow_1) ∧ (Cond.eq (.length (.static "HashTree$Digester" "K" "[I")) (.int 64) : Cond) ∈ flatC (Jvm.Cond.and given_1 narrow_1) := by decide +kernel
theorem ht_nC : ∀ j, j < 64 → (Cond.eq (.elem (.static "HashTreeModel" "CONSTANTS" "[J") (.int (Int32.ofNat j))) (.long (ht_l64.getD j 0)) : Cond) ∈ flatC (Jvm.Cond.and given_1 narrow_1) := by decide +kernel
theorem ht_mC : (Cond.arrayOf (.static "HashTreeModel" "CONSTANTS" "[J") .long : Cond) ∈ flatC (Jvm.Cond.and given_1 narrow_1) ∧ (Cond.eq (.length (.static "HashTreeModel" "CONSTANTS" "[J")) (.int 64) : Cond) ∈ flatC (Jvm.Cond.and given_1 narrow_1) := by decide +kernel
set_option maxHeartbeats 4000000 in
set_option maxRecDepth 100000 in
/-- what holds at the entry, as one fact over an empty pool -/
theorem ht_begin {p : Program} {s : State} {m : MethodId} {meth : Method} {c : Code} {b L : Nat} {xs : Nat → Int32} (C0 : lw_At p s m meth c b L xs) : ∃ g : ht_G, g.2.1 = s.heap.size ∧ ht_I g s ([], fun _ => .inr (0, [])) s.heap [] := by
  obtain ⟨hx, hb, hr, hml, hown, hts, hX, hbl, hlocks, hgv⟩ := C0
  have htb : ∀ w ∈ bg, w.before #[Value.ref b] s = true := fun w h => hts w (List.mem_filter.mp h).1
  have htt : ∀ w ∈ tables_1, w.before #[Value.ref b] s = true := fun w h => hts w (List.mem_append_right _ h)
  have hs := flat_of_before _ hgv
  have hA : ∀ a : Nat, a < s.heap.size → ¬ (fun q : Nat => s.heap.size ≤ q) a := fun a h z => Nat.not_le.mpr h z
  obtain ⟨c0, iS0, hKn0⟩ := u_known (C := R_X) (T := F_X) (N := 9) (n := 9) htb i_X (htb _ wd_13)
  obtain ⟨c1, iS1, hKn1⟩ := u_known (C := R_D) (T := F_D) (N := 3) (n := 3) htb i_D (htb _ wd_21)
  obtain ⟨c2, iS2, hKn2⟩ := u_known (C := R_L) (T := F_L) (N := 5) (n := 5) htb i_L (htb _ wd_110)
  obtain ⟨c3, iS3, hKn3⟩ := u_known (C := R_B) (T := F_B) (N := 6) (n := 6) htb i_B (htb _ wd_160)
  obtain ⟨c4, iS4, hKn4⟩ := u_known (C := R_M) (T := F_M) (N := 22) (n := 22) htb i_M (htb _ wd_304)
  obtain ⟨aI, kI, mI, hI1, hI2, hI3⟩ := Cond.arrayClass_spec (htb _ wd_37)
  obtain ⟨aJ, kJ, mJ, hJ1, hJ2, hJ3⟩ := Cond.arrayClass_spec (htb _ wd_36)
  obtain ⟨aB, kB, mB, hB1, hB2, hB3⟩ := Cond.arrayClass_spec (htb _ wd_378)
  have hover : (Cond.arrayOver (.object "HashTree$Node")).before #[Value.ref b] s = true := htt _ (List.mem_of_getElem? (i := 39) (by decide +kernel))
  obtain ⟨mQ, aQ, kQ, hQ1, hQ2, hQ3, hQ4, hQ5⟩ := Cond.arrayOver_spec hover
  obtain ⟨tE, etE, hTE⟩ := va_Tof (tm := (.static "HashTree" "EMPTY" "[J")) (ty := .long) (N := 4) (f := (fun _ => .long 0)) (A := fun q : Nat => s.heap.size ≤ q) (by decide) (hs _ ht_mE.1) (va_eqt (hs _ ht_mE.2)) (fun j hj => va_eqtl (hs _ (ht_nE j hj))) hA
  have hZE := va_Zof (A := fun q : Nat => s.heap.size ≤ q) (htt _ (List.mem_of_getElem? (i := 266) (by decide +kernel))) (htb _ wd_1) etE hA
  obtain ⟨tF, etF, hTF⟩ := va_Tof (tm := (.static "HashTree$Digester" "FIRST_WORDS" "[I")) (ty := .int) (N := 8) (f := (fun j => .int (ht_w8.getD j 0))) (A := fun q : Nat => s.heap.size ≤ q) (by decide) (hs _ ht_mF.1) (va_eqt (hs _ ht_mF.2)) (fun j hj => va_eqt (hs _ (ht_nF j hj))) hA
  have hZF := va_Zof (A := fun q : Nat => s.heap.size ≤ q) (htt _ (List.mem_of_getElem? (i := 230) (by decide +kernel))) (htb _ wd_2) etF hA
  obtain ⟨tK, etK, hTK⟩ := va_Tof (tm := (.static "HashTree$Digester" "K" "[I")) (ty := .int) (N := 64) (f := (fun j => .int (ht_k64.getD j 0))) (A := fun q : Nat => s.heap.size ≤ q) (by decide) (hs _ ht_mK.1) (va_eqt (hs _ ht_mK.2)) (fun j hj => va_eqt (hs _ (ht_nK j hj))) hA
  have hZK := va_Zof (A := fun q : Nat => s.heap.size ≤ q) (htt _ (List.mem_of_getElem? (i := 250) (by decide +kernel))) (htb _ wd_2) etK hA
  obtain ⟨tC, etC, hTC⟩ := va_Tof (tm := (.static "HashTreeModel" "CONSTANTS" "[J")) (ty := .long) (N := 64) (f := (fun j => .long (ht_l64.getD j 0))) (A := fun q : Nat => s.heap.size ≤ q) (by decide) (hs _ ht_mC.1) (va_eqt (hs _ ht_mC.2)) (fun j hj => va_eqtl (hs _ (ht_nC j hj))) hA
  have hZC := va_Zof (A := fun q : Nat => s.heap.size ≤ q) (htt _ (List.mem_of_getElem? (i := 467) (by decide +kernel))) (htb _ wd_3) etC hA
  refine ⟨((fun k => if k = 0 then c0 else if k = 1 then c1 else if k = 2 then c2 else if k = 3 then c3 else c4, fun k => if k = 0 then iS0 else if k = 1 then iS1 else if k = 2 then iS2 else if k = 3 then iS3 else iS4), s.heap.size, (fun k => if k = 0 then aI else if k = 1 then aJ else if k = 2 then aQ else aB), (fun k => if k = 0 then tE else if k = 1 then tF else if k = 2 then tK else tC)), rfl, Nat.le_refl _, ⟨?_, ?_⟩, ⟨⟨hZE, hTE⟩, ⟨hZF, hTF⟩, ⟨hZK, hTK⟩, ⟨hZC, hTC⟩, va_Nw.of rfl (htt _ (List.mem_of_getElem? (i := 510) (by decide +kernel))), va_Nw.of rfl (htt _ (List.mem_of_getElem? (i := 511) (by decide +kernel))), va_Nw.of rfl (htt _ (List.mem_of_getElem? (i := 116) (by decide +kernel))), va_Nc.of (hs _ (by decide +kernel)), va_Nc.of (hs _ (by decide +kernel)), va_AO.of hover, va_Nw.of rfl (htt _ (List.mem_of_getElem? (i := 22) (by decide +kernel)))⟩, ?_, ?_, va_S.rf⟩
  · intro k q hq
    match k, hq with
    | 0, hq => cases hq; exact hKn0
    | 1, hq => cases hq; exact hKn1
    | 2, hq => cases hq; exact hKn2
    | 3, hq => cases hq; exact hKn3
    | 4, hq => cases hq; exact hKn4
    | k + 5, hq => simp [vwCl] at hq
  · intro k q hq
    match k, hq with
    | 0, hq => cases hq; exact ⟨fun n z => ⟨fun k h => (by cases h), kI, hI2, mI, hI3⟩, hI1⟩
    | 1, hq => cases hq; exact ⟨fun n z => ⟨fun k h => (by cases h), kJ, hJ2, mJ, hJ3⟩, hJ1⟩
    | 2, hq => cases hq; exact ⟨fun n z => ⟨fun k h => (by cases h), kQ, hQ3, mQ, hQ4⟩, kQ, mQ, hQ3, hQ4, hQ1, hQ5⟩
    | 3, hq => cases hq; exact ⟨fun n z => ⟨fun k h => (by cases h), kB, hB2, mB, hB3⟩, hB1⟩
    | k + 4, hq => simp [ht_ty] at hq
  · intro k q h
    simp [va_pl] at h
  · exact ⟨fun i j p q h => by simp [va_pl] at h, fun k q h => by simp [va_pl] at h⟩
theorem ht_T_nil0 (N : ht_N) : ht_T N [] none [] := ⟨List.nodup_nil, List.nodup_nil, ⟨fun t h => (by cases h), fun _ => ⟨rfl, rfl⟩⟩, fun a h => (by cases h), fun a h => (by cases h), fun a h => (by cases h), fun a h => (by cases h), fun a h => (by cases h)⟩
theorem ht_FH_nil (dg : Int32 → ht_K → ht_K → ht_K) (N : ht_N) : ht_FH dg N [] none [] := ⟨fun t h => (by cases h), fun a h => (by cases h)⟩
theorem ht_tg0 {X : Nat → Nat} (hinj : ∀ i j, i < 9 → j < 9 → X i = X j → i = j) : ∃ tg : Nat → Nat × Nat, (∀ i, i < 9 → tg (X i) = (1, i)) ∧ ∀ b, (∀ i, i < 9 → X i ≠ b) → tg b = (0, 0) := by
  classical
  refine ⟨fun b => if h : ∃ i, i < 9 ∧ X i = b then (1, h.choose) else (0, 0), fun i hi => ?_, fun b hb => ?_⟩
  · have h : ∃ j, j < 9 ∧ X j = X i := ⟨i, hi, rfl⟩
    show (if h : ∃ j, j < 9 ∧ X j = X i then (1, h.choose) else (0, 0)) = (1, i)
    rw [dif_pos h]
    have := hinj _ _ h.choose_spec.1 hi h.choose_spec.2
    rw [this]
  · show (if h : ∃ j, j < 9 ∧ X j = b then (1, h.choose) else (0, 0)) = (0, 0)
    rw [dif_neg (fun ⟨j, hj, e⟩ => hb j hj e)]
theorem ht_LS_start {g : ht_G} {w : ht_W} {X M : Nat → Nat} (hinj : ∀ i j, i < 9 → j < 9 → X i = X j → i = j) (h0 : ht_at w (X 0) (ht_xo X none 0 (-1))) (h1 : ht_at w (X 1) (ht_al g 4 (fun _ => 0))) (h2 : ht_Dg g w (X 2) (X 3) (X 4) ((fun _ => 0), (fun _ => 0), 0)) (h5 : ht_at w (X 5) (ht_aq g 257 (fun _ => none))) (h6 : ht_at w (X 6) (ht_al g 1024 (fun _ => 0))) (h7 : ht_at w (X 7) (ht_al g 4 (fun _ => 0))) (h8 : ht_at w (X 8) (ht_al g 8 (fun _ => 0))) (hM : ht_Mo g w M (va_up (fun _ => 0) 4 (-1)) (fun _ _ => 0) (fun _ _ => 0)) (hne : ∀ i j, i < 9 → j < 18 → X i ≠ M j) : ht_LS g w X M 0 := by
  obtain ⟨tg, ht1, ht2⟩ := ht_tg0 hinj
  refine ⟨tg, ht_kz, [], [], fun _ => 0, fun _ => 0, -1, va_up (fun _ => 0) 4 (-1), fun _ _ => 0, fun _ _ => 0, ⟨fun _ => (ht_kz, 0, ht_kz, false, .inl ht_kz), fun _ => (0, 0, 0), [], none, ((fun _ => 0), (fun _ => 0), 0), fun _ => none, fun _ => 0, ?_⟩, ?_, List.Perm.refl _, Nat.le_refl _, fun i hi => ?_, ?_⟩
  · refine ⟨h0, ?_, h2, h5, h6, h7, h8, fun a ha => (by cases ha), ht_T_nil0 _, ht_FH_nil _ _, ⟨ht1, fun a ha => (by cases ha)⟩, Nat.le_refl _⟩
    rw [show ht_kf ht_kz = (fun _ => 0) from funext ht_kz0]
    exact h1
  · refine ⟨hM, ⟨Nat.zero_le _, rfl, fun p q h => (by cases h)⟩, List.Pairwise.nil, fun j hj => (ht_kz0 j).symm, fun sl hsl mk hmk h => ?_, Or.inl rfl⟩
    rcases hmk with e | e
    · rw [e] at h
      have h : (0 : Int32) = 0 + 1 := h
      exact absurd h (by decide)
    · rw [e] at h
      have h : (0 : Int32) = 1 + 1 := h
      exact absurd h (by decide)
  · rw [ht2 (M i) (fun j hj => hne j i hj hi)]
  · exact ⟨rfl, 0, Nat.zero_le _, rfl, fun j i hj hi => by rw [if_neg (Nat.not_lt_zero j)], fun i hi => rfl⟩
set_option maxHeartbeats 4000000 in
set_option maxRecDepth 100000 in
/-- from the entry, for every script of at most 4608 ints, the law comes to its end with true -/
theorem whole_start {p : Program} {e : Env} {s : State} {m : MethodId} {below : List Frame} {meth : Method} {c : Code} (l : Launch) {b L : Nat} {xs : Nat → Int32} (hL : L ≤ 4608) (C0 : lw_At p s m meth c b L xs) : W p l e room_1 s m #[Value.ref b] below meth c s.heap [] 0 0 (lw_Z below #[Value.ref b] s) (entryFrame m ([Value.ref b] : List Value).toArray 4) := by
  obtain ⟨hx, hb, hr, hml, hown, hts, hX, hbl, hlocks, hgv⟩ := id C0
  have htb : ∀ w ∈ bg, w.before #[Value.ref b] s = true := fun w h => hts w (List.mem_filter.mp h).1
  obtain ⟨g, hg, HW⟩ := ht_begin C0
  obtain ⟨w0, hw0⟩ : ∃ w0 : ht_W, w0 = ([], fun _ => .inr (0, [])) := ⟨_, rfl⟩
  rw [← hw0] at HW
  have hl := lv_entry ([.ref b]) (n := 4) (Nat.le_of_ble_eq_true rfl)
  rw [lg_entry_eq]
  generalize (lg_sl ([.ref b]) ++ List.replicate (4 - (lg_sl ([.ref b])).length) Slot.unset).toArray = ls at hl ⊢
  have hl : lv_has ls 4 [(0, .ref b)] := hl
  refine ht_new (C := R_X) (T := F_X) (N := 9) (ci := 0) (fs := [.null, .null, .null, .null, .int 0, .null, .null, .null, .int 0]) hx hb htb i_X t_X t_X_ok hown (htb _ wd_12) (htb _ wd_13) (htb _ wd_1) HW rfl (fun j hj => by rcases (show j = 0 ∨ j = 1 ∨ j = 2 ∨ j = 3 ∨ j = 4 ∨ j = 5 ∨ j = 6 ∨ j = 7 ∨ j = 8 by omega) with rfl | rfl | rfl | rfl | rfl | rfl | rfl | rfl | rfl <;> rfl) (Nat.le_of_ble_eq_true rfl) (Nat.le_of_ble_eq_true rfl) d_W_law_0 (fun ox H hq_ox HW => ?_)
  obtain ⟨u1, hu1⟩ : ∃ zW : ht_W, zW = ht_nw w0 ox (.inr (0, [.null, .null, .null, .null, .int 0, .null, .null, .null, .int 0]) : va_E) := ⟨_, rfl⟩
  have HW := HW.to hu1.symm
  have h_ox : ht_at u1 ox (.inr (0, [.null, .null, .null, .null, .int 0, .null, .null, .null, .int 0]) : va_E) := by rw [hu1]; exact ht_at_new
  refine lv_dup hx hb d_W_law_3 rfl ?_
  refine ht_cv HW (va_runI (own := R_W) (As := []) (rest := [.ref ox]) ⟨hx, hb, hml, hown, htb⟩ (c_X_init l g u1 h_ox) (cwI 0 htb g_X_init rfl rfl rfl (htb _ wd_1) (htb _ wd_14) (htb _ wd_15) rfl (by decide +kernel) ⟨Nat.le_of_ble_eq_true rfl, Nat.le_of_ble_eq_true rfl⟩) (HW.preS _) rfl rfl hl.1 rfl (lv_room (Nat.le_of_ble_eq_true rfl)) d_W_law_4 ⟨Nat.le_of_ble_eq_true rfl, Nat.le_of_ble_eq_true rfl⟩) (fun u2 H locs px HW => ?_)
  obtain ⟨X, hXo, hXw, hXi, hC0, hC1, hC2, hC5, hC6, hC7, hC8, hfrX⟩ := px
  have HW9 := HW
  subst hXo
  have HW := HW9
  have hXin : ∀ i, i < 9 → X i ∈ u2.1 := fun i hi => by
    rcases (show i = 0 ∨ i = 1 ∨ i = 2 ∨ i = 3 ∨ i = 4 ∨ i = 5 ∨ i = 6 ∨ i = 7 ∨ i = 8 by omega) with rfl | rfl | rfl | rfl | rfl | rfl | rfl | rfl | rfl
    · exact hC0.1
    · exact hC1.1
    · exact hC2.1.1
    · exact hC2.2.1.1
    · exact hC2.2.2.1
    · exact hC5.1
    · exact hC6.1
    · exact hC7.1
    · exact hC8.1
  refine lv_astore_n (lv' := [(1, .ref (X 0)), (0, .ref b)]) hx hb d_W_law_7 rfl hl (by decide) rfl (fun ls hl => ?_)
  refine ht_new (C := R_M) (T := F_M) (N := 22) (ci := 4) (fs := [.null, .null, .int 0, .null, .null, .null, .null, .int 0, .null, .int 0, .null, .int 0, .int 0, .null, .null, .null, .null, .null, .null, .null, .null, .null]) hx hb htb i_M t_M t_M_ok hown (htb _ wd_303) (htb _ wd_304) (htb _ wd_3) HW rfl (fun j hj => by rcases (show j = 0 ∨ j = 1 ∨ j = 2 ∨ j = 3 ∨ j = 4 ∨ j = 5 ∨ j = 6 ∨ j = 7 ∨ j = 8 ∨ j = 9 ∨ j = 10 ∨ j = 11 ∨ j = 12 ∨ j = 13 ∨ j = 14 ∨ j = 15 ∨ j = 16 ∨ j = 17 ∨ j = 18 ∨ j = 19 ∨ j = 20 ∨ j = 21 by omega) with rfl | rfl | rfl | rfl | rfl | rfl | rfl | rfl | rfl | rfl | rfl | rfl | rfl | rfl | rfl | rfl | rfl | rfl | rfl | rfl | rfl | rfl <;> rfl) (Nat.le_of_ble_eq_true rfl) (Nat.le_of_ble_eq_true rfl) d_W_law_8 (fun om H hq_om HW => ?_)
  obtain ⟨u3, hu3⟩ : ∃ zW : ht_W, zW = ht_nw u2 om (.inr (4, [.null, .null, .int 0, .null, .null, .null, .null, .int 0, .null, .int 0, .null, .int 0, .int 0, .null, .null, .null, .null, .null, .null, .null, .null, .null]) : va_E) := ⟨_, rfl⟩
  have HW := HW.to hu3.symm
  have h_om : ht_at u3 om (.inr (4, [.null, .null, .int 0, .null, .null, .null, .null, .int 0, .null, .int 0, .null, .int 0, .int 0, .null, .null, .null, .null, .null, .null, .null, .null, .null]) : va_E) := by rw [hu3]; exact ht_at_new
  refine lv_dup hx hb d_W_law_11 rfl ?_
  have hfr1 : ht_fr (fun b => b = om) u2 u3 := by rw [hu3]; exact ht_fr.nw hq_om
  refine ht_cv HW (va_runI (own := R_W) (As := []) (rest := [.ref om]) ⟨hx, hb, hml, hown, htb⟩ (c_M_init l g u3 h_om) (cwI 0 htb g_M_init rfl rfl rfl (htb _ wd_3) (htb _ wd_305) (htb _ wd_306) rfl (by decide +kernel) ⟨Nat.le_of_ble_eq_true rfl, Nat.le_of_ble_eq_true rfl⟩) (HW.preS _) rfl rfl hl.1 rfl (lv_room (Nat.le_of_ble_eq_true rfl)) d_W_law_12 ⟨Nat.le_of_ble_eq_true rfl, Nat.le_of_ble_eq_true rfl⟩) (fun u4 H locs pm HW => ?_)
  obtain ⟨M, hMo0, hMw, hMM, hfrM⟩ := pm
  have HW9 := HW
  subst hMo0
  have HW := HW9
  have hom : ∀ i, i < 9 → X i ≠ M 0 := fun i hi z9 => hq_om (by rw [← z9]; exact hXin i hi)
  have hfr2 := hfr1.trans hfrM
  have hLS : ht_LS g u4 X M 0 := by
    refine ht_LS_start hXi (hfr2.at hC0 (hom 0 (by decide))) (hfr2.at hC1 (hom 1 (by decide))) ⟨hfr2.at hC2.1 (hom 2 (by decide)), hfr2.at hC2.2.1 (hom 3 (by decide)), hfr2.at hC2.2.2 (hom 4 (by decide))⟩ (hfr2.at hC5 (hom 5 (by decide))) (hfr2.at hC6 (hom 6 (by decide))) (hfr2.at hC7 (hom 7 (by decide))) (hfr2.at hC8 (hom 8 (by decide))) hMM (fun i j hi hj z9 => ?_)
    by_cases e9 : j = 0
    · rw [e9] at z9
      exact hom i hi z9
    · exact hMw j (by omega) hj (by rw [← z9]; exact (hfr1 _ (hXin i hi) (hom i hi)).1)
  refine lv_astore_n (lv' := [(2, .ref (M 0)), (1, .ref (X 0)), (0, .ref b)]) hx hb d_W_law_15 rfl hl (by decide) rfl (fun ls hl => ?_)
  refine lv_iconst (v := 0) hx hb d_W_law_16 (by decide) ?_
  refine lv_istore_n (lv' := [(3, .int 0), (2, .ref (M 0)), (1, .ref (X 0)), (0, .ref b)]) hx hb d_W_law_17 rfl hl (by decide) rfl (fun ls hl => ?_)
  exact law_loop C0 g hg X M hL 512 0 rfl 0 nI_0.symm _ _ _ _ hLS HW (lv_sub hl [3, 2, 1, 0] rfl)
