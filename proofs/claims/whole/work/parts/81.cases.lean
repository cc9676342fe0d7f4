theorem ht_Mo.in {g : ht_G} {w : ht_W} {M : Nat → Nat} {n : Nat → Int32} {Lf : ht_LF} {If : ht_IF} (h : ht_Mo g w M n Lf If) (i : Nat) (hi : i < 18) : M i ∈ w.1 := by
  by_cases e : ht_isl i = true
  · exact (h.L i hi e).1
  · obtain ⟨h0, -, h4, h5, h10, h12, -⟩ := h
    have : i = 0 ∨ i = 4 ∨ i = 5 ∨ i = 10 ∨ i = 12 := by
      rcases (show i = 0 ∨ i = 1 ∨ i = 2 ∨ i = 3 ∨ i = 4 ∨ i = 5 ∨ i = 6 ∨ i = 7 ∨ i = 8 ∨ i = 9 ∨ i = 10 ∨ i = 11 ∨ i = 12 ∨ i = 13 ∨ i = 14 ∨ i = 15 ∨ i = 16 ∨ i = 17 by omega) with rfl | rfl | rfl | rfl | rfl | rfl | rfl | rfl | rfl | rfl | rfl | rfl | rfl | rfl | rfl | rfl | rfl | rfl <;> first | (left; rfl) | (right; left; rfl) | (right; right; left; rfl) | (right; right; right; left; rfl) | (right; right; right; right; rfl) | exact absurd rfl e
    rcases this with rfl | rfl | rfl | rfl | rfl
    · exact h0.1
    · exact h4.1
    · exact h5.1
    · exact h10.1
    · exact h12.1
set_option maxHeartbeats 4000000 in
set_option maxRecDepth 100000 in
theorem lc_key {p : Program} {l : Launch} {e : Env} {s : State} {m : MethodId} {below : List Frame} {meth : Method} {c : Code} {b L : Nat} {xs : Nat → Int32} (C0 : lw_At p s m meth c b L xs) (g : ht_G) (hg : g.2.1 = s.heap.size) (X M : Nat → Nat) (z : Nat) (hz : 9 * z + 9 ≤ L) (hL : L ≤ 4608) (iv : Int32) (eiv : iv = nI (9 * z)) (cn sn : Nat) (hcn : cn + 6 ≤ 600000) (hsn : sn + 27 ≤ 7302250) (go : ∀ (w : ht_W) (H : Heap) (locs : List Loc) (ls : Array Slot), ht_LS g w X M (z + 1) → ht_I g s w H locs → lv_has ls 4 [(0, .ref b), (1, .ref (X 0)), (2, .ref (M 0)), (3, .int iv)] → W p l e room_1 s m #[Value.ref b] below meth c H locs (cn + 6) (sn + 27) (lw_Z below #[Value.ref b] s) (F0 m 717 ls [])) (w : ht_W) (H : Heap) (locs : List Loc) (ls : Array Slot) (hLS : ht_LS g w X M z) (HW : ht_I g s w H locs) (hl : lv_has ls 4 [(0, .ref b), (1, .ref (X 0)), (2, .ref (M 0)), (3, .int iv)]) : W p l e room_1 s m #[Value.ref b] below meth c H locs cn sn (lw_Z below #[Value.ref b] s) (F0 m 96 ls []) := by
  obtain ⟨hx, hb, hr, hml, hown, hts, hX, hbl, hlocks, hgv⟩ := id C0
  have htb : ∀ w ∈ bg, w.before #[Value.ref b] s = true := fun w h => hts w (List.mem_filter.mp h).1
  have hbA : ¬ ht_A g b := by unfold ht_A; rw [hg]; exact Nat.not_le.mpr hbl
  have eiv0 : iv = nI (9 * z + 0) := eiv
  obtain ⟨tg, k, Lc, R, sbf, enf, ei, n, Lf, If, hCS, hMR, hper, hcnt, htg, hPP⟩ := hLS
  obtain ⟨N, A, F, top, dt, opf, lsf, hR⟩ := hCS
  have hlen := hper.length_eq
  have hX0 := hR.1
  unfold ht_xo at hX0
  have hO := hMR.1.1
  unfold ht_mo at hO
  refine lv_aload_n hx hb d_W_law_96 rfl (lv_at hl 1 rfl) ?_
  refine lv_aload_n hx hb d_W_law_97 rfl (lv_at hl 0 rfl) ?_
  refine lv_iload_n hx hb d_W_law_98 rfl (lv_at hl 3 rfl) ?_
  refine lv_iconst (v := 1) hx hb d_W_law_99 (by decide) ?_
  refine lv_iadd hx hb d_W_law_100 ?_
  refine lv_topi (fun x1 ex1 => ?_)
  have hx1 : x1 = nI (9 * z + 1) := by rw [ex1, eiv]; exact nI_add (9 * z) 1
  refine va_sld hx hb hX hbl hbA HW.2.2.2.2.2 (by rw [hx1]; exact vp_in_nI (by omega) (by omega)) d_W_law_101 ?_
  refine lv_topi (fun y2 ey2 => ?_)
  have ey2 : y2 = xs (9 * z + 1) := by rw [ey2, hx1, nI_clamp (by omega)]
  subst ey2
  refine lv_i2l (v := (xs (9 * z + 1)).toInt64) hx hb d_W_law_102 rfl ?_
  refine lv_bipush (v := 32) hx hb d_W_law_103 (by decide) ?_
  refine lv_lshl (v := ((xs (9 * z + 1)).toInt64) <<< ((32 : Int32).toInt64 &&& 63)) hx hb d_W_law_105 rfl ?_
  refine lv_aload_n hx hb d_W_law_106 rfl (lv_at hl 0 rfl) ?_
  refine lv_iload_n hx hb d_W_law_107 rfl (lv_at hl 3 rfl) ?_
  refine lv_iconst (v := 2) hx hb d_W_law_108 (by decide) ?_
  refine lv_iadd hx hb d_W_law_109 ?_
  refine lv_topi (fun x3 ex3 => ?_)
  have hx3 : x3 = nI (9 * z + 2) := by rw [ex3, eiv]; exact nI_add (9 * z) 2
  refine va_sld hx hb hX hbl hbA HW.2.2.2.2.2 (by rw [hx3]; exact vp_in_nI (by omega) (by omega)) d_W_law_110 ?_
  refine lv_topi (fun y4 ey4 => ?_)
  have ey4 : y4 = xs (9 * z + 2) := by rw [ey4, hx3, nI_clamp (by omega)]
  subst ey4
  refine lv_i2l (v := (xs (9 * z + 2)).toInt64) hx hb d_W_law_111 rfl ?_
  refine lv_ldc2 (v := 4294967295) hx hb hown (htb _ wd_507) d_W_law_112 ?_
  refine lv_land hx hb d_W_law_115 ?_
  refine lv_lor hx hb d_W_law_116 ?_
  refine lv_aload_n hx hb d_W_law_117 rfl (lv_at hl 0 rfl) ?_
  refine lv_iload_n hx hb d_W_law_118 rfl (lv_at hl 3 rfl) ?_
  refine lv_iconst (v := 3) hx hb d_W_law_119 (by decide) ?_
  refine lv_iadd hx hb d_W_law_120 ?_
  refine lv_topi (fun x5 ex5 => ?_)
  have hx5 : x5 = nI (9 * z + 3) := by rw [ex5, eiv]; exact nI_add (9 * z) 3
  refine va_sld hx hb hX hbl hbA HW.2.2.2.2.2 (by rw [hx5]; exact vp_in_nI (by omega) (by omega)) d_W_law_121 ?_
  refine lv_topi (fun y6 ey6 => ?_)
  have ey6 : y6 = xs (9 * z + 3) := by rw [ey6, hx5, nI_clamp (by omega)]
  subst ey6
  refine lv_i2l (v := (xs (9 * z + 3)).toInt64) hx hb d_W_law_122 rfl ?_
  refine lv_bipush (v := 32) hx hb d_W_law_123 (by decide) ?_
  refine lv_lshl (v := ((xs (9 * z + 3)).toInt64) <<< ((32 : Int32).toInt64 &&& 63)) hx hb d_W_law_125 rfl ?_
  refine lv_aload_n hx hb d_W_law_126 rfl (lv_at hl 0 rfl) ?_
  refine lv_iload_n hx hb d_W_law_127 rfl (lv_at hl 3 rfl) ?_
  refine lv_iconst (v := 4) hx hb d_W_law_128 (by decide) ?_
  refine lv_iadd hx hb d_W_law_129 ?_
  refine lv_topi (fun x7 ex7 => ?_)
  have hx7 : x7 = nI (9 * z + 4) := by rw [ex7, eiv]; exact nI_add (9 * z) 4
  refine va_sld hx hb hX hbl hbA HW.2.2.2.2.2 (by rw [hx7]; exact vp_in_nI (by omega) (by omega)) d_W_law_130 ?_
  refine lv_topi (fun y8 ey8 => ?_)
  have ey8 : y8 = xs (9 * z + 4) := by rw [ey8, hx7, nI_clamp (by omega)]
  subst ey8
  refine lv_i2l (v := (xs (9 * z + 4)).toInt64) hx hb d_W_law_131 rfl ?_
  refine lv_ldc2 (v := 4294967295) hx hb hown (htb _ wd_507) d_W_law_132 ?_
  refine lv_land hx hb d_W_law_135 ?_
  refine lv_lor hx hb d_W_law_136 ?_
  refine lv_aload_n hx hb d_W_law_137 rfl (lv_at hl 0 rfl) ?_
  refine lv_iload_n hx hb d_W_law_138 rfl (lv_at hl 3 rfl) ?_
  refine lv_iconst (v := 5) hx hb d_W_law_139 (by decide) ?_
  refine lv_iadd hx hb d_W_law_140 ?_
  refine lv_topi (fun x9 ex9 => ?_)
  have hx9 : x9 = nI (9 * z + 5) := by rw [ex9, eiv]; exact nI_add (9 * z) 5
  refine va_sld hx hb hX hbl hbA HW.2.2.2.2.2 (by rw [hx9]; exact vp_in_nI (by omega) (by omega)) d_W_law_141 ?_
  refine lv_topi (fun y10 ey10 => ?_)
  have ey10 : y10 = xs (9 * z + 5) := by rw [ey10, hx9, nI_clamp (by omega)]
  subst ey10
  refine lv_i2l (v := (xs (9 * z + 5)).toInt64) hx hb d_W_law_142 rfl ?_
  refine lv_bipush (v := 32) hx hb d_W_law_143 (by decide) ?_
  refine lv_lshl (v := ((xs (9 * z + 5)).toInt64) <<< ((32 : Int32).toInt64 &&& 63)) hx hb d_W_law_145 rfl ?_
  refine lv_aload_n hx hb d_W_law_146 rfl (lv_at hl 0 rfl) ?_
  refine lv_iload_n hx hb d_W_law_147 rfl (lv_at hl 3 rfl) ?_
  refine lv_bipush (v := 6) hx hb d_W_law_148 (by decide) ?_
  refine lv_iadd hx hb d_W_law_150 ?_
  refine lv_topi (fun x11 ex11 => ?_)
  have hx11 : x11 = nI (9 * z + 6) := by rw [ex11, eiv]; exact nI_add (9 * z) 6
  refine va_sld hx hb hX hbl hbA HW.2.2.2.2.2 (by rw [hx11]; exact vp_in_nI (by omega) (by omega)) d_W_law_151 ?_
  refine lv_topi (fun y12 ey12 => ?_)
  have ey12 : y12 = xs (9 * z + 6) := by rw [ey12, hx11, nI_clamp (by omega)]
  subst ey12
  refine lv_i2l (v := (xs (9 * z + 6)).toInt64) hx hb d_W_law_152 rfl ?_
  refine lv_ldc2 (v := 4294967295) hx hb hown (htb _ wd_507) d_W_law_153 ?_
  refine lv_land hx hb d_W_law_156 ?_
  refine lv_lor hx hb d_W_law_157 ?_
  refine lv_aload_n hx hb d_W_law_158 rfl (lv_at hl 0 rfl) ?_
  refine lv_iload_n hx hb d_W_law_159 rfl (lv_at hl 3 rfl) ?_
  refine lv_bipush (v := 7) hx hb d_W_law_160 (by decide) ?_
  refine lv_iadd hx hb d_W_law_162 ?_
  refine lv_topi (fun x13 ex13 => ?_)
  have hx13 : x13 = nI (9 * z + 7) := by rw [ex13, eiv]; exact nI_add (9 * z) 7
  refine va_sld hx hb hX hbl hbA HW.2.2.2.2.2 (by rw [hx13]; exact vp_in_nI (by omega) (by omega)) d_W_law_163 ?_
  refine lv_topi (fun y14 ey14 => ?_)
  have ey14 : y14 = xs (9 * z + 7) := by rw [ey14, hx13, nI_clamp (by omega)]
  subst ey14
  refine lv_i2l (v := (xs (9 * z + 7)).toInt64) hx hb d_W_law_164 rfl ?_
  refine lv_bipush (v := 32) hx hb d_W_law_165 (by decide) ?_
  refine lv_lshl (v := ((xs (9 * z + 7)).toInt64) <<< ((32 : Int32).toInt64 &&& 63)) hx hb d_W_law_167 rfl ?_
  refine lv_aload_n hx hb d_W_law_168 rfl (lv_at hl 0 rfl) ?_
  refine lv_iload_n hx hb d_W_law_169 rfl (lv_at hl 3 rfl) ?_
  refine lv_bipush (v := 8) hx hb d_W_law_170 (by decide) ?_
  refine lv_iadd hx hb d_W_law_172 ?_
  refine lv_topi (fun x15 ex15 => ?_)
  have hx15 : x15 = nI (9 * z + 8) := by rw [ex15, eiv]; exact nI_add (9 * z) 8
  refine va_sld hx hb hX hbl hbA HW.2.2.2.2.2 (by rw [hx15]; exact vp_in_nI (by omega) (by omega)) d_W_law_173 ?_
  refine lv_topi (fun y16 ey16 => ?_)
  have ey16 : y16 = xs (9 * z + 8) := by rw [ey16, hx15, nI_clamp (by omega)]
  subst ey16
  refine lv_i2l (v := (xs (9 * z + 8)).toInt64) hx hb d_W_law_174 rfl ?_
  refine lv_ldc2 (v := 4294967295) hx hb hown (htb _ wd_507) d_W_law_175 ?_
  refine lv_land hx hb d_W_law_178 ?_
  refine lv_lor hx hb d_W_law_179 ?_
  refine ht_cv HW (va_runV (own := R_W) (C := R_X) (As := [.long ((((xs (9 * z + 1)).toInt64) <<< ((32 : Int32).toInt64 &&& 63)) ||| (((xs (9 * z + 2)).toInt64) &&& (4294967295 : Int64))), .long ((((xs (9 * z + 3)).toInt64) <<< ((32 : Int32).toInt64 &&& 63)) ||| (((xs (9 * z + 4)).toInt64) &&& (4294967295 : Int64))), .long ((((xs (9 * z + 5)).toInt64) <<< ((32 : Int32).toInt64 &&& 63)) ||| (((xs (9 * z + 6)).toInt64) &&& (4294967295 : Int64))), .long ((((xs (9 * z + 7)).toInt64) <<< ((32 : Int32).toInt64 &&& 63)) ||| (((xs (9 * z + 8)).toInt64) &&& (4294967295 : Int64)))]) (rest := []) ⟨hx, hb, hml, hown, htb⟩ (c_X_key l g w hR ((((xs (9 * z + 1)).toInt64) <<< ((32 : Int32).toInt64 &&& 63)) ||| (((xs (9 * z + 2)).toInt64) &&& (4294967295 : Int64))) ((((xs (9 * z + 3)).toInt64) <<< ((32 : Int32).toInt64 &&& 63)) ||| (((xs (9 * z + 4)).toInt64) &&& (4294967295 : Int64))) ((((xs (9 * z + 5)).toInt64) <<< ((32 : Int32).toInt64 &&& 63)) ||| (((xs (9 * z + 6)).toInt64) &&& (4294967295 : Int64))) ((((xs (9 * z + 7)).toInt64) <<< ((32 : Int32).toInt64 &&& 63)) ||| (((xs (9 * z + 8)).toInt64) &&& (4294967295 : Int64)))) (cwV 4 htb (ht_gv wd_68 wd_69 wd_70 wd_1 g_X_key) rfl rfl rfl (by decide +kernel) ⟨Nat.le_of_ble_eq_true rfl, Nat.le_of_ble_eq_true rfl⟩) (HW.preV hX0 rfl _) rfl rfl hl.1 rfl (lv_room (Nat.le_of_ble_eq_true rfl)) d_W_law_180 ⟨by show _ ≤ 600000; omega, by show _ ≤ 7302250; omega⟩) (fun u17 H locs px HW => ?_)
  obtain ⟨hR2, hfr⟩ := px
  have hMR2 := hMR.fr hfr htg
  have hX0 := hR2.1
  unfold ht_xo at hX0
  have hO := hMR2.1.1
  unfold ht_mo at hO
  refine lv_aload_n hx hb d_W_law_183 rfl (lv_at hl 2 rfl) ?_
  refine lv_aload_n hx hb d_W_law_184 rfl (lv_at hl 0 rfl) ?_
  refine lv_iload_n hx hb d_W_law_185 rfl (lv_at hl 3 rfl) ?_
  refine lv_iconst (v := 1) hx hb d_W_law_186 (by decide) ?_
  refine lv_iadd hx hb d_W_law_187 ?_
  refine lv_topi (fun x18 ex18 => ?_)
  have hx18 : x18 = nI (9 * z + 1) := by rw [ex18, eiv]; exact nI_add (9 * z) 1
  refine va_sld hx hb hX hbl hbA HW.2.2.2.2.2 (by rw [hx18]; exact vp_in_nI (by omega) (by omega)) d_W_law_188 ?_
  refine lv_topi (fun y19 ey19 => ?_)
  have ey19 : y19 = xs (9 * z + 1) := by rw [ey19, hx18, nI_clamp (by omega)]
  subst ey19
  refine lv_i2l (v := (xs (9 * z + 1)).toInt64) hx hb d_W_law_189 rfl ?_
  refine lv_bipush (v := 32) hx hb d_W_law_190 (by decide) ?_
  refine lv_lshl (v := ((xs (9 * z + 1)).toInt64) <<< ((32 : Int32).toInt64 &&& 63)) hx hb d_W_law_192 rfl ?_
  refine lv_aload_n hx hb d_W_law_193 rfl (lv_at hl 0 rfl) ?_
  refine lv_iload_n hx hb d_W_law_194 rfl (lv_at hl 3 rfl) ?_
  refine lv_iconst (v := 2) hx hb d_W_law_195 (by decide) ?_
  refine lv_iadd hx hb d_W_law_196 ?_
  refine lv_topi (fun x20 ex20 => ?_)
  have hx20 : x20 = nI (9 * z + 2) := by rw [ex20, eiv]; exact nI_add (9 * z) 2
  refine va_sld hx hb hX hbl hbA HW.2.2.2.2.2 (by rw [hx20]; exact vp_in_nI (by omega) (by omega)) d_W_law_197 ?_
  refine lv_topi (fun y21 ey21 => ?_)
  have ey21 : y21 = xs (9 * z + 2) := by rw [ey21, hx20, nI_clamp (by omega)]
  subst ey21
  refine lv_i2l (v := (xs (9 * z + 2)).toInt64) hx hb d_W_law_198 rfl ?_
  refine lv_ldc2 (v := 4294967295) hx hb hown (htb _ wd_507) d_W_law_199 ?_
  refine lv_land hx hb d_W_law_202 ?_
  refine lv_lor hx hb d_W_law_203 ?_
  refine lv_aload_n hx hb d_W_law_204 rfl (lv_at hl 0 rfl) ?_
  refine lv_iload_n hx hb d_W_law_205 rfl (lv_at hl 3 rfl) ?_
  refine lv_iconst (v := 3) hx hb d_W_law_206 (by decide) ?_
  refine lv_iadd hx hb d_W_law_207 ?_
  refine lv_topi (fun x22 ex22 => ?_)
  have hx22 : x22 = nI (9 * z + 3) := by rw [ex22, eiv]; exact nI_add (9 * z) 3
  refine va_sld hx hb hX hbl hbA HW.2.2.2.2.2 (by rw [hx22]; exact vp_in_nI (by omega) (by omega)) d_W_law_208 ?_
  refine lv_topi (fun y23 ey23 => ?_)
  have ey23 : y23 = xs (9 * z + 3) := by rw [ey23, hx22, nI_clamp (by omega)]
  subst ey23
  refine lv_i2l (v := (xs (9 * z + 3)).toInt64) hx hb d_W_law_209 rfl ?_
  refine lv_bipush (v := 32) hx hb d_W_law_210 (by decide) ?_
  refine lv_lshl (v := ((xs (9 * z + 3)).toInt64) <<< ((32 : Int32).toInt64 &&& 63)) hx hb d_W_law_212 rfl ?_
  refine lv_aload_n hx hb d_W_law_213 rfl (lv_at hl 0 rfl) ?_
  refine lv_iload_n hx hb d_W_law_214 rfl (lv_at hl 3 rfl) ?_
  refine lv_iconst (v := 4) hx hb d_W_law_215 (by decide) ?_
  refine lv_iadd hx hb d_W_law_216 ?_
  refine lv_topi (fun x24 ex24 => ?_)
  have hx24 : x24 = nI (9 * z + 4) := by rw [ex24, eiv]; exact nI_add (9 * z) 4
  refine va_sld hx hb hX hbl hbA HW.2.2.2.2.2 (by rw [hx24]; exact vp_in_nI (by omega) (by omega)) d_W_law_217 ?_
  refine lv_topi (fun y25 ey25 => ?_)
  have ey25 : y25 = xs (9 * z + 4) := by rw [ey25, hx24, nI_clamp (by omega)]
  subst ey25
  refine lv_i2l (v := (xs (9 * z + 4)).toInt64) hx hb d_W_law_218 rfl ?_
  refine lv_ldc2 (v := 4294967295) hx hb hown (htb _ wd_507) d_W_law_219 ?_
  refine lv_land hx hb d_W_law_222 ?_
  refine lv_lor hx hb d_W_law_223 ?_
  refine lv_aload_n hx hb d_W_law_224 rfl (lv_at hl 0 rfl) ?_
  refine lv_iload_n hx hb d_W_law_225 rfl (lv_at hl 3 rfl) ?_
  refine lv_iconst (v := 5) hx hb d_W_law_226 (by decide) ?_
  refine lv_iadd hx hb d_W_law_227 ?_
  refine lv_topi (fun x26 ex26 => ?_)
  have hx26 : x26 = nI (9 * z + 5) := by rw [ex26, eiv]; exact nI_add (9 * z) 5
  refine va_sld hx hb hX hbl hbA HW.2.2.2.2.2 (by rw [hx26]; exact vp_in_nI (by omega) (by omega)) d_W_law_228 ?_
  refine lv_topi (fun y27 ey27 => ?_)
  have ey27 : y27 = xs (9 * z + 5) := by rw [ey27, hx26, nI_clamp (by omega)]
  subst ey27
  refine lv_i2l (v := (xs (9 * z + 5)).toInt64) hx hb d_W_law_229 rfl ?_
  refine lv_bipush (v := 32) hx hb d_W_law_230 (by decide) ?_
  refine lv_lshl (v := ((xs (9 * z + 5)).toInt64) <<< ((32 : Int32).toInt64 &&& 63)) hx hb d_W_law_232 rfl ?_
  refine lv_aload_n hx hb d_W_law_233 rfl (lv_at hl 0 rfl) ?_
  refine lv_iload_n hx hb d_W_law_234 rfl (lv_at hl 3 rfl) ?_
  refine lv_bipush (v := 6) hx hb d_W_law_235 (by decide) ?_
  refine lv_iadd hx hb d_W_law_237 ?_
  refine lv_topi (fun x28 ex28 => ?_)
  have hx28 : x28 = nI (9 * z + 6) := by rw [ex28, eiv]; exact nI_add (9 * z) 6
  refine va_sld hx hb hX hbl hbA HW.2.2.2.2.2 (by rw [hx28]; exact vp_in_nI (by omega) (by omega)) d_W_law_238 ?_
  refine lv_topi (fun y29 ey29 => ?_)
  have ey29 : y29 = xs (9 * z + 6) := by rw [ey29, hx28, nI_clamp (by omega)]
  subst ey29
  refine lv_i2l (v := (xs (9 * z + 6)).toInt64) hx hb d_W_law_239 rfl ?_
  refine lv_ldc2 (v := 4294967295) hx hb hown (htb _ wd_507) d_W_law_240 ?_
  refine lv_land hx hb d_W_law_243 ?_
  refine lv_lor hx hb d_W_law_244 ?_
  refine lv_aload_n hx hb d_W_law_245 rfl (lv_at hl 0 rfl) ?_
  refine lv_iload_n hx hb d_W_law_246 rfl (lv_at hl 3 rfl) ?_
  refine lv_bipush (v := 7) hx hb d_W_law_247 (by decide) ?_
  refine lv_iadd hx hb d_W_law_249 ?_
  refine lv_topi (fun x30 ex30 => ?_)
  have hx30 : x30 = nI (9 * z + 7) := by rw [ex30, eiv]; exact nI_add (9 * z) 7
  refine va_sld hx hb hX hbl hbA HW.2.2.2.2.2 (by rw [hx30]; exact vp_in_nI (by omega) (by omega)) d_W_law_250 ?_
  refine lv_topi (fun y31 ey31 => ?_)
  have ey31 : y31 = xs (9 * z + 7) := by rw [ey31, hx30, nI_clamp (by omega)]
  subst ey31
  refine lv_i2l (v := (xs (9 * z + 7)).toInt64) hx hb d_W_law_251 rfl ?_
  refine lv_bipush (v := 32) hx hb d_W_law_252 (by decide) ?_
  refine lv_lshl (v := ((xs (9 * z + 7)).toInt64) <<< ((32 : Int32).toInt64 &&& 63)) hx hb d_W_law_254 rfl ?_
  refine lv_aload_n hx hb d_W_law_255 rfl (lv_at hl 0 rfl) ?_
  refine lv_iload_n hx hb d_W_law_256 rfl (lv_at hl 3 rfl) ?_
  refine lv_bipush (v := 8) hx hb d_W_law_257 (by decide) ?_
  refine lv_iadd hx hb d_W_law_259 ?_
  refine lv_topi (fun x32 ex32 => ?_)
  have hx32 : x32 = nI (9 * z + 8) := by rw [ex32, eiv]; exact nI_add (9 * z) 8
  refine va_sld hx hb hX hbl hbA HW.2.2.2.2.2 (by rw [hx32]; exact vp_in_nI (by omega) (by omega)) d_W_law_260 ?_
  refine lv_topi (fun y33 ey33 => ?_)
  have ey33 : y33 = xs (9 * z + 8) := by rw [ey33, hx32, nI_clamp (by omega)]
  subst ey33
  refine lv_i2l (v := (xs (9 * z + 8)).toInt64) hx hb d_W_law_261 rfl ?_
  refine lv_ldc2 (v := 4294967295) hx hb hown (htb _ wd_507) d_W_law_262 ?_
  refine lv_land hx hb d_W_law_265 ?_
  refine lv_lor hx hb d_W_law_266 ?_
  refine ht_cv HW (va_runV (own := R_W) (C := R_M) (As := [.long ((((xs (9 * z + 1)).toInt64) <<< ((32 : Int32).toInt64 &&& 63)) ||| (((xs (9 * z + 2)).toInt64) &&& (4294967295 : Int64))), .long ((((xs (9 * z + 3)).toInt64) <<< ((32 : Int32).toInt64 &&& 63)) ||| (((xs (9 * z + 4)).toInt64) &&& (4294967295 : Int64))), .long ((((xs (9 * z + 5)).toInt64) <<< ((32 : Int32).toInt64 &&& 63)) ||| (((xs (9 * z + 6)).toInt64) &&& (4294967295 : Int64))), .long ((((xs (9 * z + 7)).toInt64) <<< ((32 : Int32).toInt64 &&& 63)) ||| (((xs (9 * z + 8)).toInt64) &&& (4294967295 : Int64)))]) (rest := []) ⟨hx, hb, hml, hown, htb⟩ (c_M_key l g u17 hMR2 ((((xs (9 * z + 1)).toInt64) <<< ((32 : Int32).toInt64 &&& 63)) ||| (((xs (9 * z + 2)).toInt64) &&& (4294967295 : Int64))) ((((xs (9 * z + 3)).toInt64) <<< ((32 : Int32).toInt64 &&& 63)) ||| (((xs (9 * z + 4)).toInt64) &&& (4294967295 : Int64))) ((((xs (9 * z + 5)).toInt64) <<< ((32 : Int32).toInt64 &&& 63)) ||| (((xs (9 * z + 6)).toInt64) &&& (4294967295 : Int64))) ((((xs (9 * z + 7)).toInt64) <<< ((32 : Int32).toInt64 &&& 63)) ||| (((xs (9 * z + 8)).toInt64) &&& (4294967295 : Int64)))) (cwV 4 htb (ht_gv wd_379 wd_380 wd_381 wd_3 g_M_key) rfl rfl rfl (by decide +kernel) ⟨Nat.le_of_ble_eq_true rfl, Nat.le_of_ble_eq_true rfl⟩) (HW.preV hO rfl _) rfl rfl hl.1 rfl (lv_room (Nat.le_of_ble_eq_true rfl)) d_W_law_267 ⟨by show _ ≤ 600000; omega, by show _ ≤ 7302250; omega⟩) (fun u34 H locs pm HW => ?_)
  obtain ⟨Lf2, hMR3, hfm, hpq⟩ := pm
  have hLS2 : ht_LS g u34 X M (z + 1) := ⟨tg, _, Lc, R, sbf, enf, ei, n, Lf2, If, ht_CS.fm ⟨N, A, F, top, dt, opf, lsf, hR2⟩ hfm htg, hMR3, hper, by omega, htg, hPP.pq hpq⟩
  refine lv_goto (tgt := 717) hx hb d_W_law_270 (by decide) ?_
  refine W.widen (k := cn + 6) (n := sn + 27) (by omega) (by omega) ?_
  exact go _ _ _ _ hLS2 HW (lv_sub hl [0, 1, 2, 3] rfl)
set_option maxHeartbeats 4000000 in
set_option maxRecDepth 100000 in
theorem lc_set {p : Program} {l : Launch} {e : Env} {s : State} {m : MethodId} {below : List Frame} {meth : Method} {c : Code} {b L : Nat} {xs : Nat → Int32} (C0 : lw_At p s m meth c b L xs) (g : ht_G) (hg : g.2.1 = s.heap.size) (X M : Nat → Nat) (z : Nat) (hz : 9 * z + 9 ≤ L) (hL : L ≤ 4608) (iv : Int32) (eiv : iv = nI (9 * z)) (cn sn : Nat) (hcn : cn + 6 ≤ 600000) (hsn : sn + 27 ≤ 7302250) (go : ∀ (w : ht_W) (H : Heap) (locs : List Loc) (ls : Array Slot), ht_LS g w X M (z + 1) → ht_I g s w H locs → lv_has ls 4 [(0, .ref b), (1, .ref (X 0)), (2, .ref (M 0)), (3, .int iv)] → W p l e room_1 s m #[Value.ref b] below meth c H locs (cn + 6) (sn + 27) (lw_Z below #[Value.ref b] s) (F0 m 717 ls [])) (w : ht_W) (H : Heap) (locs : List Loc) (ls : Array Slot) (hLS : ht_LS g w X M z) (HW : ht_I g s w H locs) (hl : lv_has ls 4 [(0, .ref b), (1, .ref (X 0)), (2, .ref (M 0)), (3, .int iv)]) : W p l e room_1 s m #[Value.ref b] below meth c H locs cn sn (lw_Z below #[Value.ref b] s) (F0 m 273 ls []) := by
  obtain ⟨hx, hb, hr, hml, hown, hts, hX, hbl, hlocks, hgv⟩ := id C0
  have htb : ∀ w ∈ bg, w.before #[Value.ref b] s = true := fun w h => hts w (List.mem_filter.mp h).1
  have hbA : ¬ ht_A g b := by unfold ht_A; rw [hg]; exact Nat.not_le.mpr hbl
  have eiv0 : iv = nI (9 * z + 0) := eiv
  obtain ⟨tg, k, Lc, R, sbf, enf, ei, n, Lf, If, hCS, hMR, hper, hcnt, htg, hPP⟩ := hLS
  obtain ⟨N, A, F, top, dt, opf, lsf, hR⟩ := hCS
  have hlen := hper.length_eq
  have hX0 := hR.1
  unfold ht_xo at hX0
  have hO := hMR.1.1
  unfold ht_mo at hO
  refine lv_aload_n hx hb d_W_law_273 rfl (lv_at hl 1 rfl) ?_
  refine lv_aload_n hx hb d_W_law_274 rfl (lv_at hl 0 rfl) ?_
  refine lv_iload_n hx hb d_W_law_275 rfl (lv_at hl 3 rfl) ?_
  refine lv_iconst (v := 1) hx hb d_W_law_276 (by decide) ?_
  refine lv_iadd hx hb d_W_law_277 ?_
  refine lv_topi (fun x1 ex1 => ?_)
  have hx1 : x1 = nI (9 * z + 1) := by rw [ex1, eiv]; exact nI_add (9 * z) 1
  refine va_sld hx hb hX hbl hbA HW.2.2.2.2.2 (by rw [hx1]; exact vp_in_nI (by omega) (by omega)) d_W_law_278 ?_
  refine lv_topi (fun y2 ey2 => ?_)
  have ey2 : y2 = xs (9 * z + 1) := by rw [ey2, hx1, nI_clamp (by omega)]
  subst ey2
  refine lv_i2l (v := (xs (9 * z + 1)).toInt64) hx hb d_W_law_279 rfl ?_
  refine lv_bipush (v := 32) hx hb d_W_law_280 (by decide) ?_
  refine lv_lshl (v := ((xs (9 * z + 1)).toInt64) <<< ((32 : Int32).toInt64 &&& 63)) hx hb d_W_law_282 rfl ?_
  refine lv_aload_n hx hb d_W_law_283 rfl (lv_at hl 0 rfl) ?_
  refine lv_iload_n hx hb d_W_law_284 rfl (lv_at hl 3 rfl) ?_
  refine lv_iconst (v := 2) hx hb d_W_law_285 (by decide) ?_
  refine lv_iadd hx hb d_W_law_286 ?_
  refine lv_topi (fun x3 ex3 => ?_)
  have hx3 : x3 = nI (9 * z + 2) := by rw [ex3, eiv]; exact nI_add (9 * z) 2
  refine va_sld hx hb hX hbl hbA HW.2.2.2.2.2 (by rw [hx3]; exact vp_in_nI (by omega) (by omega)) d_W_law_287 ?_
  refine lv_topi (fun y4 ey4 => ?_)
  have ey4 : y4 = xs (9 * z + 2) := by rw [ey4, hx3, nI_clamp (by omega)]
  subst ey4
  refine lv_i2l (v := (xs (9 * z + 2)).toInt64) hx hb d_W_law_288 rfl ?_
  refine lv_ldc2 (v := 4294967295) hx hb hown (htb _ wd_507) d_W_law_289 ?_
  refine lv_land hx hb d_W_law_292 ?_
  refine lv_lor hx hb d_W_law_293 ?_
  refine lv_aload_n hx hb d_W_law_294 rfl (lv_at hl 0 rfl) ?_
  refine lv_iload_n hx hb d_W_law_295 rfl (lv_at hl 3 rfl) ?_
  refine lv_iconst (v := 3) hx hb d_W_law_296 (by decide) ?_
  refine lv_iadd hx hb d_W_law_297 ?_
  refine lv_topi (fun x5 ex5 => ?_)
  have hx5 : x5 = nI (9 * z + 3) := by rw [ex5, eiv]; exact nI_add (9 * z) 3
  refine va_sld hx hb hX hbl hbA HW.2.2.2.2.2 (by rw [hx5]; exact vp_in_nI (by omega) (by omega)) d_W_law_298 ?_
  refine lv_topi (fun y6 ey6 => ?_)
  have ey6 : y6 = xs (9 * z + 3) := by rw [ey6, hx5, nI_clamp (by omega)]
  subst ey6
  refine lv_i2l (v := (xs (9 * z + 3)).toInt64) hx hb d_W_law_299 rfl ?_
  refine lv_bipush (v := 32) hx hb d_W_law_300 (by decide) ?_
  refine lv_lshl (v := ((xs (9 * z + 3)).toInt64) <<< ((32 : Int32).toInt64 &&& 63)) hx hb d_W_law_302 rfl ?_
  refine lv_aload_n hx hb d_W_law_303 rfl (lv_at hl 0 rfl) ?_
  refine lv_iload_n hx hb d_W_law_304 rfl (lv_at hl 3 rfl) ?_
  refine lv_iconst (v := 4) hx hb d_W_law_305 (by decide) ?_
  refine lv_iadd hx hb d_W_law_306 ?_
  refine lv_topi (fun x7 ex7 => ?_)
  have hx7 : x7 = nI (9 * z + 4) := by rw [ex7, eiv]; exact nI_add (9 * z) 4
  refine va_sld hx hb hX hbl hbA HW.2.2.2.2.2 (by rw [hx7]; exact vp_in_nI (by omega) (by omega)) d_W_law_307 ?_
  refine lv_topi (fun y8 ey8 => ?_)
  have ey8 : y8 = xs (9 * z + 4) := by rw [ey8, hx7, nI_clamp (by omega)]
  subst ey8
  refine lv_i2l (v := (xs (9 * z + 4)).toInt64) hx hb d_W_law_308 rfl ?_
  refine lv_ldc2 (v := 4294967295) hx hb hown (htb _ wd_507) d_W_law_309 ?_
  refine lv_land hx hb d_W_law_312 ?_
  refine lv_lor hx hb d_W_law_313 ?_
  refine lv_aload_n hx hb d_W_law_314 rfl (lv_at hl 0 rfl) ?_
  refine lv_iload_n hx hb d_W_law_315 rfl (lv_at hl 3 rfl) ?_
  refine lv_iconst (v := 5) hx hb d_W_law_316 (by decide) ?_
  refine lv_iadd hx hb d_W_law_317 ?_
  refine lv_topi (fun x9 ex9 => ?_)
  have hx9 : x9 = nI (9 * z + 5) := by rw [ex9, eiv]; exact nI_add (9 * z) 5
  refine va_sld hx hb hX hbl hbA HW.2.2.2.2.2 (by rw [hx9]; exact vp_in_nI (by omega) (by omega)) d_W_law_318 ?_
  refine lv_topi (fun y10 ey10 => ?_)
  have ey10 : y10 = xs (9 * z + 5) := by rw [ey10, hx9, nI_clamp (by omega)]
  subst ey10
  refine lv_i2l (v := (xs (9 * z + 5)).toInt64) hx hb d_W_law_319 rfl ?_
  refine lv_bipush (v := 32) hx hb d_W_law_320 (by decide) ?_
  refine lv_lshl (v := ((xs (9 * z + 5)).toInt64) <<< ((32 : Int32).toInt64 &&& 63)) hx hb d_W_law_322 rfl ?_
  refine lv_aload_n hx hb d_W_law_323 rfl (lv_at hl 0 rfl) ?_
  refine lv_iload_n hx hb d_W_law_324 rfl (lv_at hl 3 rfl) ?_
  refine lv_bipush (v := 6) hx hb d_W_law_325 (by decide) ?_
  refine lv_iadd hx hb d_W_law_327 ?_
  refine lv_topi (fun x11 ex11 => ?_)
  have hx11 : x11 = nI (9 * z + 6) := by rw [ex11, eiv]; exact nI_add (9 * z) 6
  refine va_sld hx hb hX hbl hbA HW.2.2.2.2.2 (by rw [hx11]; exact vp_in_nI (by omega) (by omega)) d_W_law_328 ?_
  refine lv_topi (fun y12 ey12 => ?_)
  have ey12 : y12 = xs (9 * z + 6) := by rw [ey12, hx11, nI_clamp (by omega)]
  subst ey12
  refine lv_i2l (v := (xs (9 * z + 6)).toInt64) hx hb d_W_law_329 rfl ?_
  refine lv_ldc2 (v := 4294967295) hx hb hown (htb _ wd_507) d_W_law_330 ?_
  refine lv_land hx hb d_W_law_333 ?_
  refine lv_lor hx hb d_W_law_334 ?_
  refine lv_aload_n hx hb d_W_law_335 rfl (lv_at hl 0 rfl) ?_
  refine lv_iload_n hx hb d_W_law_336 rfl (lv_at hl 3 rfl) ?_
  refine lv_bipush (v := 7) hx hb d_W_law_337 (by decide) ?_
  refine lv_iadd hx hb d_W_law_339 ?_
  refine lv_topi (fun x13 ex13 => ?_)
  have hx13 : x13 = nI (9 * z + 7) := by rw [ex13, eiv]; exact nI_add (9 * z) 7
  refine va_sld hx hb hX hbl hbA HW.2.2.2.2.2 (by rw [hx13]; exact vp_in_nI (by omega) (by omega)) d_W_law_340 ?_
  refine lv_topi (fun y14 ey14 => ?_)
  have ey14 : y14 = xs (9 * z + 7) := by rw [ey14, hx13, nI_clamp (by omega)]
  subst ey14
  refine lv_i2l (v := (xs (9 * z + 7)).toInt64) hx hb d_W_law_341 rfl ?_
  refine lv_bipush (v := 32) hx hb d_W_law_342 (by decide) ?_
  refine lv_lshl (v := ((xs (9 * z + 7)).toInt64) <<< ((32 : Int32).toInt64 &&& 63)) hx hb d_W_law_344 rfl ?_
  refine lv_aload_n hx hb d_W_law_345 rfl (lv_at hl 0 rfl) ?_
  refine lv_iload_n hx hb d_W_law_346 rfl (lv_at hl 3 rfl) ?_
  refine lv_bipush (v := 8) hx hb d_W_law_347 (by decide) ?_
  refine lv_iadd hx hb d_W_law_349 ?_
  refine lv_topi (fun x15 ex15 => ?_)
  have hx15 : x15 = nI (9 * z + 8) := by rw [ex15, eiv]; exact nI_add (9 * z) 8
  refine va_sld hx hb hX hbl hbA HW.2.2.2.2.2 (by rw [hx15]; exact vp_in_nI (by omega) (by omega)) d_W_law_350 ?_
  refine lv_topi (fun y16 ey16 => ?_)
  have ey16 : y16 = xs (9 * z + 8) := by rw [ey16, hx15, nI_clamp (by omega)]
  subst ey16
  refine lv_i2l (v := (xs (9 * z + 8)).toInt64) hx hb d_W_law_351 rfl ?_
  refine lv_ldc2 (v := 4294967295) hx hb hown (htb _ wd_507) d_W_law_352 ?_
  refine lv_land hx hb d_W_law_355 ?_
  refine lv_lor hx hb d_W_law_356 ?_
  refine ht_ci HW (va_runV (own := R_W) (C := R_X) (As := [.long ((((xs (9 * z + 1)).toInt64) <<< ((32 : Int32).toInt64 &&& 63)) ||| (((xs (9 * z + 2)).toInt64) &&& (4294967295 : Int64))), .long ((((xs (9 * z + 3)).toInt64) <<< ((32 : Int32).toInt64 &&& 63)) ||| (((xs (9 * z + 4)).toInt64) &&& (4294967295 : Int64))), .long ((((xs (9 * z + 5)).toInt64) <<< ((32 : Int32).toInt64 &&& 63)) ||| (((xs (9 * z + 6)).toInt64) &&& (4294967295 : Int64))), .long ((((xs (9 * z + 7)).toInt64) <<< ((32 : Int32).toInt64 &&& 63)) ||| (((xs (9 * z + 8)).toInt64) &&& (4294967295 : Int64)))]) (rest := []) ⟨hx, hb, hml, hown, htb⟩ (c_X_set l g w hR (by omega) ((((xs (9 * z + 1)).toInt64) <<< ((32 : Int32).toInt64 &&& 63)) ||| (((xs (9 * z + 2)).toInt64) &&& (4294967295 : Int64))) ((((xs (9 * z + 3)).toInt64) <<< ((32 : Int32).toInt64 &&& 63)) ||| (((xs (9 * z + 4)).toInt64) &&& (4294967295 : Int64))) ((((xs (9 * z + 5)).toInt64) <<< ((32 : Int32).toInt64 &&& 63)) ||| (((xs (9 * z + 6)).toInt64) &&& (4294967295 : Int64))) ((((xs (9 * z + 7)).toInt64) <<< ((32 : Int32).toInt64 &&& 63)) ||| (((xs (9 * z + 8)).toInt64) &&& (4294967295 : Int64)))) (cwV 4 htb (ht_gv wd_75 wd_76 wd_77 wd_1 g_X_set) rfl rfl rfl (by decide +kernel) ⟨Nat.le_of_ble_eq_true rfl, Nat.le_of_ble_eq_true rfl⟩) (HW.preV hX0 rfl _) rfl rfl hl.1 rfl (lv_room (Nat.le_of_ble_eq_true rfl)) d_W_law_357 ⟨by show _ ≤ 600000; omega, by show _ ≤ 7302250; omega⟩) (fun rx u17 H locs px HW => ?_)
  obtain ⟨tg2, N2, A2, F2, top2, L2, hR2, hfr, hold, hxa⟩ := px
  have hMR2 := hMR.fr hfr htg
  have htg2 : ∀ i, i < 18 → (tg2 (M i)).1 = 0 := fun i hi => by rw [hold _ (hMR.1.in i hi)]; exact htg i hi
  have hX0 := hR2.1
  unfold ht_xo at hX0
  have hO := hMR2.1.1
  unfold ht_mo at hO
  refine lv_aload_n hx hb d_W_law_360 rfl (lv_at hl 2 rfl) ?_
  refine lv_aload_n hx hb d_W_law_361 rfl (lv_at hl 0 rfl) ?_
  refine lv_iload_n hx hb d_W_law_362 rfl (lv_at hl 3 rfl) ?_
  refine lv_iconst (v := 1) hx hb d_W_law_363 (by decide) ?_
  refine lv_iadd hx hb d_W_law_364 ?_
  refine lv_topi (fun x18 ex18 => ?_)
  have hx18 : x18 = nI (9 * z + 1) := by rw [ex18, eiv]; exact nI_add (9 * z) 1
  refine va_sld hx hb hX hbl hbA HW.2.2.2.2.2 (by rw [hx18]; exact vp_in_nI (by omega) (by omega)) d_W_law_365 ?_
  refine lv_topi (fun y19 ey19 => ?_)
  have ey19 : y19 = xs (9 * z + 1) := by rw [ey19, hx18, nI_clamp (by omega)]
  subst ey19
  refine lv_i2l (v := (xs (9 * z + 1)).toInt64) hx hb d_W_law_366 rfl ?_
  refine lv_bipush (v := 32) hx hb d_W_law_367 (by decide) ?_
  refine lv_lshl (v := ((xs (9 * z + 1)).toInt64) <<< ((32 : Int32).toInt64 &&& 63)) hx hb d_W_law_369 rfl ?_
  refine lv_aload_n hx hb d_W_law_370 rfl (lv_at hl 0 rfl) ?_
  refine lv_iload_n hx hb d_W_law_371 rfl (lv_at hl 3 rfl) ?_
  refine lv_iconst (v := 2) hx hb d_W_law_372 (by decide) ?_
  refine lv_iadd hx hb d_W_law_373 ?_
  refine lv_topi (fun x20 ex20 => ?_)
  have hx20 : x20 = nI (9 * z + 2) := by rw [ex20, eiv]; exact nI_add (9 * z) 2
  refine va_sld hx hb hX hbl hbA HW.2.2.2.2.2 (by rw [hx20]; exact vp_in_nI (by omega) (by omega)) d_W_law_374 ?_
  refine lv_topi (fun y21 ey21 => ?_)
  have ey21 : y21 = xs (9 * z + 2) := by rw [ey21, hx20, nI_clamp (by omega)]
  subst ey21
  refine lv_i2l (v := (xs (9 * z + 2)).toInt64) hx hb d_W_law_375 rfl ?_
  refine lv_ldc2 (v := 4294967295) hx hb hown (htb _ wd_507) d_W_law_376 ?_
  refine lv_land hx hb d_W_law_379 ?_
  refine lv_lor hx hb d_W_law_380 ?_
  refine lv_aload_n hx hb d_W_law_381 rfl (lv_at hl 0 rfl) ?_
  refine lv_iload_n hx hb d_W_law_382 rfl (lv_at hl 3 rfl) ?_
  refine lv_iconst (v := 3) hx hb d_W_law_383 (by decide) ?_
  refine lv_iadd hx hb d_W_law_384 ?_
  refine lv_topi (fun x22 ex22 => ?_)
  have hx22 : x22 = nI (9 * z + 3) := by rw [ex22, eiv]; exact nI_add (9 * z) 3
  refine va_sld hx hb hX hbl hbA HW.2.2.2.2.2 (by rw [hx22]; exact vp_in_nI (by omega) (by omega)) d_W_law_385 ?_
  refine lv_topi (fun y23 ey23 => ?_)
  have ey23 : y23 = xs (9 * z + 3) := by rw [ey23, hx22, nI_clamp (by omega)]
  subst ey23
  refine lv_i2l (v := (xs (9 * z + 3)).toInt64) hx hb d_W_law_386 rfl ?_
  refine lv_bipush (v := 32) hx hb d_W_law_387 (by decide) ?_
  refine lv_lshl (v := ((xs (9 * z + 3)).toInt64) <<< ((32 : Int32).toInt64 &&& 63)) hx hb d_W_law_389 rfl ?_
  refine lv_aload_n hx hb d_W_law_390 rfl (lv_at hl 0 rfl) ?_
  refine lv_iload_n hx hb d_W_law_391 rfl (lv_at hl 3 rfl) ?_
  refine lv_iconst (v := 4) hx hb d_W_law_392 (by decide) ?_
  refine lv_iadd hx hb d_W_law_393 ?_
  refine lv_topi (fun x24 ex24 => ?_)
  have hx24 : x24 = nI (9 * z + 4) := by rw [ex24, eiv]; exact nI_add (9 * z) 4
  refine va_sld hx hb hX hbl hbA HW.2.2.2.2.2 (by rw [hx24]; exact vp_in_nI (by omega) (by omega)) d_W_law_394 ?_
  refine lv_topi (fun y25 ey25 => ?_)
  have ey25 : y25 = xs (9 * z + 4) := by rw [ey25, hx24, nI_clamp (by omega)]
  subst ey25
  refine lv_i2l (v := (xs (9 * z + 4)).toInt64) hx hb d_W_law_395 rfl ?_
  refine lv_ldc2 (v := 4294967295) hx hb hown (htb _ wd_507) d_W_law_396 ?_
  refine lv_land hx hb d_W_law_399 ?_
  refine lv_lor hx hb d_W_law_400 ?_
  refine lv_aload_n hx hb d_W_law_401 rfl (lv_at hl 0 rfl) ?_
  refine lv_iload_n hx hb d_W_law_402 rfl (lv_at hl 3 rfl) ?_
  refine lv_iconst (v := 5) hx hb d_W_law_403 (by decide) ?_
  refine lv_iadd hx hb d_W_law_404 ?_
  refine lv_topi (fun x26 ex26 => ?_)
  have hx26 : x26 = nI (9 * z + 5) := by rw [ex26, eiv]; exact nI_add (9 * z) 5
  refine va_sld hx hb hX hbl hbA HW.2.2.2.2.2 (by rw [hx26]; exact vp_in_nI (by omega) (by omega)) d_W_law_405 ?_
  refine lv_topi (fun y27 ey27 => ?_)
  have ey27 : y27 = xs (9 * z + 5) := by rw [ey27, hx26, nI_clamp (by omega)]
  subst ey27
  refine lv_i2l (v := (xs (9 * z + 5)).toInt64) hx hb d_W_law_406 rfl ?_
  refine lv_bipush (v := 32) hx hb d_W_law_407 (by decide) ?_
  refine lv_lshl (v := ((xs (9 * z + 5)).toInt64) <<< ((32 : Int32).toInt64 &&& 63)) hx hb d_W_law_409 rfl ?_
  refine lv_aload_n hx hb d_W_law_410 rfl (lv_at hl 0 rfl) ?_
  refine lv_iload_n hx hb d_W_law_411 rfl (lv_at hl 3 rfl) ?_
  refine lv_bipush (v := 6) hx hb d_W_law_412 (by decide) ?_
  refine lv_iadd hx hb d_W_law_414 ?_
  refine lv_topi (fun x28 ex28 => ?_)
  have hx28 : x28 = nI (9 * z + 6) := by rw [ex28, eiv]; exact nI_add (9 * z) 6
  refine va_sld hx hb hX hbl hbA HW.2.2.2.2.2 (by rw [hx28]; exact vp_in_nI (by omega) (by omega)) d_W_law_415 ?_
  refine lv_topi (fun y29 ey29 => ?_)
  have ey29 : y29 = xs (9 * z + 6) := by rw [ey29, hx28, nI_clamp (by omega)]
  subst ey29
  refine lv_i2l (v := (xs (9 * z + 6)).toInt64) hx hb d_W_law_416 rfl ?_
  refine lv_ldc2 (v := 4294967295) hx hb hown (htb _ wd_507) d_W_law_417 ?_
  refine lv_land hx hb d_W_law_420 ?_
  refine lv_lor hx hb d_W_law_421 ?_
  refine lv_aload_n hx hb d_W_law_422 rfl (lv_at hl 0 rfl) ?_
  refine lv_iload_n hx hb d_W_law_423 rfl (lv_at hl 3 rfl) ?_
  refine lv_bipush (v := 7) hx hb d_W_law_424 (by decide) ?_
  refine lv_iadd hx hb d_W_law_426 ?_
  refine lv_topi (fun x30 ex30 => ?_)
  have hx30 : x30 = nI (9 * z + 7) := by rw [ex30, eiv]; exact nI_add (9 * z) 7
  refine va_sld hx hb hX hbl hbA HW.2.2.2.2.2 (by rw [hx30]; exact vp_in_nI (by omega) (by omega)) d_W_law_427 ?_
  refine lv_topi (fun y31 ey31 => ?_)
  have ey31 : y31 = xs (9 * z + 7) := by rw [ey31, hx30, nI_clamp (by omega)]
  subst ey31
  refine lv_i2l (v := (xs (9 * z + 7)).toInt64) hx hb d_W_law_428 rfl ?_
  refine lv_bipush (v := 32) hx hb d_W_law_429 (by decide) ?_
  refine lv_lshl (v := ((xs (9 * z + 7)).toInt64) <<< ((32 : Int32).toInt64 &&& 63)) hx hb d_W_law_431 rfl ?_
  refine lv_aload_n hx hb d_W_law_432 rfl (lv_at hl 0 rfl) ?_
  refine lv_iload_n hx hb d_W_law_433 rfl (lv_at hl 3 rfl) ?_
  refine lv_bipush (v := 8) hx hb d_W_law_434 (by decide) ?_
  refine lv_iadd hx hb d_W_law_436 ?_
  refine lv_topi (fun x32 ex32 => ?_)
  have hx32 : x32 = nI (9 * z + 8) := by rw [ex32, eiv]; exact nI_add (9 * z) 8
  refine va_sld hx hb hX hbl hbA HW.2.2.2.2.2 (by rw [hx32]; exact vp_in_nI (by omega) (by omega)) d_W_law_437 ?_
  refine lv_topi (fun y33 ey33 => ?_)
  have ey33 : y33 = xs (9 * z + 8) := by rw [ey33, hx32, nI_clamp (by omega)]
  subst ey33
  refine lv_i2l (v := (xs (9 * z + 8)).toInt64) hx hb d_W_law_438 rfl ?_
  refine lv_ldc2 (v := 4294967295) hx hb hown (htb _ wd_507) d_W_law_439 ?_
  refine lv_land hx hb d_W_law_442 ?_
  refine lv_lor hx hb d_W_law_443 ?_
  refine ht_ci HW (va_runV (own := R_W) (C := R_M) (As := [.long ((((xs (9 * z + 1)).toInt64) <<< ((32 : Int32).toInt64 &&& 63)) ||| (((xs (9 * z + 2)).toInt64) &&& (4294967295 : Int64))), .long ((((xs (9 * z + 3)).toInt64) <<< ((32 : Int32).toInt64 &&& 63)) ||| (((xs (9 * z + 4)).toInt64) &&& (4294967295 : Int64))), .long ((((xs (9 * z + 5)).toInt64) <<< ((32 : Int32).toInt64 &&& 63)) ||| (((xs (9 * z + 6)).toInt64) &&& (4294967295 : Int64))), .long ((((xs (9 * z + 7)).toInt64) <<< ((32 : Int32).toInt64 &&& 63)) ||| (((xs (9 * z + 8)).toInt64) &&& (4294967295 : Int64)))]) (rest := [.int rx]) ⟨hx, hb, hml, hown, htb⟩ (c_M_set l g u17 hMR2 (by omega) ((((xs (9 * z + 1)).toInt64) <<< ((32 : Int32).toInt64 &&& 63)) ||| (((xs (9 * z + 2)).toInt64) &&& (4294967295 : Int64))) ((((xs (9 * z + 3)).toInt64) <<< ((32 : Int32).toInt64 &&& 63)) ||| (((xs (9 * z + 4)).toInt64) &&& (4294967295 : Int64))) ((((xs (9 * z + 5)).toInt64) <<< ((32 : Int32).toInt64 &&& 63)) ||| (((xs (9 * z + 6)).toInt64) &&& (4294967295 : Int64))) ((((xs (9 * z + 7)).toInt64) <<< ((32 : Int32).toInt64 &&& 63)) ||| (((xs (9 * z + 8)).toInt64) &&& (4294967295 : Int64)))) (cwV 4 htb (ht_gv wd_383 wd_384 wd_385 wd_3 g_M_set) rfl rfl rfl (by decide +kernel) ⟨Nat.le_of_ble_eq_true rfl, Nat.le_of_ble_eq_true rfl⟩) (HW.preV hO rfl _) rfl rfl hl.1 rfl (lv_room (Nat.le_of_ble_eq_true rfl)) d_W_law_444 ⟨by show _ ≤ 600000; omega, by show _ ≤ 7302250; omega⟩) (fun rm u34 H locs pm HW => ?_)
  obtain ⟨n2, Lf2, R2, hMR3, hfm, hpq, hma⟩ := pm
  obtain ⟨heq, hper2, hlen2⟩ := ht_rel_set hper hxa hma
  have hLS2 : ht_LS g u34 X M (z + 1) := ⟨tg2, k, L2, R2, sbf, enf, ei, n2, Lf2, If, ht_CS.fm ⟨N2, A2, F2, top2, dt, opf, lsf, hR2⟩ hfm htg2, hMR3, hper2, by omega, htg2, hPP.pq hpq⟩
  refine lv_icmp_eq (tgt := 717) hx hb d_W_law_447 (by decide) (fun c447 => ?_) (fun c447 => ?_)
  · refine W.widen (k := cn + 6) (n := sn + 27) (by omega) (by omega) ?_
    exact go _ _ _ _ hLS2 HW (lv_sub hl [0, 1, 2, 3] rfl)
  · exact absurd heq c447
set_option maxHeartbeats 4000000 in
set_option maxRecDepth 100000 in
theorem lc_remove {p : Program} {l : Launch} {e : Env} {s : State} {m : MethodId} {below : List Frame} {meth : Method} {c : Code} {b L : Nat} {xs : Nat → Int32} (C0 : lw_At p s m meth c b L xs) (g : ht_G) (hg : g.2.1 = s.heap.size) (X M : Nat → Nat) (z : Nat) (hz : 9 * z + 9 ≤ L) (hL : L ≤ 4608) (iv : Int32) (eiv : iv = nI (9 * z)) (cn sn : Nat) (hcn : cn + 6 ≤ 600000) (hsn : sn + 27 ≤ 7302250) (go : ∀ (w : ht_W) (H : Heap) (locs : List Loc) (ls : Array Slot), ht_LS g w X M (z + 1) → ht_I g s w H locs → lv_has ls 4 [(0, .ref b), (1, .ref (X 0)), (2, .ref (M 0)), (3, .int iv)] → W p l e room_1 s m #[Value.ref b] below meth c H locs (cn + 6) (sn + 27) (lw_Z below #[Value.ref b] s) (F0 m 717 ls [])) (w : ht_W) (H : Heap) (locs : List Loc) (ls : Array Slot) (hLS : ht_LS g w X M z) (HW : ht_I g s w H locs) (hl : lv_has ls 4 [(0, .ref b), (1, .ref (X 0)), (2, .ref (M 0)), (3, .int iv)]) : W p l e room_1 s m #[Value.ref b] below meth c H locs cn sn (lw_Z below #[Value.ref b] s) (F0 m 452 ls []) := by
  obtain ⟨hx, hb, hr, hml, hown, hts, hX, hbl, hlocks, hgv⟩ := id C0
  have htb : ∀ w ∈ bg, w.before #[Value.ref b] s = true := fun w h => hts w (List.mem_filter.mp h).1
  have hbA : ¬ ht_A g b := by unfold ht_A; rw [hg]; exact Nat.not_le.mpr hbl
  have eiv0 : iv = nI (9 * z + 0) := eiv
  obtain ⟨tg, k, Lc, R, sbf, enf, ei, n, Lf, If, hCS, hMR, hper, hcnt, htg, hPP⟩ := hLS
  obtain ⟨N, A, F, top, dt, opf, lsf, hR⟩ := hCS
  have hlen := hper.length_eq
  have hX0 := hR.1
  unfold ht_xo at hX0
  have hO := hMR.1.1
  unfold ht_mo at hO
  refine lv_aload_n hx hb d_W_law_452 rfl (lv_at hl 1 rfl) ?_
  refine ht_ci HW (va_runV (own := R_W) (C := R_X) (As := []) (rest := []) ⟨hx, hb, hml, hown, htb⟩ (c_X_remove l g w hR) (cwV 0 htb (ht_gv wd_186 wd_187 wd_188 wd_1 g_X_remove) rfl rfl rfl (by decide +kernel) ⟨Nat.le_of_ble_eq_true rfl, Nat.le_of_ble_eq_true rfl⟩) (HW.preV hX0 rfl _) rfl rfl hl.1 rfl (lv_room (Nat.le_of_ble_eq_true rfl)) d_W_law_453 ⟨by show _ ≤ 600000; omega, by show _ ≤ 7302250; omega⟩) (fun rx u1 H locs px HW => ?_)
  obtain ⟨N2, F2, top2, L2, hR2, hfr, hxa⟩ := px
  have hMR2 := hMR.fr hfr htg
  have hX0 := hR2.1
  unfold ht_xo at hX0
  have hO := hMR2.1.1
  unfold ht_mo at hO
  refine lv_aload_n hx hb d_W_law_456 rfl (lv_at hl 2 rfl) ?_
  refine ht_ci HW (va_runV (own := R_W) (C := R_M) (As := []) (rest := [.int rx]) ⟨hx, hb, hml, hown, htb⟩ (c_M_remove l g u1 hMR2) (cwV 0 htb (ht_gv wd_399 wd_400 wd_401 wd_3 g_M_remove) rfl rfl rfl (by decide +kernel) ⟨Nat.le_of_ble_eq_true rfl, Nat.le_of_ble_eq_true rfl⟩) (HW.preV hO rfl _) rfl rfl hl.1 rfl (lv_room (Nat.le_of_ble_eq_true rfl)) d_W_law_457 ⟨by show _ ≤ 600000; omega, by show _ ≤ 7302250; omega⟩) (fun rm u2 H locs pm HW => ?_)
  obtain ⟨n2, Lf2, R2, hMR3, hfm, hpq, hma⟩ := pm
  obtain ⟨heq, hper2, hlen2⟩ := ht_rel_remove hMR.2.2.1 hper hxa hma
  have hLS2 : ht_LS g u2 X M (z + 1) := ⟨tg, k, L2, R2, sbf, enf, ei, n2, Lf2, If, ht_CS.fm ⟨N2, A, F2, top2, dt, opf, lsf, hR2⟩ hfm htg, hMR3, hper2, by omega, htg, hPP.pq hpq⟩
  refine lv_icmp_eq (tgt := 717) hx hb d_W_law_460 (by decide) (fun c460 => ?_) (fun c460 => ?_)
  · refine W.widen (k := cn + 6) (n := sn + 27) (by omega) (by omega) ?_
    exact go _ _ _ _ hLS2 HW (lv_sub hl [0, 1, 2, 3] rfl)
  · exact absurd heq c460
set_option maxHeartbeats 4000000 in
set_option maxRecDepth 100000 in
theorem lc_has {p : Program} {l : Launch} {e : Env} {s : State} {m : MethodId} {below : List Frame} {meth : Method} {c : Code} {b L : Nat} {xs : Nat → Int32} (C0 : lw_At p s m meth c b L xs) (g : ht_G) (hg : g.2.1 = s.heap.size) (X M : Nat → Nat) (z : Nat) (hz : 9 * z + 9 ≤ L) (hL : L ≤ 4608) (iv : Int32) (eiv : iv = nI (9 * z)) (cn sn : Nat) (hcn : cn + 6 ≤ 600000) (hsn : sn + 27 ≤ 7302250) (go : ∀ (w : ht_W) (H : Heap) (locs : List Loc) (ls : Array Slot), ht_LS g w X M (z + 1) → ht_I g s w H locs → lv_has ls 4 [(0, .ref b), (1, .ref (X 0)), (2, .ref (M 0)), (3, .int iv)] → W p l e room_1 s m #[Value.ref b] below meth c H locs (cn + 6) (sn + 27) (lw_Z below #[Value.ref b] s) (F0 m 717 ls [])) (w : ht_W) (H : Heap) (locs : List Loc) (ls : Array Slot) (hLS : ht_LS g w X M z) (HW : ht_I g s w H locs) (hl : lv_has ls 4 [(0, .ref b), (1, .ref (X 0)), (2, .ref (M 0)), (3, .int iv)]) : W p l e room_1 s m #[Value.ref b] below meth c H locs cn sn (lw_Z below #[Value.ref b] s) (F0 m 465 ls []) := by
  obtain ⟨hx, hb, hr, hml, hown, hts, hX, hbl, hlocks, hgv⟩ := id C0
  have htb : ∀ w ∈ bg, w.before #[Value.ref b] s = true := fun w h => hts w (List.mem_filter.mp h).1
  have hbA : ¬ ht_A g b := by unfold ht_A; rw [hg]; exact Nat.not_le.mpr hbl
  have eiv0 : iv = nI (9 * z + 0) := eiv
  obtain ⟨tg, k, Lc, R, sbf, enf, ei, n, Lf, If, hCS, hMR, hper, hcnt, htg, hPP⟩ := hLS
  obtain ⟨N, A, F, top, dt, opf, lsf, hR⟩ := hCS
  have hlen := hper.length_eq
  have hX0 := hR.1
  unfold ht_xo at hX0
  have hO := hMR.1.1
  unfold ht_mo at hO
  refine lv_aload_n hx hb d_W_law_465 rfl (lv_at hl 1 rfl) ?_
  refine ht_ci HW (va_runV (own := R_W) (C := R_X) (As := []) (rest := []) ⟨hx, hb, hml, hown, htb⟩ (c_X_has l g w hR) (cwV 0 htb (ht_gv wd_190 wd_191 wd_192 wd_1 g_X_has) rfl rfl rfl (by decide +kernel) ⟨Nat.le_of_ble_eq_true rfl, Nat.le_of_ble_eq_true rfl⟩) (HW.preV hX0 rfl _) rfl rfl hl.1 rfl (lv_room (Nat.le_of_ble_eq_true rfl)) d_W_law_466 ⟨by show _ ≤ 600000; omega, by show _ ≤ 7302250; omega⟩) (fun rx u1 H locs px HW => ?_)
  obtain ⟨hxa, ew⟩ := px
  subst ew
  have hR2 := hR
  have hMR2 := hMR
  have hX0 := hR2.1
  unfold ht_xo at hX0
  have hO := hMR2.1.1
  unfold ht_mo at hO
  refine lv_aload_n hx hb d_W_law_469 rfl (lv_at hl 2 rfl) ?_
  refine ht_ci HW (va_runV (own := R_W) (C := R_M) (As := []) (rest := [.int rx]) ⟨hx, hb, hml, hown, htb⟩ (c_M_has l g w hMR) (cwV 0 htb (ht_gv wd_403 wd_404 wd_405 wd_3 g_M_has) rfl rfl rfl (by decide +kernel) ⟨Nat.le_of_ble_eq_true rfl, Nat.le_of_ble_eq_true rfl⟩) (HW.preV hO rfl _) rfl rfl hl.1 rfl (lv_room (Nat.le_of_ble_eq_true rfl)) d_W_law_470 ⟨by show _ ≤ 600000; omega, by show _ ≤ 7302250; omega⟩) (fun rm u2 H locs pm HW => ?_)
  obtain ⟨hma, ew⟩ := pm
  subst ew
  have heq := ht_rel_has hper hxa hma
  have hLS2 : ht_LS g w X M (z + 1) := ⟨tg, k, Lc, R, sbf, enf, ei, n, Lf, If, ⟨N, A, F, top, dt, opf, lsf, hR⟩, hMR, hper, by omega, htg, hPP⟩
  refine lv_icmp_eq (tgt := 717) hx hb d_W_law_473 (by decide) (fun c473 => ?_) (fun c473 => ?_)
  · refine W.widen (k := cn + 6) (n := sn + 27) (by omega) (by omega) ?_
    exact go _ _ _ _ hLS2 HW (lv_sub hl [0, 1, 2, 3] rfl)
  · exact absurd heq c473
set_option maxHeartbeats 4000000 in
set_option maxRecDepth 100000 in
theorem lc_value {p : Program} {l : Launch} {e : Env} {s : State} {m : MethodId} {below : List Frame} {meth : Method} {c : Code} {b L : Nat} {xs : Nat → Int32} (C0 : lw_At p s m meth c b L xs) (g : ht_G) (hg : g.2.1 = s.heap.size) (X M : Nat → Nat) (z : Nat) (hz : 9 * z + 9 ≤ L) (hL : L ≤ 4608) (iv : Int32) (eiv : iv = nI (9 * z)) (cn sn : Nat) (hcn : cn + 6 ≤ 600000) (hsn : sn + 27 ≤ 7302250) (go : ∀ (w : ht_W) (H : Heap) (locs : List Loc) (ls : Array Slot), ht_LS g w X M (z + 1) → ht_I g s w H locs → lv_has ls 4 [(0, .ref b), (1, .ref (X 0)), (2, .ref (M 0)), (3, .int iv)] → W p l e room_1 s m #[Value.ref b] below meth c H locs (cn + 6) (sn + 27) (lw_Z below #[Value.ref b] s) (F0 m 717 ls [])) (w : ht_W) (H : Heap) (locs : List Loc) (ls : Array Slot) (hLS : ht_LS g w X M z) (HW : ht_I g s w H locs) (hl : lv_has ls 4 [(0, .ref b), (1, .ref (X 0)), (2, .ref (M 0)), (3, .int iv)]) : W p l e room_1 s m #[Value.ref b] below meth c H locs cn sn (lw_Z below #[Value.ref b] s) (F0 m 478 ls []) := by
  obtain ⟨hx, hb, hr, hml, hown, hts, hX, hbl, hlocks, hgv⟩ := id C0
  have htb : ∀ w ∈ bg, w.before #[Value.ref b] s = true := fun w h => hts w (List.mem_filter.mp h).1
  have hbA : ¬ ht_A g b := by unfold ht_A; rw [hg]; exact Nat.not_le.mpr hbl
  have eiv0 : iv = nI (9 * z + 0) := eiv
  obtain ⟨tg, k, Lc, R, sbf, enf, ei, n, Lf, If, hCS, hMR, hper, hcnt, htg, hPP⟩ := hLS
  obtain ⟨N, A, F, top, dt, opf, lsf, hR⟩ := hCS
  have hlen := hper.length_eq
  have hX0 := hR.1
  unfold ht_xo at hX0
  have hO := hMR.1.1
  unfold ht_mo at hO
  refine lv_aload_n hx hb d_W_law_478 rfl (lv_at hl 1 rfl) ?_
  refine lv_aload_n hx hb d_W_law_479 rfl (lv_at hl 0 rfl) ?_
  refine lv_iload_n hx hb d_W_law_480 rfl (lv_at hl 3 rfl) ?_
  refine lv_iconst (v := 1) hx hb d_W_law_481 (by decide) ?_
  refine lv_iadd hx hb d_W_law_482 ?_
  refine lv_topi (fun x1 ex1 => ?_)
  have hx1 : x1 = nI (9 * z + 1) := by rw [ex1, eiv]; exact nI_add (9 * z) 1
  refine va_sld hx hb hX hbl hbA HW.2.2.2.2.2 (by rw [hx1]; exact vp_in_nI (by omega) (by omega)) d_W_law_483 ?_
  refine lv_topi (fun y2 ey2 => ?_)
  have ey2 : y2 = xs (9 * z + 1) := by rw [ey2, hx1, nI_clamp (by omega)]
  subst ey2
  refine ht_cl HW (va_runV (own := R_W) (C := R_X) (As := [.int (xs (9 * z + 1))]) (rest := []) ⟨hx, hb, hml, hown, htb⟩ (c_X_value l g w hR (xs (9 * z + 1))) (cwV 1 htb (ht_gv wd_194 wd_195 wd_196 wd_1 g_X_value) rfl rfl rfl (by decide +kernel) ⟨Nat.le_of_ble_eq_true rfl, Nat.le_of_ble_eq_true rfl⟩) (HW.preV hX0 rfl _) rfl rfl hl.1 rfl (lv_room (Nat.le_of_ble_eq_true rfl)) d_W_law_484 ⟨by show _ ≤ 600000; omega, by show _ ≤ 7302250; omega⟩) (fun rx u3 H locs px HW => ?_)
  obtain ⟨hxa, ew⟩ := px
  subst ew
  have hR2 := hR
  have hMR2 := hMR
  have hX0 := hR2.1
  unfold ht_xo at hX0
  have hO := hMR2.1.1
  unfold ht_mo at hO
  refine lv_aload_n hx hb d_W_law_487 rfl (lv_at hl 2 rfl) ?_
  refine lv_aload_n hx hb d_W_law_488 rfl (lv_at hl 0 rfl) ?_
  refine lv_iload_n hx hb d_W_law_489 rfl (lv_at hl 3 rfl) ?_
  refine lv_iconst (v := 1) hx hb d_W_law_490 (by decide) ?_
  refine lv_iadd hx hb d_W_law_491 ?_
  refine lv_topi (fun x4 ex4 => ?_)
  have hx4 : x4 = nI (9 * z + 1) := by rw [ex4, eiv]; exact nI_add (9 * z) 1
  refine va_sld hx hb hX hbl hbA HW.2.2.2.2.2 (by rw [hx4]; exact vp_in_nI (by omega) (by omega)) d_W_law_492 ?_
  refine lv_topi (fun y5 ey5 => ?_)
  have ey5 : y5 = xs (9 * z + 1) := by rw [ey5, hx4, nI_clamp (by omega)]
  subst ey5
  refine ht_cl HW (va_runV (own := R_W) (C := R_M) (As := [.int (xs (9 * z + 1))]) (rest := [.long rx]) ⟨hx, hb, hml, hown, htb⟩ (c_M_value l g w hMR (xs (9 * z + 1))) (cwV 1 htb (ht_gv wd_407 wd_408 wd_409 wd_3 g_M_value) rfl rfl rfl (by decide +kernel) ⟨Nat.le_of_ble_eq_true rfl, Nat.le_of_ble_eq_true rfl⟩) (HW.preV hO rfl _) rfl rfl hl.1 rfl (lv_room (Nat.le_of_ble_eq_true rfl)) d_W_law_493 ⟨by show _ ≤ 600000; omega, by show _ ≤ 7302250; omega⟩) (fun rm u6 H locs pm HW => ?_)
  obtain ⟨hma, ew⟩ := pm
  subst ew
  have heq := ht_rel_value hMR.2.2.1 hper hxa hma
  have hLS2 : ht_LS g w X M (z + 1) := ⟨tg, k, Lc, R, sbf, enf, ei, n, Lf, If, ⟨N, A, F, top, dt, opf, lsf, hR⟩, hMR, hper, by omega, htg, hPP⟩
  refine W.lcmp hx hb d_W_law_496 ?_
  refine lv_if_eq (tgt := 717) hx hb d_W_law_497 (by decide) (fun c497 => ?_) (fun c497 => ?_)
  · refine W.widen (k := cn + 6) (n := sn + 27) (by omega) (by omega) ?_
    exact go _ _ _ _ hLS2 HW (lv_sub hl [0, 1, 2, 3] rfl)
  · exact absurd (by rw [heq]; exact ht_lgc _) c497
set_option maxHeartbeats 4000000 in
set_option maxRecDepth 100000 in
theorem lc_count {p : Program} {l : Launch} {e : Env} {s : State} {m : MethodId} {below : List Frame} {meth : Method} {c : Code} {b L : Nat} {xs : Nat → Int32} (C0 : lw_At p s m meth c b L xs) (g : ht_G) (hg : g.2.1 = s.heap.size) (X M : Nat → Nat) (z : Nat) (hz : 9 * z + 9 ≤ L) (hL : L ≤ 4608) (iv : Int32) (eiv : iv = nI (9 * z)) (cn sn : Nat) (hcn : cn + 6 ≤ 600000) (hsn : sn + 27 ≤ 7302250) (go : ∀ (w : ht_W) (H : Heap) (locs : List Loc) (ls : Array Slot), ht_LS g w X M (z + 1) → ht_I g s w H locs → lv_has ls 4 [(0, .ref b), (1, .ref (X 0)), (2, .ref (M 0)), (3, .int iv)] → W p l e room_1 s m #[Value.ref b] below meth c H locs (cn + 6) (sn + 27) (lw_Z below #[Value.ref b] s) (F0 m 717 ls [])) (w : ht_W) (H : Heap) (locs : List Loc) (ls : Array Slot) (hLS : ht_LS g w X M z) (HW : ht_I g s w H locs) (hl : lv_has ls 4 [(0, .ref b), (1, .ref (X 0)), (2, .ref (M 0)), (3, .int iv)]) : W p l e room_1 s m #[Value.ref b] below meth c H locs cn sn (lw_Z below #[Value.ref b] s) (F0 m 502 ls []) := by
  obtain ⟨hx, hb, hr, hml, hown, hts, hX, hbl, hlocks, hgv⟩ := id C0
  have htb : ∀ w ∈ bg, w.before #[Value.ref b] s = true := fun w h => hts w (List.mem_filter.mp h).1
  have hbA : ¬ ht_A g b := by unfold ht_A; rw [hg]; exact Nat.not_le.mpr hbl
  have eiv0 : iv = nI (9 * z + 0) := eiv
  obtain ⟨tg, k, Lc, R, sbf, enf, ei, n, Lf, If, hCS, hMR, hper, hcnt, htg, hPP⟩ := hLS
  obtain ⟨N, A, F, top, dt, opf, lsf, hR⟩ := hCS
  have hlen := hper.length_eq
  have hX0 := hR.1
  unfold ht_xo at hX0
  have hO := hMR.1.1
  unfold ht_mo at hO
  refine lv_aload_n hx hb d_W_law_502 rfl (lv_at hl 1 rfl) ?_
  refine ht_ci HW (va_runV (own := R_W) (C := R_X) (As := []) (rest := []) ⟨hx, hb, hml, hown, htb⟩ (c_X_count l g w hR) (cwV 0 htb (ht_gv wd_201 wd_202 wd_203 wd_1 g_X_count) rfl rfl rfl (by decide +kernel) ⟨Nat.le_of_ble_eq_true rfl, Nat.le_of_ble_eq_true rfl⟩) (HW.preV hX0 rfl _) rfl rfl hl.1 rfl (lv_room (Nat.le_of_ble_eq_true rfl)) d_W_law_503 ⟨by show _ ≤ 600000; omega, by show _ ≤ 7302250; omega⟩) (fun rx u1 H locs px HW => ?_)
  obtain ⟨hxa, ew⟩ := px
  subst ew
  have hR2 := hR
  have hMR2 := hMR
  have hX0 := hR2.1
  unfold ht_xo at hX0
  have hO := hMR2.1.1
  unfold ht_mo at hO
  refine lv_aload_n hx hb d_W_law_506 rfl (lv_at hl 2 rfl) ?_
  refine ht_ci HW (va_runV (own := R_W) (C := R_M) (As := []) (rest := [.int rx]) ⟨hx, hb, hml, hown, htb⟩ (c_M_count l g w hMR) (cwV 0 htb (ht_gv wd_414 wd_415 wd_416 wd_3 g_M_count) rfl rfl rfl (by decide +kernel) ⟨Nat.le_of_ble_eq_true rfl, Nat.le_of_ble_eq_true rfl⟩) (HW.preV hO rfl _) rfl rfl hl.1 rfl (lv_room (Nat.le_of_ble_eq_true rfl)) d_W_law_507 ⟨by show _ ≤ 600000; omega, by show _ ≤ 7302250; omega⟩) (fun rm u2 H locs pm HW => ?_)
  obtain ⟨hma, ew⟩ := pm
  subst ew
  have heq : rx = rm := by rw [hxa, hma, hlen]
  have hLS2 : ht_LS g w X M (z + 1) := ⟨tg, k, Lc, R, sbf, enf, ei, n, Lf, If, ⟨N, A, F, top, dt, opf, lsf, hR⟩, hMR, hper, by omega, htg, hPP⟩
  refine lv_icmp_eq (tgt := 717) hx hb d_W_law_510 (by decide) (fun c510 => ?_) (fun c510 => ?_)
  · refine W.widen (k := cn + 6) (n := sn + 27) (by omega) (by omega) ?_
    exact go _ _ _ _ hLS2 HW (lv_sub hl [0, 1, 2, 3] rfl)
  · exact absurd heq c510
set_option maxHeartbeats 4000000 in
set_option maxRecDepth 100000 in
theorem lc_root {p : Program} {l : Launch} {e : Env} {s : State} {m : MethodId} {below : List Frame} {meth : Method} {c : Code} {b L : Nat} {xs : Nat → Int32} (C0 : lw_At p s m meth c b L xs) (g : ht_G) (hg : g.2.1 = s.heap.size) (X M : Nat → Nat) (z : Nat) (hz : 9 * z + 9 ≤ L) (hL : L ≤ 4608) (iv : Int32) (eiv : iv = nI (9 * z)) (cn sn : Nat) (hcn : cn + 6 ≤ 600000) (hsn : sn + 27 ≤ 7302250) (go : ∀ (w : ht_W) (H : Heap) (locs : List Loc) (ls : Array Slot), ht_LS g w X M (z + 1) → ht_I g s w H locs → lv_has ls 4 [(0, .ref b), (1, .ref (X 0)), (2, .ref (M 0)), (3, .int iv)] → W p l e room_1 s m #[Value.ref b] below meth c H locs (cn + 6) (sn + 27) (lw_Z below #[Value.ref b] s) (F0 m 717 ls [])) (w : ht_W) (H : Heap) (locs : List Loc) (ls : Array Slot) (hLS : ht_LS g w X M z) (HW : ht_I g s w H locs) (hl : lv_has ls 4 [(0, .ref b), (1, .ref (X 0)), (2, .ref (M 0)), (3, .int iv)]) : W p l e room_1 s m #[Value.ref b] below meth c H locs cn sn (lw_Z below #[Value.ref b] s) (F0 m 515 ls []) := by
  obtain ⟨hx, hb, hr, hml, hown, hts, hX, hbl, hlocks, hgv⟩ := id C0
  have htb : ∀ w ∈ bg, w.before #[Value.ref b] s = true := fun w h => hts w (List.mem_filter.mp h).1
  have hbA : ¬ ht_A g b := by unfold ht_A; rw [hg]; exact Nat.not_le.mpr hbl
  have eiv0 : iv = nI (9 * z + 0) := eiv
  obtain ⟨tg, k, Lc, R, sbf, enf, ei, n, Lf, If, hCS, hMR, hper, hcnt, htg, hPP⟩ := hLS
  obtain ⟨N, A, F, top, dt, opf, lsf, hR⟩ := hCS
  have hlen := hper.length_eq
  have hX0 := hR.1
  unfold ht_xo at hX0
  have hO := hMR.1.1
  unfold ht_mo at hO
  refine lv_aload_n hx hb d_W_law_515 rfl (lv_at hl 1 rfl) ?_
  refine lv_aload_n hx hb d_W_law_516 rfl (lv_at hl 0 rfl) ?_
  refine lv_iload_n hx hb d_W_law_517 rfl (lv_at hl 3 rfl) ?_
  refine lv_iconst (v := 1) hx hb d_W_law_518 (by decide) ?_
  refine lv_iadd hx hb d_W_law_519 ?_
  refine lv_topi (fun x1 ex1 => ?_)
  have hx1 : x1 = nI (9 * z + 1) := by rw [ex1, eiv]; exact nI_add (9 * z) 1
  refine va_sld hx hb hX hbl hbA HW.2.2.2.2.2 (by rw [hx1]; exact vp_in_nI (by omega) (by omega)) d_W_law_520 ?_
  refine lv_topi (fun y2 ey2 => ?_)
  have ey2 : y2 = xs (9 * z + 1) := by rw [ey2, hx1, nI_clamp (by omega)]
  subst ey2
  refine ht_cl HW (va_runV (own := R_W) (C := R_X) (As := [.int (xs (9 * z + 1))]) (rest := []) ⟨hx, hb, hml, hown, htb⟩ (c_X_root l g w hR (by omega) (xs (9 * z + 1))) (cwV 1 htb (ht_gv wd_205 wd_206 wd_207 wd_1 g_X_root) rfl rfl rfl (by decide +kernel) ⟨Nat.le_of_ble_eq_true rfl, Nat.le_of_ble_eq_true rfl⟩) (HW.preV hX0 rfl _) rfl rfl hl.1 rfl (lv_room (Nat.le_of_ble_eq_true rfl)) d_W_law_521 ⟨by show _ ≤ 600000; omega, by show _ ≤ 7302250; omega⟩) (fun rx u3 H locs px HW => ?_)
  obtain ⟨N2, dt2, opf2, hR2, hfr, hxa⟩ := px
  have hMR2 := hMR.fr hfr htg
  have hX0 := hR2.1
  unfold ht_xo at hX0
  have hO := hMR2.1.1
  unfold ht_mo at hO
  refine lv_aload_n hx hb d_W_law_524 rfl (lv_at hl 2 rfl) ?_
  refine lv_aload_n hx hb d_W_law_525 rfl (lv_at hl 0 rfl) ?_
  refine lv_iload_n hx hb d_W_law_526 rfl (lv_at hl 3 rfl) ?_
  refine lv_iconst (v := 1) hx hb d_W_law_527 (by decide) ?_
  refine lv_iadd hx hb d_W_law_528 ?_
  refine lv_topi (fun x4 ex4 => ?_)
  have hx4 : x4 = nI (9 * z + 1) := by rw [ex4, eiv]; exact nI_add (9 * z) 1
  refine va_sld hx hb hX hbl hbA HW.2.2.2.2.2 (by rw [hx4]; exact vp_in_nI (by omega) (by omega)) d_W_law_529 ?_
  refine lv_topi (fun y5 ey5 => ?_)
  have ey5 : y5 = xs (9 * z + 1) := by rw [ey5, hx4, nI_clamp (by omega)]
  subst ey5
  refine ht_cl HW (va_runV (own := R_W) (C := R_M) (As := [.int (xs (9 * z + 1))]) (rest := [.long rx]) ⟨hx, hb, hml, hown, htb⟩ (c_M_root l g u3 hMR2 (xs (9 * z + 1))) (cwV 1 htb (ht_gv wd_418 wd_419 wd_420 wd_3 g_M_root) rfl rfl rfl (by decide +kernel) ⟨Nat.le_of_ble_eq_true rfl, Nat.le_of_ble_eq_true rfl⟩) (HW.preV hO rfl _) rfl rfl hl.1 rfl (lv_room (Nat.le_of_ble_eq_true rfl)) d_W_law_530 ⟨by show _ ≤ 600000; omega, by show _ ≤ 7302250; omega⟩) (fun rm u6 H locs pm HW => ?_)
  obtain ⟨n2, Lf2, If2, hMR3, hfm, hpq, hma⟩ := pm
  have heq := ht_rel_root hper hxa hma
  have hLS2 : ht_LS g u6 X M (z + 1) := ⟨tg, k, Lc, R, sbf, enf, ei, n2, Lf2, If2, ht_CS.fm ⟨N2, A, F, top, dt2, opf2, lsf, hR2⟩ hfm htg, hMR3, hper, by omega, htg, hPP.pq hpq⟩
  refine W.lcmp hx hb d_W_law_533 ?_
  refine lv_if_eq (tgt := 717) hx hb d_W_law_534 (by decide) (fun c534 => ?_) (fun c534 => ?_)
  · refine W.widen (k := cn + 6) (n := sn + 27) (by omega) (by omega) ?_
    exact go _ _ _ _ hLS2 HW (lv_sub hl [0, 1, 2, 3] rfl)
  · exact absurd (by rw [heq]; exact ht_lgc _) c534
set_option maxHeartbeats 4000000 in
set_option maxRecDepth 100000 in
theorem lc_prove {p : Program} {l : Launch} {e : Env} {s : State} {m : MethodId} {below : List Frame} {meth : Method} {c : Code} {b L : Nat} {xs : Nat → Int32} (C0 : lw_At p s m meth c b L xs) (g : ht_G) (hg : g.2.1 = s.heap.size) (X M : Nat → Nat) (z : Nat) (hz : 9 * z + 9 ≤ L) (hL : L ≤ 4608) (iv : Int32) (eiv : iv = nI (9 * z)) (cn sn : Nat) (hcn : cn + 6 ≤ 600000) (hsn : sn + 27 ≤ 7302250) (go : ∀ (w : ht_W) (H : Heap) (locs : List Loc) (ls : Array Slot), ht_LS g w X M (z + 1) → ht_I g s w H locs → lv_has ls 4 [(0, .ref b), (1, .ref (X 0)), (2, .ref (M 0)), (3, .int iv)] → W p l e room_1 s m #[Value.ref b] below meth c H locs (cn + 6) (sn + 27) (lw_Z below #[Value.ref b] s) (F0 m 717 ls [])) (w : ht_W) (H : Heap) (locs : List Loc) (ls : Array Slot) (hLS : ht_LS g w X M z) (HW : ht_I g s w H locs) (hl : lv_has ls 4 [(0, .ref b), (1, .ref (X 0)), (2, .ref (M 0)), (3, .int iv)]) : W p l e room_1 s m #[Value.ref b] below meth c H locs cn sn (lw_Z below #[Value.ref b] s) (F0 m 539 ls []) := by
  obtain ⟨hx, hb, hr, hml, hown, hts, hX, hbl, hlocks, hgv⟩ := id C0
  have htb : ∀ w ∈ bg, w.before #[Value.ref b] s = true := fun w h => hts w (List.mem_filter.mp h).1
  have hbA : ¬ ht_A g b := by unfold ht_A; rw [hg]; exact Nat.not_le.mpr hbl
  have eiv0 : iv = nI (9 * z + 0) := eiv
  obtain ⟨tg, k, Lc, R, sbf, enf, ei, n, Lf, If, hCS, hMR, hper, hcnt, htg, hPP⟩ := hLS
  obtain ⟨N, A, F, top, dt, opf, lsf, hR⟩ := hCS
  have hlen := hper.length_eq
  have hX0 := hR.1
  unfold ht_xo at hX0
  have hO := hMR.1.1
  unfold ht_mo at hO
  refine lv_aload_n hx hb d_W_law_539 rfl (lv_at hl 1 rfl) ?_
  refine ht_ci HW (va_runV (own := R_W) (C := R_X) (As := []) (rest := []) ⟨hx, hb, hml, hown, htb⟩ (c_X_prove l g w hR (by omega)) (cwV 0 htb (ht_gv wd_267 wd_268 wd_269 wd_1 g_X_prove) rfl rfl rfl (by decide +kernel) ⟨Nat.le_of_ble_eq_true rfl, Nat.le_of_ble_eq_true rfl⟩) (HW.preV hX0 rfl _) rfl rfl hl.1 rfl (lv_room (Nat.le_of_ble_eq_true rfl)) d_W_law_540 ⟨by show _ ≤ 600000; omega, by show _ ≤ 7302250; omega⟩) (fun rx u1 H locs px HW => ?_)
  obtain ⟨N2, dt2, opf2, sbf2, lsf2, enf2, ei2, D, hR2, hfr, hpv, hxa⟩ := px
  have hMR2 := hMR.fr hfr htg
  have hX0 := hR2.1
  unfold ht_xo at hX0
  have hO := hMR2.1.1
  unfold ht_mo at hO
  refine lv_aload_n hx hb d_W_law_543 rfl (lv_at hl 2 rfl) ?_
  refine ht_ci HW (va_runV (own := R_W) (C := R_M) (As := []) (rest := [.int rx]) ⟨hx, hb, hml, hown, htb⟩ (c_M_prove l g u1 hMR2) (cwV 0 htb (ht_gv wd_487 wd_488 wd_489 wd_3 g_M_prove) rfl rfl rfl (by decide +kernel) ⟨Nat.le_of_ble_eq_true rfl, Nat.le_of_ble_eq_true rfl⟩) (HW.preV hO rfl _) rfl rfl hl.1 rfl (lv_room (Nat.le_of_ble_eq_true rfl)) d_W_law_544 ⟨by show _ ≤ 600000; omega, by show _ ≤ 7302250; omega⟩) (fun rm u2 H locs pm HW => ?_)
  obtain ⟨n2, Lf2, If2, D2, hMR3, hfm, hma, h3, h4, h5, h6, h7⟩ := pm
  obtain ⟨eD, hPP2⟩ := ht_rel_prove hper hpv h3 h4 h5 h6 h7
  have heq : rx = rm := by rw [hxa, hma, eD]
  have hLS2 : ht_LS g u2 X M (z + 1) := ⟨tg, k, Lc, R, sbf2, enf2, ei2, n2, Lf2, If2, ht_CS.fm ⟨N2, A, F, top, dt2, opf2, lsf2, hR2⟩ hfm htg, hMR3, hper, by omega, htg, hPP2⟩
  refine lv_icmp_eq (tgt := 717) hx hb d_W_law_547 (by decide) (fun c547 => ?_) (fun c547 => ?_)
  · refine W.widen (k := cn + 6) (n := sn + 27) (by omega) (by omega) ?_
    exact go _ _ _ _ hLS2 HW (lv_sub hl [0, 1, 2, 3] rfl)
  · exact absurd heq c547
set_option maxHeartbeats 4000000 in
set_option maxRecDepth 100000 in
theorem lc_sibling {p : Program} {l : Launch} {e : Env} {s : State} {m : MethodId} {below : List Frame} {meth : Method} {c : Code} {b L : Nat} {xs : Nat → Int32} (C0 : lw_At p s m meth c b L xs) (g : ht_G) (hg : g.2.1 = s.heap.size) (X M : Nat → Nat) (z : Nat) (hz : 9 * z + 9 ≤ L) (hL : L ≤ 4608) (iv : Int32) (eiv : iv = nI (9 * z)) (cn sn : Nat) (hcn : cn + 6 ≤ 600000) (hsn : sn + 27 ≤ 7302250) (go : ∀ (w : ht_W) (H : Heap) (locs : List Loc) (ls : Array Slot), ht_LS g w X M (z + 1) → ht_I g s w H locs → lv_has ls 4 [(0, .ref b), (1, .ref (X 0)), (2, .ref (M 0)), (3, .int iv)] → W p l e room_1 s m #[Value.ref b] below meth c H locs (cn + 6) (sn + 27) (lw_Z below #[Value.ref b] s) (F0 m 717 ls [])) (w : ht_W) (H : Heap) (locs : List Loc) (ls : Array Slot) (hLS : ht_LS g w X M z) (HW : ht_I g s w H locs) (hl : lv_has ls 4 [(0, .ref b), (1, .ref (X 0)), (2, .ref (M 0)), (3, .int iv)]) : W p l e room_1 s m #[Value.ref b] below meth c H locs cn sn (lw_Z below #[Value.ref b] s) (F0 m 552 ls []) := by
  obtain ⟨hx, hb, hr, hml, hown, hts, hX, hbl, hlocks, hgv⟩ := id C0
  have htb : ∀ w ∈ bg, w.before #[Value.ref b] s = true := fun w h => hts w (List.mem_filter.mp h).1
  have hbA : ¬ ht_A g b := by unfold ht_A; rw [hg]; exact Nat.not_le.mpr hbl
  have eiv0 : iv = nI (9 * z + 0) := eiv
  obtain ⟨tg, k, Lc, R, sbf, enf, ei, n, Lf, If, hCS, hMR, hper, hcnt, htg, hPP⟩ := hLS
  obtain ⟨N, A, F, top, dt, opf, lsf, hR⟩ := hCS
  have hlen := hper.length_eq
  have hX0 := hR.1
  unfold ht_xo at hX0
  have hO := hMR.1.1
  unfold ht_mo at hO
  refine lv_aload_n hx hb d_W_law_552 rfl (lv_at hl 1 rfl) ?_
  refine lv_aload_n hx hb d_W_law_553 rfl (lv_at hl 0 rfl) ?_
  refine lv_iload_n hx hb d_W_law_554 rfl (lv_at hl 3 rfl) ?_
  refine lv_iconst (v := 1) hx hb d_W_law_555 (by decide) ?_
  refine lv_iadd hx hb d_W_law_556 ?_
  refine lv_topi (fun x1 ex1 => ?_)
  have hx1 : x1 = nI (9 * z + 1) := by rw [ex1, eiv]; exact nI_add (9 * z) 1
  refine va_sld hx hb hX hbl hbA HW.2.2.2.2.2 (by rw [hx1]; exact vp_in_nI (by omega) (by omega)) d_W_law_557 ?_
  refine lv_topi (fun y2 ey2 => ?_)
  have ey2 : y2 = xs (9 * z + 1) := by rw [ey2, hx1, nI_clamp (by omega)]
  subst ey2
  refine lv_aload_n hx hb d_W_law_558 rfl (lv_at hl 0 rfl) ?_
  refine lv_iload_n hx hb d_W_law_559 rfl (lv_at hl 3 rfl) ?_
  refine lv_iconst (v := 2) hx hb d_W_law_560 (by decide) ?_
  refine lv_iadd hx hb d_W_law_561 ?_
  refine lv_topi (fun x3 ex3 => ?_)
  have hx3 : x3 = nI (9 * z + 2) := by rw [ex3, eiv]; exact nI_add (9 * z) 2
  refine va_sld hx hb hX hbl hbA HW.2.2.2.2.2 (by rw [hx3]; exact vp_in_nI (by omega) (by omega)) d_W_law_562 ?_
  refine lv_topi (fun y4 ey4 => ?_)
  have ey4 : y4 = xs (9 * z + 2) := by rw [ey4, hx3, nI_clamp (by omega)]
  subst ey4
  refine ht_cl HW (va_runV (own := R_W) (C := R_X) (As := [.int (xs (9 * z + 1)), .int (xs (9 * z + 2))]) (rest := []) ⟨hx, hb, hml, hown, htb⟩ (c_X_sibling l g w hR (xs (9 * z + 1)) (xs (9 * z + 2))) (cwV 2 htb (ht_gv wd_283 wd_284 wd_285 wd_1 g_X_sibling) rfl rfl rfl (by decide +kernel) ⟨Nat.le_of_ble_eq_true rfl, Nat.le_of_ble_eq_true rfl⟩) (HW.preV hX0 rfl _) rfl rfl hl.1 rfl (lv_room (Nat.le_of_ble_eq_true rfl)) d_W_law_563 ⟨by show _ ≤ 600000; omega, by show _ ≤ 7302250; omega⟩) (fun rx u5 H locs px HW => ?_)
  obtain ⟨hxa, ew⟩ := px
  subst ew
  have hR2 := hR
  have hMR2 := hMR
  obtain ⟨hP4, D, hD, hn3, hsb, hen⟩ := id hPP
  have hX0 := hR2.1
  unfold ht_xo at hX0
  have hO := hMR2.1.1
  unfold ht_mo at hO
  refine lv_aload_n hx hb d_W_law_566 rfl (lv_at hl 2 rfl) ?_
  refine lv_aload_n hx hb d_W_law_567 rfl (lv_at hl 0 rfl) ?_
  refine lv_iload_n hx hb d_W_law_568 rfl (lv_at hl 3 rfl) ?_
  refine lv_iconst (v := 1) hx hb d_W_law_569 (by decide) ?_
  refine lv_iadd hx hb d_W_law_570 ?_
  refine lv_topi (fun x6 ex6 => ?_)
  have hx6 : x6 = nI (9 * z + 1) := by rw [ex6, eiv]; exact nI_add (9 * z) 1
  refine va_sld hx hb hX hbl hbA HW.2.2.2.2.2 (by rw [hx6]; exact vp_in_nI (by omega) (by omega)) d_W_law_571 ?_
  refine lv_topi (fun y7 ey7 => ?_)
  have ey7 : y7 = xs (9 * z + 1) := by rw [ey7, hx6, nI_clamp (by omega)]
  subst ey7
  refine lv_aload_n hx hb d_W_law_572 rfl (lv_at hl 0 rfl) ?_
  refine lv_iload_n hx hb d_W_law_573 rfl (lv_at hl 3 rfl) ?_
  refine lv_iconst (v := 2) hx hb d_W_law_574 (by decide) ?_
  refine lv_iadd hx hb d_W_law_575 ?_
  refine lv_topi (fun x8 ex8 => ?_)
  have hx8 : x8 = nI (9 * z + 2) := by rw [ex8, eiv]; exact nI_add (9 * z) 2
  refine va_sld hx hb hX hbl hbA HW.2.2.2.2.2 (by rw [hx8]; exact vp_in_nI (by omega) (by omega)) d_W_law_576 ?_
  refine lv_topi (fun y9 ey9 => ?_)
  have ey9 : y9 = xs (9 * z + 2) := by rw [ey9, hx8, nI_clamp (by omega)]
  subst ey9
  refine ht_cl HW (va_runV (own := R_W) (C := R_M) (As := [.int (xs (9 * z + 1)), .int (xs (9 * z + 2))]) (rest := [.long rx]) ⟨hx, hb, hml, hown, htb⟩ (c_M_sibling l g w hMR D hD hn3 (xs (9 * z + 1)) (xs (9 * z + 2))) (cwV 2 htb (ht_gv wd_491 wd_492 wd_493 wd_3 g_M_sibling) rfl rfl rfl (by decide +kernel) ⟨Nat.le_of_ble_eq_true rfl, Nat.le_of_ble_eq_true rfl⟩) (HW.preV hO rfl _) rfl rfl hl.1 rfl (lv_room (Nat.le_of_ble_eq_true rfl)) d_W_law_577 ⟨by show _ ≤ 600000; omega, by show _ ≤ 7302250; omega⟩) (fun rm u10 H locs pm HW => ?_)
  obtain ⟨hma, ew⟩ := pm
  subst ew
  have heq := ht_rel_sibling (enf := enf) hD hsb hxa hma
  have hLS2 : ht_LS g w X M (z + 1) := ⟨tg, k, Lc, R, sbf, enf, ei, n, Lf, If, ⟨N, A, F, top, dt, opf, lsf, hR⟩, hMR, hper, by omega, htg, hPP⟩
  refine W.lcmp hx hb d_W_law_580 ?_
  refine lv_if_eq (tgt := 717) hx hb d_W_law_581 (by decide) (fun c581 => ?_) (fun c581 => ?_)
  · refine W.widen (k := cn + 6) (n := sn + 27) (by omega) (by omega) ?_
    exact go _ _ _ _ hLS2 HW (lv_sub hl [0, 1, 2, 3] rfl)
  · exact absurd (by rw [heq]; exact ht_lgc _) c581
set_option maxHeartbeats 4000000 in
set_option maxRecDepth 100000 in
theorem lc_ending {p : Program} {l : Launch} {e : Env} {s : State} {m : MethodId} {below : List Frame} {meth : Method} {c : Code} {b L : Nat} {xs : Nat → Int32} (C0 : lw_At p s m meth c b L xs) (g : ht_G) (hg : g.2.1 = s.heap.size) (X M : Nat → Nat) (z : Nat) (hz : 9 * z + 9 ≤ L) (hL : L ≤ 4608) (iv : Int32) (eiv : iv = nI (9 * z)) (cn sn : Nat) (hcn : cn + 6 ≤ 600000) (hsn : sn + 27 ≤ 7302250) (go : ∀ (w : ht_W) (H : Heap) (locs : List Loc) (ls : Array Slot), ht_LS g w X M (z + 1) → ht_I g s w H locs → lv_has ls 4 [(0, .ref b), (1, .ref (X 0)), (2, .ref (M 0)), (3, .int iv)] → W p l e room_1 s m #[Value.ref b] below meth c H locs (cn + 6) (sn + 27) (lw_Z below #[Value.ref b] s) (F0 m 717 ls [])) (w : ht_W) (H : Heap) (locs : List Loc) (ls : Array Slot) (hLS : ht_LS g w X M z) (HW : ht_I g s w H locs) (hl : lv_has ls 4 [(0, .ref b), (1, .ref (X 0)), (2, .ref (M 0)), (3, .int iv)]) : W p l e room_1 s m #[Value.ref b] below meth c H locs cn sn (lw_Z below #[Value.ref b] s) (F0 m 586 ls []) := by
  obtain ⟨hx, hb, hr, hml, hown, hts, hX, hbl, hlocks, hgv⟩ := id C0
  have htb : ∀ w ∈ bg, w.before #[Value.ref b] s = true := fun w h => hts w (List.mem_filter.mp h).1
  have hbA : ¬ ht_A g b := by unfold ht_A; rw [hg]; exact Nat.not_le.mpr hbl
  have eiv0 : iv = nI (9 * z + 0) := eiv
  obtain ⟨tg, k, Lc, R, sbf, enf, ei, n, Lf, If, hCS, hMR, hper, hcnt, htg, hPP⟩ := hLS
  obtain ⟨N, A, F, top, dt, opf, lsf, hR⟩ := hCS
  have hlen := hper.length_eq
  have hX0 := hR.1
  unfold ht_xo at hX0
  have hO := hMR.1.1
  unfold ht_mo at hO
  refine lv_aload_n hx hb d_W_law_586 rfl (lv_at hl 1 rfl) ?_
  refine ht_ci HW (va_runV (own := R_W) (C := R_X) (As := []) (rest := []) ⟨hx, hb, hml, hown, htb⟩ (c_X_ending l g w hR) (cwV 0 htb (ht_gv wd_287 wd_288 wd_289 wd_1 g_X_ending) rfl rfl rfl (by decide +kernel) ⟨Nat.le_of_ble_eq_true rfl, Nat.le_of_ble_eq_true rfl⟩) (HW.preV hX0 rfl _) rfl rfl hl.1 rfl (lv_room (Nat.le_of_ble_eq_true rfl)) d_W_law_587 ⟨by show _ ≤ 600000; omega, by show _ ≤ 7302250; omega⟩) (fun rx u1 H locs px HW => ?_)
  obtain ⟨hxa, ew⟩ := px
  subst ew
  have hR2 := hR
  have hMR2 := hMR
  have hX0 := hR2.1
  unfold ht_xo at hX0
  have hO := hMR2.1.1
  unfold ht_mo at hO
  refine lv_aload_n hx hb d_W_law_590 rfl (lv_at hl 2 rfl) ?_
  refine ht_ci HW (va_runV (own := R_W) (C := R_M) (As := []) (rest := [.int rx]) ⟨hx, hb, hml, hown, htb⟩ (c_M_ending l g w hMR) (cwV 0 htb (ht_gv wd_495 wd_496 wd_497 wd_3 g_M_ending) rfl rfl rfl (by decide +kernel) ⟨Nat.le_of_ble_eq_true rfl, Nat.le_of_ble_eq_true rfl⟩) (HW.preV hO rfl _) rfl rfl hl.1 rfl (lv_room (Nat.le_of_ble_eq_true rfl)) d_W_law_591 ⟨by show _ ≤ 600000; omega, by show _ ≤ 7302250; omega⟩) (fun rm u2 H locs pm HW => ?_)
  obtain ⟨hma, ew⟩ := pm
  subst ew
  have heq : rx = rm := by rw [hxa, hma]; exact hPP.1.symm
  have hLS2 : ht_LS g w X M (z + 1) := ⟨tg, k, Lc, R, sbf, enf, ei, n, Lf, If, ⟨N, A, F, top, dt, opf, lsf, hR⟩, hMR, hper, by omega, htg, hPP⟩
  refine lv_icmp_eq (tgt := 717) hx hb d_W_law_594 (by decide) (fun c594 => ?_) (fun c594 => ?_)
  · refine W.widen (k := cn + 6) (n := sn + 27) (by omega) (by omega) ?_
    exact go _ _ _ _ hLS2 HW (lv_sub hl [0, 1, 2, 3] rfl)
  · exact absurd heq c594
set_option maxHeartbeats 4000000 in
set_option maxRecDepth 100000 in
theorem lc_endNumber {p : Program} {l : Launch} {e : Env} {s : State} {m : MethodId} {below : List Frame} {meth : Method} {c : Code} {b L : Nat} {xs : Nat → Int32} (C0 : lw_At p s m meth c b L xs) (g : ht_G) (hg : g.2.1 = s.heap.size) (X M : Nat → Nat) (z : Nat) (hz : 9 * z + 9 ≤ L) (hL : L ≤ 4608) (iv : Int32) (eiv : iv = nI (9 * z)) (cn sn : Nat) (hcn : cn + 6 ≤ 600000) (hsn : sn + 27 ≤ 7302250) (go : ∀ (w : ht_W) (H : Heap) (locs : List Loc) (ls : Array Slot), ht_LS g w X M (z + 1) → ht_I g s w H locs → lv_has ls 4 [(0, .ref b), (1, .ref (X 0)), (2, .ref (M 0)), (3, .int iv)] → W p l e room_1 s m #[Value.ref b] below meth c H locs (cn + 6) (sn + 27) (lw_Z below #[Value.ref b] s) (F0 m 717 ls [])) (w : ht_W) (H : Heap) (locs : List Loc) (ls : Array Slot) (hLS : ht_LS g w X M z) (HW : ht_I g s w H locs) (hl : lv_has ls 4 [(0, .ref b), (1, .ref (X 0)), (2, .ref (M 0)), (3, .int iv)]) : W p l e room_1 s m #[Value.ref b] below meth c H locs cn sn (lw_Z below #[Value.ref b] s) (F0 m 599 ls []) := by
  obtain ⟨hx, hb, hr, hml, hown, hts, hX, hbl, hlocks, hgv⟩ := id C0
  have htb : ∀ w ∈ bg, w.before #[Value.ref b] s = true := fun w h => hts w (List.mem_filter.mp h).1
  have hbA : ¬ ht_A g b := by unfold ht_A; rw [hg]; exact Nat.not_le.mpr hbl
  have eiv0 : iv = nI (9 * z + 0) := eiv
  obtain ⟨tg, k, Lc, R, sbf, enf, ei, n, Lf, If, hCS, hMR, hper, hcnt, htg, hPP⟩ := hLS
  obtain ⟨N, A, F, top, dt, opf, lsf, hR⟩ := hCS
  have hlen := hper.length_eq
  have hX0 := hR.1
  unfold ht_xo at hX0
  have hO := hMR.1.1
  unfold ht_mo at hO
  refine lv_aload_n hx hb d_W_law_599 rfl (lv_at hl 1 rfl) ?_
  refine lv_aload_n hx hb d_W_law_600 rfl (lv_at hl 0 rfl) ?_
  refine lv_iload_n hx hb d_W_law_601 rfl (lv_at hl 3 rfl) ?_
  refine lv_iconst (v := 1) hx hb d_W_law_602 (by decide) ?_
  refine lv_iadd hx hb d_W_law_603 ?_
  refine lv_topi (fun x1 ex1 => ?_)
  have hx1 : x1 = nI (9 * z + 1) := by rw [ex1, eiv]; exact nI_add (9 * z) 1
  refine va_sld hx hb hX hbl hbA HW.2.2.2.2.2 (by rw [hx1]; exact vp_in_nI (by omega) (by omega)) d_W_law_604 ?_
  refine lv_topi (fun y2 ey2 => ?_)
  have ey2 : y2 = xs (9 * z + 1) := by rw [ey2, hx1, nI_clamp (by omega)]
  subst ey2
  refine lv_aload_n hx hb d_W_law_605 rfl (lv_at hl 0 rfl) ?_
  refine lv_iload_n hx hb d_W_law_606 rfl (lv_at hl 3 rfl) ?_
  refine lv_iconst (v := 2) hx hb d_W_law_607 (by decide) ?_
  refine lv_iadd hx hb d_W_law_608 ?_
  refine lv_topi (fun x3 ex3 => ?_)
  have hx3 : x3 = nI (9 * z + 2) := by rw [ex3, eiv]; exact nI_add (9 * z) 2
  refine va_sld hx hb hX hbl hbA HW.2.2.2.2.2 (by rw [hx3]; exact vp_in_nI (by omega) (by omega)) d_W_law_609 ?_
  refine lv_topi (fun y4 ey4 => ?_)
  have ey4 : y4 = xs (9 * z + 2) := by rw [ey4, hx3, nI_clamp (by omega)]
  subst ey4
  refine ht_cl HW (va_runV (own := R_W) (C := R_X) (As := [.int (xs (9 * z + 1)), .int (xs (9 * z + 2))]) (rest := []) ⟨hx, hb, hml, hown, htb⟩ (c_X_endNumber l g w hR (xs (9 * z + 1)) (xs (9 * z + 2))) (cwV 2 htb (ht_gv wd_291 wd_292 wd_293 wd_1 g_X_endNumber) rfl rfl rfl (by decide +kernel) ⟨Nat.le_of_ble_eq_true rfl, Nat.le_of_ble_eq_true rfl⟩) (HW.preV hX0 rfl _) rfl rfl hl.1 rfl (lv_room (Nat.le_of_ble_eq_true rfl)) d_W_law_610 ⟨by show _ ≤ 600000; omega, by show _ ≤ 7302250; omega⟩) (fun rx u5 H locs px HW => ?_)
  obtain ⟨hxa, ew⟩ := px
  subst ew
  have hR2 := hR
  have hMR2 := hMR
  obtain ⟨hP4, D, hD, hn3, hsb, hen⟩ := id hPP
  have hX0 := hR2.1
  unfold ht_xo at hX0
  have hO := hMR2.1.1
  unfold ht_mo at hO
  refine lv_aload_n hx hb d_W_law_613 rfl (lv_at hl 2 rfl) ?_
  refine lv_aload_n hx hb d_W_law_614 rfl (lv_at hl 0 rfl) ?_
  refine lv_iload_n hx hb d_W_law_615 rfl (lv_at hl 3 rfl) ?_
  refine lv_iconst (v := 1) hx hb d_W_law_616 (by decide) ?_
  refine lv_iadd hx hb d_W_law_617 ?_
  refine lv_topi (fun x6 ex6 => ?_)
  have hx6 : x6 = nI (9 * z + 1) := by rw [ex6, eiv]; exact nI_add (9 * z) 1
  refine va_sld hx hb hX hbl hbA HW.2.2.2.2.2 (by rw [hx6]; exact vp_in_nI (by omega) (by omega)) d_W_law_618 ?_
  refine lv_topi (fun y7 ey7 => ?_)
  have ey7 : y7 = xs (9 * z + 1) := by rw [ey7, hx6, nI_clamp (by omega)]
  subst ey7
  refine lv_aload_n hx hb d_W_law_619 rfl (lv_at hl 0 rfl) ?_
  refine lv_iload_n hx hb d_W_law_620 rfl (lv_at hl 3 rfl) ?_
  refine lv_iconst (v := 2) hx hb d_W_law_621 (by decide) ?_
  refine lv_iadd hx hb d_W_law_622 ?_
  refine lv_topi (fun x8 ex8 => ?_)
  have hx8 : x8 = nI (9 * z + 2) := by rw [ex8, eiv]; exact nI_add (9 * z) 2
  refine va_sld hx hb hX hbl hbA HW.2.2.2.2.2 (by rw [hx8]; exact vp_in_nI (by omega) (by omega)) d_W_law_623 ?_
  refine lv_topi (fun y9 ey9 => ?_)
  have ey9 : y9 = xs (9 * z + 2) := by rw [ey9, hx8, nI_clamp (by omega)]
  subst ey9
  refine ht_cl HW (va_runV (own := R_W) (C := R_M) (As := [.int (xs (9 * z + 1)), .int (xs (9 * z + 2))]) (rest := [.long rx]) ⟨hx, hb, hml, hown, htb⟩ (c_M_endNumber l g w hMR (xs (9 * z + 1)) (xs (9 * z + 2))) (cwV 2 htb (ht_gv wd_499 wd_500 wd_501 wd_3 g_M_endNumber) rfl rfl rfl (by decide +kernel) ⟨Nat.le_of_ble_eq_true rfl, Nat.le_of_ble_eq_true rfl⟩) (HW.preV hO rfl _) rfl rfl hl.1 rfl (lv_room (Nat.le_of_ble_eq_true rfl)) d_W_law_624 ⟨by show _ ≤ 600000; omega, by show _ ≤ 7302250; omega⟩) (fun rm u10 H locs pm HW => ?_)
  obtain ⟨hma, ew⟩ := pm
  subst ew
  have heq := ht_rel_end hen hxa hma
  have hLS2 : ht_LS g w X M (z + 1) := ⟨tg, k, Lc, R, sbf, enf, ei, n, Lf, If, ⟨N, A, F, top, dt, opf, lsf, hR⟩, hMR, hper, by omega, htg, hPP⟩
  refine W.lcmp hx hb d_W_law_627 ?_
  refine lv_if_eq (tgt := 717) hx hb d_W_law_628 (by decide) (fun c628 => ?_) (fun c628 => ?_)
  · refine W.widen (k := cn + 6) (n := sn + 27) (by omega) (by omega) ?_
    exact go _ _ _ _ hLS2 HW (lv_sub hl [0, 1, 2, 3] rfl)
  · exact absurd (by rw [heq]; exact ht_lgc _) c628
set_option maxHeartbeats 4000000 in
set_option maxRecDepth 100000 in
theorem lc_digest {p : Program} {l : Launch} {e : Env} {s : State} {m : MethodId} {below : List Frame} {meth : Method} {c : Code} {b L : Nat} {xs : Nat → Int32} (C0 : lw_At p s m meth c b L xs) (g : ht_G) (hg : g.2.1 = s.heap.size) (X M : Nat → Nat) (z : Nat) (hz : 9 * z + 9 ≤ L) (hL : L ≤ 4608) (iv : Int32) (eiv : iv = nI (9 * z)) (cn sn : Nat) (hcn : cn + 6 ≤ 600000) (hsn : sn + 27 ≤ 7302250) (go : ∀ (w : ht_W) (H : Heap) (locs : List Loc) (ls : Array Slot), ht_LS g w X M (z + 1) → ht_I g s w H locs → lv_has ls 4 [(0, .ref b), (1, .ref (X 0)), (2, .ref (M 0)), (3, .int iv)] → W p l e room_1 s m #[Value.ref b] below meth c H locs (cn + 6) (sn + 27) (lw_Z below #[Value.ref b] s) (F0 m 717 ls [])) (w : ht_W) (H : Heap) (locs : List Loc) (ls : Array Slot) (hLS : ht_LS g w X M z) (HW : ht_I g s w H locs) (hl : lv_has ls 4 [(0, .ref b), (1, .ref (X 0)), (2, .ref (M 0)), (3, .int iv)]) : W p l e room_1 s m #[Value.ref b] below meth c H locs cn sn (lw_Z below #[Value.ref b] s) (F0 m 633 ls []) := by
  obtain ⟨hx, hb, hr, hml, hown, hts, hX, hbl, hlocks, hgv⟩ := id C0
  have htb : ∀ w ∈ bg, w.before #[Value.ref b] s = true := fun w h => hts w (List.mem_filter.mp h).1
  have hbA : ¬ ht_A g b := by unfold ht_A; rw [hg]; exact Nat.not_le.mpr hbl
  have eiv0 : iv = nI (9 * z + 0) := eiv
  obtain ⟨tg, k, Lc, R, sbf, enf, ei, n, Lf, If, hCS, hMR, hper, hcnt, htg, hPP⟩ := hLS
  obtain ⟨N, A, F, top, dt, opf, lsf, hR⟩ := hCS
  have hlen := hper.length_eq
  have hX0 := hR.1
  unfold ht_xo at hX0
  have hO := hMR.1.1
  unfold ht_mo at hO
  refine lv_aload_n hx hb d_W_law_633 rfl (lv_at hl 1 rfl) ?_
  refine lv_aload_n hx hb d_W_law_634 rfl (lv_at hl 0 rfl) ?_
  refine lv_iload_n hx hb d_W_law_635 rfl (lv_at hl 3 rfl) ?_
  refine lv_iconst (v := 1) hx hb d_W_law_636 (by decide) ?_
  refine lv_iadd hx hb d_W_law_637 ?_
  refine lv_topi (fun x1 ex1 => ?_)
  have hx1 : x1 = nI (9 * z + 1) := by rw [ex1, eiv]; exact nI_add (9 * z) 1
  refine va_sld hx hb hX hbl hbA HW.2.2.2.2.2 (by rw [hx1]; exact vp_in_nI (by omega) (by omega)) d_W_law_638 ?_
  refine lv_topi (fun y2 ey2 => ?_)
  have ey2 : y2 = xs (9 * z + 1) := by rw [ey2, hx1, nI_clamp (by omega)]
  subst ey2
  refine lv_i2l (v := (xs (9 * z + 1)).toInt64) hx hb d_W_law_639 rfl ?_
  refine lv_bipush (v := 32) hx hb d_W_law_640 (by decide) ?_
  refine lv_lshl (v := ((xs (9 * z + 1)).toInt64) <<< ((32 : Int32).toInt64 &&& 63)) hx hb d_W_law_642 rfl ?_
  refine lv_aload_n hx hb d_W_law_643 rfl (lv_at hl 0 rfl) ?_
  refine lv_iload_n hx hb d_W_law_644 rfl (lv_at hl 3 rfl) ?_
  refine lv_iconst (v := 2) hx hb d_W_law_645 (by decide) ?_
  refine lv_iadd hx hb d_W_law_646 ?_
  refine lv_topi (fun x3 ex3 => ?_)
  have hx3 : x3 = nI (9 * z + 2) := by rw [ex3, eiv]; exact nI_add (9 * z) 2
  refine va_sld hx hb hX hbl hbA HW.2.2.2.2.2 (by rw [hx3]; exact vp_in_nI (by omega) (by omega)) d_W_law_647 ?_
  refine lv_topi (fun y4 ey4 => ?_)
  have ey4 : y4 = xs (9 * z + 2) := by rw [ey4, hx3, nI_clamp (by omega)]
  subst ey4
  refine lv_i2l (v := (xs (9 * z + 2)).toInt64) hx hb d_W_law_648 rfl ?_
  refine lv_ldc2 (v := 4294967295) hx hb hown (htb _ wd_507) d_W_law_649 ?_
  refine lv_land hx hb d_W_law_652 ?_
  refine lv_lor hx hb d_W_law_653 ?_
  refine lv_aload_n hx hb d_W_law_654 rfl (lv_at hl 0 rfl) ?_
  refine lv_iload_n hx hb d_W_law_655 rfl (lv_at hl 3 rfl) ?_
  refine lv_iconst (v := 3) hx hb d_W_law_656 (by decide) ?_
  refine lv_iadd hx hb d_W_law_657 ?_
  refine lv_topi (fun x5 ex5 => ?_)
  have hx5 : x5 = nI (9 * z + 3) := by rw [ex5, eiv]; exact nI_add (9 * z) 3
  refine va_sld hx hb hX hbl hbA HW.2.2.2.2.2 (by rw [hx5]; exact vp_in_nI (by omega) (by omega)) d_W_law_658 ?_
  refine lv_topi (fun y6 ey6 => ?_)
  have ey6 : y6 = xs (9 * z + 3) := by rw [ey6, hx5, nI_clamp (by omega)]
  subst ey6
  refine lv_aload_n hx hb d_W_law_659 rfl (lv_at hl 0 rfl) ?_
  refine lv_iload_n hx hb d_W_law_660 rfl (lv_at hl 3 rfl) ?_
  refine lv_iconst (v := 4) hx hb d_W_law_661 (by decide) ?_
  refine lv_iadd hx hb d_W_law_662 ?_
  refine lv_topi (fun x7 ex7 => ?_)
  have hx7 : x7 = nI (9 * z + 4) := by rw [ex7, eiv]; exact nI_add (9 * z) 4
  refine va_sld hx hb hX hbl hbA HW.2.2.2.2.2 (by rw [hx7]; exact vp_in_nI (by omega) (by omega)) d_W_law_663 ?_
  refine lv_topi (fun y8 ey8 => ?_)
  have ey8 : y8 = xs (9 * z + 4) := by rw [ey8, hx7, nI_clamp (by omega)]
  subst ey8
  refine lv_aload_n hx hb d_W_law_664 rfl (lv_at hl 0 rfl) ?_
  refine lv_iload_n hx hb d_W_law_665 rfl (lv_at hl 3 rfl) ?_
  refine lv_iconst (v := 5) hx hb d_W_law_666 (by decide) ?_
  refine lv_iadd hx hb d_W_law_667 ?_
  refine lv_topi (fun x9 ex9 => ?_)
  have hx9 : x9 = nI (9 * z + 5) := by rw [ex9, eiv]; exact nI_add (9 * z) 5
  refine va_sld hx hb hX hbl hbA HW.2.2.2.2.2 (by rw [hx9]; exact vp_in_nI (by omega) (by omega)) d_W_law_668 ?_
  refine lv_topi (fun y10 ey10 => ?_)
  have ey10 : y10 = xs (9 * z + 5) := by rw [ey10, hx9, nI_clamp (by omega)]
  subst ey10
  refine ht_cl HW (va_runV (own := R_W) (C := R_X) (As := [.long ((((xs (9 * z + 1)).toInt64) <<< ((32 : Int32).toInt64 &&& 63)) ||| (((xs (9 * z + 2)).toInt64) &&& (4294967295 : Int64))), .int (xs (9 * z + 3)), .int (xs (9 * z + 4)), .int (xs (9 * z + 5))]) (rest := []) ⟨hx, hb, hml, hown, htb⟩ (c_X_digest l g w hR ((((xs (9 * z + 1)).toInt64) <<< ((32 : Int32).toInt64 &&& 63)) ||| (((xs (9 * z + 2)).toInt64) &&& (4294967295 : Int64))) (xs (9 * z + 3)) (xs (9 * z + 4)) (xs (9 * z + 5))) (cwV 4 htb (ht_gv wd_295 wd_296 wd_297 wd_1 g_X_digest) rfl rfl rfl (by decide +kernel) ⟨Nat.le_of_ble_eq_true rfl, Nat.le_of_ble_eq_true rfl⟩) (HW.preV hX0 rfl _) rfl rfl hl.1 rfl (lv_room (Nat.le_of_ble_eq_true rfl)) d_W_law_669 ⟨by show _ ≤ 600000; omega, by show _ ≤ 7302250; omega⟩) (fun rx u11 H locs px HW => ?_)
  obtain ⟨dt2, hR2, hfr, hxa⟩ := px
  have hMR2 := hMR.fr hfr htg
  have hX0 := hR2.1
  unfold ht_xo at hX0
  have hO := hMR2.1.1
  unfold ht_mo at hO
  refine lv_aload_n hx hb d_W_law_672 rfl (lv_at hl 2 rfl) ?_
  refine lv_aload_n hx hb d_W_law_673 rfl (lv_at hl 0 rfl) ?_
  refine lv_iload_n hx hb d_W_law_674 rfl (lv_at hl 3 rfl) ?_
  refine lv_iconst (v := 1) hx hb d_W_law_675 (by decide) ?_
  refine lv_iadd hx hb d_W_law_676 ?_
  refine lv_topi (fun x12 ex12 => ?_)
  have hx12 : x12 = nI (9 * z + 1) := by rw [ex12, eiv]; exact nI_add (9 * z) 1
  refine va_sld hx hb hX hbl hbA HW.2.2.2.2.2 (by rw [hx12]; exact vp_in_nI (by omega) (by omega)) d_W_law_677 ?_
  refine lv_topi (fun y13 ey13 => ?_)
  have ey13 : y13 = xs (9 * z + 1) := by rw [ey13, hx12, nI_clamp (by omega)]
  subst ey13
  refine lv_i2l (v := (xs (9 * z + 1)).toInt64) hx hb d_W_law_678 rfl ?_
  refine lv_bipush (v := 32) hx hb d_W_law_679 (by decide) ?_
  refine lv_lshl (v := ((xs (9 * z + 1)).toInt64) <<< ((32 : Int32).toInt64 &&& 63)) hx hb d_W_law_681 rfl ?_
  refine lv_aload_n hx hb d_W_law_682 rfl (lv_at hl 0 rfl) ?_
  refine lv_iload_n hx hb d_W_law_683 rfl (lv_at hl 3 rfl) ?_
  refine lv_iconst (v := 2) hx hb d_W_law_684 (by decide) ?_
  refine lv_iadd hx hb d_W_law_685 ?_
  refine lv_topi (fun x14 ex14 => ?_)
  have hx14 : x14 = nI (9 * z + 2) := by rw [ex14, eiv]; exact nI_add (9 * z) 2
  refine va_sld hx hb hX hbl hbA HW.2.2.2.2.2 (by rw [hx14]; exact vp_in_nI (by omega) (by omega)) d_W_law_686 ?_
  refine lv_topi (fun y15 ey15 => ?_)
  have ey15 : y15 = xs (9 * z + 2) := by rw [ey15, hx14, nI_clamp (by omega)]
  subst ey15
  refine lv_i2l (v := (xs (9 * z + 2)).toInt64) hx hb d_W_law_687 rfl ?_
  refine lv_ldc2 (v := 4294967295) hx hb hown (htb _ wd_507) d_W_law_688 ?_
  refine lv_land hx hb d_W_law_691 ?_
  refine lv_lor hx hb d_W_law_692 ?_
  refine lv_aload_n hx hb d_W_law_693 rfl (lv_at hl 0 rfl) ?_
  refine lv_iload_n hx hb d_W_law_694 rfl (lv_at hl 3 rfl) ?_
  refine lv_iconst (v := 3) hx hb d_W_law_695 (by decide) ?_
  refine lv_iadd hx hb d_W_law_696 ?_
  refine lv_topi (fun x16 ex16 => ?_)
  have hx16 : x16 = nI (9 * z + 3) := by rw [ex16, eiv]; exact nI_add (9 * z) 3
  refine va_sld hx hb hX hbl hbA HW.2.2.2.2.2 (by rw [hx16]; exact vp_in_nI (by omega) (by omega)) d_W_law_697 ?_
  refine lv_topi (fun y17 ey17 => ?_)
  have ey17 : y17 = xs (9 * z + 3) := by rw [ey17, hx16, nI_clamp (by omega)]
  subst ey17
  refine lv_aload_n hx hb d_W_law_698 rfl (lv_at hl 0 rfl) ?_
  refine lv_iload_n hx hb d_W_law_699 rfl (lv_at hl 3 rfl) ?_
  refine lv_iconst (v := 4) hx hb d_W_law_700 (by decide) ?_
  refine lv_iadd hx hb d_W_law_701 ?_
  refine lv_topi (fun x18 ex18 => ?_)
  have hx18 : x18 = nI (9 * z + 4) := by rw [ex18, eiv]; exact nI_add (9 * z) 4
  refine va_sld hx hb hX hbl hbA HW.2.2.2.2.2 (by rw [hx18]; exact vp_in_nI (by omega) (by omega)) d_W_law_702 ?_
  refine lv_topi (fun y19 ey19 => ?_)
  have ey19 : y19 = xs (9 * z + 4) := by rw [ey19, hx18, nI_clamp (by omega)]
  subst ey19
  refine lv_aload_n hx hb d_W_law_703 rfl (lv_at hl 0 rfl) ?_
  refine lv_iload_n hx hb d_W_law_704 rfl (lv_at hl 3 rfl) ?_
  refine lv_iconst (v := 5) hx hb d_W_law_705 (by decide) ?_
  refine lv_iadd hx hb d_W_law_706 ?_
  refine lv_topi (fun x20 ex20 => ?_)
  have hx20 : x20 = nI (9 * z + 5) := by rw [ex20, eiv]; exact nI_add (9 * z) 5
  refine va_sld hx hb hX hbl hbA HW.2.2.2.2.2 (by rw [hx20]; exact vp_in_nI (by omega) (by omega)) d_W_law_707 ?_
  refine lv_topi (fun y21 ey21 => ?_)
  have ey21 : y21 = xs (9 * z + 5) := by rw [ey21, hx20, nI_clamp (by omega)]
  subst ey21
  refine ht_cl HW (va_runV (own := R_W) (C := R_M) (As := [.long ((((xs (9 * z + 1)).toInt64) <<< ((32 : Int32).toInt64 &&& 63)) ||| (((xs (9 * z + 2)).toInt64) &&& (4294967295 : Int64))), .int (xs (9 * z + 3)), .int (xs (9 * z + 4)), .int (xs (9 * z + 5))]) (rest := [.long rx]) ⟨hx, hb, hml, hown, htb⟩ (c_M_digest l g u11 hMR2 ((((xs (9 * z + 1)).toInt64) <<< ((32 : Int32).toInt64 &&& 63)) ||| (((xs (9 * z + 2)).toInt64) &&& (4294967295 : Int64))) (xs (9 * z + 3)) (xs (9 * z + 4)) (xs (9 * z + 5))) (cwV 4 htb (ht_gv wd_503 wd_504 wd_505 wd_3 g_M_digest) rfl rfl rfl (by decide +kernel) ⟨Nat.le_of_ble_eq_true rfl, Nat.le_of_ble_eq_true rfl⟩) (HW.preV hO rfl _) rfl rfl hl.1 rfl (lv_room (Nat.le_of_ble_eq_true rfl)) d_W_law_708 ⟨by show _ ≤ 600000; omega, by show _ ≤ 7302250; omega⟩) (fun rm u22 H locs pm HW => ?_)
  obtain ⟨Lf2, If2, hMR3, hfm, hpq, hma⟩ := pm
  have heq := ht_rel_digest hxa hma
  have hLS2 : ht_LS g u22 X M (z + 1) := ⟨tg, k, Lc, R, sbf, enf, ei, n, Lf2, If2, ht_CS.fm ⟨N, A, F, top, dt2, opf, lsf, hR2⟩ hfm htg, hMR3, hper, by omega, htg, hPP.pq hpq⟩
  refine W.lcmp hx hb d_W_law_711 ?_
  refine lv_if_eq (tgt := 717) hx hb d_W_law_712 (by decide) (fun c712 => ?_) (fun c712 => ?_)
  · refine W.widen (k := cn + 6) (n := sn + 27) (by omega) (by omega) ?_
    exact go _ _ _ _ hLS2 HW (lv_sub hl [0, 1, 2, 3] rfl)
  · exact absurd (by rw [heq]; exact ht_lgc _) c712
