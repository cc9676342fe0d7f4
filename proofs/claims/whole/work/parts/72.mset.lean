theorem ht_sv_get {R : ht_L} {k v : ht_K} {x : Nat} {q : ht_K × ht_K} (h : (ht_sv R k v)[x]? = some q) : ∃ q0, R[x]? = some q0 ∧ q.1 = q0.1 ∧ (q0.1 ≠ k → q = q0) := by
  unfold ht_sv at h
  rw [List.getElem?_map] at h
  cases h9 : R[x]? with
  | none => rw [h9] at h; cases h
  | some q0 =>
    rw [h9] at h
    have h : (if q0.1 = k then (k, v) else q0) = q := Option.some.inj h
    refine ⟨q0, rfl, ?_, ?_⟩
    · rw [← h]
      by_cases e : q0.1 = k
      · rw [if_pos e]; exact e.symm
      · rw [if_neg e]
    · intro e
      rw [← h, if_neg e]
theorem ht_sv_at {R : ht_L} {k v : ht_K} {x : Nat} {q0 : ht_K × ht_K} (h : R[x]? = some q0) (e : q0.1 = k) : (ht_sv R k v)[x]? = some (k, v) := by
  unfold ht_sv
  rw [List.getElem?_map, h]
  show some (if q0.1 = k then (k, v) else q0) = some (k, v)
  rw [if_pos e]
theorem ht_sv_len {R : ht_L} {k v : ht_K} : (ht_sv R k v).length = R.length := by
  unfold ht_sv
  exact List.length_map _
theorem ht_srt.sv {R : ht_L} (h : ht_srt R) (k v : ht_K) : ht_srt (ht_sv R k v) := by
  have hk : ∀ q : ht_K × ht_K, (if q.1 = k then (k, v) else q).1 = q.1 := fun q => by
    by_cases e : q.1 = k
    · rw [if_pos e]; exact e.symm
    · rw [if_neg e]
  unfold ht_sv ht_srt
  refine List.pairwise_map.mpr (List.Pairwise.imp (fun {a b} hab => ?_) h)
  rw [hk a, hk b]
  exact hab
def ht_ins (R : ht_L) (p : Nat) (q : ht_K × ht_K) : ht_L := R.take p ++ q :: R.drop p
theorem ht_ins_len {R : ht_L} {p : Nat} {q : ht_K × ht_K} (hp : p ≤ R.length) : (ht_ins R p q).length = R.length + 1 := by
  unfold ht_ins
  rw [List.length_append, List.length_take, List.length_cons, List.length_drop]
  omega
theorem ht_ins_lo {R : ht_L} {p x : Nat} {q : ht_K × ht_K} (hp : p ≤ R.length) (hx : x < p) : (ht_ins R p q)[x]? = R[x]? := by
  unfold ht_ins
  rw [List.getElem?_append_left (by rw [List.length_take]; omega), List.getElem?_take_of_lt hx]
theorem ht_ins_at {R : ht_L} {p : Nat} {q : ht_K × ht_K} (hp : p ≤ R.length) : (ht_ins R p q)[p]? = some q := by
  unfold ht_ins
  rw [List.getElem?_append_right (by rw [List.length_take]; omega), List.length_take, show p - min p R.length = 0 by omega]
  rfl
theorem ht_ins_hi {R : ht_L} {p y : Nat} {q : ht_K × ht_K} (hp : p ≤ R.length) : (ht_ins R p q)[p + 1 + y]? = R[p + y]? := by
  unfold ht_ins
  rw [List.getElem?_append_right (by rw [List.length_take]; omega), List.length_take, show p + 1 + y - min p R.length = y + 1 by omega, List.getElem?_cons_succ, List.getElem?_drop]
theorem ht_ins_perm {R : ht_L} {p : Nat} {q : ht_K × ht_K} : (ht_ins R p q).Perm (q :: R) := by
  unfold ht_ins
  have := List.perm_middle (a := q) (l₁ := R.take p) (l₂ := R.drop p)
  rw [List.take_append_drop] at this
  exact this
theorem ht_ins_srt {R : ht_L} {p : Nat} {k v : ht_K} (h : ht_srt R) (h1 : ∀ j q, j < p → R[j]? = some q → ht_klt q.1 k) (h2 : ∀ q, R[p]? = some q → ¬ ht_klt q.1 k) (h3 : ∀ q ∈ R, q.1 ≠ k) : ht_srt (ht_ins R p (k, v)) := by
  have hlo : ∀ a ∈ R.take p, ht_klt a.1 k := fun a ha => by
    obtain ⟨j, hj⟩ := List.mem_iff_getElem?.mp ha
    have hjp : j < p := by
      have := ht_gn hj
      rw [List.length_take] at this
      omega
    rw [List.getElem?_take_of_lt hjp] at hj
    exact h1 j a hjp hj
  have hhi : ∀ a ∈ R.drop p, ht_klt k a.1 := fun a ha => by
    obtain ⟨j, hj⟩ := List.mem_iff_getElem?.mp ha
    rw [List.getElem?_drop] at hj
    have hne : a.1 ≠ k := h3 a (List.mem_of_getElem? hj)
    rcases ht_klt.total hne with z | z
    · exfalso
      obtain ⟨b, hb⟩ := ht_gl (l := R) (p := p) (by have := ht_gn hj; omega)
      rcases Nat.eq_zero_or_pos j with e | e
      · rw [e, Nat.add_zero] at hj
        exact h2 a hj z
      · exact h2 b hb ((h.lt hb hj (by omega)).trans z)
    · exact z
  unfold ht_srt ht_ins
  refine List.pairwise_append.mpr ⟨List.Pairwise.sublist (List.take_sublist _ _) h, List.pairwise_cons.mpr ⟨hhi, List.Pairwise.sublist (List.drop_sublist _ _) h⟩, fun a ha b hb => ?_⟩
  rcases List.mem_cons.mp hb with e | e
  · rw [e]; exact hlo a ha
  · exact (hlo a ha).trans (hhi b e)
theorem ht_ins_row {R : ht_L} {p : Nat} {q0 : ht_K × ht_K} {f f' : Nat → Int64} {pr : ht_K × ht_K → ht_K} (hp : p ≤ R.length) (hr : ∀ x e, R[x]? = some e → ht_row f (4 * x) (pr e)) (hlo : ∀ x, x < 4 * p + 4 → f' x = f x) (hhi : ∀ y, 4 * p ≤ y → y < 4 * R.length → f' (y + 4) = f y) {x : Nat} {e : ht_K × ht_K} (hx : x ≠ p) (he : (ht_ins R p q0)[x]? = some e) : ht_row f' (4 * x) (pr e) := by
  intro j hj
  rcases Nat.lt_or_gt_of_ne hx with z | z
  · rw [ht_ins_lo hp z] at he
    rw [hlo _ (by omega)]
    exact hr x e he j hj
  · obtain ⟨y, rfl⟩ : ∃ y, x = p + 1 + y := ⟨x - (p + 1), by omega⟩
    rw [ht_ins_hi hp] at he
    have h9 := ht_gn he
    rw [show 4 * (p + 1 + y) + j = 4 * (p + y) + j + 4 by omega, hhi _ (by omega) (by omega)]
    exact hr (p + y) e he j hj
theorem ht_shr1 {f f0 : Nat → Int64} {b len : Nat} {z : Int64} (h : (∀ x, x < b + 1 + 4 → f x = f0 x) ∧ (∀ y, b + 1 ≤ y → y < len → f (y + 4) = f0 y)) (ez : z = f b) : (∀ x, x < b + 4 → (vp_updL f (b + 4) z) x = f0 x) ∧ (∀ y, b ≤ y → y < len → vp_updL f (b + 4) z (y + 4) = f0 y) := by
  refine ⟨fun x hx => ?_, fun y hy hl => ?_⟩
  · rw [pk_uLn (by omega)]
    exact h.1 x (by omega)
  · by_cases e : y = b
    · rw [e, pk_uLs, ez]
      exact h.1 b (by omega)
    · rw [pk_uLn (by omega)]
      exact h.2 y (by omega) hl
theorem ht_jlt {j : Int32} {n : Nat} (h : j + 1 = nI n) (hn : n < 2 ^ 31) : j < nI n := by
  cases n with
  | zero => exact ht_j0 h
  | succ n => rw [ht_js h]; exact nI_lt (Nat.lt_succ_self n) hn
theorem ht_4st {f : Nat → Int64} {b : Nat} {v1 v2 v3 v4 : Int64} : ht_row (vp_updL (vp_updL (vp_updL (vp_updL f b v1) (b + 1) v2) (b + 2) v3) (b + 3) v4) b (v1, v2, v3, v4) := by
  intro j hj
  rcases (show j = 0 ∨ j = 1 ∨ j = 2 ∨ j = 3 by omega) with rfl | rfl | rfl | rfl
  · rw [pk_uLn (by omega), pk_uLn (by omega), pk_uLn (by omega)]
    exact pk_uLs
  · rw [pk_uLn (by omega), pk_uLn (by omega), pk_uLs]; rfl
  · rw [pk_uLn (by omega), pk_uLs]; rfl
  · rw [pk_uLs]; rfl
theorem ht_4so {f : Nat → Int64} {b x : Nat} {v1 v2 v3 v4 : Int64} (h : x < b ∨ b + 4 ≤ x) : vp_updL (vp_updL (vp_updL (vp_updL f b v1) (b + 1) v2) (b + 2) v3) (b + 3) v4 x = f x := by
  rw [pk_uLn (by omega), pk_uLn (by omega), pk_uLn (by omega), pk_uLn (by omega)]
theorem ht_era_row {R : ht_L} {p : Nat} {f f' : Nat → Int64} {pr : ht_K × ht_K → ht_K} (hr : ∀ x e, R[x]? = some e → ht_row f (4 * x) (pr e)) (hlo : ∀ x, x < 4 * p → f' x = f x) (hhi : ∀ x, 4 * p ≤ x → x < 4 * (R.length - 1) → f' x = f (x + 4)) {x : Nat} {e : ht_K × ht_K} (he : (R.eraseIdx p)[x]? = some e) : ht_row f' (4 * x) (pr e) := by
  intro j hj
  rw [List.getElem?_eraseIdx] at he
  by_cases z : x < p
  · rw [if_pos z] at he
    rw [hlo _ (by omega)]
    exact hr x e he j hj
  · rw [if_neg z] at he
    have h9 := ht_gn he
    rw [hhi _ (by omega) (by omega), show 4 * x + j + 4 = 4 * (x + 1) + j by omega]
    exact hr (x + 1) e he j hj
theorem ht_era_perm {R : ht_L} {p : Nat} {q : ht_K × ht_K} (h : R[p]? = some q) : (R.eraseIdx p).Perm (R.erase q) := by
  obtain ⟨hp, e⟩ := List.getElem?_eq_some_iff.mp h
  have h1 : (q :: R.eraseIdx p).Perm R := by
    rw [← e]
    rw [List.eraseIdx_eq_take_drop_succ]
    refine (List.perm_middle (a := R[p]) (l₁ := R.take p) (l₂ := R.drop (p + 1))).symm.trans ?_
    rw [← List.drop_eq_getElem_cons hp, List.take_append_drop]
  have h2 := List.perm_cons_erase (List.mem_of_getElem? h)
  exact List.Perm.cons_inv (h1.trans h2)
set_option maxHeartbeats 4000000 in
set_option maxRecDepth 100000 in
theorem c_M_set (l : Launch) (g : ht_G) (w : ht_W) {M : Nat → Nat} {n : Nat → Int32} {Lf : ht_LF} {If : ht_IF} {R : ht_L} {k : ht_K} (hMR : ht_MR g w M n Lf If R k) (hcap : R.length < 512) (v1 v2 v3 v4 : Int64) : Met l y_M_set ws_M_set ({ frames := 2, cells := 0, slots := 0, locals := 60 } : Room) (va_Pc [.ref (M 0), .long v1, .long v2, .long v3, .long v4] (ht_WS g w)) (ht_Qi g (fun r u => ∃ (n2 : Nat → Int32) (Lf2 : ht_LF) (R2 : ht_L), ht_MR g u M n2 Lf2 If R2 k ∧ ht_fm M w u ∧ ht_pq n n2 Lf Lf2 ∧ ((r = 0 ∧ (∃ v0, (k, v0) ∈ R) ∧ R2 = ht_sv R k (v1, v2, v3, v4)) ∨ (r = 1 ∧ (∀ q ∈ R, q.1 ≠ k) ∧ R2.Perm ((k, (v1, v2, v3, v4)) :: R))))) 0 0 (ht_A g) := by
  refine Met.ofW (cc := b_M_set) (maxL := 12) (ret := (some .int)) (by decide) rfl ?_
  intro p e s m args below meth c s₁ BB hml hv
  obtain ⟨rfl, HW⟩ := hv
  have HW := ht_I.start HW
  have hx := BB.exec
  have hb := BB.bytes
  have hr := BB.returns
  have hts := atoms_spec (ws := ws_M_set) BB.pre
  have htb : ∀ w ∈ bg, w.before _ s = true := fun w h => hts w (List.mem_cons_of_mem _ h)
  have hown : s.vm.findClass R_M = some m.cls := findClass_of_methodNamed BB.named
  have hlocks := BB.notSynchronized
  have hl := lv_entry ([.ref (M 0), .long v1, .long v2, .long v3, .long v4]) (n := 12) (Nat.le_of_ble_eq_true rfl)
  rw [lg_entry_eq]
  generalize (lg_sl ([.ref (M 0), .long v1, .long v2, .long v3, .long v4]) ++ List.replicate (12 - (lg_sl ([.ref (M 0), .long v1, .long v2, .long v3, .long v4])).length) Slot.unset).toArray = ls at hl ⊢
  have hl : lv_has ls 12 [(0, .ref (M 0)), (1, .long v1), (3, .long v2), (5, .long v3), (7, .long v4)] := hl
  obtain ⟨hM, hRL, hsrt, hK, hKp, hrt⟩ := id hMR
  have h512 := hRL.1
  have lst : ∀ (pv : Int32) (pp : Nat), pv = nI pp → ∀ (av : Int32) (R2 : ht_L), R2.length ≤ 512 → ht_srt R2 → R2[pp]? = some (k, (v1, v2, v3, v4)) → ((av = 1 ∧ (∃ v0, (k, v0) ∈ R) ∧ R2 = ht_sv R k (v1, v2, v3, v4)) ∨ (av = 0 ∧ (∀ q ∈ R, q.1 ≠ k) ∧ R2.Perm ((k, (v1, v2, v3, v4)) :: R))) → ∀ (nu : Nat → Int32), nu 0 = nI R2.length → nu 3 = n 3 → nu 4 = n 4 → ∀ (u : ht_W) (Lu : ht_LF), ht_Mo g u M nu Lu If → ht_fm M w u → ht_same [1, 2] Lf Lu → (∀ x e9, R2[x]? = some e9 → ht_row (Lu 1) (4 * x) e9.1) → (∀ x e9, x ≠ pp → R2[x]? = some e9 → ht_row (Lu 2) (4 * x) e9.2) → ∀ (H : Heap) (locs : List Loc) (ls : Array Slot), ht_I g s u H locs → lv_has ls 12 [(0, .ref (M 0)), (1, .long v1), (3, .long v2), (5, .long v3), (7, .long v4), (9, .int pv), (10, .int av)] → W p l e (headSpec ws_M_set ({ frames := 2, cells := 0, slots := 0, locals := 60 } : Room)).room s m ([.ref (M 0), .long v1, .long v2, .long v3, .long v4] : List Value).toArray below meth c H locs 0 0 (MQ below (ht_Qi g (fun r u => ∃ (n2 : Nat → Int32) (Lf2 : ht_LF) (R2 : ht_L), ht_MR g u M n2 Lf2 If R2 k ∧ ht_fm M w u ∧ ht_pq n n2 Lf Lf2 ∧ ((r = 0 ∧ (∃ v0, (k, v0) ∈ R) ∧ R2 = ht_sv R k (v1, v2, v3, v4)) ∨ (r = 1 ∧ (∀ q ∈ R, q.1 ≠ k) ∧ R2.Perm ((k, (v1, v2, v3, v4)) :: R))))) ([.ref (M 0), .long v1, .long v2, .long v3, .long v4] : List Value).toArray s 0 0 (ht_A g)) (F0 m 138 ls []) := by
    intro pv pp epv av R2 h2512 hs2 hat hend nu hnu0 hnu3 hnu4 u Lu hMu hfm hsL hkrow hvrow H locs ls HW hl
    have hpp := ht_gn hat
    have hO : ht_at u (M 0) (.inr (4, [.ref (M 1), .ref (M 2), .int (nu 0), .ref (M 3), .ref (M 4), .ref (M 5), .ref (M 6), .int (nu 1), .ref (M 7), .int (nu 2), .ref (M 8), .int (nu 3), .int (nu 4), .ref (M 9), .ref (M 10), .ref (M 11), .ref (M 12), .ref (M 13), .ref (M 14), .ref (M 15), .ref (M 16), .ref (M 17)]) : va_E) := hMu.1
    have h2 : ht_at u (M 2) (ht_al g 2048 (Lu 2)) := hMu.L 2 (by decide) rfl
    refine lv_aload_n hx hb d_M_set_138 rfl (lv_at hl 0 rfl) ?_
    refine ht_get (C := R_M) (T := F_M) (N := 22) (v := .ref (M 2)) hx hb htb i_M hown HW hO rfl 1 (by decide) (htb _ wd_312) (fun _ h9 => h9) rfl d_M_set_139 ?_
    refine lv_iconst (v := 4) hx hb d_M_set_142 (by decide) ?_
    refine lv_iload hx hb d_M_set_143 (lv_at hl 5 rfl) ?_
    refine lv_imul hx hb d_M_set_145 ?_
    refine lv_topi (fun i0 ei0 => ?_)
    have hi0 : i0 = nI (4 * pp) := by rw [ei0, epv, show (4 : Int32) = nI 4 from rfl, pk_mul]
    refine lv_lload_n hx hb d_M_set_146 rfl (lv_at hl 1 rfl) ?_
    refine ht_last hx hb HW h2 (by rw [hi0]; exact vp_in_nI (by omega) (by omega)) d_M_set_147 (fun H locs HW => ?_)
    rw [hi0, nI_clamp (by omega)] at HW
    have n_M_0_M_2 : (M 0) ≠ (M 2) := (hMu.ne 0 2 (by decide) (by decide) (by decide))
    obtain ⟨u1, hu1⟩ : ∃ zW : ht_W, zW = ht_up u (M 2) (ht_al g 2048 (vp_updL (Lu 2) (4 * pp) v1)) := ⟨_, rfl⟩
    have HW : ht_I g s u1 H locs := by rw [hu1]; exact HW
    have hO : ht_at u1 (M 0) (.inr (4, [.ref (M 1), .ref (M 2), .int (nu 0), .ref (M 3), .ref (M 4), .ref (M 5), .ref (M 6), .int (nu 1), .ref (M 7), .int (nu 2), .ref (M 8), .int (nu 3), .int (nu 4), .ref (M 9), .ref (M 10), .ref (M 11), .ref (M 12), .ref (M 13), .ref (M 14), .ref (M 15), .ref (M 16), .ref (M 17)]) : va_E) := by rw [hu1]; exact ht_at_ne hO n_M_0_M_2
    have h2 : ht_at u1 (M 2) (ht_al g 2048 (vp_updL (Lu 2) (4 * pp) v1)) := by rw [hu1]; exact ht_at_self h2
    refine lv_aload_n hx hb d_M_set_148 rfl (lv_at hl 0 rfl) ?_
    refine ht_get (C := R_M) (T := F_M) (N := 22) (v := .ref (M 2)) hx hb htb i_M hown HW hO rfl 1 (by decide) (htb _ wd_312) (fun _ h9 => h9) rfl d_M_set_149 ?_
    refine lv_iconst (v := 4) hx hb d_M_set_152 (by decide) ?_
    refine lv_iload hx hb d_M_set_153 (lv_at hl 5 rfl) ?_
    refine lv_imul hx hb d_M_set_155 ?_
    refine lv_iconst (v := 1) hx hb d_M_set_156 (by decide) ?_
    refine lv_iadd hx hb d_M_set_157 ?_
    refine lv_topi (fun i1 ei1 => ?_)
    have hi1 : i1 = nI (4 * pp + 1) := by rw [ei1, epv, show (4 : Int32) = nI 4 from rfl, pk_mul]; exact nI_add (4 * pp) 1
    refine lv_lload_n hx hb d_M_set_158 rfl (lv_at hl 2 rfl) ?_
    refine ht_last hx hb HW h2 (by rw [hi1]; exact vp_in_nI (by omega) (by omega)) d_M_set_159 (fun H locs HW => ?_)
    rw [hi1, nI_clamp (by omega)] at HW
    obtain ⟨u2, hu2⟩ : ∃ zW : ht_W, zW = ht_up u1 (M 2) (ht_al g 2048 (vp_updL (vp_updL (Lu 2) (4 * pp) v1) (4 * pp + 1) v2)) := ⟨_, rfl⟩
    have HW : ht_I g s u2 H locs := by rw [hu2]; exact HW
    have hO : ht_at u2 (M 0) (.inr (4, [.ref (M 1), .ref (M 2), .int (nu 0), .ref (M 3), .ref (M 4), .ref (M 5), .ref (M 6), .int (nu 1), .ref (M 7), .int (nu 2), .ref (M 8), .int (nu 3), .int (nu 4), .ref (M 9), .ref (M 10), .ref (M 11), .ref (M 12), .ref (M 13), .ref (M 14), .ref (M 15), .ref (M 16), .ref (M 17)]) : va_E) := by rw [hu2]; exact ht_at_ne hO n_M_0_M_2
    have h2 : ht_at u2 (M 2) (ht_al g 2048 (vp_updL (vp_updL (Lu 2) (4 * pp) v1) (4 * pp + 1) v2)) := by rw [hu2]; exact ht_at_self h2
    refine lv_aload_n hx hb d_M_set_160 rfl (lv_at hl 0 rfl) ?_
    refine ht_get (C := R_M) (T := F_M) (N := 22) (v := .ref (M 2)) hx hb htb i_M hown HW hO rfl 1 (by decide) (htb _ wd_312) (fun _ h9 => h9) rfl d_M_set_161 ?_
    refine lv_iconst (v := 4) hx hb d_M_set_164 (by decide) ?_
    refine lv_iload hx hb d_M_set_165 (lv_at hl 5 rfl) ?_
    refine lv_imul hx hb d_M_set_167 ?_
    refine lv_iconst (v := 2) hx hb d_M_set_168 (by decide) ?_
    refine lv_iadd hx hb d_M_set_169 ?_
    refine lv_topi (fun i2 ei2 => ?_)
    have hi2 : i2 = nI (4 * pp + 2) := by rw [ei2, epv, show (4 : Int32) = nI 4 from rfl, pk_mul]; exact nI_add (4 * pp) 2
    refine lv_lload hx hb d_M_set_170 (lv_at hl 3 rfl) ?_
    refine ht_last hx hb HW h2 (by rw [hi2]; exact vp_in_nI (by omega) (by omega)) d_M_set_172 (fun H locs HW => ?_)
    rw [hi2, nI_clamp (by omega)] at HW
    obtain ⟨u3, hu3⟩ : ∃ zW : ht_W, zW = ht_up u2 (M 2) (ht_al g 2048 (vp_updL (vp_updL (vp_updL (Lu 2) (4 * pp) v1) (4 * pp + 1) v2) (4 * pp + 2) v3)) := ⟨_, rfl⟩
    have HW : ht_I g s u3 H locs := by rw [hu3]; exact HW
    have hO : ht_at u3 (M 0) (.inr (4, [.ref (M 1), .ref (M 2), .int (nu 0), .ref (M 3), .ref (M 4), .ref (M 5), .ref (M 6), .int (nu 1), .ref (M 7), .int (nu 2), .ref (M 8), .int (nu 3), .int (nu 4), .ref (M 9), .ref (M 10), .ref (M 11), .ref (M 12), .ref (M 13), .ref (M 14), .ref (M 15), .ref (M 16), .ref (M 17)]) : va_E) := by rw [hu3]; exact ht_at_ne hO n_M_0_M_2
    have h2 : ht_at u3 (M 2) (ht_al g 2048 (vp_updL (vp_updL (vp_updL (Lu 2) (4 * pp) v1) (4 * pp + 1) v2) (4 * pp + 2) v3)) := by rw [hu3]; exact ht_at_self h2
    refine lv_aload_n hx hb d_M_set_173 rfl (lv_at hl 0 rfl) ?_
    refine ht_get (C := R_M) (T := F_M) (N := 22) (v := .ref (M 2)) hx hb htb i_M hown HW hO rfl 1 (by decide) (htb _ wd_312) (fun _ h9 => h9) rfl d_M_set_174 ?_
    refine lv_iconst (v := 4) hx hb d_M_set_177 (by decide) ?_
    refine lv_iload hx hb d_M_set_178 (lv_at hl 5 rfl) ?_
    refine lv_imul hx hb d_M_set_180 ?_
    refine lv_iconst (v := 3) hx hb d_M_set_181 (by decide) ?_
    refine lv_iadd hx hb d_M_set_182 ?_
    refine lv_topi (fun i3 ei3 => ?_)
    have hi3 : i3 = nI (4 * pp + 3) := by rw [ei3, epv, show (4 : Int32) = nI 4 from rfl, pk_mul]; exact nI_add (4 * pp) 3
    refine lv_lload hx hb d_M_set_183 (lv_at hl 4 rfl) ?_
    refine ht_last hx hb HW h2 (by rw [hi3]; exact vp_in_nI (by omega) (by omega)) d_M_set_185 (fun H locs HW => ?_)
    rw [hi3, nI_clamp (by omega)] at HW
    obtain ⟨u4, hu4⟩ : ∃ zW : ht_W, zW = ht_up u3 (M 2) (ht_al g 2048 (vp_updL (vp_updL (vp_updL (vp_updL (Lu 2) (4 * pp) v1) (4 * pp + 1) v2) (4 * pp + 2) v3) (4 * pp + 3) v4)) := ⟨_, rfl⟩
    have HW : ht_I g s u4 H locs := by rw [hu4]; exact HW
    have hO : ht_at u4 (M 0) (.inr (4, [.ref (M 1), .ref (M 2), .int (nu 0), .ref (M 3), .ref (M 4), .ref (M 5), .ref (M 6), .int (nu 1), .ref (M 7), .int (nu 2), .ref (M 8), .int (nu 3), .int (nu 4), .ref (M 9), .ref (M 10), .ref (M 11), .ref (M 12), .ref (M 13), .ref (M 14), .ref (M 15), .ref (M 16), .ref (M 17)]) : va_E) := by rw [hu4]; exact ht_at_ne hO n_M_0_M_2
    have h2 : ht_at u4 (M 2) (ht_al g 2048 (vp_updL (vp_updL (vp_updL (vp_updL (Lu 2) (4 * pp) v1) (4 * pp + 1) v2) (4 * pp + 2) v3) (4 * pp + 3) v4)) := by rw [hu4]; exact ht_at_self h2
    refine lv_aload_n hx hb d_M_set_186 rfl (lv_at hl 0 rfl) ?_
    refine lv_iconst (v := 0) hx hb d_M_set_187 (by decide) ?_
    refine ht_put (C := R_M) (T := F_M) (N := 22) (v := .int 0) (ty := .boolean) hx hb htb i_M t_M t_M_ok n_M hown HW hO rfl 9 (by decide) (htb _ wd_320) (fun _ h9 => h9) rfl (by decide +kernel) rfl rfl (Nat.le_of_ble_eq_true rfl) d_M_set_188 (fun H locs HW => ?_)
    have n_M_2_M_0 : (M 2) ≠ (M 0) := (Ne.symm n_M_0_M_2)
    obtain ⟨u5, hu5⟩ : ∃ zW : ht_W, zW = ht_up u4 (M 0) (.inr (4, [.ref (M 1), .ref (M 2), .int (nu 0), .ref (M 3), .ref (M 4), .ref (M 5), .ref (M 6), .int (nu 1), .ref (M 7), .int 0, .ref (M 8), .int (nu 3), .int (nu 4), .ref (M 9), .ref (M 10), .ref (M 11), .ref (M 12), .ref (M 13), .ref (M 14), .ref (M 15), .ref (M 16), .ref (M 17)]) : va_E) := ⟨_, rfl⟩
    have HW : ht_I g s u5 H locs := by rw [hu5]; exact HW
    have hO : ht_at u5 (M 0) (.inr (4, [.ref (M 1), .ref (M 2), .int (nu 0), .ref (M 3), .ref (M 4), .ref (M 5), .ref (M 6), .int (nu 1), .ref (M 7), .int 0, .ref (M 8), .int (nu 3), .int (nu 4), .ref (M 9), .ref (M 10), .ref (M 11), .ref (M 12), .ref (M 13), .ref (M 14), .ref (M 15), .ref (M 16), .ref (M 17)]) : va_E) := by rw [hu5]; exact ht_at_self hO
    have h2 : ht_at u5 (M 2) (ht_al g 2048 (vp_updL (vp_updL (vp_updL (vp_updL (Lu 2) (4 * pp) v1) (4 * pp + 1) v2) (4 * pp + 2) v3) (4 * pp + 3) v4)) := by rw [hu5]; exact ht_at_ne h2 n_M_2_M_0
    refine lv_iload hx hb d_M_set_191 (lv_at hl 6 rfl) ?_
    rcases hend with ⟨eav, hend⟩ | ⟨eav, hend⟩
    · rw [eav]
      refine lv_if_eq (tgt := 200) hx hb d_M_set_193 (by decide) (fun c193 => ?_) (fun c193 => ?_)
      · exact absurd c193 (by decide)
      · refine lv_iconst (v := 0) hx hb d_M_set_196 (by decide) ?_
        refine lv_goto (tgt := 201) hx hb d_M_set_197 (by decide) ?_
        have hMz : ht_Mo g u5 M (va_up nu 2 0) (va_up Lu 2 (vp_updL (vp_updL (vp_updL (vp_updL (Lu 2) (4 * pp) v1) (4 * pp + 1) v2) (4 * pp + 2) v3) (4 * pp + 3) v4)) If := by
          rw [hu5, hu4, hu3, hu2, hu1]
          simp only [ht_up_up]
          exact (hMu.upL 2 (by decide) rfl _).up0 (va_up nu 2 0)
        have hfz : ht_fm M w u5 := by
          rw [hu5, hu4, hu3, hu2, hu1]
          simp only [ht_up_up]
          exact (hfm.up 2 (by decide)).up 0 (by decide)
        have hRz : ht_RL (va_up nu 2 0) (va_up Lu 2 (vp_updL (vp_updL (vp_updL (vp_updL (Lu 2) (4 * pp) v1) (4 * pp + 1) v2) (4 * pp + 2) v3) (4 * pp + 3) v4)) R2 := ⟨h2512, by rw [va_up_ne _ _ (by decide)]; exact hnu0, fun x e9 he => by
          rw [va_up_ne _ _ (by decide), va_up_self]
          by_cases ex : x = pp
          · have e8 : e9 = (k, (v1, v2, v3, v4)) := by
              rw [ex, hat] at he
              exact (Option.some.inj he).symm
            rw [ex, e8]
            exact ⟨hkrow pp _ hat, ht_4st⟩
          · have h8 := hvrow x e9 ex he
            exact ⟨hkrow x e9 he, fun j hj => by rw [ht_4so (by omega)]; exact h8 j hj⟩⟩
        exact ht_iret hx hb hr hlocks HW ⟨va_up nu 2 0, va_up Lu 2 (vp_updL (vp_updL (vp_updL (vp_updL (Lu 2) (4 * pp) v1) (4 * pp + 1) v2) (4 * pp + 2) v3) (4 * pp + 3) v4), R2, ⟨hMz, hRz, hs2, by rw [va_up_ne _ _ (by decide), hsL 3 (by decide)]; exact hK, hKp.cg (by rw [va_up_ne _ _ (by decide)]; exact hsL 13 (by decide)) (by rw [va_up_ne _ _ (by decide)]; exact hsL 14 (by decide)) rfl, Or.inl (va_up_self _ _ _)⟩, hfz, ⟨by rw [va_up_ne _ _ (by decide)]; exact hnu3, by rw [va_up_ne _ _ (by decide)]; exact hnu4, by rw [va_up_ne _ _ (by decide)]; exact hsL 8 (by decide), by rw [va_up_ne _ _ (by decide)]; exact hsL 9 (by decide)⟩, Or.inl ⟨rfl, hend⟩⟩ d_M_set_201
    · rw [eav]
      refine lv_if_eq (tgt := 200) hx hb d_M_set_193 (by decide) (fun c193 => ?_) (fun c193 => ?_)
      · refine lv_iconst (v := 1) hx hb d_M_set_200 (by decide) ?_
        have hMz : ht_Mo g u5 M (va_up nu 2 0) (va_up Lu 2 (vp_updL (vp_updL (vp_updL (vp_updL (Lu 2) (4 * pp) v1) (4 * pp + 1) v2) (4 * pp + 2) v3) (4 * pp + 3) v4)) If := by
          rw [hu5, hu4, hu3, hu2, hu1]
          simp only [ht_up_up]
          exact (hMu.upL 2 (by decide) rfl _).up0 (va_up nu 2 0)
        have hfz : ht_fm M w u5 := by
          rw [hu5, hu4, hu3, hu2, hu1]
          simp only [ht_up_up]
          exact (hfm.up 2 (by decide)).up 0 (by decide)
        have hRz : ht_RL (va_up nu 2 0) (va_up Lu 2 (vp_updL (vp_updL (vp_updL (vp_updL (Lu 2) (4 * pp) v1) (4 * pp + 1) v2) (4 * pp + 2) v3) (4 * pp + 3) v4)) R2 := ⟨h2512, by rw [va_up_ne _ _ (by decide)]; exact hnu0, fun x e9 he => by
          rw [va_up_ne _ _ (by decide), va_up_self]
          by_cases ex : x = pp
          · have e8 : e9 = (k, (v1, v2, v3, v4)) := by
              rw [ex, hat] at he
              exact (Option.some.inj he).symm
            rw [ex, e8]
            exact ⟨hkrow pp _ hat, ht_4st⟩
          · have h8 := hvrow x e9 ex he
            exact ⟨hkrow x e9 he, fun j hj => by rw [ht_4so (by omega)]; exact h8 j hj⟩⟩
        exact ht_iret hx hb hr hlocks HW ⟨va_up nu 2 0, va_up Lu 2 (vp_updL (vp_updL (vp_updL (vp_updL (Lu 2) (4 * pp) v1) (4 * pp + 1) v2) (4 * pp + 2) v3) (4 * pp + 3) v4), R2, ⟨hMz, hRz, hs2, by rw [va_up_ne _ _ (by decide), hsL 3 (by decide)]; exact hK, hKp.cg (by rw [va_up_ne _ _ (by decide)]; exact hsL 13 (by decide)) (by rw [va_up_ne _ _ (by decide)]; exact hsL 14 (by decide)) rfl, Or.inl (va_up_self _ _ _)⟩, hfz, ⟨by rw [va_up_ne _ _ (by decide)]; exact hnu3, by rw [va_up_ne _ _ (by decide)]; exact hnu4, by rw [va_up_ne _ _ (by decide)]; exact hsL 8 (by decide), by rw [va_up_ne _ _ (by decide)]; exact hsL 9 (by decide)⟩, Or.inr ⟨rfl, hend⟩⟩ d_M_set_201
      · exact absurd rfl c193
  have fin : ∀ (pv : Int32) (pp : Nat), pv = nI pp → ∀ (av : Int32) (R2 : ht_L), R2.length ≤ 512 → ht_srt R2 → R2[pp]? = some (k, (v1, v2, v3, v4)) → ((av = 1 ∧ (∃ v0, (k, v0) ∈ R) ∧ R2 = ht_sv R k (v1, v2, v3, v4)) ∨ (av = 0 ∧ (∀ q ∈ R, q.1 ≠ k) ∧ R2.Perm ((k, (v1, v2, v3, v4)) :: R))) → ∀ (nu : Nat → Int32), nu 0 = nI R2.length → nu 3 = n 3 → nu 4 = n 4 → ∀ (r q : Nat), q + r = 4 → ∀ (u : ht_W) (Lu : ht_LF), ht_Mo g u M nu Lu If → ht_fm M w u → ht_same [1, 2] Lf Lu → (∀ x e9, x ≠ pp → R2[x]? = some e9 → ht_row (Lu 1) (4 * x) e9.1 ∧ ht_row (Lu 2) (4 * x) e9.2) → (∀ x, x < q → Lu 1 (4 * pp + x) = ht_kf k x) → ∀ (H : Heap) (locs : List Loc) (ls : Array Slot) (kv : Int32), kv = nI q → ht_I g s u H locs → lv_has ls 12 [(0, .ref (M 0)), (1, .long v1), (3, .long v2), (5, .long v3), (7, .long v4), (9, .int pv), (10, .int av), (11, .int kv)] → W p l e (headSpec ws_M_set ({ frames := 2, cells := 0, slots := 0, locals := 60 } : Room)).room s m ([.ref (M 0), .long v1, .long v2, .long v3, .long v4] : List Value).toArray below meth c H locs 0 0 (MQ below (ht_Qi g (fun r u => ∃ (n2 : Nat → Int32) (Lf2 : ht_LF) (R2 : ht_L), ht_MR g u M n2 Lf2 If R2 k ∧ ht_fm M w u ∧ ht_pq n n2 Lf Lf2 ∧ ((r = 0 ∧ (∃ v0, (k, v0) ∈ R) ∧ R2 = ht_sv R k (v1, v2, v3, v4)) ∨ (r = 1 ∧ (∀ q ∈ R, q.1 ≠ k) ∧ R2.Perm ((k, (v1, v2, v3, v4)) :: R))))) ([.ref (M 0), .long v1, .long v2, .long v3, .long v4] : List Value).toArray s 0 0 (ht_A g)) (F0 m 107 ls []) := by
    intro pv pp epv av R2 h2512 hs2 hat hend nu hnu0 hnu3 hnu4 r
    induction r with
    | zero =>
      intro q hq u Lu hMu hfm hsL hrows hkq H locs ls kv ekv HW hl
      have hpp := ht_gn hat
      have hO : ht_at u (M 0) (.inr (4, [.ref (M 1), .ref (M 2), .int (nu 0), .ref (M 3), .ref (M 4), .ref (M 5), .ref (M 6), .int (nu 1), .ref (M 7), .int (nu 2), .ref (M 8), .int (nu 3), .int (nu 4), .ref (M 9), .ref (M 10), .ref (M 11), .ref (M 12), .ref (M 13), .ref (M 14), .ref (M 15), .ref (M 16), .ref (M 17)]) : va_E) := hMu.1
      have h1 : ht_at u (M 1) (ht_al g 2048 (Lu 1)) := hMu.L 1 (by decide) rfl
      have h2 : ht_at u (M 2) (ht_al g 2048 (Lu 2)) := hMu.L 2 (by decide) rfl
      have h3 : ht_at u (M 3) (ht_al g 4 (Lu 3)) := hMu.L 3 (by decide) rfl
      refine lv_iload hx hb d_M_set_107 (lv_at hl 7 rfl) ?_
      refine lv_iconst (v := 4) hx hb d_M_set_109 (by decide) ?_
      refine lv_icmp_ge (tgt := 138) hx hb d_M_set_110 (by decide) (fun c110 => ?_) (fun c110 => ?_)
      · refine lst pv pp epv av R2 h2512 hs2 hat hend nu hnu0 hnu3 hnu4 u Lu hMu hfm hsL (fun x e9 he => ?_) (fun x e9 ex he => (hrows x e9 ex he).2) _ _ _ HW (lv_sub hl [0, 1, 2, 3, 4, 5, 6] rfl)
        by_cases ex : x = pp
        · have e8 : e9 = (k, (v1, v2, v3, v4)) := by
            rw [ex, hat] at he
            exact (Option.some.inj he).symm
          rw [ex, e8]
          exact fun j hj => hkq j (by omega)
        · exact (hrows x e9 ex he).1
      · exact absurd (nI_le (show 4 ≤ q by omega) (by omega)) (by rw [ekv] at c110; exact c110)
    | succ r ih =>
      intro q hq u Lu hMu hfm hsL hrows hkq H locs ls kv ekv HW hl
      have hpp := ht_gn hat
      have hO : ht_at u (M 0) (.inr (4, [.ref (M 1), .ref (M 2), .int (nu 0), .ref (M 3), .ref (M 4), .ref (M 5), .ref (M 6), .int (nu 1), .ref (M 7), .int (nu 2), .ref (M 8), .int (nu 3), .int (nu 4), .ref (M 9), .ref (M 10), .ref (M 11), .ref (M 12), .ref (M 13), .ref (M 14), .ref (M 15), .ref (M 16), .ref (M 17)]) : va_E) := hMu.1
      have h1 : ht_at u (M 1) (ht_al g 2048 (Lu 1)) := hMu.L 1 (by decide) rfl
      have h2 : ht_at u (M 2) (ht_al g 2048 (Lu 2)) := hMu.L 2 (by decide) rfl
      have h3 : ht_at u (M 3) (ht_al g 4 (Lu 3)) := hMu.L 3 (by decide) rfl
      refine lv_iload hx hb d_M_set_107 (lv_at hl 7 rfl) ?_
      refine lv_iconst (v := 4) hx hb d_M_set_109 (by decide) ?_
      refine lv_icmp_ge (tgt := 138) hx hb d_M_set_110 (by decide) (fun c110 => ?_) (fun c110 => ?_)
      · exact absurd (show nI 4 ≤ nI q by rw [ekv] at c110; exact c110) (nI_ge (by omega) (by omega))
      · refine lv_aload_n hx hb d_M_set_113 rfl (lv_at hl 0 rfl) ?_
        refine ht_get (C := R_M) (T := F_M) (N := 22) (v := .ref (M 1)) hx hb htb i_M hown HW hO rfl 0 (by decide) (htb _ wd_311) (fun _ h9 => h9) rfl d_M_set_114 ?_
        refine lv_iconst (v := 4) hx hb d_M_set_117 (by decide) ?_
        refine lv_iload hx hb d_M_set_118 (lv_at hl 5 rfl) ?_
        refine lv_imul hx hb d_M_set_120 ?_
        refine lv_iload hx hb d_M_set_121 (lv_at hl 7 rfl) ?_
        refine lv_iadd hx hb d_M_set_123 ?_
        refine lv_topi (fun ix eix => ?_)
        have hix : ix = nI (4 * pp + q) := by rw [eix, epv, ekv, show (4 : Int32) = nI 4 from rfl, pk_mul, nI_add]
        refine lv_aload_n hx hb d_M_set_124 rfl (lv_at hl 0 rfl) ?_
        refine ht_get (C := R_M) (T := F_M) (N := 22) (v := .ref (M 3)) hx hb htb i_M hown HW hO rfl 3 (by decide) (htb _ wd_314) (fun _ h9 => h9) rfl d_M_set_125 ?_
        refine lv_iload hx hb d_M_set_128 (lv_at hl 7 rfl) ?_
        refine ht_lald hx hb HW h3 (by rw [ekv]; exact vp_in_nI (by omega) (by omega)) d_M_set_130 ?_
        refine lv_topl (fun kq ekq => ?_)
        have ekq : kq = (Lu 3) q := by rw [ekq, ekv, nI_clamp (by omega)]
        have ekq : kq = ht_kf k q := by rw [ekq, hsL 3 (by decide), ← hK q (by omega), Nat.zero_add]
        refine ht_last hx hb HW h1 (by rw [hix]; exact vp_in_nI (by omega) (by omega)) d_M_set_131 (fun H locs HW => ?_)
        rw [hix, nI_clamp (by omega)] at HW
        have n_M_0_M_1 : (M 0) ≠ (M 1) := (hMu.ne 0 1 (by decide) (by decide) (by decide))
        have n_M_2_M_1 : (M 2) ≠ (M 1) := (hMu.ne 2 1 (by decide) (by decide) (by decide))
        have n_M_3_M_1 : (M 3) ≠ (M 1) := (hMu.ne 3 1 (by decide) (by decide) (by decide))
        obtain ⟨u1, hu1⟩ : ∃ zW : ht_W, zW = ht_up u (M 1) (ht_al g 2048 (vp_updL (Lu 1) (4 * pp + q) kq)) := ⟨_, rfl⟩
        have HW : ht_I g s u1 H locs := by rw [hu1]; exact HW
        have hO : ht_at u1 (M 0) (.inr (4, [.ref (M 1), .ref (M 2), .int (nu 0), .ref (M 3), .ref (M 4), .ref (M 5), .ref (M 6), .int (nu 1), .ref (M 7), .int (nu 2), .ref (M 8), .int (nu 3), .int (nu 4), .ref (M 9), .ref (M 10), .ref (M 11), .ref (M 12), .ref (M 13), .ref (M 14), .ref (M 15), .ref (M 16), .ref (M 17)]) : va_E) := by rw [hu1]; exact ht_at_ne hO n_M_0_M_1
        have h1 : ht_at u1 (M 1) (ht_al g 2048 (vp_updL (Lu 1) (4 * pp + q) kq)) := by rw [hu1]; exact ht_at_self h1
        have h2 : ht_at u1 (M 2) (ht_al g 2048 (Lu 2)) := by rw [hu1]; exact ht_at_ne h2 n_M_2_M_1
        have h3 : ht_at u1 (M 3) (ht_al g 4 (Lu 3)) := by rw [hu1]; exact ht_at_ne h3 n_M_3_M_1
        obtain ⟨kv2, ekv2⟩ : ∃ zI : Int32, zI = kv + 1 := ⟨_, rfl⟩
        refine lv_iinc (v := kv2) (lv' := [(11, .int kv2), (0, .ref (M 0)), (1, .long v1), (3, .long v2), (5, .long v3), (7, .long v4), (9, .int pv), (10, .int av)]) hx hb d_M_set_132 hl (k := 7) rfl (by rw [ekv2]; rfl) (by decide) rfl (fun ls hl => ?_)
        refine lv_goto (tgt := 107) hx hb d_M_set_135 (by decide) ?_
        refine ih (q + 1) (by omega) u1 _ (by rw [hu1]; exact hMu.upL 1 (by decide) rfl _) (by rw [hu1]; exact hfm.up 1 (by decide)) (hsL.up (by decide)) (fun x e9 ex he => ?_) (fun x hx9 => ?_) _ _ _ kv2 (by rw [ekv2, ekv, nI_1]) HW (lv_sub hl [1, 2, 3, 4, 5, 6, 7, 0] rfl)
        · rw [va_up_self, va_up_ne _ _ (by decide)]
          have h8 := hrows x e9 ex he
          exact ⟨fun j hj => by rw [pk_uLn (by omega)]; exact h8.1 j hj, h8.2⟩
        · rw [va_up_self]
          by_cases e : x = q
          · rw [e, pk_uLs]; exact ekq
          · rw [pk_uLn (by omega)]; exact hkq x (by omega)
  have shift : ∀ (pv : Int32) (pp : Nat), pv = nI pp → pp ≤ R.length → (∀ j q, j < pp → R[j]? = some q → ht_klt q.1 k) → (∀ q, R[pp]? = some q → ¬ ht_klt q.1 k) → (∀ q ∈ R, q.1 ≠ k) → ∀ (r : Nat), 4 * pp + r ≤ 4 * R.length → ∀ (u : ht_W) (Lu : ht_LF), ht_Mo g u M n Lu If → ht_fm M w u → ht_same [1, 2] Lf Lu → (∀ a, a = 1 ∨ a = 2 → (∀ x, x < 4 * pp + r + 4 → Lu a x = Lf a x) ∧ (∀ y, 4 * pp + r ≤ y → y < 4 * R.length → Lu a (y + 4) = Lf a y)) → ∀ (H : Heap) (locs : List Loc) (ls : Array Slot) (kv : Int32), kv + 1 = nI (4 * pp + r) → ht_I g s u H locs → lv_has ls 12 [(0, .ref (M 0)), (1, .long v1), (3, .long v2), (5, .long v3), (7, .long v4), (9, .int pv), (10, .int 0), (11, .int kv)] → W p l e (headSpec ws_M_set ({ frames := 2, cells := 0, slots := 0, locals := 60 } : Room)).room s m ([.ref (M 0), .long v1, .long v2, .long v3, .long v4] : List Value).toArray below meth c H locs 0 0 (MQ below (ht_Qi g (fun r u => ∃ (n2 : Nat → Int32) (Lf2 : ht_LF) (R2 : ht_L), ht_MR g u M n2 Lf2 If R2 k ∧ ht_fm M w u ∧ ht_pq n n2 Lf Lf2 ∧ ((r = 0 ∧ (∃ v0, (k, v0) ∈ R) ∧ R2 = ht_sv R k (v1, v2, v3, v4)) ∨ (r = 1 ∧ (∀ q ∈ R, q.1 ≠ k) ∧ R2.Perm ((k, (v1, v2, v3, v4)) :: R))))) ([.ref (M 0), .long v1, .long v2, .long v3, .long v4] : List Value).toArray s 0 0 (ht_A g)) (F0 m 47 ls []) := by
    intro pv pp epv hpR hpl1 hpl2 hno r
    induction r with
    | zero =>
      intro hr9 u Lu hMu hfm hsL hsh H locs ls kv ekv HW hl
      have hO : ht_at u (M 0) (.inr (4, [.ref (M 1), .ref (M 2), .int (n 0), .ref (M 3), .ref (M 4), .ref (M 5), .ref (M 6), .int (n 1), .ref (M 7), .int (n 2), .ref (M 8), .int (n 3), .int (n 4), .ref (M 9), .ref (M 10), .ref (M 11), .ref (M 12), .ref (M 13), .ref (M 14), .ref (M 15), .ref (M 16), .ref (M 17)]) : va_E) := hMu.1
      have h1 : ht_at u (M 1) (ht_al g 2048 (Lu 1)) := hMu.L 1 (by decide) rfl
      have h2 : ht_at u (M 2) (ht_al g 2048 (Lu 2)) := hMu.L 2 (by decide) rfl
      refine lv_iload hx hb d_M_set_47 (lv_at hl 7 rfl) ?_
      refine lv_iconst (v := 4) hx hb d_M_set_49 (by decide) ?_
      refine lv_iload hx hb d_M_set_50 (lv_at hl 5 rfl) ?_
      refine lv_imul hx hb d_M_set_52 ?_
      refine lv_topi (fun pb epb => ?_)
      have hpb : pb = nI (4 * pp) := by rw [epb, epv, show (4 : Int32) = nI 4 from rfl, pk_mul]
      refine lv_icmp_lt (tgt := 94) hx hb d_M_set_53 (by decide) (fun c53 => ?_) (fun c53 => ?_)
      · refine lv_aload_n hx hb d_M_set_94 rfl (lv_at hl 0 rfl) ?_
        refine lv_dup hx hb d_M_set_95 rfl ?_
        refine ht_get (C := R_M) (T := F_M) (N := 22) (v := .int (n 0)) hx hb htb i_M hown HW hO rfl 2 (by decide) (htb _ wd_313) (fun _ h9 => h9) rfl d_M_set_96 ?_
        refine lv_iconst (v := 1) hx hb d_M_set_99 (by decide) ?_
        refine lv_iadd hx hb d_M_set_100 ?_
        refine ht_put (C := R_M) (T := F_M) (N := 22) (v := .int ((n 0) + (1 : Int32))) (ty := .int) hx hb htb i_M t_M t_M_ok n_M hown HW hO rfl 2 (by decide) (htb _ wd_313) (fun _ h9 => h9) rfl (by decide +kernel) rfl rfl (Nat.le_of_ble_eq_true rfl) d_M_set_101 (fun H locs HW => ?_)
        have n_M_1_M_0 : (M 1) ≠ (M 0) := (hMu.ne 1 0 (by decide) (by decide) (by decide))
        have n_M_2_M_0 : (M 2) ≠ (M 0) := (hMu.ne 2 0 (by decide) (by decide) (by decide))
        obtain ⟨u1, hu1⟩ : ∃ zW : ht_W, zW = ht_up u (M 0) (.inr (4, [.ref (M 1), .ref (M 2), .int ((n 0) + (1 : Int32)), .ref (M 3), .ref (M 4), .ref (M 5), .ref (M 6), .int (n 1), .ref (M 7), .int (n 2), .ref (M 8), .int (n 3), .int (n 4), .ref (M 9), .ref (M 10), .ref (M 11), .ref (M 12), .ref (M 13), .ref (M 14), .ref (M 15), .ref (M 16), .ref (M 17)]) : va_E) := ⟨_, rfl⟩
        have HW : ht_I g s u1 H locs := by rw [hu1]; exact HW
        have hO : ht_at u1 (M 0) (.inr (4, [.ref (M 1), .ref (M 2), .int ((n 0) + (1 : Int32)), .ref (M 3), .ref (M 4), .ref (M 5), .ref (M 6), .int (n 1), .ref (M 7), .int (n 2), .ref (M 8), .int (n 3), .int (n 4), .ref (M 9), .ref (M 10), .ref (M 11), .ref (M 12), .ref (M 13), .ref (M 14), .ref (M 15), .ref (M 16), .ref (M 17)]) : va_E) := by rw [hu1]; exact ht_at_self hO
        have h1 : ht_at u1 (M 1) (ht_al g 2048 (Lu 1)) := by rw [hu1]; exact ht_at_ne h1 n_M_1_M_0
        have h2 : ht_at u1 (M 2) (ht_al g 2048 (Lu 2)) := by rw [hu1]; exact ht_at_ne h2 n_M_2_M_0
        refine lv_iconst (v := 0) hx hb d_M_set_104 (by decide) ?_
        refine lv_istore (lv' := [(11, .int 0), (0, .ref (M 0)), (1, .long v1), (3, .long v2), (5, .long v3), (7, .long v4), (9, .int pv), (10, .int 0)]) hx hb d_M_set_105 hl (by decide) rfl (fun ls hl => ?_)
        have hl1 : (ht_ins R pp (k, (v1, v2, v3, v4))).length = R.length + 1 := ht_ins_len hpR
        refine fin pv pp epv 0 (ht_ins R pp (k, (v1, v2, v3, v4))) (by omega) (ht_ins_srt hsrt hpl1 hpl2 hno) (ht_ins_at hpR) (Or.inr ⟨rfl, hno, ht_ins_perm⟩) (va_up n 0 (n 0 + 1)) (by rw [va_up_self, hRL.2.1, nI_1, hl1]) (va_up_ne _ _ (by decide)) (va_up_ne _ _ (by decide)) 4 0 rfl u1 Lu (by rw [hu1]; exact hMu.up0 (va_up n 0 (n 0 + 1))) (by rw [hu1]; exact hfm.up 0 (by decide)) hsL (fun x e9 ex he => ?_) (fun x hx9 => absurd hx9 (Nat.not_lt_zero x)) _ _ _ 0 rfl HW (lv_sub hl [1, 2, 3, 4, 5, 6, 7, 0] rfl)
        exact ⟨ht_ins_row (pr := fun q9 => q9.1) hpR (fun y e8 h8 => (hRL.2.2 y e8 h8).1) (hsh 1 (Or.inl rfl)).1 (hsh 1 (Or.inl rfl)).2 ex he, ht_ins_row (pr := fun q9 => q9.2) hpR (fun y e8 h8 => (hRL.2.2 y e8 h8).2) (hsh 2 (Or.inr rfl)).1 (hsh 2 (Or.inr rfl)).2 ex he⟩
      · exact absurd (by rw [hpb]; exact ht_jlt ekv (by omega)) c53
    | succ r ih =>
      intro hr9 u Lu hMu hfm hsL hsh H locs ls kv ekv HW hl
      have hkv : kv = nI (4 * pp + r) := ht_js (n := 4 * pp + r) ekv
      have hO : ht_at u (M 0) (.inr (4, [.ref (M 1), .ref (M 2), .int (n 0), .ref (M 3), .ref (M 4), .ref (M 5), .ref (M 6), .int (n 1), .ref (M 7), .int (n 2), .ref (M 8), .int (n 3), .int (n 4), .ref (M 9), .ref (M 10), .ref (M 11), .ref (M 12), .ref (M 13), .ref (M 14), .ref (M 15), .ref (M 16), .ref (M 17)]) : va_E) := hMu.1
      have h1 : ht_at u (M 1) (ht_al g 2048 (Lu 1)) := hMu.L 1 (by decide) rfl
      have h2 : ht_at u (M 2) (ht_al g 2048 (Lu 2)) := hMu.L 2 (by decide) rfl
      refine lv_iload hx hb d_M_set_47 (lv_at hl 7 rfl) ?_
      refine lv_iconst (v := 4) hx hb d_M_set_49 (by decide) ?_
      refine lv_iload hx hb d_M_set_50 (lv_at hl 5 rfl) ?_
      refine lv_imul hx hb d_M_set_52 ?_
      refine lv_topi (fun pb epb => ?_)
      have hpb : pb = nI (4 * pp) := by rw [epb, epv, show (4 : Int32) = nI 4 from rfl, pk_mul]
      refine lv_icmp_lt (tgt := 94) hx hb d_M_set_53 (by decide) (fun c53 => ?_) (fun c53 => ?_)
      · exact absurd (show nI (4 * pp + r) < nI (4 * pp) by rw [hkv, hpb] at c53; exact c53) (nI_nlt (by omega) (by omega))
      · refine lv_aload_n hx hb d_M_set_56 rfl (lv_at hl 0 rfl) ?_
        refine ht_get (C := R_M) (T := F_M) (N := 22) (v := .ref (M 1)) hx hb htb i_M hown HW hO rfl 0 (by decide) (htb _ wd_311) (fun _ h9 => h9) rfl d_M_set_57 ?_
        refine lv_iload hx hb d_M_set_60 (lv_at hl 7 rfl) ?_
        refine lv_iconst (v := 4) hx hb d_M_set_62 (by decide) ?_
        refine lv_iadd hx hb d_M_set_63 ?_
        refine lv_topi (fun j1 ej1 => ?_)
        have hj1 : j1 = nI (4 * pp + r + 4) := by rw [ej1, hkv]; exact nI_add _ 4
        refine lv_aload_n hx hb d_M_set_64 rfl (lv_at hl 0 rfl) ?_
        refine ht_get (C := R_M) (T := F_M) (N := 22) (v := .ref (M 1)) hx hb htb i_M hown HW hO rfl 0 (by decide) (htb _ wd_311) (fun _ h9 => h9) rfl d_M_set_65 ?_
        refine lv_iload hx hb d_M_set_68 (lv_at hl 7 rfl) ?_
        refine ht_lald hx hb HW h1 (by rw [hkv]; exact vp_in_nI (by omega) (by omega)) d_M_set_70 ?_
        refine lv_topl (fun y1 ey1 => ?_)
        have ey1 : y1 = (Lu 1) (4 * pp + r) := by rw [ey1, hkv, nI_clamp (by omega)]
        refine ht_last hx hb HW h1 (by rw [hj1]; exact vp_in_nI (by omega) (by omega)) d_M_set_71 (fun H locs HW => ?_)
        rw [hj1, nI_clamp (by omega)] at HW
        have n_M_0_M_1 : (M 0) ≠ (M 1) := (hMu.ne 0 1 (by decide) (by decide) (by decide))
        have n_M_2_M_1 : (M 2) ≠ (M 1) := (hMu.ne 2 1 (by decide) (by decide) (by decide))
        obtain ⟨u1, hu1⟩ : ∃ zW : ht_W, zW = ht_up u (M 1) (ht_al g 2048 (vp_updL (Lu 1) (4 * pp + r + 4) y1)) := ⟨_, rfl⟩
        have HW : ht_I g s u1 H locs := by rw [hu1]; exact HW
        have hO : ht_at u1 (M 0) (.inr (4, [.ref (M 1), .ref (M 2), .int (n 0), .ref (M 3), .ref (M 4), .ref (M 5), .ref (M 6), .int (n 1), .ref (M 7), .int (n 2), .ref (M 8), .int (n 3), .int (n 4), .ref (M 9), .ref (M 10), .ref (M 11), .ref (M 12), .ref (M 13), .ref (M 14), .ref (M 15), .ref (M 16), .ref (M 17)]) : va_E) := by rw [hu1]; exact ht_at_ne hO n_M_0_M_1
        have h1 : ht_at u1 (M 1) (ht_al g 2048 (vp_updL (Lu 1) (4 * pp + r + 4) y1)) := by rw [hu1]; exact ht_at_self h1
        have h2 : ht_at u1 (M 2) (ht_al g 2048 (Lu 2)) := by rw [hu1]; exact ht_at_ne h2 n_M_2_M_1
        refine lv_aload_n hx hb d_M_set_72 rfl (lv_at hl 0 rfl) ?_
        refine ht_get (C := R_M) (T := F_M) (N := 22) (v := .ref (M 2)) hx hb htb i_M hown HW hO rfl 1 (by decide) (htb _ wd_312) (fun _ h9 => h9) rfl d_M_set_73 ?_
        refine lv_iload hx hb d_M_set_76 (lv_at hl 7 rfl) ?_
        refine lv_iconst (v := 4) hx hb d_M_set_78 (by decide) ?_
        refine lv_iadd hx hb d_M_set_79 ?_
        refine lv_topi (fun j2 ej2 => ?_)
        have hj2 : j2 = nI (4 * pp + r + 4) := by rw [ej2, hkv]; exact nI_add _ 4
        refine lv_aload_n hx hb d_M_set_80 rfl (lv_at hl 0 rfl) ?_
        refine ht_get (C := R_M) (T := F_M) (N := 22) (v := .ref (M 2)) hx hb htb i_M hown HW hO rfl 1 (by decide) (htb _ wd_312) (fun _ h9 => h9) rfl d_M_set_81 ?_
        refine lv_iload hx hb d_M_set_84 (lv_at hl 7 rfl) ?_
        refine ht_lald hx hb HW h2 (by rw [hkv]; exact vp_in_nI (by omega) (by omega)) d_M_set_86 ?_
        refine lv_topl (fun y2 ey2 => ?_)
        have ey2 : y2 = (Lu 2) (4 * pp + r) := by rw [ey2, hkv, nI_clamp (by omega)]
        refine ht_last hx hb HW h2 (by rw [hj2]; exact vp_in_nI (by omega) (by omega)) d_M_set_87 (fun H locs HW => ?_)
        rw [hj2, nI_clamp (by omega)] at HW
        have n_M_0_M_2 : (M 0) ≠ (M 2) := (hMu.ne 0 2 (by decide) (by decide) (by decide))
        have n_M_1_M_2 : (M 1) ≠ (M 2) := (Ne.symm n_M_2_M_1)
        obtain ⟨u2, hu2⟩ : ∃ zW : ht_W, zW = ht_up u1 (M 2) (ht_al g 2048 (vp_updL (Lu 2) (4 * pp + r + 4) y2)) := ⟨_, rfl⟩
        have HW : ht_I g s u2 H locs := by rw [hu2]; exact HW
        have hO : ht_at u2 (M 0) (.inr (4, [.ref (M 1), .ref (M 2), .int (n 0), .ref (M 3), .ref (M 4), .ref (M 5), .ref (M 6), .int (n 1), .ref (M 7), .int (n 2), .ref (M 8), .int (n 3), .int (n 4), .ref (M 9), .ref (M 10), .ref (M 11), .ref (M 12), .ref (M 13), .ref (M 14), .ref (M 15), .ref (M 16), .ref (M 17)]) : va_E) := by rw [hu2]; exact ht_at_ne hO n_M_0_M_2
        have h1 : ht_at u2 (M 1) (ht_al g 2048 (vp_updL (Lu 1) (4 * pp + r + 4) y1)) := by rw [hu2]; exact ht_at_ne h1 n_M_1_M_2
        have h2 : ht_at u2 (M 2) (ht_al g 2048 (vp_updL (Lu 2) (4 * pp + r + 4) y2)) := by rw [hu2]; exact ht_at_self h2
        obtain ⟨kv2, ekv2⟩ : ∃ zI : Int32, zI = kv + (-1) := ⟨_, rfl⟩
        refine lv_iinc (v := kv2) (lv' := [(11, .int kv2), (0, .ref (M 0)), (1, .long v1), (3, .long v2), (5, .long v3), (7, .long v4), (9, .int pv), (10, .int 0)]) hx hb d_M_set_88 hl (k := 7) rfl (by rw [ekv2]; rfl) (by decide) rfl (fun ls hl => ?_)
        refine lv_goto (tgt := 47) hx hb d_M_set_91 (by decide) ?_
        refine ih (by omega) u2 _ (by rw [hu2, hu1]; exact (hMu.upL 1 (by decide) rfl _).upL 2 (by decide) rfl _) (by rw [hu2, hu1]; exact (hfm.up 1 (by decide)).up 2 (by decide)) ((hsL.up (by decide)).up (by decide)) (fun a ha => ?_) _ _ _ kv2 (by rw [ekv2]; exact (ht_c1 kv).trans hkv) HW (lv_sub hl [1, 2, 3, 4, 5, 6, 7, 0] rfl)
        rcases ha with rfl | rfl
        · rw [va_up_ne _ _ (by decide), va_up_self]
          exact ht_shr1 (hsh 1 (Or.inl rfl)) ey1
        · rw [va_up_self]
          exact ht_shr1 (hsh 2 (Or.inr rfl)) ey2
  have hO : ht_at w (M 0) (.inr (4, [.ref (M 1), .ref (M 2), .int (n 0), .ref (M 3), .ref (M 4), .ref (M 5), .ref (M 6), .int (n 1), .ref (M 7), .int (n 2), .ref (M 8), .int (n 3), .int (n 4), .ref (M 9), .ref (M 10), .ref (M 11), .ref (M 12), .ref (M 13), .ref (M 14), .ref (M 15), .ref (M 16), .ref (M 17)]) : va_E) := hM.1
  refine lv_aload_n hx hb d_M_set_0 rfl (lv_at hl 0 rfl) ?_
  refine ht_ci HW (va_runV (own := R_M) (C := R_M) (As := []) (rest := []) ⟨hx, hb, hml, hown, htb⟩ (c_M_place l g w hM hRL hK) (cwV 0 htb (ht_gv wd_387 wd_389 sl_11 wd_3 g_M_place) rfl rfl rfl (by decide +kernel) ⟨Nat.le_of_ble_eq_true rfl, Nat.le_of_ble_eq_true rfl⟩) (HW.preV hO rfl _) rfl rfl hl.1 rfl (lv_room (Nat.le_of_ble_eq_true rfl)) d_M_set_1 ⟨Nat.le_of_ble_eq_true rfl, Nat.le_of_ble_eq_true rfl⟩) (fun pv u1 H locs pu1 HW => ?_)
  obtain ⟨hpl, eu1⟩ := pu1
  subst eu1
  obtain ⟨pp, epv, hpR, hpl1, hpl2⟩ := hpl
  refine lv_istore (lv' := [(9, .int pv), (0, .ref (M 0)), (1, .long v1), (3, .long v2), (5, .long v3), (7, .long v4)]) hx hb d_M_set_4 hl (by decide) rfl (fun ls hl => ?_)
  refine lv_aload_n hx hb d_M_set_6 rfl (lv_at hl 1 rfl) ?_
  refine lv_iload hx hb d_M_set_7 (lv_at hl 0 rfl) ?_
  refine ht_ci HW (va_runV (own := R_M) (C := R_M) (As := [.int pv]) (rest := []) ⟨hx, hb, hml, hown, htb⟩ (c_M_isAt l g w hM hRL hK pp (by omega) pv epv) (cwV 1 htb (ht_gv wd_395 wd_397 sl_12 wd_3 g_M_isAt) rfl rfl rfl (by decide +kernel) ⟨Nat.le_of_ble_eq_true rfl, Nat.le_of_ble_eq_true rfl⟩) (HW.preV hO rfl _) rfl rfl hl.1 rfl (lv_room (Nat.le_of_ble_eq_true rfl)) d_M_set_9 ⟨Nat.le_of_ble_eq_true rfl, Nat.le_of_ble_eq_true rfl⟩) (fun q3 u2 H locs pa HW => ?_)
  obtain ⟨pa, eww⟩ := pa
  subst eww
  rcases pa with ⟨er, qa, hqa, hqk⟩ | ⟨er, hna⟩
  · subst er
    refine lv_istore (lv' := [(10, .int 1), (9, .int pv), (0, .ref (M 0)), (1, .long v1), (3, .long v2), (5, .long v3), (7, .long v4)]) hx hb d_M_set_12 hl (by decide) rfl (fun ls hl => ?_)
    refine lv_iload hx hb d_M_set_14 (lv_at hl 0 rfl) ?_
    refine lv_if_ne (tgt := 32) hx hb d_M_set_16 (by decide) (fun c16 => ?_) (fun c16 => ?_)
    · refine lv_iload hx hb d_M_set_32 (lv_at hl 0 rfl) ?_
      refine lv_if_ne (tgt := 138) hx hb d_M_set_34 (by decide) (fun c34 => ?_) (fun c34 => ?_)
      · have hsv : (ht_sv R k (v1, v2, v3, v4)).length = R.length := ht_sv_len
        refine lst pv pp epv 1 (ht_sv R k (v1, v2, v3, v4)) (by omega) (hsrt.sv _ _) (ht_sv_at hqa hqk) (Or.inl ⟨rfl, ⟨qa.2, ht_mem hqa hqk⟩, rfl⟩) n (by rw [hsv]; exact hRL.2.1) rfl rfl w Lf hM ht_fm.rf ht_same.rf (fun x e9 he => ?_) (fun x e9 ex he => ?_) _ _ _ HW (lv_sub hl [2, 3, 4, 5, 6, 1, 0] rfl)
        · obtain ⟨q0, hq0, hq1, hq2⟩ := ht_sv_get he
          rw [hq1]
          exact (hRL.2.2 x q0 hq0).1
        · obtain ⟨q0, hq0, hq1, hq2⟩ := ht_sv_get he
          have hne : q0.1 ≠ k := fun z9 => by
            rcases Nat.lt_or_gt_of_ne ex with z8 | z8
            · exact (hsrt.lt hq0 hqa z8).ne (z9.trans hqk.symm)
            · exact (hsrt.lt hqa hq0 z8).ne (hqk.trans z9.symm)
          rw [hq2 hne]
          exact (hRL.2.2 x q0 hq0).2
      · exact absurd c34 (by decide)
    · exact absurd c16 (by decide)
  · subst er
    refine lv_istore (lv' := [(10, .int 0), (9, .int pv), (0, .ref (M 0)), (1, .long v1), (3, .long v2), (5, .long v3), (7, .long v4)]) hx hb d_M_set_12 hl (by decide) rfl (fun ls hl => ?_)
    refine lv_iload hx hb d_M_set_14 (lv_at hl 0 rfl) ?_
    refine lv_if_ne (tgt := 32) hx hb d_M_set_16 (by decide) (fun c16 => ?_) (fun c16 => ?_)
    · exact absurd rfl c16
    · refine lv_aload_n hx hb d_M_set_19 rfl (lv_at hl 2 rfl) ?_
      refine ht_get (C := R_M) (T := F_M) (N := 22) (v := .int (n 0)) hx hb htb i_M hown HW hO rfl 2 (by decide) (htb _ wd_313) (fun _ h9 => h9) rfl d_M_set_20 ?_
      refine lv_sipush (v := 512) hx hb d_M_set_23 (by decide) ?_
      refine lv_icmp_ne (tgt := 32) hx hb d_M_set_26 (by decide) (fun c26 => ?_) (fun c26 => ?_)
      · refine lv_iload hx hb d_M_set_32 (lv_at hl 0 rfl) ?_
        refine lv_if_ne (tgt := 138) hx hb d_M_set_34 (by decide) (fun c34 => ?_) (fun c34 => ?_)
        · exact absurd rfl c34
        · refine lv_iconst (v := 4) hx hb d_M_set_37 (by decide) ?_
          refine lv_aload_n hx hb d_M_set_38 rfl (lv_at hl 2 rfl) ?_
          refine ht_get (C := R_M) (T := F_M) (N := 22) (v := .int (n 0)) hx hb htb i_M hown HW hO rfl 2 (by decide) (htb _ wd_313) (fun _ h9 => h9) rfl d_M_set_39 ?_
          refine lv_imul hx hb d_M_set_42 ?_
          refine lv_iconst (v := 1) hx hb d_M_set_43 (by decide) ?_
          refine lv_isub hx hb d_M_set_44 ?_
          refine lv_topi (fun k0 ek0 => ?_)
          refine lv_istore (lv' := [(11, .int k0), (10, .int 0), (9, .int pv), (0, .ref (M 0)), (1, .long v1), (3, .long v2), (5, .long v3), (7, .long v4)]) hx hb d_M_set_45 hl (by decide) rfl (fun ls hl => ?_)
          have ek1 : k0 + 1 = nI (4 * R.length) := by rw [ek0, ht_c2, hRL.2.1, show (4 : Int32) = nI 4 from rfl, pk_mul]
          refine shift pv pp epv hpR hpl1 hpl2 (ht_noat hsrt hpl1 hpl2 hna) (4 * R.length - 4 * pp) (by omega) w Lf hM ht_fm.rf ht_same.rf (fun a ha => ⟨fun x _ => rfl, fun y hy1 hy2 => ?_⟩) _ _ _ k0 (by rw [ek1]; exact congrArg nI (by omega)) HW (lv_sub hl [3, 4, 5, 6, 7, 2, 1, 0] rfl)
          omega
      · exact absurd (show nI R.length = nI 512 by rw [← hRL.2.1]; exact c26) (fun z9 => absurd ((nI_eq (by omega) (by omega)).mp z9) (by omega))
theorem ht_shl1 {f f0 : Nat → Int64} {b q : Nat} {z : Int64} (hb : b ≤ q) (h : (∀ x, b ≤ x → x < q → f x = f0 (x + 4)) ∧ (∀ x, (x < b ∨ q ≤ x) → f x = f0 x)) (ez : z = f (q + 4)) : (∀ x, b ≤ x → x < q + 1 → vp_updL f q z x = f0 (x + 4)) ∧ (∀ x, (x < b ∨ q + 1 ≤ x) → vp_updL f q z x = f0 x) := by
  refine ⟨fun x hx hl => ?_, fun x hx => ?_⟩
  · by_cases e : x = q
    · rw [e, pk_uLs, ez]
      exact h.2 (q + 4) (Or.inr (by omega))
    · rw [pk_uLn e]
      exact h.1 x hx (by omega)
  · rw [pk_uLn (by omega)]
    exact h.2 x (by omega)
set_option maxHeartbeats 4000000 in
set_option maxRecDepth 100000 in
theorem c_M_remove (l : Launch) (g : ht_G) (w : ht_W) {M : Nat → Nat} {n : Nat → Int32} {Lf : ht_LF} {If : ht_IF} {R : ht_L} {k : ht_K} (hMR : ht_MR g w M n Lf If R k) : Met l y_M_remove ws_M_remove ({ frames := 2, cells := 0, slots := 0, locals := 60 } : Room) (va_Pc [.ref (M 0)] (ht_WS g w)) (ht_Qi g (fun r u => ∃ (n2 : Nat → Int32) (Lf2 : ht_LF) (R2 : ht_L), ht_MR g u M n2 Lf2 If R2 k ∧ ht_fm M w u ∧ ht_pq n n2 Lf Lf2 ∧ ((r = -2 ∧ (∀ q ∈ R, q.1 ≠ k) ∧ R2 = R) ∨ (r = 1 ∧ ∃ v0, (k, v0) ∈ R ∧ R2.Perm (R.erase (k, v0)))))) 0 0 (ht_A g) := by
  refine Met.ofW (cc := b_M_remove) (maxL := 3) (ret := (some .int)) (by decide) rfl ?_
  intro p e s m args below meth c s₁ BB hml hv
  obtain ⟨rfl, HW⟩ := hv
  have HW := ht_I.start HW
  have hx := BB.exec
  have hb := BB.bytes
  have hr := BB.returns
  have hts := atoms_spec (ws := ws_M_remove) BB.pre
  have htb : ∀ w ∈ bg, w.before _ s = true := fun w h => hts w (List.mem_cons_of_mem _ h)
  have hown : s.vm.findClass R_M = some m.cls := findClass_of_methodNamed BB.named
  have hlocks := BB.notSynchronized
  have hl := lv_entry ([.ref (M 0)]) (n := 3) (Nat.le_of_ble_eq_true rfl)
  rw [lg_entry_eq]
  generalize (lg_sl ([.ref (M 0)]) ++ List.replicate (3 - (lg_sl ([.ref (M 0)])).length) Slot.unset).toArray = ls at hl ⊢
  have hl : lv_has ls 3 [(0, .ref (M 0))] := hl
  obtain ⟨hM, hRL, hsrt, hK, hKp, hrt⟩ := id hMR
  have h512 := hRL.1
  have loop : ∀ (pv : Int32) (pp : Nat) (qa : ht_K × ht_K), pp < R.length → R[pp]? = some qa → qa.1 = k → ∀ (nu : Nat → Int32), nu 0 = nI (R.length - 1) → nu 3 = n 3 → nu 4 = n 4 → ∀ (r q : Nat), q + r = 4 * (R.length - 1) → 4 * pp ≤ q → ∀ (u : ht_W) (Lu : ht_LF), ht_Mo g u M nu Lu If → ht_fm M w u → ht_same [1, 2] Lf Lu → (∀ a, a = 1 ∨ a = 2 → (∀ x, 4 * pp ≤ x → x < q → Lu a x = Lf a (x + 4)) ∧ (∀ x, (x < 4 * pp ∨ q ≤ x) → Lu a x = Lf a x)) → ∀ (H : Heap) (locs : List Loc) (ls : Array Slot) (kv : Int32), kv = nI q → ht_I g s u H locs → lv_has ls 3 [(0, .ref (M 0)), (1, .int pv), (2, .int kv)] → W p l e (headSpec ws_M_remove ({ frames := 2, cells := 0, slots := 0, locals := 60 } : Room)).room s m ([.ref (M 0)] : List Value).toArray below meth c H locs 0 0 (MQ below (ht_Qi g (fun r u => ∃ (n2 : Nat → Int32) (Lf2 : ht_LF) (R2 : ht_L), ht_MR g u M n2 Lf2 If R2 k ∧ ht_fm M w u ∧ ht_pq n n2 Lf Lf2 ∧ ((r = -2 ∧ (∀ q ∈ R, q.1 ≠ k) ∧ R2 = R) ∨ (r = 1 ∧ ∃ v0, (k, v0) ∈ R ∧ R2.Perm (R.erase (k, v0)))))) ([.ref (M 0)] : List Value).toArray s 0 0 (ht_A g)) (F0 m 30 ls []) := by
    intro pv pp qa hpp hqa hqk nu hnu0 hnu3 hnu4 r
    induction r with
    | zero =>
      intro q hq hq1 u Lu hMu hfm hsL hsh H locs ls kv ekv HW hl
      have hO : ht_at u (M 0) (.inr (4, [.ref (M 1), .ref (M 2), .int (nu 0), .ref (M 3), .ref (M 4), .ref (M 5), .ref (M 6), .int (nu 1), .ref (M 7), .int (nu 2), .ref (M 8), .int (nu 3), .int (nu 4), .ref (M 9), .ref (M 10), .ref (M 11), .ref (M 12), .ref (M 13), .ref (M 14), .ref (M 15), .ref (M 16), .ref (M 17)]) : va_E) := hMu.1
      have h1 : ht_at u (M 1) (ht_al g 2048 (Lu 1)) := hMu.L 1 (by decide) rfl
      have h2 : ht_at u (M 2) (ht_al g 2048 (Lu 2)) := hMu.L 2 (by decide) rfl
      refine lv_iload_n hx hb d_M_remove_30 rfl (lv_at hl 2 rfl) ?_
      refine lv_iconst (v := 4) hx hb d_M_remove_31 (by decide) ?_
      refine lv_aload_n hx hb d_M_remove_32 rfl (lv_at hl 0 rfl) ?_
      refine ht_get (C := R_M) (T := F_M) (N := 22) (v := .int (nu 0)) hx hb htb i_M hown HW hO rfl 2 (by decide) (htb _ wd_313) (fun _ h9 => h9) rfl d_M_remove_33 ?_
      refine lv_imul hx hb d_M_remove_36 ?_
      refine lv_topi (fun cb ecb => ?_)
      have hcb : cb = nI (4 * (R.length - 1)) := by rw [ecb, hnu0, show (4 : Int32) = nI 4 from rfl, pk_mul]
      refine lv_icmp_ge (tgt := 74) hx hb d_M_remove_37 (by decide) (fun c37 => ?_) (fun c37 => ?_)
      · refine lv_aload_n hx hb d_M_remove_74 rfl (lv_at hl 0 rfl) ?_
        refine lv_iconst (v := 0) hx hb d_M_remove_75 (by decide) ?_
        refine ht_put (C := R_M) (T := F_M) (N := 22) (v := .int 0) (ty := .boolean) hx hb htb i_M t_M t_M_ok n_M hown HW hO rfl 9 (by decide) (htb _ wd_320) (fun _ h9 => h9) rfl (by decide +kernel) rfl rfl (Nat.le_of_ble_eq_true rfl) d_M_remove_76 (fun H locs HW => ?_)
        have n_M_1_M_0 : (M 1) ≠ (M 0) := (hMu.ne 1 0 (by decide) (by decide) (by decide))
        have n_M_2_M_0 : (M 2) ≠ (M 0) := (hMu.ne 2 0 (by decide) (by decide) (by decide))
        obtain ⟨u1, hu1⟩ : ∃ zW : ht_W, zW = ht_up u (M 0) (.inr (4, [.ref (M 1), .ref (M 2), .int (nu 0), .ref (M 3), .ref (M 4), .ref (M 5), .ref (M 6), .int (nu 1), .ref (M 7), .int 0, .ref (M 8), .int (nu 3), .int (nu 4), .ref (M 9), .ref (M 10), .ref (M 11), .ref (M 12), .ref (M 13), .ref (M 14), .ref (M 15), .ref (M 16), .ref (M 17)]) : va_E) := ⟨_, rfl⟩
        have HW : ht_I g s u1 H locs := by rw [hu1]; exact HW
        have hO : ht_at u1 (M 0) (.inr (4, [.ref (M 1), .ref (M 2), .int (nu 0), .ref (M 3), .ref (M 4), .ref (M 5), .ref (M 6), .int (nu 1), .ref (M 7), .int 0, .ref (M 8), .int (nu 3), .int (nu 4), .ref (M 9), .ref (M 10), .ref (M 11), .ref (M 12), .ref (M 13), .ref (M 14), .ref (M 15), .ref (M 16), .ref (M 17)]) : va_E) := by rw [hu1]; exact ht_at_self hO
        have h1 : ht_at u1 (M 1) (ht_al g 2048 (Lu 1)) := by rw [hu1]; exact ht_at_ne h1 n_M_1_M_0
        have h2 : ht_at u1 (M 2) (ht_al g 2048 (Lu 2)) := by rw [hu1]; exact ht_at_ne h2 n_M_2_M_0
        refine lv_iconst (v := 1) hx hb d_M_remove_79 (by decide) ?_
        have hel : (R.eraseIdx pp).length = R.length - 1 := List.length_eraseIdx_of_lt hpp
        have hRz : ht_RL (va_up nu 2 0) Lu (R.eraseIdx pp) := ⟨by omega, by rw [va_up_ne _ _ (by decide), hel]; exact hnu0, fun x e9 he => ⟨ht_era_row (pr := fun q9 => q9.1) (fun y e8 h8 => (hRL.2.2 y e8 h8).1) (fun y hy => (hsh 1 (Or.inl rfl)).2 y (Or.inl hy)) (fun y hy1 hy2 => (hsh 1 (Or.inl rfl)).1 y hy1 (by omega)) he, ht_era_row (pr := fun q9 => q9.2) (fun y e8 h8 => (hRL.2.2 y e8 h8).2) (fun y hy => (hsh 2 (Or.inr rfl)).2 y (Or.inl hy)) (fun y hy1 hy2 => (hsh 2 (Or.inr rfl)).1 y hy1 (by omega)) he⟩⟩
        exact ht_iret hx hb hr hlocks HW ⟨va_up nu 2 0, Lu, R.eraseIdx pp, ⟨by rw [hu1]; exact hMu.up0 (va_up nu 2 0), hRz, List.Pairwise.sublist (List.eraseIdx_sublist _ _) hsrt, by rw [hsL 3 (by decide)]; exact hK, hKp.cg (hsL 13 (by decide)) (hsL 14 (by decide)) rfl, Or.inl (va_up_self _ _ _)⟩, by rw [hu1]; exact hfm.up 0 (by decide), ⟨by rw [va_up_ne _ _ (by decide)]; exact hnu3, by rw [va_up_ne _ _ (by decide)]; exact hnu4, hsL 8 (by decide), hsL 9 (by decide)⟩, Or.inr ⟨rfl, qa.2, ht_mem hqa hqk, by rw [← hqk]; exact ht_era_perm hqa⟩⟩ d_M_remove_80
      · exact absurd (nI_le (show 4 * (R.length - 1) ≤ q by omega) (by omega)) (by rw [ekv, hcb] at c37; exact c37)
    | succ r ih =>
      intro q hq hq1 u Lu hMu hfm hsL hsh H locs ls kv ekv HW hl
      have hO : ht_at u (M 0) (.inr (4, [.ref (M 1), .ref (M 2), .int (nu 0), .ref (M 3), .ref (M 4), .ref (M 5), .ref (M 6), .int (nu 1), .ref (M 7), .int (nu 2), .ref (M 8), .int (nu 3), .int (nu 4), .ref (M 9), .ref (M 10), .ref (M 11), .ref (M 12), .ref (M 13), .ref (M 14), .ref (M 15), .ref (M 16), .ref (M 17)]) : va_E) := hMu.1
      have h1 : ht_at u (M 1) (ht_al g 2048 (Lu 1)) := hMu.L 1 (by decide) rfl
      have h2 : ht_at u (M 2) (ht_al g 2048 (Lu 2)) := hMu.L 2 (by decide) rfl
      refine lv_iload_n hx hb d_M_remove_30 rfl (lv_at hl 2 rfl) ?_
      refine lv_iconst (v := 4) hx hb d_M_remove_31 (by decide) ?_
      refine lv_aload_n hx hb d_M_remove_32 rfl (lv_at hl 0 rfl) ?_
      refine ht_get (C := R_M) (T := F_M) (N := 22) (v := .int (nu 0)) hx hb htb i_M hown HW hO rfl 2 (by decide) (htb _ wd_313) (fun _ h9 => h9) rfl d_M_remove_33 ?_
      refine lv_imul hx hb d_M_remove_36 ?_
      refine lv_topi (fun cb ecb => ?_)
      have hcb : cb = nI (4 * (R.length - 1)) := by rw [ecb, hnu0, show (4 : Int32) = nI 4 from rfl, pk_mul]
      refine lv_icmp_ge (tgt := 74) hx hb d_M_remove_37 (by decide) (fun c37 => ?_) (fun c37 => ?_)
      · exact absurd (show nI (4 * (R.length - 1)) ≤ nI q by rw [ekv, hcb] at c37; exact c37) (nI_ge (by omega) (by omega))
      · refine lv_aload_n hx hb d_M_remove_40 rfl (lv_at hl 0 rfl) ?_
        refine ht_get (C := R_M) (T := F_M) (N := 22) (v := .ref (M 1)) hx hb htb i_M hown HW hO rfl 0 (by decide) (htb _ wd_311) (fun _ h9 => h9) rfl d_M_remove_41 ?_
        refine lv_iload_n hx hb d_M_remove_44 rfl (lv_at hl 2 rfl) ?_
        refine lv_aload_n hx hb d_M_remove_45 rfl (lv_at hl 0 rfl) ?_
        refine ht_get (C := R_M) (T := F_M) (N := 22) (v := .ref (M 1)) hx hb htb i_M hown HW hO rfl 0 (by decide) (htb _ wd_311) (fun _ h9 => h9) rfl d_M_remove_46 ?_
        refine lv_iload_n hx hb d_M_remove_49 rfl (lv_at hl 2 rfl) ?_
        refine lv_iconst (v := 4) hx hb d_M_remove_50 (by decide) ?_
        refine lv_iadd hx hb d_M_remove_51 ?_
        refine lv_topi (fun j1 ej1 => ?_)
        have hj1 : j1 = nI (q + 4) := by rw [ej1, ekv]; exact nI_add _ 4
        refine ht_lald hx hb HW h1 (by rw [hj1]; exact vp_in_nI (by omega) (by omega)) d_M_remove_52 ?_
        refine lv_topl (fun y1 ey1 => ?_)
        have ey1 : y1 = (Lu 1) (q + 4) := by rw [ey1, hj1, nI_clamp (by omega)]
        refine ht_last hx hb HW h1 (by rw [ekv]; exact vp_in_nI (by omega) (by omega)) d_M_remove_53 (fun H locs HW => ?_)
        rw [ekv, nI_clamp (by omega)] at HW
        have n_M_0_M_1 : (M 0) ≠ (M 1) := (hMu.ne 0 1 (by decide) (by decide) (by decide))
        have n_M_2_M_1 : (M 2) ≠ (M 1) := (hMu.ne 2 1 (by decide) (by decide) (by decide))
        obtain ⟨u1, hu1⟩ : ∃ zW : ht_W, zW = ht_up u (M 1) (ht_al g 2048 (vp_updL (Lu 1) q y1)) := ⟨_, rfl⟩
        have HW : ht_I g s u1 H locs := by rw [hu1]; exact HW
        have hO : ht_at u1 (M 0) (.inr (4, [.ref (M 1), .ref (M 2), .int (nu 0), .ref (M 3), .ref (M 4), .ref (M 5), .ref (M 6), .int (nu 1), .ref (M 7), .int (nu 2), .ref (M 8), .int (nu 3), .int (nu 4), .ref (M 9), .ref (M 10), .ref (M 11), .ref (M 12), .ref (M 13), .ref (M 14), .ref (M 15), .ref (M 16), .ref (M 17)]) : va_E) := by rw [hu1]; exact ht_at_ne hO n_M_0_M_1
        have h1 : ht_at u1 (M 1) (ht_al g 2048 (vp_updL (Lu 1) q y1)) := by rw [hu1]; exact ht_at_self h1
        have h2 : ht_at u1 (M 2) (ht_al g 2048 (Lu 2)) := by rw [hu1]; exact ht_at_ne h2 n_M_2_M_1
        refine lv_aload_n hx hb d_M_remove_54 rfl (lv_at hl 0 rfl) ?_
        refine ht_get (C := R_M) (T := F_M) (N := 22) (v := .ref (M 2)) hx hb htb i_M hown HW hO rfl 1 (by decide) (htb _ wd_312) (fun _ h9 => h9) rfl d_M_remove_55 ?_
        refine lv_iload_n hx hb d_M_remove_58 rfl (lv_at hl 2 rfl) ?_
        refine lv_aload_n hx hb d_M_remove_59 rfl (lv_at hl 0 rfl) ?_
        refine ht_get (C := R_M) (T := F_M) (N := 22) (v := .ref (M 2)) hx hb htb i_M hown HW hO rfl 1 (by decide) (htb _ wd_312) (fun _ h9 => h9) rfl d_M_remove_60 ?_
        refine lv_iload_n hx hb d_M_remove_63 rfl (lv_at hl 2 rfl) ?_
        refine lv_iconst (v := 4) hx hb d_M_remove_64 (by decide) ?_
        refine lv_iadd hx hb d_M_remove_65 ?_
        refine lv_topi (fun j2 ej2 => ?_)
        have hj2 : j2 = nI (q + 4) := by rw [ej2, ekv]; exact nI_add _ 4
        refine ht_lald hx hb HW h2 (by rw [hj2]; exact vp_in_nI (by omega) (by omega)) d_M_remove_66 ?_
        refine lv_topl (fun y2 ey2 => ?_)
        have ey2 : y2 = (Lu 2) (q + 4) := by rw [ey2, hj2, nI_clamp (by omega)]
        refine ht_last hx hb HW h2 (by rw [ekv]; exact vp_in_nI (by omega) (by omega)) d_M_remove_67 (fun H locs HW => ?_)
        rw [ekv, nI_clamp (by omega)] at HW
        have n_M_0_M_2 : (M 0) ≠ (M 2) := (hMu.ne 0 2 (by decide) (by decide) (by decide))
        have n_M_1_M_2 : (M 1) ≠ (M 2) := (Ne.symm n_M_2_M_1)
        obtain ⟨u2, hu2⟩ : ∃ zW : ht_W, zW = ht_up u1 (M 2) (ht_al g 2048 (vp_updL (Lu 2) q y2)) := ⟨_, rfl⟩
        have HW : ht_I g s u2 H locs := by rw [hu2]; exact HW
        have hO : ht_at u2 (M 0) (.inr (4, [.ref (M 1), .ref (M 2), .int (nu 0), .ref (M 3), .ref (M 4), .ref (M 5), .ref (M 6), .int (nu 1), .ref (M 7), .int (nu 2), .ref (M 8), .int (nu 3), .int (nu 4), .ref (M 9), .ref (M 10), .ref (M 11), .ref (M 12), .ref (M 13), .ref (M 14), .ref (M 15), .ref (M 16), .ref (M 17)]) : va_E) := by rw [hu2]; exact ht_at_ne hO n_M_0_M_2
        have h1 : ht_at u2 (M 1) (ht_al g 2048 (vp_updL (Lu 1) q y1)) := by rw [hu2]; exact ht_at_ne h1 n_M_1_M_2
        have h2 : ht_at u2 (M 2) (ht_al g 2048 (vp_updL (Lu 2) q y2)) := by rw [hu2]; exact ht_at_self h2
        obtain ⟨kv2, ekv2⟩ : ∃ zI : Int32, zI = kv + 1 := ⟨_, rfl⟩
        refine lv_iinc (v := kv2) (lv' := [(2, .int kv2), (0, .ref (M 0)), (1, .int pv)]) hx hb d_M_remove_68 hl (k := 2) rfl (by rw [ekv2]; rfl) (by decide) rfl (fun ls hl => ?_)
        refine lv_goto (tgt := 30) hx hb d_M_remove_71 (by decide) ?_
        refine ih (q + 1) (by omega) (by omega) u2 _ (by rw [hu2, hu1]; exact (hMu.upL 1 (by decide) rfl _).upL 2 (by decide) rfl _) (by rw [hu2, hu1]; exact (hfm.up 1 (by decide)).up 2 (by decide)) ((hsL.up (by decide)).up (by decide)) (fun a ha => ?_) _ _ _ kv2 (by rw [ekv2, ekv, nI_1]) HW (lv_sub hl [1, 2, 0] rfl)
        rcases ha with rfl | rfl
        · rw [va_up_ne _ _ (by decide), va_up_self]
          exact ht_shl1 hq1 (hsh 1 (Or.inl rfl)) ey1
        · rw [va_up_self]
          exact ht_shl1 hq1 (hsh 2 (Or.inr rfl)) ey2
  have hO : ht_at w (M 0) (.inr (4, [.ref (M 1), .ref (M 2), .int (n 0), .ref (M 3), .ref (M 4), .ref (M 5), .ref (M 6), .int (n 1), .ref (M 7), .int (n 2), .ref (M 8), .int (n 3), .int (n 4), .ref (M 9), .ref (M 10), .ref (M 11), .ref (M 12), .ref (M 13), .ref (M 14), .ref (M 15), .ref (M 16), .ref (M 17)]) : va_E) := hM.1
  refine lv_aload_n hx hb d_M_remove_0 rfl (lv_at hl 0 rfl) ?_
  refine ht_ci HW (va_runV (own := R_M) (C := R_M) (As := []) (rest := []) ⟨hx, hb, hml, hown, htb⟩ (c_M_place l g w hM hRL hK) (cwV 0 htb (ht_gv wd_387 wd_389 sl_11 wd_3 g_M_place) rfl rfl rfl (by decide +kernel) ⟨Nat.le_of_ble_eq_true rfl, Nat.le_of_ble_eq_true rfl⟩) (HW.preV hO rfl _) rfl rfl hl.1 rfl (lv_room (Nat.le_of_ble_eq_true rfl)) d_M_remove_1 ⟨Nat.le_of_ble_eq_true rfl, Nat.le_of_ble_eq_true rfl⟩) (fun pv u1 H locs pu1 HW => ?_)
  obtain ⟨hpl, eu1⟩ := pu1
  subst eu1
  obtain ⟨pp, epv, hpR, hpl1, hpl2⟩ := hpl
  refine lv_istore_n (lv' := [(1, .int pv), (0, .ref (M 0))]) hx hb d_M_remove_4 rfl hl (by decide) rfl (fun ls hl => ?_)
  refine lv_aload_n hx hb d_M_remove_5 rfl (lv_at hl 1 rfl) ?_
  refine lv_iload_n hx hb d_M_remove_6 rfl (lv_at hl 0 rfl) ?_
  refine ht_ci HW (va_runV (own := R_M) (C := R_M) (As := [.int pv]) (rest := []) ⟨hx, hb, hml, hown, htb⟩ (c_M_isAt l g w hM hRL hK pp (by omega) pv epv) (cwV 1 htb (ht_gv wd_395 wd_397 sl_12 wd_3 g_M_isAt) rfl rfl rfl (by decide +kernel) ⟨Nat.le_of_ble_eq_true rfl, Nat.le_of_ble_eq_true rfl⟩) (HW.preV hO rfl _) rfl rfl hl.1 rfl (lv_room (Nat.le_of_ble_eq_true rfl)) d_M_remove_7 ⟨Nat.le_of_ble_eq_true rfl, Nat.le_of_ble_eq_true rfl⟩) (fun q3 u2 H locs pa HW => ?_)
  obtain ⟨pa, eww⟩ := pa
  subst eww
  rcases pa with ⟨er, qa, hqa, hqk⟩ | ⟨er, hna⟩
  · subst er
    refine lv_if_ne (tgt := 16) hx hb d_M_remove_10 (by decide) (fun c10 => ?_) (fun c10 => ?_)
    · refine lv_aload_n hx hb d_M_remove_16 rfl (lv_at hl 1 rfl) ?_
      refine lv_dup hx hb d_M_remove_17 rfl ?_
      refine ht_get (C := R_M) (T := F_M) (N := 22) (v := .int (n 0)) hx hb htb i_M hown HW hO rfl 2 (by decide) (htb _ wd_313) (fun _ h9 => h9) rfl d_M_remove_18 ?_
      refine lv_iconst (v := 1) hx hb d_M_remove_21 (by decide) ?_
      refine lv_isub hx hb d_M_remove_22 ?_
      refine ht_put (C := R_M) (T := F_M) (N := 22) (v := .int ((n 0) - (1 : Int32))) (ty := .int) hx hb htb i_M t_M t_M_ok n_M hown HW hO rfl 2 (by decide) (htb _ wd_313) (fun _ h9 => h9) rfl (by decide +kernel) rfl rfl (Nat.le_of_ble_eq_true rfl) d_M_remove_23 (fun H locs HW => ?_)
      obtain ⟨u4, hu4⟩ : ∃ zW : ht_W, zW = ht_up w (M 0) (.inr (4, [.ref (M 1), .ref (M 2), .int ((n 0) - (1 : Int32)), .ref (M 3), .ref (M 4), .ref (M 5), .ref (M 6), .int (n 1), .ref (M 7), .int (n 2), .ref (M 8), .int (n 3), .int (n 4), .ref (M 9), .ref (M 10), .ref (M 11), .ref (M 12), .ref (M 13), .ref (M 14), .ref (M 15), .ref (M 16), .ref (M 17)]) : va_E) := ⟨_, rfl⟩
      have HW : ht_I g s u4 H locs := by rw [hu4]; exact HW
      have hO : ht_at u4 (M 0) (.inr (4, [.ref (M 1), .ref (M 2), .int ((n 0) - (1 : Int32)), .ref (M 3), .ref (M 4), .ref (M 5), .ref (M 6), .int (n 1), .ref (M 7), .int (n 2), .ref (M 8), .int (n 3), .int (n 4), .ref (M 9), .ref (M 10), .ref (M 11), .ref (M 12), .ref (M 13), .ref (M 14), .ref (M 15), .ref (M 16), .ref (M 17)]) : va_E) := by rw [hu4]; exact ht_at_self hO
      refine lv_iconst (v := 4) hx hb d_M_remove_26 (by decide) ?_
      refine lv_iload_n hx hb d_M_remove_27 rfl (lv_at hl 0 rfl) ?_
      refine lv_imul hx hb d_M_remove_28 ?_
      refine lv_topi (fun k0 ek0 => ?_)
      refine lv_istore_n (lv' := [(2, .int k0), (1, .int pv), (0, .ref (M 0))]) hx hb d_M_remove_29 rfl hl (by decide) rfl (fun ls hl => ?_)
      have hpp := ht_gn hqa
      refine loop pv pp qa hpp hqa hqk (va_up n 0 (n 0 - 1)) (by rw [va_up_self, hRL.2.1]; obtain ⟨z9, ez9⟩ : ∃ z9, R.length = z9 + 1 := ⟨R.length - 1, by omega⟩; rw [ez9]; exact nI_pred z9) (va_up_ne _ _ (by decide)) (va_up_ne _ _ (by decide)) (4 * (R.length - 1) - 4 * pp) (4 * pp) (by omega) (Nat.le_refl _) u4 Lf (by rw [hu4]; exact hM.up0 (va_up n 0 (n 0 - 1))) (by rw [hu4]; exact ht_fm.rf.up 0 (by decide)) ht_same.rf (fun a ha => ⟨fun x hx1 hx2 => absurd hx2 (by omega), fun x _ => rfl⟩) _ _ _ k0 (by rw [ek0, epv, show (4 : Int32) = nI 4 from rfl, pk_mul]) HW (lv_sub hl [2, 1, 0] rfl)
    · exact absurd c10 (by decide)
  · subst er
    refine lv_if_ne (tgt := 16) hx hb d_M_remove_10 (by decide) (fun c10 => ?_) (fun c10 => ?_)
    · exact absurd rfl c10
    · refine lv_bipush (v := -2) hx hb d_M_remove_13 (by decide) ?_
      exact ht_iret hx hb hr hlocks HW ⟨n, Lf, R, hMR, ht_fm.rf, ⟨rfl, rfl, rfl, rfl⟩, Or.inl ⟨rfl, ht_noat hsrt hpl1 hpl2 hna, rfl⟩⟩ d_M_remove_15
