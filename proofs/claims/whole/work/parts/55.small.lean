theorem ht_Rp.sb {dgf : Int32 → ht_K → ht_K → ht_K} {g : ht_G} {w : ht_W} {X : Nat → Nat} {tg : Nat → Nat × Nat} {k : ht_K} {N : ht_N} {A : ht_AA} {F : List Nat} {top : Option Nat} {L : ht_L} {dt : ht_D} {opf : Nat → Option Nat} {sbf lsf enf : Nat → Int64} {ei : Int32} {f : Nat → Int64} (h : ht_Rp dgf g w X tg k N A F top L dt opf sbf lsf enf ei) : ht_Rp dgf g (ht_up w (X 6) (ht_al g 1024 f)) X tg k N A F top L dt opf f lsf enf ei := by
  obtain ⟨h1, h2, h3, h4, h5, h6, h7, h8, h9, h10, h11, h12⟩ := id h
  have hne : ∀ i, i < 9 → i ≠ 6 → X i ≠ X 6 := fun i hi hn => ht_tne (h11.1 i hi) (h11.1 6 (by decide)) (fun z => hn (by injection z))
  refine ⟨ht_at_ne h1 (hne 0 (by decide) (by decide)), ht_at_ne h2 (hne 1 (by decide) (by decide)), ⟨ht_at_ne h3.1 (hne 2 (by decide) (by decide)), ht_at_ne h3.2.1 (hne 3 (by decide) (by decide)), ht_at_ne h3.2.2 (hne 4 (by decide) (by decide))⟩, ht_at_ne h4 (hne 5 (by decide) (by decide)), ht_at_self h5, ht_at_ne h6 (hne 7 (by decide) (by decide)), ht_at_ne h7 (hne 8 (by decide) (by decide)), fun a ha => ?_, h9, h10, h11, h12⟩
  obtain ⟨q1, q2, q3, q4⟩ := h8 a ha
  obtain ⟨t1, t2, t3, t4⟩ := h11.2 a ha
  have tx := h11.1 6 (by decide)
  exact ⟨ht_at_ne q1 (ht_tne t1 tx (fun z => by cases z)), ht_at_ne q2 (ht_tne t2 tx (fun z => by cases z)), ht_at_ne q3 (ht_tne t3 tx (fun z => by cases z)), fun v hv => ht_at_ne (q4 v hv) (ht_tne (t4 v hv) tx (fun z => by cases z))⟩
theorem ht_Rp.ls {dgf : Int32 → ht_K → ht_K → ht_K} {g : ht_G} {w : ht_W} {X : Nat → Nat} {tg : Nat → Nat × Nat} {k : ht_K} {N : ht_N} {A : ht_AA} {F : List Nat} {top : Option Nat} {L : ht_L} {dt : ht_D} {opf : Nat → Option Nat} {sbf lsf enf : Nat → Int64} {ei : Int32} {f : Nat → Int64} (h : ht_Rp dgf g w X tg k N A F top L dt opf sbf lsf enf ei) : ht_Rp dgf g (ht_up w (X 7) (ht_al g 4 f)) X tg k N A F top L dt opf sbf f enf ei := by
  obtain ⟨h1, h2, h3, h4, h5, h6, h7, h8, h9, h10, h11, h12⟩ := id h
  have hne : ∀ i, i < 9 → i ≠ 7 → X i ≠ X 7 := fun i hi hn => ht_tne (h11.1 i hi) (h11.1 7 (by decide)) (fun z => hn (by injection z))
  refine ⟨ht_at_ne h1 (hne 0 (by decide) (by decide)), ht_at_ne h2 (hne 1 (by decide) (by decide)), ⟨ht_at_ne h3.1 (hne 2 (by decide) (by decide)), ht_at_ne h3.2.1 (hne 3 (by decide) (by decide)), ht_at_ne h3.2.2 (hne 4 (by decide) (by decide))⟩, ht_at_ne h4 (hne 5 (by decide) (by decide)), ht_at_ne h5 (hne 6 (by decide) (by decide)), ht_at_self h6, ht_at_ne h7 (hne 8 (by decide) (by decide)), fun a ha => ?_, h9, h10, h11, h12⟩
  obtain ⟨q1, q2, q3, q4⟩ := h8 a ha
  obtain ⟨t1, t2, t3, t4⟩ := h11.2 a ha
  have tx := h11.1 7 (by decide)
  exact ⟨ht_at_ne q1 (ht_tne t1 tx (fun z => by cases z)), ht_at_ne q2 (ht_tne t2 tx (fun z => by cases z)), ht_at_ne q3 (ht_tne t3 tx (fun z => by cases z)), fun v hv => ht_at_ne (q4 v hv) (ht_tne (t4 v hv) tx (fun z => by cases z))⟩
theorem ht_Rp.en {dgf : Int32 → ht_K → ht_K → ht_K} {g : ht_G} {w : ht_W} {X : Nat → Nat} {tg : Nat → Nat × Nat} {k : ht_K} {N : ht_N} {A : ht_AA} {F : List Nat} {top : Option Nat} {L : ht_L} {dt : ht_D} {opf : Nat → Option Nat} {sbf lsf enf : Nat → Int64} {ei : Int32} {f : Nat → Int64} (h : ht_Rp dgf g w X tg k N A F top L dt opf sbf lsf enf ei) : ht_Rp dgf g (ht_up w (X 8) (ht_al g 8 f)) X tg k N A F top L dt opf sbf lsf f ei := by
  obtain ⟨h1, h2, h3, h4, h5, h6, h7, h8, h9, h10, h11, h12⟩ := id h
  have hne : ∀ i, i < 9 → i ≠ 8 → X i ≠ X 8 := fun i hi hn => ht_tne (h11.1 i hi) (h11.1 8 (by decide)) (fun z => hn (by injection z))
  refine ⟨ht_at_ne h1 (hne 0 (by decide) (by decide)), ht_at_ne h2 (hne 1 (by decide) (by decide)), ⟨ht_at_ne h3.1 (hne 2 (by decide) (by decide)), ht_at_ne h3.2.1 (hne 3 (by decide) (by decide)), ht_at_ne h3.2.2 (hne 4 (by decide) (by decide))⟩, ht_at_ne h4 (hne 5 (by decide) (by decide)), ht_at_ne h5 (hne 6 (by decide) (by decide)), ht_at_ne h6 (hne 7 (by decide) (by decide)), ht_at_self h7, fun a ha => ?_, h9, h10, h11, h12⟩
  obtain ⟨q1, q2, q3, q4⟩ := h8 a ha
  obtain ⟨t1, t2, t3, t4⟩ := h11.2 a ha
  have tx := h11.1 8 (by decide)
  exact ⟨ht_at_ne q1 (ht_tne t1 tx (fun z => by cases z)), ht_at_ne q2 (ht_tne t2 tx (fun z => by cases z)), ht_at_ne q3 (ht_tne t3 tx (fun z => by cases z)), fun v hv => ht_at_ne (q4 v hv) (ht_tne (t4 v hv) tx (fun z => by cases z))⟩
theorem ht_Rp.ei {dgf : Int32 → ht_K → ht_K → ht_K} {g : ht_G} {w : ht_W} {X : Nat → Nat} {tg : Nat → Nat × Nat} {k : ht_K} {N : ht_N} {A : ht_AA} {F : List Nat} {top : Option Nat} {L : ht_L} {dt : ht_D} {opf : Nat → Option Nat} {sbf lsf enf : Nat → Int64} {ei : Int32} {x : Int32} (h : ht_Rp dgf g w X tg k N A F top L dt opf sbf lsf enf ei) : ht_Rp dgf g (ht_up w (X 0) (ht_xo X top (nI L.length) x)) X tg k N A F top L dt opf sbf lsf enf x := by
  obtain ⟨h1, h2, h3, h4, h5, h6, h7, h8, h9, h10, h11, h12⟩ := id h
  have hne : ∀ i, i < 9 → i ≠ 0 → X i ≠ X 0 := fun i hi hn => ht_tne (h11.1 i hi) (h11.1 0 (by decide)) (fun z => hn (by injection z))
  refine ⟨ht_at_self h1, ht_at_ne h2 (hne 1 (by decide) (by decide)), ⟨ht_at_ne h3.1 (hne 2 (by decide) (by decide)), ht_at_ne h3.2.1 (hne 3 (by decide) (by decide)), ht_at_ne h3.2.2 (hne 4 (by decide) (by decide))⟩, ht_at_ne h4 (hne 5 (by decide) (by decide)), ht_at_ne h5 (hne 6 (by decide) (by decide)), ht_at_ne h6 (hne 7 (by decide) (by decide)), ht_at_ne h7 (hne 8 (by decide) (by decide)), fun a ha => ?_, h9, h10, h11, h12⟩
  obtain ⟨q1, q2, q3, q4⟩ := h8 a ha
  obtain ⟨t1, t2, t3, t4⟩ := h11.2 a ha
  have tx := h11.1 0 (by decide)
  exact ⟨ht_at_ne q1 (ht_tne t1 tx (fun z => by cases z)), ht_at_ne q2 (ht_tne t2 tx (fun z => by cases z)), ht_at_ne q3 (ht_tne t3 tx (fun z => by cases z)), fun v hv => ht_at_ne (q4 v hv) (ht_tne (t4 v hv) tx (fun z => by cases z))⟩
theorem ht_Rp.dw {dgf : Int32 → ht_K → ht_K → ht_K} {g : ht_G} {w : ht_W} {X : Nat → Nat} {tg : Nat → Nat × Nat} {k : ht_K} {N : ht_N} {A : ht_AA} {F : List Nat} {top : Option Nat} {L : ht_L} {dt dt' : ht_D} {opf : Nat → Option Nat} {sbf lsf enf : Nat → Int64} {ei : Int32} (h : ht_Rp dgf g w X tg k N A F top L dt opf sbf lsf enf ei) : ht_Rp dgf g (ht_dw g w (X 2) (X 3) (X 4) dt') X tg k N A F top L dt' opf sbf lsf enf ei := by
  obtain ⟨h1, h2, h3, h4, h5, h6, h7, h8, h9, h10, h11, h12⟩ := id h
  have hne : ∀ i j, i < 9 → j < 9 → i ≠ j → X i ≠ X j := fun i j hi hj hn => ht_tne (h11.1 i hi) (h11.1 j hj) (fun z => hn (by injection z))
  have hgo : ∀ {i : Nat} {e : va_E}, i < 9 → i ≠ 2 → i ≠ 3 → i ≠ 4 → ht_at w (X i) e → ht_at (ht_dw g w (X 2) (X 3) (X 4) dt') (X i) e := fun hi n2 n3 n4 hh => ht_Dg.ne hh (hne _ _ hi (by decide) n2) (hne _ _ hi (by decide) n3) (hne _ _ hi (by decide) n4)
  refine ⟨hgo (by decide) (by decide) (by decide) (by decide) h1, hgo (by decide) (by decide) (by decide) (by decide) h2, h3.up, hgo (by decide) (by decide) (by decide) (by decide) h4, hgo (by decide) (by decide) (by decide) (by decide) h5, hgo (by decide) (by decide) (by decide) (by decide) h6, hgo (by decide) (by decide) (by decide) (by decide) h7, fun a ha => ?_, h9, h10, h11, h12⟩
  obtain ⟨q1, q2, q3, q4⟩ := h8 a ha
  obtain ⟨t1, t2, t3, t4⟩ := h11.2 a ha
  have g1 : ∀ {b : Nat} {e : va_E} {z : Nat × Nat}, tg b = z → z.1 ≠ 1 → ht_at w b e → ht_at (ht_dw g w (X 2) (X 3) (X 4) dt') b e := fun hb hz hh => ht_Dg.ne hh (ht_tne hb (h11.1 2 (by decide)) (fun y => hz (by rw [y]))) (ht_tne hb (h11.1 3 (by decide)) (fun y => hz (by rw [y]))) (ht_tne hb (h11.1 4 (by decide)) (fun y => hz (by rw [y])))
  exact ⟨g1 t1 (by decide) q1, g1 t2 (by decide) q2, g1 t3 (fun z => by cases z) q3, fun v hv => g1 (t4 v hv) (fun z => by cases z) (q4 v hv)⟩
theorem ht_upl {f : Nat → Int64} {i : Nat} {v : Int64} (h : ∀ j, j < i → f j = v) : ∀ j, j < i + 1 → vp_updL f i v j = v := by
  intro j hj
  unfold vp_updL
  by_cases e : j = i
  · rw [if_pos e]
  · rw [if_neg e]
    exact h j (by omega)
set_option maxHeartbeats 4000000 in
set_option maxRecDepth 100000 in
theorem c_JA_fill (l : Launch) (g : ht_G) (w : ht_W) {a n : Nat} {f : Nat → Int64} (hA : ht_at w a (ht_al g n f)) (hn : n < 2 ^ 31) (vv : Int64) : Met l y_JA_fill ws_JA_fill ({ frames := 0, cells := 0, slots := 0, locals := 0 } : Room) (va_Pc [.ref a, .long vv] (ht_WS g w)) (ht_Qv g (fun u => ∃ f2 : Nat → Int64, (∀ j, j < n → f2 j = vv) ∧ u = ht_up w a (ht_al g n f2))) 0 0 (ht_A g) := by
  refine Met.ofW (cc := b_JA_fill) (maxL := 5) (ret := none) (by decide) rfl ?_
  intro p e s m args below meth c s₁ BB hml hv
  obtain ⟨rfl, HW⟩ := hv
  have HW := ht_I.start HW
  have hx := BB.exec
  have hb := BB.bytes
  have hr := BB.returns
  have hts := atoms_spec (ws := ws_JA_fill) BB.pre
  have htb : ∀ w ∈ bg, w.before _ s = true := fun w h => hts w (List.mem_cons_of_mem _ h)
  have hown : s.vm.findClass R_JA = some m.cls := findClass_of_methodNamed BB.named
  have hlocks := BB.notSynchronized
  have hl := lv_entry ([.ref a, .long vv]) (n := 5) (Nat.le_of_ble_eq_true rfl)
  rw [lg_entry_eq]
  generalize (lg_sl ([.ref a, .long vv]) ++ List.replicate (5 - (lg_sl ([.ref a, .long vv])).length) Slot.unset).toArray = ls at hl ⊢
  have hl : lv_has ls 5 [(0, .ref a), (1, .long vv)] := hl
  have loop : ∀ (r i : Nat), i + r = n → ∀ (f1 : Nat → Int64) (u : ht_W), u = ht_up w a (ht_al g n f1) → (∀ j, j < i → f1 j = vv) → ∀ (H : Heap) (locs : List Loc) (ls : Array Slot) (iv : Int32), iv = nI i → ht_I g s u H locs → lv_has ls 5 [(0, .ref a), (1, .long vv), (3, .int iv), (4, .int (nI n))] → W p l e (headSpec ws_JA_fill ({ frames := 0, cells := 0, slots := 0, locals := 0 } : Room)).room s m ([.ref a, .long vv] : List Value).toArray below meth c H locs 0 0 (MQ below (ht_Qv g (fun u => ∃ f2 : Nat → Int64, (∀ j, j < n → f2 j = vv) ∧ u = ht_up w a (ht_al g n f2))) ([.ref a, .long vv] : List Value).toArray s 0 0 (ht_A g)) (F0 m 6 ls []) := by
    intro r
    induction r with
    | zero =>
      intro i hi f1 u hu hf H locs ls iv eiv HW hl
      refine lv_iload_n hx hb d_JA_fill_6 rfl (lv_at hl 2 rfl) ?_
      refine lv_iload hx hb d_JA_fill_7 (lv_at hl 3 rfl) ?_
      refine lv_icmp_ge (tgt := 22) hx hb d_JA_fill_9 (by decide) (fun c9 => ?_) (fun c9 => ?_)
      · exact ht_vret hx hb hr hlocks HW ⟨f1, fun j hj => hf j (by omega), hu⟩ d_JA_fill_22
      · exact absurd (by rw [eiv, show i = n by omega]; exact Int32.le_refl _) c9
    | succ r ih =>
      intro i hi f1 u hu hf H locs ls iv eiv HW hl
      have hA1 : ht_at u a (ht_al g n f1) := by rw [hu]; exact ht_at_self hA
      refine lv_iload_n hx hb d_JA_fill_6 rfl (lv_at hl 2 rfl) ?_
      refine lv_iload hx hb d_JA_fill_7 (lv_at hl 3 rfl) ?_
      refine lv_icmp_ge (tgt := 22) hx hb d_JA_fill_9 (by decide) (fun c9 => ?_) (fun c9 => ?_)
      · exact absurd (show nI n ≤ nI i by rw [eiv] at c9; exact c9) (nI_ge (by omega) hn)
      · refine lv_aload_n hx hb d_JA_fill_12 rfl (lv_at hl 0 rfl) ?_
        refine lv_iload_n hx hb d_JA_fill_13 rfl (lv_at hl 2 rfl) ?_
        refine lv_lload_n hx hb d_JA_fill_14 rfl (lv_at hl 1 rfl) ?_
        refine ht_last hx hb HW hA1 (by rw [eiv]; exact vp_in_nI (by omega) (by omega)) d_JA_fill_15 (fun H locs HW => ?_)
        rw [eiv, nI_clamp (by omega)] at HW
        obtain ⟨u1, hu1⟩ : ∃ zW : ht_W, zW = ht_up u a (ht_al g n (vp_updL f1 i vv)) := ⟨_, rfl⟩
        have HW : ht_I g s u1 H locs := by rw [hu1]; exact HW
        have hA1 : ht_at u1 a (ht_al g n (vp_updL f1 i vv)) := by rw [hu1]; exact ht_at_self hA1
        obtain ⟨iv2, eiv2⟩ : ∃ zI : Int32, zI = iv + 1 := ⟨_, rfl⟩
        refine lv_iinc (v := iv2) (lv' := [(3, .int iv2), (0, .ref a), (1, .long vv), (4, .int (nI n))]) hx hb d_JA_fill_16 hl (k := 2) rfl (by rw [eiv2]; rfl) (by decide) rfl (fun ls hl => ?_)
        refine lv_goto (tgt := 6) hx hb d_JA_fill_19 (by decide) ?_
        exact ih (i + 1) (by omega) _ u1 (by rw [hu1, hu, ht_up_up]) (ht_upl hf) _ _ _ iv2 (by rw [eiv2, eiv, nI_1]) HW (lv_sub hl [1, 2, 0, 3] rfl)
  refine lv_iconst (v := 0) hx hb d_JA_fill_0 (by decide) ?_
  refine lv_istore_n (lv' := [(3, .int 0), (0, .ref a), (1, .long vv)]) hx hb d_JA_fill_1 rfl hl (by decide) rfl (fun ls hl => ?_)
  refine lv_aload_n hx hb d_JA_fill_2 rfl (lv_at hl 1 rfl) ?_
  refine ht_alen hx hb HW hA d_JA_fill_3 ?_
  refine lv_istore (lv' := [(4, .int (nI n)), (3, .int 0), (0, .ref a), (1, .long vv)]) hx hb d_JA_fill_4 hl (by decide) rfl (fun ls hl => ?_)
  exact loop n 0 (by omega) f w (ht_up_id hA).symm (fun j hj => absurd hj (Nat.not_lt_zero j)) _ _ _ 0 rfl HW (lv_sub hl [2, 3, 1, 0] rfl)
set_option maxHeartbeats 4000000 in
set_option maxRecDepth 100000 in
theorem c_X_keepSibling (l : Launch) (g : ht_G) (w : ht_W) {x kA dg op sb la en : Nat} {top : Option Nat} {cnt ei : Int32} (hX : ht_at w x (.inr (0, [.ref kA, .ref dg, .ref op, va_rf top, .int cnt, .ref sb, .ref la, .ref en, .int ei]))) {f hk : Nat → Int64} {ha : Nat} (hSb : ht_at w sb (ht_al g 1024 f)) (hH : ht_at w ha (ht_al g 4 hk)) (d : Nat) (hd : d < 256) (dv : Int32) (ed : dv = nI d) : Met l y_X_keepSibling ws_X_keepSibling ({ frames := 1, cells := 0, slots := 0, locals := 60 } : Room) (va_Pc [.ref x, .int dv, .ref ha] (ht_WS g w)) (ht_Qv g (fun u => u = ht_up w sb (ht_al g 1024 (va_cpy hk f 0 (d * 4) 4)))) 0 0 (ht_A g) := by
  refine Met.ofW (cc := b_X_keepSibling) (maxL := 3) (ret := none) (by decide) rfl ?_
  intro p e s m args below meth c s₁ BB hml hv
  obtain ⟨rfl, HW⟩ := hv
  have HW := ht_I.start HW
  have hx := BB.exec
  have hb := BB.bytes
  have hr := BB.returns
  have hts := atoms_spec (ws := ws_X_keepSibling) BB.pre
  have htb : ∀ w ∈ bg, w.before _ s = true := fun w h => hts w (List.mem_cons_of_mem _ h)
  have hown : s.vm.findClass R_X = some m.cls := findClass_of_methodNamed BB.named
  have hlocks := BB.notSynchronized
  have hl := lv_entry ([.ref x, .int dv, .ref ha]) (n := 3) (Nat.le_of_ble_eq_true rfl)
  rw [lg_entry_eq]
  generalize (lg_sl ([.ref x, .int dv, .ref ha]) ++ List.replicate (3 - (lg_sl ([.ref x, .int dv, .ref ha])).length) Slot.unset).toArray = ls at hl ⊢
  have hl : lv_has ls 3 [(0, .ref x), (1, .int dv), (2, .ref ha)] := hl
  refine lv_aload_n hx hb d_X_keepSibling_0 rfl (lv_at hl 2 rfl) ?_
  refine lv_iconst (v := 0) hx hb d_X_keepSibling_1 (by decide) ?_
  refine lv_aload_n hx hb d_X_keepSibling_2 rfl (lv_at hl 0 rfl) ?_
  refine ht_get (C := R_X) (T := F_X) (N := 9) (v := .ref sb) hx hb htb i_X hown HW hX rfl 5 (by decide) (htb _ wd_45) (fun _ h9 => h9) rfl d_X_keepSibling_3 ?_
  refine lv_iload_n hx hb d_X_keepSibling_6 rfl (lv_at hl 1 rfl) ?_
  refine lv_iconst (v := 4) hx hb d_X_keepSibling_7 (by decide) ?_
  refine lv_imul hx hb d_X_keepSibling_8 ?_
  refine lv_topi (fun ix eix => ?_)
  have hix : ix = nI (d * 4) := by rw [eix, ed, show (4 : Int32) = nI 4 from rfl, pk_mul]
  refine lv_iconst (v := 4) hx hb d_X_keepSibling_9 (by decide) ?_
  refine ht_cpl hx hb (hml.trans hl.1.symm) hown (htb _ wd_278) (htb _ wd_233) (htb _ wd_232) (htb _ wd_9) HW hH hSb (sp := 0) (dp := ix) (n := 4) (by decide) (by rw [hix]; exact nI_pos (by omega)) (by decide) (by decide) (by rw [hix, nI_clamp (by omega)]; show d * 4 + 4 ≤ 1024; omega) (Nat.le_of_ble_eq_true rfl) (by decide +kernel) d_X_keepSibling_10 (fun H locs HW => ?_)
  rw [hix, nI_clamp (by omega)] at HW
  exact ht_vret hx hb hr hlocks HW rfl d_X_keepSibling_13
set_option maxHeartbeats 4000000 in
set_option maxRecDepth 100000 in
theorem c_X_keepEnd (l : Launch) (g : ht_G) (w : ht_W) {x kA dg op sb la en : Nat} {top : Option Nat} {cnt ei : Int32} (hX : ht_at w x (.inr (0, [.ref kA, .ref dg, .ref op, va_rf top, .int cnt, .ref sb, .ref la, .ref en, .int ei]))) {f fk fv : Nat → Int64} {b ka ha va : Nat} {lv fr : Int32} (hEn : ht_at w en (ht_al g 8 f)) (hB : ht_at w b (.inr (2, [.ref ka, .int lv, .ref ha, .int fr, .ref va]))) (hKa : ht_at w ka (ht_al g 4 fk)) (hVa : ht_at w va (ht_al g 4 fv)) (hne : va ≠ en) : Met l y_X_keepEnd ws_X_keepEnd ({ frames := 1, cells := 0, slots := 0, locals := 60 } : Room) (va_Pc [.ref x, .ref b] (ht_WS g w)) (ht_Qv g (fun u => u = ht_up w en (ht_al g 8 (va_cpy fv (va_cpy fk f 0 0 4) 0 4 4)))) 0 0 (ht_A g) := by
  refine Met.ofW (cc := b_X_keepEnd) (maxL := 2) (ret := none) (by decide) rfl ?_
  intro p e s m args below meth c s₁ BB hml hv
  obtain ⟨rfl, HW⟩ := hv
  have HW := ht_I.start HW
  have hx := BB.exec
  have hb := BB.bytes
  have hr := BB.returns
  have hts := atoms_spec (ws := ws_X_keepEnd) BB.pre
  have htb : ∀ w ∈ bg, w.before _ s = true := fun w h => hts w (List.mem_cons_of_mem _ h)
  have hown : s.vm.findClass R_X = some m.cls := findClass_of_methodNamed BB.named
  have hlocks := BB.notSynchronized
  have hl := lv_entry ([.ref x, .ref b]) (n := 2) (Nat.le_of_ble_eq_true rfl)
  rw [lg_entry_eq]
  generalize (lg_sl ([.ref x, .ref b]) ++ List.replicate (2 - (lg_sl ([.ref x, .ref b])).length) Slot.unset).toArray = ls at hl ⊢
  have hl : lv_has ls 2 [(0, .ref x), (1, .ref b)] := hl
  refine lv_aload_n hx hb d_X_keepEnd_0 rfl (lv_at hl 1 rfl) ?_
  refine ht_get (C := R_L) (T := F_L) (N := 5) (v := .ref ka) hx hb htb i_L hown HW hB rfl 0 (by decide) (htb _ wd_128) (fun x h9 => u_same (htb _ wd_129) x h9) rfl d_X_keepEnd_1 ?_
  refine lv_iconst (v := 0) hx hb d_X_keepEnd_4 (by decide) ?_
  refine lv_aload_n hx hb d_X_keepEnd_5 rfl (lv_at hl 0 rfl) ?_
  refine ht_get (C := R_X) (T := F_X) (N := 9) (v := .ref en) hx hb htb i_X hown HW hX rfl 7 (by decide) (htb _ wd_47) (fun _ h9 => h9) rfl d_X_keepEnd_6 ?_
  refine lv_iconst (v := 0) hx hb d_X_keepEnd_9 (by decide) ?_
  refine lv_iconst (v := 4) hx hb d_X_keepEnd_10 (by decide) ?_
  refine ht_cpl hx hb (hml.trans hl.1.symm) hown (htb _ wd_278) (htb _ wd_233) (htb _ wd_232) (htb _ wd_9) HW hKa hEn (sp := 0) (dp := 0) (n := 4) (by decide) (by decide) (by decide) (by decide) (by decide) (Nat.le_of_ble_eq_true rfl) (by decide +kernel) d_X_keepEnd_11 (fun H locs HW => ?_)
  have n_x_en : x ≠ en := (ht_ne hX hEn (fun z => by cases z))
  have n_b_en : b ≠ en := (ht_ne hB hEn (fun z => by cases z))
  obtain ⟨u1, hu1⟩ : ∃ zW : ht_W, zW = ht_up w en (ht_al g 8 (va_cpy fk f 0 0 4)) := ⟨_, rfl⟩
  have HW : ht_I g s u1 H locs := by rw [hu1]; exact HW
  have hX : ht_at u1 x (.inr (0, [.ref kA, .ref dg, .ref op, va_rf top, .int cnt, .ref sb, .ref la, .ref en, .int ei]) : va_E) := by rw [hu1]; exact ht_at_ne hX n_x_en
  have hB : ht_at u1 b (.inr (2, [.ref ka, .int lv, .ref ha, .int fr, .ref va]) : va_E) := by rw [hu1]; exact ht_at_ne hB n_b_en
  have hEn : ht_at u1 en (ht_al g 8 (va_cpy fk f 0 0 4)) := by rw [hu1]; exact ht_at_self hEn
  have hVa : ht_at u1 va (ht_al g 4 fv) := by rw [hu1]; exact ht_at_ne hVa hne
  refine lv_aload_n hx hb d_X_keepEnd_14 rfl (lv_at hl 1 rfl) ?_
  refine ht_get (C := R_L) (T := F_L) (N := 5) (v := .ref va) hx hb htb i_L hown HW hB rfl 4 (by decide) (htb _ wd_126) (fun _ h9 => h9) rfl d_X_keepEnd_15 ?_
  refine lv_iconst (v := 0) hx hb d_X_keepEnd_18 (by decide) ?_
  refine lv_aload_n hx hb d_X_keepEnd_19 rfl (lv_at hl 0 rfl) ?_
  refine ht_get (C := R_X) (T := F_X) (N := 9) (v := .ref en) hx hb htb i_X hown HW hX rfl 7 (by decide) (htb _ wd_47) (fun _ h9 => h9) rfl d_X_keepEnd_20 ?_
  refine lv_iconst (v := 4) hx hb d_X_keepEnd_23 (by decide) ?_
  refine lv_iconst (v := 4) hx hb d_X_keepEnd_24 (by decide) ?_
  refine ht_cpl hx hb (hml.trans hl.1.symm) hown (htb _ wd_278) (htb _ wd_233) (htb _ wd_232) (htb _ wd_9) HW hVa hEn (sp := 0) (dp := 4) (n := 4) (by decide) (by decide) (by decide) (by decide) (by decide) (Nat.le_of_ble_eq_true rfl) (by decide +kernel) d_X_keepEnd_25 (fun H locs HW => ?_)
  exact ht_vret hx hb hr hlocks HW (by rw [hu1, ht_up_up]; rfl) d_X_keepEnd_28
theorem ht_T.U_top {N : ht_N} {F : List Nat} {t : Nat} {l : ht_L} (h : ht_T N F (some t) l) : ht_U N l t = l := by
  unfold ht_U
  rw [List.filter_eq_self]
  exact fun q hq => decide_eq_true ((h.2.2.1.1 t rfl).2 q hq)
set_option maxHeartbeats 4000000 in
set_option maxRecDepth 100000 in
theorem c_X_root (l : Launch) (g : ht_G) (w : ht_W) {X : Nat → Nat} {tg : Nat → Nat × Nat} {k : ht_K} {N : ht_N} {A : ht_AA} {F : List Nat} {top : Option Nat} {L : ht_L} {dt : ht_D} {opf : Nat → Option Nat} {sbf lsf enf : Nat → Int64} {ei : Int32} (hR : ht_Rp ht_dgf g w X tg k N A F top L dt opf sbf lsf enf ei) (hcap : L.length ≤ 512) (i : Int32) : Met l y_X_root ws_X_root ({ frames := 7, cells := 0, slots := 0, locals := 220 } : Room) (va_Pc [.ref (X 0), .int i] (ht_WS g w)) (ht_Ql g (fun r u => ∃ (N' : ht_N) (dt' : ht_D) (opf' : Nat → Option Nat), ht_Rp ht_dgf g u X tg k N' A F top L dt' opf' sbf lsf enf ei ∧ ht_fr (fun b => (tg b).1 ≠ 0) w u ∧ ((∃ j, j < 4 ∧ i = nI j ∧ r = ht_kf (ht_h ht_dgf 256 L) j) ∨ (¬ ht_isn i ∧ r = 0)))) 0 0 (ht_A g) := by
  refine Met.ofW (cc := b_X_root) (maxL := 2) (ret := (some .long)) (by decide) rfl ?_
  intro p e s m args below meth c s₁ BB hml hv
  obtain ⟨rfl, HW⟩ := hv
  have HW := ht_I.start HW
  have hx := BB.exec
  have hb := BB.bytes
  have hr := BB.returns
  have hts := atoms_spec (ws := ws_X_root) BB.pre
  have htb : ∀ w ∈ bg, w.before _ s = true := fun w h => hts w (List.mem_cons_of_mem _ h)
  have hown : s.vm.findClass R_X = some m.cls := findClass_of_methodNamed BB.named
  have hlocks := BB.notSynchronized
  have hl := lv_entry ([.ref (X 0), .int i]) (n := 2) (Nat.le_of_ble_eq_true rfl)
  rw [lg_entry_eq]
  generalize (lg_sl ([.ref (X 0), .int i]) ++ List.replicate (2 - (lg_sl ([.ref (X 0), .int i])).length) Slot.unset).toArray = ls at hl ⊢
  have hl : lv_has ls 2 [(0, .ref (X 0)), (1, .int i)] := hl
  obtain ⟨hX, hK, hDg, hOp, hSb, hLs, hEn, hN, hT, hF, htg, hlen⟩ := id hR
  unfold ht_xo at hX
  cases top with
  | none =>
    refine lv_aload_n hx hb d_X_root_0 rfl (lv_at hl 0 rfl) ?_
    refine ht_get (C := R_X) (T := F_X) (N := 9) (v := .null) hx hb htb i_X hown HW hX rfl 3 (by decide) (htb _ wd_43) (fun _ h9 => h9) rfl d_X_root_1 ?_
    refine lv_ifnullN (tgt := 14) hx hb d_X_root_4 (by decide) ?_
    refine lv_lconst (v := 0) hx hb d_X_root_14 (by decide) ?_
    exact ht_lret hx hb hr hlocks HW ⟨N, dt, opf, hR, ht_fr.rf, (ht_isn_or i).elim (fun ⟨j, hj, ej⟩ => Or.inl ⟨j, hj, ej, by rw [(hT.2.2.1.2 rfl).2, ht_h_nil]; rcases (show j = 0 ∨ j = 1 ∨ j = 2 ∨ j = 3 by omega) with rfl | rfl | rfl | rfl <;> rfl⟩) (fun q => Or.inr ⟨q, rfl⟩)⟩ d_X_root_15
  | some t =>
    refine lv_aload_n hx hb d_X_root_0 rfl (lv_at hl 0 rfl) ?_
    refine ht_get (C := R_X) (T := F_X) (N := 9) (v := .ref t) hx hb htb i_X hown HW hX rfl 3 (by decide) (htb _ wd_43) (fun _ h9 => h9) rfl d_X_root_1 ?_
    refine lv_ifnull hx hb d_X_root_4 ?_
    refine lv_iload_n hx hb d_X_root_7 rfl (lv_at hl 1 rfl) ?_
    refine ht_ci HW (va_runS (own := R_X) (As := [.int i]) (rest := []) ⟨hx, hb, hml, hown, htb⟩ (c_X_isNumber l g w i) (va_cwS 1 htb (ht_gs wd_198 wd_199 wd_1 g_X_isNumber) rfl rfl rfl (by decide +kernel) ⟨Nat.le_of_ble_eq_true rfl, Nat.le_of_ble_eq_true rfl⟩) (HW.preS _) rfl rfl hl.1 rfl (lv_room (Nat.le_of_ble_eq_true rfl)) d_X_root_8 ⟨Nat.le_of_ble_eq_true rfl, Nat.le_of_ble_eq_true rfl⟩) (fun q2 u1 H locs pi HW => ?_)
    obtain ⟨pi, eww⟩ := pi
    subst eww
    rcases ht_isn_or i with hisn | hisn
    · have er := pi.1 hisn
      subst er
      refine W.eq (g2 := F0 _ 11 ls [.int 1]) rfl ?_
      obtain ⟨j, hj, ej⟩ := id hisn
      refine lv_if_ne (tgt := 16) hx hb d_X_root_11 (by decide) (fun c11 => ?_) (fun c11 => ?_)
      · refine lv_aload_n hx hb d_X_root_16 rfl (lv_at hl 0 rfl) ?_
        refine ht_cv HW (va_runV (own := R_X) (C := R_X) (As := []) (rest := []) ⟨hx, hb, hml, hown, htb⟩ (c_X_refresh l g w hR hcap) (cwV 0 htb (ht_gv wd_209 wd_211 sl_5 wd_1 g_X_refresh) rfl rfl rfl (by decide +kernel) ⟨Nat.le_of_ble_eq_true rfl, Nat.le_of_ble_eq_true rfl⟩) (HW.preV hX rfl _) rfl rfl hl.1 rfl (lv_room (Nat.le_of_ble_eq_true rfl)) d_X_root_17 ⟨Nat.le_of_ble_eq_true rfl, Nat.le_of_ble_eq_true rfl⟩) (fun u3 H locs pr HW => ?_)
        obtain ⟨N', dt', opf', hR', hfr', hfre, -⟩ := pr
        obtain ⟨hX', -, -, -, -, -, -, hN', hT', hF', -⟩ := id hR'
        unfold ht_xo at hX'
        have htF := (hT'.2.2.1.1 t rfl).1
        have htc := (hN' t htF).1
        have hth := (hN' t htF).2.2.1
        refine lv_aload_n hx hb d_X_root_20 rfl (lv_at hl 0 rfl) ?_
        refine ht_get (C := R_X) (T := F_X) (N := 9) (v := .ref t) hx hb htb i_X hown HW hX' rfl 3 (by decide) (htb _ wd_43) (fun _ h9 => h9) rfl d_X_root_21 ?_
        refine ht_ngt hx hb htb hown HW htc 2 (by decide) (htb _ wd_137) (fun _ h9 => h9) (v := .ref (A t).2.1) rfl d_X_root_24 ?_
        refine lv_iload_n hx hb d_X_root_27 rfl (lv_at hl 1 rfl) ?_
        refine ht_lald hx hb HW hth (by rw [ej]; exact vp_in_nI (by omega) (by omega)) d_X_root_28 ?_
        refine lv_topl (fun vv evv => ?_)
        have evv : vv = (ht_kf (ht_rh (N' t))) j := by rw [evv, ej, nI_clamp (by omega)]
        exact ht_lret hx hb hr hlocks HW ⟨N', dt', opf', hR', hfr', Or.inl ⟨j, hj, ej, by rw [evv, hF'.1 t rfl (hfre t rfl), hT'.U_top]⟩⟩ d_X_root_29
      · exact absurd c11 (by decide)
    · have er := pi.2 hisn
      subst er
      refine W.eq (g2 := F0 _ 11 ls [.int 0]) rfl ?_
      refine lv_if_ne (tgt := 16) hx hb d_X_root_11 (by decide) (fun c11 => ?_) (fun c11 => ?_)
      · exact absurd rfl c11
      · refine lv_lconst (v := 0) hx hb d_X_root_14 (by decide) ?_
        exact ht_lret hx hb hr hlocks HW ⟨N, dt, opf, hR, ht_fr.rf, Or.inr ⟨hisn, rfl⟩⟩ d_X_root_15
def ht_db (x : Int64) (n : Nat) : Nat → Int32 := fun i => ht_by x (n - 1 - i % n)
theorem ht_S8.db {x : Int64} {n t : Nat} {d : ht_D} (h : ht_S8 (ht_db x n) (n * t) d) (hn : n ≤ 8) (ht : t ≤ 500) : ht_S8 (ht_db x n) (n * (t + 1)) (ht_tl d x n) := by
  have hb : n * t ≤ 8 * 500 := Nat.mul_le_mul hn ht
  rw [Nat.mul_succ]
  refine ht_S8.tl n (n * t) d h (by omega) (fun i hi => ?_)
  unfold ht_db
  rw [Nat.mul_add_mod, Nat.mod_eq_of_lt hi]
theorem ht_rngG {x : Int32} {n : Nat} (hn : n + 1 < 2 ^ 31) (h0 : ¬ x < 0) (h1 : ¬ nI n < x) : ∃ a : Nat, a ≤ n ∧ x = nI a := by
  obtain ⟨j, hj, rfl⟩ := nI_of h0
  exact ⟨j, Nat.not_lt.mp (fun q => h1 (nI_lt q hj)), rfl⟩
theorem ht_rngG0 {x : Int32} {n : Nat} (hn : n + 1 < 2 ^ 31) (h0 : x < 0) : ¬ ∃ a : Nat, a ≤ n ∧ x = nI a := fun ⟨a, ha, e⟩ => nI_pos (n := a) (by omega) (by rw [← e]; exact h0)
theorem ht_rngG1 {x : Int32} {n : Nat} (hn : n + 1 < 2 ^ 31) (h0 : nI n < x) : ¬ ∃ a : Nat, a ≤ n ∧ x = nI a := fun ⟨a, ha, e⟩ => Int32.not_le.mpr (by rw [e] at h0; exact h0) (nI_le ha (by omega))
set_option maxHeartbeats 4000000 in
set_option maxRecDepth 100000 in
theorem c_X_digest (l : Launch) (g : ht_G) (w : ht_W) {dgf : Int32 → ht_K → ht_K → ht_K} {X : Nat → Nat} {tg : Nat → Nat × Nat} {k : ht_K} {N : ht_N} {A : ht_AA} {F : List Nat} {top : Option Nat} {L : ht_L} {dt : ht_D} {opf : Nat → Option Nat} {sbf lsf enf : Nat → Int64} {ei : Int32} (hR : ht_Rp dgf g w X tg k N A F top L dt opf sbf lsf enf ei) (bs : Int64) (bn tm i : Int32) : Met l y_X_digest ws_X_digest ({ frames := 4, cells := 0, slots := 0, locals := 130 } : Room) (va_Pc [.ref (X 0), .long bs, .int bn, .int tm, .int i] (ht_WS g w)) (ht_Ql g (fun r u => ∃ (dt' : ht_D), ht_Rp dgf g u X tg k N A F top L dt' opf sbf lsf enf ei ∧ ht_fr (fun b => (tg b).1 ≠ 0) w u ∧ ((∃ n0 t0 j, n0 ≤ 8 ∧ t0 ≤ 500 ∧ j < 4 ∧ bn = nI n0 ∧ tm = nI t0 ∧ i = nI j ∧ r = ht_nu (ht_sw (ht_pad (ht_db bs n0) (n0 * t0)) ((n0 * t0 + 72) / 64)) j) ∨ (((¬ ∃ n0 : Nat, n0 ≤ 8 ∧ bn = nI n0) ∨ (¬ ∃ t0 : Nat, t0 ≤ 500 ∧ tm = nI t0) ∨ ¬ ht_isn i) ∧ r = 0)))) 0 0 (ht_A g) := by
  refine Met.ofW (cc := b_X_digest) (maxL := 7) (ret := (some .long)) (by decide) rfl ?_
  intro p e s m args below meth c s₁ BB hml hv
  obtain ⟨rfl, HW⟩ := hv
  have HW := ht_I.start HW
  have hx := BB.exec
  have hb := BB.bytes
  have hr := BB.returns
  have hts := atoms_spec (ws := ws_X_digest) BB.pre
  have htb : ∀ w ∈ bg, w.before _ s = true := fun w h => hts w (List.mem_cons_of_mem _ h)
  have hown : s.vm.findClass R_X = some m.cls := findClass_of_methodNamed BB.named
  have hlocks := BB.notSynchronized
  have hl := lv_entry ([.ref (X 0), .long bs, .int bn, .int tm, .int i]) (n := 7) (Nat.le_of_ble_eq_true rfl)
  rw [lg_entry_eq]
  generalize (lg_sl ([.ref (X 0), .long bs, .int bn, .int tm, .int i]) ++ List.replicate (7 - (lg_sl ([.ref (X 0), .long bs, .int bn, .int tm, .int i])).length) Slot.unset).toArray = ls at hl ⊢
  have hl : lv_has ls 7 [(0, .ref (X 0)), (1, .long bs), (3, .int bn), (4, .int tm), (5, .int i)] := hl
  obtain ⟨hX, hK, hDg, hOp, hSb, hLs, hEn, hN, hT, hF, htg, hlen⟩ := id hR
  unfold ht_xo at hX
  obtain ⟨hDu, -, -⟩ := id hDg
  have loop : ∀ (n0 t0 j : Nat), n0 ≤ 8 → t0 ≤ 500 → j < 4 → bn = nI n0 → tm = nI t0 → i = nI j → ∀ (r z : Nat), z + r = t0 → ∀ (d1 : ht_D) (u : ht_W), u = ht_dw g w (X 2) (X 3) (X 4) d1 → ht_S8 (ht_db bs n0) (n0 * z) d1 → ∀ (H : Heap) (locs : List Loc) (ls : Array Slot) (iv : Int32), iv = nI z → ht_I g s u H locs → lv_has ls 7 [(0, .ref (X 0)), (1, .long bs), (3, .int bn), (4, .int tm), (5, .int i), (6, .int iv)] → W p l e (headSpec ws_X_digest ({ frames := 4, cells := 0, slots := 0, locals := 130 } : Room)).room s m ([.ref (X 0), .long bs, .int bn, .int tm, .int i] : List Value).toArray below meth c H locs 0 0 (MQ below (ht_Ql g (fun r u => ∃ (dt' : ht_D), ht_Rp dgf g u X tg k N A F top L dt' opf sbf lsf enf ei ∧ ht_fr (fun b => (tg b).1 ≠ 0) w u ∧ ((∃ n0 t0 j, n0 ≤ 8 ∧ t0 ≤ 500 ∧ j < 4 ∧ bn = nI n0 ∧ tm = nI t0 ∧ i = nI j ∧ r = ht_nu (ht_sw (ht_pad (ht_db bs n0) (n0 * t0)) ((n0 * t0 + 72) / 64)) j) ∨ (((¬ ∃ n0 : Nat, n0 ≤ 8 ∧ bn = nI n0) ∨ (¬ ∃ t0 : Nat, t0 ≤ 500 ∧ tm = nI t0) ∨ ¬ ht_isn i) ∧ r = 0)))) ([.ref (X 0), .long bs, .int bn, .int tm, .int i] : List Value).toArray s 0 0 (ht_A g)) (F0 m 43 ls []) := by
      intro n0 t0 j hn0 ht0 hj en0 et0 ej r
      induction r with
      | zero =>
        intro z hz d1 u hu hS H locs ls iv eiv HW hl
        have hRu : ht_Rp dgf g u X tg k N A F top L d1 opf sbf lsf enf ei := by rw [hu]; exact hR.dw
        obtain ⟨hX, -, hDgu, -⟩ := id hRu
        unfold ht_xo at hX
        obtain ⟨hDu, -, -⟩ := id hDgu
        refine lv_iload hx hb d_X_digest_43 (lv_at hl 5 rfl) ?_
        refine lv_iload hx hb d_X_digest_45 (lv_at hl 3 rfl) ?_
        refine lv_icmp_ge (tgt := 65) hx hb d_X_digest_47 (by decide) (fun c47 => ?_) (fun c47 => ?_)
        · refine lv_aload_n hx hb d_X_digest_65 rfl (lv_at hl 0 rfl) ?_
          refine ht_get (C := R_X) (T := F_X) (N := 9) (v := .ref (X 2)) hx hb htb i_X hown HW hX rfl 1 (by decide) (htb _ wd_41) (fun _ h9 => h9) rfl d_X_digest_66 ?_
          refine ht_cv HW (va_runV (own := R_X) (C := R_D) (As := []) (rest := []) ⟨hx, hb, hml, hown, htb⟩ (c_D_finish l g u hDgu) (cwV 0 htb (ht_gv wd_301 wd_256 wd_257 wd_2 g_D_finish) rfl rfl rfl (by decide +kernel) ⟨Nat.le_of_ble_eq_true rfl, Nat.le_of_ble_eq_true rfl⟩) (HW.preV hDu rfl _) rfl rfl hl.1 rfl (lv_room (Nat.le_of_ble_eq_true rfl)) d_X_digest_69 ⟨Nat.le_of_ble_eq_true rfl, Nat.le_of_ble_eq_true rfl⟩) (fun u1 H locs pf HW => ?_)
          have eu2 : u1 = ht_dw g w (X 2) (X 3) (X 4) (ht_fi d1) := by rw [pf, hu, hDg.dw]
          have hRu2 : ht_Rp dgf g u1 X tg k N A F top L (ht_fi d1) opf sbf lsf enf ei := by rw [eu2]; exact hR.dw
          obtain ⟨hX, -, hDg2, -⟩ := id hRu2
          unfold ht_xo at hX
          obtain ⟨hDu, -, -⟩ := id hDg2
          refine lv_aload_n hx hb d_X_digest_72 rfl (lv_at hl 0 rfl) ?_
          refine ht_get (C := R_X) (T := F_X) (N := 9) (v := .ref (X 2)) hx hb htb i_X hown HW hX rfl 1 (by decide) (htb _ wd_41) (fun _ h9 => h9) rfl d_X_digest_73 ?_
          refine lv_iload hx hb d_X_digest_76 (lv_at hl 4 rfl) ?_
          refine ht_cl HW (va_runV (own := R_X) (C := R_D) (As := [.int i]) (rest := []) ⟨hx, hb, hml, hown, htb⟩ (c_D_number l g u1 hDg2 j hj i ej) (cwV 1 htb (ht_gv wd_302 wd_261 wd_262 wd_2 g_D_number) rfl rfl rfl (by decide +kernel) ⟨Nat.le_of_ble_eq_true rfl, Nat.le_of_ble_eq_true rfl⟩) (HW.preV hDu rfl _) rfl rfl hl.1 rfl (lv_room (Nat.le_of_ble_eq_true rfl)) d_X_digest_78 ⟨Nat.le_of_ble_eq_true rfl, Nat.le_of_ble_eq_true rfl⟩) (fun rr u2 H locs pu2 HW => ?_)
          obtain ⟨err, eu2⟩ := pu2
          subst eu2
          exact ht_lret hx hb hr hlocks HW ⟨ht_fi d1, hRu2, by rw [eu2]; exact ht_frp (by rw [htg.1 2 (by decide)]; decide) (by rw [htg.1 3 (by decide)]; decide) (by rw [htg.1 4 (by decide)]; decide), Or.inl ⟨n0, t0, j, hn0, ht0, hj, en0, et0, ej, by rw [err, ht_fi_sw hS (by have : n0 * z ≤ 8 * 500 := Nat.mul_le_mul hn0 (by omega); omega), show z = t0 by omega]⟩⟩ d_X_digest_81
        · exact absurd (by rw [et0, eiv, show z = t0 by omega]; exact Int32.le_refl _) c47
      | succ r ih =>
        intro z hz d1 u hu hS H locs ls iv eiv HW hl
        have hRu : ht_Rp dgf g u X tg k N A F top L d1 opf sbf lsf enf ei := by rw [hu]; exact hR.dw
        obtain ⟨hX, -, hDgu, -⟩ := id hRu
        unfold ht_xo at hX
        obtain ⟨hDu, -, -⟩ := id hDgu
        refine lv_iload hx hb d_X_digest_43 (lv_at hl 5 rfl) ?_
        refine lv_iload hx hb d_X_digest_45 (lv_at hl 3 rfl) ?_
        refine lv_icmp_ge (tgt := 65) hx hb d_X_digest_47 (by decide) (fun c47 => ?_) (fun c47 => ?_)
        · exact absurd (show nI t0 ≤ nI z by rw [et0, eiv] at c47; exact c47) (nI_ge (by omega) (by omega))
        · refine lv_aload_n hx hb d_X_digest_50 rfl (lv_at hl 0 rfl) ?_
          refine ht_get (C := R_X) (T := F_X) (N := 9) (v := .ref (X 2)) hx hb htb i_X hown HW hX rfl 1 (by decide) (htb _ wd_41) (fun _ h9 => h9) rfl d_X_digest_51 ?_
          refine lv_lload_n hx hb d_X_digest_54 rfl (lv_at hl 1 rfl) ?_
          refine lv_iload_n hx hb d_X_digest_55 rfl (lv_at hl 2 rfl) ?_
          refine ht_cv HW (va_runV (own := R_X) (C := R_D) (As := [.long bs, .int bn]) (rest := []) ⟨hx, hb, hml, hown, htb⟩ (c_D_takeLowest l g u hDgu bs n0 hn0 bn en0) (cwV 2 htb (ht_gv wd_300 wd_252 wd_253 wd_2 g_D_takeLowest) rfl rfl rfl (by decide +kernel) ⟨Nat.le_of_ble_eq_true rfl, Nat.le_of_ble_eq_true rfl⟩) (HW.preV hDu rfl _) rfl rfl hl.1 rfl (lv_room (Nat.le_of_ble_eq_true rfl)) d_X_digest_56 ⟨Nat.le_of_ble_eq_true rfl, Nat.le_of_ble_eq_true rfl⟩) (fun u1 H locs pt HW => ?_)
          obtain ⟨iv2, eiv2⟩ : ∃ zI : Int32, zI = iv + 1 := ⟨_, rfl⟩
          refine lv_iinc (v := iv2) (lv' := [(6, .int iv2), (0, .ref (X 0)), (1, .long bs), (3, .int bn), (4, .int tm), (5, .int i)]) hx hb d_X_digest_59 hl (k := 5) rfl (by rw [eiv2]; rfl) (by decide) rfl (fun ls hl => ?_)
          refine lv_goto (tgt := 43) hx hb d_X_digest_62 (by decide) ?_
          exact ih (z + 1) (by omega) _ u1 (by rw [pt, hu, hDg.dw]) (hS.db hn0 (by omega)) _ _ _ iv2 (by rw [eiv2, eiv, nI_1]) HW (lv_sub hl [1, 2, 3, 4, 5, 0] rfl)
  refine lv_iload_n hx hb d_X_digest_0 rfl (lv_at hl 2 rfl) ?_
  refine lv_if_lt (tgt := 31) hx hb d_X_digest_1 (by decide) (fun c1 => ?_) (fun c1 => ?_)
  · have hout : (¬ ∃ n0 : Nat, n0 ≤ 8 ∧ bn = nI n0) ∨ (¬ ∃ t0 : Nat, t0 ≤ 500 ∧ tm = nI t0) ∨ ¬ ht_isn i := Or.inl (ht_rngG0 (n := 8) (by decide) c1)
    refine lv_lconst (v := 0) hx hb d_X_digest_31 (by decide) ?_
    exact ht_lret hx hb hr hlocks HW ⟨dt, hR, ht_fr.rf, Or.inr ⟨hout, rfl⟩⟩ d_X_digest_32
  · refine lv_iload_n hx hb d_X_digest_4 rfl (lv_at hl 2 rfl) ?_
    refine lv_bipush (v := 8) hx hb d_X_digest_5 (by decide) ?_
    refine lv_icmp_gt (tgt := 31) hx hb d_X_digest_7 (by decide) (fun c7 => ?_) (fun c7 => ?_)
    · have hout : (¬ ∃ n0 : Nat, n0 ≤ 8 ∧ bn = nI n0) ∨ (¬ ∃ t0 : Nat, t0 ≤ 500 ∧ tm = nI t0) ∨ ¬ ht_isn i := Or.inl (ht_rngG1 (n := 8) (by decide) c7)
      refine lv_lconst (v := 0) hx hb d_X_digest_31 (by decide) ?_
      exact ht_lret hx hb hr hlocks HW ⟨dt, hR, ht_fr.rf, Or.inr ⟨hout, rfl⟩⟩ d_X_digest_32
    · obtain ⟨n0, hn0, en0⟩ := ht_rngG (n := 8) (by decide) c1 c7
      refine lv_iload hx hb d_X_digest_10 (lv_at hl 3 rfl) ?_
      refine lv_if_lt (tgt := 31) hx hb d_X_digest_12 (by decide) (fun c12 => ?_) (fun c12 => ?_)
      · have hout : (¬ ∃ n0 : Nat, n0 ≤ 8 ∧ bn = nI n0) ∨ (¬ ∃ t0 : Nat, t0 ≤ 500 ∧ tm = nI t0) ∨ ¬ ht_isn i := Or.inr (Or.inl (ht_rngG0 (n := 500) (by decide) c12))
        refine lv_lconst (v := 0) hx hb d_X_digest_31 (by decide) ?_
        exact ht_lret hx hb hr hlocks HW ⟨dt, hR, ht_fr.rf, Or.inr ⟨hout, rfl⟩⟩ d_X_digest_32
      · refine lv_iload hx hb d_X_digest_15 (lv_at hl 3 rfl) ?_
        refine lv_sipush (v := 500) hx hb d_X_digest_17 (by decide) ?_
        refine lv_icmp_gt (tgt := 31) hx hb d_X_digest_20 (by decide) (fun c20 => ?_) (fun c20 => ?_)
        · have hout : (¬ ∃ n0 : Nat, n0 ≤ 8 ∧ bn = nI n0) ∨ (¬ ∃ t0 : Nat, t0 ≤ 500 ∧ tm = nI t0) ∨ ¬ ht_isn i := Or.inr (Or.inl (ht_rngG1 (n := 500) (by decide) c20))
          refine lv_lconst (v := 0) hx hb d_X_digest_31 (by decide) ?_
          exact ht_lret hx hb hr hlocks HW ⟨dt, hR, ht_fr.rf, Or.inr ⟨hout, rfl⟩⟩ d_X_digest_32
        · obtain ⟨t0, ht0, et0⟩ := ht_rngG (n := 500) (by decide) c12 c20
          refine lv_iload hx hb d_X_digest_23 (lv_at hl 4 rfl) ?_
          refine ht_ci HW (va_runS (own := R_X) (As := [.int i]) (rest := []) ⟨hx, hb, hml, hown, htb⟩ (c_X_isNumber l g w i) (va_cwS 1 htb (ht_gs wd_198 wd_199 wd_1 g_X_isNumber) rfl rfl rfl (by decide +kernel) ⟨Nat.le_of_ble_eq_true rfl, Nat.le_of_ble_eq_true rfl⟩) (HW.preS _) rfl rfl hl.1 rfl (lv_room (Nat.le_of_ble_eq_true rfl)) d_X_digest_25 ⟨Nat.le_of_ble_eq_true rfl, Nat.le_of_ble_eq_true rfl⟩) (fun q2 u1 H locs pi HW => ?_)
          obtain ⟨pi, eww⟩ := pi
          subst eww
          rcases ht_isn_or i with hisn | hisn
          · have er := pi.1 hisn
            subst er
            refine W.eq (g2 := F0 _ 28 ls [.int 1]) rfl ?_
            obtain ⟨j, hj, ej⟩ := id hisn
            refine lv_if_ne (tgt := 33) hx hb d_X_digest_28 (by decide) (fun c28 => ?_) (fun c28 => ?_)
            · refine lv_aload_n hx hb d_X_digest_33 rfl (lv_at hl 0 rfl) ?_
              refine ht_get (C := R_X) (T := F_X) (N := 9) (v := .ref (X 2)) hx hb htb i_X hown HW hX rfl 1 (by decide) (htb _ wd_41) (fun _ h9 => h9) rfl d_X_digest_34 ?_
              refine ht_cv HW (va_runV (own := R_X) (C := R_D) (As := []) (rest := []) ⟨hx, hb, hml, hown, htb⟩ (c_D_begin l g w hDg) (cwV 0 htb (ht_gv wd_299 wd_226 wd_227 wd_2 g_D_begin) rfl rfl rfl (by decide +kernel) ⟨Nat.le_of_ble_eq_true rfl, Nat.le_of_ble_eq_true rfl⟩) (HW.preV hDu rfl _) rfl rfl hl.1 rfl (lv_room (Nat.le_of_ble_eq_true rfl)) d_X_digest_37 ⟨Nat.le_of_ble_eq_true rfl, Nat.le_of_ble_eq_true rfl⟩) (fun u3 H locs pb HW => ?_)
              refine lv_iconst (v := 0) hx hb d_X_digest_40 (by decide) ?_
              refine lv_istore (lv' := [(6, .int 0), (0, .ref (X 0)), (1, .long bs), (3, .int bn), (4, .int tm), (5, .int i)]) hx hb d_X_digest_41 hl (by decide) rfl (fun ls hl => ?_)
              exact loop n0 t0 j hn0 ht0 hj en0 et0 ej t0 0 (by omega) _ u3 pb (by rw [Nat.mul_zero]; exact ht_S8.start _ _) _ _ _ 0 rfl HW (lv_sub hl [1, 2, 3, 4, 5, 0] rfl)
            · exact absurd c28 (by decide)
          · have er := pi.2 hisn
            subst er
            refine W.eq (g2 := F0 _ 28 ls [.int 0]) rfl ?_
            refine lv_if_ne (tgt := 33) hx hb d_X_digest_28 (by decide) (fun c28 => ?_) (fun c28 => ?_)
            · exact absurd rfl c28
            · refine lv_lconst (v := 0) hx hb d_X_digest_31 (by decide) ?_
              exact ht_lret hx hb hr hlocks HW ⟨dt, hR, ht_fr.rf, Or.inr ⟨Or.inr (Or.inr hisn), rfl⟩⟩ d_X_digest_32
