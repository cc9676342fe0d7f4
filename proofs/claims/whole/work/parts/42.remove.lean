theorem ht_T.cg {N N' : ht_N} {F : List Nat} {top : Option Nat} {l : ht_L} (h : ht_T N F top l) (hc : ∀ a, ht_rk (N' a) = ht_rk (N a) ∧ ht_rl (N' a) = ht_rl (N a) ∧ ht_rp (N' a) = ht_rp (N a)) : ht_T N' F top l := by
  obtain ⟨t1, t2, t3, t4, t5, t6, t7, t8⟩ := h
  have hi : ∀ a x, ht_in N' a x ↔ ht_in N a x := fun a x => by unfold ht_in; rw [(hc a).1, (hc a).2.1]
  refine ⟨t1, t2, ⟨fun t ht => ⟨(t3.1 t ht).1, fun q hq => (hi t _).mpr ((t3.1 t ht).2 q hq)⟩, t3.2⟩, fun a ha v hv => ?_, fun q hq => ?_, fun a ha zo hz => ?_, fun a ha b hb hl hin => ?_, fun a ha => ?_⟩
  · rw [(hc a).2.2] at hv
    rw [(hc a).1, (hc a).2.1]
    exact t4 a ha v hv
  · obtain ⟨a, ha, x, y⟩ := t5 q hq
    exact ⟨a, ha, by rw [(hc a).2.2]; exact x, by rw [(hc a).1]; exact y⟩
  · rw [(hc a).2.2] at hz
    obtain ⟨x, y⟩ := t6 a ha zo hz
    refine ⟨by rw [(hc a).2.1]; exact x, fun b => ⟨(y b).1, by rw [(hc a).2.1, (hc _).2.1]; exact (y b).2.1, fun q hq => ?_⟩⟩
    rw [hi, hi, (hc a).2.1]
    exact (y b).2.2 q hq
  · rw [(hc a).2.1, (hc b).2.1] at hl
    rw [(hc b).1, hi] at hin
    exact t7 a ha b hb hl hin
  · obtain ⟨q, hq, x⟩ := t8 a ha
    exact ⟨q, hq, (hi a _).mpr x⟩
theorem ht_in_cg {N N' : ht_N} (hc : ∀ a, ht_rk (N' a) = ht_rk (N a) ∧ ht_rl (N' a) = ht_rl (N a) ∧ ht_rp (N' a) = ht_rp (N a)) (a : Nat) (x : ht_K) : ht_in N' a x ↔ ht_in N a x := by
  unfold ht_in
  rw [(hc a).1, (hc a).2.1]
theorem ht_part_self (k : ht_K) : ht_part k k = 256 := ht_part_eq.mpr rfl
theorem ht_pk (k v : ht_K) : ht_part k (k, v).1 = 256 := ht_part_self k
/-- the node at which a key's way stands behind the branch ab, below level p -/
theorem ht_slot.be {N : ht_N} {F : List Nat} {top : Option Nat} {l : ht_L} {k : ht_K} {ab : Option Nat} {be P : Nat} (h : ht_T N F top l) (hP : P ∈ F) (hi : ht_in N P k) (hs : ht_slot N F top k (ht_rl (N P)) ab be) {v : ht_K} (hkv : (k, v) ∈ l) : be = P := by
  have hik : ht_in N be k := ht_slot.into (q := (k, v)) h hs hkv (by rw [ht_pk k v]; exact h.lv hP)
  refine h.same hs.1 hP hi hik (Nat.le_antisymm ?_ hs.2.1)
  obtain ⟨h1, h2, ⟨-, h3⟩ | ⟨c, zo, -, hc, hic, hl, hz, he⟩⟩ := hs
  · subst h3
    exact h.topL hP
  · rw [← he]
    exact h.nojump hP hc hz hic hi hl
theorem ht_rem_pure {dgf : Int32 → ht_K → ht_K → ht_K} {N N1 N2 N3 N' : ht_N} {F : List Nat} {top : Option Nat} {L : ht_L} {k v : ht_K} {ab : Option Nat} {m P o : Nat} {zp : Nat × Nat} (h : ht_T N F top L) (hf : ht_FH dgf N F top L) (hm : m ∈ F) (hmv : ht_rp (N m) = .inl v) (hmk : ht_rk (N m) = k) (hP : P ∈ F) (hPz : ht_rp (N P) = .inr zp) (hPm : ht_ch zp (ht_bit k (ht_rl (N P))) = m) (ho : ht_ch zp (!ht_bit k (ht_rl (N P))) = o)
    (hab : (ab = none ∧ top = some P) ∨ ∃ c zc, ab = some c ∧ c ∈ F ∧ ht_rp (N c) = .inr zc ∧ ht_ch zc (ht_bit k (ht_rl (N c))) = P) (hk1 : ht_mkd N F k 256 N1) (e2 : N2 = va_up N1 o (ht_sf (N1 o) false)) (hk3 : ht_mkd N2 F k (ht_rl (N P)) N3)
    (hn' : ∀ a, ht_rk (N' a) = ht_rk (N3 a) ∧ ht_rl (N' a) = ht_rl (N3 a) ∧ ht_rh (N' a) = ht_rh (N3 a) ∧ ht_rf (N' a) = ht_rf (N3 a)) (hpn : ∀ a, ab ≠ some a → ht_rp (N' a) = ht_rp (N3 a)) (hpa : ∀ a zo, ab = some a → ht_rp (N a) = .inr zo → ht_rp (N' a) = .inr (ht_zo zo (ht_bit k (ht_rl (N a))) o)) :
    ht_T N' ((F.erase m).erase P) (if ab = none then some o else top) (L.erase (k, v)) ∧ ht_FH dgf N' ((F.erase m).erase P) (if ab = none then some o else top) (L.erase (k, v)) := by
  have c2 : ∀ a, ht_rk (N2 a) = ht_rk (N a) ∧ ht_rl (N2 a) = ht_rl (N a) ∧ ht_rp (N2 a) = ht_rp (N a) ∧ ht_rh (N2 a) = ht_rh (N a) := by
    intro a
    rw [e2]
    by_cases e : a = o
    · rw [e, va_up_self]
      exact ⟨(hk1.rp o).2.1, (hk1.rp o).2.2.1, (hk1.rp o).1, (hk1.rp o).2.2.2⟩
    · rw [va_up_ne _ _ e]
      exact ⟨(hk1.rp a).2.1, (hk1.rp a).2.2.1, (hk1.rp a).1, (hk1.rp a).2.2.2⟩
  have hkl : ∀ a ∈ F, ht_rk (N' a) = ht_rk (N a) ∧ ht_rl (N' a) = ht_rl (N a) := fun a _ => ⟨(hn' a).1.trans ((hk3.rp a).2.1.trans (c2 a).1), (hn' a).2.1.trans ((hk3.rp a).2.2.1.trans (c2 a).2.1)⟩
  have hpn2 : ∀ a ∈ F, ab ≠ some a → ht_rp (N' a) = ht_rp (N a) := fun a _ ha => (hpn a ha).trans ((hk3.rp a).1.trans (c2 a).2.2.1)
  subst ho
  have hT' := h.remove (N' := N') hm hmv hmk hP hPz hPm hab hkl hpn2 hpa
  have hF : ∀ {a : Nat}, a ∈ (F.erase m).erase P ↔ a ∈ F ∧ a ≠ m ∧ a ≠ P := by
    intro a
    rw [(h.1.erase m).mem_erase_iff, h.1.mem_erase_iff]
    exact ⟨fun x => ⟨x.2.2, x.2.1, x.1⟩, fun x => ⟨x.2.2, x.2.1, x.1⟩⟩
  refine ⟨hT', ht_FH.remove h hf hm hmv hmk hP hPz hPm hab hT' hkl hpn2 hpa (fun a ha hr => ?_) (fun a ha hr hn hne => ?_)⟩
  · obtain ⟨haF, ham, -⟩ := hF.mp ha
    rw [(hn' a).2.2.2] at hr
    have q3 : N3 a = N2 a := by
      rcases hk3.1 a with q | q
      · exact q
      · rw [q] at hr; cases hr
    rw [q3, e2] at hr
    have hao : a ≠ ht_ch zp (!ht_bit k (ht_rl (N P))) := fun z => by rw [z, va_up_self] at hr; cases hr
    rw [va_up_ne _ _ hao] at hr
    have q1 : N1 a = N a := by
      rcases hk1.1 a with q | q
      · exact q
      · rw [q] at hr; cases hr
    refine ⟨by rw [← q1]; exact hr, (hn' a).2.2.1.trans ((hk3.rp a).2.2.2.trans (c2 a).2.2.2), fun hi => ?_, hao⟩
    cases hpx : ht_rp (N a) with
    | inl y => exact ham (h.leaf_eq hm haF hmv hpx (((h.leaf_in haF hpx k).mp hi).trans hmk.symm))
    | inr zo =>
      have := hk1.2.1 a haF hi ⟨zo, hpx⟩ (h.half haF hpx false).2.1
      rw [this] at hr; cases hr
  · have hi2 : ¬ ht_in N2 a k := fun z => hn ((ht_in_cg (fun b => ⟨(c2 b).1, (c2 b).2.1, (c2 b).2.2.1⟩) a k).mp z)
    rw [(hn' a).2.2.2, hk3.2.2 a hi2, e2, va_up_ne _ _ hne, hk1.2.2 a hn]
    exact hr
theorem ht_Nd.sub {g : ht_G} {w : ht_W} {N : ht_N} {A : ht_AA} {F F' : List Nat} (h : ht_Nd g w N A F) (hs : ∀ a ∈ F', a ∈ F) : ht_Nd g w N A F' := fun a ha => h a (hs a ha)
theorem ht_er_sub {F : List Nat} {m P : Nat} : ∀ a ∈ (F.erase m).erase P, a ∈ F := fun _ h => List.mem_of_mem_erase (List.mem_of_mem_erase h)
set_option maxHeartbeats 4000000 in
set_option maxRecDepth 100000 in
theorem c_X_remove (l : Launch) (g : ht_G) (w : ht_W) {dgf : Int32 → ht_K → ht_K → ht_K} {X : Nat → Nat} {tg : Nat → Nat × Nat} {k : ht_K} {N : ht_N} {A : ht_AA} {F : List Nat} {top : Option Nat} {L : ht_L} {dt : ht_D} {opf : Nat → Option Nat} {sbf lsf enf : Nat → Int64} {ei : Int32} (hR : ht_Rp dgf g w X tg k N A F top L dt opf sbf lsf enf ei) : Met l y_X_remove ws_X_remove ({ frames := 4, cells := 0, slots := 0, locals := 140 } : Room) (va_Pc [.ref (X 0)] (ht_WS g w)) (ht_Qi g (fun r u => ∃ (N' : ht_N) (F' : List Nat) (top' : Option Nat) (L' : ht_L), ht_Rp dgf g u X tg k N' A F' top' L' dt opf sbf lsf enf ei ∧ ht_fr (fun b => (tg b).1 ≠ 0) w u ∧ ((r = -2 ∧ (∀ q ∈ L, q.1 ≠ k) ∧ L' = L) ∨ (r = 1 ∧ ∃ v0, (k, v0) ∈ L ∧ L' = L.erase (k, v0))))) 0 0 (ht_A g) := by
  refine Met.ofW (cc := b_X_remove) (maxL := 3) (ret := (some .int)) (by decide) rfl ?_
  intro p e s m args below meth c s₁ BB hml hv
  obtain ⟨rfl, HW⟩ := hv
  have HW := ht_I.start HW
  have hx := BB.exec
  have hb := BB.bytes
  have hr := BB.returns
  have hts := atoms_spec (ws := ws_X_remove) BB.pre
  have htb : ∀ w ∈ bg, w.before _ s = true := fun w h => hts w (List.mem_cons_of_mem _ h)
  have hown : s.vm.findClass R_X = some m.cls := findClass_of_methodNamed BB.named
  have hlocks := BB.notSynchronized
  have hl := lv_entry ([.ref (X 0)]) (n := 3) (Nat.le_of_ble_eq_true rfl)
  rw [lg_entry_eq]
  generalize (lg_sl ([.ref (X 0)]) ++ List.replicate (3 - (lg_sl ([.ref (X 0)])).length) Slot.unset).toArray = ls at hl ⊢
  have hl : lv_has ls 3 [(0, .ref (X 0))] := hl
  obtain ⟨hX, hK, hDg, hOp, hSb, hLs, hEn, hN, hT, hF, htg, hlen⟩ := id hR
  unfold ht_xo at hX
  have n_X_0_X_1 : X 0 ≠ X 1 := ht_tne (htg.1 0 (by decide)) (htg.1 1 (by decide)) (by decide)
  refine lv_aload_n hx hb d_X_remove_0 rfl (lv_at hl 0 rfl) ?_
  refine ht_cq HW (va_runV (own := R_X) (C := R_X) (As := []) (rest := []) ⟨hx, hb, hml, hown, htb⟩ (c_X_leafOfKey l g w hX hK hN hT) (cwV 0 htb (ht_gv wd_79 wd_81 sl_0 wd_1 g_X_leafOfKey) rfl rfl rfl (by decide +kernel) ⟨Nat.le_of_ble_eq_true rfl, Nat.le_of_ble_eq_true rfl⟩) (HW.preV hX rfl _) rfl rfl hl.1 rfl (lv_room (Nat.le_of_ble_eq_true rfl)) d_X_remove_1 ⟨Nat.le_of_ble_eq_true rfl, Nat.le_of_ble_eq_true rfl⟩) (fun q2 u1 H locs pn HW => ?_)
  obtain ⟨pn, eww⟩ := pn
  subst eww
  rcases pn with ⟨er, hnk⟩ | ⟨b, v0, er, hbF, hp, hbk⟩
  · subst er
    refine W.eq (g2 := F0 _ 4 ls [.null]) rfl ?_
    refine lv_ifnonnullN hx hb d_X_remove_4 ?_
    refine lv_bipush (v := -2) hx hb d_X_remove_7 (by decide) ?_
    exact ht_iret hx hb hr hlocks HW ⟨N, F, top, L, hR, ht_fr.rf, Or.inl ⟨rfl, hnk, rfl⟩⟩ d_X_remove_9
  · subst er
    refine W.eq (g2 := F0 _ 4 ls [.ref b]) rfl ?_
    obtain ⟨t, ett⟩ : ∃ t, some t = top := by
      cases top with
      | none => rw [(hT.2.2.1.2 rfl).1] at hbF; cases hbF
      | some t => exact ⟨t, rfl⟩
    subst ett
    have hkv : (k, v0) ∈ L := by rw [← hbk]; exact (hT.2.2.2.1 b hbF v0 hp).2
    have hib : ht_in N b k := (hT.leaf_in hbF hp k).mpr hbk
    have hb256 := (hT.2.2.2.1 b hbF v0 hp).1
    refine lv_ifnonnull (tgt := 10) hx hb d_X_remove_4 (by decide) ?_
    refine lv_aload_n hx hb d_X_remove_10 rfl (lv_at hl 0 rfl) ?_
    refine lv_sipush (v := 256) hx hb d_X_remove_11 (by decide) ?_
    refine ht_cq HW (va_runV (own := R_X) (C := R_X) (As := [.int 256]) (rest := []) ⟨hx, hb, hml, hown, htb⟩ (c_X_stalePath l g w (t := t) hX hK hN hT 256 (Nat.le_refl _) 256 rfl hkv (Nat.le_of_eq (ht_pk k v0).symm)) (cwV 1 htb (ht_gv wd_106 wd_108 sl_2 wd_1 g_X_stalePath) rfl rfl rfl (by decide +kernel) ⟨Nat.le_of_ble_eq_true rfl, Nat.le_of_ble_eq_true rfl⟩) (HW.preV hX rfl _) rfl rfl hl.1 rfl (lv_room (Nat.le_of_ble_eq_true rfl)) d_X_remove_14 ⟨Nat.le_of_ble_eq_true rfl, Nat.le_of_ble_eq_true rfl⟩) (fun q4 u3 H locs ps HW => ?_)
    obtain ⟨N1, be, hN1, hfr1, hmk, hsl⟩ := ps
    rw [← hb256] at hsl
    have ebe := hsl.be hT hbF hib hkv
    subst ebe
    have hX : ht_at u3 (X 0) (.inr (0, [.ref (X 1), .ref (X 2), .ref (X 5), .ref t, .int (nI L.length), .ref (X 6), .ref (X 7), .ref (X 8), .int ei]) : va_E) := hfr1.at hX (hR.out 0 (by decide))
    have hK : ht_at u3 (X 1) (ht_al g 4 (ht_kf k)) := hfr1.at hK (hR.out 1 (by decide))
    rcases q4 with _ | P
    · have etb : be = t := by
        rcases hsl.2.2 with ⟨-, q9⟩ | ⟨c9, z9, q9, -⟩
        · exact (Option.some.inj q9).symm
        · cases q9
      subst etb
      refine W.eq (g2 := F0 _ 17 ls [.null]) rfl ?_
      refine lv_astore_nN (lv' := [(1, .null), (0, .ref (X 0))]) hx hb d_X_remove_17 rfl hl (by decide) rfl (fun ls hl => ?_)
      refine lv_aload_nN hx hb d_X_remove_18 rfl (lv_at hl 0 rfl) ?_
      refine lv_ifnonnullN hx hb d_X_remove_19 ?_
      refine lv_aload_n hx hb d_X_remove_22 rfl (lv_at hl 1 rfl) ?_
      refine lv_null hx hb d_X_remove_23 ?_
      refine ht_put (C := R_X) (T := F_X) (N := 9) (v := .null) (ty := .object "HashTree$Node") hx hb htb i_X t_X t_X_ok n_X hown HW hX rfl 3 (by decide) (htb _ wd_43) (fun _ h9 => h9) rfl (by decide +kernel) rfl rfl (Nat.le_of_ble_eq_true rfl) d_X_remove_24 (fun H locs HW => ?_)
      have n_X_1_X_0 : (X 1) ≠ (X 0) := (Ne.symm n_X_0_X_1)
      obtain ⟨u5, hu5⟩ : ∃ zW : ht_W, zW = ht_up u3 (X 0) (.inr (0, [.ref (X 1), .ref (X 2), .ref (X 5), .null, .int (nI L.length), .ref (X 6), .ref (X 7), .ref (X 8), .int ei]) : va_E) := ⟨_, rfl⟩
      have HW : ht_I g s u5 H locs := by rw [hu5]; exact HW
      have hX : ht_at u5 (X 0) (.inr (0, [.ref (X 1), .ref (X 2), .ref (X 5), .null, .int (nI L.length), .ref (X 6), .ref (X 7), .ref (X 8), .int ei]) : va_E) := by rw [hu5]; exact ht_at_self hX
      have hK : ht_at u5 (X 1) (ht_al g 4 (ht_kf k)) := by rw [hu5]; exact ht_at_ne hK n_X_1_X_0
      refine lv_goto (tgt := 72) hx hb d_X_remove_27 (by decide) ?_
      refine lv_aload_n hx hb d_X_remove_72 rfl (lv_at hl 1 rfl) ?_
      refine lv_dup hx hb d_X_remove_73 rfl ?_
      refine ht_get (C := R_X) (T := F_X) (N := 9) (v := .int (nI L.length)) hx hb htb i_X hown HW hX rfl 4 (by decide) (htb _ wd_44) (fun _ h9 => h9) rfl d_X_remove_74 ?_
      refine lv_iconst (v := 1) hx hb d_X_remove_77 (by decide) ?_
      refine lv_isub hx hb d_X_remove_78 ?_
      refine lv_topi (fun cn ecn => ?_)
      have hX6 := hX
      refine ht_put (C := R_X) (T := F_X) (N := 9) (v := .int cn) (ty := .int) hx hb htb i_X t_X t_X_ok n_X hown HW hX rfl 4 (by decide) (htb _ wd_44) (fun _ h9 => h9) rfl (by decide +kernel) rfl rfl (Nat.le_of_ble_eq_true rfl) d_X_remove_79 (fun H locs HW => ?_)
      obtain ⟨u6, hu6⟩ : ∃ zW : ht_W, zW = ht_up u5 (X 0) (.inr (0, [.ref (X 1), .ref (X 2), .ref (X 5), .null, .int cn, .ref (X 6), .ref (X 7), .ref (X 8), .int ei]) : va_E) := ⟨_, rfl⟩
      have HW : ht_I g s u6 H locs := by rw [hu6]; exact HW
      have hX : ht_at u6 (X 0) (.inr (0, [.ref (X 1), .ref (X 2), .ref (X 5), .null, .int cn, .ref (X 6), .ref (X 7), .ref (X 8), .int ei]) : va_E) := by rw [hu6]; exact ht_at_self hX
      have hK : ht_at u6 (X 1) (ht_al g 4 (ht_kf k)) := by rw [hu6]; exact ht_at_ne hK n_X_1_X_0
      refine lv_iconst (v := 1) hx hb d_X_remove_82 (by decide) ?_
      have hpu := hT.remove1 (N' := N) hp hbk
      have hl1 : L.length = 1 := by
        have h9 := List.length_erase_of_mem hkv
        rw [hpu.2] at h9
        have h8 := List.length_pos_of_mem hkv
        simp at h9
        omega
      have hfrI : ht_fr (fun z9 => z9 ∈ F ∨ z9 = X 0) w u6 := by
        rw [hu6, hu5]
        exact ((hfr1.mono (fun z9 h9 => Or.inl h9)).trans (ht_fr.up (S := fun z9 => z9 ∈ F ∨ z9 = X 0) (Or.inr rfl))).trans (ht_fr.up (S := fun z9 => z9 ∈ F ∨ z9 = X 0) (Or.inr rfl))
      have hS9 : ∀ i9, 1 ≤ i9 → i9 < 9 → ¬ (X i9 ∈ F ∨ X i9 = X 0) := fun i9 h1 hi9 q9 => q9.elim (fun y9 => hR.out i9 hi9 y9) (fun y9 => ht_tne (htg.1 i9 hi9) (htg.1 0 (by decide)) (fun z9 => by injection z9 with z1 z2; omega) y9)
      have hFn : ht_FH dgf N [] none (L.erase (k, v0)) := ⟨fun t9 h9 => (by cases h9), fun a9 h9 => (by cases h9)⟩
      have hRn := hR.re (tg' := tg) (N' := N) (A' := A) (F' := []) (top' := none) (L' := L.erase (k, v0)) hfrI hS9 (by
        rw [hpu.2]
        have e9 : cn = nI 0 := by rw [ecn, hl1]; rfl
        rw [← show cn = nI ([] : ht_L).length from e9]
        exact hX) (fun a9 h9 => by cases h9) hpu.1 hFn ⟨htg.1, fun a9 h9 => by cases h9⟩ (by simp)
      exact ht_iret hx hb hr hlocks HW ⟨N, [], none, _, hRn, hfrI.mono (fun z9 h9 => h9.elim (fun y9 => by rw [(htg.2 z9 y9).1]; decide) (fun y9 => by rw [y9, htg.1 0 (by decide)]; decide)), Or.inr ⟨rfl, v0, hkv, rfl⟩⟩ d_X_remove_83
    · obtain ⟨zp, hPF, hPk, hPlt, hPp, hPc0⟩ : ∃ zp, P ∈ F ∧ ht_in N P k ∧ ht_rl (N P) < ht_rl (N be) ∧ ht_rp (N P) = .inr zp ∧ ht_ch zp (ht_bit k (ht_rl (N P))) = be := by
        rcases hsl.2.2 with ⟨q9, -⟩ | ⟨c9, zc, q9, r1, r2, r3, r4, r5⟩
        · cases q9
        · cases q9
          exact ⟨zc, r1, r2, r3, r4, r5⟩
      have hPc := hN1.br hPF ((hmk.rp P).1.trans hPp)
      rw [(hmk.rp P).2.2.1] at hPc
      have hoF := (hT.half hPF hPp (!ht_bit k (ht_rl (N P)))).1
      refine W.eq (g2 := F0 _ 17 ls [.ref P]) rfl ?_
      refine lv_astore_n (lv' := [(1, .ref P), (0, .ref (X 0))]) hx hb d_X_remove_17 rfl hl (by decide) rfl (fun ls hl => ?_)
      refine lv_aload_n hx hb d_X_remove_18 rfl (lv_at hl 0 rfl) ?_
      refine lv_ifnonnull (tgt := 30) hx hb d_X_remove_19 (by decide) ?_
      refine lv_aload_n hx hb d_X_remove_30 rfl (lv_at hl 0 rfl) ?_
      refine lv_aload_n hx hb d_X_remove_31 rfl (lv_at hl 1 rfl) ?_
      refine ht_get (C := R_X) (T := F_X) (N := 9) (v := .ref (X 1)) hx hb htb i_X hown HW hX rfl 0 (by decide) (htb _ wd_40) (fun _ h9 => h9) rfl d_X_remove_32 ?_
      refine lv_aload_n hx hb d_X_remove_35 rfl (lv_at hl 0 rfl) ?_
      refine ht_get (C := R_B) (T := F_B) (N := 6) (v := .int (nI (ht_rl (N P)))) hx hb htb i_B hown HW hPc rfl 1 (by decide) (htb _ wd_133) (fun x h9 => u_same (htb _ wd_134) x h9) rfl d_X_remove_36 ?_
      refine ht_ci HW (va_runS (own := R_X) (As := [.ref (X 1), .int (nI (ht_rl (N P)))]) (rest := [.ref P]) ⟨hx, hb, hml, hown, htb⟩ (c_X_isOne l g u3 hK (ht_rl (N P)) (by omega) _ rfl) (va_cwS 2 htb (ht_gs wd_88 wd_89 wd_1 g_X_isOne) rfl rfl rfl (by decide +kernel) ⟨Nat.le_of_ble_eq_true rfl, Nat.le_of_ble_eq_true rfl⟩) (HW.preS _) rfl rfl hl.1 rfl (lv_room (Nat.le_of_ble_eq_true rfl)) d_X_remove_39 ⟨Nat.le_of_ble_eq_true rfl, Nat.le_of_ble_eq_true rfl⟩) (fun q8 u7 H locs pu7 HW => ?_)
      obtain ⟨eq8, eu7⟩ := pu7
      subst eu7
      rw [eq8]
      cases hbit : ht_bit k (ht_rl (N P))
      · refine W.eq (g2 := F0 _ 42 ls [.int 0, .ref P]) rfl ?_
        refine lv_if_ne (tgt := 49) hx hb d_X_remove_42 (by decide) (fun c42 => ?_) (fun c42 => ?_)
        · exact absurd rfl c42
        · refine lv_iconst (v := 1) hx hb d_X_remove_45 (by decide) ?_
          refine lv_goto (tgt := 50) hx hb d_X_remove_46 (by decide) ?_
          refine ht_cq HW (va_runV (own := R_X) (C := R_B) (As := [.int 1]) (rest := []) ⟨hx, hb, hml, hown, htb⟩ (c_B_half l g u3 hPc true) (cwV 1 htb (ht_gv wd_91 wd_92 wd_93 wd_8 g_B_half) rfl rfl rfl (by decide +kernel) ⟨Nat.le_of_ble_eq_true rfl, Nat.le_of_ble_eq_true rfl⟩) (HW.preV hPc rfl _) rfl rfl hl.1 rfl (lv_room (Nat.le_of_ble_eq_true rfl)) d_X_remove_50 ⟨Nat.le_of_ble_eq_true rfl, Nat.le_of_ble_eq_true rfl⟩) (fun q10 u9 H locs ph HW => ?_)
          obtain ⟨eh, eww⟩ := ph
          subst eww
          obtain ⟨ot, eot⟩ : ∃ z9, z9 = ht_ch zp (!ht_bit k (ht_rl (N P))) := ⟨_, rfl⟩
          have eot2 : ht_ch (zp.1, zp.2) true = ot := by rw [eot, hbit]; rfl
          rw [eot2] at eh
          subst eh
          refine W.eq (g2 := F0 _ 53 ls [.ref ot]) rfl ?_
          rw [← eot] at hoF
          have hot := (hN1 ot hoF).1
          have n_X_0_ot : X 0 ≠ ot := fun z9 => hR.out 0 (by decide) (by rw [z9]; exact hoF)
          have n_X_1_ot : X 1 ≠ ot := fun z9 => hR.out 1 (by decide) (by rw [z9]; exact hoF)
          have n_P_ot : P ≠ ot := fun z9 => by
            have h9 := (hT.half hPF hPp (!ht_bit k (ht_rl (N P)))).2.2.1
            rw [← eot, ← z9] at h9
            omega
          refine lv_astore_n (lv' := [(2, .ref ot), (1, .ref P), (0, .ref (X 0))]) hx hb d_X_remove_53 rfl hl (by decide) rfl (fun ls hl => ?_)
          refine lv_aload_n hx hb d_X_remove_54 rfl (lv_at hl 0 rfl) ?_
          refine lv_iconst (v := 0) hx hb d_X_remove_55 (by decide) ?_
          refine ht_npt (b := false) hx hb htb hown HW hot (htb _ wd_142) (fun _ h9 => h9) d_X_remove_56 (fun H locs HW => ?_)
          obtain ⟨u11, hu11⟩ : ∃ zW : ht_W, zW = ht_up u3 ot (ht_nc (ht_sf (N1 ot) false) ((A ot).1) ((A ot).2.1) ((A ot).2.2)) := ⟨_, rfl⟩
          have HW : ht_I g s u11 H locs := by rw [hu11]; exact HW
          have hX : ht_at u11 (X 0) (.inr (0, [.ref (X 1), .ref (X 2), .ref (X 5), .ref t, .int (nI L.length), .ref (X 6), .ref (X 7), .ref (X 8), .int ei]) : va_E) := by rw [hu11]; exact ht_at_ne hX n_X_0_ot
          have hK : ht_at u11 (X 1) (ht_al g 4 (ht_kf k)) := by rw [hu11]; exact ht_at_ne hK n_X_1_ot
          have hPc : ht_at u11 P (.inr (3, [.ref (A P).1, .int (nI (ht_rl (N P))), .ref (A P).2.1, .int (ht_b1 (ht_rf (N1 P))), .ref zp.1, .ref zp.2]) : va_E) := by rw [hu11]; exact ht_at_ne hPc n_P_ot
          have hot : ht_at u11 ot (ht_nc (ht_sf (N1 ot) false) ((A ot).1) ((A ot).2.1) ((A ot).2.2)) := by rw [hu11]; exact ht_at_self hot
          obtain ⟨N2, eN2⟩ : ∃ z9 : ht_N, z9 = va_up N1 ot (ht_sf (N1 ot) false) := ⟨_, rfl⟩
          have hN2 : ht_Nd g u11 N2 A F := by rw [hu11, eN2]; exact hN1.sf hoF false
          have c2 : ∀ a, ht_rk (N2 a) = ht_rk (N a) ∧ ht_rl (N2 a) = ht_rl (N a) ∧ ht_rp (N2 a) = ht_rp (N a) := by
            intro a
            rw [eN2]
            by_cases e9 : a = ot
            · rw [e9, va_up_self]
              exact ⟨(hmk.rp ot).2.1, (hmk.rp ot).2.2.1, (hmk.rp ot).1⟩
            · rw [va_up_ne _ _ e9]
              exact ⟨(hmk.rp a).2.1, (hmk.rp a).2.2.1, (hmk.rp a).1⟩
          have hT2 := hT.cg c2
          have hfr2 : ht_fr (fun z9 => z9 ∈ F) w u11 := by rw [hu11]; exact hfr1.trans (ht_fr.up hoF)
          refine lv_aload_n hx hb d_X_remove_59 rfl (lv_at hl 2 rfl) ?_
          refine lv_aload_n hx hb d_X_remove_60 rfl (lv_at hl 2 rfl) ?_
          refine lv_aload_n hx hb d_X_remove_61 rfl (lv_at hl 1 rfl) ?_
          refine ht_get (C := R_B) (T := F_B) (N := 6) (v := .int (nI (ht_rl (N P)))) hx hb htb i_B hown HW hPc rfl 1 (by decide) (htb _ wd_133) (fun x h9 => u_same (htb _ wd_134) x h9) rfl d_X_remove_62 ?_
          refine ht_cq HW (va_runV (own := R_X) (C := R_X) (As := [.int (nI (ht_rl (N P)))]) (rest := [.ref (X 0)]) ⟨hx, hb, hml, hown, htb⟩ (c_X_stalePath l g u11 (t := t) hX hK hN2 hT2 (ht_rl (N P)) (by omega) _ rfl hkv (by rw [ht_pk k v0]; omega)) (cwV 1 htb (ht_gv wd_106 wd_108 sl_2 wd_1 g_X_stalePath) rfl rfl rfl (by decide +kernel) ⟨Nat.le_of_ble_eq_true rfl, Nat.le_of_ble_eq_true rfl⟩) (HW.preV hX rfl _) rfl rfl hl.1 rfl (lv_room (Nat.le_of_ble_eq_true rfl)) d_X_remove_65 ⟨Nat.le_of_ble_eq_true rfl, Nat.le_of_ble_eq_true rfl⟩) (fun q13 u12 H locs ps3 HW => ?_)
          obtain ⟨N3, be3, hN3, hfr3, hmk3, hsl3⟩ := ps3
          rw [← (c2 P).2.1] at hsl3
          have ebe3 := hsl3.be hT2 hPF ((ht_in_cg c2 P k).mpr hPk) hkv
          subst ebe3
          have c3 : ∀ a, ht_rk (N3 a) = ht_rk (N a) ∧ ht_rl (N3 a) = ht_rl (N a) ∧ ht_rp (N3 a) = ht_rp (N a) := fun a => ⟨(hmk3.rp a).2.1.trans (c2 a).1, (hmk3.rp a).2.2.1.trans (c2 a).2.1, (hmk3.rp a).1.trans (c2 a).2.2⟩
          have hX : ht_at u12 (X 0) (.inr (0, [.ref (X 1), .ref (X 2), .ref (X 5), .ref t, .int (nI L.length), .ref (X 6), .ref (X 7), .ref (X 8), .int ei]) : va_E) := hfr3.at hX (hR.out 0 (by decide))
          have hK : ht_at u12 (X 1) (ht_al g 4 (ht_kf k)) := hfr3.at hK (hR.out 1 (by decide))
          rcases q13 with _ | ab
          · have etb : t = be3 := by
              rcases hsl3.2.2 with ⟨-, q9⟩ | ⟨c9, z9, q9, -⟩
              · exact Option.some.inj q9
              · cases q9
            refine W.eq (g2 := F0 _ 68 ls [.null, .ref (X 0)]) rfl ?_
            refine lv_aload_n hx hb d_X_remove_68 rfl (lv_at hl 0 rfl) ?_
            have hX5 := hX
            refine ht_cv HW (va_runV (own := R_X) (C := R_X) (As := [.null, .ref ot]) (rest := []) ⟨hx, hb, hml, hown, htb⟩ (c_X_hang_N l g u12 (top := some t) hX ot) (cwV 2 htb (ht_gv wd_178 wd_180 sl_4 wd_1 g_X_hang) rfl rfl rfl (by decide +kernel) ⟨Nat.le_of_ble_eq_true rfl, Nat.le_of_ble_eq_true rfl⟩) (HW.preV hX rfl _) rfl rfl hl.1 rfl (lv_room (Nat.le_of_ble_eq_true rfl)) d_X_remove_69 ⟨Nat.le_of_ble_eq_true rfl, Nat.le_of_ble_eq_true rfl⟩) (fun u14 H locs ph5 HW => ?_)
            have hX : ht_at u14 (X 0) (.inr (0, [.ref (X 1), .ref (X 2), .ref (X 5), .ref ot, .int (nI L.length), .ref (X 6), .ref (X 7), .ref (X 8), .int ei]) : va_E) := by rw [ph5]; exact ht_at_self hX
            have hNf : ht_Nd g u14 N3 A F := by rw [ph5]; exact hN3.upo hX5 (hR.out 0 (by decide))
            refine lv_aload_n hx hb d_X_remove_72 rfl (lv_at hl 2 rfl) ?_
            refine lv_dup hx hb d_X_remove_73 rfl ?_
            refine ht_get (C := R_X) (T := F_X) (N := 9) (v := .int (nI L.length)) hx hb htb i_X hown HW hX rfl 4 (by decide) (htb _ wd_44) (fun _ h9 => h9) rfl d_X_remove_74 ?_
            refine lv_iconst (v := 1) hx hb d_X_remove_77 (by decide) ?_
            refine lv_isub hx hb d_X_remove_78 ?_
            refine lv_topi (fun cn ecn => ?_)
            have hX6 := hX
            refine ht_put (C := R_X) (T := F_X) (N := 9) (v := .int cn) (ty := .int) hx hb htb i_X t_X t_X_ok n_X hown HW hX rfl 4 (by decide) (htb _ wd_44) (fun _ h9 => h9) rfl (by decide +kernel) rfl rfl (Nat.le_of_ble_eq_true rfl) d_X_remove_79 (fun H locs HW => ?_)
            obtain ⟨u15, hu15⟩ : ∃ zW : ht_W, zW = ht_up u14 (X 0) (.inr (0, [.ref (X 1), .ref (X 2), .ref (X 5), .ref ot, .int cn, .ref (X 6), .ref (X 7), .ref (X 8), .int ei]) : va_E) := ⟨_, rfl⟩
            have HW : ht_I g s u15 H locs := by rw [hu15]; exact HW
            have hX : ht_at u15 (X 0) (.inr (0, [.ref (X 1), .ref (X 2), .ref (X 5), .ref ot, .int cn, .ref (X 6), .ref (X 7), .ref (X 8), .int ei]) : va_E) := by rw [hu15]; exact ht_at_self hX
            refine lv_iconst (v := 1) hx hb d_X_remove_82 (by decide) ?_
            have hpu := ht_rem_pure (ab := none) (N' := N3) hT hF hbF hp hbk hPF hPp hPc0 eot.symm (Or.inl ⟨rfl, by rw [etb]⟩) hmk eN2 hmk3 (fun a => ⟨rfl, rfl, rfl, rfl⟩) (fun a _ => rfl) (fun a zo q9 => by cases q9)
            rw [if_pos rfl] at hpu
            have hfrI : ht_fr (fun z9 => z9 ∈ F ∨ z9 = X 0) w u15 := by
              rw [hu15, ph5]
              exact (((hfr2.trans hfr3).mono (fun z9 h9 => Or.inl h9)).trans (ht_fr.up (S := fun z9 => z9 ∈ F ∨ z9 = X 0) (Or.inr rfl))).trans (ht_fr.up (S := fun z9 => z9 ∈ F ∨ z9 = X 0) (Or.inr rfl))
            have hS9 : ∀ i9, 1 ≤ i9 → i9 < 9 → ¬ (X i9 ∈ F ∨ X i9 = X 0) := fun i9 h1 hi9 q9 => q9.elim (fun y9 => hR.out i9 hi9 y9) (fun y9 => ht_tne (htg.1 i9 hi9) (htg.1 0 (by decide)) (fun z9 => by injection z9 with z1 z2; omega) y9)
            have h8 := List.length_pos_of_mem hkv
            have hle := List.length_erase_of_mem hkv
            have ecn2 : cn = nI (L.erase (k, v0)).length := by
              rw [hle, ecn]
              exact ht_sb (b := 1) rfl rfl (by omega)
            have nPb : be3 ≠ be := fun z9 => by rw [z9] at hPlt; omega
            have hlF : ((F.erase be).erase be3).length ≤ 2 * (L.erase (k, v0)).length := by
              rw [List.length_erase_of_mem ((List.mem_erase_of_ne nPb).mpr hPF), List.length_erase_of_mem hbF, hle]
              omega
            have hNg : ht_Nd g u15 N3 A ((F.erase be).erase be3) := by
              rw [hu15]
              exact (hNf.upo hX6 (hR.out 0 (by decide))).sub ht_er_sub
            have htgn : ht_tgs tg X N3 A ((F.erase be).erase be3) := ⟨htg.1, fun a9 h9 => ⟨(htg.2 a9 (ht_er_sub a9 h9)).1, (htg.2 a9 (ht_er_sub a9 h9)).2.1, (htg.2 a9 (ht_er_sub a9 h9)).2.2.1, fun v9 hv9 => (htg.2 a9 (ht_er_sub a9 h9)).2.2.2 v9 (by
              exact (c3 a9).2.2.symm.trans hv9)⟩⟩
            have hRn := hR.re (tg' := tg) (L' := L.erase (k, v0)) hfrI hS9 (by rw [← ecn2]; exact hX) hNg hpu.1 hpu.2 htgn hlF
            exact ht_iret hx hb hr hlocks HW ⟨_, _, _, _, hRn, hfrI.mono (fun z9 h9 => h9.elim (fun y9 => by rw [(htg.2 z9 y9).1]; decide) (fun y9 => by rw [y9, htg.1 0 (by decide)]; decide)), Or.inr ⟨rfl, v0, hkv, rfl⟩⟩ d_X_remove_83
          · obtain ⟨zc, habF, hablt, habp, habc⟩ : ∃ zc, ab ∈ F ∧ ht_rl (N ab) < ht_rl (N be3) ∧ ht_rp (N ab) = .inr zc ∧ ht_ch zc (ht_bit k (ht_rl (N ab))) = be3 := by
              rcases hsl3.2.2 with ⟨q9, -⟩ | ⟨c9, zc, q9, r1, r2, r3, r4, r5⟩
              · cases q9
              · cases q9
                rw [(c2 ab).2.1, (c2 be3).2.1] at r3
                rw [(c2 ab).2.2] at r4
                rw [(c2 ab).2.1] at r5
                exact ⟨zc, r1, r3, r4, r5⟩
            have hab := hN3.br habF ((c3 ab).2.2.trans habp)
            rw [(c3 ab).2.1] at hab
            have n_X_0_ab : X 0 ≠ ab := fun z9 => hR.out 0 (by decide) (by rw [z9]; exact habF)
            refine W.eq (g2 := F0 _ 68 ls [.ref ab, .ref (X 0)]) rfl ?_
            refine lv_aload_n hx hb d_X_remove_68 rfl (lv_at hl 0 rfl) ?_
            have hX5 := hX
            refine ht_cv HW (va_runV (own := R_X) (C := R_X) (As := [.ref ab, .ref ot]) (rest := []) ⟨hx, hb, hml, hown, htb⟩ (c_X_hang_S l g u12 (top := some t) hX hK (by omega) hab ot) (cwV 2 htb (ht_gv wd_178 wd_180 sl_4 wd_1 g_X_hang) rfl rfl rfl (by decide +kernel) ⟨Nat.le_of_ble_eq_true rfl, Nat.le_of_ble_eq_true rfl⟩) (HW.preV hX rfl _) rfl rfl hl.1 rfl (lv_room (Nat.le_of_ble_eq_true rfl)) d_X_remove_69 ⟨Nat.le_of_ble_eq_true rfl, Nat.le_of_ble_eq_true rfl⟩) (fun u16 H locs ph5 HW => ?_)
            have hX : ht_at u16 (X 0) (.inr (0, [.ref (X 1), .ref (X 2), .ref (X 5), .ref t, .int (nI L.length), .ref (X 6), .ref (X 7), .ref (X 8), .int ei]) : va_E) := by rw [ph5]; exact ht_at_ne hX n_X_0_ab
            have hNf : ht_Nd g u16 (va_up N3 ab (ht_spy (N3 ab) (.inr (ht_zo (zc.1, zc.2) (ht_bit k (ht_rl (N ab))) ot)))) A F := by
              have h9 := hN3.sp (zo' := ht_zo (zc.1, zc.2) (ht_bit k (ht_rl (N ab))) ot) habF (zo := zc) ((c3 ab).2.2.trans habp)
              rw [(c3 ab).2.1] at h9
              rw [ph5]
              exact h9
            refine lv_aload_n hx hb d_X_remove_72 rfl (lv_at hl 2 rfl) ?_
            refine lv_dup hx hb d_X_remove_73 rfl ?_
            refine ht_get (C := R_X) (T := F_X) (N := 9) (v := .int (nI L.length)) hx hb htb i_X hown HW hX rfl 4 (by decide) (htb _ wd_44) (fun _ h9 => h9) rfl d_X_remove_74 ?_
            refine lv_iconst (v := 1) hx hb d_X_remove_77 (by decide) ?_
            refine lv_isub hx hb d_X_remove_78 ?_
            refine lv_topi (fun cn ecn => ?_)
            have hX6 := hX
            refine ht_put (C := R_X) (T := F_X) (N := 9) (v := .int cn) (ty := .int) hx hb htb i_X t_X t_X_ok n_X hown HW hX rfl 4 (by decide) (htb _ wd_44) (fun _ h9 => h9) rfl (by decide +kernel) rfl rfl (Nat.le_of_ble_eq_true rfl) d_X_remove_79 (fun H locs HW => ?_)
            obtain ⟨u17, hu17⟩ : ∃ zW : ht_W, zW = ht_up u16 (X 0) (.inr (0, [.ref (X 1), .ref (X 2), .ref (X 5), .ref t, .int cn, .ref (X 6), .ref (X 7), .ref (X 8), .int ei]) : va_E) := ⟨_, rfl⟩
            have HW : ht_I g s u17 H locs := by rw [hu17]; exact HW
            have hX : ht_at u17 (X 0) (.inr (0, [.ref (X 1), .ref (X 2), .ref (X 5), .ref t, .int cn, .ref (X 6), .ref (X 7), .ref (X 8), .int ei]) : va_E) := by rw [hu17]; exact ht_at_self hX
            refine lv_iconst (v := 1) hx hb d_X_remove_82 (by decide) ?_
            have hpu := ht_rem_pure (ab := some ab) (N' := (va_up N3 ab (ht_spy (N3 ab) (.inr (ht_zo (zc.1, zc.2) (ht_bit k (ht_rl (N ab))) ot))))) hT hF hbF hp hbk hPF hPp hPc0 eot.symm (Or.inr ⟨ab, zc, rfl, habF, habp, habc⟩) hmk eN2 hmk3 (fun a => by
              by_cases e9 : a = ab
              · rw [e9, va_up_self]
                exact ⟨rfl, rfl, rfl, rfl⟩
              · rw [va_up_ne _ _ e9]
                exact ⟨rfl, rfl, rfl, rfl⟩) (fun a q9 => by rw [va_up_ne _ _ (fun z9 => q9 (by rw [z9]))]) (fun a zo q9 hz9 => by
              cases q9
              rw [va_up_self]
              rw [habp] at hz9
              cases hz9
              rfl)
            rw [if_neg (fun z9 => by cases z9)] at hpu
            have hfrI : ht_fr (fun z9 => z9 ∈ F ∨ z9 = X 0) w u17 := by
              rw [hu17, ph5]
              exact (((hfr2.trans hfr3).mono (fun z9 h9 => Or.inl h9)).trans (ht_fr.up (S := fun z9 => z9 ∈ F ∨ z9 = X 0) (Or.inl habF))).trans (ht_fr.up (S := fun z9 => z9 ∈ F ∨ z9 = X 0) (Or.inr rfl))
            have hS9 : ∀ i9, 1 ≤ i9 → i9 < 9 → ¬ (X i9 ∈ F ∨ X i9 = X 0) := fun i9 h1 hi9 q9 => q9.elim (fun y9 => hR.out i9 hi9 y9) (fun y9 => ht_tne (htg.1 i9 hi9) (htg.1 0 (by decide)) (fun z9 => by injection z9 with z1 z2; omega) y9)
            have h8 := List.length_pos_of_mem hkv
            have hle := List.length_erase_of_mem hkv
            have ecn2 : cn = nI (L.erase (k, v0)).length := by
              rw [hle, ecn]
              exact ht_sb (b := 1) rfl rfl (by omega)
            have nPb : be3 ≠ be := fun z9 => by rw [z9] at hPlt; omega
            have hlF : ((F.erase be).erase be3).length ≤ 2 * (L.erase (k, v0)).length := by
              rw [List.length_erase_of_mem ((List.mem_erase_of_ne nPb).mpr hPF), List.length_erase_of_mem hbF, hle]
              omega
            have hNg : ht_Nd g u17 (va_up N3 ab (ht_spy (N3 ab) (.inr (ht_zo (zc.1, zc.2) (ht_bit k (ht_rl (N ab))) ot)))) A ((F.erase be).erase be3) := by
              rw [hu17]
              exact (hNf.upo hX6 (hR.out 0 (by decide))).sub ht_er_sub
            have htgn : ht_tgs tg X (va_up N3 ab (ht_spy (N3 ab) (.inr (ht_zo (zc.1, zc.2) (ht_bit k (ht_rl (N ab))) ot)))) A ((F.erase be).erase be3) := ⟨htg.1, fun a9 h9 => ⟨(htg.2 a9 (ht_er_sub a9 h9)).1, (htg.2 a9 (ht_er_sub a9 h9)).2.1, (htg.2 a9 (ht_er_sub a9 h9)).2.2.1, fun v9 hv9 => (htg.2 a9 (ht_er_sub a9 h9)).2.2.2 v9 (by
              by_cases e9 : a9 = ab
              · rw [e9, va_up_self] at hv9
                cases hv9
              · rw [va_up_ne _ _ e9] at hv9
                exact (c3 a9).2.2.symm.trans hv9)⟩⟩
            have hRn := hR.re (tg' := tg) (L' := L.erase (k, v0)) hfrI hS9 (by rw [← ecn2]; exact hX) hNg hpu.1 hpu.2 htgn hlF
            exact ht_iret hx hb hr hlocks HW ⟨_, _, _, _, hRn, hfrI.mono (fun z9 h9 => h9.elim (fun y9 => by rw [(htg.2 z9 y9).1]; decide) (fun y9 => by rw [y9, htg.1 0 (by decide)]; decide)), Or.inr ⟨rfl, v0, hkv, rfl⟩⟩ d_X_remove_83
      · refine W.eq (g2 := F0 _ 42 ls [.int 1, .ref P]) rfl ?_
        refine lv_if_ne (tgt := 49) hx hb d_X_remove_42 (by decide) (fun c42 => ?_) (fun c42 => ?_)
        · refine lv_iconst (v := 0) hx hb d_X_remove_49 (by decide) ?_
          refine ht_cq HW (va_runV (own := R_X) (C := R_B) (As := [.int 0]) (rest := []) ⟨hx, hb, hml, hown, htb⟩ (c_B_half l g u3 hPc false) (cwV 1 htb (ht_gv wd_91 wd_92 wd_93 wd_8 g_B_half) rfl rfl rfl (by decide +kernel) ⟨Nat.le_of_ble_eq_true rfl, Nat.le_of_ble_eq_true rfl⟩) (HW.preV hPc rfl _) rfl rfl hl.1 rfl (lv_room (Nat.le_of_ble_eq_true rfl)) d_X_remove_50 ⟨Nat.le_of_ble_eq_true rfl, Nat.le_of_ble_eq_true rfl⟩) (fun q19 u18 H locs ph HW => ?_)
          obtain ⟨eh, eww⟩ := ph
          subst eww
          obtain ⟨ot, eot⟩ : ∃ z9, z9 = ht_ch zp (!ht_bit k (ht_rl (N P))) := ⟨_, rfl⟩
          have eot2 : ht_ch (zp.1, zp.2) false = ot := by rw [eot, hbit]; rfl
          rw [eot2] at eh
          subst eh
          refine W.eq (g2 := F0 _ 53 ls [.ref ot]) rfl ?_
          rw [← eot] at hoF
          have hot := (hN1 ot hoF).1
          have n_X_0_ot : X 0 ≠ ot := fun z9 => hR.out 0 (by decide) (by rw [z9]; exact hoF)
          have n_X_1_ot : X 1 ≠ ot := fun z9 => hR.out 1 (by decide) (by rw [z9]; exact hoF)
          have n_P_ot : P ≠ ot := fun z9 => by
            have h9 := (hT.half hPF hPp (!ht_bit k (ht_rl (N P)))).2.2.1
            rw [← eot, ← z9] at h9
            omega
          refine lv_astore_n (lv' := [(2, .ref ot), (1, .ref P), (0, .ref (X 0))]) hx hb d_X_remove_53 rfl hl (by decide) rfl (fun ls hl => ?_)
          refine lv_aload_n hx hb d_X_remove_54 rfl (lv_at hl 0 rfl) ?_
          refine lv_iconst (v := 0) hx hb d_X_remove_55 (by decide) ?_
          refine ht_npt (b := false) hx hb htb hown HW hot (htb _ wd_142) (fun _ h9 => h9) d_X_remove_56 (fun H locs HW => ?_)
          obtain ⟨u20, hu20⟩ : ∃ zW : ht_W, zW = ht_up u3 ot (ht_nc (ht_sf (N1 ot) false) ((A ot).1) ((A ot).2.1) ((A ot).2.2)) := ⟨_, rfl⟩
          have HW : ht_I g s u20 H locs := by rw [hu20]; exact HW
          have hX : ht_at u20 (X 0) (.inr (0, [.ref (X 1), .ref (X 2), .ref (X 5), .ref t, .int (nI L.length), .ref (X 6), .ref (X 7), .ref (X 8), .int ei]) : va_E) := by rw [hu20]; exact ht_at_ne hX n_X_0_ot
          have hK : ht_at u20 (X 1) (ht_al g 4 (ht_kf k)) := by rw [hu20]; exact ht_at_ne hK n_X_1_ot
          have hPc : ht_at u20 P (.inr (3, [.ref (A P).1, .int (nI (ht_rl (N P))), .ref (A P).2.1, .int (ht_b1 (ht_rf (N1 P))), .ref zp.1, .ref zp.2]) : va_E) := by rw [hu20]; exact ht_at_ne hPc n_P_ot
          have hot : ht_at u20 ot (ht_nc (ht_sf (N1 ot) false) ((A ot).1) ((A ot).2.1) ((A ot).2.2)) := by rw [hu20]; exact ht_at_self hot
          obtain ⟨N2, eN2⟩ : ∃ z9 : ht_N, z9 = va_up N1 ot (ht_sf (N1 ot) false) := ⟨_, rfl⟩
          have hN2 : ht_Nd g u20 N2 A F := by rw [hu20, eN2]; exact hN1.sf hoF false
          have c2 : ∀ a, ht_rk (N2 a) = ht_rk (N a) ∧ ht_rl (N2 a) = ht_rl (N a) ∧ ht_rp (N2 a) = ht_rp (N a) := by
            intro a
            rw [eN2]
            by_cases e9 : a = ot
            · rw [e9, va_up_self]
              exact ⟨(hmk.rp ot).2.1, (hmk.rp ot).2.2.1, (hmk.rp ot).1⟩
            · rw [va_up_ne _ _ e9]
              exact ⟨(hmk.rp a).2.1, (hmk.rp a).2.2.1, (hmk.rp a).1⟩
          have hT2 := hT.cg c2
          have hfr2 : ht_fr (fun z9 => z9 ∈ F) w u20 := by rw [hu20]; exact hfr1.trans (ht_fr.up hoF)
          refine lv_aload_n hx hb d_X_remove_59 rfl (lv_at hl 2 rfl) ?_
          refine lv_aload_n hx hb d_X_remove_60 rfl (lv_at hl 2 rfl) ?_
          refine lv_aload_n hx hb d_X_remove_61 rfl (lv_at hl 1 rfl) ?_
          refine ht_get (C := R_B) (T := F_B) (N := 6) (v := .int (nI (ht_rl (N P)))) hx hb htb i_B hown HW hPc rfl 1 (by decide) (htb _ wd_133) (fun x h9 => u_same (htb _ wd_134) x h9) rfl d_X_remove_62 ?_
          refine ht_cq HW (va_runV (own := R_X) (C := R_X) (As := [.int (nI (ht_rl (N P)))]) (rest := [.ref (X 0)]) ⟨hx, hb, hml, hown, htb⟩ (c_X_stalePath l g u20 (t := t) hX hK hN2 hT2 (ht_rl (N P)) (by omega) _ rfl hkv (by rw [ht_pk k v0]; omega)) (cwV 1 htb (ht_gv wd_106 wd_108 sl_2 wd_1 g_X_stalePath) rfl rfl rfl (by decide +kernel) ⟨Nat.le_of_ble_eq_true rfl, Nat.le_of_ble_eq_true rfl⟩) (HW.preV hX rfl _) rfl rfl hl.1 rfl (lv_room (Nat.le_of_ble_eq_true rfl)) d_X_remove_65 ⟨Nat.le_of_ble_eq_true rfl, Nat.le_of_ble_eq_true rfl⟩) (fun q22 u21 H locs ps3 HW => ?_)
          obtain ⟨N3, be3, hN3, hfr3, hmk3, hsl3⟩ := ps3
          rw [← (c2 P).2.1] at hsl3
          have ebe3 := hsl3.be hT2 hPF ((ht_in_cg c2 P k).mpr hPk) hkv
          subst ebe3
          have c3 : ∀ a, ht_rk (N3 a) = ht_rk (N a) ∧ ht_rl (N3 a) = ht_rl (N a) ∧ ht_rp (N3 a) = ht_rp (N a) := fun a => ⟨(hmk3.rp a).2.1.trans (c2 a).1, (hmk3.rp a).2.2.1.trans (c2 a).2.1, (hmk3.rp a).1.trans (c2 a).2.2⟩
          have hX : ht_at u21 (X 0) (.inr (0, [.ref (X 1), .ref (X 2), .ref (X 5), .ref t, .int (nI L.length), .ref (X 6), .ref (X 7), .ref (X 8), .int ei]) : va_E) := hfr3.at hX (hR.out 0 (by decide))
          have hK : ht_at u21 (X 1) (ht_al g 4 (ht_kf k)) := hfr3.at hK (hR.out 1 (by decide))
          rcases q22 with _ | ab
          · have etb : t = be3 := by
              rcases hsl3.2.2 with ⟨-, q9⟩ | ⟨c9, z9, q9, -⟩
              · exact Option.some.inj q9
              · cases q9
            refine W.eq (g2 := F0 _ 68 ls [.null, .ref (X 0)]) rfl ?_
            refine lv_aload_n hx hb d_X_remove_68 rfl (lv_at hl 0 rfl) ?_
            have hX5 := hX
            refine ht_cv HW (va_runV (own := R_X) (C := R_X) (As := [.null, .ref ot]) (rest := []) ⟨hx, hb, hml, hown, htb⟩ (c_X_hang_N l g u21 (top := some t) hX ot) (cwV 2 htb (ht_gv wd_178 wd_180 sl_4 wd_1 g_X_hang) rfl rfl rfl (by decide +kernel) ⟨Nat.le_of_ble_eq_true rfl, Nat.le_of_ble_eq_true rfl⟩) (HW.preV hX rfl _) rfl rfl hl.1 rfl (lv_room (Nat.le_of_ble_eq_true rfl)) d_X_remove_69 ⟨Nat.le_of_ble_eq_true rfl, Nat.le_of_ble_eq_true rfl⟩) (fun u23 H locs ph5 HW => ?_)
            have hX : ht_at u23 (X 0) (.inr (0, [.ref (X 1), .ref (X 2), .ref (X 5), .ref ot, .int (nI L.length), .ref (X 6), .ref (X 7), .ref (X 8), .int ei]) : va_E) := by rw [ph5]; exact ht_at_self hX
            have hNf : ht_Nd g u23 N3 A F := by rw [ph5]; exact hN3.upo hX5 (hR.out 0 (by decide))
            refine lv_aload_n hx hb d_X_remove_72 rfl (lv_at hl 2 rfl) ?_
            refine lv_dup hx hb d_X_remove_73 rfl ?_
            refine ht_get (C := R_X) (T := F_X) (N := 9) (v := .int (nI L.length)) hx hb htb i_X hown HW hX rfl 4 (by decide) (htb _ wd_44) (fun _ h9 => h9) rfl d_X_remove_74 ?_
            refine lv_iconst (v := 1) hx hb d_X_remove_77 (by decide) ?_
            refine lv_isub hx hb d_X_remove_78 ?_
            refine lv_topi (fun cn ecn => ?_)
            have hX6 := hX
            refine ht_put (C := R_X) (T := F_X) (N := 9) (v := .int cn) (ty := .int) hx hb htb i_X t_X t_X_ok n_X hown HW hX rfl 4 (by decide) (htb _ wd_44) (fun _ h9 => h9) rfl (by decide +kernel) rfl rfl (Nat.le_of_ble_eq_true rfl) d_X_remove_79 (fun H locs HW => ?_)
            obtain ⟨u24, hu24⟩ : ∃ zW : ht_W, zW = ht_up u23 (X 0) (.inr (0, [.ref (X 1), .ref (X 2), .ref (X 5), .ref ot, .int cn, .ref (X 6), .ref (X 7), .ref (X 8), .int ei]) : va_E) := ⟨_, rfl⟩
            have HW : ht_I g s u24 H locs := by rw [hu24]; exact HW
            have hX : ht_at u24 (X 0) (.inr (0, [.ref (X 1), .ref (X 2), .ref (X 5), .ref ot, .int cn, .ref (X 6), .ref (X 7), .ref (X 8), .int ei]) : va_E) := by rw [hu24]; exact ht_at_self hX
            refine lv_iconst (v := 1) hx hb d_X_remove_82 (by decide) ?_
            have hpu := ht_rem_pure (ab := none) (N' := N3) hT hF hbF hp hbk hPF hPp hPc0 eot.symm (Or.inl ⟨rfl, by rw [etb]⟩) hmk eN2 hmk3 (fun a => ⟨rfl, rfl, rfl, rfl⟩) (fun a _ => rfl) (fun a zo q9 => by cases q9)
            rw [if_pos rfl] at hpu
            have hfrI : ht_fr (fun z9 => z9 ∈ F ∨ z9 = X 0) w u24 := by
              rw [hu24, ph5]
              exact (((hfr2.trans hfr3).mono (fun z9 h9 => Or.inl h9)).trans (ht_fr.up (S := fun z9 => z9 ∈ F ∨ z9 = X 0) (Or.inr rfl))).trans (ht_fr.up (S := fun z9 => z9 ∈ F ∨ z9 = X 0) (Or.inr rfl))
            have hS9 : ∀ i9, 1 ≤ i9 → i9 < 9 → ¬ (X i9 ∈ F ∨ X i9 = X 0) := fun i9 h1 hi9 q9 => q9.elim (fun y9 => hR.out i9 hi9 y9) (fun y9 => ht_tne (htg.1 i9 hi9) (htg.1 0 (by decide)) (fun z9 => by injection z9 with z1 z2; omega) y9)
            have h8 := List.length_pos_of_mem hkv
            have hle := List.length_erase_of_mem hkv
            have ecn2 : cn = nI (L.erase (k, v0)).length := by
              rw [hle, ecn]
              exact ht_sb (b := 1) rfl rfl (by omega)
            have nPb : be3 ≠ be := fun z9 => by rw [z9] at hPlt; omega
            have hlF : ((F.erase be).erase be3).length ≤ 2 * (L.erase (k, v0)).length := by
              rw [List.length_erase_of_mem ((List.mem_erase_of_ne nPb).mpr hPF), List.length_erase_of_mem hbF, hle]
              omega
            have hNg : ht_Nd g u24 N3 A ((F.erase be).erase be3) := by
              rw [hu24]
              exact (hNf.upo hX6 (hR.out 0 (by decide))).sub ht_er_sub
            have htgn : ht_tgs tg X N3 A ((F.erase be).erase be3) := ⟨htg.1, fun a9 h9 => ⟨(htg.2 a9 (ht_er_sub a9 h9)).1, (htg.2 a9 (ht_er_sub a9 h9)).2.1, (htg.2 a9 (ht_er_sub a9 h9)).2.2.1, fun v9 hv9 => (htg.2 a9 (ht_er_sub a9 h9)).2.2.2 v9 (by
              exact (c3 a9).2.2.symm.trans hv9)⟩⟩
            have hRn := hR.re (tg' := tg) (L' := L.erase (k, v0)) hfrI hS9 (by rw [← ecn2]; exact hX) hNg hpu.1 hpu.2 htgn hlF
            exact ht_iret hx hb hr hlocks HW ⟨_, _, _, _, hRn, hfrI.mono (fun z9 h9 => h9.elim (fun y9 => by rw [(htg.2 z9 y9).1]; decide) (fun y9 => by rw [y9, htg.1 0 (by decide)]; decide)), Or.inr ⟨rfl, v0, hkv, rfl⟩⟩ d_X_remove_83
          · obtain ⟨zc, habF, hablt, habp, habc⟩ : ∃ zc, ab ∈ F ∧ ht_rl (N ab) < ht_rl (N be3) ∧ ht_rp (N ab) = .inr zc ∧ ht_ch zc (ht_bit k (ht_rl (N ab))) = be3 := by
              rcases hsl3.2.2 with ⟨q9, -⟩ | ⟨c9, zc, q9, r1, r2, r3, r4, r5⟩
              · cases q9
              · cases q9
                rw [(c2 ab).2.1, (c2 be3).2.1] at r3
                rw [(c2 ab).2.2] at r4
                rw [(c2 ab).2.1] at r5
                exact ⟨zc, r1, r3, r4, r5⟩
            have hab := hN3.br habF ((c3 ab).2.2.trans habp)
            rw [(c3 ab).2.1] at hab
            have n_X_0_ab : X 0 ≠ ab := fun z9 => hR.out 0 (by decide) (by rw [z9]; exact habF)
            refine W.eq (g2 := F0 _ 68 ls [.ref ab, .ref (X 0)]) rfl ?_
            refine lv_aload_n hx hb d_X_remove_68 rfl (lv_at hl 0 rfl) ?_
            have hX5 := hX
            refine ht_cv HW (va_runV (own := R_X) (C := R_X) (As := [.ref ab, .ref ot]) (rest := []) ⟨hx, hb, hml, hown, htb⟩ (c_X_hang_S l g u21 (top := some t) hX hK (by omega) hab ot) (cwV 2 htb (ht_gv wd_178 wd_180 sl_4 wd_1 g_X_hang) rfl rfl rfl (by decide +kernel) ⟨Nat.le_of_ble_eq_true rfl, Nat.le_of_ble_eq_true rfl⟩) (HW.preV hX rfl _) rfl rfl hl.1 rfl (lv_room (Nat.le_of_ble_eq_true rfl)) d_X_remove_69 ⟨Nat.le_of_ble_eq_true rfl, Nat.le_of_ble_eq_true rfl⟩) (fun u25 H locs ph5 HW => ?_)
            have hX : ht_at u25 (X 0) (.inr (0, [.ref (X 1), .ref (X 2), .ref (X 5), .ref t, .int (nI L.length), .ref (X 6), .ref (X 7), .ref (X 8), .int ei]) : va_E) := by rw [ph5]; exact ht_at_ne hX n_X_0_ab
            have hNf : ht_Nd g u25 (va_up N3 ab (ht_spy (N3 ab) (.inr (ht_zo (zc.1, zc.2) (ht_bit k (ht_rl (N ab))) ot)))) A F := by
              have h9 := hN3.sp (zo' := ht_zo (zc.1, zc.2) (ht_bit k (ht_rl (N ab))) ot) habF (zo := zc) ((c3 ab).2.2.trans habp)
              rw [(c3 ab).2.1] at h9
              rw [ph5]
              exact h9
            refine lv_aload_n hx hb d_X_remove_72 rfl (lv_at hl 2 rfl) ?_
            refine lv_dup hx hb d_X_remove_73 rfl ?_
            refine ht_get (C := R_X) (T := F_X) (N := 9) (v := .int (nI L.length)) hx hb htb i_X hown HW hX rfl 4 (by decide) (htb _ wd_44) (fun _ h9 => h9) rfl d_X_remove_74 ?_
            refine lv_iconst (v := 1) hx hb d_X_remove_77 (by decide) ?_
            refine lv_isub hx hb d_X_remove_78 ?_
            refine lv_topi (fun cn ecn => ?_)
            have hX6 := hX
            refine ht_put (C := R_X) (T := F_X) (N := 9) (v := .int cn) (ty := .int) hx hb htb i_X t_X t_X_ok n_X hown HW hX rfl 4 (by decide) (htb _ wd_44) (fun _ h9 => h9) rfl (by decide +kernel) rfl rfl (Nat.le_of_ble_eq_true rfl) d_X_remove_79 (fun H locs HW => ?_)
            obtain ⟨u26, hu26⟩ : ∃ zW : ht_W, zW = ht_up u25 (X 0) (.inr (0, [.ref (X 1), .ref (X 2), .ref (X 5), .ref t, .int cn, .ref (X 6), .ref (X 7), .ref (X 8), .int ei]) : va_E) := ⟨_, rfl⟩
            have HW : ht_I g s u26 H locs := by rw [hu26]; exact HW
            have hX : ht_at u26 (X 0) (.inr (0, [.ref (X 1), .ref (X 2), .ref (X 5), .ref t, .int cn, .ref (X 6), .ref (X 7), .ref (X 8), .int ei]) : va_E) := by rw [hu26]; exact ht_at_self hX
            refine lv_iconst (v := 1) hx hb d_X_remove_82 (by decide) ?_
            have hpu := ht_rem_pure (ab := some ab) (N' := (va_up N3 ab (ht_spy (N3 ab) (.inr (ht_zo (zc.1, zc.2) (ht_bit k (ht_rl (N ab))) ot))))) hT hF hbF hp hbk hPF hPp hPc0 eot.symm (Or.inr ⟨ab, zc, rfl, habF, habp, habc⟩) hmk eN2 hmk3 (fun a => by
              by_cases e9 : a = ab
              · rw [e9, va_up_self]
                exact ⟨rfl, rfl, rfl, rfl⟩
              · rw [va_up_ne _ _ e9]
                exact ⟨rfl, rfl, rfl, rfl⟩) (fun a q9 => by rw [va_up_ne _ _ (fun z9 => q9 (by rw [z9]))]) (fun a zo q9 hz9 => by
              cases q9
              rw [va_up_self]
              rw [habp] at hz9
              cases hz9
              rfl)
            rw [if_neg (fun z9 => by cases z9)] at hpu
            have hfrI : ht_fr (fun z9 => z9 ∈ F ∨ z9 = X 0) w u26 := by
              rw [hu26, ph5]
              exact (((hfr2.trans hfr3).mono (fun z9 h9 => Or.inl h9)).trans (ht_fr.up (S := fun z9 => z9 ∈ F ∨ z9 = X 0) (Or.inl habF))).trans (ht_fr.up (S := fun z9 => z9 ∈ F ∨ z9 = X 0) (Or.inr rfl))
            have hS9 : ∀ i9, 1 ≤ i9 → i9 < 9 → ¬ (X i9 ∈ F ∨ X i9 = X 0) := fun i9 h1 hi9 q9 => q9.elim (fun y9 => hR.out i9 hi9 y9) (fun y9 => ht_tne (htg.1 i9 hi9) (htg.1 0 (by decide)) (fun z9 => by injection z9 with z1 z2; omega) y9)
            have h8 := List.length_pos_of_mem hkv
            have hle := List.length_erase_of_mem hkv
            have ecn2 : cn = nI (L.erase (k, v0)).length := by
              rw [hle, ecn]
              exact ht_sb (b := 1) rfl rfl (by omega)
            have nPb : be3 ≠ be := fun z9 => by rw [z9] at hPlt; omega
            have hlF : ((F.erase be).erase be3).length ≤ 2 * (L.erase (k, v0)).length := by
              rw [List.length_erase_of_mem ((List.mem_erase_of_ne nPb).mpr hPF), List.length_erase_of_mem hbF, hle]
              omega
            have hNg : ht_Nd g u26 (va_up N3 ab (ht_spy (N3 ab) (.inr (ht_zo (zc.1, zc.2) (ht_bit k (ht_rl (N ab))) ot)))) A ((F.erase be).erase be3) := by
              rw [hu26]
              exact (hNf.upo hX6 (hR.out 0 (by decide))).sub ht_er_sub
            have htgn : ht_tgs tg X (va_up N3 ab (ht_spy (N3 ab) (.inr (ht_zo (zc.1, zc.2) (ht_bit k (ht_rl (N ab))) ot)))) A ((F.erase be).erase be3) := ⟨htg.1, fun a9 h9 => ⟨(htg.2 a9 (ht_er_sub a9 h9)).1, (htg.2 a9 (ht_er_sub a9 h9)).2.1, (htg.2 a9 (ht_er_sub a9 h9)).2.2.1, fun v9 hv9 => (htg.2 a9 (ht_er_sub a9 h9)).2.2.2 v9 (by
              by_cases e9 : a9 = ab
              · rw [e9, va_up_self] at hv9
                cases hv9
              · rw [va_up_ne _ _ e9] at hv9
                exact (c3 a9).2.2.symm.trans hv9)⟩⟩
            have hRn := hR.re (tg' := tg) (L' := L.erase (k, v0)) hfrI hS9 (by rw [← ecn2]; exact hX) hNg hpu.1 hpu.2 htgn hlF
            exact ht_iret hx hb hr hlocks HW ⟨_, _, _, _, hRn, hfrI.mono (fun z9 h9 => h9.elim (fun y9 => by rw [(htg.2 z9 y9).1]; decide) (fun y9 => by rw [y9, htg.1 0 (by decide)]; decide)), Or.inr ⟨rfl, v0, hkv, rfl⟩⟩ d_X_remove_83
        · exact absurd c42 (by decide)
