/-! The class's own cells. -/
abbrev ht_AA : Type := Nat → Nat × Nat × Nat
/-- the nodes F stand in the pool as N says; A has a node's rows: key, hash, value -/
def ht_Nd (g : ht_G) (w : ht_W) (N : ht_N) (A : ht_AA) (F : List Nat) : Prop := ∀ a ∈ F, ht_at w a (ht_nc (N a) (A a).1 (A a).2.1 (A a).2.2) ∧ ht_at w (A a).1 (ht_al g 4 (ht_kf (ht_rk (N a)))) ∧ ht_at w (A a).2.1 (ht_al g 4 (ht_kf (ht_rh (N a)))) ∧ ∀ v, ht_rp (N a) = .inl v → ht_at w (A a).2.2 (ht_al g 4 (ht_kf v))
/-- outside S nothing has changed, nothing has gone -/
def ht_fr (S : Nat → Prop) (w u : ht_W) : Prop := ∀ b ∈ w.1, ¬ S b → b ∈ u.1 ∧ u.2 b = w.2 b
theorem ht_fr.rf {S : Nat → Prop} {w : ht_W} : ht_fr S w w := fun _ h _ => ⟨h, rfl⟩
theorem ht_fr.at {S : Nat → Prop} {w u : ht_W} {b : Nat} {e : va_E} (h : ht_fr S w u) (hb : ht_at w b e) (hn : ¬ S b) : ht_at u b e := ⟨(h b hb.1 hn).1, (h b hb.1 hn).2.trans hb.2⟩
theorem ht_fr.trans {S : Nat → Prop} {w u v : ht_W} (h : ht_fr S w u) (h' : ht_fr S u v) : ht_fr S w v := fun b hb hn => ⟨(h' b (h b hb hn).1 hn).1, ((h' b (h b hb hn).1 hn).2).trans (h b hb hn).2⟩
theorem ht_fr.mono {S S' : Nat → Prop} {w u : ht_W} (h : ht_fr S w u) (hs : ∀ b, S b → S' b) : ht_fr S' w u := fun b hb hn => h b hb (fun q => hn (hs b q))
theorem ht_fr.up {S : Nat → Prop} {w : ht_W} {a : Nat} {e : va_E} (h : S a) : ht_fr S w (ht_up w a e) := fun b hb hn => ⟨hb, va_up_ne _ _ (fun z => hn (z ▸ h))⟩
theorem ht_fr.nw {S : Nat → Prop} {w : ht_W} {a : Nat} {e : va_E} (h : a ∉ w.1) : ht_fr S w (ht_nw w a e) := fun b hb _ => ⟨List.mem_append_left _ hb, va_up_ne _ _ (fun z => h (z ▸ hb))⟩
theorem ht_ne_nl {r : ht_R} {ka ha va n : Nat} {g : ht_G} {f : Nat → Int64} : ht_al g n f ≠ ht_nc r ka ha va := by
  unfold ht_nc
  cases ht_rp r <;> exact fun z => by cases z
theorem ht_ne_n0 {r : ht_R} {ka ha va : Nat} {fs : List Value} : (.inr (0, fs) : va_E) ≠ ht_nc r ka ha va := by
  unfold ht_nc
  cases ht_rp r <;> exact fun z => by cases z
theorem ht_Nd.x {g : ht_G} {w : ht_W} {N : ht_N} {A : ht_AA} {F : List Nat} (h : ht_Nd g w N A F) {x : Nat} {fs : List Value} (hx : ht_at w x (.inr (0, fs))) : x ∉ F := fun q => ht_ne hx (h x q).1 ht_ne_n0 rfl
theorem ht_Nd.l {g : ht_G} {w : ht_W} {N : ht_N} {A : ht_AA} {F : List Nat} (h : ht_Nd g w N A F) {x n : Nat} {f : Nat → Int64} (hx : ht_at w x (ht_al g n f)) : x ∉ F := fun q => ht_ne hx (h x q).1 ht_ne_nl rfl
theorem ht_Nd.lf {g : ht_G} {w : ht_W} {N : ht_N} {A : ht_AA} {F : List Nat} (h : ht_Nd g w N A F) {a : Nat} (ha : a ∈ F) {v : ht_K} (hp : ht_rp (N a) = .inl v) : ht_at w a (.inr (2, [.ref (A a).1, .int (nI (ht_rl (N a))), .ref (A a).2.1, .int (ht_b1 (ht_rf (N a))), .ref (A a).2.2])) := by
  rw [← ht_nc_l hp]
  exact (h a ha).1
theorem ht_Nd.br {g : ht_G} {w : ht_W} {N : ht_N} {A : ht_AA} {F : List Nat} (h : ht_Nd g w N A F) {a : Nat} (ha : a ∈ F) {zo : Nat × Nat} (hp : ht_rp (N a) = .inr zo) : ht_at w a (.inr (3, [.ref (A a).1, .int (nI (ht_rl (N a))), .ref (A a).2.1, .int (ht_b1 (ht_rf (N a))), .ref zo.1, .ref zo.2])) := by
  rw [← ht_nc_b hp]
  exact (h a ha).1
/-- a node's flag changes -/
theorem ht_Nd.sf {g : ht_G} {w : ht_W} {N : ht_N} {A : ht_AA} {F : List Nat} (h : ht_Nd g w N A F) {c : Nat} (hc : c ∈ F) (b : Bool) : ht_Nd g (ht_up w c (ht_nc (ht_sf (N c) b) (A c).1 (A c).2.1 (A c).2.2)) (va_up N c (ht_sf (N c) b)) A F := by
  intro a ha
  obtain ⟨h1, h2, h3, h4⟩ := h a ha
  have n1 : (A a).1 ≠ c := fun z => h.l h2 (by rw [z]; exact hc)
  have n2 : (A a).2.1 ≠ c := fun z => h.l h3 (by rw [z]; exact hc)
  by_cases e : a = c
  · subst e
    rw [va_up_self]
    exact ⟨ht_at_self h1, ht_at_ne h2 n1, ht_at_ne h3 n2, fun v hv => ht_at_ne (h4 v hv) (fun z => h.l (h4 v hv) (by rw [z]; exact hc))⟩
  · rw [va_up_ne _ _ e]
    exact ⟨ht_at_ne h1 e, ht_at_ne h2 n1, ht_at_ne h3 n2, fun v hv => ht_at_ne (h4 v hv) (fun z => h.l (h4 v hv) (by rw [z]; exact hc))⟩
set_option maxHeartbeats 4000000 in
set_option maxRecDepth 100000 in
theorem c_X_nearestLeaf (l : Launch) (g : ht_G) (w : ht_W) {x kA dg op sb la en : Nat} {top : Option Nat} {cnt ei : Int32} {k : ht_K} {N : ht_N} {A : ht_AA} {F : List Nat} {L : ht_L} (hX : ht_at w x (.inr (0, [.ref kA, .ref dg, .ref op, va_rf top, .int cnt, .ref sb, .ref la, .ref en, .int ei]))) (hK : ht_at w kA (ht_al g 4 (ht_kf k))) (hN : ht_Nd g w N A F) (hT : ht_T N F top L) : Met l y_X_nearestLeaf ws_X_nearestLeaf ({ frames := 1, cells := 0, slots := 0, locals := 30 } : Room) (va_Pc [.ref x] (ht_WS g w)) (ht_Qq g (fun r u => ((r = none ∧ top = none) ∨ ∃ b v, r = some b ∧ b ∈ F ∧ ht_rp (N b) = .inl v ∧ ∀ q ∈ L, ht_part k q.1 ≤ ht_part k (ht_rk (N b))) ∧ w = u)) 0 0 (ht_A g) := by
  refine Met.ofW (cc := b_X_nearestLeaf) (maxL := 3) (ret := (some (.object "HashTree$Leaf"))) (by decide) rfl ?_
  intro p e s m args below meth c s₁ BB hml hv
  obtain ⟨rfl, HW⟩ := hv
  have HW := ht_I.start HW
  have hx := BB.exec
  have hb := BB.bytes
  have hr := BB.returns
  have hts := atoms_spec (ws := ws_X_nearestLeaf) BB.pre
  have htb : ∀ w ∈ bg, w.before _ s = true := fun w h => hts w (List.mem_cons_of_mem _ h)
  have hown : s.vm.findClass R_X = some m.cls := findClass_of_methodNamed BB.named
  have hlocks := BB.notSynchronized
  have hl := lv_entry ([.ref x]) (n := 3) (Nat.le_of_ble_eq_true rfl)
  rw [lg_entry_eq]
  generalize (lg_sl ([.ref x]) ++ List.replicate (3 - (lg_sl ([.ref x])).length) Slot.unset).toArray = ls at hl ⊢
  have hl : lv_has ls 3 [(0, .ref x)] := hl
  have loop : ∀ (n a : Nat), a ∈ F → ht_best N L k a → 256 ≤ ht_rl (N a) + n → ∀ (H : Heap) (locs : List Loc) (ls : Array Slot), ht_I g s w H locs → lv_has ls 3 [(0, .ref x), (1, .ref a)] → W p l e (headSpec ws_X_nearestLeaf ({ frames := 1, cells := 0, slots := 0, locals := 30 } : Room)).room s m ([.ref x] : List Value).toArray below meth c H locs 0 0 (MQ below (ht_Qq g (fun r u => ((r = none ∧ top = none) ∨ ∃ b v, r = some b ∧ b ∈ F ∧ ht_rp (N b) = .inl v ∧ ∀ q ∈ L, ht_part k q.1 ≤ ht_part k (ht_rk (N b))) ∧ w = u)) ([.ref x] : List Value).toArray s 0 0 (ht_A g)) (F0 m 5 ls []) := by
    intro n
    induction n with
    | zero =>
      intro a ha hbest hn H locs ls HW hl
      cases hp : ht_rp (N a) with
      | inl v =>
        have hla := hN.lf ha hp
        refine lv_aload_n hx hb d_X_nearestLeaf_5 rfl (lv_at hl 1 rfl) ?_
        refine va_instNo hx hb hown (htb _ wd_87) HW.2.2.1.2.2.2.2.2.2.2.1 (HW.recv hla (q := (R_L, F_L, 5)) rfl) d_X_nearestLeaf_6 ?_
        refine lv_if_eq (tgt := 36) hx hb d_X_nearestLeaf_9 (by decide) (fun c9 => ?_) (fun c9 => ?_)
        · refine lv_aload_n hx hb d_X_nearestLeaf_36 rfl (lv_at hl 1 rfl) ?_
          refine va_instS hx hb hown (htb _ wd_95) (HW.2.1.1 2 _ rfl).2 (HW.recv hla (q := (R_L, F_L, 5)) rfl) d_X_nearestLeaf_37 ?_
          refine lv_if_eq (tgt := 52) hx hb d_X_nearestLeaf_40 (by decide) (fun c40 => ?_) (fun c40 => ?_)
          · exact absurd c40 (by decide)
          · refine lv_aload_n hx hb d_X_nearestLeaf_43 rfl (lv_at hl 1 rfl) ?_
            refine va_castS hx hb hown (htb _ wd_95) (HW.2.1.1 2 _ rfl).2 (HW.recv hla (q := (R_L, F_L, 5)) rfl) d_X_nearestLeaf_44 ?_
            refine lv_astore_n (lv' := [(2, .ref a), (0, .ref x), (1, .ref a)]) hx hb d_X_nearestLeaf_47 rfl hl (by decide) rfl (fun ls hl => ?_)
            refine lv_aload_n hx hb d_X_nearestLeaf_48 rfl (lv_at hl 0 rfl) ?_
            refine lv_goto (tgt := 53) hx hb d_X_nearestLeaf_49 (by decide) ?_
            exact ht_qret (r := some a) hx hb hr hlocks HW ⟨Or.inr ⟨a, v, rfl, ha, hp, hT.bestE ha hp hbest⟩, rfl⟩ d_X_nearestLeaf_53
        · exact absurd rfl c9
      | inr zo =>
        have := (hT.half ha hp false).2.1
        omega
    | succ n ih =>
      intro a ha hbest hn H locs ls HW hl
      cases hp : ht_rp (N a) with
      | inl v =>
        have hla := hN.lf ha hp
        refine lv_aload_n hx hb d_X_nearestLeaf_5 rfl (lv_at hl 1 rfl) ?_
        refine va_instNo hx hb hown (htb _ wd_87) HW.2.2.1.2.2.2.2.2.2.2.1 (HW.recv hla (q := (R_L, F_L, 5)) rfl) d_X_nearestLeaf_6 ?_
        refine lv_if_eq (tgt := 36) hx hb d_X_nearestLeaf_9 (by decide) (fun c9 => ?_) (fun c9 => ?_)
        · refine lv_aload_n hx hb d_X_nearestLeaf_36 rfl (lv_at hl 1 rfl) ?_
          refine va_instS hx hb hown (htb _ wd_95) (HW.2.1.1 2 _ rfl).2 (HW.recv hla (q := (R_L, F_L, 5)) rfl) d_X_nearestLeaf_37 ?_
          refine lv_if_eq (tgt := 52) hx hb d_X_nearestLeaf_40 (by decide) (fun c40 => ?_) (fun c40 => ?_)
          · exact absurd c40 (by decide)
          · refine lv_aload_n hx hb d_X_nearestLeaf_43 rfl (lv_at hl 1 rfl) ?_
            refine va_castS hx hb hown (htb _ wd_95) (HW.2.1.1 2 _ rfl).2 (HW.recv hla (q := (R_L, F_L, 5)) rfl) d_X_nearestLeaf_44 ?_
            refine lv_astore_n (lv' := [(2, .ref a), (0, .ref x), (1, .ref a)]) hx hb d_X_nearestLeaf_47 rfl hl (by decide) rfl (fun ls hl => ?_)
            refine lv_aload_n hx hb d_X_nearestLeaf_48 rfl (lv_at hl 0 rfl) ?_
            refine lv_goto (tgt := 53) hx hb d_X_nearestLeaf_49 (by decide) ?_
            exact ht_qret (r := some a) hx hb hr hlocks HW ⟨Or.inr ⟨a, v, rfl, ha, hp, hT.bestE ha hp hbest⟩, rfl⟩ d_X_nearestLeaf_53
        · exact absurd rfl c9
      | inr zo =>
        have hla := hN.br ha hp
        have hz := hT.half ha hp (ht_bit k (ht_rl (N a)))
        have h256 := hz.2.1
        refine lv_aload_n hx hb d_X_nearestLeaf_5 rfl (lv_at hl 1 rfl) ?_
        refine va_instS hx hb hown (htb _ wd_87) (HW.2.1.1 3 _ rfl).2 (HW.recv hla (q := (R_B, F_B, 6)) rfl) d_X_nearestLeaf_6 ?_
        refine lv_if_eq (tgt := 36) hx hb d_X_nearestLeaf_9 (by decide) (fun c9 => ?_) (fun c9 => ?_)
        · exact absurd c9 (by decide)
        · refine lv_aload_n hx hb d_X_nearestLeaf_12 rfl (lv_at hl 1 rfl) ?_
          refine va_castS hx hb hown (htb _ wd_87) (HW.2.1.1 3 _ rfl).2 (HW.recv hla (q := (R_B, F_B, 6)) rfl) d_X_nearestLeaf_13 ?_
          refine lv_astore_n (lv' := [(2, .ref a), (0, .ref x), (1, .ref a)]) hx hb d_X_nearestLeaf_16 rfl hl (by decide) rfl (fun ls hl => ?_)
          refine lv_aload_n hx hb d_X_nearestLeaf_17 rfl (lv_at hl 0 rfl) ?_
          refine lv_aload_n hx hb d_X_nearestLeaf_18 rfl (lv_at hl 1 rfl) ?_
          refine ht_get (C := R_X) (T := F_X) (N := 9) (v := .ref kA) hx hb htb i_X hown HW hX rfl 0 (by decide) (htb _ wd_40) (fun _ h9 => h9) rfl d_X_nearestLeaf_19 ?_
          refine lv_aload_n hx hb d_X_nearestLeaf_22 rfl (lv_at hl 0 rfl) ?_
          refine ht_get (C := R_B) (T := F_B) (N := 6) (v := .int (nI (ht_rl (N a)))) hx hb htb i_B hown HW hla rfl 1 (by decide) (htb _ wd_133) (fun x h9 => u_same (htb _ wd_134) x h9) rfl d_X_nearestLeaf_23 ?_
          refine ht_ci HW (va_runS (own := R_X) (As := [.ref kA, .int (nI (ht_rl (N a)))]) (rest := [.ref a]) ⟨hx, hb, hml, hown, htb⟩ (c_X_isOne l g w hK (ht_rl (N a)) h256 _ rfl) (va_cwS 2 htb (ht_gs wd_88 wd_89 wd_1 g_X_isOne) rfl rfl rfl (by decide +kernel) ⟨Nat.le_of_ble_eq_true rfl, Nat.le_of_ble_eq_true rfl⟩) (HW.preS _) rfl rfl hl.1 rfl (lv_room (Nat.le_of_ble_eq_true rfl)) d_X_nearestLeaf_26 ⟨Nat.le_of_ble_eq_true rfl, Nat.le_of_ble_eq_true rfl⟩) (fun q2 u1 H locs pu1 HW => ?_)
          obtain ⟨eq2, eu1⟩ := pu1
          subst eu1
          rw [eq2]
          refine ht_cq HW (va_runV (own := R_X) (C := R_B) (As := [.int (ht_b1 (ht_bit k (ht_rl (N a))))]) (rest := []) ⟨hx, hb, hml, hown, htb⟩ (c_B_half l g w hla (ht_bit k (ht_rl (N a)))) (cwV 1 htb (ht_gv wd_91 wd_92 wd_93 wd_8 g_B_half) rfl rfl rfl (by decide +kernel) ⟨Nat.le_of_ble_eq_true rfl, Nat.le_of_ble_eq_true rfl⟩) (HW.preV hla rfl _) rfl rfl hl.1 rfl (lv_room (Nat.le_of_ble_eq_true rfl)) d_X_nearestLeaf_29 ⟨Nat.le_of_ble_eq_true rfl, Nat.le_of_ble_eq_true rfl⟩) (fun q4 u3 H locs ph HW => ?_)
          obtain ⟨eh, eww⟩ := ph
          subst eww
          subst eh
          refine W.eq (g2 := F0 m 32 ls [.ref (ht_ch zo (ht_bit k (ht_rl (N a))))]) rfl ?_
          refine lv_astore_n (lv' := [(1, .ref (ht_ch zo (ht_bit k (ht_rl (N a))))), (2, .ref a), (0, .ref x)]) hx hb d_X_nearestLeaf_32 rfl hl (by decide) rfl (fun ls hl => ?_)
          refine lv_goto (tgt := 5) hx hb d_X_nearestLeaf_33 (by decide) ?_
          exact ih _ hz.1 (hT.bestS ha hp hbest) (by have := hz.2.2.1; omega) _ _ _ HW (lv_sub hl [2, 0] rfl)
  cases top with
  | none =>
    refine lv_aload_n hx hb d_X_nearestLeaf_0 rfl (lv_at hl 0 rfl) ?_
    refine ht_get (C := R_X) (T := F_X) (N := 9) (v := .null) hx hb htb i_X hown HW hX rfl 3 (by decide) (htb _ wd_43) (fun _ h9 => h9) rfl d_X_nearestLeaf_1 ?_
    refine lv_astore_nN (lv' := [(1, .null), (0, .ref x)]) hx hb d_X_nearestLeaf_4 rfl hl (by decide) rfl (fun ls hl => ?_)
    refine lv_aload_nN hx hb d_X_nearestLeaf_5 rfl (lv_at hl 0 rfl) ?_
    refine lv_instN hx hb d_X_nearestLeaf_6 ?_
    refine lv_if_eq (tgt := 36) hx hb d_X_nearestLeaf_9 (by decide) (fun c9 => ?_) (fun c9 => ?_)
    · refine lv_aload_nN hx hb d_X_nearestLeaf_36 rfl (lv_at hl 0 rfl) ?_
      refine lv_instN hx hb d_X_nearestLeaf_37 ?_
      refine lv_if_eq (tgt := 52) hx hb d_X_nearestLeaf_40 (by decide) (fun c40 => ?_) (fun c40 => ?_)
      · refine lv_null hx hb d_X_nearestLeaf_52 ?_
        exact ht_qret (r := none) hx hb hr hlocks HW ⟨Or.inl ⟨rfl, rfl⟩, rfl⟩ d_X_nearestLeaf_53
      · exact absurd rfl c40
    · exact absurd rfl c9
  | some t =>
    refine lv_aload_n hx hb d_X_nearestLeaf_0 rfl (lv_at hl 0 rfl) ?_
    refine ht_get (C := R_X) (T := F_X) (N := 9) (v := .ref t) hx hb htb i_X hown HW hX rfl 3 (by decide) (htb _ wd_43) (fun _ h9 => h9) rfl d_X_nearestLeaf_1 ?_
    refine lv_astore_n (lv' := [(1, .ref t), (0, .ref x)]) hx hb d_X_nearestLeaf_4 rfl hl (by decide) rfl (fun ls hl => ?_)
    exact loop 256 t (hT.2.2.1.1 t rfl).1 (hT.best0 k) (by omega) _ _ _ HW (lv_sub hl [1, 0] rfl)
