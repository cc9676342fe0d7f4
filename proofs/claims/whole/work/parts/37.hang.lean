theorem ht_Nd.fr {g : ht_G} {w u : ht_W} {N : ht_N} {A : ht_AA} {F : List Nat} {S : Nat → Prop} (h : ht_Nd g w N A F) (hf : ht_fr S w u) (h1 : ∀ a ∈ F, ¬ S a) (h2 : ∀ b n f, ht_at w b (ht_al g n f) → S b → False) : ht_Nd g u N A F := by
  intro a ha
  obtain ⟨q1, q2, q3, q4⟩ := h a ha
  exact ⟨hf.at q1 (h1 a ha), hf.at q2 (h2 _ _ _ q2), hf.at q3 (h2 _ _ _ q3), fun v hv => hf.at (q4 v hv) (h2 _ _ _ (q4 v hv))⟩
theorem ht_ne_lo {ci n : Nat} {fs : List Value} {g : ht_G} {f : Nat → Int64} {w : ht_W} {a b : Nat} (h : ht_at w b (ht_al g n f)) (h' : ht_at w a (.inr (ci, fs))) : b ≠ a := ht_ne h h' ht_ne_ol
/-- an object that is no node changes -/
theorem ht_Nd.upo {g : ht_G} {w : ht_W} {N : ht_N} {A : ht_AA} {F : List Nat} (h : ht_Nd g w N A F) {b ci : Nat} {fs : List Value} {e : va_E} (hb : ht_at w b (.inr (ci, fs))) (hF : b ∉ F) : ht_Nd g (ht_up w b e) N A F :=
  h.fr (S := fun z => z = b) (ht_fr.up rfl) (fun a ha z => hF (by rw [← z]; exact ha)) (fun b' n f h' z => ht_ne_lo h' hb z)
theorem ht_Nd.nw {g : ht_G} {w : ht_W} {N : ht_N} {A : ht_AA} {F : List Nat} (h : ht_Nd g w N A F) {b : Nat} {e : va_E} (hb : b ∉ w.1) : ht_Nd g (ht_nw w b e) N A F :=
  h.fr (S := fun _ => False) (ht_fr.nw hb) (fun _ _ z => z) (fun _ _ _ _ z => z)
/-- a branch gets another half -/
theorem ht_Nd.sp {g : ht_G} {w : ht_W} {N : ht_N} {A : ht_AA} {F : List Nat} (h : ht_Nd g w N A F) {cu : Nat} (hc : cu ∈ F) {zo zo' : Nat × Nat} (hp : ht_rp (N cu) = .inr zo) : ht_Nd g (ht_up w cu (.inr (3, [.ref (A cu).1, .int (nI (ht_rl (N cu))), .ref (A cu).2.1, .int (ht_b1 (ht_rf (N cu))), .ref zo'.1, .ref zo'.2]))) (va_up N cu (ht_spy (N cu) (.inr zo'))) A F := by
  intro a ha
  obtain ⟨h1, h2, h3, h4⟩ := h a ha
  have n1 : (A a).1 ≠ cu := fun z => h.l h2 (by rw [z]; exact hc)
  have n2 : (A a).2.1 ≠ cu := fun z => h.l h3 (by rw [z]; exact hc)
  by_cases e : a = cu
  · subst e
    rw [va_up_self]
    refine ⟨ht_at_self h1, ht_at_ne h2 n1, ht_at_ne h3 n2, fun v hv => ?_⟩
    cases hv
  · rw [va_up_ne _ _ e]
    exact ⟨ht_at_ne h1 e, ht_at_ne h2 n1, ht_at_ne h3 n2, fun v hv => ht_at_ne (h4 v hv) (fun z => h.l (h4 v hv) (by rw [z]; exact hc))⟩
set_option maxHeartbeats 4000000 in
set_option maxRecDepth 100000 in
theorem c_X_hang_N (l : Launch) (g : ht_G) (w : ht_W) {x kA dg op sb la en : Nat} {top : Option Nat} {cnt ei : Int32} (hX : ht_at w x (.inr (0, [.ref kA, .ref dg, .ref op, va_rf top, .int cnt, .ref sb, .ref la, .ref en, .int ei]))) (nd : Nat) : Met l y_X_hang ws_X_hang ({ frames := 1, cells := 0, slots := 0, locals := 30 } : Room) (va_Pc [.ref x, .null, .ref nd] (ht_WS g w)) (ht_Qv g (fun u => u = ht_up w x (.inr (0, [.ref kA, .ref dg, .ref op, .ref nd, .int cnt, .ref sb, .ref la, .ref en, .int ei])))) 0 0 (ht_A g) := by
  refine Met.ofW (cc := b_X_hang) (maxL := 3) (ret := none) (by decide) rfl ?_
  intro p e s m args below meth c s₁ BB hml hv
  obtain ⟨rfl, HW⟩ := hv
  have HW := ht_I.start HW
  have hx := BB.exec
  have hb := BB.bytes
  have hr := BB.returns
  have hts := atoms_spec (ws := ws_X_hang) BB.pre
  have htb : ∀ w ∈ bg, w.before _ s = true := fun w h => hts w (List.mem_cons_of_mem _ h)
  have hown : s.vm.findClass R_X = some m.cls := findClass_of_methodNamed BB.named
  have hlocks := BB.notSynchronized
  have hl := lv_entry ([.ref x, .null, .ref nd]) (n := 3) (Nat.le_of_ble_eq_true rfl)
  rw [lg_entry_eq]
  generalize (lg_sl ([.ref x, .null, .ref nd]) ++ List.replicate (3 - (lg_sl ([.ref x, .null, .ref nd])).length) Slot.unset).toArray = ls at hl ⊢
  have hl : lv_has ls 3 [(0, .ref x), (1, .null), (2, .ref nd)] := hl
  refine lv_aload_nN hx hb d_X_hang_0 rfl (lv_at hl 1 rfl) ?_
  refine lv_ifnonnullN hx hb d_X_hang_1 ?_
  refine lv_aload_n hx hb d_X_hang_4 rfl (lv_at hl 0 rfl) ?_
  refine lv_aload_n hx hb d_X_hang_5 rfl (lv_at hl 2 rfl) ?_
  refine ht_put (C := R_X) (T := F_X) (N := 9) (v := .ref nd) (ty := .object "HashTree$Node") hx hb htb i_X t_X t_X_ok n_X hown HW hX rfl 3 (by decide) (htb _ wd_43) (fun _ h9 => h9) rfl (by decide +kernel) rfl rfl (Nat.le_of_ble_eq_true rfl) d_X_hang_6 (fun H locs HW => ?_)
  obtain ⟨u1, hu1⟩ : ∃ zW : ht_W, zW = ht_up w x (.inr (0, [.ref kA, .ref dg, .ref op, .ref nd, .int cnt, .ref sb, .ref la, .ref en, .int ei]) : va_E) := ⟨_, rfl⟩
  have HW : ht_I g s u1 H locs := by rw [hu1]; exact HW
  have hX : ht_at u1 x (.inr (0, [.ref kA, .ref dg, .ref op, .ref nd, .int cnt, .ref sb, .ref la, .ref en, .int ei]) : va_E) := by rw [hu1]; exact ht_at_self hX
  refine lv_goto (tgt := 28) hx hb d_X_hang_9 (by decide) ?_
  exact ht_vret hx hb hr hlocks HW hu1 d_X_hang_28
set_option maxHeartbeats 4000000 in
set_option maxRecDepth 100000 in
theorem c_X_hang_S (l : Launch) (g : ht_G) (w : ht_W) {x kA dg op sb la en : Nat} {top : Option Nat} {cnt ei : Int32} (hX : ht_at w x (.inr (0, [.ref kA, .ref dg, .ref op, va_rf top, .int cnt, .ref sb, .ref la, .ref en, .int ei]))) {k : ht_K} (hK : ht_at w kA (ht_al g 4 (ht_kf k))) {b ka ha z o d : Nat} {fr : Int32} (hd : d < 256) (hB : ht_at w b (.inr (3, [.ref ka, .int (nI d), .ref ha, .int fr, .ref z, .ref o]))) (nd : Nat) : Met l y_X_hang ws_X_hang ({ frames := 1, cells := 0, slots := 0, locals := 30 } : Room) (va_Pc [.ref x, .ref b, .ref nd] (ht_WS g w)) (ht_Qv g (fun u => u = ht_up w b (.inr (3, [.ref ka, .int (nI d), .ref ha, .int fr, .ref (ht_zo (z, o) (ht_bit k d) nd).1, .ref (ht_zo (z, o) (ht_bit k d) nd).2])))) 0 0 (ht_A g) := by
  refine Met.ofW (cc := b_X_hang) (maxL := 3) (ret := none) (by decide) rfl ?_
  intro p e s m args below meth c s₁ BB hml hv
  obtain ⟨rfl, HW⟩ := hv
  have HW := ht_I.start HW
  have hx := BB.exec
  have hb := BB.bytes
  have hr := BB.returns
  have hts := atoms_spec (ws := ws_X_hang) BB.pre
  have htb : ∀ w ∈ bg, w.before _ s = true := fun w h => hts w (List.mem_cons_of_mem _ h)
  have hown : s.vm.findClass R_X = some m.cls := findClass_of_methodNamed BB.named
  have hlocks := BB.notSynchronized
  have hl := lv_entry ([.ref x, .ref b, .ref nd]) (n := 3) (Nat.le_of_ble_eq_true rfl)
  rw [lg_entry_eq]
  generalize (lg_sl ([.ref x, .ref b, .ref nd]) ++ List.replicate (3 - (lg_sl ([.ref x, .ref b, .ref nd])).length) Slot.unset).toArray = ls at hl ⊢
  have hl : lv_has ls 3 [(0, .ref x), (1, .ref b), (2, .ref nd)] := hl
  refine lv_aload_n hx hb d_X_hang_0 rfl (lv_at hl 1 rfl) ?_
  refine lv_ifnonnull (tgt := 12) hx hb d_X_hang_1 (by decide) ?_
  refine lv_aload_n hx hb d_X_hang_12 rfl (lv_at hl 1 rfl) ?_
  refine lv_aload_n hx hb d_X_hang_13 rfl (lv_at hl 0 rfl) ?_
  refine ht_get (C := R_X) (T := F_X) (N := 9) (v := .ref kA) hx hb htb i_X hown HW hX rfl 0 (by decide) (htb _ wd_40) (fun _ h9 => h9) rfl d_X_hang_14 ?_
  refine lv_aload_n hx hb d_X_hang_17 rfl (lv_at hl 1 rfl) ?_
  refine ht_get (C := R_B) (T := F_B) (N := 6) (v := .int (nI d)) hx hb htb i_B hown HW hB rfl 1 (by decide) (htb _ wd_133) (fun x h9 => u_same (htb _ wd_134) x h9) rfl d_X_hang_18 ?_
  refine ht_ci HW (va_runS (own := R_X) (As := [.ref kA, .int (nI d)]) (rest := [.ref b]) ⟨hx, hb, hml, hown, htb⟩ (c_X_isOne l g w hK d hd _ rfl) (va_cwS 2 htb (ht_gs wd_88 wd_89 wd_1 g_X_isOne) rfl rfl rfl (by decide +kernel) ⟨Nat.le_of_ble_eq_true rfl, Nat.le_of_ble_eq_true rfl⟩) (HW.preS _) rfl rfl hl.1 rfl (lv_room (Nat.le_of_ble_eq_true rfl)) d_X_hang_21 ⟨Nat.le_of_ble_eq_true rfl, Nat.le_of_ble_eq_true rfl⟩) (fun q2 u1 H locs pu1 HW => ?_)
  obtain ⟨eq2, eu1⟩ := pu1
  subst eu1
  rw [eq2]
  refine lv_aload_n hx hb d_X_hang_24 rfl (lv_at hl 2 rfl) ?_
  refine ht_cv HW (va_runV (own := R_X) (C := R_B) (As := [.int (ht_b1 (ht_bit k d)), .ref nd]) (rest := []) ⟨hx, hb, hml, hown, htb⟩ (c_B_putHalf l g w hB (ht_bit k d) nd) (cwV 2 htb (ht_gv wd_182 wd_183 wd_184 wd_8 g_B_putHalf) rfl rfl rfl (by decide +kernel) ⟨Nat.le_of_ble_eq_true rfl, Nat.le_of_ble_eq_true rfl⟩) (HW.preV hB rfl _) rfl rfl hl.1 rfl (lv_room (Nat.le_of_ble_eq_true rfl)) d_X_hang_25 ⟨Nat.le_of_ble_eq_true rfl, Nat.le_of_ble_eq_true rfl⟩) (fun u3 H locs pp HW => ?_)
  exact ht_vret hx hb hr hlocks HW pp d_X_hang_28
