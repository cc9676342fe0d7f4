/-! A node's cell, of either kind. -/
def ht_nc (r : ht_R) (ka ha va : Nat) : va_E := match ht_rp r with
  | .inl _ => .inr (2, [.ref ka, .int (nI (ht_rl r)), .ref ha, .int (ht_b1 (ht_rf r)), .ref va])
  | .inr zo => .inr (3, [.ref ka, .int (nI (ht_rl r)), .ref ha, .int (ht_b1 (ht_rf r)), .ref zo.1, .ref zo.2])
def ht_nv (r : ht_R) (ka ha : Nat) : List Value := [.ref ka, .int (nI (ht_rl r)), .ref ha, .int (ht_b1 (ht_rf r))]
def ht_sf (r : ht_R) (b : Bool) : ht_R := (r.1, r.2.1, r.2.2.1, b, r.2.2.2.2)
def ht_sh (r : ht_R) (h : ht_K) : ht_R := (r.1, r.2.1, h, r.2.2.2.1, r.2.2.2.2)
def ht_spy (r : ht_R) (p : ht_K ⊕ (Nat × Nat)) : ht_R := (r.1, r.2.1, r.2.2.1, r.2.2.2.1, p)
theorem ht_nc_l {r : ht_R} {ka ha va : Nat} {v : ht_K} (h : ht_rp r = .inl v) : ht_nc r ka ha va = .inr (2, [.ref ka, .int (nI (ht_rl r)), .ref ha, .int (ht_b1 (ht_rf r)), .ref va]) := by
  unfold ht_nc
  rw [h]
theorem ht_nc_b {r : ht_R} {ka ha va : Nat} {zo : Nat × Nat} (h : ht_rp r = .inr zo) : ht_nc r ka ha va = .inr (3, [.ref ka, .int (nI (ht_rl r)), .ref ha, .int (ht_b1 (ht_rf r)), .ref zo.1, .ref zo.2]) := by
  unfold ht_nc
  rw [h]
theorem ht_b1_0 {b : Bool} (h : ht_b1 b = 0) : b = false := by
  cases b with
  | false => rfl
  | true => exact absurd h (by decide)
theorem ht_b1_1 {b : Bool} (h : ¬ ht_b1 b = 0) : b = true := by
  cases b with
  | false => exact absurd rfl h
  | true => rfl
theorem ht_b1_n (b : Bool) : narrow .boolean (.int (ht_b1 b)) = .int (ht_b1 b) := by cases b <;> rfl
theorem ht_b1_f (b : Bool) : fits .boolean (.int (ht_b1 b)) = true := by cases b <;> rfl
section HTN
variable {p : Program} {l : Launch} {e : Env} {R : Room} {s : State} {m : MethodId} {args : Array Value} {below : List Frame} {meth : Method} {c : Code} {H : Heap} {locs : List Loc} {cells slots : Nat} {Q : State → Prop}
variable {cc : ByteArray} {pc : Nat} {ls : Array Slot} {rest : List Value} {g : ht_G} {w : ht_W} {a : Nat}
theorem ht_FLB {k : Nat} (h : k < 4) : F_L k = F_B k := by
  rcases (show k = 0 ∨ k = 1 ∨ k = 2 ∨ k = 3 by omega) with rfl | rfl | rfl | rfl <;> rfl
theorem ht_ngt (hx : p.tables.exec = Jvm.exec) (hb : c.code = cc) (htb : ∀ w ∈ bg, w.before args s = true) {own ref : String} {index : Nat} (hown : s.vm.findClass own = some m.cls) (HW : ht_I g s w H locs) {r : ht_R} {ka ha va : Nat} (he : ht_at w a (ht_nc r ka ha va)) (k : Nat) (hk : k < 4) (hlink : (Cond.fieldLink own index ref (F_B k).2.1 (F_B k).2.2.1).before args s = true) (hsame : ∀ x, s.fieldFound? (F_B k).1 (F_B k).2.1 (F_B k).2.2.1 = some x → s.fieldFound? ref (F_B k).2.1 (F_B k).2.2.1 = some x) {v : Value} (hv : (ht_nv r ka ha)[k]? = some v) (hdg : decode cc pc = .ok (.getfield index, 3))
    (kk : W p l e R s m args below meth c H locs cells slots Q (F0 m (pc + 3) ls (v :: rest))) : W p l e R s m args below meth c H locs cells slots Q (F0 m pc ls (.ref a :: rest)) := by
  cases hp : ht_rp r with
  | inl x =>
    rw [ht_nc_l hp] at he
    rw [← ht_FLB hk] at hlink hsame
    refine ht_get (C := R_L) (T := F_L) (N := 5) hx hb htb i_L hown HW he rfl k (by omega) hlink hsame ?_ hdg kk
    rw [← hv]
    rcases (show k = 0 ∨ k = 1 ∨ k = 2 ∨ k = 3 by omega) with rfl | rfl | rfl | rfl <;> rfl
  | inr zo =>
    rw [ht_nc_b hp] at he
    refine ht_get (C := R_B) (T := F_B) (N := 6) hx hb htb i_B hown HW he rfl k (by omega) hlink hsame ?_ hdg kk
    rw [← hv]
    rcases (show k = 0 ∨ k = 1 ∨ k = 2 ∨ k = 3 by omega) with rfl | rfl | rfl | rfl <;> rfl
theorem ht_npt (hx : p.tables.exec = Jvm.exec) (hb : c.code = cc) (htb : ∀ w ∈ bg, w.before args s = true) {own ref : String} {index : Nat} (hown : s.vm.findClass own = some m.cls) (HW : ht_I g s w H locs) {r : ht_R} {ka ha va : Nat} {b : Bool} (he : ht_at w a (ht_nc r ka ha va)) (hlink : (Cond.fieldLink own index ref (F_B 3).2.1 (F_B 3).2.2.1).before args s = true) (hsame : ∀ x, s.fieldFound? (F_B 3).1 (F_B 3).2.1 (F_B 3).2.2.1 = some x → s.fieldFound? ref (F_B 3).2.1 (F_B 3).2.2.1 = some x) (hdg : decode cc pc = .ok (.putfield index, 3))
    (kk : ∀ (H1 : Heap) (locs1 : List Loc), ht_I g s (ht_up w a (ht_nc (ht_sf r b) ka ha va)) H1 locs1 → W p l e R s m args below meth c H1 locs1 cells slots Q (F0 m (pc + 3) ls rest)) : W p l e R s m args below meth c H locs cells slots Q (F0 m pc ls (.int (ht_b1 b) :: .ref a :: rest)) := by
  cases hp : ht_rp r with
  | inl x =>
    have hp2 : ht_rp (ht_sf r b) = .inl x := hp
    rw [ht_nc_l hp] at he
    rw [ht_nc_l hp2] at kk
    exact ht_put (C := R_L) (T := F_L) (N := 5) (ty := .boolean) hx hb htb i_L t_L t_L_ok n_L hown HW he rfl 3 (by decide) hlink hsame rfl (by decide +kernel) (ht_b1_n b) (ht_b1_f b) (Nat.le_of_ble_eq_true rfl) hdg kk
  | inr zo =>
    have hp2 : ht_rp (ht_sf r b) = .inr zo := hp
    rw [ht_nc_b hp] at he
    rw [ht_nc_b hp2] at kk
    exact ht_put (C := R_B) (T := F_B) (N := 6) (ty := .boolean) hx hb htb i_B t_B t_B_ok n_B hown HW he rfl 3 (by decide) hlink hsame rfl (by decide +kernel) (ht_b1_n b) (ht_b1_f b) (Nat.le_of_ble_eq_true rfl) hdg kk
end HTN
set_option maxHeartbeats 4000000 in
set_option maxRecDepth 100000 in
theorem c_B_half (l : Launch) (g : ht_G) (w : ht_W) {b ka ha z o : Nat} {lv fr : Int32} (hB : ht_at w b (.inr (3, [.ref ka, .int lv, .ref ha, .int fr, .ref z, .ref o]))) (q : Bool) : Met l y_B_half ws_B_half ({ frames := 0, cells := 0, slots := 0, locals := 0 } : Room) (va_Pc [.ref b, .int (ht_b1 q)] (ht_WS g w)) (ht_Qq g (fun r u => r = some (ht_ch (z, o) q) ∧ w = u)) 0 0 (ht_A g) := by
  refine Met.ofW (cc := b_B_half) (maxL := 2) (ret := (some (.object "HashTree$Node"))) (by decide) rfl ?_
  intro p e s m args below meth c s₁ BB hml hv
  obtain ⟨rfl, HW⟩ := hv
  have HW := ht_I.start HW
  have hx := BB.exec
  have hb := BB.bytes
  have hr := BB.returns
  have hts := atoms_spec (ws := ws_B_half) BB.pre
  have htb : ∀ w ∈ bg, w.before _ s = true := fun w h => hts w (List.mem_cons_of_mem _ h)
  have hown : s.vm.findClass R_B = some m.cls := findClass_of_methodNamed BB.named
  have hlocks := BB.notSynchronized
  have hl := lv_entry ([.ref b, .int (ht_b1 q)]) (n := 2) (Nat.le_of_ble_eq_true rfl)
  rw [lg_entry_eq]
  generalize (lg_sl ([.ref b, .int (ht_b1 q)]) ++ List.replicate (2 - (lg_sl ([.ref b, .int (ht_b1 q)])).length) Slot.unset).toArray = ls at hl ⊢
  have hl : lv_has ls 2 [(0, .ref b), (1, .int (ht_b1 q))] := hl
  refine lv_iload_n hx hb d_B_half_0 rfl (lv_at hl 1 rfl) ?_
  refine lv_if_eq (tgt := 11) hx hb d_B_half_1 (by decide) (fun c1 => ?_) (fun c1 => ?_)
  · have hq := ht_b1_0 c1
    subst hq
    refine lv_aload_n hx hb d_B_half_11 rfl (lv_at hl 0 rfl) ?_
    refine ht_get (C := R_B) (T := F_B) (N := 6) (v := .ref z) hx hb htb i_B hown HW hB rfl 4 (by decide) (htb _ wd_165) (fun _ h9 => h9) rfl d_B_half_12 ?_
    exact ht_qret (r := some _) hx hb hr hlocks HW ⟨rfl, rfl⟩ d_B_half_15
  · have hq := ht_b1_1 c1
    subst hq
    refine lv_aload_n hx hb d_B_half_4 rfl (lv_at hl 0 rfl) ?_
    refine ht_get (C := R_B) (T := F_B) (N := 6) (v := .ref o) hx hb htb i_B hown HW hB rfl 5 (by decide) (htb _ wd_167) (fun _ h9 => h9) rfl d_B_half_5 ?_
    refine lv_goto (tgt := 15) hx hb d_B_half_8 (by decide) ?_
    exact ht_qret (r := some _) hx hb hr hlocks HW ⟨rfl, rfl⟩ d_B_half_15
set_option maxHeartbeats 4000000 in
set_option maxRecDepth 100000 in
theorem c_B_putHalf (l : Launch) (g : ht_G) (w : ht_W) {b ka ha z o : Nat} {lv fr : Int32} (hB : ht_at w b (.inr (3, [.ref ka, .int lv, .ref ha, .int fr, .ref z, .ref o]))) (q : Bool) (x : Nat) : Met l y_B_putHalf ws_B_putHalf ({ frames := 0, cells := 0, slots := 0, locals := 0 } : Room) (va_Pc [.ref b, .int (ht_b1 q), .ref x] (ht_WS g w)) (ht_Qv g (fun u => u = ht_up w b (.inr (3, [.ref ka, .int lv, .ref ha, .int fr, .ref (ht_zo (z, o) q x).1, .ref (ht_zo (z, o) q x).2])))) 0 0 (ht_A g) := by
  refine Met.ofW (cc := b_B_putHalf) (maxL := 3) (ret := none) (by decide) rfl ?_
  intro p e s m args below meth c s₁ BB hml hv
  obtain ⟨rfl, HW⟩ := hv
  have HW := ht_I.start HW
  have hx := BB.exec
  have hb := BB.bytes
  have hr := BB.returns
  have hts := atoms_spec (ws := ws_B_putHalf) BB.pre
  have htb : ∀ w ∈ bg, w.before _ s = true := fun w h => hts w (List.mem_cons_of_mem _ h)
  have hown : s.vm.findClass R_B = some m.cls := findClass_of_methodNamed BB.named
  have hlocks := BB.notSynchronized
  have hl := lv_entry ([.ref b, .int (ht_b1 q), .ref x]) (n := 3) (Nat.le_of_ble_eq_true rfl)
  rw [lg_entry_eq]
  generalize (lg_sl ([.ref b, .int (ht_b1 q), .ref x]) ++ List.replicate (3 - (lg_sl ([.ref b, .int (ht_b1 q), .ref x])).length) Slot.unset).toArray = ls at hl ⊢
  have hl : lv_has ls 3 [(0, .ref b), (1, .int (ht_b1 q)), (2, .ref x)] := hl
  refine lv_iload_n hx hb d_B_putHalf_0 rfl (lv_at hl 1 rfl) ?_
  refine lv_if_eq (tgt := 12) hx hb d_B_putHalf_1 (by decide) (fun c1 => ?_) (fun c1 => ?_)
  · have hq := ht_b1_0 c1
    subst hq
    refine lv_aload_n hx hb d_B_putHalf_12 rfl (lv_at hl 0 rfl) ?_
    refine lv_aload_n hx hb d_B_putHalf_13 rfl (lv_at hl 2 rfl) ?_
    refine ht_put (C := R_B) (T := F_B) (N := 6) (v := .ref x) (ty := .object "HashTree$Node") hx hb htb i_B t_B t_B_ok n_B hown HW hB rfl 4 (by decide) (htb _ wd_165) (fun _ h9 => h9) rfl (by decide +kernel) rfl rfl (Nat.le_of_ble_eq_true rfl) d_B_putHalf_14 (fun H locs HW => ?_)
    obtain ⟨u1, hu1⟩ : ∃ zW : ht_W, zW = ht_up w b (.inr (3, [.ref ka, .int lv, .ref ha, .int fr, .ref x, .ref o]) : va_E) := ⟨_, rfl⟩
    have HW : ht_I g s u1 H locs := by rw [hu1]; exact HW
    have hB : ht_at u1 b (.inr (3, [.ref ka, .int lv, .ref ha, .int fr, .ref x, .ref o]) : va_E) := by rw [hu1]; exact ht_at_self hB
    exact ht_vret hx hb hr hlocks HW hu1 d_B_putHalf_17
  · have hq := ht_b1_1 c1
    subst hq
    refine lv_aload_n hx hb d_B_putHalf_4 rfl (lv_at hl 0 rfl) ?_
    refine lv_aload_n hx hb d_B_putHalf_5 rfl (lv_at hl 2 rfl) ?_
    refine ht_put (C := R_B) (T := F_B) (N := 6) (v := .ref x) (ty := .object "HashTree$Node") hx hb htb i_B t_B t_B_ok n_B hown HW hB rfl 5 (by decide) (htb _ wd_167) (fun _ h9 => h9) rfl (by decide +kernel) rfl rfl (Nat.le_of_ble_eq_true rfl) d_B_putHalf_6 (fun H locs HW => ?_)
    obtain ⟨u2, hu2⟩ : ∃ zW : ht_W, zW = ht_up w b (.inr (3, [.ref ka, .int lv, .ref ha, .int fr, .ref z, .ref x]) : va_E) := ⟨_, rfl⟩
    have HW : ht_I g s u2 H locs := by rw [hu2]; exact HW
    have hB : ht_at u2 b (.inr (3, [.ref ka, .int lv, .ref ha, .int fr, .ref z, .ref x]) : va_E) := by rw [hu2]; exact ht_at_self hB
    refine lv_goto (tgt := 17) hx hb d_B_putHalf_9 (by decide) ?_
    exact ht_vret hx hb hr hlocks HW hu2 d_B_putHalf_17
set_option maxHeartbeats 4000000 in
set_option maxRecDepth 100000 in
theorem c_B_staleHalf (l : Launch) (g : ht_G) (w : ht_W) {b ka ha z o : Nat} {lv fr : Int32} (hB : ht_at w b (.inr (3, [.ref ka, .int lv, .ref ha, .int fr, .ref z, .ref o]))) {rz ro : ht_R} {kz hz vz ko ho vo : Nat} (hZ : ht_at w z (ht_nc rz kz hz vz)) (hO : ht_at w o (ht_nc ro ko ho vo)) : Met l y_B_staleHalf ws_B_staleHalf ({ frames := 0, cells := 0, slots := 0, locals := 0 } : Room) (va_Pc [.ref b] (ht_WS g w)) (ht_Qq g (fun r u => r = (if ht_rf rz = true then (if ht_rf ro = true then none else some o) else some z) ∧ w = u)) 0 0 (ht_A g) := by
  refine Met.ofW (cc := b_B_staleHalf) (maxL := 1) (ret := (some (.object "HashTree$Node"))) (by decide) rfl ?_
  intro p e s m args below meth c s₁ BB hml hv
  obtain ⟨rfl, HW⟩ := hv
  have HW := ht_I.start HW
  have hx := BB.exec
  have hb := BB.bytes
  have hr := BB.returns
  have hts := atoms_spec (ws := ws_B_staleHalf) BB.pre
  have htb : ∀ w ∈ bg, w.before _ s = true := fun w h => hts w (List.mem_cons_of_mem _ h)
  have hown : s.vm.findClass R_B = some m.cls := findClass_of_methodNamed BB.named
  have hlocks := BB.notSynchronized
  have hl := lv_entry ([.ref b]) (n := 1) (Nat.le_of_ble_eq_true rfl)
  rw [lg_entry_eq]
  generalize (lg_sl ([.ref b]) ++ List.replicate (1 - (lg_sl ([.ref b])).length) Slot.unset).toArray = ls at hl ⊢
  have hl : lv_has ls 1 [(0, .ref b)] := hl
  refine lv_aload_n hx hb d_B_staleHalf_0 rfl (lv_at hl 0 rfl) ?_
  refine ht_get (C := R_B) (T := F_B) (N := 6) (v := .ref z) hx hb htb i_B hown HW hB rfl 4 (by decide) (htb _ wd_165) (fun _ h9 => h9) rfl d_B_staleHalf_1 ?_
  refine ht_ngt hx hb htb hown HW hZ 3 (by decide) (htb _ wd_141) (fun _ h9 => h9) (v := .int (ht_b1 (ht_rf rz))) rfl d_B_staleHalf_4 ?_
  refine lv_if_ne (tgt := 15) hx hb d_B_staleHalf_7 (by decide) (fun c7 => ?_) (fun c7 => ?_)
  · have h7 := ht_b1_1 c7
    refine lv_aload_n hx hb d_B_staleHalf_15 rfl (lv_at hl 0 rfl) ?_
    refine ht_get (C := R_B) (T := F_B) (N := 6) (v := .ref o) hx hb htb i_B hown HW hB rfl 5 (by decide) (htb _ wd_167) (fun _ h9 => h9) rfl d_B_staleHalf_16 ?_
    refine ht_ngt hx hb htb hown HW hO 3 (by decide) (htb _ wd_141) (fun _ h9 => h9) (v := .int (ht_b1 (ht_rf ro))) rfl d_B_staleHalf_19 ?_
    refine lv_if_eq (tgt := 29) hx hb d_B_staleHalf_22 (by decide) (fun c22 => ?_) (fun c22 => ?_)
    · have h22 := ht_b1_0 c22
      refine lv_aload_n hx hb d_B_staleHalf_29 rfl (lv_at hl 0 rfl) ?_
      refine ht_get (C := R_B) (T := F_B) (N := 6) (v := .ref o) hx hb htb i_B hown HW hB rfl 5 (by decide) (htb _ wd_167) (fun _ h9 => h9) rfl d_B_staleHalf_30 ?_
      exact ht_qret (r := some o) hx hb hr hlocks HW ⟨by rw [if_pos h7, if_neg (by rw [h22]; decide)], rfl⟩ d_B_staleHalf_33
    · have h22 := ht_b1_1 c22
      refine lv_null hx hb d_B_staleHalf_25 ?_
      refine lv_goto (tgt := 33) hx hb d_B_staleHalf_26 (by decide) ?_
      exact ht_qret (r := none) hx hb hr hlocks HW ⟨by rw [if_pos h7, if_pos h22], rfl⟩ d_B_staleHalf_33
  · have h7 := ht_b1_0 c7
    refine lv_aload_n hx hb d_B_staleHalf_10 rfl (lv_at hl 0 rfl) ?_
    refine ht_get (C := R_B) (T := F_B) (N := 6) (v := .ref z) hx hb htb i_B hown HW hB rfl 4 (by decide) (htb _ wd_165) (fun _ h9 => h9) rfl d_B_staleHalf_11 ?_
    exact ht_qret (r := some z) hx hb hr hlocks HW ⟨by rw [if_neg (by rw [h7]; decide)], rfl⟩ d_B_staleHalf_14
