/-! The world as one pool: a list of addresses and what stands at each; one fact HW carries all that a method knows of it. -/
abbrev ht_W : Type := List Nat × (Nat → va_E)
/-- classes and slots; the heap's size at the law's start; the array classes; the static tables' addresses -/
abbrev ht_G : Type := va_G × Nat × (Nat → ClassId) × (Nat → Nat)
def ht_A (g : ht_G) : Nat → Prop := fun q => g.2.1 ≤ q
abbrev ht_o (ci : Nat) (fs : List Value) : va_E := .inr (ci, fs)
abbrev ht_ai (g : ht_G) (n : Nat) (f : Nat → Int32) : va_E := .inl (g.2.2.1 0, n, .inl f)
abbrev ht_al (g : ht_G) (n : Nat) (f : Nat → Int64) : va_E := .inl (g.2.2.1 1, n, .inr (.inl f))
abbrev ht_ab (g : ht_G) (n : Nat) (f : Nat → Int32) : va_E := .inl (g.2.2.1 3, n, .inl f)
abbrev ht_aq (g : ht_G) (n : Nat) (f : Nat → Option Nat) : va_E := .inl (g.2.2.1 2, n, .inr (.inr (.inr (.inr f))))
def ht_at (w : ht_W) (a : Nat) (e : va_E) : Prop := a ∈ w.1 ∧ w.2 a = e
def ht_up (w : ht_W) (a : Nat) (e : va_E) : ht_W := (w.1, va_up w.2 a e)
def ht_nw (w : ht_W) (a : Nat) (e : va_E) : ht_W := (w.1 ++ [a], va_up w.2 a e)
theorem ht_at_self {w : ht_W} {a : Nat} {e0 e : va_E} (h : ht_at w a e0) : ht_at (ht_up w a e) a e := ⟨h.1, va_up_self _ _ _⟩
theorem ht_at_ne {w : ht_W} {a b : Nat} {e e' : va_E} (h : ht_at w b e') (hn : b ≠ a) : ht_at (ht_up w a e) b e' := ⟨h.1, (va_up_ne _ _ hn).trans h.2⟩
theorem ht_at_new {w : ht_W} {a : Nat} {e : va_E} : ht_at (ht_nw w a e) a e := ⟨List.mem_append_right _ (List.mem_singleton.mpr rfl), va_up_self _ _ _⟩
theorem ht_at_old {w : ht_W} {a b : Nat} {e e' : va_E} (h : ht_at w b e') (hn : a ∉ w.1) : ht_at (ht_nw w a e) b e' := ⟨List.mem_append_left _ h.1, (va_up_ne w.2 e (k := a) (j := b) (fun z => hn (by rw [← z]; exact h.1))).trans h.2⟩
theorem ht_up_up {w : ht_W} {a : Nat} {e e' : va_E} : ht_up (ht_up w a e) a e' = ht_up w a e' := by
  simp only [ht_up]; rw [bx_uu]
theorem ht_up_comm {w : ht_W} {a b : Nat} {e e' : va_E} (h : a ≠ b) : ht_up (ht_up w a e) b e' = ht_up (ht_up w b e') a e := by
  simp only [ht_up, Prod.mk.injEq, true_and]
  funext j
  unfold va_up
  by_cases h1 : j = b
  · subst h1
    rw [if_pos rfl, if_neg (fun q => h q.symm), if_pos rfl]
  · rw [if_neg h1]
    by_cases h2 : j = a
    · subst h2; rw [if_pos rfl, if_pos rfl]
    · rw [if_neg h2, if_neg h2, if_neg h1]
theorem ht_up_id {w : ht_W} {a : Nat} {e : va_E} (h : ht_at w a e) : ht_up w a e = w := by
  obtain ⟨L, f⟩ := w
  simp only [ht_up, Prod.mk.injEq, true_and]
  funext j
  unfold va_up
  by_cases h1 : j = a
  · subst h1; rw [if_pos rfl]; exact h.2.symm
  · rw [if_neg h1]
theorem ht_ne {w : ht_W} {a b : Nat} {e e' : va_E} (ha : ht_at w a e) (hb : ht_at w b e') (h : e ≠ e') : a ≠ b := fun q => h (by rw [← ha.2, ← hb.2, q])
def ht_ty (g : ht_G) : List (ClassId × FieldType) := [(g.2.2.1 0, .int), (g.2.2.1 1, .long), (g.2.2.1 2, .object "HashTree$Node"), (g.2.2.1 3, .byte)]
/-- the static tables that nobody writes -/
def ht_tab (ty : FieldType) (C n d : String) (t N : Nat) (f : Nat → Value) (A : Nat → Prop) (U : State) (H : Heap) : Prop := va_Z C n d (.ref t) A U H ∧ va_T ty t N f A U H
theorem ht_tab.moved {ty : FieldType} {C n d : String} {t N : Nat} {f : Nat → Value} {A : Nat → Prop} {u U : State} {H : Heap} (hvm : u.vm.Alike U.vm) (h : ht_tab ty C n d t N f A u H) : ht_tab ty C n d t N f A U H := ⟨h.1.moved hvm, h.2.moved hvm⟩
theorem ht_tab.kept {ty : FieldType} {C n d : String} {t N : Nat} {f : Nat → Value} {A : Nat → Prop} {U : State} {H H1 : Heap} (h : ht_tab ty C n d t N f A U H) (hq : ∀ a : Nat, a < H.size → ¬ A a → H1[a]? = H[a]?) : ht_tab ty C n d t N f A U H1 := ⟨h.1.kept hq, h.2.kept hq⟩
/-- k, and the first words, as the document has them -/
def ht_k64 : List Int32 := [1116352408, 1899447441, -1245643825, -373957723, 961987163, 1508970993, -1841331548, -1424204075, -670586216, 310598401, 607225278, 1426881987, 1925078388, -2132889090, -1680079193, -1046744716, -459576895, -272742522, 264347078, 604807628, 770255983, 1249150122, 1555081692, 1996064986, -1740746414, -1473132947, -1341970488, -1084653625, -958395405, -710438585, 113926993, 338241895, 666307205, 773529912, 1294757372, 1396182291, 1695183700, 1986661051, -2117940946, -1838011259, -1564481375, -1474664885, -1035236496, -949202525, -778901479, -694614492, -200395387, 275423344, 430227734, 506948616, 659060556, 883997877, 958139571, 1322822218, 1537002063, 1747873779, 1955562222, 2024104815, -2067236844, -1933114872, -1866530822, -1538233109, -1090935817, -965641998]
def ht_w8 : List Int32 := [1779033703, -1150833019, 1013904242, -1521486534, 1359893119, -1694144372, 528734635, 1541459225]
def ht_l64 : List Int64 := [1116352408, 1899447441, 3049323471, 3921009573, 961987163, 1508970993, 2453635748, 2870763221, 3624381080, 310598401, 607225278, 1426881987, 1925078388, 2162078206, 2614888103, 3248222580, 3835390401, 4022224774, 264347078, 604807628, 770255983, 1249150122, 1555081692, 1996064986, 2554220882, 2821834349, 2952996808, 3210313671, 3336571891, 3584528711, 113926993, 338241895, 666307205, 773529912, 1294757372, 1396182291, 1695183700, 1986661051, 2177026350, 2456956037, 2730485921, 2820302411, 3259730800, 3345764771, 3516065817, 3600352804, 4094571909, 275423344, 430227734, 506948616, 659060556, 883997877, 958139571, 1322822218, 1537002063, 1747873779, 1955562222, 2024104815, 2227730452, 2361852424, 2428436474, 2756734187, 3204031479, 3329325298]
def ht_St (g : ht_G) (U : State) (H : Heap) : Prop :=
  ht_tab .long "HashTree" "EMPTY" "[J" (g.2.2.2 0) 4 (fun _ => .long 0) (ht_A g) U H ∧
  ht_tab .int "HashTree$Digester" "FIRST_WORDS" "[I" (g.2.2.2 1) 8 (fun j => .int (ht_w8.getD j 0)) (ht_A g) U H ∧
  ht_tab .int "HashTree$Digester" "K" "[I" (g.2.2.2 2) 64 (fun j => .int (ht_k64.getD j 0)) (ht_A g) U H ∧
  ht_tab .long "HashTreeModel" "CONSTANTS" "[J" (g.2.2.2 3) 64 (fun j => .long (ht_l64.getD j 0)) (ht_A g) U H ∧
  va_Nw (.castable "HashTree$Branch" "HashTree$Node") U ∧ va_Nw (.castable "HashTree$Leaf" "HashTree$Node") U ∧ va_Nw (.castable "[J" "java/lang/Cloneable") U ∧
  va_Nc "HashTree$Leaf" "HashTree$Branch" U ∧ va_Nc "HashTree$Branch" "HashTree$Leaf" U ∧ va_AO "HashTree$Node" U ∧ va_Nw (.methodLinkNest "HashTree" 15 y_D_init "HashTree") U
theorem ht_St.warm {g : ht_G} {s U : State} {H : Heap} (hW : s.WarmedH U.vm) (h : ht_St g s H) : ht_St g U H := by
  obtain ⟨h1, h2, h3, h4, h5, h6, h7, h8, h9, h10, h11⟩ := h
  exact ⟨h1.moved hW.alike, h2.moved hW.alike, h3.moved hW.alike, h4.moved hW.alike, va_Nw.warmC hW h5, va_Nw.warmC hW h6, va_Nw.warmC hW h7, h8.moved hW.alike, h9.moved hW.alike, h10.moved hW.alike, va_Nw.warmM hW h11⟩
theorem ht_St.same {g : ht_G} {u U : State} {H : Heap} (hv : u.vm = U.vm) (h : ht_St g u H) : ht_St g U H := by
  obtain ⟨h1, h2, h3, h4, h5, h6, h7, h8, h9, h10, h11⟩ := h
  have ha : u.vm.Alike U.vm := hv ▸ Vm.Alike.refl u.vm
  exact ⟨h1.moved ha, h2.moved ha, h3.moved ha, h4.moved ha, va_Nw.same rfl hv h5, va_Nw.same rfl hv h6, va_Nw.same rfl hv h7, h8.moved ha, h9.moved ha, h10.moved ha, va_Nw.same rfl hv h11⟩
theorem ht_St.kept {g : ht_G} {U : State} {H H1 : Heap} (h : ht_St g U H) (hq : ∀ a : Nat, a < H.size → ¬ ht_A g a → H1[a]? = H[a]?) : ht_St g U H1 := by
  obtain ⟨h1, h2, h3, h4, h5⟩ := h
  exact ⟨h1.kept hq, h2.kept hq, h3.kept hq, h4.kept hq, h5⟩
/-- what a method finds, and leaves -/
def ht_WS (g : ht_G) (w : ht_W) (U : State) : Prop := g.2.1 ≤ U.heap.size ∧ va_K g.1 vwCl (ht_ty g) U ∧ ht_St g U U.heap ∧ va_P g.1 vwCl (va_pl w.1 w.2) U.heap ∧ va_D (ht_A g) (va_pl w.1 w.2)
/-- what it knows while it runs -/
def ht_I (g : ht_G) (s : State) (w : ht_W) (H : Heap) (locs : List Loc) : Prop := g.2.1 ≤ s.heap.size ∧ va_K g.1 vwCl (ht_ty g) s ∧ ht_St g s s.heap ∧ va_P g.1 vwCl (va_pl w.1 w.2) H ∧ va_D (ht_A g) (va_pl w.1 w.2) ∧ va_S (ht_A g) s.heap H locs
theorem ht_I.start {g : ht_G} {s : State} {w : ht_W} (h : ht_WS g w s) : ht_I g s w s.heap [] := ⟨h.1, h.2.1, h.2.2.1, h.2.2.2.1, h.2.2.2.2, va_S.rf⟩
theorem ht_I.hA {g : ht_G} {s : State} {w : ht_W} {H : Heap} {locs : List Loc} (h : ht_I g s w H locs) : ∀ q, s.heap.size ≤ q → ht_A g q := fun _ hq => Nat.le_trans h.1 hq
theorem ht_I.to {g : ht_G} {s : State} {w w' : ht_W} {H : Heap} {locs : List Loc} (h : ht_I g s w H locs) (e : w = w') : ht_I g s w' H locs := e ▸ h
theorem ht_I.ws {g : ht_G} {s t : State} {w : ht_W} {H : Heap} {locs : List Loc} (h : ht_I g s w H locs) (ht : t.heap = H) (hW : s.WarmedH t.vm) : ht_WS g w t := by
  subst ht
  exact ⟨Nat.le_trans h.1 h.2.2.2.2.2.1, va_K.moved hW.alike h.2.1, (h.2.2.1.kept h.2.2.2.2.2.2.1).warm hW, h.2.2.2.1, h.2.2.2.2.1⟩
theorem ht_WS.blind {g : ht_G} {w : ht_W} {av : List Value} : FrameBlind (va_Pc av (ht_WS g w)) := by
  intro a U f mk ⟨q0, q1, q2, q3, q4, q5⟩
  exact ⟨q0, q1, va_K.moved (u := U) (U := U.calling f mk a) (Vm.Alike.refl U.vm) q2, q3.same (u := U) (U := U.calling f mk a) rfl, q4, q5⟩
theorem ht_I.preS {g : ht_G} {s : State} {w : ht_W} {H : Heap} {locs : List Loc} (h : ht_I g s w H locs) (As : List Value) : PreS s H (va_Pc As (ht_WS g w)) As := ⟨ht_WS.blind, fun U hU hW => ⟨rfl, h.ws hU hW⟩⟩
theorem ht_ix {w : ht_W} {a : Nat} {e : va_E} (h : ht_at w a e) : ∃ k : Nat, (va_pl w.1 w.2)[k]? = some (a, e) := by
  obtain ⟨k, hk⟩ := va_pl_get (X := []) (f := w.2) h.1
  exact ⟨k, by rw [← h.2]; exact hk⟩
theorem ht_I.preV {g : ht_G} {s : State} {w : ht_W} {H : Heap} {locs : List Loc} (h : ht_I g s w H locs) {b ci : Nat} {fs : List Value} {q : vw_C} (hb : ht_at w b (.inr (ci, fs))) (hc : vwCl[ci]? = some q) (As : List Value) : PreV s H q.1 b (va_Pc (.ref b :: As) (ht_WS g w)) As := by
  obtain ⟨k, hk⟩ := ht_ix hb
  exact ⟨ht_WS.blind, va_recv h.2.1 h.2.2.2.1 hc hk, fun U hU hW => ⟨rfl, h.ws hU hW⟩⟩
theorem ht_I.recv {g : ht_G} {s : State} {w : ht_W} {H : Heap} {locs : List Loc} (h : ht_I g s w H locs) {b ci : Nat} {fs : List Value} {q : vw_C} (hb : ht_at w b (.inr (ci, fs))) (hc : vwCl[ci]? = some q) : ∃ cell : Cell, H[b]? = some cell ∧ cell.vm.isStatics = false ∧ s.vm.findClass q.1 = some cell.cls := by
  obtain ⟨k, hk⟩ := ht_ix hb
  exact va_recv h.2.1 h.2.2.2.1 hc hk
theorem ht_set {A : Nat → Prop} {w : ht_W} {a k : Nat} {e0 e : va_E} (hD : va_D A (va_pl w.1 w.2)) (h : ht_at w a e0) (hk : (va_pl w.1 w.2)[k]? = some (a, e0)) : (va_pl w.1 w.2).set k (a, e) = va_pl (ht_up w a e).1 (ht_up w a e).2 :=
  va_pl_set (X := []) hD h.1 (by rw [h.2]; exact hk)
theorem ht_push {A : Nat → Prop} {w : ht_W} {q : Nat} {e : va_E} (hD : va_D A (va_pl w.1 w.2 ++ [(q, e)])) : q ∉ w.1 ∧ va_pl w.1 w.2 ++ [(q, e)] = va_pl (ht_nw w q e).1 (ht_nw w q e).2 := by
  have h := va_pl_fresh2 (X := []) hD
  exact ⟨h, va_pl_push h⟩
section HTR
variable {p : Program} {l : Launch} {e : Env} {R : Room} {s : State} {m : MethodId} {args : Array Value} {below : List Frame} {meth : Method} {c : Code} {H : Heap} {locs : List Loc} {cells slots : Nat} {Q : State → Prop}
variable {cc : ByteArray} {pc : Nat} {ls : Array Slot} {rest : List Value} {g : ht_G} {w : ht_W} {a : Nat}
theorem ht_get (hx : p.tables.exec = Jvm.exec) (hb : c.code = cc) {own ref C : String} {T : u_T} {N ci index : Nat} {Ts : List Cond} (hts : ∀ w ∈ Ts, w.before args s = true) (hin : ∀ w ∈ u_ws C T N, w ∈ Ts) (hown : s.vm.findClass own = some m.cls) (HW : ht_I g s w H locs) {fs : List Value} (he : ht_at w a (.inr (ci, fs))) (hc : vwCl[ci]? = some (C, T, N)) (k : Nat) (hk : k < N) (hlink : (Cond.fieldLink own index ref (T k).2.1 (T k).2.2.1).before args s = true) (hsame : ∀ x, s.fieldFound? (T k).1 (T k).2.1 (T k).2.2.1 = some x → s.fieldFound? ref (T k).2.1 (T k).2.2.1 = some x) {v : Value} (hv : fs[k]? = some v) (hdg : decode cc pc = .ok (.getfield index, 3))
    (kk : W p l e R s m args below meth c H locs cells slots Q (F0 m (pc + 3) ls (v :: rest))) : W p l e R s m args below meth c H locs cells slots Q (F0 m pc ls (.ref a :: rest)) := by
  obtain ⟨q0, hq⟩ := ht_ix he
  exact va_get hx hb hts hin hown HW.2.1 HW.2.2.2.1 q0 hq hc k hk hlink hsame hv hdg kk
theorem ht_put (hx : p.tables.exec = Jvm.exec) (hb : c.code = cc) {own ref C : String} {T : u_T} {N ci index : Nat} {Ts : List Cond} (hts : ∀ w ∈ Ts, w.before args s = true) (hin : ∀ w ∈ u_ws C T N, w ∈ Ts) (ty0 : Nat → FieldType) (hty : ∀ k, k < N → parseFieldDescriptor (T k).2.2.1 = some (ty0 k)) (hnm : ∀ a, a < N → ∀ b, b < N → a ≠ b → (T a).2.1 ≠ (T b).2.1) (hown : s.vm.findClass own = some m.cls) (HW : ht_I g s w H locs) {fs : List Value} (he : ht_at w a (.inr (ci, fs))) (hc : vwCl[ci]? = some (C, T, N)) (k : Nat) (hk : k < N) (hlink : (Cond.fieldLink own index ref (T k).2.1 (T k).2.2.1).before args s = true) (hsame : ∀ x, s.fieldFound? (T k).1 (T k).2.1 (T k).2.2.1 = some x → s.fieldFound? ref (T k).2.1 (T k).2.2.1 = some x) (hfin : (T k).2.2.2 = false) {ty : FieldType} {v : Value} (hd : parseFieldDescriptor (T k).2.2.1 = some ty) (hn : narrow ty v = v) (hfit : fits ty v = true) (hl : k < fs.length)
    (hdg : decode cc pc = .ok (.putfield index, 3)) (kk : ∀ (H1 : Heap) (locs1 : List Loc), ht_I g s (ht_up w a (.inr (ci, fs.set k v))) H1 locs1 → W p l e R s m args below meth c H1 locs1 cells slots Q (F0 m (pc + 3) ls rest)) : W p l e R s m args below meth c H locs cells slots Q (F0 m pc ls (v :: .ref a :: rest)) := by
  obtain ⟨q0, hq⟩ := ht_ix he
  have hD := HW.2.2.2.2.1
  refine va_put hx hb hts hin ty0 hty hnm hown HW.2.1 HW.2.2.2.1 hD HW.2.2.2.2.2 q0 hq hc k hk hlink hsame hfin hd hn hfit hl hdg (fun H1 locs1 hP1 hD1 hS1 => ?_)
  rw [ht_set hD he hq] at hP1 hD1
  exact kk H1 locs1 ⟨HW.1, HW.2.1, HW.2.2.1, hP1, hD1, hS1⟩
theorem ht_putF (hx : p.tables.exec = Jvm.exec) (hb : c.code = cc) {own ref C : String} {T : u_T} {N ci index : Nat} {Ts : List Cond} (hts : ∀ w ∈ Ts, w.before args s = true) (hin : ∀ w ∈ u_ws C T N, w ∈ Ts) (ty0 : Nat → FieldType) (hty : ∀ k, k < N → parseFieldDescriptor (T k).2.2.1 = some (ty0 k)) (hnm : ∀ a, a < N → ∀ b, b < N → a ≠ b → (T a).2.1 ≠ (T b).2.1) (hown : s.vm.findClass own = some m.cls) (HW : ht_I g s w H locs) {fs : List Value} (he : ht_at w a (.inr (ci, fs))) (hc : vwCl[ci]? = some (C, T, N)) (k : Nat) (hk : k < N) (hlink : (Cond.fieldLink own index ref (T k).2.1 (T k).2.2.1).before args s = true) (hsame : ∀ x, s.fieldFound? (T k).1 (T k).2.1 (T k).2.2.1 = some x → s.fieldFound? ref (T k).2.1 (T k).2.2.1 = some x) (hfin : (T k).2.2.2 = true) (hin2 : meth.name = "<init>") (hdecl : (T k).1 = own) {ty : FieldType} {v : Value} (hd : parseFieldDescriptor (T k).2.2.1 = some ty) (hn : narrow ty v = v) (hfit : fits ty v = true) (hl : k < fs.length)
    (hdg : decode cc pc = .ok (.putfield index, 3)) (kk : ∀ (H1 : Heap) (locs1 : List Loc), ht_I g s (ht_up w a (.inr (ci, fs.set k v))) H1 locs1 → W p l e R s m args below meth c H1 locs1 cells slots Q (F0 m (pc + 3) ls rest)) : W p l e R s m args below meth c H locs cells slots Q (F0 m pc ls (v :: .ref a :: rest)) := by
  obtain ⟨q0, hq⟩ := ht_ix he
  have hD := HW.2.2.2.2.1
  refine va_putF hx hb hts hin ty0 hty hnm hown HW.2.1 HW.2.2.2.1 hD HW.2.2.2.2.2 q0 hq hc k hk hlink hsame hfin hin2 hdecl hd hn hfit hl hdg (fun H1 locs1 hP1 hD1 hS1 => ?_)
  rw [ht_set hD he hq] at hP1 hD1
  exact kk H1 locs1 ⟨HW.1, HW.2.1, HW.2.2.1, hP1, hD1, hS1⟩
theorem ht_iald (hx : p.tables.exec = Jvm.exec) (hb : c.code = cc) (HW : ht_I g s w H locs) {n : Nat} {f : Nat → Int32} (ha : ht_at w a (ht_ai g n f)) {i : Int32} (hin : vp_in i n) (hdg : decode cc pc = .ok (.iaload, 1))
    (kk : W p l e R s m args below meth c H locs cells slots Q (F0 m (pc + 1) ls (.int (f i.toNatClampNeg) :: rest))) : W p l e R s m args below meth c H locs cells slots Q (F0 m pc ls (.int i :: .ref a :: rest)) := by
  obtain ⟨q0, hq⟩ := ht_ix ha
  exact va_iald hx hb HW.2.1 HW.2.2.2.1 q0 0 hq rfl hin hdg kk
theorem ht_lald (hx : p.tables.exec = Jvm.exec) (hb : c.code = cc) (HW : ht_I g s w H locs) {n : Nat} {f : Nat → Int64} (ha : ht_at w a (ht_al g n f)) {i : Int32} (hin : vp_in i n) (hdg : decode cc pc = .ok (.laload, 1))
    (kk : W p l e R s m args below meth c H locs cells slots Q (F0 m (pc + 1) ls (.long (f i.toNatClampNeg) :: rest))) : W p l e R s m args below meth c H locs cells slots Q (F0 m pc ls (.int i :: .ref a :: rest)) := by
  obtain ⟨q0, hq⟩ := ht_ix ha
  exact va_lald hx hb HW.2.1 HW.2.2.2.1 q0 1 hq rfl hin hdg kk
theorem ht_aald (hx : p.tables.exec = Jvm.exec) (hb : c.code = cc) (HW : ht_I g s w H locs) {n : Nat} {f : Nat → Option Nat} (ha : ht_at w a (ht_aq g n f)) {i : Int32} (hin : vp_in i n) (hdg : decode cc pc = .ok (.aaload, 1))
    (kk : W p l e R s m args below meth c H locs cells slots Q (F0 m (pc + 1) ls (va_rf (f i.toNatClampNeg) :: rest))) : W p l e R s m args below meth c H locs cells slots Q (F0 m pc ls (.int i :: .ref a :: rest)) := by
  obtain ⟨q0, hq⟩ := ht_ix ha
  exact va_aldq hx hb HW.2.1 HW.2.2.2.1 q0 2 hq rfl hin hdg kk
theorem ht_iast (hx : p.tables.exec = Jvm.exec) (hb : c.code = cc) (HW : ht_I g s w H locs) {n : Nat} {f : Nat → Int32} (ha : ht_at w a (ht_ai g n f)) {i : Int32} {x : Int32} (hin : vp_in i n) (hdg : decode cc pc = .ok (.iastore, 1))
    (kk : ∀ (H1 : Heap) (locs1 : List Loc), ht_I g s (ht_up w a (ht_ai g n (upd f i.toNatClampNeg x))) H1 locs1 → W p l e R s m args below meth c H1 locs1 cells slots Q (F0 m (pc + 1) ls rest)) : W p l e R s m args below meth c H locs cells slots Q (F0 m pc ls (.int x :: .int i :: .ref a :: rest)) := by
  obtain ⟨q0, hq⟩ := ht_ix ha
  have hD := HW.2.2.2.2.1
  refine va_iast hx hb HW.2.1 HW.2.2.2.1 hD HW.2.2.2.2.2 q0 0 hq rfl hin hdg (fun H1 locs1 hP1 hD1 hS1 => ?_)
  rw [ht_set hD ha hq] at hP1 hD1
  exact kk H1 locs1 ⟨HW.1, HW.2.1, HW.2.2.1, hP1, hD1, hS1⟩
theorem ht_bald (hx : p.tables.exec = Jvm.exec) (hb : c.code = cc) (HW : ht_I g s w H locs) {n : Nat} {f : Nat → Int32} (ha : ht_at w a (ht_ab g n f)) {i : Int32} (hin : vp_in i n) (hdg : decode cc pc = .ok (.baload, 1))
    (kk : W p l e R s m args below meth c H locs cells slots Q (F0 m (pc + 1) ls (.int (f i.toNatClampNeg) :: rest))) : W p l e R s m args below meth c H locs cells slots Q (F0 m pc ls (.int i :: .ref a :: rest)) := by
  obtain ⟨q0, hq⟩ := ht_ix ha
  exact va_bald hx hb HW.2.1 HW.2.2.2.1 q0 3 hq rfl hin hdg kk
theorem ht_last (hx : p.tables.exec = Jvm.exec) (hb : c.code = cc) (HW : ht_I g s w H locs) {n : Nat} {f : Nat → Int64} (ha : ht_at w a (ht_al g n f)) {i : Int32} {x : Int64} (hin : vp_in i n) (hdg : decode cc pc = .ok (.lastore, 1))
    (kk : ∀ (H1 : Heap) (locs1 : List Loc), ht_I g s (ht_up w a (ht_al g n (vp_updL f i.toNatClampNeg x))) H1 locs1 → W p l e R s m args below meth c H1 locs1 cells slots Q (F0 m (pc + 1) ls rest)) : W p l e R s m args below meth c H locs cells slots Q (F0 m pc ls (.long x :: .int i :: .ref a :: rest)) := by
  obtain ⟨q0, hq⟩ := ht_ix ha
  have hD := HW.2.2.2.2.1
  refine va_last hx hb HW.2.1 HW.2.2.2.1 hD HW.2.2.2.2.2 q0 1 hq rfl hin hdg (fun H1 locs1 hP1 hD1 hS1 => ?_)
  rw [ht_set hD ha hq] at hP1 hD1
  exact kk H1 locs1 ⟨HW.1, HW.2.1, HW.2.2.1, hP1, hD1, hS1⟩
theorem ht_aast (hx : p.tables.exec = Jvm.exec) (hb : c.code = cc) (HW : ht_I g s w H locs) {n v : Nat} {f : Nat → Option Nat} (ha : ht_at w a (ht_aq g n f)) (hr : va_Any "HashTree$Node" s H v) {i : Int32} (hin : vp_in i n) (hdg : decode cc pc = .ok (.aastore, 1))
    (kk : ∀ (H1 : Heap) (locs1 : List Loc), ht_I g s (ht_up w a (ht_aq g n (va_up f i.toNatClampNeg (some v)))) H1 locs1 → W p l e R s m args below meth c H1 locs1 cells slots Q (F0 m (pc + 1) ls rest)) : W p l e R s m args below meth c H locs cells slots Q (F0 m pc ls (.ref v :: .int i :: .ref a :: rest)) := by
  obtain ⟨q0, hq⟩ := ht_ix ha
  have hD := HW.2.2.2.2.1
  refine va_astqM hx hb HW.2.1 HW.2.2.2.1 hD HW.2.2.2.2.2 q0 2 hq rfl hr hin hdg (fun H1 locs1 hP1 hD1 hS1 => ?_)
  rw [ht_set hD ha hq] at hP1 hD1
  exact kk H1 locs1 ⟨HW.1, HW.2.1, HW.2.2.1, hP1, hD1, hS1⟩
theorem ht_new (hx : p.tables.exec = Jvm.exec) (hb : c.code = cc) {own C : String} {T : u_T} {N ci index : Nat} {Ts : List Cond} (hts : ∀ w ∈ Ts, w.before args s = true) (hin : ∀ w ∈ u_ws C T N, w ∈ Ts) (ty : Nat → FieldType) (hty : ∀ k, k < N → parseFieldDescriptor (T k).2.2.1 = some (ty k)) (hown : s.vm.findClass own = some m.cls) (hcl : (Cond.classLink own index C).before args s = true) (hinst : (Cond.instantiable C N).before args s = true) (hini : (Cond.initialized C).before args s = true)
    (HW : ht_I g s w H locs) (hc : vwCl[ci]? = some (C, T, N)) {fs : List Value} (hfs : ∀ j, j < N → defaultValue (ty j) = vp_V fs j) (hcells : cells + 1 ≤ R.cells) (hslots : slots + N ≤ R.slots) (hdg : decode cc pc = .ok (.new index, 3))
    (kk : ∀ (q : Nat) (H1 : Heap), q ∉ w.1 → ht_I g s (ht_nw w q (.inr (ci, fs))) H1 locs → W p l e R s m args below meth c H1 locs (cells + 1) (slots + N) Q (F0 m (pc + 3) ls (.ref q :: rest))) : W p l e R s m args below meth c H locs cells slots Q (F0 m pc ls rest) := by
  refine va_new hx hb hts hin ty hty hown hcl hinst hini HW.2.1 HW.2.2.2.1 HW.2.2.2.2.1 HW.2.2.2.2.2 HW.hA hc hfs hcells hslots hdg (fun q H1 hP1 hD1 hS1 => ?_)
  obtain ⟨hq, he⟩ := ht_push hD1
  rw [he] at hP1 hD1
  exact kk q H1 hq ⟨HW.1, HW.2.1, HW.2.2.1, hP1, hD1, hS1⟩
theorem ht_newi (hx : p.tables.exec = Jvm.exec) (hb : c.code = cc) (harr : (Cond.arrayClass .int).before args s = true) (HW : ht_I g s w H locs) {n : Int32} {N' : Nat} (hn : ¬ n < 0) (hN : n.toNatClampNeg = N') (hbytes : N' * componentBytes .int ≤ 536870912) (hcells : cells + 1 ≤ R.cells) (hslots : slots + N' ≤ R.slots) {atype : ArrayType} (hty : newarray.typeOf atype = .int) (hdg : decode cc pc = .ok (.newarray atype, 2))
    (kk : ∀ (q : Nat) (H1 : Heap), q ∉ w.1 → ht_I g s (ht_nw w q (ht_ai g N' (fun _ => 0))) H1 locs → W p l e R s m args below meth c H1 locs (cells + 1) (slots + N') Q (F0 m (pc + 2) ls (.ref q :: rest))) : W p l e R s m args below meth c H locs cells slots Q (F0 m pc ls (.int n :: rest)) := by
  refine va_newa hx hb (by rw [hty]; exact harr) hty HW.2.1 HW.2.2.2.1 HW.2.2.2.2.1 HW.2.2.2.2.2 HW.hA (a0 := (N', .inl (fun _ => 0))) (fun _ => rfl) hn hN hbytes hcells hslots hdg (fun q cA H1 hK1 hP1 hD1 hS1 => ?_)
  have e1 : cA = g.2.2.1 0 := by
    have h1 := va_nm_int (hK1.2 (ht_ty g).length (cA, .int) (by rw [List.getElem?_append_right (Nat.le_refl _), Nat.sub_self]; rfl)).2
    have h2 := va_nm_int (HW.2.1.2 0 (g.2.2.1 0, .int) rfl).2
    exact Option.some.inj (h1.symm.trans h2)
  subst e1
  obtain ⟨hq, he⟩ := ht_push hD1
  rw [he] at hP1 hD1
  exact kk q H1 hq ⟨HW.1, HW.2.1, HW.2.2.1, hP1, hD1, hS1⟩
theorem ht_newl (hx : p.tables.exec = Jvm.exec) (hb : c.code = cc) (harr : (Cond.arrayClass .long).before args s = true) (HW : ht_I g s w H locs) {n : Int32} {N' : Nat} (hn : ¬ n < 0) (hN : n.toNatClampNeg = N') (hbytes : N' * componentBytes .long ≤ 536870912) (hcells : cells + 1 ≤ R.cells) (hslots : slots + N' ≤ R.slots) {atype : ArrayType} (hty : newarray.typeOf atype = .long) (hdg : decode cc pc = .ok (.newarray atype, 2))
    (kk : ∀ (q : Nat) (H1 : Heap), q ∉ w.1 → ht_I g s (ht_nw w q (ht_al g N' (fun _ => 0))) H1 locs → W p l e R s m args below meth c H1 locs (cells + 1) (slots + N') Q (F0 m (pc + 2) ls (.ref q :: rest))) : W p l e R s m args below meth c H locs cells slots Q (F0 m pc ls (.int n :: rest)) := by
  refine va_newa hx hb (by rw [hty]; exact harr) hty HW.2.1 HW.2.2.2.1 HW.2.2.2.2.1 HW.2.2.2.2.2 HW.hA (a0 := (N', .inr (.inl (fun _ => 0)))) (fun _ => rfl) hn hN hbytes hcells hslots hdg (fun q cA H1 hK1 hP1 hD1 hS1 => ?_)
  have e1 : cA = g.2.2.1 1 := by
    have h1 := va_nm_long (hK1.2 (ht_ty g).length (cA, .long) (by rw [List.getElem?_append_right (Nat.le_refl _), Nat.sub_self]; rfl)).2
    have h2 := va_nm_long (HW.2.1.2 1 (g.2.2.1 1, .long) rfl).2
    exact Option.some.inj (h1.symm.trans h2)
  subst e1
  obtain ⟨hq, he⟩ := ht_push hD1
  rw [he] at hP1 hD1
  exact kk q H1 hq ⟨HW.1, HW.2.1, HW.2.2.1, hP1, hD1, hS1⟩
/-- the ends of a method -/
abbrev ht_Qi (g : ht_G) (post : Int32 → ht_W → Prop) : Array Value → State → Outcome → State → Prop := va_Qi post (ht_WS g) (ht_A g)
abbrev ht_Ql (g : ht_G) (post : Int64 → ht_W → Prop) : Array Value → State → Outcome → State → Prop := va_Ql post (ht_WS g) (ht_A g)
abbrev ht_Qv (g : ht_G) (post : ht_W → Prop) : Array Value → State → Outcome → State → Prop := va_Qv post (ht_WS g) (ht_A g)
abbrev ht_Qq (g : ht_G) (post : Option Nat → ht_W → Prop) : Array Value → State → Outcome → State → Prop := va_Qq post (ht_WS g) (ht_A g)
theorem ht_iret (hx : p.tables.exec = Jvm.exec) (hb : c.code = cc) (hr : meth.sig.returnType = some .int) (hlocks : meth.locks = false) (HW : ht_I g s w H locs) {post : Int32 → ht_W → Prop} {v : Int32} (hp : post v w) (hdg : decode cc pc = .ok (.ireturn, 1)) : W p l e R s m args below meth c H locs cells slots (MQ below (ht_Qi g post) args s cells slots (ht_A g)) (F0 m pc ls [.int v]) :=
  W.iret hx hb hr (fun t ht hW => ⟨⟨v, w, rfl, hp, HW.ws ht hW⟩, HW.2.2.2.2.2.F ht⟩) HW.2.2.2.2.2.2.2 hdg hlocks
theorem ht_zret (hx : p.tables.exec = Jvm.exec) (hb : c.code = cc) (hr : meth.sig.returnType = some .boolean) (hlocks : meth.locks = false) (HW : ht_I g s w H locs) {post : Int32 → ht_W → Prop} {v : Int32} (hn : narrow .boolean (.int v) = .int v) (hp : post v w) (hdg : decode cc pc = .ok (.ireturn, 1)) : W p l e R s m args below meth c H locs cells slots (MQ below (ht_Qi g post) args s cells slots (ht_A g)) (F0 m pc ls [.int v]) :=
  W.zret hx hb hr hn (fun t ht hW => ⟨⟨v, w, rfl, hp, HW.ws ht hW⟩, HW.2.2.2.2.2.F ht⟩) HW.2.2.2.2.2.2.2 hdg hlocks
theorem ht_lret (hx : p.tables.exec = Jvm.exec) (hb : c.code = cc) (hr : meth.sig.returnType = some .long) (hlocks : meth.locks = false) (HW : ht_I g s w H locs) {post : Int64 → ht_W → Prop} {v : Int64} (hp : post v w) (hdg : decode cc pc = .ok (.lreturn, 1)) : W p l e R s m args below meth c H locs cells slots (MQ below (ht_Ql g post) args s cells slots (ht_A g)) (F0 m pc ls [.long v]) :=
  W.lret hx hb hr (fun t ht hW => ⟨⟨v, w, rfl, hp, HW.ws ht hW⟩, HW.2.2.2.2.2.F ht⟩) HW.2.2.2.2.2.2.2 hdg hlocks
theorem ht_vret (hx : p.tables.exec = Jvm.exec) (hb : c.code = cc) (hr : meth.sig.returnType = none) (hlocks : meth.locks = false) (HW : ht_I g s w H locs) {post : ht_W → Prop} (hp : post w) (hdg : decode cc pc = .ok (.return_, 1)) : W p l e R s m args below meth c H locs cells slots (MQ below (ht_Qv g post) args s cells slots (ht_A g)) (F0 m pc ls []) :=
  W.vret hx hb hr (fun t ht hW => ⟨⟨w, rfl, hp, HW.ws ht hW⟩, HW.2.2.2.2.2.F ht⟩) HW.2.2.2.2.2.2.2 hdg hlocks
theorem ht_qret (hx : p.tables.exec = Jvm.exec) (hb : c.code = cc) {nm : String} (hr : meth.sig.returnType = some (.object nm)) (hlocks : meth.locks = false) (HW : ht_I g s w H locs) {post : Option Nat → ht_W → Prop} {r : Option Nat} (hp : post r w) (hdg : decode cc pc = .ok (.areturn, 1)) : W p l e R s m args below meth c H locs cells slots (MQ below (ht_Qq g post) args s cells slots (ht_A g)) (F0 m pc ls [va_rf r]) :=
  W.aret hx hb hr (Or.inl ⟨nm, rfl⟩) (va_rf_or r) (fun t ht hW => ⟨⟨r, w, rfl, hp, HW.ws ht hW⟩, HW.2.2.2.2.2.F ht⟩) HW.2.2.2.2.2.2.2 hdg hlocks
/-- behind a call: the callee's world -/
theorem ht_back {w1 : ht_W} {t : State} {H1 : Heap} {locs1 : List Loc} (HW : ht_I g s w H locs) (ht : t.heap = H1) (hvm : s.vm.Alike t.vm) (hB : ht_WS g w1 t) (hS : va_S (ht_A g) s.heap H1 locs1) : ht_I g s w1 H1 locs1 := by
  subst ht
  exact ⟨HW.1, HW.2.1, HW.2.2.1, hB.2.2.2.1, hB.2.2.2.2, hS⟩
variable {mc ms : Nat} {st0 : List Value} {av : Array Value}
theorem ht_ci (HW : ht_I g s w H locs) {post : Int32 → ht_W → Prop} (hr : va_Run p l e R s m args below meth c H locs cells slots mc ms (F0 m pc ls st0) rest (ht_Qi g post av) (ht_A g))
    (kk : ∀ (r : Int32) (w1 : ht_W) (H1 : Heap) (locs1 : List Loc), post r w1 → ht_I g s w1 H1 locs1 → W p l e R s m args below meth c H1 locs1 (cells + mc) (slots + ms) Q (F0 m (pc + 3) ls (.int r :: rest))) : W p l e R s m args below meth c H locs cells slots Q (F0 m pc ls st0) :=
  va_calli hr HW.2.2.2.2.2 (fun _ _ h => h) (fun _ h => h) (fun r u t H1 locs1 ht hvm hw hB _ _ hS => kk r u H1 locs1 hw (ht_back HW ht hvm hB hS))
theorem ht_cl (HW : ht_I g s w H locs) {post : Int64 → ht_W → Prop} (hr : va_Run p l e R s m args below meth c H locs cells slots mc ms (F0 m pc ls st0) rest (ht_Ql g post av) (ht_A g))
    (kk : ∀ (r : Int64) (w1 : ht_W) (H1 : Heap) (locs1 : List Loc), post r w1 → ht_I g s w1 H1 locs1 → W p l e R s m args below meth c H1 locs1 (cells + mc) (slots + ms) Q (F0 m (pc + 3) ls (.long r :: rest))) : W p l e R s m args below meth c H locs cells slots Q (F0 m pc ls st0) :=
  va_calll hr HW.2.2.2.2.2 (fun _ _ h => h) (fun _ h => h) (fun r u t H1 locs1 ht hvm hw hB _ _ hS => kk r u H1 locs1 hw (ht_back HW ht hvm hB hS))
theorem ht_cv (HW : ht_I g s w H locs) {post : ht_W → Prop} (hr : va_Run p l e R s m args below meth c H locs cells slots mc ms (F0 m pc ls st0) rest (ht_Qv g post av) (ht_A g))
    (kk : ∀ (w1 : ht_W) (H1 : Heap) (locs1 : List Loc), post w1 → ht_I g s w1 H1 locs1 → W p l e R s m args below meth c H1 locs1 (cells + mc) (slots + ms) Q (F0 m (pc + 3) ls rest)) : W p l e R s m args below meth c H locs cells slots Q (F0 m pc ls st0) :=
  va_callv hr HW.2.2.2.2.2 (fun _ _ h => h) (fun _ h => h) (fun u t H1 locs1 ht hvm hw hB _ _ hS => kk u H1 locs1 hw (ht_back HW ht hvm hB hS))
theorem ht_cq (HW : ht_I g s w H locs) {post : Option Nat → ht_W → Prop} (hr : va_Run p l e R s m args below meth c H locs cells slots mc ms (F0 m pc ls st0) rest (ht_Qq g post av) (ht_A g))
    (kk : ∀ (r : Option Nat) (w1 : ht_W) (H1 : Heap) (locs1 : List Loc), post r w1 → ht_I g s w1 H1 locs1 → W p l e R s m args below meth c H1 locs1 (cells + mc) (slots + ms) Q (F0 m (pc + 3) ls (va_rf r :: rest))) : W p l e R s m args below meth c H locs cells slots Q (F0 m pc ls st0) :=
  va_callq hr HW.2.2.2.2.2 (fun _ _ h => h) (fun _ h => h) (fun r u t H1 locs1 ht hvm hw hB _ _ hS => kk r u H1 locs1 hw (ht_back HW ht hvm hB hS))
end HTR
/-! What stands in an array beyond its end doesn't count. -/
theorem ht_arrV {cA : ClassId} {n : Nat} {f f' : Nat → Value} (h : ∀ j, j < n → f j = f' j) : arrV cA n f = arrV cA n f' := by
  unfold arrV
  have : (fun j : Fin n => f j.val) = (fun j : Fin n => f' j.val) := funext (fun j => h j.val j.isLt)
  rw [this]
def ht_eqv (e e' : va_E) : Prop := ∀ (D : va_G) (cl : List vw_C) (a : Nat) (H : Heap), va_at D cl (a, e) H → va_at D cl (a, e') H
theorem ht_eqv_i {g : ht_G} {n : Nat} {f f' : Nat → Int32} (h : ∀ j, j < n → f j = f' j) : ht_eqv (ht_ai g n f) (ht_ai g n f') := by
  intro D cl a H q
  have e : vp_cell (g.2.2.1 0) (n, .inl f) = vp_cell (g.2.2.1 0) (n, .inl f') := by rw [vp_cell_i, vp_cell_i]; exact ht_arrV (fun j hj => by rw [h j hj])
  show H[a]? = some (vp_cell (g.2.2.1 0) (n, .inl f'))
  rw [← e]
  exact q
theorem ht_eqv_b {g : ht_G} {n : Nat} {f f' : Nat → Int32} (h : ∀ j, j < n → f j = f' j) : ht_eqv (ht_ab g n f) (ht_ab g n f') := by
  intro D cl a H q
  have e : vp_cell (g.2.2.1 3) (n, .inl f) = vp_cell (g.2.2.1 3) (n, .inl f') := by rw [vp_cell_i, vp_cell_i]; exact ht_arrV (fun j hj => by rw [h j hj])
  show H[a]? = some (vp_cell (g.2.2.1 3) (n, .inl f'))
  rw [← e]
  exact q
theorem ht_eqv_l {g : ht_G} {n : Nat} {f f' : Nat → Int64} (h : ∀ j, j < n → f j = f' j) : ht_eqv (ht_al g n f) (ht_al g n f') := by
  intro D cl a H q
  have e : vp_cell (g.2.2.1 1) (n, .inr (.inl f)) = vp_cell (g.2.2.1 1) (n, .inr (.inl f')) := by rw [vp_cell_l, vp_cell_l]; exact ht_arrV (fun j hj => by rw [h j hj])
  show H[a]? = some (vp_cell (g.2.2.1 1) (n, .inr (.inl f')))
  rw [← e]
  exact q
theorem ht_eqv_q {g : ht_G} {n : Nat} {f f' : Nat → Option Nat} (h : ∀ j, j < n → f j = f' j) : ht_eqv (ht_aq g n f) (ht_aq g n f') := by
  intro D cl a H q
  have e : vp_cell (g.2.2.1 2) (n, .inr (.inr (.inr (.inr f)))) = vp_cell (g.2.2.1 2) (n, .inr (.inr (.inr (.inr f')))) := by rw [vp_cell_q, vp_cell_q]; exact ht_arrV (fun j hj => by rw [h j hj])
  show H[a]? = some (vp_cell (g.2.2.1 2) (n, .inr (.inr (.inr (.inr f')))))
  rw [← e]
  exact q
theorem ht_I.cg {g : ht_G} {s : State} {w : ht_W} {H : Heap} {locs : List Loc} {a : Nat} {e e' : va_E} (h : ht_I g s (ht_up w a e) H locs) (hq : ht_eqv e e') : ht_I g s (ht_up w a e') H locs := by
  obtain ⟨h1, h2, h3, h4, h5, h6⟩ := h
  have key : ∀ (k : Nat) (q : Nat × va_E), (va_pl (ht_up w a e').1 (ht_up w a e').2)[k]? = some q → ∃ q0, (va_pl (ht_up w a e).1 (ht_up w a e).2)[k]? = some q0 ∧ q0.1 = q.1 ∧ ((q.1 = a ∧ q.2 = e' ∧ q0.2 = e) ∨ q0 = q) := by
    intro k q hk
    simp only [va_pl, List.getElem?_map, ht_up] at hk ⊢
    cases hb : w.1[k]? with
    | none => rw [hb] at hk; cases hk
    | some b =>
      rw [hb] at hk
      simp only [Option.map_some, Option.some.injEq] at hk ⊢
      subst hk
      refine ⟨_, rfl, rfl, ?_⟩
      by_cases e1 : b = a
      · subst e1
        exact Or.inl ⟨rfl, va_up_self _ _ _, va_up_self _ _ _⟩
      · exact Or.inr (by rw [va_up_ne _ _ e1, va_up_ne _ _ e1])
  refine ⟨h1, h2, h3, fun k q hk => ?_, ⟨fun i j p q hi hj hpq => ?_, fun k q hk => ?_⟩, h6⟩
  · obtain ⟨q0, y1, y2, ⟨z1, z2, z3⟩ | z⟩ := key k q hk
    · have := h4 k q0 y1
      obtain ⟨qa, qe⟩ := q
      obtain ⟨q0a, q0e⟩ := q0
      simp only at y2 z1 z2 z3
      subst z2; subst z3; subst y2
      exact hq _ _ _ _ this
    · rw [← z]; exact h4 k q0 y1
  · obtain ⟨p0, y1, y2, -⟩ := key i p hi
    obtain ⟨q0, y3, y4, -⟩ := key j q hj
    exact h5.1 i j p0 q0 y1 y3 (by rw [y2, y4, hpq])
  · obtain ⟨q0, y1, y2, -⟩ := key k q hk
    rw [← y2]
    exact h5.2 k q0 y1
section HTR2
variable {p : Program} {l : Launch} {e : Env} {R : Room} {s : State} {m : MethodId} {args : Array Value} {below : List Frame} {meth : Method} {c : Code} {H : Heap} {locs : List Loc} {cells slots : Nat} {Q : State → Prop}
variable {cc : ByteArray} {pc : Nat} {ls : Array Slot} {rest : List Value} {g : ht_G} {w : ht_W} {a : Nat}
theorem ht_bast (hx : p.tables.exec = Jvm.exec) (hb : c.code = cc) (HW : ht_I g s w H locs) {n : Nat} {f : Nat → Int32} (ha : ht_at w a (ht_ab g n f)) {i : Int32} {x : Int32} (hin : vp_in i n) (hdg : decode cc pc = .ok (.bastore, 1))
    (kk : ∀ (H1 : Heap) (locs1 : List Loc), ht_I g s (ht_up w a (ht_ab g n (upd f i.toNatClampNeg (vp_nar .byte x)))) H1 locs1 → W p l e R s m args below meth c H1 locs1 cells slots Q (F0 m (pc + 1) ls rest)) : W p l e R s m args below meth c H locs cells slots Q (F0 m pc ls (.int x :: .int i :: .ref a :: rest)) := by
  obtain ⟨q0, hq⟩ := ht_ix ha
  have hD := HW.2.2.2.2.1
  refine va_bast hx hb HW.2.1 HW.2.2.2.1 hD HW.2.2.2.2.2 q0 3 hq rfl hin hdg (fun H1 locs1 hP1 hD1 hS1 => ?_)
  rw [ht_set hD ha hq] at hP1 hD1
  exact kk H1 locs1 ⟨HW.1, HW.2.1, HW.2.2.1, hP1, hD1, hS1⟩
theorem ht_alen (hx : p.tables.exec = Jvm.exec) (hb : c.code = cc) (HW : ht_I g s w H locs) {n : Nat} {f : Nat → Int64} (ha : ht_at w a (ht_al g n f)) (hdg : decode cc pc = .ok (.arraylength, 1))
    (kk : W p l e R s m args below meth c H locs cells slots Q (F0 m (pc + 1) ls (.int (nI n) :: rest))) : W p l e R s m args below meth c H locs cells slots Q (F0 m pc ls (.ref a :: rest)) := by
  obtain ⟨q0, hq⟩ := ht_ix ha
  exact va_alen hx hb HW.2.1 HW.2.2.2.1 q0 1 hq rfl rfl hdg kk
theorem ht_newb (hx : p.tables.exec = Jvm.exec) (hb : c.code = cc) (harr : (Cond.arrayClass .byte).before args s = true) (HW : ht_I g s w H locs) {n : Int32} {N' : Nat} (hn : ¬ n < 0) (hN : n.toNatClampNeg = N') (hbytes : N' * componentBytes .byte ≤ 536870912) (hcells : cells + 1 ≤ R.cells) (hslots : slots + N' ≤ R.slots) {atype : ArrayType} (hty : newarray.typeOf atype = .byte) (hdg : decode cc pc = .ok (.newarray atype, 2))
    (kk : ∀ (q : Nat) (H1 : Heap), q ∉ w.1 → ht_I g s (ht_nw w q (ht_ab g N' (fun _ => 0))) H1 locs → W p l e R s m args below meth c H1 locs (cells + 1) (slots + N') Q (F0 m (pc + 2) ls (.ref q :: rest))) : W p l e R s m args below meth c H locs cells slots Q (F0 m pc ls (.int n :: rest)) := by
  refine va_newa hx hb (by rw [hty]; exact harr) hty HW.2.1 HW.2.2.2.1 HW.2.2.2.2.1 HW.2.2.2.2.2 HW.hA (a0 := (N', .inl (fun _ => 0))) (fun _ => rfl) hn hN hbytes hcells hslots hdg (fun q cA H1 hK1 hP1 hD1 hS1 => ?_)
  have e1 : cA = g.2.2.1 3 := by
    have h1 := va_nm_byte (hK1.2 (ht_ty g).length (cA, .byte) (by rw [List.getElem?_append_right (Nat.le_refl _), Nat.sub_self]; rfl)).2
    have h2 := va_nm_byte (HW.2.1.2 3 (g.2.2.1 3, .byte) rfl).2
    exact Option.some.inj (h1.symm.trans h2)
  subst e1
  obtain ⟨hq, he⟩ := ht_push hD1
  rw [he] at hP1 hD1
  exact kk q H1 hq ⟨HW.1, HW.2.1, HW.2.2.1, hP1, hD1, hS1⟩
theorem ht_newq (hx : p.tables.exec = Jvm.exec) (hb : c.code = cc) {own : String} {index : Nat} (hown : s.vm.findClass own = some m.cls) (hclink : (Cond.classLink own index "HashTree$Node").before args s = true) (HW : ht_I g s w H locs)
    {n : Int32} {N' : Nat} (hn : ¬ n < 0) (hN : n.toNatClampNeg = N') (hbytes : N' * 4 ≤ 536870912) (hcells : cells + 1 ≤ R.cells) (hslots : slots + N' ≤ R.slots) (hdg : decode cc pc = .ok (.anewarray index, 3))
    (kk : ∀ (q : Nat) (H1 : Heap), q ∉ w.1 → ht_I g s (ht_nw w q (ht_aq g N' (fun _ => none))) H1 locs → W p l e R s m args below meth c H1 locs (cells + 1) (slots + N') Q (F0 m (pc + 3) ls (.ref q :: rest))) : W p l e R s m args below meth c H locs cells slots Q (F0 m pc ls (.int n :: rest)) := by
  refine va_newq hx hb hown hclink HW.2.2.1.2.2.2.2.2.2.2.2.2.1 HW.2.1 HW.2.2.2.1 HW.2.2.2.2.1 HW.2.2.2.2.2 HW.hA hn hN hbytes hcells hslots hdg (fun q cA H1 hK1 hP1 hD1 hS1 => ?_)
  have e1 : cA = g.2.2.1 2 := by
    obtain ⟨-, -, -, -, -, h1⟩ := (hK1.2 (ht_ty g).length (cA, .object "HashTree$Node") (by rw [List.getElem?_append_right (Nat.le_refl _), Nat.sub_self]; rfl)).2
    obtain ⟨-, -, -, -, -, h2⟩ := (HW.2.1.2 2 (g.2.2.1 2, .object "HashTree$Node") rfl).2
    exact Option.some.inj (h1.symm.trans h2)
  subst e1
  obtain ⟨hq, he⟩ := ht_push hD1
  rw [he] at hP1 hD1
  exact kk q H1 hq ⟨HW.1, HW.2.1, HW.2.2.1, hP1, hD1, hS1⟩
theorem ht_gets (hx : p.tables.exec = Jvm.exec) (hb : c.code = cc) {ty : FieldType} {C n d own ref : String} {t N index : Nat} {f : Nat → Value} (hT : ht_tab ty C n d t N f (ht_A g) s s.heap) (HW : ht_I g s w H locs) (hown : s.vm.findClass own = some m.cls) (hlink : (Cond.fieldLink own index ref n d).before args s = true) (hsame : ∀ x, s.fieldFound? C n d = some x → s.fieldFound? ref n d = some x) (hdg : decode cc pc = .ok (.getstatic index, 3))
    (kk : W p l e R s m args below meth c H locs cells slots Q (F0 m (pc + 3) ls (.ref t :: rest))) : W p l e R s m args below meth c H locs cells slots Q (F0 m pc ls rest) :=
  va_gets hx hb hT.1 HW.2.2.2.2.2 hown hlink hsame hdg kk
/-- a row of four: a cell of the pool, or the static row of zeros -/
def ht_rd (g : ht_G) (w : ht_W) (t : Nat) (f : Nat → Int64) : Prop := ht_at w t (ht_al g 4 f) ∨ (t = g.2.2.2 0 ∧ ∀ j, j < 4 → f j = 0)
theorem ht_rdl (hx : p.tables.exec = Jvm.exec) (hb : c.code = cc) (HW : ht_I g s w H locs) {t : Nat} {f : Nat → Int64} (h : ht_rd g w t f) {i : Int32} (hin : vp_in i 4) (hdg : decode cc pc = .ok (.laload, 1))
    (kk : W p l e R s m args below meth c H locs cells slots Q (F0 m (pc + 1) ls (.long (f i.toNatClampNeg) :: rest))) : W p l e R s m args below meth c H locs cells slots Q (F0 m pc ls (.int i :: .ref t :: rest)) := by
  rcases h with h | ⟨rfl, h⟩
  · exact ht_lald hx hb HW h hin hdg kk
  · refine va_tl hx hb HW.2.2.1.1.2 HW.2.2.2.2.2 hin (v := .long (f i.toNatClampNeg)) ?_ hdg kk
    rw [h _ (Nat.not_le.mp fun q => hin (Or.inr q))]
end HTR2
