/-! An array's clone; the class's whole state. -/
section HTCL
variable {p : Program} {l : Launch} {e : Env} {R : Room} {s : State} {m : MethodId} {args : Array Value} {below : List Frame} {meth : Method} {c : Code} {H : Heap} {locs : List Loc} {cells slots : Nat} {Q : State → Prop}
variable {cc : ByteArray} {pc : Nat} {ls : Array Slot} {rest : List Value} {g : ht_G} {w : ht_W} {a : Nat}
theorem ht_clone (hx : p.tables.exec = Jvm.exec) (hb : c.code = cc) (hml : c.maxLocals = ls.size) {own : String} {index : Nat} (hown : s.vm.findClass own = some m.cls)
    (hlink : (Cond.methodLink own index ⟨"[J", "clone", "()Ljava/lang/Object;"⟩).before args s = true) (hsame : (Cond.sameMethod "[J" "java/lang/Object" "clone" "()Ljava/lang/Object;").before args s = true)
    (hnat : (Cond.native ⟨"java/lang/Object", "clone", "()Ljava/lang/Object;"⟩).before args s = true) (hinst : (Cond.instanceMethod ⟨"java/lang/Object", "clone", "()Ljava/lang/Object;"⟩).before args s = true)
    (hsel : (Cond.selects "[J" ⟨"[J", "clone", "()Ljava/lang/Object;"⟩ ⟨"java/lang/Object", "clone", "()Ljava/lang/Object;"⟩).before args s = true)
    (HW : ht_I g s w H locs) {n : Nat} {f : Nat → Int64} (ha : ht_at w a (ht_al g n f)) (hframes : 1 ≤ R.frames) (hlocals : (rest.map fun v => v.category).sum + 14 ≤ R.locals) (hcells : cells + 1 ≤ R.cells) (hslots : slots + n ≤ R.slots) (hdg : decode cc pc = .ok (.invokevirtual index, 3))
    (kk : ∀ (q : Nat) (H1 : Heap), q ∉ w.1 → ht_I g s (ht_nw w q (ht_al g n f)) H1 locs → W p l e R s m args below meth c H1 locs (cells + 1) (slots + n) Q (F0 m (pc + 3) ls (.ref q :: rest))) : W p l e R s m args below meth c H locs cells slots Q (F0 m pc ls (.ref a :: rest)) := by
  obtain ⟨q0, hq⟩ := ht_ix ha
  refine va_clone hx hb hml hown hlink hsame hnat hinst hsel HW.2.2.1.2.2.2.2.2.2.1 HW.2.1 HW.2.2.2.1 HW.2.2.2.2.1 HW.2.2.2.2.2 HW.hA q0 1 hq rfl (va_nm_long (HW.2.1.2 1 _ rfl).2) (fun i v hv => ?_) hframes hlocals hcells hslots hdg (fun q H1 _ hP1 hD1 hS1 => ?_)
  · exact va_fit (fun i hi => rfl) i v hv
  · obtain ⟨hq, he⟩ := ht_push hD1
    rw [he] at hP1 hD1
    exact kk q H1 hq ⟨HW.1, HW.2.1, HW.2.2.1, hP1, hD1, hS1⟩
theorem ht_castJ (hx : p.tables.exec = Jvm.exec) (hb : c.code = cc) {own : String} {index : Nat} (hown : s.vm.findClass own = some m.cls) (hlink : (Cond.classLink own index "[J").before args s = true) (HW : ht_I g s w H locs) {n : Nat} {f : Nat → Int64} (ha : ht_at w a (ht_al g n f)) (hdg : decode cc pc = .ok (.checkcast index, 3))
    (kk : W p l e R s m args below meth c H locs cells slots Q (F0 m (pc + 3) ls (.ref a :: rest))) : W p l e R s m args below meth c H locs cells slots Q (F0 m pc ls (.ref a :: rest)) := by
  obtain ⟨q0, hq⟩ := ht_ix ha
  exact va_castA hx hb hown hlink HW.2.2.2.1 q0 hq (va_nm_long (HW.2.1.2 1 _ rfl).2) hdg kk
end HTCL
theorem ht_Nd.nf {g : ht_G} {w : ht_W} {N : ht_N} {A : ht_AA} {F : List Nat} (h : ht_Nd g w N A F) {x : Nat} {e : va_E} (hx : ht_at w x e) (hne : ∀ r ka ha va, e ≠ ht_nc r ka ha va) : x ∉ F := fun q => ht_ne hx (h x q).1 (hne _ _ _ _) rfl
theorem ht_ne_n1 {fs : List Value} (r : ht_R) (ka ha va : Nat) : (.inr (1, fs) : va_E) ≠ ht_nc r ka ha va := by
  unfold ht_nc
  cases ht_rp r <;> exact fun z => by cases z
theorem ht_ne_na {x : ClassId × vp_A} (r : ht_R) (ka ha va : Nat) : (.inl x : va_E) ≠ ht_nc r ka ha va := by
  unfold ht_nc
  cases ht_rp r <;> exact fun z => by cases z
def ht_xo (X : Nat → Nat) (top : Option Nat) (cnt ei : Int32) : va_E := .inr (0, [.ref (X 1), .ref (X 2), .ref (X 5), va_rf top, .int cnt, .ref (X 6), .ref (X 7), .ref (X 8), .int ei])
/-- whose a cell is: the class's have a tag that isn't 0 -/
def ht_tgs (tg : Nat → Nat × Nat) (X : Nat → Nat) (N : ht_N) (A : ht_AA) (F : List Nat) : Prop := (∀ i, i < 9 → tg (X i) = (1, i)) ∧ ∀ a ∈ F, tg a = (2, 0) ∧ tg (A a).1 = (3, 0) ∧ tg (A a).2.1 = (4, a) ∧ ∀ v, ht_rp (N a) = .inl v → tg (A a).2.2 = (5, a)
def ht_Rp (dgf : Int32 → ht_K → ht_K → ht_K) (g : ht_G) (w : ht_W) (X : Nat → Nat) (tg : Nat → Nat × Nat) (k : ht_K) (N : ht_N) (A : ht_AA) (F : List Nat) (top : Option Nat) (L : ht_L) (dt : ht_D) (opf : Nat → Option Nat) (sbf lsf enf : Nat → Int64) (ei : Int32) : Prop :=
  ht_at w (X 0) (ht_xo X top (nI L.length) ei) ∧ ht_at w (X 1) (ht_al g 4 (ht_kf k)) ∧ ht_Dg g w (X 2) (X 3) (X 4) dt ∧ ht_at w (X 5) (ht_aq g 257 opf) ∧ ht_at w (X 6) (ht_al g 1024 sbf) ∧ ht_at w (X 7) (ht_al g 4 lsf) ∧ ht_at w (X 8) (ht_al g 8 enf) ∧ ht_Nd g w N A F ∧ ht_T N F top L ∧ ht_FH dgf N F top L ∧ ht_tgs tg X N A F ∧ F.length ≤ 2 * L.length
theorem ht_Rp.out {dgf : Int32 → ht_K → ht_K → ht_K} {g : ht_G} {w : ht_W} {X : Nat → Nat} {tg : Nat → Nat × Nat} {k : ht_K} {N : ht_N} {A : ht_AA} {F : List Nat} {top : Option Nat} {L : ht_L} {dt : ht_D} {opf : Nat → Option Nat} {sbf lsf enf : Nat → Int64} {ei : Int32} (h : ht_Rp dgf g w X tg k N A F top L dt opf sbf lsf enf ei) : ∀ i, i < 9 → X i ∉ F := by
  intro i hi q
  obtain ⟨-, -, -, -, -, -, -, -, -, -, h9, -⟩ := h
  have h1 := h9.1 i hi
  have h2 := (h9.2 _ q).1
  rw [h1] at h2
  cases h2
theorem ht_Rp.re {dgf : Int32 → ht_K → ht_K → ht_K} {g : ht_G} {w u : ht_W} {X : Nat → Nat} {tg tg' : Nat → Nat × Nat} {k : ht_K} {N N' : ht_N} {A A' : ht_AA} {F F' : List Nat} {top top' : Option Nat} {L L' : ht_L} {dt : ht_D} {opf : Nat → Option Nat} {sbf lsf enf : Nat → Int64} {ei : Int32} (h : ht_Rp dgf g w X tg k N A F top L dt opf sbf lsf enf ei) {S : Nat → Prop} (hf : ht_fr S w u) (hS : ∀ i, 1 ≤ i → i < 9 → ¬ S (X i)) (hx : ht_at u (X 0) (ht_xo X top' (nI L'.length) ei)) (hN : ht_Nd g u N' A' F') (hT : ht_T N' F' top' L') (hF : ht_FH dgf N' F' top' L') (ht : ht_tgs tg' X N' A' F') (hl : F'.length ≤ 2 * L'.length) : ht_Rp dgf g u X tg' k N' A' F' top' L' dt opf sbf lsf enf ei := by
  obtain ⟨-, h2, h3, h4, h5, h6, h7, -⟩ := h
  exact ⟨hx, hf.at h2 (hS 1 (by decide) (by decide)), ⟨hf.at h3.1 (hS 2 (by decide) (by decide)), hf.at h3.2.1 (hS 3 (by decide) (by decide)), hf.at h3.2.2 (hS 4 (by decide) (by decide))⟩, hf.at h4 (hS 5 (by decide) (by decide)), hf.at h5 (hS 6 (by decide) (by decide)), hf.at h6 (hS 7 (by decide) (by decide)), hf.at h7 (hS 8 (by decide) (by decide)), hN, hT, hF, ht, hl⟩
theorem ht_tne {tg : Nat → Nat × Nat} {a b : Nat} {x y : Nat × Nat} (ha : tg a = x) (hb : tg b = y) (h : x ≠ y) : a ≠ b := fun z => h (by rw [← ha, ← hb, z])
/-- a leaf's value row changes -/
theorem ht_Nd.val {g : ht_G} {w : ht_W} {N : ht_N} {A : ht_AA} {F : List Nat} {tg : Nat → Nat × Nat} {X : Nat → Nat} (h : ht_Nd g w N A F) (ht : ht_tgs tg X N A F) {b : Nat} (hb : b ∈ F) {v0 v : ht_K} (hp : ht_rp (N b) = .inl v0) : ht_Nd g (ht_up w (A b).2.2 (ht_al g 4 (ht_kf v))) (va_up N b (ht_spy (N b) (.inl v))) A F := by
  intro a ha
  obtain ⟨h1, h2, h3, h4⟩ := h a ha
  have hvb := (h b hb).2.2.2 v0 hp
  have tb := (ht.2 b hb).2.2.2 v0 hp
  have n0 : a ≠ (A b).2.2 := fun z => h.l hvb (by rw [← z]; exact ha)
  have n1 : (A a).1 ≠ (A b).2.2 := ht_tne (ht.2 a ha).2.1 tb (fun z => by cases z)
  have n2 : (A a).2.1 ≠ (A b).2.2 := ht_tne (ht.2 a ha).2.2.1 tb (fun z => by cases z)
  by_cases e : a = b
  · subst e
    rw [va_up_self]
    refine ⟨?_, ht_at_ne h2 n1, ht_at_ne h3 n2, fun v' hv' => ?_⟩
    · have e2 : ht_nc (ht_spy (N a) (.inl v)) (A a).1 (A a).2.1 (A a).2.2 = ht_nc (N a) (A a).1 (A a).2.1 (A a).2.2 := by
        rw [ht_nc_l hp, ht_nc_l (r := ht_spy (N a) (.inl v)) rfl]
        rfl
      rw [e2]
      exact ht_at_ne h1 n0
    · cases hv'
      exact ht_at_self hvb
  · rw [va_up_ne _ _ e]
    refine ⟨ht_at_ne h1 n0, ht_at_ne h2 n1, ht_at_ne h3 n2, fun v' hv' => ht_at_ne (h4 v' hv') ?_⟩
    exact ht_tne ((ht.2 a ha).2.2.2 v' hv') tb (fun z => e (by injection z))
