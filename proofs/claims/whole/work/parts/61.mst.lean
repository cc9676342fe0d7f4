/-! The reference's state: its cells are M 0 .. M 17. -/
def ht_same {α : Type} (s : List Nat) (f f' : Nat → α) : Prop := ∀ i, i ∉ s → f' i = f i
theorem ht_same.rf {α : Type} {s : List Nat} {f : Nat → α} : ht_same s f f := fun _ _ => rfl
theorem ht_same.trans {α : Type} {s : List Nat} {f f' f'' : Nat → α} (h : ht_same s f f') (h' : ht_same s f' f'') : ht_same s f f'' := fun i hi => (h' i hi).trans (h i hi)
theorem ht_same.up {α : Type} {s : List Nat} {f f' : Nat → α} {i : Nat} {x : α} (h : ht_same s f f') (hi : i ∈ s) : ht_same s f (va_up f' i x) := fun j hj => (va_up_ne _ _ (fun (z : j = i) => hj (by rw [z]; exact hi))).trans (h j hj)
theorem ht_same.mono {α : Type} {s s' : List Nat} {f f' : Nat → α} (h : ht_same s f f') (hs : ∀ i, i ∈ s → i ∈ s') : ht_same s' f f' := fun i hi => h i (fun z => hi (hs i z))
def ht_ln (i : Nat) : Nat := [0, 2048, 2048, 4, 512, 512, 2048, 4, 1024, 8, 4096, 8, 16384, 131072, 65536, 8, 4, 64].getD i 0
def ht_isl (i : Nat) : Bool := [false, true, true, true, false, false, true, true, true, true, false, true, false, true, true, true, true, true].getD i false
abbrev ht_LF : Type := Nat → Nat → Int64
abbrev ht_IF : Type := Nat → Nat → Int32
def ht_mo (M : Nat → Nat) (n : Nat → Int32) : va_E := .inr (4, [.ref (M 1), .ref (M 2), .int (n 0), .ref (M 3), .ref (M 4), .ref (M 5), .ref (M 6), .int (n 1), .ref (M 7), .int (n 2), .ref (M 8), .int (n 3), .int (n 4), .ref (M 9), .ref (M 10), .ref (M 11), .ref (M 12), .ref (M 13), .ref (M 14), .ref (M 15), .ref (M 16), .ref (M 17)])
def ht_Mo (g : ht_G) (w : ht_W) (M : Nat → Nat) (n : Nat → Int32) (Lf : ht_LF) (If : ht_IF) : Prop :=
  ht_at w (M 0) (ht_mo M n) ∧ (∀ i, i < 18 → ht_isl i = true → ht_at w (M i) (ht_al g (ht_ln i) (Lf i))) ∧ ht_at w (M 4) (ht_ai g 512 (If 4)) ∧ ht_at w (M 5) (ht_ai g 512 (If 5)) ∧ ht_at w (M 10) (ht_ab g 4096 (If 10)) ∧ ht_at w (M 12) (ht_ab g 16384 (If 12)) ∧ ∀ i j, i < 18 → j < 18 → i ≠ j → M i ≠ M j
def ht_fm (M : Nat → Nat) (w u : ht_W) : Prop := ht_fr (fun b => ∃ i, i < 18 ∧ b = M i) w u
theorem ht_fm.rf {M : Nat → Nat} {w : ht_W} : ht_fm M w w := ht_fr.rf
theorem ht_fm.trans {M : Nat → Nat} {w u v : ht_W} (h : ht_fm M w u) (h' : ht_fm M u v) : ht_fm M w v := ht_fr.trans h h'
theorem ht_fm.up {M : Nat → Nat} {w u : ht_W} (h : ht_fm M w u) (i : Nat) (hi : i < 18) {e : va_E} : ht_fm M w (ht_up u (M i) e) := ht_fr.trans h (ht_fr.up ⟨i, hi, rfl⟩)
theorem ht_isl_ne {i j : Nat} (hi : ht_isl i = true) (hj : ht_isl j = false) : j ≠ i := fun z => by rw [z, hi] at hj; cases hj
theorem ht_Mo.L {g : ht_G} {w : ht_W} {M : Nat → Nat} {n : Nat → Int32} {Lf : ht_LF} {If : ht_IF} (h : ht_Mo g w M n Lf If) (i : Nat) (hi : i < 18) (hl : ht_isl i = true) : ht_at w (M i) (ht_al g (ht_ln i) (Lf i)) := h.2.1 i hi hl
theorem ht_Mo.ne {g : ht_G} {w : ht_W} {M : Nat → Nat} {n : Nat → Int32} {Lf : ht_LF} {If : ht_IF} (h : ht_Mo g w M n Lf If) (i j : Nat) (hi : i < 18) (hj : j < 18) (hn : i ≠ j) : M i ≠ M j := h.2.2.2.2.2.2 i j hi hj hn
theorem ht_Mo.upL {g : ht_G} {w : ht_W} {M : Nat → Nat} {n : Nat → Int32} {Lf : ht_LF} {If : ht_IF} (h : ht_Mo g w M n Lf If) (i : Nat) (hi : i < 18) (hl : ht_isl i = true) (f : Nat → Int64) : ht_Mo g (ht_up w (M i) (ht_al g (ht_ln i) f)) M n (va_up Lf i f) If := by
  obtain ⟨h0, h1, h4, h5, h10, h12, hne⟩ := h
  refine ⟨ht_at_ne h0 (hne 0 i (by decide) hi (ht_isl_ne hl rfl)), fun j hj hlj => ?_, ht_at_ne h4 (hne 4 i (by decide) hi (ht_isl_ne hl rfl)), ht_at_ne h5 (hne 5 i (by decide) hi (ht_isl_ne hl rfl)), ht_at_ne h10 (hne 10 i (by decide) hi (ht_isl_ne hl rfl)), ht_at_ne h12 (hne 12 i (by decide) hi (ht_isl_ne hl rfl)), hne⟩
  by_cases e : j = i
  · subst e
    rw [va_up_self]
    exact ht_at_self (h1 j hj hlj)
  · rw [va_up_ne _ _ e]
    exact ht_at_ne (h1 j hj hlj) (hne j i hj hi e)
theorem ht_Mo.up0 {g : ht_G} {w : ht_W} {M : Nat → Nat} {n : Nat → Int32} {Lf : ht_LF} {If : ht_IF} (h : ht_Mo g w M n Lf If) (n' : Nat → Int32) : ht_Mo g (ht_up w (M 0) (ht_mo M n')) M n' Lf If := by
  obtain ⟨h0, h1, h4, h5, h10, h12, hne⟩ := h
  exact ⟨ht_at_self h0, fun j hj hlj => ht_at_ne (h1 j hj hlj) (hne j 0 hj (by decide) (fun z => by rw [z] at hlj; cases hlj)), ht_at_ne h4 (hne 4 0 (by decide) (by decide) (by decide)), ht_at_ne h5 (hne 5 0 (by decide) (by decide) (by decide)), ht_at_ne h10 (hne 10 0 (by decide) (by decide) (by decide)), ht_at_ne h12 (hne 12 0 (by decide) (by decide) (by decide)), hne⟩
theorem ht_Mo.up4 {g : ht_G} {w : ht_W} {M : Nat → Nat} {n : Nat → Int32} {Lf : ht_LF} {If : ht_IF} (h : ht_Mo g w M n Lf If) (f : Nat → Int32) : ht_Mo g (ht_up w (M 4) (ht_ai g 512 f)) M n Lf (va_up If 4 f) := by
  obtain ⟨h0, h1, h4, h5, h10, h12, hne⟩ := h
  refine ⟨ht_at_ne h0 (hne 0 4 (by decide) (by decide) (by decide)), fun j hj hlj => ht_at_ne (h1 j hj hlj) (hne j 4 hj (by decide) (fun z => by rw [z] at hlj; cases hlj)), ?_, ?_, ?_, ?_, hne⟩
  · rw [va_up_self]; exact ht_at_self h4
  · rw [va_up_ne _ _ (by decide)]; exact ht_at_ne h5 (hne 5 4 (by decide) (by decide) (by decide))
  · rw [va_up_ne _ _ (by decide)]; exact ht_at_ne h10 (hne 10 4 (by decide) (by decide) (by decide))
  · rw [va_up_ne _ _ (by decide)]; exact ht_at_ne h12 (hne 12 4 (by decide) (by decide) (by decide))
theorem ht_Mo.up5 {g : ht_G} {w : ht_W} {M : Nat → Nat} {n : Nat → Int32} {Lf : ht_LF} {If : ht_IF} (h : ht_Mo g w M n Lf If) (f : Nat → Int32) : ht_Mo g (ht_up w (M 5) (ht_ai g 512 f)) M n Lf (va_up If 5 f) := by
  obtain ⟨h0, h1, h4, h5, h10, h12, hne⟩ := h
  refine ⟨ht_at_ne h0 (hne 0 5 (by decide) (by decide) (by decide)), fun j hj hlj => ht_at_ne (h1 j hj hlj) (hne j 5 hj (by decide) (fun z => by rw [z] at hlj; cases hlj)), ?_, ?_, ?_, ?_, hne⟩
  · rw [va_up_ne _ _ (by decide)]; exact ht_at_ne h4 (hne 4 5 (by decide) (by decide) (by decide))
  · rw [va_up_self]; exact ht_at_self h5
  · rw [va_up_ne _ _ (by decide)]; exact ht_at_ne h10 (hne 10 5 (by decide) (by decide) (by decide))
  · rw [va_up_ne _ _ (by decide)]; exact ht_at_ne h12 (hne 12 5 (by decide) (by decide) (by decide))
theorem ht_Mo.up10 {g : ht_G} {w : ht_W} {M : Nat → Nat} {n : Nat → Int32} {Lf : ht_LF} {If : ht_IF} (h : ht_Mo g w M n Lf If) (f : Nat → Int32) : ht_Mo g (ht_up w (M 10) (ht_ab g 4096 f)) M n Lf (va_up If 10 f) := by
  obtain ⟨h0, h1, h4, h5, h10, h12, hne⟩ := h
  refine ⟨ht_at_ne h0 (hne 0 10 (by decide) (by decide) (by decide)), fun j hj hlj => ht_at_ne (h1 j hj hlj) (hne j 10 hj (by decide) (fun z => by rw [z] at hlj; cases hlj)), ?_, ?_, ?_, ?_, hne⟩
  · rw [va_up_ne _ _ (by decide)]; exact ht_at_ne h4 (hne 4 10 (by decide) (by decide) (by decide))
  · rw [va_up_ne _ _ (by decide)]; exact ht_at_ne h5 (hne 5 10 (by decide) (by decide) (by decide))
  · rw [va_up_self]; exact ht_at_self h10
  · rw [va_up_ne _ _ (by decide)]; exact ht_at_ne h12 (hne 12 10 (by decide) (by decide) (by decide))
theorem ht_Mo.up12 {g : ht_G} {w : ht_W} {M : Nat → Nat} {n : Nat → Int32} {Lf : ht_LF} {If : ht_IF} (h : ht_Mo g w M n Lf If) (f : Nat → Int32) : ht_Mo g (ht_up w (M 12) (ht_ab g 16384 f)) M n Lf (va_up If 12 f) := by
  obtain ⟨h0, h1, h4, h5, h10, h12, hne⟩ := h
  refine ⟨ht_at_ne h0 (hne 0 12 (by decide) (by decide) (by decide)), fun j hj hlj => ht_at_ne (h1 j hj hlj) (hne j 12 hj (by decide) (fun z => by rw [z] at hlj; cases hlj)), ?_, ?_, ?_, ?_, hne⟩
  · rw [va_up_ne _ _ (by decide)]; exact ht_at_ne h4 (hne 4 12 (by decide) (by decide) (by decide))
  · rw [va_up_ne _ _ (by decide)]; exact ht_at_ne h5 (hne 5 12 (by decide) (by decide) (by decide))
  · rw [va_up_ne _ _ (by decide)]; exact ht_at_ne h10 (hne 10 12 (by decide) (by decide) (by decide))
  · rw [va_up_self]; exact ht_at_self h12
theorem ht_Mo.fr {g : ht_G} {w u : ht_W} {M : Nat → Nat} {n : Nat → Int32} {Lf : ht_LF} {If : ht_IF} (h : ht_Mo g w M n Lf If) {S : Nat → Prop} (hf : ht_fr S w u) (hS : ∀ i, i < 18 → ¬ S (M i)) : ht_Mo g u M n Lf If := by
  obtain ⟨h0, h1, h4, h5, h10, h12, hne⟩ := h
  exact ⟨hf.at h0 (hS 0 (by decide)), fun j hj hlj => hf.at (h1 j hj hlj) (hS j hj), hf.at h4 (hS 4 (by decide)), hf.at h5 (hS 5 (by decide)), hf.at h10 (hS 10 (by decide)), hf.at h12 (hS 12 (by decide)), hne⟩
/-- what a byte row holds -/
theorem ht_nar (v : Int32) : vp_nar .byte v &&& 255 = v &&& 255 := by
  show v.toInt8.toInt32 &&& 255 = v &&& 255
  apply Int32.toBitVec_inj.mp
  apply BitVec.eq_of_getLsbD_eq
  intro i hi
  rw [Int32.toBitVec_and, Int32.toBitVec_and, BitVec.getLsbD_and, BitVec.getLsbD_and]
  have e : (255 : Int32).toBitVec = (BitVec.allOnes 8).setWidth 32 := by decide
  rw [e, BitVec.getLsbD_setWidth, BitVec.getLsbD_allOnes]
  by_cases h : i < 8
  · have : v.toInt8.toInt32.toBitVec.getLsbD i = v.toBitVec.getLsbD i := by
      show ((v.toBitVec.signExtend 8).signExtend 32).getLsbD i = _
      rw [BitVec.getLsbD_signExtend, BitVec.getLsbD_signExtend]
      simp [h, show i < 32 by omega]
    rw [this]
  · simp [h]
