/-! System.arraycopy over the pool: from a static table, and from row to row. -/
section HTC
variable {p : Program} {l : Launch} {e : Env} {R : Room} {s : State} {m : MethodId} {args : Array Value} {below : List Frame} {meth : Method} {c : Code} {H : Heap} {locs : List Loc} {cells slots : Nat} {Q : State → Prop}
variable {cc : ByteArray} {pc : Nat} {ls : Array Slot} {rest : List Value} {g : ht_G} {w : ht_W} {a : Nat}
theorem ht_toNat {z : Int32} (h : ¬ z < 0) : z.toInt = (z.toNatClampNeg : Int) := by
  obtain ⟨j, hj, rfl⟩ := nI_of h
  rw [nI_toInt hj, nI_clamp hj]
theorem ht_cpt (hx : p.tables.exec = Jvm.exec) (hb : c.code = cc) (hml : c.maxLocals = ls.size) {own : String} {index : Nat} (hown : s.vm.findClass own = some m.cls) (hlink : (Cond.methodLink own index arraycopyName).before args s = true) (hnat : (Cond.native arraycopyName).before args s = true) (hstat : (Cond.static arraycopyName).before args s = true) (hini : (Cond.initialized "java/lang/System").before args s = true)
    (HW : ht_I g s w H locs) {t N n1 : Nat} {f f1 : Nat → Int32} (hT : va_T .int t N (fun j => .int (f j)) (ht_A g) s s.heap) (ha : ht_at w a (ht_ai g n1 f1)) {sp dp n : Int32} (h1 : ¬ sp < 0) (h2 : ¬ dp < 0) (h3 : ¬ n < 0) (h4 : sp.toNatClampNeg + n.toNatClampNeg ≤ N) (h5 : dp.toNatClampNeg + n.toNatClampNeg ≤ n1)
    (hframes : 1 ≤ R.frames) (hlocals : (rest.map fun v => v.category).sum + (nativeFrameWords "java/lang/System" "arraycopy" 5 + 11) ≤ R.locals) (hdg : decode cc pc = .ok (.invokestatic index, 3))
    (kk : ∀ (H1 : Heap) (locs1 : List Loc), ht_I g s (ht_up w a (ht_ai g n1 (va_cpy f f1 sp.toNatClampNeg dp.toNatClampNeg n.toNatClampNeg))) H1 locs1 → W p l e R s m args below meth c H1 locs1 cells slots Q (F0 m (pc + 3) ls rest)) : W p l e R s m args below meth c H locs cells slots Q (F0 m pc ls (.int n :: .int dp :: .ref a :: .int sp :: .ref t :: rest)) := by
  obtain ⟨z1, z2, z3, z4, z5, z6⟩ := id HW
  obtain ⟨cs, t1, ⟨t2, k0, hk0, cm0, hkk0⟩, t3, t4, t5, t6, t7⟩ := hT
  obtain ⟨q1, hq⟩ := ht_ix ha
  have hs : H[t]? = some cs := (z6.2.1 t (Array.getElem?_eq_some_iff.mp t1).1 t7).trans t1
  have hd : H[a]? = some (vp_cell (g.2.2.1 0) (n1, .inl f1)) := z4 q1 _ hq
  obtain ⟨-, k1, hk1, cm1, hkk1⟩ := (z2.2 0 _ rfl).1 n1 (fun j => .int (f1 j))
  have hval : ∀ i, i < n.toNatClampNeg → cs.slots.getD (sp.toNatClampNeg + i) .null = .int (f (sp.toNatClampNeg + i)) := fun i hi => by
    rw [Array.getD_eq_getD_getElem?, t6 _ (by omega)]
    rfl
  have hcp : copied cs (vp_cell (g.2.2.1 0) (n1, .inl f1)) sp dp n = vp_cell (g.2.2.1 0) (n1, .inl (va_cpy f f1 sp.toNatClampNeg dp.toNatClampNeg n.toNatClampNeg)) := va_copiedX (fun z => .int z) cs (g.2.2.1 0) f f1 t6 h4
  intro T hT X
  obtain ⟨vm', X', step⟩ := X.arraycopy hx hown hlink hnat hstat hini (src := t) (dst := a) (cs := cs) (cd := vp_cell (g.2.2.1 0) (n1, .inl f1)) (srcPos := sp) (destPos := dp) (n := n) (by rw [hT]; exact hs) (by rw [hT]; exact hd) t2 (fun _ h => by cases h) t3 (fun h => by cases h) hk0 hk1 hkk0 hkk1 (by simp [refKind]) h1 h2 h3
    (by rw [ht_toNat h1, ht_toNat h3]; omega) (by rw [ht_toNat h2, ht_toNat h3]; show ¬ _ > ((arrV (g.2.2.1 0) n1 (fun j => .int (f1 j))).slots.size : Int); rw [arrV_size]; omega)
    (fun vm₁ _ i hi => by rw [hval i hi]; exact ⟨rfl, trivial⟩)
    (g := F0 m pc ls (.int n :: .int dp :: .ref a :: .int sp :: .ref t :: rest)) rfl (by rw [hml]) (rest := rest) rfl (by rw [hb]; exact hdg) hframes (by show 2 * 0 + _ + _ ≤ _; omega)
  rw [hcp] at X' step
  have hlt : a < H.size := (Array.getElem?_eq_some_iff.mp hd).1
  generalize hNC : vp_cell (g.2.2.1 0) (n1, .inl (va_cpy f f1 sp.toNatClampNeg dp.toNatClampNeg n.toNatClampNeg)) = nc at X' step
  have hheap : ((T.setVm vm').setCell a nc).heap = H.setIfInBounds a nc := by rw [← hT]; rfl
  have oq : ∀ q : Nat, q ≠ a → (H.setIfInBounds a nc)[q]? = H[q]? := fun q hq => by simp [Array.getElem?_setIfInBounds, Ne.symm hq]
  have hself : (H.setIfInBounds a nc)[a]? = some nc := by simp [Array.getElem?_setIfInBounds, hlt]
  have hAa : ht_A g a := z5.2 q1 _ hq
  have hP1 := z4.set z5 hq (e := ht_ai g n1 (va_cpy f f1 sp.toNatClampNeg dp.toNatClampNeg n.toNatClampNeg)) (show (H.setIfInBounds a nc)[a]? = some _ by rw [hself, ← hNC]) oq
  have hD1 := z5.set (e := ht_ai g n1 (va_cpy f f1 sp.toNatClampNeg dp.toNatClampNeg n.toNatClampNeg)) hq
  rw [ht_set z5 ha hq] at hP1 hD1
  obtain ⟨tt, a1, b1⟩ := kk _ _ ⟨z1, z2, z3, hP1, hD1, by simp; exact z6.1, fun q g1 g2 => (oq q (fun e => g2 (by rw [e]; exact hAa))).trans (z6.2.1 q g1 g2), fun q hq' => by
      rcases List.mem_append.mp hq' with h | h
      · exact z6.2.2 q h
      · obtain ⟨z, -, hz⟩ := List.mem_map.mp h
        rw [← hz]
        exact hAa⟩ _ hheap X'
  exact ⟨tt, step tt a1, b1⟩
theorem ht_cpl (hx : p.tables.exec = Jvm.exec) (hb : c.code = cc) (hml : c.maxLocals = ls.size) {own : String} {index : Nat} (hown : s.vm.findClass own = some m.cls) (hlink : (Cond.methodLink own index arraycopyName).before args s = true) (hnat : (Cond.native arraycopyName).before args s = true) (hstat : (Cond.static arraycopyName).before args s = true) (hini : (Cond.initialized "java/lang/System").before args s = true)
    (HW : ht_I g s w H locs) {t n0 n1 : Nat} {f f1 : Nat → Int64} (hT : ht_at w t (ht_al g n0 f)) (ha : ht_at w a (ht_al g n1 f1)) {sp dp n : Int32} (h1 : ¬ sp < 0) (h2 : ¬ dp < 0) (h3 : ¬ n < 0) (h4 : sp.toNatClampNeg + n.toNatClampNeg ≤ n0) (h5 : dp.toNatClampNeg + n.toNatClampNeg ≤ n1)
    (hframes : 1 ≤ R.frames) (hlocals : (rest.map fun v => v.category).sum + (nativeFrameWords "java/lang/System" "arraycopy" 5 + 11) ≤ R.locals) (hdg : decode cc pc = .ok (.invokestatic index, 3))
    (kk : ∀ (H1 : Heap) (locs1 : List Loc), ht_I g s (ht_up w a (ht_al g n1 (va_cpy f f1 sp.toNatClampNeg dp.toNatClampNeg n.toNatClampNeg))) H1 locs1 → W p l e R s m args below meth c H1 locs1 cells slots Q (F0 m (pc + 3) ls rest)) : W p l e R s m args below meth c H locs cells slots Q (F0 m pc ls (.int n :: .int dp :: .ref a :: .int sp :: .ref t :: rest)) := by
  obtain ⟨q0, hq0⟩ := ht_ix hT
  obtain ⟨q1, hq⟩ := ht_ix ha
  have hD := HW.2.2.2.2.1
  refine va_copyl hx hb hml hown hlink hnat hstat hini HW.2.1 HW.2.2.2.1 hD HW.2.2.2.2.2 q0 q1 1 1 hq0 hq rfl rfl (by rfl) h1 h2 h3 h4 h5 ?_ hframes hlocals hdg (fun H1 locs1 hP1 hD1 hS1 => ?_)
  · exact fun i hi => rfl
  · rw [ht_set hD ha hq] at hP1 hD1
    exact kk H1 locs1 ⟨HW.1, HW.2.1, HW.2.2.1, hP1, hD1, hS1⟩
end HTC
