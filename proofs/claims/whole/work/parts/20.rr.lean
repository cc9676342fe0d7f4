set_option maxHeartbeats 4000000 in
set_option maxRecDepth 100000 in
theorem c_JI_rotateRight (l : Launch) (g : ht_G) (w : ht_W) (x d : Int32) : Met l y_JI_rotateRight ws_JI_rotateRight ({ frames := 0, cells := 0, slots := 0, locals := 0 } : Room) (va_Pc [.int x, .int d] (ht_WS g w)) (ht_Qi g (fun r u => r = ht_rr x d ∧ w = u)) 0 0 (ht_A g) := by
  refine Met.ofW (cc := b_JI_rotateRight) (maxL := 2) (ret := (some .int)) (by decide) rfl ?_
  intro p e s m args below meth c s₁ BB hml hv
  obtain ⟨rfl, HW⟩ := hv
  have HW := ht_I.start HW
  have hx := BB.exec
  have hb := BB.bytes
  have hr := BB.returns
  have hts := atoms_spec (ws := ws_JI_rotateRight) BB.pre
  have htb : ∀ w ∈ bg, w.before _ s = true := fun w h => hts w (List.mem_cons_of_mem _ h)
  have hown : s.vm.findClass R_JI = some m.cls := findClass_of_methodNamed BB.named
  have hlocks := BB.notSynchronized
  have hl := lv_entry ([.int x, .int d]) (n := 2) (Nat.le_of_ble_eq_true rfl)
  rw [lg_entry_eq]
  generalize (lg_sl ([.int x, .int d]) ++ List.replicate (2 - (lg_sl ([.int x, .int d])).length) Slot.unset).toArray = ls at hl ⊢
  have hl : lv_has ls 2 [(0, .int x), (1, .int d)] := hl
  refine lv_iload_n hx hb d_JI_rotateRight_0 rfl (lv_at hl 0 rfl) ?_
  refine lv_iload_n hx hb d_JI_rotateRight_1 rfl (lv_at hl 1 rfl) ?_
  refine lv_iushr (v := ht_us x d) hx hb d_JI_rotateRight_2 rfl ?_
  refine lv_iload_n hx hb d_JI_rotateRight_3 rfl (lv_at hl 0 rfl) ?_
  refine lv_iload_n hx hb d_JI_rotateRight_4 rfl (lv_at hl 1 rfl) ?_
  refine lv_ineg hx hb d_JI_rotateRight_5 ?_
  refine lv_ishl hx hb d_JI_rotateRight_6 ?_
  refine lv_ior hx hb d_JI_rotateRight_7 ?_
  exact ht_iret hx hb hr hlocks HW ⟨rfl, rfl⟩ d_JI_rotateRight_8
