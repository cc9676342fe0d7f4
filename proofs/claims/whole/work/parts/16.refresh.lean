/-! Counting what is stale. -/
def ht_st (N : ht_N) (F : List Nat) : Nat := (F.filter (fun a => !ht_rf (N a))).length
theorem ht_cnt {p p' : Nat → Bool} {a : Nat} (hp : p a = true) (hp' : p' a = false) (ho : ∀ x, x ≠ a → p' x = p x) : ∀ {F : List Nat}, F.Nodup → a ∈ F → (F.filter p').length + 1 = (F.filter p).length := by
  intro F
  induction F with
  | nil => intro _ h; cases h
  | cons x t ih =>
    intro hn ha
    obtain ⟨h1, h2⟩ := List.nodup_cons.mp hn
    rcases List.mem_cons.mp ha with e | e
    · subst e
      rw [List.filter_cons, List.filter_cons, if_neg (by rw [hp']; decide), if_pos hp, List.length_cons]
      have : t.filter p' = t.filter p := List.filter_congr (fun y hy => ho y (fun z => h1 (z ▸ hy)))
      rw [this]
    · have hx : x ≠ a := fun z => h1 (z ▸ e)
      have := ih h2 e
      rw [List.filter_cons, List.filter_cons, ho x hx]
      cases p x with
      | true => simp only [if_true, List.length_cons]; omega
      | false => simp only [Bool.false_eq_true, if_false]; omega
theorem ht_sub_len : ∀ {S F : List Nat}, S.Nodup → (∀ x ∈ S, x ∈ F) → S.length ≤ F.length := by
  intro S
  induction S with
  | nil => intro F _ _; exact Nat.zero_le _
  | cons x t ih =>
    intro F hn hs
    obtain ⟨h1, h2⟩ := List.nodup_cons.mp hn
    have hx := hs x List.mem_cons_self
    have := ih (F := F.erase x) h2 (fun y hy => (List.mem_erase_of_ne (fun (z : y = x) => h1 (by rw [← z]; exact hy))).mpr (hs y (List.mem_cons_of_mem _ hy)))
    rw [List.length_erase_of_mem hx] at this
    have hpos := List.length_pos_of_mem hx
    rw [List.length_cons]
    omega
