/-! The words of a call, all out of one list. -/
theorem ht_gv {own C : String} {idx : Nat} {y : MethodName} {ws : List Cond} (h1 : (.methodLink own idx y : Cond) ∈ bg) (h2 : (.instanceMethod y : Cond) ∈ bg) (h3 : (.selects C y y : Cond) ∈ bg) (h4 : (.initialized C : Cond) ∈ bg) (h : GoodIn bg ws) : GoodIn bg (wsV own idx C y ws) := by
  intro w hw
  rcases List.mem_append.mp hw with q | q
  · rcases List.mem_cons.mp q with rfl | q
    · exact bg_good _ h1
    · rcases List.mem_cons.mp q with rfl | q
      · exact bg_good _ h2
      · rcases List.mem_cons.mp q with rfl | q
        · exact bg_good _ h3
        · rw [List.mem_singleton.mp q]
          exact bg_good _ h4
  · exact h w q
theorem ht_gs {own : String} {idx : Nat} {y : MethodName} {ws : List Cond} (h1 : (.methodLink own idx y : Cond) ∈ bg) (h2 : (.static y : Cond) ∈ bg) (h3 : (.initialized y.cls : Cond) ∈ bg) (h : GoodIn bg ws) : GoodIn bg (va_wsS own idx y ws) := by
  intro w hw
  rcases List.mem_append.mp hw with q | q
  · rcases List.mem_cons.mp q with rfl | q
    · exact bg_good _ h1
    · rcases List.mem_cons.mp q with rfl | q
      · exact bg_good _ h2
      · rw [List.mem_singleton.mp q]
        exact bg_good _ h3
  · exact h w q
/-- what the machine makes of >>> and of a turn -/
def ht_us (x d : Int32) : Int32 := (x.toUInt32 >>> (d.toUInt32 &&& Int32.toUInt32 31)).toInt32
def ht_rr (x d : Int32) : Int32 := ht_us x d ||| (x <<< ((-d) &&& 31))
/-! THE DIGEST's block, as the class makes it: the words' row is spread, then mixed. -/
def ht_s0 (x : Int32) : Int32 := (ht_rr x 7 ^^^ ht_rr x 18) ^^^ ht_us x 3
def ht_s1 (x : Int32) : Int32 := (ht_rr x 17 ^^^ ht_rr x 19) ^^^ ht_us x 10
def ht_sp : Nat → (Nat → Int32) → Nat → Int32
  | 0, w => w
  | k + 1, w => upd (ht_sp k w) (16 + k) (((ht_sp k w k + ht_s0 (ht_sp k w (k + 1))) + ht_sp k w (k + 9)) + ht_s1 (ht_sp k w (k + 14)))
abbrev ht_O : Type := Int32 × Int32 × Int32 × Int32 × Int32 × Int32 × Int32 × Int32
def ht_xx (e f g h k w : Int32) : Int32 := (((h + ((ht_rr e 6 ^^^ ht_rr e 11) ^^^ ht_rr e 25)) + ((e &&& f) ^^^ ((e ^^^ (-1)) &&& g))) + k) + w
def ht_yy (a b c : Int32) : Int32 := ((ht_rr a 2 ^^^ ht_rr a 13) ^^^ ht_rr a 22) + (((a &&& b) ^^^ (a &&& c)) ^^^ (b &&& c))
def ht_r1 (k w : Int32) : ht_O → ht_O := fun o => match o with
  | (a, b, c, d, e, f, g, h) => (ht_xx e f g h k w + ht_yy a b c, a, b, c, d + ht_xx e f g h k w, e, f, g)
def ht_rn (w : Nat → Int32) (o : ht_O) : Nat → ht_O
  | 0 => o
  | k + 1 => ht_r1 (ht_k64.getD k 0) (w k) (ht_rn w o k)
def ht_o8 (ws : Nat → Int32) : ht_O := (ws 0, ws 1, ws 2, ws 3, ws 4, ws 5, ws 6, ws 7)
def ht_ad (ws : Nat → Int32) (o : ht_O) : Nat → Int32 := match o with
  | (a, b, c, d, e, f, g, h) => upd (upd (upd (upd (upd (upd (upd (upd ws 0 (ws 0 + a)) 1 (ws 1 + b)) 2 (ws 2 + c)) 3 (ws 3 + d)) 4 (ws 4 + e)) 5 (ws 5 + f)) 6 (ws 6 + g)) 7 (ws 7 + h)
/-- a block: w holds its sixteen words -/
def ht_bl (ws w : Nat → Int32) : Nat → Int32 := ht_ad ws (ht_rn (ht_sp 48 w) (ht_o8 ws) 64)
/-- the digester: words, row, length; a byte comes -/
abbrev ht_D : Type := (Nat → Int32) × (Nat → Int32) × Int32
def ht_pl (n : Int32) : Int32 := (n &&& 63) >>> ((2 : Int32) &&& 31)
def ht_tw (t : ht_D) (v : Int32) : Nat → Int32 := upd t.2.1 (ht_pl t.2.2).toNatClampNeg ((t.2.1 (ht_pl t.2.2).toNatClampNeg <<< ((8 : Int32) &&& 31)) ||| (v &&& 255))
def ht_tk (t : ht_D) (v : Int32) : ht_D := if (t.2.2 + 1) &&& 63 = 0 then (ht_bl t.1 (ht_tw t v), ht_sp 48 (ht_tw t v), t.2.2 + 1) else (t.1, ht_tw t v, t.2.2 + 1)
/-- the digester's three cells -/
def ht_dw (g : ht_G) (w : ht_W) (dg wd wa : Nat) (t : ht_D) : ht_W := ht_up (ht_up (ht_up w dg (.inr (1, [.ref wd, .ref wa, .int t.2.2]))) wd (ht_ai g 8 t.1)) wa (ht_ai g 64 t.2.1)
def ht_Dg (g : ht_G) (w : ht_W) (dg wd wa : Nat) (t : ht_D) : Prop := ht_at w dg (.inr (1, [.ref wd, .ref wa, .int t.2.2])) ∧ ht_at w wd (ht_ai g 8 t.1) ∧ ht_at w wa (ht_ai g 64 t.2.1)
theorem ht_ne_oi {ci n : Nat} {fs : List Value} {g : ht_G} {f : Nat → Int32} : (.inr (ci, fs) : va_E) ≠ ht_ai g n f := fun z => by cases z
theorem ht_ne_ii {n n' : Nat} {g : ht_G} {f f' : Nat → Int32} (h : n ≠ n') : ht_ai g n f ≠ ht_ai g n' f' := fun z => h (by injection z with z; injection z with z1 z2; injection z2)
theorem ht_Dg.n1 {g : ht_G} {w : ht_W} {dg wd wa : Nat} {t : ht_D} (h : ht_Dg g w dg wd wa t) : dg ≠ wd := ht_ne h.1 h.2.1 ht_ne_oi
theorem ht_Dg.n2 {g : ht_G} {w : ht_W} {dg wd wa : Nat} {t : ht_D} (h : ht_Dg g w dg wd wa t) : dg ≠ wa := ht_ne h.1 h.2.2 ht_ne_oi
theorem ht_Dg.n3 {g : ht_G} {w : ht_W} {dg wd wa : Nat} {t : ht_D} (h : ht_Dg g w dg wd wa t) : wd ≠ wa := ht_ne h.2.1 h.2.2 (ht_ne_ii (by decide))
theorem ht_Dg.self {g : ht_G} {w : ht_W} {dg wd wa : Nat} {t : ht_D} (h : ht_Dg g w dg wd wa t) : ht_dw g w dg wd wa t = w := by
  unfold ht_dw
  rw [ht_up_id h.1, ht_up_id h.2.1, ht_up_id h.2.2]
theorem ht_Dg.up {g : ht_G} {w : ht_W} {dg wd wa : Nat} {t t' : ht_D} (h : ht_Dg g w dg wd wa t) : ht_Dg g (ht_dw g w dg wd wa t') dg wd wa t' := by
  have n1 := h.n1
  have n2 := h.n2
  have n3 := h.n3
  unfold ht_dw
  exact ⟨ht_at_ne (ht_at_ne (ht_at_self h.1) n1) n2, ht_at_ne (ht_at_self (ht_at_ne h.2.1 n1.symm)) n3, ht_at_self (ht_at_ne (ht_at_ne h.2.2 n2.symm) n3.symm)⟩
theorem ht_Dg.dw {g : ht_G} {w : ht_W} {dg wd wa : Nat} {t t' t'' : ht_D} (h : ht_Dg g w dg wd wa t) : ht_dw g (ht_dw g w dg wd wa t') dg wd wa t'' = ht_dw g w dg wd wa t'' := by
  have n1 := h.n1
  have n2 := h.n2
  have n3 := h.n3
  unfold ht_dw
  rw [ht_up_comm n2.symm, ht_up_comm n1.symm, ht_up_up, ht_up_comm n3.symm, ht_up_up, ht_up_up]
theorem ht_Dg.ne {g : ht_G} {w : ht_W} {dg wd wa b : Nat} {t : ht_D} {e : va_E} (hb : ht_at w b e) (h1 : b ≠ dg) (h2 : b ≠ wd) (h3 : b ≠ wa) : ht_at (ht_dw g w dg wd wa t) b e := ht_at_ne (ht_at_ne (ht_at_ne hb h1) h2) h3
