/-! The digest of a byte and two rows. -/
def ht_jb (mk : Int32) (lf rf : Nat → Int64) : Nat → Int32 := fun i => if i = 0 then mk else if i < 33 then ht_by (lf ((i - 1) / 8)) (7 - (i - 1) % 8) else ht_by (rf ((i - 33) / 8)) (7 - (i - 33) % 8)
theorem ht_S8.ts {b : Nat → Int32} {f : Nat → Int64} {n : Nat} {t : ht_D} (h : ht_S8 b n t) (hn : n ≤ 4000) : ∀ k, k ≤ 4 → (∀ j i, j < k → i < 8 → b (n + 8 * j + i) = ht_by (f j) (7 - i)) → ht_S8 b (n + 8 * k) (ht_ts t f k) := by
  intro k
  induction k with
  | zero => intro _ _; exact h
  | succ k ih =>
    intro hk hb
    have h1 := ih (by omega) (fun j i hj hi => hb j i (by omega) hi)
    have h2 := ht_S8.tl (x := f k) 8 (n + 8 * k) _ h1 (by omega) (fun i hi => hb k i (by omega) hi)
    rw [show n + 8 * (k + 1) = n + 8 * k + 8 by omega]
    exact h2
theorem ht_jt_sw (row : Nat → Int32) (mk : Int32) (lf rf : Nat → Int64) : (ht_jt row mk lf rf).1 = ht_sw (ht_pad (ht_jb mk lf rf) 65) 2 := by
  have h0 := (ht_S8.start (ht_jb mk lf rf) row).step (by omega)
  rw [show ht_jb mk lf rf 0 = mk from rfl] at h0
  have h1 := ht_S8.ts (f := lf) h0 (by omega) 4 (Nat.le_refl 4) (fun j i hj hi => by
    unfold ht_jb
    rw [if_neg (by omega), if_pos (by omega), show (0 + 1 + 8 * j + i - 1) / 8 = j by omega, show (0 + 1 + 8 * j + i - 1) % 8 = i by omega])
  have h2 := ht_S8.ts (f := rf) h1 (by omega) 4 (Nat.le_refl 4) (fun j i hj hi => by
    unfold ht_jb
    rw [if_neg (by omega), if_neg (by omega), show (0 + 1 + 8 * 4 + 8 * j + i - 33) / 8 = j by omega, show (0 + 1 + 8 * 4 + 8 * j + i - 33) % 8 = i by omega])
  have h3 := ht_fi_sw h2 (by omega)
  exact h3
def ht_dgf (mk : Int32) (a b : ht_K) : ht_K := ht_kn (ht_sw (ht_pad (ht_jb mk (ht_kf a) (ht_kf b)) 65) 2)
theorem ht_jt_dgf (row : Nat → Int32) (mk : Int32) (a b : ht_K) : ht_kn (ht_jt row mk (ht_kf a) (ht_kf b)).1 = ht_dgf mk a b := by
  unfold ht_dgf
  rw [ht_jt_sw]
/-- the hash at levels above a branch: j levels up -/
def ht_chn (k : ht_K) (lv : Nat) (h0 : ht_K) : Nat → ht_K
  | 0 => h0
  | j + 1 => if ht_bit k (lv - 1 - j) then ht_dgf 1 ht_kz (ht_chn k lv h0 j) else ht_dgf 1 (ht_chn k lv h0 j) ht_kz
theorem ht_T.hash_cv {N : ht_N} {F : List Nat} {top : Option Nat} {l : ht_L} (h : ht_T N F top l) {a : Nat} (ha : a ∈ F) {zo : Nat × Nat} (hp : ht_rp (N a) = .inr zo) {hz ho : ht_K} (h1 : hz = ht_h ht_dgf (255 - ht_rl (N a)) (ht_U N l zo.1)) (h2 : ho = ht_h ht_dgf (255 - ht_rl (N a)) (ht_U N l zo.2)) : ∀ j, j ≤ ht_rl (N a) → ht_chn (ht_rk (N a)) (ht_rl (N a)) (ht_dgf 1 hz ho) j = ht_h ht_dgf (256 - (ht_rl (N a) - j)) (ht_U N l a) := by
  intro j
  induction j with
  | zero =>
    intro _
    show ht_dgf 1 hz ho = _
    rw [Nat.sub_zero, h.hash_b ht_dgf ha hp, h1, h2]
  | succ j ih =>
    intro hj
    have hlt := (h.half ha hp false).2.1
    unfold ht_chn
    rw [ih (by omega), show ht_rl (N a) - (j + 1) = ht_rl (N a) - 1 - j by omega, h.hash_c ht_dgf ha hp (d := ht_rl (N a) - 1 - j) (by omega), show 255 - (ht_rl (N a) - 1 - j) = 256 - (ht_rl (N a) - j) by omega]
theorem ht_dw_up {g : ht_G} {w : ht_W} {dg wd wa ia : Nat} {t : ht_D} {e : va_E} (h1 : ia ≠ dg) (h2 : ia ≠ wd) (h3 : ia ≠ wa) : ht_dw g (ht_up w ia e) dg wd wa t = ht_up (ht_dw g w dg wd wa t) ia e := by
  unfold ht_dw
  rw [ht_up_comm h1, ht_up_comm h2, ht_up_comm h3]
theorem ht_xl {x : Int32} {a : Nat} (h : x + 1 = nI a) (ha : a < 2 ^ 31) : x < nI a := by
  cases a with
  | zero => exact ht_j0 h
  | succ a =>
    rw [ht_js h]
    exact nI_lt (by omega) ha
