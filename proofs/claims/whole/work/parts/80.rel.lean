/-! Class and reference side by side. -/
/-- the class's state, its inside hidden -/
def ht_CS (g : ht_G) (w : ht_W) (X : Nat → Nat) (tg : Nat → Nat × Nat) (k : ht_K) (L : ht_L) (sbf enf : Nat → Int64) (ei : Int32) : Prop := ∃ (N : ht_N) (A : ht_AA) (F : List Nat) (top : Option Nat) (dt : ht_D) (opf : Nat → Option Nat) (lsf : Nat → Int64), ht_Rp ht_dgf g w X tg k N A F top L dt opf sbf lsf enf ei
/-- THE PROOF that both hold -/
def ht_PP (sbf enf : Nat → Int64) (ei : Int32) (n : Nat → Int32) (Lf : ht_LF) : Prop := n 4 = ei ∧ ∃ D, D ≤ 256 ∧ n 3 = nI D ∧ (∀ j i, j < 256 → i < 4 → sbf (j * 4 + i) = if j < D then Lf 8 (4 * j + i) else 0) ∧ ∀ i, i < 8 → enf i = Lf 9 i
/-- the law between two calls -/
def ht_LS (g : ht_G) (w : ht_W) (X M : Nat → Nat) (cnt : Nat) : Prop := ∃ (tg : Nat → Nat × Nat) (k : ht_K) (L R : ht_L) (sbf enf : Nat → Int64) (ei : Int32) (n : Nat → Int32) (Lf : ht_LF) (If : ht_IF), ht_CS g w X tg k L sbf enf ei ∧ ht_MR g w M n Lf If R k ∧ L.Perm R ∧ L.length ≤ cnt ∧ (∀ i, i < 18 → (tg (M i)).1 = 0) ∧ ht_PP sbf enf ei n Lf
theorem ht_Rp.fr {dgf : Int32 → ht_K → ht_K → ht_K} {g : ht_G} {w u : ht_W} {X : Nat → Nat} {tg : Nat → Nat × Nat} {k : ht_K} {N : ht_N} {A : ht_AA} {F : List Nat} {top : Option Nat} {L : ht_L} {dt : ht_D} {opf : Nat → Option Nat} {sbf lsf enf : Nat → Int64} {ei : Int32} (h : ht_Rp dgf g w X tg k N A F top L dt opf sbf lsf enf ei) {S : Nat → Prop} (hf : ht_fr S w u) (hS : ∀ b, (tg b).1 ≠ 0 → ¬ S b) : ht_Rp dgf g u X tg k N A F top L dt opf sbf lsf enf ei := by
  obtain ⟨h1, h2, h3, h4, h5, h6, h7, h8, h9, h10, h11, h12⟩ := id h
  have hs : ∀ i, i < 9 → ¬ S (X i) := fun i hi => hS _ (by rw [h11.1 i hi]; exact Nat.one_ne_zero)
  refine h.re hf (fun i _ hi => hs i hi) (hf.at h1 (hs 0 (by decide))) (fun a ha => ?_) h9 h10 h11 h12
  obtain ⟨a1, a2, a3, a4⟩ := h8 a ha
  obtain ⟨t1, t2, t3, t4⟩ := h11.2 a ha
  refine ⟨hf.at a1 (hS _ (by rw [t1]; decide)), hf.at a2 (hS _ (by rw [t2]; decide)), hf.at a3 (hS _ (by rw [t3]; exact fun z => by cases z)), fun v hv => hf.at (a4 v hv) (hS _ (by rw [t4 v hv]; exact fun z => by cases z))⟩
theorem ht_CS.fm {g : ht_G} {w u : ht_W} {X M : Nat → Nat} {tg : Nat → Nat × Nat} {k : ht_K} {L : ht_L} {sbf enf : Nat → Int64} {ei : Int32} (h : ht_CS g w X tg k L sbf enf ei) (hf : ht_fm M w u) (htg : ∀ i, i < 18 → (tg (M i)).1 = 0) : ht_CS g u X tg k L sbf enf ei := by
  obtain ⟨N, A, F, top, dt, opf, lsf, hR⟩ := h
  exact ⟨N, A, F, top, dt, opf, lsf, hR.fr hf (fun b hb ⟨i, hi, e⟩ => hb (by rw [e]; exact htg i hi))⟩
theorem ht_MR.fr {g : ht_G} {w u : ht_W} {M : Nat → Nat} {n : Nat → Int32} {Lf : ht_LF} {If : ht_IF} {R : ht_L} {k : ht_K} {tg : Nat → Nat × Nat} (h : ht_MR g w M n Lf If R k) (hf : ht_fr (fun b => (tg b).1 ≠ 0) w u) (htg : ∀ i, i < 18 → (tg (M i)).1 = 0) : ht_MR g u M n Lf If R k := ⟨h.1.fr hf (fun i hi z => z (htg i hi)), h.2⟩
theorem ht_srt.uq {R : ht_L} (h : ht_srt R) {a b : ht_K × ht_K} (ha : a ∈ R) (hb : b ∈ R) (e : a.1 = b.1) : a = b := by
  obtain ⟨i, hi⟩ := List.mem_iff_getElem?.mp ha
  obtain ⟨j, hj⟩ := List.mem_iff_getElem?.mp hb
  rcases Nat.lt_trichotomy i j with z | z | z
  · exact absurd e (h.lt hi hj z).ne
  · rw [z, hj] at hi
    exact (Option.some.inj hi).symm
  · exact absurd e.symm (h.lt hj hi z).ne
theorem ht_rel_has {L R : ht_L} {k : ht_K} (hp : L.Perm R) {r r2 : Int32} (h : (r = 1 ∧ ∃ v0, (k, v0) ∈ L) ∨ (r = 0 ∧ ∀ q ∈ L, q.1 ≠ k)) (h2 : (r2 = 1 ∧ ∃ v0, (k, v0) ∈ R) ∨ (r2 = 0 ∧ ∀ q ∈ R, q.1 ≠ k)) : r = r2 := by
  rcases h with ⟨e, v, hv⟩ | ⟨e, hv⟩ <;> rcases h2 with ⟨e2, v2, hv2⟩ | ⟨e2, hv2⟩
  · rw [e, e2]
  · exact absurd rfl (hv2 _ (hp.mem_iff.mp hv))
  · exact absurd rfl (hv _ (hp.mem_iff.mpr hv2))
  · rw [e, e2]
theorem ht_isn_not {i : Int32} (h : ¬ ht_isn i) {j : Nat} (hj : j < 4) (e : i = nI j) : False := h ⟨j, hj, e⟩
theorem ht_nj {i : Int32} {j j2 : Nat} (hj : j < 2 ^ 31) (hj2 : j2 < 2 ^ 31) (e : i = nI j) (e2 : i = nI j2) : j = j2 := (nI_eq hj hj2).mp (e.symm.trans e2)
theorem ht_rel_value {L R : ht_L} {k : ht_K} {i : Int32} (hs : ht_srt R) (hp : L.Perm R) {r r2 : Int64} (h : (∃ v0 j, (k, v0) ∈ L ∧ j < 4 ∧ i = nI j ∧ r = ht_kf v0 j) ∨ (((∀ q ∈ L, q.1 ≠ k) ∨ ¬ ht_isn i) ∧ r = 0)) (h2 : (∃ v0 j, (k, v0) ∈ R ∧ j < 4 ∧ i = nI j ∧ r2 = ht_kf v0 j) ∨ (((∀ q ∈ R, q.1 ≠ k) ∨ ¬ ht_isn i) ∧ r2 = 0)) : r = r2 := by
  rcases h with ⟨v, j, hv, hj, ej, e⟩ | ⟨hv, e⟩ <;> rcases h2 with ⟨v2, j2, hv2, hj2, ej2, e2⟩ | ⟨hv2, e2⟩
  · have e3 := hs.uq (hp.mem_iff.mp hv) hv2 rfl
    have e4 : v = v2 := congrArg Prod.snd e3
    rw [e, e2, e4, ht_nj (by omega) (by omega) ej ej2]
  · rcases hv2 with z | z
    · exact absurd rfl (z _ (hp.mem_iff.mp hv))
    · exact (ht_isn_not z hj ej).elim
  · rcases hv with z | z
    · exact absurd rfl (z _ (hp.mem_iff.mpr hv2))
    · exact (ht_isn_not z hj2 ej2).elim
  · rw [e, e2]
theorem ht_rel_root {L R : ht_L} {i : Int32} (hp : L.Perm R) {r r2 : Int64} (h : (∃ j, j < 4 ∧ i = nI j ∧ r = ht_kf (ht_h ht_dgf 256 L) j) ∨ (¬ ht_isn i ∧ r = 0)) (h2 : (∃ j, j < 4 ∧ i = nI j ∧ r2 = ht_kf (ht_h ht_dgf 256 R) j) ∨ (¬ ht_isn i ∧ r2 = 0)) : r = r2 := by
  rcases h with ⟨j, hj, ej, e⟩ | ⟨z, e⟩ <;> rcases h2 with ⟨j2, hj2, ej2, e2⟩ | ⟨z2, e2⟩
  · rw [e, e2, ht_h_perm _ _ hp, ht_nj (by omega) (by omega) ej ej2]
  · exact (ht_isn_not z2 hj ej).elim
  · exact (ht_isn_not z hj2 ej2).elim
  · rw [e, e2]
theorem ht_rel_digest {bs : Int64} {bn tm i : Int32} {r r2 : Int64} (h : (∃ n0 t0 j, n0 ≤ 8 ∧ t0 ≤ 500 ∧ j < 4 ∧ bn = nI n0 ∧ tm = nI t0 ∧ i = nI j ∧ r = ht_nu (ht_sw (ht_pad (ht_db bs n0) (n0 * t0)) ((n0 * t0 + 72) / 64)) j) ∨ (((¬ ∃ n0 : Nat, n0 ≤ 8 ∧ bn = nI n0) ∨ (¬ ∃ t0 : Nat, t0 ≤ 500 ∧ tm = nI t0) ∨ ¬ ht_isn i) ∧ r = 0)) (h2 : (∃ n0 t0 j, n0 ≤ 8 ∧ t0 ≤ 500 ∧ j < 4 ∧ bn = nI n0 ∧ tm = nI t0 ∧ i = nI j ∧ r2 = ht_nu (ht_sw (ht_pad (ht_db bs n0) (n0 * t0)) ((n0 * t0 + 72) / 64)) j) ∨ (((¬ ∃ n0 : Nat, n0 ≤ 8 ∧ bn = nI n0) ∨ (¬ ∃ t0 : Nat, t0 ≤ 500 ∧ tm = nI t0) ∨ ¬ ht_isn i) ∧ r2 = 0)) : r = r2 := by
  rcases h with ⟨n0, t0, j, hn, ht, hj, en, et, ej, e⟩ | ⟨z, e⟩ <;> rcases h2 with ⟨n2, t2, j2, hn2, ht2, hj2, en2, et2, ej2, e2⟩ | ⟨z2, e2⟩
  · rw [e, e2, ht_nj (by omega) (by omega) en en2, ht_nj (by omega) (by omega) et et2, ht_nj (by omega) (by omega) ej ej2]
  · rcases z2 with y | y | y
    · exact (y ⟨n0, hn, en⟩).elim
    · exact (y ⟨t0, ht, et⟩).elim
    · exact (ht_isn_not y hj ej).elim
  · rcases z with y | y | y
    · exact (y ⟨n2, hn2, en2⟩).elim
    · exact (y ⟨t2, ht2, et2⟩).elim
    · exact (ht_isn_not y hj2 ej2).elim
  · rw [e, e2]
theorem ht_rel_sibling {sbf enf : Nat → Int64} {D : Nat} {Lf : ht_LF} {kk i : Int32} (hD : D ≤ 256) (hs : ∀ j i, j < 256 → i < 4 → sbf (j * 4 + i) = if j < D then Lf 8 (4 * j + i) else 0) {r r2 : Int64} (h : (∃ a1 j, a1 < 256 ∧ j < 4 ∧ kk = nI a1 ∧ i = nI j ∧ r = sbf (a1 * 4 + j)) ∨ (((¬ ∃ a1 : Nat, a1 < 256 ∧ kk = nI a1) ∨ ¬ ht_isn i) ∧ r = 0)) (h2 : (∃ a1 j, a1 < D ∧ j < 4 ∧ kk = nI a1 ∧ i = nI j ∧ r2 = Lf 8 (4 * a1 + j)) ∨ (((¬ ∃ a1 : Nat, a1 < D ∧ kk = nI a1) ∨ ¬ ht_isn i) ∧ r2 = 0)) : r = r2 := by
  rcases h with ⟨a, j, ha, hj, ea, ej, e⟩ | ⟨z, e⟩ <;> rcases h2 with ⟨a2, j2, ha2, hj2, ea2, ej2, e2⟩ | ⟨z2, e2⟩
  · have e3 := ht_nj (by omega) (by omega) ea ea2
    have e4 := ht_nj (by omega) (by omega) ej ej2
    rw [e, e2, hs a j ha hj, if_pos (by omega), e3, e4]
  · rw [e, e2, hs a j ha hj]
    rcases z2 with y | y
    · exact if_neg (fun y9 => y ⟨a, y9, ea⟩)
    · exact (ht_isn_not y hj ej).elim
  · rcases z with y | y
    · exact (y ⟨a2, by omega, ea2⟩).elim
    · exact (ht_isn_not y hj2 ej2).elim
  · rw [e, e2]
theorem ht_rel_end {enf : Nat → Int64} {Lf : ht_LF} {kk i : Int32} (hs : ∀ i, i < 8 → enf i = Lf 9 i) {r r2 : Int64} (h : (∃ a1 j, a1 < 2 ∧ j < 4 ∧ kk = nI a1 ∧ i = nI j ∧ r = enf (a1 * 4 + j)) ∨ (((¬ ∃ a1 : Nat, a1 < 2 ∧ kk = nI a1) ∨ ¬ ht_isn i) ∧ r = 0)) (h2 : (∃ a1 j, a1 < 2 ∧ j < 4 ∧ kk = nI a1 ∧ i = nI j ∧ r2 = Lf 9 (4 * a1 + j)) ∨ (((¬ ∃ a1 : Nat, a1 < 2 ∧ kk = nI a1) ∨ ¬ ht_isn i) ∧ r2 = 0)) : r = r2 := by
  rcases h with ⟨a, j, ha, hj, ea, ej, e⟩ | ⟨z, e⟩ <;> rcases h2 with ⟨a2, j2, ha2, hj2, ea2, ej2, e2⟩ | ⟨z2, e2⟩
  · have e3 := ht_nj (by omega) (by omega) ea ea2
    have e4 := ht_nj (by omega) (by omega) ej ej2
    rw [e, e2, hs _ (by omega), e3, e4, Nat.mul_comm]
  · rcases z2 with y | y
    · exact (y ⟨a, ha, ea⟩).elim
    · exact (ht_isn_not y hj ej).elim
  · rcases z with y | y
    · exact (y ⟨a2, ha2, ea2⟩).elim
    · exact (ht_isn_not y hj2 ej2).elim
  · rw [e, e2]
theorem ht_Uk_perm {L R : ht_L} (hp : L.Perm R) (k : ht_K) (d : Nat) : (ht_Uk L k d).Perm (ht_Uk R k d) := hp.filter _
theorem ht_Vk_perm {L R : ht_L} (hp : L.Perm R) (k : ht_K) (d : Nat) : (ht_Vk L k d).Perm (ht_Vk R k d) := hp.filter _
theorem ht_ens_le {L : ht_L} {k : ht_K} {D : Nat} {f : Nat → Int64} {ei : Int32} (h : ht_ens L k D f ei) : (ht_Uk L k D).length ≤ 1 := by
  rcases h with ⟨e, -⟩ | ⟨k2, v2, e, -⟩
  · rw [e]; exact Nat.zero_le _
  · rw [e]; exact Nat.le_refl _
theorem ht_rel_prove {L R : ht_L} {k : ht_K} (hp : L.Perm R) {D D2 : Nat} {sbf enf : Nat → Int64} {ei : Int32} (h : ht_pv L k D sbf enf ei) {n : Nat → Int32} {Lf : ht_LF} (h1 : n 3 = nI D2) (h2 : D2 ≤ 256) (h3 : ∀ j, j < D2 → 2 ≤ (ht_Uk R k j).length) (h4 : ∀ j i, j < D2 → i < 4 → Lf 8 (4 * j + i) = ht_kf (ht_h ht_dgf (255 - j) (ht_Vk R k j)) i) (h5 : ht_ens R k D2 (Lf 9) (n 4)) : D = D2 ∧ ht_PP sbf enf ei n Lf := by
  obtain ⟨g1, g2, g3, g4⟩ := h
  have hl : ∀ d, (ht_Uk L k d).length = (ht_Uk R k d).length := fun d => (ht_Uk_perm hp k d).length_eq
  have e : D = D2 := by
    rcases Nat.lt_trichotomy D D2 with z | z | z
    · have := h3 D z
      have := ht_ens_le g4
      have := hl D
      omega
    · exact z
    · have := g2 D2 z
      have := ht_ens_le h5
      have := hl D2
      omega
  subst e
  refine ⟨rfl, ?_⟩
  have hu := ht_Uk_perm hp k D
  have hen : n 4 = ei ∧ ∀ i, i < 8 → enf i = Lf 9 i := by
    rcases g4 with ⟨u1, u2, u3⟩ | ⟨ka, va, u1, u2, u3⟩ <;> rcases h5 with ⟨q1, q2, q3⟩ | ⟨kb, vb, q1, q2, q3⟩
    · exact ⟨by rw [u2, q2], fun i hi => by rw [u3 i hi, q3 i hi]⟩
    · have := hl D
      rw [u1, q1] at this
      cases this
    · have := hl D
      rw [u1, q1] at this
      cases this
    · rw [u1, q1] at hu
      have e9 := List.perm_singleton.mp hu
      have e8 : (ka, va) = (kb, vb) := List.head_eq_of_cons_eq e9
      injection e8 with ek ev
      subst ek; subst ev
      refine ⟨?_, fun i hi => ?_⟩
      · rcases u2 with ⟨y1, y2⟩ | ⟨y1, y2⟩ <;> rcases q2 with ⟨y3, y4⟩ | ⟨y3, y4⟩
        · rw [y2, y4]
        · exact absurd y1 y3
        · exact absurd y3 y1
        · rw [y2, y4]
      · by_cases e4 : i < 4
        · rw [(u3 i e4).1, (q3 i e4).1]
        · rw [show i = 4 + (i - 4) by omega, (u3 (i - 4) (by omega)).2, (q3 (i - 4) (by omega)).2]
  refine ⟨hen.1, D, h2, h1, fun j i hj hi => ?_, hen.2⟩
  rw [g3 j i hj hi]
  by_cases e4 : j < D
  · rw [if_pos e4, if_pos e4, h4 j i e4 hi, ht_h_perm _ _ (ht_Vk_perm hp k j)]
  · rw [if_neg e4, if_neg e4]
theorem ht_PP.pq {sbf enf : Nat → Int64} {ei : Int32} {n n2 : Nat → Int32} {Lf Lf2 : ht_LF} (h : ht_PP sbf enf ei n Lf) (hq : ht_pq n n2 Lf Lf2) : ht_PP sbf enf ei n2 Lf2 := by
  obtain ⟨a, D, b1, b2, b3, b4⟩ := h
  obtain ⟨c1, c2, c3, c4⟩ := hq
  exact ⟨c2.trans a, D, b1, c1.trans b2, fun j i hj hi => by rw [c3]; exact b3 j i hj hi, fun i hi => by rw [c4]; exact b4 i hi⟩
theorem ht_rel_set {L L2 R R2 : ht_L} {k v : ht_K} (hp : L.Perm R) {r r2 : Int32} (h : (r = 0 ∧ (∃ v0, (k, v0) ∈ L) ∧ L2 = ht_sv L k v) ∨ (r = 1 ∧ (∀ q ∈ L, q.1 ≠ k) ∧ L2 = (k, v) :: L)) (h2 : (r2 = 0 ∧ (∃ v0, (k, v0) ∈ R) ∧ R2 = ht_sv R k v) ∨ (r2 = 1 ∧ (∀ q ∈ R, q.1 ≠ k) ∧ R2.Perm ((k, v) :: R))) : r = r2 ∧ L2.Perm R2 ∧ L2.length ≤ L.length + 1 := by
  rcases h with ⟨e, ⟨v1, hv⟩, f⟩ | ⟨e, hv, f⟩ <;> rcases h2 with ⟨e2, ⟨v2, hv2⟩, f2⟩ | ⟨e2, hv2, f2⟩
  · refine ⟨by rw [e, e2], ?_, ?_⟩
    · rw [f, f2]
      exact hp.map _
    · rw [f, ht_sv_len]
      exact Nat.le_succ _
  · exact absurd rfl (hv2 _ (hp.mem_iff.mp hv))
  · exact absurd rfl (hv _ (hp.mem_iff.mpr hv2))
  · refine ⟨by rw [e, e2], ?_, ?_⟩
    · rw [f]
      exact (hp.cons _).trans f2.symm
    · rw [f]
      exact Nat.le_refl _
theorem ht_rel_remove {L L2 R R2 : ht_L} {k : ht_K} (hs : ht_srt R) (hp : L.Perm R) {r r2 : Int32} (h : (r = -2 ∧ (∀ q ∈ L, q.1 ≠ k) ∧ L2 = L) ∨ (r = 1 ∧ ∃ v0, (k, v0) ∈ L ∧ L2 = L.erase (k, v0))) (h2 : (r2 = -2 ∧ (∀ q ∈ R, q.1 ≠ k) ∧ R2 = R) ∨ (r2 = 1 ∧ ∃ v0, (k, v0) ∈ R ∧ R2.Perm (R.erase (k, v0)))) : r = r2 ∧ L2.Perm R2 ∧ L2.length ≤ L.length := by
  rcases h with ⟨e, hv, f⟩ | ⟨e, v1, hv, f⟩ <;> rcases h2 with ⟨e2, hv2, f2⟩ | ⟨e2, v2, hv2, f2⟩
  · refine ⟨by rw [e, e2], ?_, ?_⟩
    · rw [f, f2]
      exact hp
    · rw [f]
      exact Nat.le_refl _
  · exact absurd rfl (hv _ (hp.mem_iff.mpr hv2))
  · exact absurd rfl (hv2 _ (hp.mem_iff.mp hv))
  · have e3 := hs.uq (hp.mem_iff.mp hv) hv2 rfl
    refine ⟨by rw [e, e2], ?_, ?_⟩
    · rw [f, e3]
      exact (hp.erase _).trans f2.symm
    · rw [f]
      exact List.length_erase_le
theorem ht_lgc (x : Int64) : lg_cmp x x = 0 := by
  unfold lg_cmp
  rw [if_neg (Int64.lt_irrefl)]
  first | rfl | (rw [if_pos rfl]) | (rw [if_neg (Int64.lt_irrefl)])
