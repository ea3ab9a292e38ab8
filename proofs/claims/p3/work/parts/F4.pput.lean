theorem leastN {p : Nat → Prop} {M : Nat} (h : ∃ q, q < M ∧ p q) : ∃ q, q < M ∧ p q ∧ ∀ j, j < q → ¬ p j := by
  have key : ∀ k, (∃ q, q < k ∧ q < M ∧ p q) → ∃ q, q < M ∧ p q ∧ ∀ j, j < q → ¬ p j := by
    intro k
    induction k with
    | zero => rintro ⟨q, h1, -⟩; omega
    | succ k ih =>
      rintro ⟨q, h1, h2, h3⟩
      by_cases hk : ∃ q, q < k ∧ q < M ∧ p q
      · exact ih hk
      · exact ⟨q, h2, h3, fun j hj hc => hk ⟨j, by omega, by omega, hc⟩⟩
  obtain ⟨q0, h1, h2⟩ := h
  exact key (q0 + 1) ⟨q0, by omega, h1, h2⟩
/-- the first printing is of the least day on which the item was on a plate -/
def foI (u : mS) : Prop := ∀ i, i < 80 → (u.2 47 (5 * i) = (-1) ∧ ∀ d, d < 400 → u.2 48 (80 * d + i) = 0) ∨ ∃ d0, d0 ≤ (u.1 38).toNatClampNeg ∧ u.2 47 (5 * i) = nI d0 ∧ ¬ u.2 48 (80 * d0 + i) = 0 ∧ ∀ d, d < d0 → u.2 48 (80 * d + i) = 0
theorem mWas_i {u : mS} {i : Nat} (hi : i < 80) : ∀ n, n ≤ 400 → (mWas u (nI i) n = true ↔ ∃ d, d < n ∧ ¬ u.2 48 (80 * d + i) = 0)
  | 0, _ => ⟨fun h => absurd (show false = true from h) (by decide), fun ⟨d, h, _⟩ => absurd h (Nat.not_lt_zero _)⟩
  | n + 1, h => by
    have ih := mWas_i (u := u) hi n (by omega)
    unfold mWas
    rw [Bool.or_eq_true, ih, i80 (by omega) hi]
    constructor
    · rintro (⟨d, d1, d2⟩ | h2)
      · exact ⟨d, by omega, d2⟩
      · refine ⟨n, Nat.lt_succ_self _, fun q => ?_⟩
        rw [decide_eq_true q] at h2
        exact absurd h2 (by decide)
    · rintro ⟨d, d1, d2⟩
      by_cases e : d = n
      · rw [e] at d2
        exact Or.inr (by rw [decide_eq_false d2]; rfl)
      · exact Or.inl ⟨d, by omega, d2⟩
theorem day_n {u : mS} (h : rI u) : ∃ D : Nat, D ≤ 399 ∧ u.1 38 = nI D ∧ (u.1 38).toNatClampNeg = D := by
  obtain ⟨D, hD, -, eD⟩ := exN h.2.1 (by decide)
  have h9 : (399 : Int32).toInt = 399 := rfl
  exact ⟨D, by omega, eD, by rw [eD, nI_clamp (by omega)]⟩
theorem bw_day {d D : Nat} (hd : d < 1000) (hD : D ≤ 399) : bw (nI d) 0 (nI D - 1) = true ↔ d < D := by
  rw [bw_iff, i0, nI_toInt (by omega), subI (by rw [i1, nI_toInt (by omega)]; omega) (by rw [i1, nI_toInt (by omega)]; omega), nI_toInt (by omega), i1]
  omega
theorem bw_m1 {x : Int32} : ¬ bw (-1) 0 x = true := fun h => by
  have q := (bw_iff.mp h).1
  exact absurd q (by decide)
/-- printed ahead: by the days, and by the first printing -/
theorem was_bw {u : mS} {i : Nat} (r : rI u) (hf : foI u) (hi : i < 80) : mWas u (nI i) (u.1 38).toNatClampNeg = true ↔ bw (u.2 47 (5 * i)) 0 (u.1 38 - 1) = true := by
  obtain ⟨D, hD, eD, eN⟩ := day_n r
  rw [eN, mWas_i hi D (by omega), eD]
  rcases hf i hi with ⟨h1, h2⟩ | ⟨d0, h1, h2, h3, h4⟩
  · rw [h1]
    exact ⟨fun ⟨d, d1, d2⟩ => absurd (h2 d (by omega)) d2, fun q => absurd q bw_m1⟩
  · rw [h2, bw_day (by omega) hD]
    refine ⟨fun ⟨d, d1, d2⟩ => ?_, fun q => ⟨d0, q, h3⟩⟩
    exact Nat.lt_of_not_le (fun q => d2 (h4 d (by omega)))
theorem mPr_f {u : mS} {i w : Nat} (r : rI u) (hi : i < (u.1 3).toNatClampNeg) (hw : w < 5) (h : ¬ u.2 47 (5 * i) < 0) : mPr u (nI i) (nI w) = u.2 47 (5 * i + w) := by
  have hn := n80 r
  refine (mPr_eq ?_).symm
  unfold mPrR
  rw [if_pos (itI r hi), if_pos (bwN (by have h4 : (4 : Int32).toInt = 4 := rfl; rw [h4]; omega) (by omega)), i50 (by omega), if_neg h, i5 (by omega) hw]
theorem mPr_n {u : mS} {i : Nat} (r : rI u) (hi : i < (u.1 3).toNatClampNeg) (h : u.2 47 (5 * i) < 0) : mPr u (nI i) 0 = u.1 38 ∨ mPr u (nI i) 0 = (-1) := by
  have hn := n80 r
  by_cases q : ∃ p, p < 12 ∧ prC u (nI i) p = true
  · obtain ⟨p, p1, p2, p3⟩ := leastN q
    refine Or.inl (mPr_eq ?_).symm
    unfold mPrR
    rw [if_pos (itI r hi), if_pos (by decide), i50 (by omega), if_pos h]
    exact Or.inl ⟨p, p1, p2, fun j hj => by have z := p3 j hj; exact Bool.eq_false_iff.mpr z, by unfold mPrV; rw [if_pos rfl]⟩
  · refine Or.inr (mPr_eq ?_).symm
    unfold mPrR
    rw [if_pos (itI r hi), if_pos (by decide), i50 (by omega), if_pos h]
    exact Or.inr ⟨fun j hj => Bool.eq_false_iff.mpr (fun z => q ⟨j, hj, z⟩), rfl⟩
theorem le_rf (x : Int32) : x ≤ x := by rw [i32_le]; omega
/-- a notice: the class lets it sit where the reference lets it mend -/
theorem sit_mend {u : mS} {i o : Nat} {p1 p2 : Int32} {g gm : Nat → Int32} (r : rI u) (hf : foI u) (hi : i < 80) (ho : o < (u.1 3).toNatClampNeg) (e9 : u.2 9 i = nI o) (hg : eqR 5 g (u.2 47) (5 * i)) (hm : eqR 5 gm (u.2 47) (5 * o)) : ¬ s_sitN p1 p2 (u.1 38) g gm = 0 ↔ ¬ mMend u (nI i) p1 p2 = 0 := by
  have hn := n80 r
  have g0 : g (0 : Int32).toNatClampNeg = u.2 47 (5 * i) := hg 0 (by decide)
  have m0 : gm (0 : Int32).toNatClampNeg = u.2 47 (5 * o) := hm 0 (by decide)
  have m2 : gm (2 : Int32).toNatClampNeg = u.2 47 (5 * o + 2) := hm 2 (by decide)
  have m3 : gm (3 : Int32).toNatClampNeg = u.2 47 (5 * o + 3) := hm 3 (by decide)
  have hw := was_bw r hf hi
  unfold s_sitN mMend
  rw [g0, m0, m2, m3, nI_clamp (n := i) (by omega), e9]
  rcases hf o (by omega) with ⟨h1, h2⟩ | ⟨d0, h1, h2, h3, h4⟩
  · have hneg : u.2 47 (5 * o) < 0 := by rw [h1]; decide
    have z1 : (if bw (u.2 47 (5 * i)) 0 (u.1 38 - 1) = true then (0 : Int32) else (if bw (u.2 47 (5 * o)) 0 (u.1 38 - 1) = true then (if p1 = u.2 47 (5 * o + 2) then (if p2 < u.2 47 (5 * o + 3) then 0 else 1) else (if p1 ≤ u.2 47 (5 * o + 2) then 0 else 1)) else 0)) = 0 := by
      rw [h1]
      by_cases q : bw (u.2 47 (5 * i)) 0 (u.1 38 - 1) = true
      · rw [if_pos q]
      · rw [if_neg q, if_neg bw_m1]
    rw [z1]
    rcases mPr_n r ho hneg with q | q
    · rw [q]
      by_cases z : u.1 38 < 0
      · rw [if_pos z]
      · rw [if_neg z, if_pos (le_rf _)]
    · rw [q, if_pos (by decide)]
  · obtain ⟨D, hD, eD, eN⟩ := day_n r
    have hnn : ¬ u.2 47 (5 * o) < 0 := by rw [h2]; exact nIpos (by omega)
    have q0 : mPr u (nI o) 0 = nI d0 := by have z := mPr_f r ho (w := 0) (by decide) hnn; rw [← h2]; exact z
    have q2 : mPr u (nI o) 2 = u.2 47 (5 * o + 2) := mPr_f r ho (w := 2) (by decide) hnn
    have q3 : mPr u (nI o) 3 = u.2 47 (5 * o + 3) := mPr_f r ho (w := 3) (by decide) hnn
    rw [q0, q2, q3, h2, if_neg (nIpos (by omega))]
    by_cases a : d0 < D
    · have b1 : bw (nI d0) 0 (u.1 38 - 1) = true := by rw [eD]; exact (bw_day (by omega) hD).mpr a
      have b2 : ¬ u.1 38 ≤ nI d0 := by rw [eD, nle (by omega) (by omega)]; omega
      rw [if_pos b1, if_neg b2]
      by_cases c : bw (u.2 47 (5 * i)) 0 (u.1 38 - 1) = true
      · rw [if_pos c, if_pos (hw.mpr c)]
      · rw [if_neg c, if_neg (fun z => c (hw.mp z))]
        by_cases e : p1 = u.2 47 (5 * o + 2)
        · have hlt : ¬ u.2 47 (5 * o + 2) < p1 := by rw [e, i32_lt]; omega
          rw [if_pos e, if_neg hlt, if_pos e]
        · rw [if_neg e, if_neg e]
          by_cases l : p1 ≤ u.2 47 (5 * o + 2)
          · rw [if_pos l, if_neg (fun z => nlt_le.mpr l z)]
          · rw [if_neg l, if_pos (Classical.byContradiction (fun z => l (nlt_le.mp z)))]
    · have b1 : ¬ bw (nI d0) 0 (u.1 38 - 1) = true := by rw [eD, bw_day (by omega) hD]; exact a
      have b2 : u.1 38 ≤ nI d0 := by rw [eD, nle (by omega) (by omega)]; omega
      rw [if_neg b1, if_pos b2, ite_self]
/-- what the item itself asks -/
def sitP (u : mS) (i : Nat) (p1 p2 p3 H : Int32) : Prop := (u.2 4 i = 0 → runX u (nI i) p1.toNatClampNeg p2.toNatClampNeg p3.toNatClampNeg H.toNatClampNeg) ∧ (u.2 4 i = 3 → p1 = u.2 11 i ∧ p2 = u.2 12 i ∧ p3 = u.2 13 i) ∧ (u.2 4 i = 5 → ¬ mMend u (nI i) p1 p2 = 0)
def okU (u : mS) (i : Nat) (p1 p2 p3 p4 : Int32) : Prop := ¬ u.1 28 = 300 ∧ rmP u i ∧ mFreeP u p1 p2 p3 (cpW u i p4) (cpH u i p4) ∧ sitP u i p1 p2 p3 (cpH u i p4)
theorem cpW_0 {u : mS} {i : Nat} {p : Int32} (h : u.2 4 i = 0 ∨ u.2 4 i = 4 ∨ u.2 4 i = 5) : cpW u i p = 1 := by
  unfold cpW
  rcases h with h | h | h <;> rw [h, if_neg (by decide), if_neg (by decide)]
theorem cpW_1 {u : mS} {i : Nat} {p : Int32} (h : u.2 4 i = 1 ∨ u.2 4 i = 3) : cpW u i p = if p = 0 then u.2 7 i else 0 := by
  unfold cpW
  rw [if_pos h]
theorem cpW_2 {u : mS} {i : Nat} {p : Int32} (h : u.2 4 i = 2) : cpW u i p = if bw p 0 (u.2 17 i - 1) = true then u.2 18 (4 * i + p.toNatClampNeg) else 0 := by
  unfold cpW
  rw [h, if_neg (by decide), if_pos rfl]
theorem cpH_0 {u : mS} {i : Nat} {p : Int32} (h : u.2 4 i = 0) : cpH u i p = if bw p 1 60 = true then p else 0 := by
  unfold cpH
  rw [h, if_pos rfl]
theorem cpH_1 {u : mS} {i : Nat} {p : Int32} (h : u.2 4 i = 1 ∨ u.2 4 i = 3 ∨ u.2 4 i = 5) : cpH u i p = if p = 0 then u.2 8 i else 0 := by
  unfold cpH
  rcases h with h | h | h <;> rw [h, if_neg (by decide), if_neg (by decide), if_neg (by decide)]
theorem cpH_2 {u : mS} {i : Nat} {p : Int32} (h : u.2 4 i = 2) : cpH u i p = if bw p 0 (u.2 17 i - 1) = true then u.2 19 (4 * i + p.toNatClampNeg) else 0 := by
  unfold cpH
  rw [h, if_neg (by decide), if_pos rfl]
theorem cpH_4 {u : mS} {i : Nat} {p : Int32} (h : u.2 4 i = 4) : cpH u i p = if bw p (u.2 5 i) (u.2 6 i) = true then p else 0 := by
  unfold cpH
  rw [h, if_neg (by decide), if_neg (by decide), if_pos rfl]
theorem free_h0 {u : mS} {p c l w : Int32} : ¬ mFreeP u p c l w 0 := fun h => absurd h.2.2.1 (by decide)
theorem bw_1 {x lo hi : Int32} (h : bw x lo hi = true) (hl : 1 ≤ lo.toInt) : ¬ x < 1 := by
  have q := (bw_iff.mp h).1
  rw [i32_lt, i1]; omega
theorem rm_0 {u : mS} {i : Nat} (h : u.2 4 i = 0) (hc : bw (u.2 22 i) 0 6 = true) : rmP u i ↔ ¬ u.2 22 i = 6 := by
  unfold rmP
  rw [if_pos h]
  obtain ⟨a, b, c⟩ := nI_of_bw hc
  have h6 : (6 : Int32).toInt = 6 := rfl
  constructor
  · intro q e
    rw [e] at q
    exact absurd q (by decide)
  · intro q
    have q2 : ¬ (u.2 22 i).toInt = 6 := fun e => q (Int32.toInt_inj.mp (by rw [h6]; exact e))
    omega
theorem rm_1 {u : mS} {i : Nat} (h : ¬ u.2 4 i = 0) (hc : bw (u.2 22 i) 0 6 = true) : rmP u i ↔ u.2 22 i = 0 := by
  unfold rmP
  rw [if_neg h]
  obtain ⟨a, b, c⟩ := nI_of_bw hc
  constructor
  · intro q
    rw [a, show (u.2 22 i).toNatClampNeg = 0 by omega]; rfl
  · intro q
    rw [q]; decide
theorem ok0 {u : mS} {i : Nat} {p1 p2 p3 p4 : Int32} (r : rI u) (hi : i < (u.1 3).toNatClampNeg) (hc : bw (u.2 22 i) 0 6 = true) (hk : u.2 4 i = 0) : okP0 u (nI i) p1 p2 p3 p4 ↔ okU u i p1 p2 p3 p4 := by
  have hn := n80 r
  unfold okP0 okU sitP
  rw [cpW_0 (Or.inl hk), cpH_0 hk, rm_0 hk hc]
  constructor
  · rintro ⟨-, h1, -, h2, -, h3, h4⟩
    have h5 := h3.2.2.1
    rw [if_pos h5]
    refine ⟨h1, ?_, h3, fun _ => h4, fun q => absurd (hk.symm.trans q) (by decide), fun q => absurd (hk.symm.trans q) (by decide)⟩
    have z := h4.1
    rw [nI_clamp (by omega)] at z
    exact z
  · rintro ⟨h1, h2, h3, h4, -, -⟩
    by_cases h5 : bw p4 1 60 = true
    · rw [if_pos h5] at h3 h4
      exact ⟨itI r hi, h1, trivial, bw_1 h5 (by decide), trivial, h3, h4 hk⟩
    · rw [if_neg h5] at h3; exact absurd h3 free_h0
theorem ok1 {u : mS} {i : Nat} {p1 p2 p3 p4 : Int32} (r : rI u) (hi : i < (u.1 3).toNatClampNeg) (hc : bw (u.2 22 i) 0 6 = true) (hk : u.2 4 i = 1) : okP1 u (nI i) p1 p2 p3 p4 ↔ okU u i p1 p2 p3 p4 := by
  have hn := n80 r
  unfold okP1 okU sitP
  rw [cpW_1 (Or.inl hk), cpH_1 (Or.inl hk), rm_1 (by rw [hk]; decide) hc, nI_clamp (n := i) (by omega)]
  constructor
  · rintro ⟨-, h1, h0, h2, h6, h3, -⟩
    rw [if_pos h0, if_pos h0]
    exact ⟨h1, h6, h3, fun q => absurd (hk.symm.trans q) (by decide), fun q => absurd (hk.symm.trans q) (by decide), fun q => absurd (hk.symm.trans q) (by decide)⟩
  · rintro ⟨h1, h2, h3, -⟩
    by_cases h5 : p4 = 0
    · rw [if_pos h5, if_pos h5] at h3
      exact ⟨itI r hi, h1, h5, bw_1 h3.2.2.1 (by decide), h2, h3, trivial⟩
    · rw [if_neg h5, if_neg h5] at h3; exact absurd h3 free_h0
theorem ok3 {u : mS} {i : Nat} {p1 p2 p3 p4 : Int32} (r : rI u) (hi : i < (u.1 3).toNatClampNeg) (hc : bw (u.2 22 i) 0 6 = true) (hk : u.2 4 i = 3) : okP3 u (nI i) p1 p2 p3 p4 ↔ okU u i p1 p2 p3 p4 := by
  have hn := n80 r
  unfold okP3 okU sitP
  rw [cpW_1 (Or.inr hk), cpH_1 (Or.inr (Or.inl hk)), rm_1 (by rw [hk]; decide) hc, nI_clamp (n := i) (by omega)]
  constructor
  · rintro ⟨-, h1, h0, h2, h6, h3, h7⟩
    rw [if_pos h0, if_pos h0]
    exact ⟨h1, h6, h3, fun q => absurd (hk.symm.trans q) (by decide), fun q => h7, fun q => absurd (hk.symm.trans q) (by decide)⟩
  · rintro ⟨h1, h2, h3, -, h7, -⟩
    by_cases h5 : p4 = 0
    · rw [if_pos h5, if_pos h5] at h3
      exact ⟨itI r hi, h1, h5, bw_1 h3.2.2.1 (by decide), h2, h3, h7 hk⟩
    · rw [if_neg h5, if_neg h5] at h3; exact absurd h3 free_h0
theorem ok5 {u : mS} {i : Nat} {p1 p2 p3 p4 : Int32} (r : rI u) (hi : i < (u.1 3).toNatClampNeg) (hc : bw (u.2 22 i) 0 6 = true) (hk : u.2 4 i = 5) : okP5 u (nI i) p1 p2 p3 p4 ↔ okU u i p1 p2 p3 p4 := by
  have hn := n80 r
  unfold okP5 okU sitP
  rw [cpW_0 (Or.inr (Or.inr hk)), cpH_1 (Or.inr (Or.inr hk)), rm_1 (by rw [hk]; decide) hc, nI_clamp (n := i) (by omega)]
  constructor
  · rintro ⟨-, h1, h0, h2, h6, h3, h7⟩
    rw [if_pos h0]
    exact ⟨h1, h6, h3, fun q => absurd (hk.symm.trans q) (by decide), fun q => absurd (hk.symm.trans q) (by decide), fun q => h7⟩
  · rintro ⟨h1, h2, h3, -, -, h7⟩
    by_cases h5 : p4 = 0
    · rw [if_pos h5] at h3
      exact ⟨itI r hi, h1, h5, bw_1 h3.2.2.1 (by decide), h2, h3, h7 hk⟩
    · rw [if_neg h5] at h3; exact absurd h3 free_h0
theorem ok4 {u : mS} {i : Nat} {p1 p2 p3 p4 : Int32} (r : rI u) (hi : i < (u.1 3).toNatClampNeg) (hc : bw (u.2 22 i) 0 6 = true) (hk : u.2 4 i = 4) : okP4 u (nI i) p1 p2 p3 p4 ↔ okU u i p1 p2 p3 p4 := by
  have hn := n80 r
  unfold okP4 okU sitP
  rw [cpW_0 (Or.inr (Or.inl hk)), cpH_4 hk, rm_1 (by rw [hk]; decide) hc, nI_clamp (n := i) (by omega)]
  constructor
  · rintro ⟨-, h1, -, h2, h6, h3, h7⟩
    rw [if_pos h7]
    exact ⟨h1, h6, h3, fun q => absurd (hk.symm.trans q) (by decide), fun q => absurd (hk.symm.trans q) (by decide), fun q => absurd (hk.symm.trans q) (by decide)⟩
  · rintro ⟨h1, h2, h3, -⟩
    by_cases h5 : bw p4 (u.2 5 i) (u.2 6 i) = true
    · rw [if_pos h5] at h3
      exact ⟨itI r hi, h1, trivial, bw_1 h3.2.2.1 (by decide), h2, h3, h5⟩
    · rw [if_neg h5] at h3; exact absurd h3 free_h0
theorem i4k {u : mS} {i : Nat} {p : Int32} (r : rI u) (hi : i < 80) (h : bw p 0 (u.2 17 i - 1) = true) : (4 * nI i + p).toNatClampNeg = 4 * i + p.toNatClampNeg := by
  obtain ⟨s1, s2, s3⟩ := nI_of_bw (r.2.2.2.2.2.1 i hi)
  have h4 : (4 : Int32).toInt = 4 := rfl
  have q := bw_iff.mp h
  rw [i0, subI (by rw [i1]; omega) (by rw [i1]; omega), i1] at q
  obtain ⟨t, ht⟩ : ∃ t : Nat, p.toInt = (t : Int) := ⟨p.toInt.toNat, by omega⟩
  have e : p = nI t := Int32.toInt_inj.mp (by rw [nI_toInt (by omega)]; exact ht)
  rw [e, show (4 : Int32) = nI 4 from rfl, pk_mul, nI_add, nI_clamp (by omega), nI_clamp (by omega)]
theorem ok2 {u : mS} {i : Nat} {p1 p2 p3 p4 : Int32} (r : rI u) (hi : i < (u.1 3).toNatClampNeg) (hc : bw (u.2 22 i) 0 6 = true) (hk : u.2 4 i = 2) : okP2 u (nI i) p1 p2 p3 p4 ↔ okU u i p1 p2 p3 p4 := by
  have hn := n80 r
  unfold okP2 okU sitP
  rw [cpW_2 hk, cpH_2 hk, rm_1 (by rw [hk]; decide) hc, nI_clamp (n := i) (by omega)]
  constructor
  · rintro ⟨-, h1, h0, h2, h6, h3, -⟩
    rw [i4k r (by omega) h0] at h3
    rw [if_pos h0, if_pos h0]
    exact ⟨h1, h6, h3, fun q => absurd (hk.symm.trans q) (by decide), fun q => absurd (hk.symm.trans q) (by decide), fun q => absurd (hk.symm.trans q) (by decide)⟩
  · rintro ⟨h1, h2, h3, -⟩
    by_cases h5 : bw p4 0 (u.2 17 i - 1) = true
    · rw [if_pos h5, if_pos h5] at h3
      rw [i4k r (by omega) h5]
      exact ⟨itI r hi, h1, h5, bw_1 h3.2.2.1 (by decide), h2, h3, trivial⟩
    · rw [if_neg h5, if_neg h5] at h3; exact absurd h3 free_h0
