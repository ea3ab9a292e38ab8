/-- the place of a cell in a rectangle -/
theorem inR_xy {r : fR} {P x y : Nat} (hr : rOK r) (hx : x < 8) (hy : y < 60) : inR r (480 * P + 60 * x + y) ↔ r.1 = P ∧ r.2.1 ≤ x ∧ x < r.2.1 + r.2.2.2.1 ∧ r.2.2.1 ≤ y ∧ y < r.2.2.1 + r.2.2.2.2 := by
  obtain ⟨h1, h2, h3, h4, h5⟩ := hr
  constructor
  · rintro ⟨a, b, ha, hb, e⟩
    omega
  · rintro ⟨q1, q2, q3, q4, q5⟩
    exact ⟨x - r.2.1, y - r.2.2.1, by omega, by omega, by omega⟩
def besN (r s : fR) : Prop := (r.2.1 + r.2.2.2.1 = s.2.1 ∨ s.2.1 + s.2.2.2.1 = r.2.1) ∧ r.1 = s.1 ∧ r.2.2.1 < s.2.2.1 + s.2.2.2.2 ∧ s.2.2.1 < r.2.2.1 + r.2.2.2.2
def ovrN (r s : fR) : Prop := (r.2.2.1 + r.2.2.2.2 = s.2.2.1 ∨ s.2.2.1 + s.2.2.2.2 = r.2.2.1) ∧ r.1 = s.1 ∧ r.2.1 < s.2.1 + s.2.2.2.1 ∧ s.2.1 < r.2.1 + r.2.2.2.1
/-- two items beside one another, over one another, on page P -/
def hAd (c : cfg) (P a b : Nat) : Prop := ∃ r s, r ∈ c a ∧ s ∈ c b ∧ r.1 = P ∧ besN r s
def vAd (c : cfg) (P a b : Nat) : Prop := ∃ r s, r ∈ c a ∧ s ∈ c b ∧ r.1 = P ∧ ovrN r s
theorem hAd_s {c : cfg} {P a b : Nat} (h : hAd c P a b) : hAd c P b a := by
  obtain ⟨r, s, h1, h2, h3, h4⟩ := h
  exact ⟨s, r, h2, h1, h4.2.1.symm.trans h3, h4.1.symm, h4.2.1.symm, h4.2.2.2, h4.2.2.1⟩
theorem vAd_s {c : cfg} {P a b : Nat} (h : vAd c P a b) : vAd c P b a := by
  obtain ⟨r, s, h1, h2, h3, h4⟩ := h
  exact ⟨s, r, h2, h1, h4.2.1.symm.trans h3, h4.1.symm, h4.2.1.symm, h4.2.2.2, h4.2.2.1⟩
/-- there is such a cell -/
def cel (u : mS) (P x y : Nat) : Prop := x < 8 ∧ y < (u.2 0 (8 * P + x)).toNatClampNeg
theorem ln60 {u : mS} (h : rI u) {j : Nat} (hj : j < 96) : (u.2 0 j).toNatClampNeg ≤ 60 := by
  obtain ⟨e1, e2, e3⟩ := nI_of_bw (h.2.2.1 j hj)
  have h60 : (60 : Int32).toInt = 60 := rfl
  omega
def vC (u : mS) (P a b : Nat) : Prop := ∃ x y, cel u P x y ∧ cel u P x (y + 1) ∧ u.2 2 (480 * P + 60 * x + y) = nI a ∧ u.2 2 (480 * P + 60 * x + (y + 1)) = nI b
def hC (u : mS) (P a b : Nat) : Prop := ∃ x y, cel u P x y ∧ cel u P (x + 1) y ∧ u.2 2 (480 * P + 60 * x + y) = nI a ∧ u.2 2 (480 * P + 60 * (x + 1) + y) = nI b
/-- what the geometry needs of the pieces -/
def gOK (u : mS) (c : cfg) : Prop := rI u ∧ agr c (u.2 2) ∧ (∀ a r, r ∈ c a → rOK r ∧ rLn u r) ∧ cM u c ∧ (∀ a, (u.1 3).toNatClampNeg ≤ a → c a = []) ∧ ∀ a, (c a).length ≤ 6
theorem rLn_at {u : mS} {r : fR} {P x : Nat} (h : rLn u r) (hP : r.1 = P) (h1 : r.2.1 ≤ x) (h2 : x < r.2.1 + r.2.2.2.1) : r.2.2.1 + r.2.2.2.2 ≤ (u.2 0 (8 * P + x)).toNatClampNeg := by
  have q := h (x - r.2.1) (by omega)
  rw [hP, show r.2.1 + (x - r.2.1) = x by omega] at q
  exact q
theorem vC_ad {u : mS} {c : cfg} {P a b : Nat} (g : gOK u c) (hP : P < 12) (ha : a < 80) (hb : b < 80) (hab : a ≠ b) (h : vC u P a b) : vAd c P a b := by
  obtain ⟨x, y, h1, h2, h3, h4⟩ := h
  have l6 := ln60 g.1 (j := 8 * P + x) (by have := h1.1; omega)
  have hx := h1.1
  have hy := h2.2
  obtain ⟨r, r1, r2⟩ := (g.2.1.1 (480 * P + 60 * x + y) (by omega) a ha).mp h3
  obtain ⟨s, s1, s2⟩ := (g.2.1.1 (480 * P + 60 * x + (y + 1)) (by omega) b hb).mp h4
  have nr : ¬ inR r (480 * P + 60 * x + (y + 1)) := fun q => hab ((nI_inj (by omega) (by omega)).mp (((g.2.1.1 _ (by omega) a ha).mpr ⟨r, r1, q⟩).symm.trans h4))
  have ns : ¬ inR s (480 * P + 60 * x + y) := fun q => hab ((nI_inj (by omega) (by omega)).mp (h3.symm.trans ((g.2.1.1 _ (by omega) b hb).mpr ⟨s, s1, q⟩)))
  have kr := (g.2.2.1 a r r1).1
  have ks := (g.2.2.1 b s s1).1
  rw [inR_xy kr hx (by omega)] at r2 nr
  rw [inR_xy ks hx (by omega)] at s2 ns
  exact ⟨r, s, r1, s1, r2.1, by unfold ovrN; omega⟩
theorem hC_ad {u : mS} {c : cfg} {P a b : Nat} (g : gOK u c) (hP : P < 12) (ha : a < 80) (hb : b < 80) (hab : a ≠ b) (h : hC u P a b) : hAd c P a b := by
  obtain ⟨x, y, h1, h2, h3, h4⟩ := h
  have l6 := ln60 g.1 (j := 8 * P + x) (by have := h1.1; omega)
  have hx := h2.1
  have hy := h1.2
  obtain ⟨r, r1, r2⟩ := (g.2.1.1 (480 * P + 60 * x + y) (by omega) a ha).mp h3
  obtain ⟨s, s1, s2⟩ := (g.2.1.1 (480 * P + 60 * (x + 1) + y) (by omega) b hb).mp h4
  have nr : ¬ inR r (480 * P + 60 * (x + 1) + y) := fun q => hab ((nI_inj (by omega) (by omega)).mp (((g.2.1.1 _ (by omega) a ha).mpr ⟨r, r1, q⟩).symm.trans h4))
  have ns : ¬ inR s (480 * P + 60 * x + y) := fun q => hab ((nI_inj (by omega) (by omega)).mp (h3.symm.trans ((g.2.1.1 _ (by omega) b hb).mpr ⟨s, s1, q⟩)))
  have kr := (g.2.2.1 a r r1).1
  have ks := (g.2.2.1 b s s1).1
  rw [inR_xy kr (by omega) (by omega)] at r2
  rw [inR_xy kr hx (by omega)] at nr
  rw [inR_xy ks hx (by omega)] at s2
  rw [inR_xy ks (by omega) (by omega)] at ns
  exact ⟨r, s, r1, s1, r2.1, by unfold besN; omega⟩
theorem vAd_C1 {u : mS} {c : cfg} {P a b : Nat} (g : gOK u c) (hP : P < 12) (ha : a < 80) (hb : b < 80) {r s : fR} (r1 : r ∈ c a) (s1 : s ∈ c b) (rP : r.1 = P) (h1 : r.2.2.1 + r.2.2.2.2 = s.2.2.1) (h2 : r.1 = s.1) (h3 : r.2.1 < s.2.1 + s.2.2.2.1) (h4 : s.2.1 < r.2.1 + r.2.2.2.1) : vC u P a b := by
  obtain ⟨kr, lr⟩ := g.2.2.1 a r r1
  obtain ⟨ks, ls⟩ := g.2.2.1 b s s1
  have sP : s.1 = P := h2.symm.trans rP
  obtain ⟨x, x1, x2, x3, x4⟩ : ∃ x, r.2.1 ≤ x ∧ x < r.2.1 + r.2.2.2.1 ∧ s.2.1 ≤ x ∧ x < s.2.1 + s.2.2.2.1 := by
    by_cases q : r.2.1 ≤ s.2.1
    · exact ⟨s.2.1, q, h4, Nat.le_refl _, by have := ks.2.2.2.1; omega⟩
    · exact ⟨r.2.1, Nat.le_refl _, by have := kr.2.2.2.1; omega, by omega, h3⟩
  have q1 := rLn_at lr rP x1 x2
  have q2 := rLn_at ls sP x3 x4
  obtain ⟨k1, k2, k3, k4, k5⟩ := kr
  obtain ⟨m1, m2, m3, m4, m5⟩ := ks
  refine ⟨x, s.2.2.1 - 1, ⟨by omega, by omega⟩, ⟨by omega, by omega⟩, ?_, ?_⟩
  · exact (g.2.1.1 _ (by omega) a ha).mpr ⟨r, r1, (inR_xy ⟨k1, k2, k3, k4, k5⟩ (by omega) (by omega)).mpr ⟨rP, x1, x2, by omega, by omega⟩⟩
  · exact (g.2.1.1 _ (by omega) b hb).mpr ⟨s, s1, (inR_xy ⟨m1, m2, m3, m4, m5⟩ (by omega) (by omega)).mpr ⟨sP, x3, x4, by omega, by omega⟩⟩
theorem hAd_C1 {u : mS} {c : cfg} {P a b : Nat} (g : gOK u c) (hP : P < 12) (ha : a < 80) (hb : b < 80) {r s : fR} (r1 : r ∈ c a) (s1 : s ∈ c b) (rP : r.1 = P) (h1 : r.2.1 + r.2.2.2.1 = s.2.1) (h2 : r.1 = s.1) (h3 : r.2.2.1 < s.2.2.1 + s.2.2.2.2) (h4 : s.2.2.1 < r.2.2.1 + r.2.2.2.2) : hC u P a b := by
  obtain ⟨kr, lr⟩ := g.2.2.1 a r r1
  obtain ⟨ks, ls⟩ := g.2.2.1 b s s1
  have sP : s.1 = P := h2.symm.trans rP
  obtain ⟨y, y1, y2, y3, y4⟩ : ∃ y, r.2.2.1 ≤ y ∧ y < r.2.2.1 + r.2.2.2.2 ∧ s.2.2.1 ≤ y ∧ y < s.2.2.1 + s.2.2.2.2 := by
    by_cases q : r.2.2.1 ≤ s.2.2.1
    · exact ⟨s.2.2.1, q, h4, Nat.le_refl _, by have := ks.2.2.2.2; omega⟩
    · exact ⟨r.2.2.1, Nat.le_refl _, by have := kr.2.2.2.2; omega, by omega, h3⟩
  have kd := kr.2.2.2.1
  have q1 := rLn_at lr rP (x := s.2.1 - 1) (by omega) (by omega)
  have q2 := rLn_at ls sP (x := s.2.1) (Nat.le_refl _) (by have := ks.2.2.2.1; omega)
  obtain ⟨k1, k2, k3, k4, k5⟩ := kr
  obtain ⟨m1, m2, m3, m4, m5⟩ := ks
  have e1 : s.2.1 - 1 + 1 = s.2.1 := by omega
  refine ⟨s.2.1 - 1, y, ⟨by omega, by omega⟩, ⟨by omega, by rw [e1]; omega⟩, ?_, ?_⟩
  · exact (g.2.1.1 _ (by omega) a ha).mpr ⟨r, r1, (inR_xy ⟨k1, k2, k3, k4, k5⟩ (by omega) (by omega)).mpr ⟨rP, by omega, by omega, y1, y2⟩⟩
  · rw [e1]
    exact (g.2.1.1 _ (by omega) b hb).mpr ⟨s, s1, (inR_xy ⟨m1, m2, m3, m4, m5⟩ (by omega) (by omega)).mpr ⟨sP, by omega, by omega, y3, y4⟩⟩
theorem vAd_C {u : mS} {c : cfg} {P a b : Nat} (g : gOK u c) (hP : P < 12) (ha : a < 80) (hb : b < 80) (h : vAd c P a b) : vC u P a b ∨ vC u P b a := by
  obtain ⟨r, s, r1, s1, rP, h1, h2, h3, h4⟩ := h
  rcases h1 with h1 | h1
  · exact Or.inl (vAd_C1 g hP ha hb r1 s1 rP h1 h2 h3 h4)
  · exact Or.inr (vAd_C1 g hP hb ha s1 r1 (h2.symm.trans rP) h1 h2.symm h4 h3)
theorem hAd_C {u : mS} {c : cfg} {P a b : Nat} (g : gOK u c) (hP : P < 12) (ha : a < 80) (hb : b < 80) (h : hAd c P a b) : hC u P a b ∨ hC u P b a := by
  obtain ⟨r, s, r1, s1, rP, h1, h2, h3, h4⟩ := h
  rcases h1 with h1 | h1
  · exact Or.inl (hAd_C1 g hP ha hb r1 s1 rP h1 h2 h3 h4)
  · exact Or.inr (hAd_C1 g hP hb ha s1 r1 (h2.symm.trans rP) h1 h2.symm h4 h3)
/-- a thing in a cell is an item -/
theorem thing_it {u : mS} {c : cfg} (g : gOK u c) {j : Nat} (hj : j < 5760) (h : mThing (u.2 2 j) = true) : ∃ a, a < (u.1 3).toNatClampNeg ∧ u.2 2 j = nI a := by
  rcases g.2.1.2.1 j hj with q | q | ⟨a, ha, q⟩
  · rw [q] at h; exact absurd h (by decide)
  · rw [q] at h; exact absurd h (by decide)
  · refine ⟨a, Nat.lt_of_not_le (fun z => ?_), q⟩
    obtain ⟨r, r1, -⟩ := (g.2.1.1 j hj a ha).mp q
    rw [g.2.2.2.2.1 a z] at r1
    exact absurd r1 List.not_mem_nil
theorem thing_n {a : Nat} (ha : a < 80) : mThing (nI a) = true := by
  unfold mThing
  rw [decide_eq_false (nIpos (by omega)), decide_eq_false (nI_100 ha)]
  rfl
def prT (u : mS) (a b : Nat) (ac : Int32) (t : tr3) : Prop := bT1 u (nI a) (nI b) t ∨ bT2 u (nI a) (nI b) t ∨ bT3 u (nI a) (nI b) ac t
theorem bsT_pr {u : mS} {a b : Nat} (ha : a < 80) (hb : b < 80) (ac : Int32) (t : tr3) : bsT u (nI a) (nI b) ac t ↔ a ≠ b ∧ prT u a b ac t := by
  unfold bsT
  rw [thing_n ha, thing_n hb, nI_inj (by omega) (by omega)]
  exact ⟨fun q => ⟨q.1.2.2, q.2⟩, fun q => ⟨⟨rfl, rfl, q.1⟩, q.2⟩⟩
theorem mC_cel {u : mS} {P x y : Nat} (g : rI u) (hP : P < 12) (hx : x < 200) (hy : y < 200) : mCell u (nI P) (nI x) (nI y) = true ↔ cel u P x y := mC_iff hP hx hy (fun h => g.2.2.1 _ (by omega))
theorem lnN_e {u : mS} {P c : Nat} (hP : P < 12) (hc : c < 8) : lnN u (nI P) c = (u.2 0 (8 * P + c)).toNatClampNeg := by
  unfold lnN
  rw [idx8 hP hc]
theorem ix_c {P x y : Nat} (hP : P < 12) (hx : x < 8) (hy : y < 60) : (480 * nI P + 60 * nI x + nI y).toNatClampNeg = 480 * P + 60 * x + y := by
  rw [idxN hP hx hy, nI_clamp (by omega)]
/-- what the neighbouring cells break, told of the items -/
theorem vTS_iff {u : mS} {c : cfg} {P : Nat} (g : gOK u c) (hP : P < 12) (t : tr3) : vTS u (nI P) 8 0 t ↔ ∃ a b, a < (u.1 3).toNatClampNeg ∧ b < (u.1 3).toNatClampNeg ∧ a ≠ b ∧ ((vC u P a b ∧ prT u a b 0 t) ∨ (hC u P a b ∧ prT u a b 1 t)) := by
  have hn := n80 g.1
  constructor
  · rintro ⟨x, y, hx, hy, -, h⟩
    rw [lnN_e hP hx] at hy
    have l6 := ln60 g.1 (j := 8 * P + x) (by omega)
    rcases h with ⟨h1, h2⟩ | ⟨h1, h2⟩
    · rw [nI_1, mC_cel g.1 hP (by omega) (by omega)] at h1
      have hy2 := h1.2
      rw [nI_1, ix_c hP hx (by omega), ix_c hP hx (by omega)] at h2
      obtain ⟨a, ha, ea⟩ := thing_it g (by omega) h2.1.1
      obtain ⟨b, hb, eb⟩ := thing_it g (by omega) h2.1.2.1
      rw [ea, eb, bsT_pr (by omega) (by omega)] at h2
      exact ⟨a, b, ha, hb, h2.1, Or.inl ⟨⟨x, y, ⟨hx, hy⟩, h1, ea, eb⟩, h2.2⟩⟩
    · rw [nI_1, mC_cel g.1 hP (by omega) (by omega)] at h1
      have hx2 := h1.1
      rw [nI_1, ix_c hP hx (by omega), ix_c hP hx2 (by omega)] at h2
      obtain ⟨a, ha, ea⟩ := thing_it g (by omega) h2.1.1
      obtain ⟨b, hb, eb⟩ := thing_it g (by omega) h2.1.2.1
      rw [ea, eb, bsT_pr (by omega) (by omega)] at h2
      exact ⟨a, b, ha, hb, h2.1, Or.inr ⟨⟨x, y, ⟨hx, hy⟩, h1, ea, eb⟩, h2.2⟩⟩
  · rintro ⟨a, b, ha, hb, hab, h⟩
    rcases h with ⟨⟨x, y, h1, h2, ea, eb⟩, h3⟩ | ⟨⟨x, y, h1, h2, ea, eb⟩, h3⟩
    · have l6 := ln60 g.1 (j := 8 * P + x) (by have := h1.1; omega)
      have hx := h1.1
      have hy := h2.2
      refine ⟨x, y, hx, by rw [lnN_e hP hx]; exact h1.2, Or.inl hx, Or.inl ⟨?_, ?_⟩⟩
      · rw [nI_1, mC_cel g.1 hP (by omega) (by omega)]; exact h2
      · rw [nI_1, ix_c hP hx (by omega), ix_c hP hx (by omega), ea, eb, bsT_pr (by omega) (by omega)]
        exact ⟨hab, h3⟩
    · have l6 := ln60 g.1 (j := 8 * P + x) (by have := h1.1; omega)
      have hx := h2.1
      have hy := h1.2
      refine ⟨x, y, by omega, by rw [lnN_e hP (by omega)]; exact h1.2, Or.inl (by omega), Or.inr ⟨?_, ?_⟩⟩
      · rw [nI_1, mC_cel g.1 hP (by omega) (by omega)]; exact h2
      · rw [nI_1, ix_c hP (by omega) (by omega), ix_c hP hx (by omega), ea, eb, bsT_pr (by omega) (by omega)]
        exact ⟨hab, h3⟩
