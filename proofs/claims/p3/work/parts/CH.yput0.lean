/-- whether there is a cell, in plain numbers -/
theorem mC_iff {u : mS} {P x y : Nat} (hP : P < 12) (hx : x < 200) (hy : y < 200) (hl : x < 8 → bw (u.2 0 (8 * P + x)) 0 60 = true) : mCell u (nI P) (nI x) (nI y) = true ↔ x < 8 ∧ y < (u.2 0 (8 * P + x)).toNatClampNeg := by
  have e0 : (8 * nI P + nI x).toNatClampNeg = 8 * P + x := by rw [show (8 : Int32) = nI 8 from rfl, pk_mul, nI_add, nI_clamp (by omega)]
  unfold mCell
  rw [Bool.and_eq_true, Bool.and_eq_true, e0, bw_iff, bw_iff, bw_iff]
  have h11 : (11 : Int32).toInt = 11 := rfl
  have h7 : (7 : Int32).toInt = 7 := rfl
  have h60 : (60 : Int32).toInt = 60 := rfl
  rw [nI_toInt (n := P) (by omega), nI_toInt (n := x) (by omega), nI_toInt (n := y) (by omega), i0, h11, h7]
  constructor
  · rintro ⟨⟨-, h2⟩, h3⟩
    have h8 : x < 8 := by omega
    refine ⟨h8, ?_⟩
    obtain ⟨l1, l2, l3⟩ := nI_of_bw (hl h8)
    have l4 := bw_iff.mp (hl h8)
    rw [i0, h60] at l4
    rw [subI (by rw [i1]; omega) (by rw [i1]; omega), i1] at h3
    omega
  · rintro ⟨h8, h3⟩
    obtain ⟨l1, l2, l3⟩ := nI_of_bw (hl h8)
    have l4 := bw_iff.mp (hl h8)
    rw [i0, h60] at l4
    rw [subI (by rw [i1]; omega) (by rw [i1]; omega), i1]
    omega
theorem frB_iff {u : mS} {p x y : Int32} : frB u p x y = true ↔ mCellAt u p x y = (-2) := by
  unfold frB
  rw [Bool.and_eq_true, decide_eq_true_iff]
  constructor
  · rintro ⟨h1, h2⟩; unfold mCellAt; rw [if_pos h1, h2]
  · intro h; exact mCA h
theorem fr_rIn {u : mS} {P : Nat} {c l w h : Int32} (hP : P < 12) (hl : ∀ a, a < 8 → bw (u.2 0 (8 * P + a)) 0 60 = true) (hf : mFreeP u (nI P) c l w h) : ∃ X Y D N, c = nI X ∧ l = nI Y ∧ w = nI D ∧ h = nI N ∧ rIn u P X Y D N ∧ ∀ a b, a < D → b < N → u.2 2 (480 * P + 60 * (X + a) + (Y + b)) = (-2) := by
  obtain ⟨h1, h2, h3, h4⟩ := hf
  have h7 : (7 : Int32).toInt = 7 := rfl
  have h8 : (8 : Int32).toInt = 8 := rfl
  have h60 : (60 : Int32).toInt = 60 := rfl
  obtain ⟨c1, c2, c3⟩ := mCell_c h1
  obtain ⟨X, hX, -, rfl⟩ := exN c2 (by decide)
  have e0 : (8 * nI P + nI X).toNatClampNeg = 8 * P + X := by rw [show (8 : Int32) = nI 8 from rfl, pk_mul, nI_add, nI_clamp (by omega)]
  rw [e0] at c3
  obtain ⟨Y, hY, -, rfl⟩ := exN (b59 (hl X (by omega)) c3) (by decide)
  have h59 : (59 : Int32).toInt = 59 := rfl
  obtain ⟨D, hD, hD1, rfl⟩ := exN h2 (by decide)
  obtain ⟨N, hN, hN1, rfl⟩ := exN h3 (by decide)
  rw [i1] at hD1 hN1
  rw [nI_clamp (n := D) (by omega), nI_clamp (n := N) (by omega)] at h4
  have cc : ∀ a b, a < D → b < N → X + a < 8 ∧ Y + b < (u.2 0 (8 * P + (X + a))).toNatClampNeg ∧ u.2 2 (480 * P + 60 * (X + a) + (Y + b)) = (-2) := fun a b ha hb => by
    have q := h4 a ha b hb
    rw [nI_add, nI_add, frB_iff] at q
    obtain ⟨q1, q2⟩ := mCA q
    have q3 := (mC_iff hP (by omega) (by omega) (fun h => hl _ h)).mp q1
    refine ⟨q3.1, q3.2, ?_⟩
    have h5 := hl (X + a) q3.1
    obtain ⟨l1, l2, l3⟩ := nI_of_bw h5
    rw [idxN hP q3.1 (by omega), nI_clamp (by omega)] at q2
    exact q2
  refine ⟨X, Y, D, N, rfl, rfl, rfl, rfl, ⟨hP, ?_, by omega, ?_, by omega, fun a ha => ?_⟩, fun a b ha hb => (cc a b ha hb).2.2⟩
  · have := (cc (D - 1) 0 (by omega) (by omega)).1; omega
  · have q := (cc 0 (N - 1) (by omega) (by omega))
    obtain ⟨l1, l2, l3⟩ := nI_of_bw (hl (X + 0) q.1)
    have := q.2.1
    omega
  · have := (cc a (N - 1) ha (by omega)).2.1; omega
theorem fr_iff {gl gc : Nat → Int32} {u : mS} {P : Nat} {c l w h : Int32} (hP : P < 12) (el : eqR 8 gl (u.2 0) (8 * P)) (ec : eqR 480 gc (u.2 2) (480 * P)) (hgb : ∀ j, j < 8 → bw (gl j) 0 60 = true) : shFr gl gc c l w h ↔ mFreeP u (nI P) c l w h := by
  have hl : ∀ a, a < 8 → bw (u.2 0 (8 * P + a)) 0 60 = true := fun a ha => by rw [← el a ha]; exact hgb a ha
  constructor
  · rintro ⟨h1, h2, h3, h4⟩
    obtain ⟨w1, w2⟩ := ban h1
    have hw : 0 < w.toNatClampNeg := by
      obtain ⟨D, hD, hD1, rfl⟩ := exN w1 (by decide)
      have h8 : (8 : Int32).toInt = 8 := rfl
      rw [i1] at hD1
      rw [nI_clamp (by omega)]; omega
    have hh : 0 < h.toNatClampNeg := by
      obtain ⟨D, hD, hD1, rfl⟩ := exN w2 (by decide)
      have h8 : (60 : Int32).toInt = 60 := rfl
      rw [i1] at hD1
      rw [nI_clamp (by omega)]; omega
    have q : ∀ a, a < w.toNatClampNeg → ∀ b, b < h.toNatClampNeg → frB u (nI P) (c + nI a) (l + nI b) = true := fun a ha b hb => by
      rw [frB_iff, ← shAt_eq hP el ec hgb]; exact h4 a ha b hb
    have q0 := q 0 hw 0 hh
    rw [show nI 0 = (0 : Int32) from rfl, Int32.add_zero, Int32.add_zero] at q0
    refine ⟨?_, w1, w2, q⟩
    unfold frB at q0
    exact (ban q0).1
  · intro hf
    obtain ⟨X, Y, D, N, rfl, rfl, rfl, rfl, ⟨r1, r2, r3, r4, r5, r6⟩, -⟩ := fr_rIn hP hl hf
    obtain ⟨h1, h2, h3, h4⟩ := hf
    have e60 : (60 : Int32).toInt = 60 := rfl
    refine ⟨by rw [h2, h3]; rfl, (mCell_c h1).2.1, ?_, fun a ha b hb => ?_⟩
    · rw [bw_iff, i0, nI_toInt (by omega), show (60 : Int32) = nI 60 from rfl, nI_sb (i := 60) (r := N) (by omega) (by omega), nI_toInt (by omega)]
      omega
    · rw [shAt_eq hP el ec hgb]
      exact frB_iff.mp (h4 a ha b hb)
theorem kd6 {k : Int32} (h0 : 0 ≤ k) (h5 : k ≤ 5) : k = 0 ∨ k = 1 ∨ k = 2 ∨ k = 3 ∨ k = 4 ∨ k = 5 := by
  have h9 := kT_r k
  have h8 := kT_k h0 h5
  rcases (show kT k = 15 ∨ kT k = 11 ∨ kT k = 14 ∨ kT k = 13 ∨ kT k = 10 ∨ kT k = 12 by omega) with e | e | e | e | e | e
  · exact Or.inl (h8.1 e)
  · exact Or.inr (Or.inl (h8.2.1 e))
  · exact Or.inr (Or.inr (Or.inl (h8.2.2.1 e)))
  · exact Or.inr (Or.inr (Or.inr (Or.inl (h8.2.2.2.1 e))))
  · exact Or.inr (Or.inr (Or.inr (Or.inr (Or.inl (h8.2.2.2.2.1 e)))))
  · exact Or.inr (Or.inr (Or.inr (Or.inr (Or.inr (h8.2.2.2.2.2 e)))))
/-- a piece's columns and lines, as the class has them -/
def cpW (u : mS) (i : Nat) (how : Int32) : Int32 := if u.2 4 i = 1 ∨ u.2 4 i = 3 then (if how = 0 then u.2 7 i else 0) else if u.2 4 i = 2 then (if bw how 0 (u.2 17 i - 1) = true then u.2 18 (4 * i + how.toNatClampNeg) else 0) else 1
def cpH (u : mS) (i : Nat) (how : Int32) : Int32 := if u.2 4 i = 0 then (if bw how 1 60 = true then how else 0) else if u.2 4 i = 2 then (if bw how 0 (u.2 17 i - 1) = true then u.2 19 (4 * i + how.toNatClampNeg) else 0) else if u.2 4 i = 4 then (if bw how (u.2 5 i) (u.2 6 i) = true then how else 0) else (if how = 0 then u.2 8 i else 0)
/-- what maySit answers -/
def stV (u : mS) (i : Nat) (P X Y W H v : Int32) : Prop := (u.2 4 i = 0 → ∃ gw, eqR 80 gw (u.2 16) (80 * i) ∧ v = s_sitS P X Y W H (u.2 1 P.toNatClampNeg) (u.2 22 i) (u.2 15 i) (pR u i) gw) ∧ (u.2 4 i = 3 → v = s_sitP P X Y W H (u.2 11 i) (u.2 12 i) (u.2 13 i) (u.2 7 i) (u.2 8 i)) ∧ (u.2 4 i = 5 → ∃ o g gm, o < (u.1 3).toNatClampNeg ∧ u.2 9 i = nI o ∧ eqR 5 g (u.2 47) (5 * i) ∧ eqR 5 gm (u.2 47) (5 * o) ∧ v = s_sitN P X (u.1 38) g gm) ∧ (u.2 4 i = 1 ∨ u.2 4 i = 2 ∨ u.2 4 i = 4 → v = 1)
def rmP (u : mS) (i : Nat) : Prop := (u.2 22 i).toNatClampNeg < (if u.2 4 i = 0 then 6 else 1)
/-- why put refuses -/
def pNo (u : mS) (p0 p1 p2 p3 p4 : Int32) : Prop := ¬ bw p0 0 (u.1 3 - 1) = true ∨ ¬ bw p1 0 11 = true ∨ u.1 28 = 300 ∨ ∃ i, p0 = nI i ∧ i < (u.1 3).toNatClampNeg ∧ (¬ rmP u i ∨ ¬ mFreeP u p1 p2 p3 (cpW u i p4) (cpH u i p4) ∨ stV u i p1 p2 p3 (cpW u i p4) (cpH u i p4) 0)
/-- where put puts -/
def pYe (u : mS) (p0 p1 p2 p3 p4 : Int32) (i P X Y D N : Nat) : Prop := p0 = nI i ∧ i < (u.1 3).toNatClampNeg ∧ p1 = nI P ∧ p2 = nI X ∧ p3 = nI Y ∧ cpW u i p4 = nI D ∧ cpH u i p4 = nI N ∧ ¬ u.1 28 = 300 ∧ rIn u P X Y D N ∧ rmP u i ∧ mFreeP u p1 p2 p3 (cpW u i p4) (cpH u i p4) ∧ (∃ v, ¬ v = 0 ∧ stV u i p1 p2 p3 (cpW u i p4) (cpH u i p4) v) ∧ ∀ a b, a < D → b < N → u.2 2 (480 * P + 60 * (X + a) + (Y + b)) = (-2)
/-- what put leaves -/
def putP (q : Nat → ClassId) (h0 : Nat) (d : Nat → Nat) (k : Nat → Int32) (z : gS) (f : xF) (u : mS) (p0 p1 p2 p3 p4 : Int32) (r : Int32) (w : xU) : Prop := (pNo u p0 p1 p2 p3 p4 ∧ actP q h0 d k z f ((-1 : Int32), u) (fun _ => False) r w) ∨ ∃ i P X Y D N, pYe u p0 p1 p2 p3 p4 i P X Y D N ∧ actP q h0 d k z f (u.2 22 i + 1, mActs (mStand u (nI i) P X Y D N) 0 (nI i) 0 0 0 0 0) (fun e => e = (0, i, (P, X, Y, D, N), [])) r w
theorem put_fin {q h0 d k u z f z9 f9 k9} {i a b P X Y D N : Nat} {fc : xF} (hk1 : k 1 = u.1 28) (hi8 : i < 80) (hE : zE z z9) (hI9 : xI q h0 d k9 z9 f9) (hrp9 : rep q d (mStand u (nI i) P X Y D N) z9 f9) (h3m : fc (d 3) = f (d 3)) (hkc : k9 = kup k 1 (k 1 + 1)) (hk3 : ∃ g, fc (d 3) = aR (q 4) 300 g ∧ f9 (d 3) = aR (q 4) 300 (va_up g (k 1).toNatClampNeg (some a))) (hac : acS z9 a b 0 1 none) (hpc : pcS z9 b (some (d (2000 + i))) (nI P) (nI X) (nI Y) (nI D) (nI N)) : actP q h0 d k z f (u.2 22 i + 1, mActs (mStand u (nI i) P X Y D N) 0 (nI i) 0 0 0 0 0) (fun e => e = (0, i, (P, X, Y, D, N), [])) ((mStand u (nI i) P X Y D N).2 22 i) (k9, z9, f9) := by
  obtain ⟨g, g1, g2⟩ := hk3
  refine ⟨hE, hI9, ?_, rep_rows hrp9 rfl (fun r hr => mActs_k _ _ _ _ _ _ _ _ (by omega)), fun j hj => by rw [hkc]; exact kup_o hj, ?_, Or.inr ⟨g, a, _, by rw [← h3m]; exact g1, g2, by show k9 1 = _; rw [hkc, kup_s], ?_, rfl⟩⟩
  · rw [mStand_gU, mput_other (by decide), gU_22, nI_clamp (by omega), if_pos rfl]
  · show k9 1 = u.1 28 + 1
    rw [hkc, kup_s, hk1]
  · exact Or.inl ⟨rfl, b, hac, hpc⟩
