theorem nI_s1 (n : Nat) : nI n + 1 = nI (n + 1) := nI_add n 1
theorem nI_p1 (n : Nat) : nI (n + 1) - 1 = nI n := by rw [← nI_s1]; exact Int32.add_sub_cancel _ _
theorem pR_ix {u : mS} {i k j : Nat} (h : 6 * i + k < 2 ^ 31) : u.2 (23 + j) (6 * nI i + nI k).toNatClampNeg = pR u i k j := by rw [ix6, nI_clamp h]; rfl
/-- what a piece takes: the class and the reference -/
theorem s_taken_m {u : mS} {i k : Nat} (hi : i < 80) (hk : k < 6) (hb : bw (nI k) 0 (u.2 22 i - 1) = true) : s_taken (nI k) (u.2 22 i) (pR u i) = mTakes u (nI i) (nI k) := by
  unfold s_taken mTakes
  rw [if_pos hb, nI_clamp (n := i) (by omega), ix6]
  have e1 : nI (6 * i + k) + 1 = nI (6 * i + (k + 1)) := nI_s1 _
  have c0 : (nI (6 * i + k)).toNatClampNeg = 6 * i + k := nI_clamp (by omega)
  have c1 : (nI (6 * i + (k + 1))).toNatClampNeg = 6 * i + (k + 1) := nI_clamp (by omega)
  have c2 : (nI k).toNatClampNeg = k := nI_clamp (by omega)
  have c3 : (nI (k + 1)).toNatClampNeg = k + 1 := nI_clamp (by omega)
  rw [e1, c0, c1, nI_s1, c2, c3]
  cases k with
  | zero =>
    have h0 : nI 0 ≤ 0 := by decide
    rw [if_pos h0, if_pos h0]; rfl
  | succ k =>
    have h0 : ¬ nI (k + 1) ≤ 0 := by
      rw [i32_le, i0, nI_toInt (by omega)]; omega
    have e2 : nI (6 * i + (k + 1)) - 1 = nI (6 * i + k) := nI_p1 _
    have c4 : (nI (6 * i + k)).toNatClampNeg = 6 * i + k := nI_clamp (by omega)
    have c5 : (nI k).toNatClampNeg = k := nI_clamp (by omega)
    rw [if_neg h0, if_neg h0, e2, c4, nI_p1, c5]
    by_cases hA : pR u i k 0 = pR u i (k + 1) 0
    · have hA2 : u.2 23 (6 * i + k) = u.2 23 (6 * i + (k + 1)) := hA
      rw [if_pos hA, if_pos hA2]; rfl
    · have hA2 : ¬ u.2 23 (6 * i + k) = u.2 23 (6 * i + (k + 1)) := hA
      rw [if_neg hA, if_neg hA2]; rfl
theorem s_from_m {u : mS} {i : Nat} (hi : i < 80) (hc : bw (u.2 22 i) 0 6 = true) : ∀ n : Nat, n ≤ (u.2 22 i).toNatClampNeg → s_from (u.2 22 i) (pR u i) n = mFrom u (nI i) n
  | 0, _ => rfl
  | n + 1, hn => by
    obtain ⟨c1, c2, c3⟩ := nI_of_bw hc
    have e6 : (6 : Int32).toInt = 6 := rfl
    rw [e6] at c3
    have hb : bw (nI n) 0 (u.2 22 i - 1) = true := by
      rw [bw_iff, i0, nI_toInt (by omega), subI (by rw [i1]; omega) (by rw [i1]; omega), i1]; omega
    show s_from _ _ n + s_taken (nI n) _ _ = mFrom u (nI i) n + mTakes u (nI i) (nI n)
    rw [s_from_m hi hc n (by omega), s_taken_m hi (by omega) hb]
theorem s_standing_m {u : mS} {i : Nat} (hi : i < 80) (hc : bw (u.2 22 i) 0 6 = true) : s_standing (u.2 22 i) (pR u i) = mStanding u (nI i) := by
  unfold s_standing mStanding
  rw [nI_clamp (n := i) (by omega)]; exact s_from_m hi hc _ (Nat.le_refl _)
theorem mPc_no {u : mS} {p k w : Int32} (h : ¬ bw p 0 (u.1 3 - 1) = true) : mPiece u p k w = (-1) := by unfold mPiece; rw [if_neg h]
theorem bw_it {u : mS} {i : Nat} (hn : bw (u.1 3) 0 80 = true) (hi : i < (u.1 3).toNatClampNeg) : bw (nI i) 0 (u.1 3 - 1) = true ∧ i < 80 := by
  obtain ⟨c1, c2, c3⟩ := nI_of_bw hn
  have e80 : (80 : Int32).toInt = 80 := rfl
  rw [e80] at c3
  refine ⟨?_, by omega⟩
  rw [bw_iff, i0, nI_toInt (by omega), subI (by rw [i1]; omega) (by rw [i1]; omega), i1]; omega
theorem mPc_k {u : mS} {i : Nat} {k w : Int32} (hn : bw (u.1 3) 0 80 = true) (hi : i < (u.1 3).toNatClampNeg) (h : ¬ bw k 0 (u.2 22 i - 1) = true) : mPiece u (nI i) k w = (-1) := by
  have h2 := bw_it hn hi
  unfold mPiece; rw [if_pos h2.1, nI_clamp (by omega), if_neg h]
theorem mPc {u : mS} {i : Nat} {k : Int32} (w : Int32) (hn : bw (u.1 3) 0 80 = true) (hi : i < (u.1 3).toNatClampNeg) (hc : bw (u.2 22 i) 0 6 = true) (h : bw k 0 (u.2 22 i - 1) = true) : mPiece u (nI i) k w = if w = 0 then pR u i k.toNatClampNeg 0 else if w = 1 then pR u i k.toNatClampNeg 1 else if w = 2 then pR u i k.toNatClampNeg 2 else if w = 3 then pR u i k.toNatClampNeg 3 else if w = 4 then pR u i k.toNatClampNeg 4 else if w = 5 then (if u.2 4 i = 0 then s_from (u.2 22 i) (pR u i) k.toNatClampNeg else 0) else if w = 6 then (if u.2 4 i = 0 then s_taken k (u.2 22 i) (pR u i) else 0) else (-1) := by
  have h2 := bw_it hn hi
  obtain ⟨h3, h4⟩ := vkn (n := 6) (by omega) hc h
  obtain ⟨c1, c2, c3⟩ := nI_of_bw h
  obtain ⟨d1, d2, d3⟩ := nI_of_bw hc
  have e6 : (6 : Int32).toInt = 6 := rfl
  rw [e6] at d3
  generalize hj : k.toNatClampNeg = j at c1 c2 h4
  subst c1
  unfold mPiece
  rw [if_pos h2.1, nI_clamp (n := i) (by omega), if_pos h, ix6, nI_clamp (n := 6 * i + j) (by omega), hj, s_from_m h2.2 hc j (by omega), s_taken_m h2.2 (by omega) h]
  rfl
