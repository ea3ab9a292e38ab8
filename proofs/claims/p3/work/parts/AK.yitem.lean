/-- all that is told of item i -/
theorem it_all {q h0 d k z f u} (hI : xI q h0 d k z f) (h : rIs q d u z f) {i : Nat} (hi : i < (u.1 3).toNatClampNeg) : ∃ (rs : List Value) (n : Nat) (g : Nat → Option Nat) (fg : Nat → Int32), itm z (d (2000 + i)) ∧ f (d (2000 + i)) = .inr (ciT (z.2 (d (2000 + i))).1, itF (nI i) (u.2 4 i) (d (3000 + i)) (u.2 22 i) (d (4000 + i)) rs) ∧ tg z (d (3000 + i)) 16 ∧ f (d (3000 + i)) = aR (q 5) n g ∧ 1 ≤ n ∧ n ≤ 6 ∧ bw (u.2 22 i) 0 (nI n) = true ∧ pcL z g (u.2 22 i).toNatClampNeg (pR u i) ∧ (∀ j, j < n → ∀ b, g j = some b → lgP z b) ∧ n = (if u.2 4 i = 0 then 6 else 1) ∧ tg z (d (4000 + i)) 17 ∧ f (d (4000 + i)) = aI (q 0) 5 fg ∧ eqR 5 fg (u.2 47) (5 * i) ∧ rRs q d u z f i rs ∧ (z.2 (d (2000 + i))).1 = kT (u.2 4 i) := by
  obtain ⟨n1, n2, n3, hkd, rs, g, fg, hs, hps, hpcs, hfs, hfe, hrs⟩ := h.2 i hi
  have hit := rI_itm h hi
  obtain ⟨n9, g9, a1, h1, h6, hcb, hnn, hlg⟩ := x_pcs hI hit rfl hs
  obtain ⟨e1, e2⟩ := aR_inj (a1.symm.trans hps)
  subst e2
  refine ⟨rs, n9, g9, fg, hit, hs, n2.1, a1, h1, h6, hcb, fun j hj => ?_, hlg, e1, n3.1, hfs, hfe, hrs, n1.1.2⟩
  obtain ⟨b, b1, b2⟩ := hpcs j hj
  have hjn : j < n9 := by
    have hb2 := bw_iff.mp hcb
    obtain ⟨c1, c2, c3⟩ := nI_of_bw hcb
    rw [nI_toInt (by omega)] at c3
    omega
  exact ⟨b, _, b1, b2, hlg j hjn b b1⟩
theorem kT_k {k : Int32} (h0 : 0 ≤ k) (h5 : k ≤ 5) : (kT k = 15 → k = 0) ∧ (kT k = 11 → k = 1) ∧ (kT k = 14 → k = 2) ∧ (kT k = 13 → k = 3) ∧ (kT k = 10 → k = 4) ∧ (kT k = 12 → k = 5) := by
  have e5 : (5 : Int32).toInt = 5 := rfl
  rw [i32_le, i0] at h0
  rw [i32_le, e5] at h5
  have hk : k = 0 ∨ k = 1 ∨ k = 2 ∨ k = 3 ∨ k = 4 ∨ k = 5 := by
    have : k.toInt = 0 ∨ k.toInt = 1 ∨ k.toInt = 2 ∨ k.toInt = 3 ∨ k.toInt = 4 ∨ k.toInt = 5 := by omega
    rcases this with e | e | e | e | e | e
    · exact Or.inl (sw_in e.symm rfl)
    · exact Or.inr (Or.inl (sw_in e.symm rfl))
    · exact Or.inr (Or.inr (Or.inl (sw_in e.symm rfl)))
    · exact Or.inr (Or.inr (Or.inr (Or.inl (sw_in e.symm rfl))))
    · exact Or.inr (Or.inr (Or.inr (Or.inr (Or.inl (sw_in e.symm rfl)))))
    · exact Or.inr (Or.inr (Or.inr (Or.inr (Or.inr (sw_in e.symm rfl)))))
  rcases hk with e | e | e | e | e | e <;> subst e <;> decide
theorem kd_05 {q d u z f} (h : rIs q d u z f) {i : Nat} (hi : i < (u.1 3).toNatClampNeg) : 0 ≤ u.2 4 i ∧ u.2 4 i ≤ 5 := (h.2 i hi).2.2.2.1
