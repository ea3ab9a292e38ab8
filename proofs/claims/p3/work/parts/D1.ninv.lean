/-- the desk cleared, as the reference clears it -/
theorem rep_dayS {q d u z f} (h : rep q d (cdU u) z f) : rep q d (dayS u (u.1 3).toNatClampNeg) z f := by
  have e2 : (cdU u).2 2 = fillF (u.2 2) 5760 (-2) := by
    funext j
    rfl
  have e22 : (cdU u).2 22 = fillF (u.2 22) (u.1 3).toNatClampNeg 0 := by
    funext j
    rfl
  have ek : ∀ r, r ≠ 2 → r ≠ 22 → (cdU u).2 r = u.2 r := fun r h1 h2 => by
    unfold cdU cd2 cd1
    rw [mput_other h1, mput_other h2]
  refine rep_ext h (dayS_1 u (u.1 3).toNatClampNeg).2.2.2.2 (fun r hr => ?_) (fun r r1 r2 j _ t _ => by rw [dayS_k _ _ (by omega) (by omega), ek r (by omega) (by omega)])
  by_cases h2 : r = 2
  · rw [h2, dayS_2, e2]
  · by_cases h3 : r = 22
    · rw [h3, dayS_22, e22]
    · rw [dayS_k _ _ h2 h3, ek r h2 h3]
/-- a maker keeps: where no item is, nothing is told -/
theorem nwI_mk {u w : mS} (h : nwI u) (hS : mkS u w (u.1 3).toNatClampNeg) (h3 : (w.1 3).toNatClampNeg = (u.1 3).toNatClampNeg + 1) : nwI w := by
  intro i hi h8
  obtain ⟨a, b, c, e, g⟩ := h i (by omega) h8
  have q : ∀ r, r < 4 ∨ (15 < r ∧ r ≠ 17 ∧ r ≠ 22) → w.2 r = u.2 r := hS.2.2
  exact ⟨fun t ht => by rw [q 47 (by omega)]; exact a t ht, fun t ht => by rw [q 16 (by omega)]; exact b t ht, fun t ht => by rw [q 18 (by omega), q 19 (by omega)]; exact c t ht, fun t ht => by rw [q 21 (by omega)]; exact e t ht, fun t ht => by rw [q 48 (by omega)]; exact g t ht⟩
theorem plI_c {u w : mS} (h : plI u) (hr : ∀ r, 40 ≤ r → r ≤ 46 → w.2 r = u.2 r) : plI w := by
  unfold plI plN plF at h ⊢
  rw [hr 40 (by omega) (by omega), hr 43 (by omega) (by omega), hr 44 (by omega) (by omega), hr 45 (by omega) (by omega), hr 46 (by omega) (by omega)]
  exact h
theorem fiI_c {u w : mS} (h : fiI u) (hr : w.2 47 = u.2 47) : fiI w := by
  unfold fiI at h ⊢
  rw [hr]; exact h
theorem neI_c {u w : mS} (h : neI u) (hr : w.2 2 = u.2 2) : neI w := by
  unfold neI at h ⊢
  rw [hr]; exact h
