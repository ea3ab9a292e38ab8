theorem nle {a b : Nat} (ha : a < 1000) (hb : b < 1000) : nI a ≤ nI b ↔ a ≤ b := by
  rw [i32_le, nI_toInt (by omega), nI_toInt (by omega)]; omega
theorem neq {a b : Nat} (ha : a < 1000) (hb : b < 1000) : nI a = nI b ↔ a = b := nI_inj (by omega) (by omega)
/-- beside, in plain numbers -/
theorem bes_iff {P X Y D N P2 X2 Y2 D2 N2 : Nat} (h1 : P < 200 ∧ X < 200 ∧ Y < 200 ∧ D < 200 ∧ N < 200) (h2 : P2 < 200 ∧ X2 < 200 ∧ Y2 < 200 ∧ D2 < 200 ∧ N2 < 200) : ¬ s_isBeside (nI P) (nI X) (nI Y) (nI D) (nI N) (nI P2) (nI X2) (nI Y2) (nI D2) (nI N2) = 0 ↔ (X + D = X2 ∨ X2 + D2 = X) ∧ P = P2 ∧ Y < Y2 + N2 ∧ Y2 < Y + N := by
  unfold s_isBeside
  rw [nI_add X D, nI_add Y2 N2, nI_add Y N, nI_add X2 D2]
  have core : ¬ (if nI P = nI P2 then (if nI (Y2 + N2) ≤ nI Y then (0 : Int32) else (if nI (Y + N) ≤ nI Y2 then 0 else 1)) else 0) = 0 ↔ P = P2 ∧ Y < Y2 + N2 ∧ Y2 < Y + N := by
    by_cases e : P = P2
    · rw [if_pos ((neq (by omega) (by omega)).mpr e)]
      by_cases a : Y2 + N2 ≤ Y
      · rw [if_pos ((nle (by omega) (by omega)).mpr a)]
        exact ⟨fun h => absurd rfl h, fun h => by omega⟩
      · rw [if_neg (fun q => a ((nle (by omega) (by omega)).mp q))]
        by_cases b : Y + N ≤ Y2
        · rw [if_pos ((nle (by omega) (by omega)).mpr b)]
          exact ⟨fun h => absurd rfl h, fun h => by omega⟩
        · rw [if_neg (fun q => b ((nle (by omega) (by omega)).mp q))]
          exact ⟨fun _ => ⟨e, by omega, by omega⟩, fun _ => by decide⟩
    · rw [if_neg (fun q => e ((neq (by omega) (by omega)).mp q))]
      exact ⟨fun h => absurd rfl h, fun h => absurd h.1 e⟩
  by_cases c1 : X + D = X2
  · rw [if_pos ((neq (by omega) (by omega)).mpr c1), core]
    exact ⟨fun h => ⟨Or.inl c1, h⟩, fun h => h.2⟩
  · rw [if_neg (fun q => c1 ((neq (by omega) (by omega)).mp q))]
    by_cases c2 : X2 + D2 = X
    · rw [if_pos ((neq (by omega) (by omega)).mpr c2), core]
      exact ⟨fun h => ⟨Or.inr c2, h⟩, fun h => h.2⟩
    · rw [if_neg (fun q => c2 ((neq (by omega) (by omega)).mp q)), ite_self]
      exact ⟨fun h => absurd rfl h, fun h => by omega⟩
/-- over or under, in plain numbers -/
theorem ovr_iff {P X Y D N P2 X2 Y2 D2 N2 : Nat} (h1 : P < 200 ∧ X < 200 ∧ Y < 200 ∧ D < 200 ∧ N < 200) (h2 : P2 < 200 ∧ X2 < 200 ∧ Y2 < 200 ∧ D2 < 200 ∧ N2 < 200) : ¬ s_isOverOrUnder (nI P) (nI X) (nI Y) (nI D) (nI N) (nI P2) (nI X2) (nI Y2) (nI D2) (nI N2) = 0 ↔ (Y + N = Y2 ∨ Y2 + N2 = Y) ∧ P = P2 ∧ X < X2 + D2 ∧ X2 < X + D := by
  unfold s_isOverOrUnder
  rw [nI_add Y N, nI_add X2 D2, nI_add X D, nI_add Y2 N2]
  have core : ¬ (if nI P = nI P2 then (if nI (X2 + D2) ≤ nI X then (0 : Int32) else (if nI (X + D) ≤ nI X2 then 0 else 1)) else 0) = 0 ↔ P = P2 ∧ X < X2 + D2 ∧ X2 < X + D := by
    by_cases e : P = P2
    · rw [if_pos ((neq (by omega) (by omega)).mpr e)]
      by_cases a : X2 + D2 ≤ X
      · rw [if_pos ((nle (by omega) (by omega)).mpr a)]
        exact ⟨fun h => absurd rfl h, fun h => by omega⟩
      · rw [if_neg (fun q => a ((nle (by omega) (by omega)).mp q))]
        by_cases b : X + D ≤ X2
        · rw [if_pos ((nle (by omega) (by omega)).mpr b)]
          exact ⟨fun h => absurd rfl h, fun h => by omega⟩
        · rw [if_neg (fun q => b ((nle (by omega) (by omega)).mp q))]
          exact ⟨fun _ => ⟨e, by omega, by omega⟩, fun _ => by decide⟩
    · rw [if_neg (fun q => e ((neq (by omega) (by omega)).mp q))]
      exact ⟨fun h => absurd rfl h, fun h => absurd h.1 e⟩
  by_cases c1 : Y + N = Y2
  · rw [if_pos ((neq (by omega) (by omega)).mpr c1), core]
    exact ⟨fun h => ⟨Or.inl c1, h⟩, fun h => h.2⟩
  · rw [if_neg (fun q => c1 ((neq (by omega) (by omega)).mp q))]
    by_cases c2 : Y2 + N2 = Y
    · rw [if_pos ((neq (by omega) (by omega)).mpr c2), core]
      exact ⟨fun h => ⟨Or.inr c2, h⟩, fun h => h.2⟩
    · rw [if_neg (fun q => c2 ((neq (by omega) (by omega)).mp q)), ite_self]
      exact ⟨fun h => absurd rfl h, fun h => by omega⟩
