theorem slE_u {u : mS} {k : Nat} {r s : fR} (hr : rOK r) (hs : rOK s) (h : slE u k r) (h2 : slE u k s) : r = s := by
  obtain ⟨a1, a2, a3, a4, a5⟩ := hr
  obtain ⟨b1, b2, b3, b4, b5⟩ := hs
  have e1 : r.1 = s.1 := (nI_inj (by omega) (by omega)).mp (h.1.symm.trans h2.1)
  have e2 : r.2.1 = s.2.1 := (nI_inj (by omega) (by omega)).mp (h.2.1.symm.trans h2.2.1)
  have e3 : r.2.2.1 = s.2.2.1 := (nI_inj (by omega) (by omega)).mp (h.2.2.1.symm.trans h2.2.2.1)
  have e4 : r.2.2.2.1 = s.2.2.2.1 := (nI_inj (by omega) (by omega)).mp (h.2.2.2.1.symm.trans h2.2.2.2.1)
  have e5 : r.2.2.2.2 = s.2.2.2.2 := (nI_inj (by omega) (by omega)).mp (h.2.2.2.2.symm.trans h2.2.2.2.2)
  exact Prod.ext e1 (Prod.ext e2 (Prod.ext e3 (Prod.ext e4 e5)))
/-- a later piece stands behind an earlier one -/
theorem sl_bhd {u : mS} {a : Nat} : ∀ {l : List fR}, slM u a l → List.Pairwise bhd l → ∀ t t2, t < t2 → t2 < l.length → ∃ r r2, r ∈ l ∧ r2 ∈ l ∧ slE u (6 * a + t) r ∧ slE u (6 * a + t2) r2 ∧ bhd r2 r
  | [], _, _, t, t2, _, h => absurd h (Nat.not_lt_zero _)
  | q :: l, h, hp, t, t2, h1, h2 => by
    obtain ⟨p1, p2⟩ := List.pairwise_cons.mp hp
    rw [List.length_cons] at h2
    by_cases e : t2 = l.length
    · obtain ⟨r, r1, r2⟩ := (sl_mem h.2).2 t (by omega)
      exact ⟨r, q, List.mem_cons_of_mem _ r1, List.mem_cons_self, r2, by rw [e]; exact h.1, p1 r r1⟩
    · obtain ⟨r, r2, a1, a2, a3⟩ := sl_bhd h.2 p2 t t2 h1 (by omega)
      exact ⟨r, r2, List.mem_cons_of_mem _ a1, List.mem_cons_of_mem _ a2, a3⟩
/-- what stands on a page, told by the first piece there -/
theorem pl_new {u : mS} {es : List hE} {c : cfg} (h : uI u es c) {P i : Nat} {x y : Int32} (hP : P < 12) (hi : i < 80) (hR : plR u P i 0 (ptN u i) x y) : (x = (-1) ∧ ∀ c' l', c' < 8 → l' < (u.2 0 (8 * P + c')).toNatClampNeg → ¬ u.2 2 (480 * P + (60 * c' + l')) = nI i) ∨ ∃ X Y, x = nI X ∧ y = nI Y ∧ X < 8 ∧ Y < (u.2 0 (8 * P + X)).toNatClampNeg ∧ u.2 2 (480 * P + (60 * X + Y)) = nI i ∧ (∃ r, r ∈ c i ∧ r.1 = P) ∧ ∀ c' l', c' < 8 → l' < (u.2 0 (8 * P + c')).toNatClampNeg → (c' < X ∨ (c' = X ∧ l' < Y)) → ¬ u.2 2 (480 * P + (60 * c' + l')) = nI i := by
  have g := uI_g h
  have hn := n80 h.1
  have hX := gH_cX h.2.2.2.1
  have hc6 := g.2.2.2.2.2 i
  have ec := cnt_e g hi
  have ept : ptN u i = (c i).length := by
    unfold ptN
    by_cases q : i < (u.1 3).toNatClampNeg
    · rw [if_pos q]; exact ec
    · rw [if_neg q, g.2.2.2.2.1 i (by omega)]; rfl
  -- a cell of the item on the page lies in one of its pieces there
  have cell : ∀ c' l', c' < 8 → l' < (u.2 0 (8 * P + c')).toNatClampNeg → u.2 2 (480 * P + (60 * c' + l')) = nI i → ∃ k r, k < ptN u i ∧ r ∈ c i ∧ slE u (6 * i + k) r ∧ r.1 = P ∧ r.2.1 ≤ c' ∧ c' < r.2.1 + r.2.2.2.1 ∧ r.2.2.1 ≤ l' ∧ l' < r.2.2.1 + r.2.2.2.2 := fun c' l' h1 h2 h3 => by
    have l6 := ln60 h.1 (j := 8 * P + c') (by omega)
    rw [show 480 * P + (60 * c' + l') = 480 * P + 60 * c' + l' by omega] at h3
    obtain ⟨r, r1, r2⟩ := (g.2.1.1 _ (by omega) i hi).mp h3
    rw [inR_xy (g.2.2.1 i r r1).1 h1 (by omega)] at r2
    obtain ⟨t, t1, t2⟩ := r_pc g hi r1
    exact ⟨t, r, by rw [ept, ← ec]; exact t1, r1, t2, r2⟩
  rcases hR with ⟨h1, h2⟩ | ⟨k, -, hk, hp, hm, ex, ey⟩
  · refine Or.inl ⟨h1, fun c' l' q1 q2 q3 => ?_⟩
    obtain ⟨k, r, k1, k2, k3, k4, -⟩ := cell c' l' q1 q2 q3
    exact h2 k (Nat.zero_le _) k1 (by unfold pgK; rw [k3.1, k4])
  · obtain ⟨r, r1, r2⟩ := pc_r g (i := i) (t := k) hi (by rw [ec, ← ept]; exact hk)
    obtain ⟨kr, lr⟩ := g.2.2.1 i r r1
    have rP : r.1 = P := (nI_inj (by have := kr.1; omega) (by omega)).mp (r2.1.symm.trans hp)
    have kr2 := kr
    obtain ⟨m1, m2, m3, m4, m5⟩ := kr2
    have lr2 := rLn_at lr rP (x := r.2.1) (Nat.le_refl _) (by omega)
    refine Or.inr ⟨r.2.1, r.2.2.1, ex.trans r2.2.1, ey.trans r2.2.2.1, by omega, by omega, ?_, ⟨r, r1, rP⟩, fun c' l' q1 q2 q3 q4 => ?_⟩
    · rw [show 480 * P + (60 * r.2.1 + r.2.2.1) = 480 * P + 60 * r.2.1 + r.2.2.1 by omega]
      exact (g.2.1.1 _ (by omega) i hi).mpr ⟨r, r1, (inR_xy kr (by omega) (by omega)).mpr ⟨rP, Nat.le_refl _, by omega, Nat.le_refl _, by omega⟩⟩
    · obtain ⟨k2, r', a1, a2, a3, a4, a5, a6, a7, a8⟩ := cell c' l' q1 q2 q4
      have kr' := (g.2.2.1 i r' a2).1
      rcases Nat.lt_trichotomy k2 k with z | z | z
      · exact hm k2 (Nat.zero_le _) z (by unfold pgK; rw [a3.1, a4])
      · rw [z] at a3
        have e := slE_u kr' kr a3 r2
        rw [e] at a5 a6 a7 a8
        omega
      · -- a later piece: a story's, behind
        by_cases q : i < (u.1 3).toNatClampNeg
        · by_cases k0 : u.2 4 i = 0
          · obtain ⟨s, s2, b1, b2, b3, b4, b5⟩ := sl_bhd (g.2.2.2.1 i hi).2 ((hX i q).2.2.1 k0).2 k k2 z (by rw [← ept]; exact a1)
            have e1 := slE_u (g.2.2.1 i s b1).1 kr b3 r2
            have e2 := slE_u (g.2.2.1 i s2 b2).1 kr' b4 a3
            rw [e1, e2] at b5
            unfold bhd at b5
            rw [rP, a4] at b5
            omega
          · have := (hX i q).2.1 k0
            omega
        · rw [g.2.2.2.2.1 i (by omega)] at a2
          exact absurd a2 List.not_mem_nil
theorem uI_plate {u w : mS} {es : List hE} {c : cfg} (h : uI u es c) {P : Nat} (hP : P < 12) (hB : plB u P w) (hI : plI9 u P w 80) : uI w es c := by
  have h0 := h
  have hX := gH_cX h.2.2.2.1
  have g := uI_g h
  have hn := n80 h.1
  obtain ⟨⟨b1, b2, b40, b41, b42⟩, b44, b43⟩ := hB
  obtain ⟨i1, i2⟩ := hI
  have w43 : ∀ j, j < 96 → bw (w.2 43 j) 0 60 = true := fun j hj => by
    rw [b43 j]
    split
    · exact h.1.2.2.1 j hj
    · exact h.1.2.2.2.1 j hj
  have hk := (mKp_Pl (uI_M h) ⟨b1, b2, w43⟩).1.1
  obtain ⟨a1, a2, a3, a4, a5, a6, a7, a8, a9, a10, a11⟩ := h
  have e3 := b1 3 (by decide) (by decide) (by decide)
  have n43 : ∀ c', c' < 8 → w.2 43 (8 * P + c') = u.2 0 (8 * P + c') := fun c' hc => by rw [b43, if_pos (by omega)]
  have n44 : ∀ j, j < 480 → w.2 44 (480 * P + j) = u.2 2 (480 * P + j) := fun j hj => by rw [b44, if_pos (by omega)]
  have o43 : ∀ p c', p < 12 → p ≠ P → c' < 8 → w.2 43 (8 * p + c') = u.2 43 (8 * p + c') := fun p c' hp hpp hc => by rw [b43, if_neg (by omega)]
  have o44 : ∀ p j, p < 12 → p ≠ P → j < 480 → w.2 44 (480 * p + j) = u.2 44 (480 * p + j) := fun p j hp hpp hj => by rw [b44, if_neg (by omega)]
  have o45 : ∀ p i, p < 12 → p ≠ P → i < 80 → w.2 45 (80 * p + i) = u.2 45 (80 * p + i) ∧ w.2 46 (80 * p + i) = u.2 46 (80 * p + i) := fun p i hp hpp hi => i1 _ (by omega)
  refine ⟨hk, kB_c a2 (b2 4 (by omega)) (b2 10 (by omega)), mH_c a3 e3 (b1 28 (by decide) (by decide) (by decide)) (b1 36 (by decide) (by decide) (by decide)) (b2 4 (by omega)) (fun k k1 k2 => b2 k (by omega)), ?_, nwI_e a5 e3 (fun r r1 => b2 r (by omega)), fun p hp h40 i hi => ?_, fun p hp h40 i hi h4 h45 => ?_, fun p hp h40 i hi1 hi2 => ?_, ?_, rvI_c a10 (b2 20 (by omega)), by rw [b1 39 (by decide) (by decide) (by decide)]; exact a11⟩
  · rw [b2 2 (by omega)]
    exact gH_e e3 (b2 0 (by omega)) (b2 4 (by omega)) (b2 11 (by omega)) a4
  · by_cases e : p = P
    · rw [e]
      rcases pl_new h0 hP hi (i2 i hi) with ⟨q1, q2⟩ | ⟨X, Y, q1, q2, q3, q4, q5, -, q6⟩
      · refine Or.inl ⟨q1, fun c' l' h1 h2 => ?_⟩
        rw [n43 c' h1] at h2
        have l6 := ln60 a1 (j := 8 * P + c') (by omega)
        rw [n44 _ (by omega)]
        exact q2 c' l' h1 h2
      · have l6 := ln60 a1 (j := 8 * P + X) (by omega)
        refine Or.inr ⟨X, Y, q1, q2, q3, by rw [n43 X q3]; exact q4, by rw [n44 _ (by omega)]; exact q5, fun c' l' h1 h2 h3 => ?_⟩
        rw [n43 c' h1] at h2
        have l7 := ln60 a1 (j := 8 * P + c') (by omega)
        rw [n44 _ (by omega)]
        exact q6 c' l' h1 h2 h3
    · rw [b40, if_neg e] at h40
      have l43 : ∀ c', c' < 8 → (u.2 43 (8 * p + c')).toNatClampNeg ≤ 60 := fun c' hc => by
        obtain ⟨z1, z2, z3⟩ := nI_of_bw (a1.2.2.2.1 (8 * p + c') (by omega))
        have h60 : (60 : Int32).toInt = 60 := rfl
        omega
      rw [(o45 p i hp e hi).1, (o45 p i hp e hi).2]
      rcases a6 p hp h40 i hi with ⟨q1, q2⟩ | ⟨X, Y, q1, q2, q3, q4, q5, q6⟩
      · refine Or.inl ⟨q1, fun c' l' h1 h2 => ?_⟩
        rw [o43 p c' hp e h1] at h2
        have := l43 c' h1
        rw [o44 p _ hp e (by omega)]
        exact q2 c' l' h1 h2
      · have := l43 X q3
        refine Or.inr ⟨X, Y, q1, q2, q3, by rw [o43 p X hp e q3]; exact q4, by rw [o44 p _ hp e (by omega)]; exact q5, fun c' l' h1 h2 h3 => ?_⟩
        rw [o43 p c' hp e h1] at h2
        have := l43 c' h1
        rw [o44 p _ hp e (by omega)]
        exact q6 c' l' h1 h2 h3
  · rw [b2 4 (by omega)] at h4
    rw [b2 11 (by omega)]
    by_cases e : p = P
    · rw [e] at h45 ⊢
      rcases pl_new h0 hP hi (i2 i hi) with ⟨q1, -⟩ | ⟨X, Y, -, -, -, -, -, ⟨r, r1, r2⟩, -⟩
      · exact absurd q1 h45
      · by_cases q : i < (u.1 3).toNatClampNeg
        · rw [← r2]; exact (hX i q).2.2.2 h4 r r1
        · rw [g.2.2.2.2.1 i (by omega)] at r1
          exact absurd r1 List.not_mem_nil
    · rw [b40, if_neg e] at h40
      rw [(o45 p i hp e hi).1] at h45
      exact a7 p hp h40 i hi h4 h45
  · rw [e3] at hi1
    by_cases e : p = P
    · rw [e]
      have z := i2 i hi2
      have ept : ptN u i = 0 := by unfold ptN; rw [if_neg (by omega)]
      rw [ept] at z
      rcases z with ⟨z, -⟩ | ⟨k, -, z, -⟩
      · exact z
      · exact absurd z (Nat.not_lt_zero _)
    · rw [b40, if_neg e] at h40
      rw [(o45 p i hp e hi2).1]
      exact a8 p hp h40 i hi1 hi2
  · unfold foI at a9 ⊢
    rw [b1 38 (by decide) (by decide) (by decide), b2 47 (by omega), b2 48 (by omega)]; exact a9
