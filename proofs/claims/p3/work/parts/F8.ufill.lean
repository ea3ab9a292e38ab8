/-- what a column that is filled keeps -/
def fcQ (u0 : mS) (P c t : Nat) (s : mS × List fX × Nat) : Prop := s.1.2 0 = u0.2 0 ∧ s.1.2 2 = gFill (u0.2 2) s.2.1 ∧ frL9 (u0.2 2) s.2.1 ∧ (∀ x, x ∈ s.2.1 → rLn u0 (xR x)) ∧ s.2.2 ≤ t ∧ ∀ b, b < s.2.2 → mCellAt s.1 (nI P) (nI c) (nI (t - s.2.2 + b)) = (-2)
theorem nI_nn {x : Int32} (h : 0 ≤ x) : nI x.toNatClampNeg = x := by
  rw [i32_le, i0] at h
  exact (nI_of_bw (x := x) (hi := x) (bw_iff.mpr ⟨by rw [i0]; exact h, Int.le_refl _⟩)).1.symm
theorem fcQ_s {u0 : mS} {P c t : Nat} {s : mS × List fX × Nat} (hr : rI u0) (hP : P < 12) (hc : c < 8) (ht : t ≤ 60) (h : fcQ u0 P c t s) : fcQ u0 P c (t + 1) (fcT P c t s) := by
  obtain ⟨u, xs, r⟩ := s
  obtain ⟨h0, h2, h3, h4, h5, h6⟩ := h
  have h0 : u.2 0 = u0.2 0 := h0
  have h2 : u.2 2 = gFill (u0.2 2) xs := h2
  have h3 : frL9 (u0.2 2) xs := h3
  have h4 : ∀ x, x ∈ xs → rLn u0 (xR x) := h4
  have h5 : r ≤ t := h5
  have h6 : ∀ b, b < r → mCellAt u (nI P) (nI c) (nI (t - r + b)) = (-2) := h6
  unfold fcT
  dsimp only
  by_cases e : mCellAt u (nI P) (nI c) (nI t) = (-2)
  · rw [if_pos e]
    refine ⟨h0, h2, h3, h4, by show r + 1 ≤ t + 1; omega, fun b hb => ?_⟩
    have hb : b < r + 1 := hb
    show mCellAt u (nI P) (nI c) (nI (t + 1 - (r + 1) + b)) = (-2)
    rw [show t + 1 - (r + 1) + b = t - r + b by omega]
    by_cases q : b < r
    · exact h6 b q
    · rw [show t - r + b = t by omega]; exact e
  · rw [if_neg e]
    by_cases q : 0 < r ∧ 0 ≤ mFFr u (nI r) (u.1 3).toNatClampNeg (u.1 3).toNatClampNeg
    · rw [if_pos q]
      have hq := nI_nn q.2
      generalize mFFr u (nI r) (u.1 3).toNatClampNeg (u.1 3).toNatClampNeg = i at q hq
      have hin := fc_in (u := u) hP hc (fun a ha => by rw [h0]; exact hr.2.2.1 _ (by omega)) q.1 h5 (by omega) h6
      refine ⟨?_, ?_, ⟨h3, fun j hj => ?_⟩, fun x hx => ?_, Nat.zero_le _, fun b hb => absurd hb (Nat.not_lt_zero _)⟩
      · show (mStand u i P c (t - r) 1 r).2 0 = u0.2 0
        rw [mStand_k2 _ _ _ _ _ _ _ (by decide) (by decide)]; exact h0
      · show (mStand u i P c (t - r) 1 r).2 2 = setF (gFill (u0.2 2) xs) (P, c, t - r, 1, r) (nI i.toNatClampNeg)
        rw [mStand_2, hq, h2]; rfl
      · obtain ⟨x, y, hx, hy, ej⟩ := hj
        have hx : x < 1 := hx
        have hy : y < r := hy
        have ej : j = 480 * P + 60 * (c + x) + (t - r + y) := ej
        have z := (mCA (h6 y hy)).2
        rw [ix_c hP hc (by omega), h2] at z
        rw [ej, show c + x = c by omega]
        exact z
      · rcases List.mem_cons.mp hx with g | g
        · rw [g]
          have z := hin.2.2.2.2.2
          intro a ha
          have z2 := z a ha
          rw [h0] at z2
          exact z2
        · exact h4 x g
    · rw [if_neg q]
      exact ⟨h0, h2, h3, h4, Nat.zero_le _, fun b hb => absurd hb (Nat.not_lt_zero _)⟩
theorem fcN_Q {u0 u1 : mS} {x1 : List fX} {P c : Nat} (hr : rI u0) (hP : P < 12) (hc : c < 8) (h0 : u1.2 0 = u0.2 0) (h2 : u1.2 2 = gFill (u0.2 2) x1) (h3 : frL9 (u0.2 2) x1) (h4 : ∀ x, x ∈ x1 → rLn u0 (xR x)) : ∀ t, t ≤ 61 → fcQ u0 P c t (fcN u1 x1 P c t)
  | 0, _ => ⟨h0, h2, h3, h4, Nat.le_refl _, fun b hb => absurd hb (Nat.not_lt_zero _)⟩
  | t + 1, ht => fcQ_s hr hP hc (by omega) (fcN_Q hr hP hc h0 h2 h3 h4 t (by omega))
theorem flN_Q {u0 : mS} {P : Nat} (hr : rI u0) (hP : P < 12) : ∀ c, c ≤ 8 → (flN u0 P c).1.2 0 = u0.2 0 ∧ (flN u0 P c).1.2 2 = gFill (u0.2 2) (flN u0 P c).2 ∧ frL9 (u0.2 2) (flN u0 P c).2 ∧ ∀ x, x ∈ (flN u0 P c).2 → rLn u0 (xR x)
  | 0, _ => ⟨rfl, rfl, trivial, fun x hx => absurd hx List.not_mem_nil⟩
  | c + 1, hc => by
    obtain ⟨h0, h2, h3, h4⟩ := flN_Q hr hP c (by omega)
    have l6 := ln60 hr (j := 8 * P + c) (by omega)
    have q := fcN_Q hr hP (c := c) (by omega) h0 h2 h3 h4 (((flN u0 P c).1.2 0 (8 * P + c)).toNatClampNeg + 1) (by rw [h0]; omega)
    exact ⟨q.1, q.2.1, q.2.2.1, q.2.2.2.1⟩
/-- a piece that came and went again -/
theorem try_2 {u : mS} {a P X Y N : Nat} (hf : ∀ j, inR (P, X, Y, 1, N) j → u.2 2 j = (-2)) : (mTry u (nI a) P X Y N).2 2 = u.2 2 := by
  unfold mTry
  rw [mUnstand_2, mStand_2]
  show setF (setF (u.2 2) (P, X, Y, 1, N) (nI a)) (P, X, Y, 1, N) (-2) = u.2 2
  exact setF_re hf
theorem try_22 {u : mS} {a P X Y N : Nat} (ha : a < 80) : (mTry u (nI a) P X Y N).2 22 = u.2 22 := by
  funext j
  unfold mTry
  rw [mUnstand_22o, mStand_22o, mStand_22o]
  by_cases e : j = (nI a).toNatClampNeg
  · rw [if_pos e, if_pos rfl, addsub1, e]
  · rw [if_neg e, if_neg e]
theorem try_k {u : mS} {a P X Y N k : Nat} (h1 : k ≠ 2) (h2 : k < 22 ∨ 27 < k) : (mTry u (nI a) P X Y N).2 k = u.2 k := by
  unfold mTry
  rw [mUnstand_k _ _ _ _ _ _ _ h1 (by omega), mStand_k2 _ _ _ _ _ _ _ h1 h2]
theorem uI_try {u : mS} {es : List hE} {c : cfg} (h : uI u es c) {a P X Y N : Nat} (ha : a < 80) (hl : (c a).length ≤ 5) (hX : X + 1 ≤ 8) (hf : ∀ j, inR (P, X, Y, 1, N) j → u.2 2 j = (-2)) : uI (mTry u (nI a) P X Y N) es c := by
  obtain ⟨a1, a2, a3, a4, a5, a6, a7, a8, a9, a10, a11⟩ := h
  have ho : ∀ k, k ≠ 2 → k < 22 ∨ 27 < k → (mTry u (nI a) P X Y N).2 k = u.2 k := fun k k1 k2 => try_k k1 k2
  have e1 := mTry_1 u (nI a) P X Y N
  refine ⟨rI_unstand (rI_stand a1 ha hX) _ _ _ _ _ _, kB_c a2 (ho 4 (by decide) (by decide)) (ho 10 (by decide) (by decide)), try_H a3 ha hl P X Y N, ?_, nwI_e a5 (by rw [e1]) (fun r r1 => ho r (by omega) (by omega)), plI_c a6 (fun r r1 r2 => ho r (by omega) (by omega)), ?_, ?_, ?_, rvI_c a10 (ho 20 (by decide) (by decide)), by rw [e1]; exact a11⟩
  · rw [try_2 hf]
    exact gH_e (by rw [e1]) (ho 0 (by decide) (by decide)) (ho 4 (by decide) (by decide)) (ho 11 (by decide) (by decide)) a4
  · unfold sdI at a7 ⊢
    rw [ho 40 (by decide) (by decide), ho 4 (by decide) (by decide), ho 45 (by decide) (by decide), ho 11 (by decide) (by decide)]; exact a7
  · unfold plZ at a8 ⊢
    rw [e1, ho 40 (by decide) (by decide), ho 45 (by decide) (by decide)]; exact a8
  · unfold foI at a9 ⊢
    rw [e1, ho 47 (by decide) (by decide), ho 48 (by decide) (by decide)]; exact a9
theorem try_slot {u : mS} {a P X Y N r j : Nat} (h1 : 23 ≤ r) (h2 : r ≤ 27) (hj : j ≠ (6 * nI a + u.2 22 (nI a).toNatClampNeg).toNatClampNeg) : (mTry u (nI a) P X Y N).2 r j = u.2 r j := by
  unfold mTry
  rw [mUnstand_k _ _ _ _ _ _ _ (by omega) (by omega)]
  obtain ⟨q1, q2, q3, q4, q5⟩ := mStand_r u (nI a) P X Y 1 N j
  rw [if_neg hj] at q1 q2 q3 q4 q5
  have hr : r = 23 ∨ r = 24 ∨ r = 25 ∨ r = 26 ∨ r = 27 := by omega
  rcases hr with e | e | e | e | e <;> subst e
  · exact q1
  · exact q2
  · exact q3
  · exact q4
  · exact q5
theorem rep_try {q : Nat → ClassId} {d : Nat → Nat} {u : mS} {z : gS} {f : xF} {es : List hE} {c : cfg} (h : uI u es c) (hrp : rep q d u z f) {a P X Y N : Nat} (ha : a < 80) (hl : (c a).length ≤ 5) (hf : ∀ j, inR (P, X, Y, 1, N) j → u.2 2 j = (-2)) : rep q d (mTry u (nI a) P X Y N) z f := by
  have g := uI_g h
  have hn := n80 h.1
  have e1 := mTry_1 u (nI a) P X Y N
  refine rep_ext hrp (by rw [e1]) (fun r hr => ?_) (fun r r1 r2 j hj t ht => try_slot r1 r2 ?_)
  · by_cases e : r = 2
    · rw [e]; exact try_2 hf
    · by_cases e2 : r = 22
      · rw [e2]; exact try_22 ha
      · exact try_k e (by omega)
  · have h6 := g.2.2.2.2.2 a
    have hj6 := g.2.2.2.2.2 j
    rw [cnt_e g (by omega)] at ht
    rw [nI_clamp (n := a) (by omega), (g.2.2.2.1 a ha).1, ix6, nI_clamp (by omega)]
    intro q
    have : j = a := by omega
    rw [this] at ht
    omega
theorem try_stand {u : mS} {a P X Y D N : Nat} (ha : a < 80) (hf : ∀ j, inR (P, X, Y, 1, N) j → u.2 2 j = (-2)) : mStand (mTry u (nI a) P X Y N) (nI a) P X Y D N = mStand u (nI a) P X Y D N := by
  refine mS_x (by rw [mStand_1, mStand_1, mTry_1]) (fun r j => ?_)
  by_cases e2 : r = 2
  · rw [e2, mStand_2, mStand_2, try_2 hf]
  · by_cases e22 : r = 22
    · rw [e22, mStand_22o, mStand_22o, try_22 ha]
    · by_cases e : 23 ≤ r ∧ r ≤ 27
      · obtain ⟨q1, q2, q3, q4, q5⟩ := mStand_r (mTry u (nI a) P X Y N) (nI a) P X Y D N j
        obtain ⟨p1, p2, p3, p4, p5⟩ := mStand_r u (nI a) P X Y D N j
        rw [try_22 ha] at q1 q2 q3 q4 q5
        by_cases s : j = (6 * nI a + u.2 22 (nI a).toNatClampNeg).toNatClampNeg
        · rw [if_pos s] at q1 q2 q3 q4 q5 p1 p2 p3 p4 p5
          have hr : r = 23 ∨ r = 24 ∨ r = 25 ∨ r = 26 ∨ r = 27 := by omega
          rcases hr with z | z | z | z | z <;> subst z
          · rw [q1, p1]
          · rw [q2, p2]
          · rw [q3, p3]
          · rw [q4, p4]
          · rw [q5, p5]
        · rw [if_neg s] at q1 q2 q3 q4 q5 p1 p2 p3 p4 p5
          have t := try_slot (u := u) (P := P) (X := X) (Y := Y) (N := N) e.1 e.2 s
          have hr : r = 23 ∨ r = 24 ∨ r = 25 ∨ r = 26 ∨ r = 27 := by omega
          rcases hr with z | z | z | z | z <;> subst z
          · rw [q1, p1]; exact t
          · rw [q2, p2]; exact t
          · rw [q3, p3]; exact t
          · rw [q4, p4]; exact t
          · rw [q5, p5]; exact t
      · rw [mStand_k2 _ _ _ _ _ _ _ e2 (by omega), mStand_k2 _ _ _ _ _ _ _ e2 (by omega), try_k e2 (by omega)]
