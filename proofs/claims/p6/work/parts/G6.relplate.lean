theorem hd_of {q : Nat → ClassId} {d : Nat → Nat} {z : gS} {f : xF} {u : mS} {es : List hE} {c : cfg} (hrp : rep q d u z f) (hu : uI u es c) : hdI u c := fun i hi h1 => by
  have hn := n80 hu.1
  refine ⟨((gH_cX hu.2.2.2.1) i hi).2.1 (by rw [h1]; decide), fun q9 => ?_⟩
  obtain ⟨-, -, -, -, rs, g, fg, -, -, -, -, -, hr⟩ := hrp.2.2.1.2 i hi
  obtain ⟨o, ho, e9, -⟩ := hr.2.1 h1
  rw [e9] at q9
  have z := congrArg Int32.toInt q9
  rw [nI_toInt (by omega)] at z
  have e1 : (-1 : Int32).toInt = -1 := rfl
  omega
theorem uI_E {u w : mS} {es : List hE} {c : cfg} (h : uI u es c) (he : mE u w) : uI w es c := uI_c h he.2 (fun k _ => by rw [he.1]) (rI_c h.1 (fun k hk => he.2 k (by unfold kI at hk; omega) (by unfold kI at hk; omega) (by unfold kI at hk; omega)) (fun k _ => by rw [he.1])) (nwI_e h.2.2.2.2.1 (he.2 3 (by decide) (by decide) (by decide)) (fun r _ => by rw [he.1])) (rvI_c h.2.2.2.2.2.2.2.2.2.1 (by rw [he.1]))
theorem rep_E {q : Nat → ClassId} {d : Nat → Nat} {z : gS} {f : xF} {u w : mS} (hrp : rep q d u z f) (he : mE u w) : rep q d w z f := rep_rows hrp (he.2 3 (by decide) (by decide) (by decide)) (fun r _ => by rw [he.1])
theorem k4_E {k : Nat → Int32} {u w : mS} (hk : k 0 = u.1 3 ∧ k 1 = u.1 28 ∧ k 2 = u.1 38 ∧ k 3 = u.1 39) (he : ∀ k, k ≠ 49 → k ≠ 50 → k ≠ 51 → w.1 k = u.1 k) : k 0 = w.1 3 ∧ k 1 = w.1 28 ∧ k 2 = w.1 38 ∧ k 3 = w.1 39 := by
  rw [he 3 (by decide) (by decide) (by decide), he 28 (by decide) (by decide) (by decide), he 38 (by decide) (by decide) (by decide), he 39 (by decide) (by decide) (by decide)]
  exact hk
theorem step_broken {q : Nat → ClassId} {h0 : Nat} {d : Nat → Nat} {k : Nat → Int32} {z : gS} {f : xF} {u : mS} {w : xU} {p wh r r2 : Int32} {u9 : mS} (h : RR q h0 d k z f u) (hx : bkP q h0 d k z f u p wh r w) (hm : bkX u p wh r2 u9) : r = r2 ∧ RR q h0 d w.1 w.2.1 w.2.2 u9 := by
  obtain ⟨hI, hrp, hk, hz, es, c, g, hu, hg, hL⟩ := h
  obtain ⟨he, hm⟩ := hm
  have hk9 := k4_E hk he.2
  rcases hx with ⟨x1, x2, x3⟩ | ⟨x1, x2, x, y, t, x3, x4, x5, x6, x7, x8, x9⟩
  · rcases hm with ⟨-, m2⟩ | ⟨m1, m2, -⟩
    · rw [x2, m2, x3]
      exact ⟨rfl, hI, rep_E hrp he, hk9, hz, es, c, g, uI_E hu he, hg, hL⟩
    · rcases x1 with q | q
      · exact absurd m1 q
      · exact absurd m2 q
  · rcases hm with ⟨m1, -⟩ | ⟨-, -, b, m3, m4⟩
    · rcases m1 with q | q
      · exact absurd x1 q
      · exact absurd x2 q
    · obtain ⟨P, hP, -, eP⟩ := exN x1 (by decide)
      have h11 : (11 : Int32).toInt = 11 := rfl
      rw [eP] at x3 m3
      have eb := br_eq (uI_g hu) (by omega) hu.2.1 hu.2.2.2.2.2.2.2.2.2.1 (hd_of hrp hu) x3 m3
      refine ⟨?_, RR_st hI hz hu hg hL x6 (by rw [x5]; exact x7) (rep_E x8 he) (by rw [x5]; exact hk9) x9 rfl (fun _ _ => rfl) (uI_E hu he)⟩
      rw [x4, m4, eb]
theorem shCC_e {u : mS} {P : Nat} {gl : Nat → Int32} (hP : P < 12) (hl : eqR 8 gl (u.2 0) (8 * P)) : ∀ n, n ≤ 8 → shCC gl n = plS u (nI P) n
  | 0, _ => rfl
  | n + 1, hn => by
    show shCC gl n + gl (nI n).toNatClampNeg = plS u (nI P) n + u.2 0 (8 * nI P + nI n).toNatClampNeg
    rw [shCC_e hP hl n (by omega), nI_clamp (by omega), idx8 hP (by omega), hl n (by omega)]
theorem shE_n {gl gc : Nat → Int32} {c : Int32} : ∀ n, n ≤ 60 → ∃ m, m ≤ n ∧ shE gl gc c n = nI m ∧ (m = 0 ↔ ∀ l, l < n → ¬ shAt gl gc c (nI l) = (-2))
  | 0, _ => ⟨0, Nat.le_refl _, rfl, ⟨fun _ l h => absurd h (Nat.not_lt_zero _), fun _ => rfl⟩⟩
  | n + 1, hn => by
    obtain ⟨m, m1, m2, m3⟩ := shE_n (gl := gl) (gc := gc) (c := c) n (by omega)
    show ∃ m, m ≤ n + 1 ∧ shE gl gc c n + (if shAt gl gc c (nI n) = (-2) then 1 else 0) = nI m ∧ _
    by_cases e : shAt gl gc c (nI n) = (-2)
    · refine ⟨m + 1, by omega, by rw [if_pos e, m2, nI_1], ⟨fun z => absurd z (by omega), fun z => absurd e (z n (Nat.lt_succ_self _))⟩⟩
    · refine ⟨m, by omega, by rw [if_neg e, m2, Int32.add_zero], ⟨fun z l hl => ?_, fun z => m3.mpr (fun l hl => z l (by omega))⟩⟩
      by_cases q : l = n
      · rw [q]; exact e
      · exact m3.mp z l (by omega)
theorem shEC_n {gl gc : Nat → Int32} (hb : ∀ j, j < 8 → bw (gl j) 0 60 = true) : ∀ n, n ≤ 8 → ∃ m, m ≤ 60 * n ∧ shEC gl gc n = nI m ∧ (m = 0 ↔ ∀ c, c < n → ∀ l, l < (gl c).toNatClampNeg → ¬ shAt gl gc (nI c) (nI l) = (-2))
  | 0, _ => ⟨0, Nat.le_refl _, rfl, ⟨fun _ c h => absurd h (Nat.not_lt_zero _), fun _ => rfl⟩⟩
  | n + 1, hn => by
    obtain ⟨m, m1, m2, m3⟩ := shEC_n (gc := gc) hb n (by omega)
    obtain ⟨a1, a2, a3⟩ := nI_of_bw (hb n (by omega))
    have h60 : (60 : Int32).toInt = 60 := rfl
    obtain ⟨k, k1, k2, k3⟩ := shE_n (gl := gl) (gc := gc) (c := nI n) (gl n).toNatClampNeg (by omega)
    refine ⟨m + k, by omega, ?_, ⟨fun z c hc l hl => ?_, fun z => ?_⟩⟩
    · show shEC gl gc n + shE gl gc (nI n) (gl (nI n).toNatClampNeg).toNatClampNeg = _
      rw [nI_clamp (by omega), m2, k2, nI_add]
    · by_cases q : c = n
      · rw [q] at hl ⊢
        exact k3.mp (by omega) l hl
      · exact m3.mp (by omega) c (by omega) l hl
    · have z1 := m3.mpr (fun c hc l hl => z c (by omega) l hl)
      have z2 := k3.mpr (fun l hl => z n (Nat.lt_succ_self _) l hl)
      omega
/-- an empty cell -/
theorem shEC_e {u : mS} {P : Nat} {gl gc : Nat → Int32} (hr : rI u) (hP : P < 12) (hl : eqR 8 gl (u.2 0) (8 * P)) (hc : eqR 480 gc (u.2 2) (480 * P)) (hb : ∀ j, j < 8 → bw (gl j) 0 60 = true) : 0 < shEC gl gc 8 ↔ plEx u (nI P) := by
  obtain ⟨m, m1, m2, m3⟩ := shEC_n (gc := gc) hb 8 (Nat.le_refl _)
  rw [m2, i32_lt, i0, nI_toInt (by omega)]
  have cell : ∀ c l, c < 8 → l < (gl c).toNatClampNeg → shAt gl gc (nI c) (nI l) = u.2 2 (480 * nI P + 60 * nI c + nI l).toNatClampNeg ∧ l < lnN u (nI P) c := fun c l h1 h2 => by
    rw [shAt_eq hP hl hc hb]
    have e0 : gl c = u.2 0 (8 * P + c) := hl c h1
    rw [e0] at h2
    have l6 := ln60 hr (j := 8 * P + c) (by omega)
    unfold mCellAt
    rw [if_pos ((mC_cel hr hP (by omega) (by omega)).mpr ⟨h1, h2⟩)]
    exact ⟨rfl, by rw [lnN_e hP h1]; exact h2⟩
  constructor
  · intro z
    refine Classical.byContradiction (fun q => ?_)
    have z1 : m = 0 := m3.mpr (fun c hc l hl2 e => q ⟨c, l, hc, (cell c l hc hl2).2, by rw [← (cell c l hc hl2).1]; exact e⟩)
    omega
  · rintro ⟨c, l, h1, h2, h3⟩
    refine Classical.byContradiction (fun q => ?_)
    have z1 := m3.mp (by omega)
    rw [lnN_e hP h1, ← hl c h1] at h2
    exact z1 c h1 l h2 (by rw [(cell c l h1 h2).1]; exact h3)
theorem brM_0 {u : mS} {p x y t : Int32} (h : brM u p x y t) : x = 0 ↔ x ≤ 0 := by
  have e : x = 0 ∨ x = 1 ∨ x = 2 ∨ x = 3 ∨ x = 4 ∨ x = 5 := by
    rcases h with h | ⟨-, h⟩
    · exact Or.inr (Or.inl h.1)
    rcases h with h | ⟨-, h⟩
    · exact Or.inr (Or.inr (Or.inl h.1))
    rcases h with h | ⟨-, h⟩
    · exact Or.inr (Or.inr (Or.inr (Or.inl h.1)))
    rcases h with h | ⟨-, h⟩
    · exact Or.inr (Or.inr (Or.inr (Or.inr (Or.inl h.1))))
    rcases h with h | ⟨-, h⟩
    · exact Or.inr (Or.inr (Or.inr (Or.inr (Or.inr h.1))))
    exact Or.inl h.1
  rcases e with e | e | e | e | e | e <;> rw [e] <;> decide
theorem step_plate {q : Nat → ClassId} {h0 : Nat} {d : Nat → Nat} {k : Nat → Int32} {z : gS} {f : xF} {u : mS} {w : xU} {p r r2 : Int32} {u9 : mS} (h : RR q h0 d k z f u) (hx : plP q h0 d k z f u p r w) (hm : plX u p r2 u9) : r = r2 ∧ ∃ d2, RR q h0 d2 w.1 w.2.1 w.2.2 u9 := by
  obtain ⟨hI, hrp, hk, hz, es, c, g, hu, hg, hL⟩ := h
  obtain ⟨x1, x2, x3, hx⟩ := hx
  have br : ∀ P x y t b, P < 12 → brM u (nI P) x y t → best (brS u (nI P) (u.1 3).toNatClampNeg) b → b = (x, y, t) := fun P x y t b hP a1 a2 => br_eq (uI_g hu) hP hu.2.1 hu.2.2.2.2.2.2.2.2.2.1 (hd_of hrp hu) a1 a2
  have h11 : (11 : Int32).toInt = 11 := rfl
  rcases hx with ⟨no, n1, n2, n3⟩ | ⟨⟨y1, gl, gc, y2, y3, y4, y5, y6, y7, y, t, y8⟩, d2, y9, y10, y11⟩
  · rcases hm with ⟨m1, m2, -⟩ | ⟨m1, m2, m3, m4, ⟨b, m5, m6⟩, -⟩
    · refine ⟨by rw [n1, m1], d, RR_st hI hz hu hg hL x2 (by rw [x1]; exact n2) (rep_E n3 m2) (by rw [x1]; exact k4_E hk m2.2) x3 rfl (fun _ _ => rfl) (uI_E hu m2)⟩
    · exfalso
      rcases no with a | ⟨-, gl, gc, a2, a3, a4, a5⟩
      · exact a m1
      · obtain ⟨P, hP, -, eP⟩ := exN m1 (by decide)
        have hPc : p.toNatClampNeg = P := by rw [eP, nI_clamp (by omega)]
        rw [hPc] at a2 a3
        rw [eP] at m2 m3 m5 a5
        rcases a5 with a | a | ⟨x, y, t, a6, a7⟩
        · rw [shCC_e (by omega) a2 8 (Nat.le_refl _)] at a
          exact m4 (m3.trans a)
        · exact m2 ((shEC_e hu.1 (by omega) a2 a3 a4).mp a)
        · have e := br P x y t b (by omega) a6 m5
          rw [e] at m6
          exact a7 ((brM_0 a6).mpr m6)
  · obtain ⟨P, hP, -, eP⟩ := exN y1 (by decide)
    have hPc : p.toNatClampNeg = P := by rw [eP, nI_clamp (by omega)]
    rw [hPc] at y2 y3 y11
    rw [eP] at y8
    rcases hm with ⟨m1, m2, m3⟩ | ⟨m1, m2, m3, m4, -, P2, p1, p2, p3, p4⟩
    · exfalso
      rcases m3 with a | ⟨-, a⟩
      · exact a y1
      · rw [eP] at a
        rcases a with a | a | ⟨b, a1, a2⟩
        · exact y7 ((shEC_e hu.1 (by omega) y2 y3 y4).mpr a)
        · exact y6 (by rw [y5, shCC_e (by omega) y2 8 (Nat.le_refl _)]; exact a)
        · have e := br P 0 y t b (by omega) y8 a1
          rw [e] at a2
          exact a2 (show (0 : Int32) ≤ 0 by decide)
    · have e2 : P2 = P := (nI_inj (by omega) (by omega)).mp (p2.symm.trans eP)
      subst e2
      obtain ⟨⟨b1, b2, b40, b41, b42⟩, b44, b43⟩ := id p3
      refine ⟨by rw [y5, m3, shCC_e (by omega) y2 8 (Nat.le_refl _), eP], d2, RR_st hI hz hu hg hL x2 (by rw [x1]; exact y10) (y11 u9 ⟨b1 3 (by decide) (by decide) (by decide), b2, b40, b41, b42, b43, b44⟩) (by rw [x1]; exact k4_E hk b1) x3 (y9 3 (Or.inl (by decide))) (fun j hj => y9 _ (Or.inr (by omega))) (uI_plate hu p1 p3 p4)⟩
/-- a question changes nothing -/
theorem RR_40 {q : Nat → ClassId} {h0 : Nat} {d : Nat → Nat} {k : Nat → Int32} {z : gS} {f : xF} {u : mS} (h : RR q h0 d k z f u) : (∀ p, p < 12 → u.2 40 p = 0 ∨ u.2 40 p = 1) ∧ ∀ i, i < (u.1 3).toNatClampNeg → 0 ≤ u.2 4 i ∧ u.2 4 i ≤ 5 := by
  obtain ⟨hI, hrp, -⟩ := h
  refine ⟨fun p hp => ?_, fun i hi => (hrp.2.2.1.2 i hi).2.2.2.1⟩
  obtain ⟨g, -, h2⟩ := hrp.2.1
  exact (h2 p hp).elim (fun z => Or.inl z.1) (fun z => Or.inr z.1)
