/-- five entries of the book that belong to item j -/
def bI (P : Nat → Prop) (j : Nat) : Prop := P (2000 + j) ∧ P (3000 + j) ∧ P (4000 + j) ∧ P (5000 + j) ∧ P (6000 + j)
/-- the book's entries outside X keep their contents -/
def fK (d : Nat → Nat) (z : gS) (f f2 : xF) (X : Nat → Prop) : Prop := (∀ x t, nO d z x t → ¬ X x → f2 (d x) = f (d x)) ∧ ∀ j, t3 d z j → ¬ X (3000 + j) → f2 (d (3000 + j)) = f (d (3000 + j))
theorem fK_rf (d : Nat → Nat) (z : gS) (f : xF) (X : Nat → Prop) : fK d z f f X := ⟨fun _ _ _ _ => rfl, fun _ _ _ => rfl⟩
theorem fK_up {d : Nat → Nat} {z : gS} {f f1 : xF} {X : Nat → Prop} {x t : Nat} {e : va_E} (h : fK d z f f1 X) (hx : nO d z x t) (ht : t ≠ 16) (hX : X x) : fK d z f (va_up f1 (d x) e) X :=
  ⟨fun y s hy n => by rw [up_o (nO_ne hy hx (fun e => n (e ▸ hX)))]; exact h.1 y s hy n, fun j hj n => by rw [up_o (tg_ne hj.1 hx.1 (fun e => ht e.symm))]; exact h.2 j hj n⟩
/-- u and w say the same of item j -/
def sI (u w : mS) (j : Nat) : Prop := (∀ r, 4 ≤ r → r ≤ 22 → r ≠ 16 → r ≠ 18 → r ≠ 19 → r ≠ 20 → r ≠ 21 → w.2 r j = u.2 r j) ∧ (∀ r, 23 ≤ r → r ≤ 27 → ∀ t, t < (u.2 22 j).toNatClampNeg → w.2 r (6 * j + t) = u.2 r (6 * j + t)) ∧ (∀ t, t < 5 → w.2 47 (5 * j + t) = u.2 47 (5 * j + t)) ∧ (∀ t, t < 80 → w.2 16 (80 * j + t) = u.2 16 (80 * j + t)) ∧ (∀ t, t < 4 → w.2 18 (4 * j + t) = u.2 18 (4 * j + t) ∧ w.2 19 (4 * j + t) = u.2 19 (4 * j + t)) ∧ (∀ t, t < 10 → w.2 21 (10 * j + t) = u.2 21 (10 * j + t)) ∧ ∀ t, t < 400 → w.2 48 (80 * t + j) = u.2 48 (80 * t + j)
theorem nO_d {d d2 : Nat → Nat} {z : gS} {x t : Nat} (e : d2 x = d x) (h : nO d z x t) : nO d2 z x t := by unfold nO; rw [e]; exact h
theorem eqR_w {n : Nat} {g r r2 : Nat → Int32} {o : Nat} (h : eqR n g r o) (hr : ∀ t, t < n → r2 (o + t) = r (o + t)) : eqR n g r2 o := fun t ht => by rw [hr t ht]; exact h t ht
/-- what stands behind an item's common fields, kept -/
theorem rRs_fr {q d d2 u w z z2 f f2} {j : Nat} {rs : List Value} (h : rRs q d u z f j rs) (hE : zE z z2) (hd : bI (fun x => d2 x = d x) j) {X : Nat → Prop} (hf : fK d z f f2 X) (hX : bI (fun x => ¬ X x) j) (hs : sI u w j) (hn : (u.1 3).toNatClampNeg ≤ (w.1 3).toNatClampNeg) (ho : ∀ o, o < (u.1 3).toNatClampNeg → d2 (2000 + o) = d (2000 + o) ∧ w.2 4 o = u.2 4 o) : rRs q d2 w z2 f2 j rs := by
  obtain ⟨-, -, -, d5, d6⟩ := hd
  obtain ⟨-, -, -, x5, x6⟩ := hX
  obtain ⟨s1, s2, s3, s4, s5, s6, s7⟩ := hs
  have r4 : w.2 4 j = u.2 4 j := s1 4 (by omega) (by omega) (by omega) (by omega) (by omega) (by omega) (by omega)
  have q5 : w.2 5 j = u.2 5 j := s1 5 (by omega) (by omega) (by omega) (by omega) (by omega) (by omega) (by omega)
  have q6 : w.2 6 j = u.2 6 j := s1 6 (by omega) (by omega) (by omega) (by omega) (by omega) (by omega) (by omega)
  have q7 : w.2 7 j = u.2 7 j := s1 7 (by omega) (by omega) (by omega) (by omega) (by omega) (by omega) (by omega)
  have q8 : w.2 8 j = u.2 8 j := s1 8 (by omega) (by omega) (by omega) (by omega) (by omega) (by omega) (by omega)
  have q9 : w.2 9 j = u.2 9 j := s1 9 (by omega) (by omega) (by omega) (by omega) (by omega) (by omega) (by omega)
  have q10 : w.2 10 j = u.2 10 j := s1 10 (by omega) (by omega) (by omega) (by omega) (by omega) (by omega) (by omega)
  have q11 : w.2 11 j = u.2 11 j := s1 11 (by omega) (by omega) (by omega) (by omega) (by omega) (by omega) (by omega)
  have q12 : w.2 12 j = u.2 12 j := s1 12 (by omega) (by omega) (by omega) (by omega) (by omega) (by omega) (by omega)
  have q13 : w.2 13 j = u.2 13 j := s1 13 (by omega) (by omega) (by omega) (by omega) (by omega) (by omega) (by omega)
  have q14 : w.2 14 j = u.2 14 j := s1 14 (by omega) (by omega) (by omega) (by omega) (by omega) (by omega) (by omega)
  have q15 : w.2 15 j = u.2 15 j := s1 15 (by omega) (by omega) (by omega) (by omega) (by omega) (by omega) (by omega)
  have q17 : w.2 17 j = u.2 17 j := s1 17 (by omega) (by omega) (by omega) (by omega) (by omega) (by omega) (by omega)
  obtain ⟨k0, k1, k2, k3, k4, k5⟩ := h
  unfold rRs
  rw [r4, q5, q6, q7, q8, q9, q10, q11, q12, q13, q14, q15, q17, d5, d6]
  refine ⟨fun e => ?_, fun e => ?_, fun e => ?_, fun e => ?_, k4, fun e => ?_⟩
  · obtain ⟨a1, a2, a3, ⟨g1, a4, a5⟩, g2, a6, a7⟩ := k0 e
    exact ⟨a1, nO_d d5 (nO_E hE a2), nO_d d6 (nO_E hE a3), ⟨g1, by rw [hf.1 _ _ a2 x5]; exact a4, eqR_w a5 s4⟩, g2, by rw [hf.1 _ _ a3 x6]; exact a6, eqR_w a7 s6⟩
  · obtain ⟨o, a1, a2, a3, a4⟩ := k1 e
    exact ⟨o, by omega, a2, by rw [(ho o a1).2]; exact a3, by rw [(ho o a1).1]; exact a4⟩
  · obtain ⟨a1, a2, a3, ⟨g1, a4, a5⟩, g2, a6, a7⟩ := k2 e
    exact ⟨a1, nO_d d5 (nO_E hE a2), nO_d d6 (nO_E hE a3), ⟨g1, by rw [hf.1 _ _ a2 x5]; exact a4, eqR_w a5 fun t ht => (s5 t ht).1⟩, g2, by rw [hf.1 _ _ a3 x6]; exact a6, eqR_w a7 fun t ht => (s5 t ht).2⟩
  · obtain ⟨a1, a2, a3, g1, a4, a5⟩ := k3 e
    exact ⟨a1, zE_pc hE a2, nO_d d6 (nO_E hE a3), g1, by rw [hf.1 _ _ a3 x6]; exact a4, fun t ht => by rw [s7 t ht]; exact a5 t ht⟩
  · obtain ⟨o, a1, a2, a3⟩ := k5 e
    exact ⟨o, by omega, a2, by rw [(ho o a1).1]; exact a3⟩
/-- item j, kept -/
theorem rIt_fr {q d d2 u w z z2 f f2} {j : Nat} (h : rIt q d u z f j) (hE : zE z z2) (hd : bI (fun x => d2 x = d x) j) {X : Nat → Prop} (hf : fK d z f f2 X) (hX : bI (fun x => ¬ X x) j) (hs : sI u w j) (hn : (u.1 3).toNatClampNeg ≤ (w.1 3).toNatClampNeg) (ho : ∀ o, o < (u.1 3).toNatClampNeg → d2 (2000 + o) = d (2000 + o) ∧ w.2 4 o = u.2 4 o) : rIt q d2 w z2 f2 j := by
  obtain ⟨n1, n2, n3, hkd, rs, g, fg, hsl, hps, hpcs, hfs, hfe, hrs⟩ := h
  have hrs2 := rRs_fr hrs hE hd hf hX hs hn ho
  obtain ⟨d2_, d3, d4, d5, d6⟩ := hd
  obtain ⟨x2, x3, x4, -, -⟩ := hX
  have f2_ := hf.1 _ _ n1 x2
  have f3 := hf.2 _ n2 x3
  have f4 := hf.1 _ _ n3 x4
  obtain ⟨s1, s2, s3, s4, s5, s6, s7⟩ := hs
  have r4 : w.2 4 j = u.2 4 j := s1 4 (by omega) (by omega) (by omega) (by omega) (by omega) (by omega) (by omega)
  have r22 : w.2 22 j = u.2 22 j := s1 22 (by omega) (by omega) (by omega) (by omega) (by omega) (by omega) (by omega)
  refine ⟨by rw [r4]; exact nO_d d2_ (nO_E hE n1), ⟨by rw [d3]; exact zE_tg hE n2.1, n2.2⟩, nO_d d4 (nO_E hE n3), by rw [r4]; exact hkd, rs, g, fg, ?_, ?_, ?_, ?_, eqR_w hfe s3, hrs2⟩
  · rw [d2_, d3, d4, f2_, r4, r22, zE_o hE n1.1.1]; exact hsl
  · rw [d3, f3, r4]; exact hps
  · intro t ht
    rw [r22] at ht
    obtain ⟨b, b1, b2⟩ := hpcs t ht
    refine ⟨b, b1, ?_⟩
    have hp : ∀ c, c < 5 → pR w j t c = pR u j t c := fun c hc => s2 (23 + c) (by omega) (by omega) t ht
    rw [d2_, hp 0 (by omega), hp 1 (by omega), hp 2 (by omega), hp 3 (by omega), hp 4 (by omega)]
    exact zE_pc hE b2
  · rw [d4, f4]; exact hfs
/-- the pages, kept -/
theorem rPg_fr {q d d2 u w z z2 f f2} (h : rPg q d u z f) (hE : zE z z2) (hd : ∀ x, x < 100 → d2 x = d x) {X : Nat → Prop} (hf : fK d z f f2 X) (hX : ∀ x, x < 100 → x ≠ 1 → x ≠ 2 → x ≠ 3 → x ≠ 4 → ¬ X x) (hn0 : nO d z 0 2) (h0 : w.2 0 = u.2 0) (h1 : w.2 1 = u.2 1) (h2 : w.2 2 = u.2 2) : rPg q d2 w z2 f2 := by
  obtain ⟨⟨g, a1, a2⟩, a3⟩ := h
  refine ⟨⟨g, by rw [hd 0 (by omega), hf.1 0 _ hn0 (hX 0 (by omega) (by omega) (by omega) (by omega) (by omega))]; exact a1, fun p hp => by rw [hd _ (by omega)]; exact a2 p hp⟩, fun p hp => ?_⟩
  obtain ⟨n1, n2, n3, dd, ii, s1, ⟨gl, s2, s3⟩, gc, s4, s5⟩ := a3 p hp
  have e1 := hd (10 + p) (by omega)
  have e2 := hd (30 + p) (by omega)
  have e3 := hd (50 + p) (by omega)
  refine ⟨nO_d e1 (nO_E hE n1), nO_d e2 (nO_E hE n2), nO_d e3 (nO_E hE n3), dd, ii, ?_, ⟨gl, ?_, by rw [h0]; exact s3⟩, gc, ?_, by rw [h2]; exact s5⟩
  · rw [e1, e2, e3, hf.1 (10 + p) _ n1 (hX (10 + p) (by omega) (by omega) (by omega) (by omega) (by omega)), h1]; exact s1
  · rw [e2, hf.1 (30 + p) _ n2 (hX (30 + p) (by omega) (by omega) (by omega) (by omega) (by omega))]; exact s2
  · rw [e3, hf.1 (50 + p) _ n3 (hX (50 + p) (by omega) (by omega) (by omega) (by omega) (by omega))]; exact s4
/-- the plates, kept -/
theorem rPl_fr {q d d2 u w z z2 f f2} (h : rPl q d u z f) (hE : zE z z2) (hd1 : d2 1 = d 1) (hd : ∀ x, 1000 ≤ x → x < 1100 → d2 x = d x) {X : Nat → Prop} (hf : fK d z f f2 X) (hX1 : ¬ X 1) (hX : ∀ x, 1000 ≤ x → x < 1100 → ¬ X x) (hn1 : nO d z 1 3) (hr : ∀ r, 40 ≤ r → r ≤ 44 → w.2 r = u.2 r) : rPl q d2 w z2 f2 := by
  obtain ⟨g, a1, a2⟩ := h
  have q0 := hr 40 (by omega) (by omega)
  have q1 := hr 41 (by omega) (by omega)
  have q2 := hr 42 (by omega) (by omega)
  have q3 := hr 43 (by omega) (by omega)
  have q4 := hr 44 (by omega) (by omega)
  refine ⟨g, by rw [hd1, hf.1 1 _ hn1 hX1]; exact a1, fun p hp => ?_⟩
  have e1 := hd (1000 + p) (by omega) (by omega)
  have e2 := hd (1020 + p) (by omega) (by omega)
  have e3 := hd (1040 + p) (by omega) (by omega)
  rcases a2 p hp with ⟨b1, b2⟩ | ⟨b1, b2, n1, n2, n3, m2, s1, ⟨gl, s2, s3⟩, gc, s4, s5⟩
  · exact Or.inl ⟨by rw [q0]; exact b1, b2⟩
  · refine Or.inr ⟨by rw [q0]; exact b1, by rw [e1]; exact b2, nO_d e1 (nO_E hE n1), nO_d e2 (nO_E hE n2), nO_d e3 (nO_E hE n3), m2, ?_, ⟨gl, ?_, by rw [q3]; exact s3⟩, gc, ?_, by rw [q4]; exact s5⟩
    · have c1 := hf.1 (1000 + p) _ n1 (hX (1000 + p) (by omega) (by omega))
      rw [e1, e2, e3, c1, q1, q2]; exact s1
    · have c2 := hf.1 (1020 + p) _ n2 (hX (1020 + p) (by omega) (by omega))
      rw [e2, c2]; exact s2
    · have c3 := hf.1 (1040 + p) _ n3 (hX (1040 + p) (by omega) (by omega))
      rw [e3, c3]; exact s4
theorem rRv_fr {q d d2 u w f f2} (h : rRv q d u f) (hd : d2 4 = d 4) (hf : f2 (d 4) = f (d 4)) (hr : w.2 20 = u.2 20) : rRv q d2 w f2 := by
  obtain ⟨g, a1, a2⟩ := h
  exact ⟨g, by rw [hd, hf]; exact a1, by rw [hr]; exact a2⟩
