/-- w is u with page P plated -/
def plW (u w : mS) (P : Nat) : Prop := w.1 3 = u.1 3 ∧ (∀ r, r < 40 ∨ 46 < r → w.2 r = u.2 r) ∧ (∀ j, w.2 40 j = if j = P then 1 else u.2 40 j) ∧ (∀ j, w.2 41 j = if j = P then u.1 38 else u.2 41 j) ∧ (∀ j, w.2 42 j = if j = P then u.1 39 else u.2 42 j) ∧ (∀ j, w.2 43 j = if 8 * P ≤ j ∧ j < 8 * P + 8 then u.2 0 j else u.2 43 j) ∧ ∀ j, w.2 44 j = if 480 * P ≤ j ∧ j < 480 * P + 480 then u.2 2 j else u.2 44 j
theorem rep_plate {q d d2 u w z z2 f f2} {P : Nat} {g g' : Nat → Option Nat} {m : Int32} (h : rep q d u z f) (hP : P < 12) (hE : zE z z2) (hd : ∀ x, x ≠ 1000 + P → x ≠ 1020 + P → x ≠ 1040 + P → d2 x = d x) (hf : fK d z f f2 (fun x => x = 1 ∨ x = 1000 + P ∨ x = 1020 + P ∨ x = 1040 + P)) (hg : f (d 1) = aR (q 2) 12 g) (hg2 : f2 (d 1) = aR (q 2) 12 g') (hgP : g' P = some (d2 (1000 + P))) (hgo : ∀ j, j < 12 → j ≠ P → g' j = g j) (n7 : nO d2 z2 (1000 + P) 7) (n8 : nO d2 z2 (1020 + P) 8) (n9 : nO d2 z2 (1040 + P) 9) (s1 : f2 (d2 (1000 + P)) = .inr (8, [.ref (d2 (1020 + P)), .ref (d2 (1040 + P)), .int m, .int (u.1 38), .int (u.1 39)])) (s2 : ∃ gl, f2 (d2 (1020 + P)) = aI (q 0) 8 gl ∧ eqR 8 gl (u.2 0) (8 * P)) (s3 : ∃ gc, f2 (d2 (1040 + P)) = aI (q 0) 480 gc ∧ eqR 480 gc (u.2 2) (480 * P)) (hw : plW u w P) : rep q d2 w z2 f2 := by
  obtain ⟨h1g, ⟨g9, a1, a2⟩, ⟨⟨gi, b1, b2⟩, b3⟩, h1v, n0, n1, n2, n3, n4⟩ := h
  obtain ⟨w1, wr, w40, w41, w42, w43, w44⟩ := hw
  obtain rfl := (aR_inj (hg.symm.trans a1)).2
  have dl : ∀ x, x < 1000 → d2 x = d x := fun x hx => hd x (by omega) (by omega) (by omega)
  have dI : ∀ x, 2000 ≤ x → d2 x = d x := fun x hx => hd x (by omega) (by omega) (by omega)
  have nn : ∀ x t, x < 1000 → nO d z x t → nO d2 z2 x t := fun x t hx ho => nO_d (dl x hx) (nO_E hE ho)
  refine ⟨rPg_fr h1g hE (fun x hx => dl x (by omega)) hf (fun x hx _ _ _ _ => by omega) n0 (wr 0 (by omega)) (wr 1 (by omega)) (wr 2 (by omega)), ⟨g', by rw [dl 1 (by omega)]; exact hg2, fun p hp => ?_⟩, ⟨⟨gi, by rw [dl 2 (by omega), hf.1 2 _ n2 (by omega)]; exact b1, fun j hj => by rw [dI _ (by omega)]; exact b2 j (by rw [← w1]; exact hj)⟩, fun j hj => ?_⟩, rRv_fr h1v (dl 4 (by omega)) (hf.1 4 _ n4 (by omega)) (wr 20 (by omega)), nn 0 _ (by omega) n0, nn 1 _ (by omega) n1, nn 2 _ (by omega) n2, nn 3 _ (by omega) n3, nn 4 _ (by omega) n4⟩
  · by_cases e : p = P
    · subst e
      obtain ⟨gl, s2a, s2b⟩ := s2
      obtain ⟨gc, s3a, s3b⟩ := s3
      refine Or.inr ⟨by rw [w40, if_pos rfl], hgP, n7, n8, n9, m, ?_, ⟨gl, s2a, fun t ht => ?_⟩, gc, s3a, fun t ht => ?_⟩
      · rw [w41, w42, if_pos rfl, if_pos rfl]; exact s1
      · rw [w43, if_pos (by omega)]; exact s2b t ht
      · rw [w44, if_pos (by omega)]; exact s3b t ht
    · have e1 := hd (1000 + p) (by omega) (by omega) (by omega)
      have e2 := hd (1020 + p) (by omega) (by omega) (by omega)
      have e3 := hd (1040 + p) (by omega) (by omega) (by omega)
      rcases a2 p hp with ⟨c1, c2⟩ | ⟨c1, c2, m1, m2, m3, m9, t1, ⟨gl, t2, t3⟩, gc, t4, t5⟩
      · exact Or.inl ⟨by rw [w40, if_neg e]; exact c1, (hgo p hp e).trans c2⟩
      · refine Or.inr ⟨by rw [w40, if_neg e]; exact c1, by rw [hgo p hp e, e1]; exact c2, nO_d e1 (nO_E hE m1), nO_d e2 (nO_E hE m2), nO_d e3 (nO_E hE m3), m9, ?_, ⟨gl, ?_, fun t ht => ?_⟩, gc, ?_, fun t ht => ?_⟩
        · rw [e1, e2, e3, hf.1 _ _ m1 (by omega), w41, w42, if_neg e, if_neg e]; exact t1
        · rw [e2, hf.1 _ _ m2 (by omega)]; exact t2
        · rw [w43, if_neg (by omega)]; exact t3 t ht
        · rw [e3, hf.1 _ _ m3 (by omega)]; exact t4
        · rw [w44, if_neg (by omega)]; exact t5 t ht
  · rw [w1] at hj
    refine rIt_fr (b3 j hj) hE ⟨dI _ (by omega), dI _ (by omega), dI _ (by omega), dI _ (by omega), dI _ (by omega)⟩ hf ⟨by omega, by omega, by omega, by omega, by omega⟩ ⟨fun r r1 r2 _ _ _ _ _ => by rw [wr r (by omega)], fun r r1 r2 t _ => by rw [wr r (by omega)], fun t _ => by rw [wr 47 (by omega)], fun t _ => by rw [wr 16 (by omega)], fun t _ => by rw [wr 18 (by omega), wr 19 (by omega)]; exact ⟨rfl, rfl⟩, fun t _ => by rw [wr 21 (by omega)], fun t _ => by rw [wr 48 (by omega)]⟩ (by rw [w1]; exact Nat.le_refl _) (fun o _ => ⟨dI _ (by omega), by rw [wr 4 (by omega)]⟩)
theorem pl_none {q d z f u} (h : rPl q d u z f) {p : Nat} (hp : p < 12) (h40 : u.2 40 p = 0) : ∃ g, f (d 1) = aR (q 2) 12 g ∧ g p = none := by
  obtain ⟨g, a1, a2⟩ := h
  rcases a2 p hp with ⟨-, b2⟩ | ⟨b1, -⟩
  · exact ⟨g, a1, b2⟩
  · rw [h40] at b1; exact absurd b1 (by decide)
/-- the book with plate P's entries -/
def dP (d : Nat → Nat) (P a7 a8 a9 : Nat) : Nat → Nat := fun x => if x = 1000 + P then a7 else if x = 1020 + P then a8 else if x = 1040 + P then a9 else d x
theorem dP_no {d : Nat → Nat} {P a7 a8 a9 x : Nat} (h1 : x ≠ 1000 + P) (h2 : x ≠ 1020 + P) (h3 : x ≠ 1040 + P) : dP d P a7 a8 a9 x = d x := by
  unfold dP; rw [if_neg h1, if_neg h2, if_neg h3]
theorem dP_at {d : Nat → Nat} {P a7 a8 a9 : Nat} : dP d P a7 a8 a9 (1000 + P) = a7 ∧ dP d P a7 a8 a9 (1020 + P) = a8 ∧ dP d P a7 a8 a9 (1040 + P) = a9 := by
  unfold dP
  refine ⟨if_pos rfl, ?_, ?_⟩
  · rw [if_neg (by omega), if_pos rfl]
  · rw [if_neg (by omega), if_neg (by omega), if_pos rfl]
theorem cpy8 {ll gl : Nat → Int32} {n : Nat} (t : Nat) (ht : t < n) (c : Int32) (hc : c.toNatClampNeg = n) : va_cpy ll gl (0 : Int32).toNatClampNeg (0 : Int32).toNatClampNeg c.toNatClampNeg t = ll t := by
  unfold va_cpy
  have h0 : (0 : Int32).toNatClampNeg = 0 := rfl
  rw [hc, h0, if_pos (by omega)]
  congr 1
  omega
