theorem w80 {u : mS} (hn : bw (u.1 3) 0 80 = true) : (u.1 3).toNatClampNeg ≤ 80 := by
  obtain ⟨c1, c2, c3⟩ := nI_of_bw hn
  have e80 : (80 : Int32).toInt = 80 := rfl
  rw [e80] at c3; omega
/-- size: what is written keeps rep -/
theorem rep_size {q d u z f} {i : Nat} (h : rep q d u z f) (hn : bw (u.1 3) 0 80 = true) (hi : i < (u.1 3).toNatClampNeg) (hk : u.2 4 i = 2) (hco : bw (u.2 17 i) 0 4 = true) (h80 : u.2 17 i < 4) (x y : Int32) {gw gh : Nat → Int32} (hw : f (d (5000 + i)) = aI (q 0) 4 gw) (hh : f (d (6000 + i)) = aI (q 0) 4 gh) : rep q d (mst (mst (mst u 18 (4 * nI i + u.2 17 i) x) 19 (4 * nI i + u.2 17 i) y) 17 (nI i) (u.2 17 i + 1)) z (va_up (va_up (va_up f (d (5000 + i)) (aI (q 0) 4 (upd gw (u.2 17 i).toNatClampNeg x))) (d (6000 + i)) (aI (q 0) 4 (upd gh (u.2 17 i).toNatClampNeg y))) (d (2000 + i)) (.inr (6, [.int (nI i), .int (u.2 4 i), .ref (d (3000 + i)), .int (u.2 22 i), .ref (d (4000 + i)), .ref (d (5000 + i)), .ref (d (6000 + i)), .int (u.2 17 i + 1)]))) := by
  have hi8 := (bw_it hn hi).2
  have hN := w80 hn
  obtain ⟨c1, c2, c3⟩ := nI_of_bw hco
  have hc80 : (u.2 17 i).toNatClampNeg < 4 := by
    have e80 : (4 : Int32).toInt = 4 := rfl
    rw [i32_lt, e80] at h80; omega
  have eA : (4 * nI i + u.2 17 i).toNatClampNeg = 4 * i + (u.2 17 i).toNatClampNeg := by
    rw [c1, show (4 : Int32) = nI 4 from rfl, pk_mul, nI_add, nI_clamp (by omega), nI_clamp (n := (u.2 17 i).toNatClampNeg) (by omega)]
  have eI : (nI i).toNatClampNeg = i := nI_clamp (by omega)
  obtain ⟨n1, n2, n3, hkd, rs, g, fg, hsl, hps, hpcs, hfs, hfe, hrs⟩ := h.2.2.1.2 i hi
  obtain ⟨a1, a2, a3, ⟨g1, a4, a5⟩, g2, a6, a7⟩ := hrs.2.2.1 hk
  obtain rfl := (aI_inj (hw.symm.trans a4)).2
  obtain rfl := (aI_inj (hh.symm.trans a6)).2
  generalize hco2 : (u.2 17 i).toNatClampNeg = co at *
  generalize hw9 : mst (mst (mst u 18 (4 * nI i + u.2 17 i) x) 19 (4 * nI i + u.2 17 i) y) 17 (nI i) (u.2 17 i + 1) = w
  have w2 : ∀ r, r ≠ 17 → r ≠ 18 → r ≠ 19 → w.2 r = u.2 r := fun r r1 r2 r3 => by rw [← hw9, mst_other r1, mst_other r3, mst_other r2]
  have w17 : ∀ j, w.2 17 j = if j = i then u.2 17 i + 1 else u.2 17 j := fun j => by rw [← hw9, mst_at, eI, mst_other (by decide), mst_other (by decide)]
  have w18 : ∀ j, w.2 18 j = if j = 4 * i + co then x else u.2 18 j := fun j => by rw [← hw9, mst_other (by decide), mst_other (by decide), mst_at, eA]
  have w19 : ∀ j, w.2 19 j = if j = 4 * i + co then y else u.2 19 j := fun j => by rw [← hw9, mst_other (by decide), mst_at, eA, mst_other (by decide)]
  have w1 : w.1 = u.1 := by rw [← hw9]; rfl
  have t14 : kT (u.2 4 i) = 14 := by rw [hk]; rfl
  rw [t14] at n1
  have hf : fK d z f (va_up (va_up (va_up f (d (5000 + i)) (aI (q 0) 4 (upd gw co x))) (d (6000 + i)) (aI (q 0) 4 (upd gh co y))) (d (2000 + i)) (.inr (6, [.int (nI i), .int (u.2 4 i), .ref (d (3000 + i)), .int (u.2 22 i), .ref (d (4000 + i)), .ref (d (5000 + i)), .ref (d (6000 + i)), .int (u.2 17 i + 1)]))) (fun x => x = 2000 + i ∨ x = 5000 + i ∨ x = 6000 + i) := fK_up (fK_up (fK_up (fK_rf d z f _) a2 (by decide) (Or.inr (Or.inl rfl))) a3 (by decide) (Or.inr (Or.inr rfl))) n1 (by decide) (Or.inl rfl)
  refine rep_it (i := i) h hf (fun x hx => by rcases hx with e | e | e <;> omega) hi8 hN (fun j hj hji => ?_) w1 (fun r hr => w2 r (by omega) (by omega) (by omega)) ?_
  · refine ⟨fun r r1 r2 r3 r4 r5 _ _ => ?_, fun r r1 r2 t _ => by rw [w2 r (by omega) (by omega) (by omega)], fun t _ => by rw [w2 47 (by omega) (by omega) (by omega)], fun t _ => by rw [w2 16 (by omega) (by omega) (by omega)], fun t ht => ?_, fun t _ => by rw [w2 21 (by omega) (by omega) (by omega)], fun t _ => by rw [w2 48 (by omega) (by omega) (by omega)]⟩
    · by_cases e : r = 17
      · rw [e, w17, if_neg hji]
      · rw [w2 r e r4 r5]
    · rw [w18, w19, if_neg (by omega), if_neg (by omega)]; exact ⟨rfl, rfl⟩
  · have q4 : w.2 4 = u.2 4 := w2 4 (by omega) (by omega) (by omega)
    have q22 : w.2 22 = u.2 22 := w2 22 (by omega) (by omega) (by omega)
    have q17 : w.2 17 i = u.2 17 i + 1 := by rw [w17, if_pos rfl]
    have ne1 : d (5000 + i) ≠ d (2000 + i) := nO_ne a2 n1 (by omega)
    have ne2 : d (6000 + i) ≠ d (2000 + i) := nO_ne a3 n1 (by omega)
    have ne3 : d (5000 + i) ≠ d (6000 + i) := nO_ne a2 a3 (by omega)
    have nx : ∀ x, x = 3000 + i ∨ x = 4000 + i → ¬ (x = 2000 + i ∨ x = 5000 + i ∨ x = 6000 + i) := fun x hx => by omega
    refine ⟨by rw [q4, t14]; exact n1, n2, n3, by rw [q4]; exact hkd, [.ref (d (5000 + i)), .ref (d (6000 + i)), .int (u.2 17 i + 1)], g, fg, ?_, ?_, ?_, ?_, ?_, ?_⟩
    · rw [up_s, n1.1.2, q4, q22]; rfl
    · rw [hf.2 i n2 (nx _ (Or.inl rfl)), q4]; exact hps
    · intro t ht
      rw [q22] at ht
      obtain ⟨b, b1, b2⟩ := hpcs t ht
      refine ⟨b, b1, ?_⟩
      have hp : ∀ c, c < 5 → pR w i t c = pR u i t c := fun c hc => by show w.2 (23 + c) _ = u.2 (23 + c) _; rw [w2 (23 + c) (by omega) (by omega) (by omega)]
      rw [hp 0 (by omega), hp 1 (by omega), hp 2 (by omega), hp 3 (by omega), hp 4 (by omega)]
      exact b2
    · rw [hf.1 _ _ n3 (nx _ (Or.inr rfl))]; exact hfs
    · rw [w2 47 (by omega) (by omega) (by omega)]; exact hfe
    · have no : ∀ kk : Int32, kk ≠ 2 → ¬ w.2 4 i = kk := fun kk hkk e => hkk (by rw [q4, hk] at e; exact e.symm)
      refine ⟨fun e => absurd e (no 0 (by decide)), fun e => absurd e (no 1 (by decide)), fun _ => ⟨by rw [q17], a2, a3, ⟨_, by rw [up_o ne1, up_o ne3, up_s], ?_⟩, _, by rw [up_o ne2, up_s], ?_⟩, fun e => absurd e (no 3 (by decide)), fun e => absurd e (no 4 (by decide)), fun e => absurd e (no 5 (by decide))⟩
      · intro t ht
        rw [w18]
        unfold upd
        by_cases e : t = co
        · rw [if_pos e, if_pos (by omega)]
        · rw [if_neg e, if_neg (by omega)]; exact a5 t ht
      · intro t ht
        rw [w19]
        unfold upd
        by_cases e : t = co
        · rw [if_pos e, if_pos (by omega)]
        · rw [if_neg e, if_neg (by omega)]; exact a7 t ht
theorem size_n {u : mS} {p x y : Int32} (h : mKind u p 2 = false) : mSize u p x y = (-1, u) := by
  unfold mSize; rw [h, if_neg (by decide)]
theorem size_x {u : mS} {p x y : Int32} (h : ¬ (bw x 1 8 = true ∧ bw y 1 60 = true)) : mSize u p x y = (-1, u) := by
  unfold mSize
  by_cases a : bw x 1 8 = true
  · rw [if_pos a, if_neg (fun b => h ⟨a, b⟩)]; split <;> rfl
  · rw [if_neg a]; split <;> rfl
theorem size_y {q d u z f f2} {i : Nat} {x y r : Int32} {gw gh : Nat → Int32} (h : rep q d u z f) (hu : rI u) (hi : i < (u.1 3).toNatClampNeg) (hk : u.2 4 i = 2) (hx : bw x 1 8 = true) (hy : bw y 1 60 = true) (hw : f (d (5000 + i)) = aI (q 0) 4 gw) (hh : f (d (6000 + i)) = aI (q 0) 4 gh) (hr : r = s_takeSize x y (u.2 17 i)) (hf : f2 = s_takeSize_f q f (d (2000 + i)) (d (3000 + i)) (d (4000 + i)) (d (5000 + i)) (d (6000 + i)) x y (nI i) (u.2 4 i) (u.2 22 i) (u.2 17 i) gw gh) : r = (mSize u (nI i) x y).1 ∧ rep q d (mSize u (nI i) x y).2 z f2 := by
  have h2 := bw_it hu.1 hi
  have hco := hu.2.2.2.2.2.1 i h2.2
  have eI : (nI i).toNatClampNeg = i := nI_clamp (by omega)
  have hK : mKind u (nI i) 2 = true := by rw [mK_it hu.1 hi, hk]; rfl
  have e80 : (4 : Int32).toInt = 4 := rfl
  by_cases c : u.2 17 i < 4
  · have n80 : ¬ u.2 17 i = 4 := fun e => by rw [e, i32_lt] at c; omega
    have e : mSize u (nI i) x y = ((u.2 17 i + 1), mst (mst (mst u 18 (4 * nI i + u.2 17 i) x) 19 (4 * nI i + u.2 17 i) y) 17 (nI i) (u.2 17 i + 1)) := by
      unfold mSize
      rw [if_pos hK, if_pos hx, if_pos hy, eI, if_neg n80]
      have e1 : ∀ a, (mst u 18 a x).2 17 i = u.2 17 i := fun a => by rw [mst_other (by decide)]
      have e2 : ∀ a b, (mst (mst u 18 a x) 19 b y).2 17 i = u.2 17 i := fun a b => by rw [mst_other (by decide), mst_other (by decide)]
      simp only [e1, e2, mst_at, eI, if_true]
    rw [e, hr, hf]
    unfold s_takeSize s_takeSize_f
    rw [if_pos c, if_pos c]
    exact ⟨rfl, rep_size h hu.1 hi hk hco c x y hw hh⟩
  · have y80 : u.2 17 i = 4 := by
      have h3 := bw_iff.mp hco
      rw [i32_lt] at c
      exact Int32.toInt_inj.mp (by omega)
    have e : mSize u (nI i) x y = (-1, u) := by
      unfold mSize
      rw [if_pos hK, if_pos hx, if_pos hy, eI, if_pos y80]
    rw [e, hr, hf]
    unfold s_takeSize s_takeSize_f
    rw [if_neg c, if_neg c]
    exact ⟨rfl, h⟩
