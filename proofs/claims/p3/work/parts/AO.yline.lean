/-- a write at an item alone -/
theorem rep_it {q d u w z f f2} {X : Nat → Prop} {i : Nat} (h : rep q d u z f) (hf : fK d z f f2 X) (hX : ∀ x, X x → x = 2000 + i ∨ x = 3000 + i ∨ x = 4000 + i ∨ x = 5000 + i ∨ x = 6000 + i) (hi : i < 80) (hn : (u.1 3).toNatClampNeg ≤ 80) (hs : ∀ j, j < (u.1 3).toNatClampNeg → j ≠ i → sI u w j) (h1 : w.1 = u.1) (hr : ∀ r, r < 3 ∨ r = 4 ∨ r = 20 ∨ (40 ≤ r ∧ r ≤ 44) → w.2 r = u.2 r) (hit : rIt q d w z f2 i) : rep q d w z f2 := by
  obtain ⟨h1g, h1l, ⟨⟨g, a1, a2⟩, a3⟩, h1v, n0, n1, n2, n3, n4⟩ := h
  have nx : ∀ x, x < 2000 → ¬ X x := fun x hx hX2 => by rcases hX x hX2 with e | e | e | e | e <;> omega
  refine ⟨rPg_fr h1g (zE_rf z) (fun _ _ => rfl) hf (fun x hx _ _ _ _ => nx x (by omega)) n0 (hr 0 (by omega)) (hr 1 (by omega)) (hr 2 (by omega)), rPl_fr h1l (zE_rf z) rfl (fun _ _ _ => rfl) hf (nx 1 (by omega)) (fun x _ hx => nx x (by omega)) n1 (fun r r1 r2 => hr r (by omega)), ⟨⟨g, by rw [hf.1 2 _ n2 (nx 2 (by omega))]; exact a1, fun j hj => a2 j (by rw [← h1]; exact hj)⟩, fun j hj => ?_⟩, rRv_fr h1v rfl (hf.1 4 _ n4 (nx 4 (by omega))) (hr 20 (by omega)), n0, n1, n2, n3, n4⟩
  rw [h1] at hj
  by_cases e : j = i
  · rw [e]; exact hit
  · refine rIt_fr (a3 j hj) (zE_rf z) ⟨rfl, rfl, rfl, rfl, rfl⟩ hf ?_ (hs j hj e) (by rw [h1]; exact Nat.le_refl _) (fun o _ => ⟨rfl, by rw [hr 4 (by omega)]⟩)
    refine ⟨fun x => ?_, fun x => ?_, fun x => ?_, fun x => ?_, fun x => ?_⟩ <;> rcases hX _ x with e | e | e | e | e <;> omega
theorem mst_1 (u : mS) (r : Nat) (a x : Int32) : (mst u r a x).1 = u.1 := rfl
/-- line: what is written keeps rep -/
theorem rep_line {q d u z f} {i : Nat} (h : rep q d u z f) (hn : bw (u.1 3) 0 80 = true) (hi : i < (u.1 3).toNatClampNeg) (hk : u.2 4 i = 0) (hco : bw (u.2 15 i) 0 80 = true) (h80 : u.2 15 i < 80) (x : Int32) {gw : Nat → Int32} (hw : f (d (5000 + i)) = aI (q 0) 80 gw) : rep q d (mst (mst u 16 (80 * nI i + u.2 15 i) x) 15 (nI i) (u.2 15 i + 1)) z (va_up (va_up f (d (5000 + i)) (aI (q 0) 80 (upd gw (u.2 15 i).toNatClampNeg x))) (d (2000 + i)) (.inr (9, [.int (nI i), .int (u.2 4 i), .ref (d (3000 + i)), .int (u.2 22 i), .ref (d (4000 + i)), .int (u.2 5 i), .ref (d (5000 + i)), .int (u.2 15 i + 1), .ref (d (6000 + i))]))) := by
  have hi8 := (bw_it hn hi).2
  have hN : (u.1 3).toNatClampNeg ≤ 80 := by
    obtain ⟨c1, c2, c3⟩ := nI_of_bw hn
    have e80 : (80 : Int32).toInt = 80 := rfl
    rw [e80] at c3; omega
  obtain ⟨c1, c2, c3⟩ := nI_of_bw hco
  have hc80 : (u.2 15 i).toNatClampNeg < 80 := by
    have e80 : (80 : Int32).toInt = 80 := rfl
    rw [i32_lt, e80] at h80; omega
  have eA : (80 * nI i + u.2 15 i).toNatClampNeg = 80 * i + (u.2 15 i).toNatClampNeg := by
    rw [c1, show (80 : Int32) = nI 80 from rfl, pk_mul, nI_add, nI_clamp (by omega), nI_clamp (n := (u.2 15 i).toNatClampNeg) (by omega)]
  have eI : (nI i).toNatClampNeg = i := nI_clamp (by omega)
  obtain ⟨n1, n2, n3, hkd, rs, g, fg, hsl, hps, hpcs, hfs, hfe, hrs⟩ := h.2.2.1.2 i hi
  obtain ⟨a1, a2, a3, ⟨g1, a4, a5⟩, g2, a6, a7⟩ := hrs.1 hk
  obtain rfl := (aI_inj (hw.symm.trans a4)).2
  generalize hco2 : (u.2 15 i).toNatClampNeg = co at *
  generalize hw9 : mst (mst u 16 (80 * nI i + u.2 15 i) x) 15 (nI i) (u.2 15 i + 1) = w
  have w2 : ∀ r, r ≠ 15 → r ≠ 16 → w.2 r = u.2 r := fun r r1 r2 => by rw [← hw9, mst_other r1, mst_other r2]
  have w15 : ∀ j, w.2 15 j = if j = i then u.2 15 i + 1 else u.2 15 j := fun j => by rw [← hw9, mst_at, eI, mst_other (by decide)]
  have w16 : ∀ j, w.2 16 j = if j = 80 * i + co then x else u.2 16 j := fun j => by rw [← hw9, mst_other (by decide), mst_at, eA]
  have w1 : w.1 = u.1 := by rw [← hw9]; rfl
  have t15 : kT (u.2 4 i) = 15 := by rw [hk]; rfl
  rw [t15] at n1
  have hf : fK d z f (va_up (va_up f (d (5000 + i)) (aI (q 0) 80 (upd gw co x))) (d (2000 + i)) (.inr (9, [.int (nI i), .int (u.2 4 i), .ref (d (3000 + i)), .int (u.2 22 i), .ref (d (4000 + i)), .int (u.2 5 i), .ref (d (5000 + i)), .int (u.2 15 i + 1), .ref (d (6000 + i))]))) (fun x => x = 2000 + i ∨ x = 5000 + i) := fK_up (fK_up (fK_rf d z f _) a2 (by decide) (Or.inr rfl)) n1 (by decide) (Or.inl rfl)
  refine rep_it (i := i) h hf (fun x hx => by rcases hx with e | e <;> omega) hi8 hN (fun j hj hji => ?_) w1 (fun r hr => w2 r (by omega) (by omega)) ?_
  · refine ⟨fun r r1 r2 r3 _ _ _ _ => ?_, fun r r1 r2 t _ => by rw [w2 r (by omega) (by omega)], fun t _ => by rw [w2 47 (by omega) (by omega)], fun t ht => ?_, fun t _ => by rw [w2 18 (by omega) (by omega), w2 19 (by omega) (by omega)]; exact ⟨rfl, rfl⟩, fun t _ => by rw [w2 21 (by omega) (by omega)], fun t _ => by rw [w2 48 (by omega) (by omega)]⟩
    · by_cases e : r = 15
      · rw [e, w15, if_neg hji]
      · rw [w2 r e r3]
    · rw [w16, if_neg (by omega)]
  · have q4 : w.2 4 = u.2 4 := w2 4 (by omega) (by omega)
    have q5 : w.2 5 = u.2 5 := w2 5 (by omega) (by omega)
    have q22 : w.2 22 = u.2 22 := w2 22 (by omega) (by omega)
    have q15 : w.2 15 i = u.2 15 i + 1 := by rw [w15, if_pos rfl]
    have ne1 : d (5000 + i) ≠ d (2000 + i) := nO_ne a2 n1 (by omega)
    refine ⟨by rw [q4, t15]; exact n1, n2, n3, by rw [q4]; exact hkd, [.int (u.2 5 i), .ref (d (5000 + i)), .int (u.2 15 i + 1), .ref (d (6000 + i))], g, fg, ?_, ?_, ?_, ?_, ?_, ?_⟩
    · rw [up_s, n1.1.2, q4, q22]; rfl
    · rw [hf.2 i n2 (fun e => by rcases e with e | e <;> omega), q4]; exact hps
    · intro t ht
      rw [q22] at ht
      obtain ⟨b, b1, b2⟩ := hpcs t ht
      refine ⟨b, b1, ?_⟩
      have hp : ∀ c, c < 5 → pR w i t c = pR u i t c := fun c hc => by show w.2 (23 + c) _ = u.2 (23 + c) _; rw [w2 (23 + c) (by omega) (by omega)]
      rw [hp 0 (by omega), hp 1 (by omega), hp 2 (by omega), hp 3 (by omega), hp 4 (by omega)]
      exact b2
    · rw [hf.1 _ _ n3 (fun e => by rcases e with e | e <;> omega)]; exact hfs
    · rw [w2 47 (by omega) (by omega)]; exact hfe
    · have no : ∀ kk : Int32, kk ≠ 0 → ¬ w.2 4 i = kk := fun kk hkk e => hkk (by rw [q4, hk] at e; exact e.symm)
      refine ⟨fun _ => ⟨by rw [q5, q15], a2, a3, ⟨_, by rw [up_o ne1, up_s], ?_⟩, g2, by rw [hf.1 _ _ a3 (fun e => by rcases e with e | e <;> omega)]; exact a6, by rw [w2 21 (by omega) (by omega)]; exact a7⟩, fun e => absurd e (no 1 (by decide)), fun e => absurd e (no 2 (by decide)), fun e => absurd e (no 3 (by decide)), fun e => absurd e (no 4 (by decide)), fun e => absurd e (no 5 (by decide))⟩
      intro t ht
      rw [w16]
      unfold upd
      by_cases e : t = co
      · rw [if_pos e, if_pos (by omega)]
      · rw [if_neg e, if_neg (by omega)]; exact a5 t ht
