theorem setR_in (f : Nat → Int32) (P X Y n : Nat) (x : Int32) : ∀ D a b, a < D → b < n → setR f P X Y n x D (480 * P + 60 * (X + a) + (Y + b)) = x
  | 0, _, _, h, _ => absurd h (Nat.not_lt_zero _)
  | D + 1, a, b, ha, hb => by
    show setC (setR f P X Y n x D) P (X + D) Y n x _ = x
    unfold setC
    by_cases e : 480 * P + 60 * (X + D) + Y ≤ 480 * P + 60 * (X + a) + (Y + b) ∧ 480 * P + 60 * (X + a) + (Y + b) < 480 * P + 60 * (X + D) + Y + n
    · rw [if_pos e]
    · rw [if_neg e]
      have : a ≠ D := fun q => e (by subst q; omega)
      exact setR_in f P X Y n x D a b (by omega) hb
theorem setR_out {f : Nat → Int32} {P X Y n : Nat} {x : Int32} {j : Nat} : ∀ {D : Nat}, (∀ a b, a < D → b < n → j ≠ 480 * P + 60 * (X + a) + (Y + b)) → setR f P X Y n x D j = f j
  | 0, _ => rfl
  | D + 1, h => by
    show setC (setR f P X Y n x D) P (X + D) Y n x j = f j
    unfold setC
    rw [if_neg (fun e => h D (j - (480 * P + 60 * (X + D) + Y)) (by omega) (by omega) (by omega))]
    exact setR_out (fun a b ha hb => h a b (by omega) hb)
theorem setR_c (f : Nat → Int32) (P X Y n : Nat) (x : Int32) (D j : Nat) : (∃ a b, a < D ∧ b < n ∧ j = 480 * P + 60 * (X + a) + (Y + b)) ∨ ∀ a b, a < D → b < n → j ≠ 480 * P + 60 * (X + a) + (Y + b) := by
  rcases Classical.em (∃ a b, a < D ∧ b < n ∧ j = 480 * P + 60 * (X + a) + (Y + b)) with h | h
  · exact Or.inl h
  · exact Or.inr fun a b ha hb e => h ⟨a, b, ha, hb, e⟩
/-- a page's cells marked: both rows alike -/
theorem setR_pg {f g : Nat → Int32} {P X Y n : Nat} {x : Int32} {D : Nat} (hX : X + D ≤ 8) (hY : Y + n ≤ 60) (h : eqR 480 g f (480 * P)) : eqR 480 (setR g 0 X Y n x D) (setR f P X Y n x D) (480 * P) := by
  intro t ht
  rcases setR_c g 0 X Y n x D t with ⟨a, b, ha, hb, e⟩ | hn
  · have e2 : 480 * P + t = 480 * P + 60 * (X + a) + (Y + b) := by omega
    rw [e2, e, setR_in _ _ _ _ _ _ _ _ _ ha hb, setR_in _ _ _ _ _ _ _ _ _ ha hb]
  · rw [setR_out hn, setR_out (fun a b ha hb e => hn a b ha hb (by omega))]
    exact h t ht
theorem setR_op {f : Nat → Int32} {P X Y n : Nat} {x : Int32} {D j t : Nat} (hX : X + D ≤ 8) (hY : Y + n ≤ 60) (hj : j ≠ P) (ht : t < 480) : setR f P X Y n x D (480 * j + t) = f (480 * j + t) := setR_out (fun a b ha hb e => by
  have h1 : 60 * (X + a) + (Y + b) < 480 := by omega
  omega)
theorem rep_mark {q d u z f} {P X Y n D : Nat} {x : Int32} {gc : Nat → Int32} (h : rep q d u z f) (hP : P < 12) (hX : X + D ≤ 8) (hY : Y + n ≤ 60) (hg : f (d (50 + P)) = aI (q 0) 480 gc) : rep q d (mput u 2 (setR (u.2 2) P X Y n x D)) z (va_up f (d (50 + P)) (aI (q 0) 480 (setR gc 0 X Y n x D))) := by
  obtain ⟨m1, m2, m3, dd, ii, s1, ⟨gl, s2, s3⟩, gc2, s4, s5⟩ := h.1.2 P hP
  obtain rfl := (aI_inj (hg.symm.trans s4)).2
  generalize hw9 : mput u 2 (setR (u.2 2) P X Y n x D) = w
  have w2 : ∀ r, r ≠ 2 → w.2 r = u.2 r := fun r r1 => by rw [← hw9, mput_other r1]
  have w0 : w.2 2 = setR (u.2 2) P X Y n x D := by rw [← hw9]; rfl
  have w1 : w.1 = u.1 := by rw [← hw9]; rfl
  have hf : fK d z f (va_up f (d (50 + P)) (aI (q 0) 480 (setR gc 0 X Y n x D))) (fun x => x = 50 + P) := fK_up (fK_rf d z f _) m3 (by decide) rfl
  refine rep_pg (p := P) h hf (fun x hx => by omega) hP w1 (fun r r1 => w2 r (by omega)) (fun j hj hjp => ⟨by rw [w2 1 (by omega)], fun t ht => by rw [w2 0 (by omega)], fun t ht => by rw [w0, setR_op hX hY hjp ht]⟩) ⟨dd, ii, ?_, ⟨gl, ?_, ?_⟩, _, up_s, ?_⟩
  · rw [hf.1 _ _ m1 (by omega), w2 1 (by omega)]; exact s1
  · rw [hf.1 _ _ m2 (by omega)]; exact s2
  · rw [w2 0 (by omega)]; exact s3
  · rw [w0]; exact setR_pg hX hY s5
theorem fK_3 {d : Nat → Nat} {z : gS} {f f1 : xF} {X : Nat → Prop} {i : Nat} {e : va_E} (h : fK d z f f1 X) (ht : tg z (d (3000 + i)) 16) (ho2 : ∀ j, j < 1000 → ¬ X (3000 + j) → d (3000 + j) ≠ d (3000 + i)) : fK d z f (va_up f1 (d (3000 + i)) e) X := by
  refine ⟨fun x t hn hX => ?_, fun j hj hX => ?_⟩
  · rw [up_o (tg_ne hn.1 ht hn.2.2)]; exact h.1 x t hn hX
  · rw [up_o (ho2 j hj.2 hX)]; exact h.2 j hj hX
/-- the pieces' rows of two items are two -/
theorem d3_inj {q h0 d k z f u} (hI : xI q h0 d k z f) (h : rIs q d u z f) {i j : Nat} (hi : i < (u.1 3).toNatClampNeg) (hj : j < (u.1 3).toNatClampNeg) (e : d (3000 + i) = d (3000 + j)) : i = j := by
  have own : ∀ i, i < (u.1 3).toNatClampNeg → (z.2 (d (3000 + i))).2.1 = d (2000 + i) := fun i hi => by
    obtain ⟨n1, n2, n3, hkd, rs, g, fg, hs, -⟩ := h.2 i hi
    obtain ⟨nu, kd, cn, pa, fa, rs2, hs2, o1, o2, o3, o4⟩ := x_im hI (rI_itm h hi)
    have e := (Prod.mk.inj (Sum.inr.inj (hs.symm.trans hs2))).2
    unfold itF at e
    simp only [List.cons.injEq, Value.ref.injEq] at e
    rw [e.2.2.1]; exact o2
  refine d_inj h hi hj ?_
  rw [← own i hi, ← own j hj, e]
/-- a write at an item alone, its pieces' row among it -/
theorem rep_it2 {q d u w z f f2} {X : Nat → Prop} {i : Nat} (h : rep q d u z f) (hf : fK d z f f2 X) (hX : ∀ x, X x → x = 2000 + i ∨ (3000 ≤ x ∧ x < 4000 ∧ d x = d (3000 + i))) (hinj : ∀ j, j < (u.1 3).toNatClampNeg → d (3000 + j) = d (3000 + i) → j = i) (hi : i < 80) (hn : (u.1 3).toNatClampNeg ≤ 80) (hs : ∀ j, j < (u.1 3).toNatClampNeg → j ≠ i → sI u w j) (h1 : w.1 = u.1) (hr : ∀ r, r < 3 ∨ r = 4 ∨ r = 20 ∨ (40 ≤ r ∧ r ≤ 44) → w.2 r = u.2 r) (hit : rIt q d w z f2 i) : rep q d w z f2 := by
  obtain ⟨h1g, h1l, ⟨⟨g, a1, a2⟩, a3⟩, h1v, n0, n1, n2, n3, n4⟩ := h
  have nx : ∀ x, x < 2000 → ¬ X x := fun x hx hX2 => by rcases hX x hX2 with e | e <;> omega
  refine ⟨rPg_fr h1g (zE_rf z) (fun _ _ => rfl) hf (fun x hx _ _ _ _ => nx x (by omega)) n0 (hr 0 (by omega)) (hr 1 (by omega)) (hr 2 (by omega)), rPl_fr h1l (zE_rf z) rfl (fun _ _ _ => rfl) hf (nx 1 (by omega)) (fun x _ hx => nx x (by omega)) n1 (fun r r1 r2 => hr r (by omega)), ⟨⟨g, by rw [hf.1 2 _ n2 (nx 2 (by omega))]; exact a1, fun j hj => a2 j (by rw [← h1]; exact hj)⟩, fun j hj => ?_⟩, rRv_fr h1v rfl (hf.1 4 _ n4 (nx 4 (by omega))) (hr 20 (by omega)), n0, n1, n2, n3, n4⟩
  rw [h1] at hj
  by_cases e : j = i
  · rw [e]; exact hit
  · refine rIt_fr (a3 j hj) (zE_rf z) ⟨rfl, rfl, rfl, rfl, rfl⟩ hf ?_ (hs j hj e) (by rw [h1]; exact Nat.le_refl _) (fun o _ => ⟨rfl, by rw [hr 4 (by omega)]⟩)
    refine ⟨fun x => ?_, fun x => ?_, fun x => ?_, fun x => ?_, fun x => ?_⟩ <;> rcases hX _ x with e2 | ⟨e2, e3, e4⟩ <;> first | omega | exact e (hinj j hj e4)
/-- an item's count and pieces -/
theorem rep_pcs {q d u w z f} {i : Nat} {n : Nat} {g2 : Nat → Option Nat} {rs : List Value} {cn : Int32} {f2 : xF} (h : rep q d u z f) (hn : bw (u.1 3) 0 80 = true) (hi : i < (u.1 3).toNatClampNeg) (hnn : n = if u.2 4 i = 0 then 6 else 1) (hs : f (d (2000 + i)) = .inr (ciT (z.2 (d (2000 + i))).1, itF (nI i) (u.2 4 i) (d (3000 + i)) cn (d (4000 + i)) rs)) (hf2a : f2 (d (2000 + i)) = .inr (ciT (z.2 (d (2000 + i))).1, itF (nI i) (u.2 4 i) (d (3000 + i)) (w.2 22 i) (d (4000 + i)) rs)) (hf2b : f2 (d (3000 + i)) = aR (q 5) n g2) (hf : fK d z f f2 (fun x => x = 2000 + i ∨ (3000 ≤ x ∧ x < 4000 ∧ d x = d (3000 + i)))) (hinj : ∀ j, j < (u.1 3).toNatClampNeg → d (3000 + j) = d (3000 + i) → j = i) (hp : ∀ k, k < (w.2 22 i).toNatClampNeg → ∃ b, g2 k = some b ∧ pcS z b (some (d (2000 + i))) (pR w i k 0) (pR w i k 1) (pR w i k 2) (pR w i k 3) (pR w i k 4)) (w1 : w.1 = u.1) (wr : ∀ r, r < 22 ∨ 27 < r → w.2 r = u.2 r) (wo : ∀ j, j ≠ i → w.2 22 j = u.2 22 j) (wp : ∀ r, 23 ≤ r → r ≤ 27 → ∀ j, j < (u.1 3).toNatClampNeg → j ≠ i → ∀ t, t < (u.2 22 j).toNatClampNeg → w.2 r (6 * j + t) = u.2 r (6 * j + t)) : rep q d w z f2 := by
  have hi8 := (bw_it hn hi).2
  have hN := w80 hn
  obtain ⟨n1, n2, n3, hkd, rs2, g9, fg, hsl, hps, hpcs, hfs, hfe, hrs⟩ := h.2.2.1.2 i hi
  obtain rfl : rs = rs2 := by
    have e := (Prod.mk.inj (Sum.inr.inj (hs.symm.trans hsl))).2
    unfold itF at e
    simp only [List.cons.injEq] at e
    exact e.2.2.2.2.2
  have q4 : w.2 4 = u.2 4 := wr 4 (by omega)
  refine rep_it2 (i := i) h hf (fun x hx => hx) hinj hi8 hN (fun j hj hji => ?_) w1 (fun r hr => wr r (by omega)) ?_
  · refine ⟨fun r r1 r2 r3 r4 r5 r6 r7 => ?_, fun r r1 r2 t ht => wp r r1 r2 j hj hji t ht, fun t _ => by rw [wr 47 (by omega)], fun t _ => by rw [wr 16 (by omega)], fun t ht => by rw [wr 18 (by omega), wr 19 (by omega)]; exact ⟨rfl, rfl⟩, fun t _ => by rw [wr 21 (by omega)], fun t _ => by rw [wr 48 (by omega)]⟩
    by_cases e : r = 22
    · rw [e]; exact wo j hji
    · rw [wr r (by omega)]
  · refine ⟨by rw [q4]; exact n1, n2, n3, by rw [q4]; exact hkd, rs, g2, fg, ?_, ?_, hp, ?_, ?_, ?_⟩
    · rw [hf2a, q4]
    · rw [hf2b, q4, hnn]
    · rw [hf.1 _ _ n3 (by omega)]; exact hfs
    · rw [wr 47 (by omega)]; exact hfe
    · obtain ⟨k0, k1, k2, k3, k4, k5⟩ := hrs
      unfold rRs
      rw [q4, wr 5 (by omega), wr 6 (by omega), wr 7 (by omega), wr 8 (by omega), wr 9 (by omega), wr 10 (by omega), wr 11 (by omega), wr 12 (by omega), wr 13 (by omega), wr 14 (by omega), wr 15 (by omega), wr 16 (by omega), wr 17 (by omega), wr 18 (by omega), wr 19 (by omega), wr 21 (by omega), wr 48 (by omega), w1]
      refine ⟨fun e => ?_, k1, fun e => ?_, fun e => ?_, k4, k5⟩
      · obtain ⟨a1, a2, a3, ⟨g1, a4, a5⟩, g3, a6, a7⟩ := k0 e
        exact ⟨a1, a2, a3, ⟨g1, by rw [hf.1 _ _ a2 (by omega)]; exact a4, a5⟩, g3, by rw [hf.1 _ _ a3 (by omega)]; exact a6, a7⟩
      · obtain ⟨a1, a2, a3, ⟨g1, a4, a5⟩, g3, a6, a7⟩ := k2 e
        exact ⟨a1, a2, a3, ⟨g1, by rw [hf.1 _ _ a2 (by omega)]; exact a4, a5⟩, g3, by rw [hf.1 _ _ a3 (by omega)]; exact a6, a7⟩
      · obtain ⟨a1, a2, a3, g1, a4, a5⟩ := k3 e
        exact ⟨a1, a2, a3, g1, by rw [hf.1 _ _ a3 (by omega)]; exact a4, a5⟩
/-- rep looks at these rows alone -/
theorem rep_ext {q d u w z f} (h : rep q d u z f) (h3 : w.1 3 = u.1 3) (hr : ∀ r, r ≤ 2 ∨ (4 ≤ r ∧ r ≤ 22) ∨ (40 ≤ r ∧ r ≤ 44) ∨ r = 47 ∨ r = 48 → w.2 r = u.2 r) (hp : ∀ r, 23 ≤ r → r ≤ 27 → ∀ j, j < (u.1 3).toNatClampNeg → ∀ t, t < (u.2 22 j).toNatClampNeg → w.2 r (6 * j + t) = u.2 r (6 * j + t)) : rep q d w z f := by
  obtain ⟨h1g, h1l, ⟨⟨g, a1, a2⟩, a3⟩, h1v, n0, n1, n2, n3, n4⟩ := h
  have hf : fK d z f f (fun _ => False) := fK_rf d z f _
  refine ⟨rPg_fr h1g (zE_rf z) (fun _ _ => rfl) hf (fun _ _ _ _ _ _ h => h) n0 (hr 0 (by omega)) (hr 1 (by omega)) (hr 2 (by omega)), rPl_fr h1l (zE_rf z) rfl (fun _ _ _ => rfl) hf (fun h => h) (fun _ _ _ h => h) n1 (fun r r1 r2 => hr r (by omega)), ⟨⟨g, a1, fun j hj => a2 j (by rw [← h3]; exact hj)⟩, fun j hj => ?_⟩, rRv_fr h1v rfl rfl (hr 20 (by omega)), n0, n1, n2, n3, n4⟩
  rw [h3] at hj
  refine rIt_fr (a3 j hj) (zE_rf z) ⟨rfl, rfl, rfl, rfl, rfl⟩ hf ⟨fun h => h, fun h => h, fun h => h, fun h => h, fun h => h⟩ ⟨fun r r1 r2 _ _ _ _ _ => by rw [hr r (by omega)], fun r r1 r2 t ht => hp r r1 r2 j hj t ht, fun t _ => by rw [hr 47 (by omega)], fun t _ => by rw [hr 16 (by omega)], fun t _ => by rw [hr 18 (by omega), hr 19 (by omega)]; exact ⟨rfl, rfl⟩, fun t _ => by rw [hr 21 (by omega)], fun t _ => by rw [hr 48 (by omega)]⟩ (by rw [h3]; exact Nat.le_refl _) (fun o _ => ⟨rfl, by rw [hr 4 (by omega)]⟩)
