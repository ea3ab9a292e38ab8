/-- a write at page p alone -/
theorem rep_pg {q d u w z f f2} {X : Nat → Prop} {p : Nat} (h : rep q d u z f) (hf : fK d z f f2 X) (hX : ∀ x, X x → x = 10 + p ∨ x = 30 + p ∨ x = 50 + p) (hp : p < 12) (h1 : w.1 = u.1) (hr : ∀ r, 3 ≤ r → w.2 r = u.2 r) (ho : ∀ j, j < 12 → j ≠ p → w.2 1 j = u.2 1 j ∧ (∀ t, t < 8 → w.2 0 (8 * j + t) = u.2 0 (8 * j + t)) ∧ ∀ t, t < 480 → w.2 2 (480 * j + t) = u.2 2 (480 * j + t)) (hpg : ∃ dd ii, shR q f2 (d (10 + p)) (d (30 + p)) (d (50 + p)) (w.2 1 p) dd ii (w.2 0) (w.2 2) (8 * p) (480 * p)) : rep q d w z f2 := by
  obtain ⟨⟨⟨g, a1, a2⟩, a3⟩, h1l, h1i, h1v, n0, n1, n2, n3, n4⟩ := h
  have nx : ∀ x, x < 10 ∨ 100 ≤ x → ¬ X x := fun x hx hX2 => by rcases hX x hX2 with e | e | e <;> omega
  refine ⟨⟨⟨g, by rw [hf.1 0 _ n0 (nx 0 (by omega))]; exact a1, a2⟩, fun j hj => ?_⟩, rPl_fr h1l (zE_rf z) rfl (fun _ _ _ => rfl) hf (nx 1 (by omega)) (fun x _ _ => nx x (by omega)) n1 (fun r r1 r2 => hr r (by omega)), rIs_out h1i hf (fun x hx => nx x (by omega)) n2 (by rw [h1]) (fun r r1 _ _ => hr r (by omega)), rRv_fr h1v rfl (hf.1 4 _ n4 (nx 4 (by omega))) (hr 20 (by omega)), n0, n1, n2, n3, n4⟩
  obtain ⟨m1, m2, m3, dd, ii, s1, ⟨gl, s2, s3⟩, gc, s4, s5⟩ := a3 j hj
  refine ⟨m1, m2, m3, ?_⟩
  by_cases e : j = p
  · rw [e]; exact hpg
  · obtain ⟨o1, o2, o3⟩ := ho j hj e
    have k1 : ¬ X (10 + j) := fun hX2 => by rcases hX _ hX2 with e | e | e <;> omega
    have k2 : ¬ X (30 + j) := fun hX2 => by rcases hX _ hX2 with e | e | e <;> omega
    have k3 : ¬ X (50 + j) := fun hX2 => by rcases hX _ hX2 with e | e | e <;> omega
    exact ⟨dd, ii, by rw [hf.1 _ _ m1 k1, o1]; exact s1, ⟨gl, by rw [hf.1 _ _ m2 k2]; exact s2, eqR_w s3 o2⟩, gc, by rw [hf.1 _ _ m3 k3]; exact s4, eqR_w s5 o3⟩
theorem rep_col {q d u z f} {p c : Nat} {x : Int32} {gl : Nat → Int32} (h : rep q d u z f) (hp : p < 12) (hc : c < 8) (hg : f (d (30 + p)) = aI (q 0) 8 gl) : rep q d (mst u 0 (8 * nI p + nI c) x) z (va_up f (d (30 + p)) (aI (q 0) 8 (upd gl c x))) := by
  have eA : (8 * nI p + nI c).toNatClampNeg = 8 * p + c := by rw [show (8 : Int32) = nI 8 from rfl, pk_mul, nI_add, nI_clamp (by omega)]
  obtain ⟨m1, m2, m3, dd, ii, s1, ⟨gl2, s2, s3⟩, gc, s4, s5⟩ := h.1.2 p hp
  obtain rfl := (aI_inj (hg.symm.trans s2)).2
  generalize hw9 : mst u 0 (8 * nI p + nI c) x = w
  have w2 : ∀ r, r ≠ 0 → w.2 r = u.2 r := fun r r1 => by rw [← hw9, mst_other r1]
  have w0 : ∀ j, w.2 0 j = if j = 8 * p + c then x else u.2 0 j := fun j => by rw [← hw9, mst_at, eA]
  have w1 : w.1 = u.1 := by rw [← hw9]; rfl
  have hf : fK d z f (va_up f (d (30 + p)) (aI (q 0) 8 (upd gl c x))) (fun x => x = 30 + p) := fK_up (fK_rf d z f _) m2 (by decide) rfl
  refine rep_pg (p := p) h hf (fun x hx => by omega) hp w1 (fun r r1 => w2 r (by omega)) (fun j hj hjp => ⟨by rw [w2 1 (by omega)], fun t ht => by rw [w0, if_neg (by omega)], fun t ht => by rw [w2 2 (by omega)]⟩) ⟨dd, ii, ?_, ⟨_, up_s, fun t ht => ?_⟩, gc, ?_, ?_⟩
  · rw [hf.1 _ _ m1 (by omega), w2 1 (by omega)]; exact s1
  · rw [w0]
    unfold upd
    by_cases e : t = c
    · rw [if_pos e, if_pos (by omega)]
    · rw [if_neg e, if_neg (by omega)]; exact s3 t ht
  · rw [hf.1 _ _ m3 (by omega)]; exact s4
  · rw [w2 2 (by omega)]; exact s5
theorem rep_ms {q d u z f} {p : Nat} {x m dd ii : Int32} {la ca : Nat} (h : rep q d u z f) (hp : p < 12) (hg : f (d (10 + p)) = .inr (8, [.ref la, .ref ca, .int m, .int dd, .int ii])) : rep q d (mst u 1 (nI p) x) z (va_up f (d (10 + p)) (.inr (8, [.ref la, .ref ca, .int x, .int dd, .int ii]))) := by
  have eA : (nI p).toNatClampNeg = p := nI_clamp (by omega)
  obtain ⟨m1, m2, m3, dd2, ii2, s1, ⟨gl, s2, s3⟩, gc, s4, s5⟩ := h.1.2 p hp
  obtain ⟨e1, e2, e3, e4, e5⟩ := sh_inj (hg.symm.trans s1)
  subst e1 e2 e4 e5
  generalize hw9 : mst u 1 (nI p) x = w
  have w2 : ∀ r, r ≠ 1 → w.2 r = u.2 r := fun r r1 => by rw [← hw9, mst_other r1]
  have w0 : ∀ j, w.2 1 j = if j = p then x else u.2 1 j := fun j => by rw [← hw9, mst_at, eA]
  have w1 : w.1 = u.1 := by rw [← hw9]; rfl
  have hf : fK d z f (va_up f (d (10 + p)) (.inr (8, [.ref (d (30 + p)), .ref (d (50 + p)), .int x, .int dd, .int ii]))) (fun x => x = 10 + p) := fK_up (fK_rf d z f _) m1 (by decide) rfl
  refine rep_pg (p := p) h hf (fun x hx => by omega) hp w1 (fun r r1 => w2 r (by omega)) (fun j hj hjp => ⟨by rw [w0, if_neg hjp], fun t ht => by rw [w2 0 (by omega)], fun t ht => by rw [w2 2 (by omega)]⟩) ⟨dd, ii, ?_, ⟨gl, ?_, ?_⟩, gc, ?_, ?_⟩
  · rw [up_s, w0, if_pos rfl]
  · rw [hf.1 _ _ m2 (by omega)]; exact s2
  · rw [w2 0 (by omega)]; exact s3
  · rw [hf.1 _ _ m3 (by omega)]; exact s4
  · rw [w2 2 (by omega)]; exact s5
