/-- first printing: a fact written keeps rep -/
theorem rep_first {q d u z f} {i t : Nat} {g : Nat → Int32} (h : rep q d u z f) (hn : bw (u.1 3) 0 80 = true) (hi : i < (u.1 3).toNatClampNeg) (ht : t < 5) (x : Int32) (hg : f (d (4000 + i)) = aI (q 0) 5 g) : rep q d (mst u 47 (nI (5 * i + t)) x) z (va_up f (d (4000 + i)) (aI (q 0) 5 (upd g t x))) := by
  have hi8 := (bw_it hn hi).2
  have hN := w80 hn
  have eA : (nI (5 * i + t)).toNatClampNeg = 5 * i + t := nI_clamp (by omega)
  obtain ⟨n1, n2, n3, hkd, rs, g9, fg, hsl, hps, hpcs, hfs, hfe, hrs⟩ := h.2.2.1.2 i hi
  obtain rfl := (aI_inj (hg.symm.trans hfs)).2
  generalize hw9 : mst u 47 (nI (5 * i + t)) x = w
  have w2 : ∀ r, r ≠ 47 → w.2 r = u.2 r := fun r r1 => by rw [← hw9, mst_other r1]
  have w47 : ∀ j, w.2 47 j = if j = 5 * i + t then x else u.2 47 j := fun j => by rw [← hw9, mst_at, eA]
  have w1 : w.1 = u.1 := by rw [← hw9]; rfl
  have hf : fK d z f (va_up f (d (4000 + i)) (aI (q 0) 5 (upd g t x))) (fun x => x = 4000 + i) := fK_up (fK_rf d z f _) n3 (by decide) rfl
  refine rep_it (i := i) h hf (fun x hx => by omega) hi8 hN (fun j hj hji => ?_) w1 (fun r hr => w2 r (by omega)) ?_
  · exact ⟨fun r r1 r2 _ _ _ _ _ => by rw [w2 r (by omega)], fun r r1 r2 t _ => by rw [w2 r (by omega)], fun t2 ht2 => by rw [w47, if_neg (by omega)], fun t _ => by rw [w2 16 (by omega)], fun t ht => by rw [w2 18 (by omega), w2 19 (by omega)]; exact ⟨rfl, rfl⟩, fun t _ => by rw [w2 21 (by omega)], fun t _ => by rw [w2 48 (by omega)]⟩
  · refine ⟨by rw [w2 4 (by omega)]; exact n1, n2, n3, by rw [w2 4 (by omega)]; exact hkd, rs, g9, _, ?_, ?_, ?_, up_s, ?_, ?_⟩
    · rw [hf.1 _ _ n1 (by omega), w2 4 (by omega), w2 22 (by omega)]; exact hsl
    · rw [hf.2 i n2 (by omega), w2 4 (by omega)]; exact hps
    · intro t2 ht2
      rw [w2 22 (by omega)] at ht2
      obtain ⟨b, b1, b2⟩ := hpcs t2 ht2
      refine ⟨b, b1, ?_⟩
      have hp : ∀ c, c < 5 → pR w i t2 c = pR u i t2 c := fun c hc => by show w.2 (23 + c) _ = u.2 (23 + c) _; rw [w2 (23 + c) (by omega)]
      rw [hp 0 (by omega), hp 1 (by omega), hp 2 (by omega), hp 3 (by omega), hp 4 (by omega)]
      exact b2
    · intro j hj
      rw [w47]
      unfold upd
      by_cases e : j = t
      · rw [if_pos e, if_pos (by omega)]
      · rw [if_neg e, if_neg (by omega)]; exact hfe j hj
    · obtain ⟨k0, k1, k2, k3, k4, k5⟩ := hrs
      unfold rRs
      rw [w2 4 (by omega), w2 5 (by omega), w2 6 (by omega), w2 7 (by omega), w2 8 (by omega), w2 9 (by omega), w2 10 (by omega), w2 11 (by omega), w2 12 (by omega), w2 13 (by omega), w2 14 (by omega), w2 15 (by omega), w2 16 (by omega), w2 17 (by omega), w2 18 (by omega), w2 19 (by omega), w2 21 (by omega), w2 48 (by omega), w1]
      refine ⟨fun e => ?_, k1, fun e => ?_, fun e => ?_, k4, k5⟩
      · obtain ⟨a1, a2, a3, ⟨g1, a4, a5⟩, g3, a6, a7⟩ := k0 e
        exact ⟨a1, a2, a3, ⟨g1, by rw [hf.1 _ _ a2 (by omega)]; exact a4, a5⟩, g3, by rw [hf.1 _ _ a3 (by omega)]; exact a6, a7⟩
      · obtain ⟨a1, a2, a3, ⟨g1, a4, a5⟩, g3, a6, a7⟩ := k2 e
        exact ⟨a1, a2, a3, ⟨g1, by rw [hf.1 _ _ a2 (by omega)]; exact a4, a5⟩, g3, by rw [hf.1 _ _ a3 (by omega)]; exact a6, a7⟩
      · obtain ⟨a1, a2, a3, g1, a4, a5⟩ := k3 e
        exact ⟨a1, a2, a3, g1, by rw [hf.1 _ _ a3 (by omega)]; exact a4, a5⟩
/-- a day on which item i was printed: written where it is a square, else nowhere -/
theorem rep_day {q d u z f f2} {i t : Nat} (h : rep q d u z f) (hn : bw (u.1 3) 0 80 = true) (hi : i < (u.1 3).toNatClampNeg) (ht : t < 400) (hf2 : (¬ u.2 4 i = 3 ∧ f2 = f) ∨ (u.2 4 i = 3 ∧ ∃ g, f (d (6000 + i)) = aI (q 1) 400 g ∧ f2 = va_up f (d (6000 + i)) (aI (q 1) 400 (upd g t (vp_nar .boolean 1))))) : rep q d (mst u 48 (nI (80 * t + i)) (vp_nar .boolean 1)) z f2 := by
  have hi8 := (bw_it hn hi).2
  have hN := w80 hn
  have eA : (nI (80 * t + i)).toNatClampNeg = 80 * t + i := nI_clamp (by omega)
  obtain ⟨n1, n2, n3, hkd, rs, g9, fg, hsl, hps, hpcs, hfs, hfe, hrs⟩ := h.2.2.1.2 i hi
  generalize hw9 : mst u 48 (nI (80 * t + i)) (vp_nar .boolean 1) = w
  have w2 : ∀ r, r ≠ 48 → w.2 r = u.2 r := fun r r1 => by rw [← hw9, mst_other r1]
  have w48 : ∀ j, w.2 48 j = if j = 80 * t + i then vp_nar .boolean 1 else u.2 48 j := fun j => by rw [← hw9, mst_at, eA]
  have w1 : w.1 = u.1 := by rw [← hw9]; rfl
  have hf : fK d z f f2 (fun x => x = 6000 + i) := by
    rcases hf2 with ⟨-, rfl⟩ | ⟨e, g, -, rfl⟩
    · exact fK_rf d z _ _
    · exact fK_up (fK_rf d z f _) (hrs.2.2.2.1 e).2.2.1 (by decide) rfl
  refine rep_it (i := i) h hf (fun x hx => by omega) hi8 hN (fun j hj hji => ?_) w1 (fun r hr => w2 r (by omega)) ?_
  · exact ⟨fun r r1 r2 _ _ _ _ _ => by rw [w2 r (by omega)], fun r r1 r2 t _ => by rw [w2 r (by omega)], fun t2 ht2 => by rw [w2 47 (by omega)], fun t _ => by rw [w2 16 (by omega)], fun t ht => by rw [w2 18 (by omega), w2 19 (by omega)]; exact ⟨rfl, rfl⟩, fun t _ => by rw [w2 21 (by omega)], fun t2 _ => by rw [w48, if_neg (by omega)]⟩
  · refine ⟨by rw [w2 4 (by omega)]; exact n1, n2, n3, by rw [w2 4 (by omega)]; exact hkd, rs, g9, fg, ?_, ?_, ?_, ?_, ?_, ?_⟩
    · rw [hf.1 _ _ n1 (by omega), w2 4 (by omega), w2 22 (by omega)]; exact hsl
    · rw [hf.2 i n2 (by omega), w2 4 (by omega)]; exact hps
    · intro t2 ht2
      rw [w2 22 (by omega)] at ht2
      obtain ⟨b, b1, b2⟩ := hpcs t2 ht2
      refine ⟨b, b1, ?_⟩
      have hp : ∀ c, c < 5 → pR w i t2 c = pR u i t2 c := fun c hc => by show w.2 (23 + c) _ = u.2 (23 + c) _; rw [w2 (23 + c) (by omega)]
      rw [hp 0 (by omega), hp 1 (by omega), hp 2 (by omega), hp 3 (by omega), hp 4 (by omega)]
      exact b2
    · rw [hf.1 _ _ n3 (by omega)]; exact hfs
    · rw [w2 47 (by omega)]; exact hfe
    · obtain ⟨k0, k1, k2, k3, k4, k5⟩ := hrs
      unfold rRs
      rw [w2 4 (by omega), w2 5 (by omega), w2 6 (by omega), w2 7 (by omega), w2 8 (by omega), w2 9 (by omega), w2 10 (by omega), w2 11 (by omega), w2 12 (by omega), w2 13 (by omega), w2 14 (by omega), w2 15 (by omega), w2 16 (by omega), w2 17 (by omega), w2 18 (by omega), w2 19 (by omega), w2 21 (by omega), w1]
      have up : ¬ u.2 4 i = 3 → f2 = f := fun e => by
        rcases hf2 with ⟨-, q⟩ | ⟨e2, -⟩
        · exact q
        · exact absurd e2 e
      refine ⟨fun e => ?_, k1, fun e => ?_, fun e => ?_, k4, k5⟩
      · rw [up (by rw [e]; decide)]; exact k0 e
      · rw [up (by rw [e]; decide)]; exact k2 e
      · obtain ⟨a1, a2, a3, g1, a4, a5⟩ := k3 e
        rcases hf2 with ⟨e2, -⟩ | ⟨-, g, hg, rfl⟩
        · exact absurd e e2
        · obtain rfl := (aI_inj (hg.symm.trans a4)).2
          refine ⟨a1, a2, a3, _, up_s, fun j hj => ?_⟩
          rw [w48]
          unfold upd
          by_cases e9 : j = t
          · rw [if_pos e9, if_pos (by omega)]
          · rw [if_neg e9, if_neg (by omega)]; exact a5 j hj
/-- the five facts, one after the other -/
def wdF (u : mS) (i : Nat) (p s : Int32) : Nat → mS
  | 0 => u
  | t + 1 => mst (wdF u i p s t) 47 (nI (5 * i + t)) (mPF u p s (nI t))
def wdU (u : mS) (i : Nat) (p s : Int32) : mS := mst (if u.2 47 (5 * i) = (-1) then wdF u i p s 5 else u) 48 (nI (80 * (u.1 38).toNatClampNeg + i)) (vp_nar .boolean 1)
theorem wdF_1 (u : mS) (i : Nat) (p s : Int32) : ∀ t, (wdF u i p s t).1 = u.1
  | 0 => rfl
  | t + 1 => wdF_1 u i p s t
theorem wdF_k (u : mS) (i : Nat) (p s : Int32) {r : Nat} (hr : r ≠ 47) : ∀ t, (wdF u i p s t).2 r = u.2 r
  | 0 => rfl
  | t + 1 => by
    show (mst (wdF u i p s t) 47 _ _).2 r = _
    rw [mst_other hr]; exact wdF_k u i p s hr t
theorem mPF_wd (u : mS) (i : Nat) (p s p2 s2 w : Int32) (t : Nat) : mPF (wdF u i p s t) p2 s2 w = mPF u p2 s2 w := by
  unfold mPF
  rw [wdF_k u i p s (by decide) t, wdF_k u i p s (by decide) t]
