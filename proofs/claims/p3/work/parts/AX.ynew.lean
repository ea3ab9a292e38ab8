/-- a new item: the book grows by its entries, the desk's row by one -/
theorem rep_new {q d d2 u w z z2 f f2} {g : Nat → Option Nat} (h : rep q d u z f) (hE : zE z z2) (hd : ∀ x, x < 2000 → d2 x = d x) (hdI : ∀ o, o < (u.1 3).toNatClampNeg → bI (fun x => d2 x = d x) o) (hf : fK d z f f2 (fun x => x = 2)) (hg : f (d 2) = aR (q 3) 80 g) (hg2 : f2 (d 2) = aR (q 3) 80 (fun j => if j = (u.1 3).toNatClampNeg then some (d2 (2000 + (u.1 3).toNatClampNeg)) else g j)) (h3 : (w.1 3).toNatClampNeg = (u.1 3).toNatClampNeg + 1) (hs : ∀ j, j < (u.1 3).toNatClampNeg → sI u w j) (hr : ∀ r, r < 3 ∨ r = 20 ∨ (40 ≤ r ∧ r ≤ 44) → w.2 r = u.2 r) (hit : rIt q d2 w z2 f2 (u.1 3).toNatClampNeg) : rep q d2 w z2 f2 := by
  obtain ⟨h1g, h1l, ⟨⟨g9, a1, a2⟩, a3⟩, h1v, n0, n1, n2, n3, n4⟩ := h
  obtain rfl := (aR_inj (hg.symm.trans a1)).2
  generalize hN : (u.1 3).toNatClampNeg = n at *
  have nn : ∀ x t, x < 2000 → nO d z x t → nO d2 z2 x t := fun x t hx ho => nO_d (hd x hx) (nO_E hE ho)
  refine ⟨rPg_fr h1g hE (fun x hx => hd x (by omega)) hf (fun x _ _ h2 _ _ => h2) n0 (hr 0 (by omega)) (hr 1 (by omega)) (hr 2 (by omega)), rPl_fr h1l hE (hd 1 (by omega)) (fun x _ hx => hd x (by omega)) hf (by omega) (fun x x1 x2 => by omega) n1 (fun r r1 r2 => hr r (by omega)), ⟨⟨_, by rw [hd 2 (by omega)]; exact hg2, fun j hj => ?_⟩, fun j hj => ?_⟩, rRv_fr h1v (hd 4 (by omega)) (hf.1 4 _ n4 (by omega)) (hr 20 (by omega)), nn 0 _ (by omega) n0, nn 1 _ (by omega) n1, nn 2 _ (by omega) n2, nn 3 _ (by omega) n3, nn 4 _ (by omega) n4⟩
  · rw [h3] at hj
    by_cases e : j = n
    · rw [if_pos e, e]
    · rw [if_neg e, (hdI j (by omega)).1]; exact a2 j (by omega)
  · rw [h3] at hj
    by_cases e : j = n
    · rw [e]; exact hit
    · exact rIt_fr (a3 j (by omega)) hE (hdI j (by omega)) hf ⟨by omega, by omega, by omega, by omega, by omega⟩ (hs j (by omega)) (by rw [h3, hN]; omega) (fun o ho => ⟨(hdI o (by omega)).1, (hs o (by omega)).1 4 (by omega) (by omega) (by omega) (by omega) (by omega) (by omega) (by omega)⟩)
