theorem fill_ind {u : mS} {es : List hE} {c : cfg} (r : rI u) (d : mH u es c) : ∀ xs, fGood u xs → xG (u.1 3).toNatClampNeg (u.2 4) c xs ∧ cM (fillR u xs) (cFill c xs) ∧ rI (fillR u xs) ∧ fM (fillR u xs) (fil es) xs ∧ ∀ j, j < fil es → (fillR u xs).2 37 j = u.2 37 j
  | [], _ => ⟨trivial, d.2.2.2.2.2, r, trivial, fun _ _ => rfl⟩
  | x :: xs, h => by
    obtain ⟨h1, h2, h3, h4, h5, h6, h7, h8⟩ := h
    obtain ⟨i1_, i2, i3, i4, i5⟩ := fill_ind r d xs h1
    have ha : x.1 < 80 := Nat.lt_of_lt_of_le h2 (n80 r)
    have hok := cOK_fill (hOK_c d.2.2.2.1) i1_
    have hb := fil_380 d.2.2.2.1 i1_
    have hn := n80 r
    have he0 := d.1
    have he : cFill c xs x.1 = [] := by
      have q1 := (i2 x.1 ha).1
      have q2 := (hok x.1).2.1
      rw [h4] at q1
      refine List.length_eq_zero_iff.mp ?_
      have e : (nI (cFill c xs x.1).length).toInt = 0 := by rw [← q1]; rfl
      rw [nI_toInt (by omega)] at e
      omega
    have hr : rOK (x.2.1, x.2.2.1, x.2.2.2.1, 1, x.2.2.2.2) := ⟨h5, h6, h7, Nat.le_refl 1, h8⟩
    have hm := cM_stand ha (by rw [he]; exact Nat.zero_le _) (fun b => (hok b).2.1) i2 x.2.1 x.2.2.1 x.2.2.2.1 1 x.2.2.2.2
    have hrI := rI_stand i3 ha (P := x.2.1) (Y := x.2.2.2.1) (N := x.2.2.2.2) h6
    have hix : ((fillR u xs).1 36 + nI xs.length).toNatClampNeg = fil es + xs.length := by
      rw [(fillR_k u xs).1, d.2.2.1, nI_add, nI_clamp (by omega)]
    have e1 : fillR u (x :: xs) = mst (mStand (fillR u xs) (nI x.1) x.2.1 x.2.2.1 x.2.2.2.1 1 x.2.2.2.2) 37 ((fillR u xs).1 36 + nI xs.length) (nI x.1) := rfl
    have s37 : (mStand (fillR u xs) (nI x.1) x.2.1 x.2.2.1 x.2.2.2.1 1 x.2.2.2.2).2 37 = (fillR u xs).2 37 := mStand_k2 _ _ _ _ _ _ _ (by decide) (by decide)
    have s1 : (mStand (fillR u xs) (nI x.1) x.2.1 x.2.2.1 x.2.2.2.1 1 x.2.2.2.2).1 = (fillR u xs).1 := rfl
    rw [e1]
    generalize mStand (fillR u xs) (nI x.1) x.2.1 x.2.2.1 x.2.2.2.1 1 x.2.2.2.2 = w at hm hrI s37 s1
    refine ⟨⟨i1_, h2, h3, he, hr⟩, cM_rows (fun k k1 k2 => mst_other (by omega)) hm, rI_m hrI rfl rfl (fun k hk => mst_other (by omega)), ⟨?_, fM_c (fun j hj => ?_) i4⟩, fun j hj => ?_⟩
    · rw [mst_at, hix, if_pos rfl]
    · rw [mst_at, hix, if_neg (by omega), s37]
    · rw [mst_at, hix, if_neg (by omega), s37]; exact i5 j hj
theorem fill_hfb {u : mS} (h : mInv u) (x : fX) (xs : List fX) (hg : fGood u (x :: xs)) : 0 ≤ (u.1 36).toInt ∧ (u.1 36).toInt + (xs.length : Int) < 700 := by
  obtain ⟨r, -, es, c, d⟩ := h
  have h1 := fil_380 d.2.2.2.1 (fill_ind r d _ hg).1
  have hn := n80 r
  have he0 := d.1
  rw [List.length_cons] at h1
  rw [d.2.2.1, nI_toInt (by omega)]
  omega
theorem fill_inv {u w : mS} (h : mInv u) (he : w = u ∨ ∃ xs : List fX, xs ≠ [] ∧ fGood u xs ∧ ¬ u.1 28 = 300 ∧ w = mFillE u xs) : mKp u w := by
  rcases he with e | ⟨xs, -, hg, h3, e⟩
  · rw [e]; exact mKp_rf h
  · rw [e]
    obtain ⟨r, b, es, c, d⟩ := h
    obtain ⟨i1_, i2, i3_, i4, i5⟩ := fill_ind r d xs hg
    have hk := fillR_k u xs
    unfold mFillE
    generalize fillR u xs = z at i2 i3_ i4 i5 hk
    have h28 : (z.1 28).toNatClampNeg = es.length := by rw [hk.1]; exact len28 d
    have hx := acts_at h28 3 (nI xs.length) 0 0 0 0 0
    have ho := acts_old h28 3 (nI xs.length) 0 0 0 0 0
    have i3 : ∀ j, j ≠ 28 → (mActs z 3 (nI xs.length) 0 0 0 0 0).1 j = u.1 j := fun j hj => by rw [mActs_1, if_neg hj, hk.1]
    have i28 : (mActs z 3 (nI xs.length) 0 0 0 0 0).1 28 = u.1 28 + 1 := by rw [mActs_1, if_pos rfl, hk.1]
    have k4 : ∀ k, k < 29 ∨ 35 < k → (mActs z 3 (nI xs.length) 0 0 0 0 0).2 k = z.2 k := fun k hk => mActs_k _ _ _ _ _ _ _ _ hk
    generalize mActs z 3 (nI xs.length) 0 0 0 0 0 = w2 at hx ho i3 i28 k4
    have m1 : ∀ j, j ≠ 36 → (mset w2 36 (w2.1 36 + nI xs.length)).1 j = w2.1 j := fun j hj => by unfold mset; exact if_neg hj
    have m36 : (mset w2 36 (w2.1 36 + nI xs.length)).1 36 = nI (fil es + xs.length) := by rw [mset_same, i3 36 (by decide), d.2.2.1, nI_add]
    have m2 : (mset w2 36 (w2.1 36 + nI xs.length)).2 = w2.2 := rfl
    generalize mset w2 36 (w2.1 36 + nI xs.length) = y at m1 m36 m2
    refine ⟨⟨rI_m i3_ (by rw [m1 3 (by decide), i3 3 (by decide), hk.1]) (by rw [m1 38 (by decide), i3 38 (by decide), hk.1]) (fun k q => by rw [m2]; exact k4 k (by omega)), kB_c b ?_ ?_, (3, 0, (0, 0, 0, 0, 0), xs) :: es, cFill c xs, ?_⟩, by rw [m1 38 (by decide)]; exact i3 38 (by decide), by rw [m1 39 (by decide)]; exact i3 39 (by decide), ?_⟩
    · rw [m2, k4 4 (by decide), hk.2 4 (nR rfl)]
    · rw [m2, k4 10 (by decide), hk.2 10 (nR rfl)]
    · refine mH_new d (acts300 d h3) (by rw [m1 3 (by decide)]; exact i3 3 (by decide)) ?_ (by rw [m1 28 (by decide)]; exact i28) m36 (fun k k1 k2 t ht => ?_) (fun j hj => ?_) ?_ (cM_rows (fun k k1 k2 => by rw [m2, k4 k (by omega)]) i2) (cOK_fill (hOK_c d.2.2.2.1) i1_) (Or.inr (Or.inr (Or.inr ⟨rfl, rfl, i1_⟩)))
      · rw [m2, k4 4 (by decide), hk.2 4 (nR rfl)]
      · rw [m2, ho k k1 k2 t ht, hk.2 k (by unfold stR; omega)]
      · rw [m2, k4 37 (by decide)]; exact i5 j hj
      · obtain ⟨q1, q2, -⟩ := hx
        unfold eM
        rw [m2]
        exact ⟨q1, fun q => absurd q (by decide : ¬ (3 : Nat) = 0), fun q => absurd q (by decide : ¬ (3 : Nat) = 1), fun q => absurd q (by decide : ¬ (3 : Nat) = 2), fun _ => ⟨q2, fM_c (fun j _ => by rw [m2, k4 37 (by decide)]) i4⟩⟩
    · rw [m2, k4 20 (by decide), hk.2 20 (nR rfl)]
/-- undo -/
theorem back_1 (u : mS) {j : Nat} (h : j ≠ 28) : (mBack u).1 j = u.1 j := by unfold mBack mset; exact if_neg h
theorem back_28 (u : mS) : (mBack u).1 28 = u.1 28 - 1 := by unfold mBack; rw [mset_same]
theorem back_2 (u : mS) : (mBack u).2 = u.2 := rfl
theorem pop_ind {c1 : cfg} {n F : Nat} {kd : Nat → Int32} (hn : n ≤ 80) (hok1 : cOK n kd c1) : ∀ (xs : List fX) (u : mS), xG n kd c1 xs → F + xs.length ≤ 699 → u.1 36 = nI (F + xs.length) → fM u F xs → cM u (cFill c1 xs) → rI u → popOK u xs ∧ cM (popAll u xs) c1 ∧ rI (popAll u xs) ∧ (popAll u xs).1 36 = nI F ∧ (∀ k, k ≠ 36 → (popAll u xs).1 k = u.1 k) ∧ ∀ k, k ≠ 2 → k ≠ 22 → (popAll u xs).2 k = u.2 k
  | [], u, _, _, h36, _, hc, hr => ⟨trivial, hc, hr, h36, fun _ _ => rfl, fun _ _ _ => rfl⟩
  | x :: xs, u, hx, hl, h36, hf, hc, hr => by
    rw [List.length_cons] at hl h36
    obtain ⟨hx1, hx2, hx3, hx4, hx5⟩ := hx
    have ha : x.1 < 80 := by omega
    have he : (cFill c1 xs x.1).length ≤ 5 := by rw [hx4]; exact Nat.zero_le _
    have h36b : u.1 36 - 1 = nI (F + xs.length) := by rw [h36, dn_e (by omega)]; rfl
    have hs := cM_slR ha he hc
    have hc2 : cM u (cPush (cFill c1 xs) x.1 (x.2.1, x.2.2.1, x.2.2.2.1, 1, x.2.2.2.2)) := hc
    have hm : cM (mset u 36 (u.1 36 - 1)) (cPush (cFill c1 xs) x.1 (x.2.1, x.2.2.1, x.2.2.2.1, 1, x.2.2.2.2)) := cM_rows (u := u) (fun k _ _ => rfl) hc2
    have hm2 := cM_unstand ha he hm x.2.1 x.2.2.1 x.2.2.2.1 1 x.2.2.2.2
    have hr2 := rI_unstand (rI_m (w := mset u 36 (u.1 36 - 1)) hr rfl rfl (fun _ _ => rfl)) (nI x.1) x.2.1 x.2.2.1 x.2.2.2.1 1 x.2.2.2.2
    have p36 : (popS u x).1 36 = nI (F + xs.length) := by
      show (mset u 36 (u.1 36 - 1)).1 36 = _
      rw [mset_same]; exact h36b
    have p1 : ∀ k, k ≠ 36 → (popS u x).1 k = u.1 k := fun k hk => by
      show (mset u 36 (u.1 36 - 1)).1 k = _
      unfold mset; exact if_neg hk
    have p2 : ∀ k, k ≠ 2 → k ≠ 22 → (popS u x).2 k = u.2 k := fun k k1 k2 => by
      unfold popS; rw [mUnstand_k _ _ _ _ _ _ _ k1 k2]; rfl
    have hf2 : fM (popS u x) F xs := fM_c (fun j _ => by rw [p2 37 (by decide) (by decide)]) hf.2
    obtain ⟨j1, j2, j3, j4, j5, j6⟩ := pop_ind hn hok1 xs (popS u x) hx1 (by omega) p36 hf2 hm2 hr2
    refine ⟨⟨?_, ?_, ha, hx5.1, hx5.2.1, hx5.2.2.1, hs, j1⟩, j2, j3, j4, fun k hk => (j5 k hk).trans (p1 k hk), fun k k1 k2 => (j6 k k1 k2).trans (p2 k k1 k2)⟩
    · rw [h36b]; exact bwN (by have h7 : (699 : Int32).toInt = 699 := rfl; rw [h7]; omega) (by omega)
    · rw [h36b, nI_clamp (by omega)]; exact hf.1
/-- what an undo leaves: the same but for the acts' counter, the cells, the counts and (of a lift) a slot -/
theorem old_kp {u w : mS} (h : mInv u) {es : List hE} {c c1 : cfg} {e : hE} (d : mH u (e :: es) c) (h1 : hOK (u.1 3).toNatClampNeg (u.2 4) es c1) (hr : rI w) (i3 : ∀ k, k ≠ 28 → k ≠ 36 → w.1 k = u.1 k) (h28 : w.1 28 = u.1 28 - 1) (h36 : w.1 36 = nI (fil es)) (k2 : ∀ k, k < 2 ∨ 2 < k → k < 22 ∨ 27 < k → w.2 k = u.2 k) (hc : cM w c1) : mKp u w := by
  obtain ⟨-, b, -, -, -⟩ := h
  exact ⟨⟨hr, kB_c b (k2 4 (by decide) (by decide)) (k2 10 (by decide) (by decide)), es, c1, mH_old d h1 (i3 3 (by decide) (by decide)) (k2 4 (by decide) (by decide)) h28 h36 (fun k k3 k4 => k2 k (by omega) (by omega)) hc⟩, i3 38 (by decide) (by decide), i3 39 (by decide) (by decide), k2 20 (by decide) (by decide)⟩
