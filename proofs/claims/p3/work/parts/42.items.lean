theorem rI_15 {u : mS} (h : rI u) {i x : Int32} (hx : bw x 0 80 = true) : rI (mst u 15 i x) := by
  obtain ⟨r1, r2, r3, r4, r5, r6, r7, r8⟩ := h
  refine ⟨r1, r2, ?_, ?_, fun j hj => ?_, ?_, ?_, ?_⟩
  · rw [mst_other (by decide)]; exact r3
  · rw [mst_other (by decide)]; exact r4
  · rw [mst_at]
    split
    · exact hx
    · exact r5 j hj
  · rw [mst_other (by decide)]; exact r6
  · rw [mst_other (by decide)]; exact r7
  · rw [mst_other (by decide), mst_other (by decide)]; exact r8
theorem rI_17 {u : mS} (h : rI u) {i x : Int32} (hx : bw x 0 4 = true) : rI (mst u 17 i x) := by
  obtain ⟨r1, r2, r3, r4, r5, r6, r7, r8⟩ := h
  refine ⟨r1, r2, ?_, ?_, ?_, fun j hj => ?_, ?_, ?_⟩
  · rw [mst_other (by decide)]; exact r3
  · rw [mst_other (by decide)]; exact r4
  · rw [mst_other (by decide)]; exact r5
  · rw [mst_at]
    split
    · exact hx
    · exact r6 j hj
  · rw [mst_other (by decide)]; exact r7
  · rw [mst_other (by decide), mst_other (by decide)]; exact r8
theorem mKp_rk {u : mS} (h : mInv u) {k : Nat} (hk : k = 15 ∨ k = 17) {i x : Int32} (hx : rI (mst u k i x)) : mKp u (mst u k i x) := by
  obtain ⟨a, b, es, c, d⟩ := h
  exact ⟨⟨hx, kB_c b (mst_other (by omega)) (mst_other (by omega)), es, c, mH_c d rfl rfl rfl (mst_other (by omega)) (fun k k1 k2 => mst_other (by omega))⟩, rfl, rfl, mst_other (by omega)⟩
theorem bwp {x hi : Int32} (h : bw x 0 hi = true) (h2 : ¬ x = hi) (hh : hi.toInt < 1000) : bw (x + 1) 0 hi = true := by
  have h1 := bw_iff.mp h
  rw [i0] at h1
  have h3 : ¬ x.toInt = hi.toInt := fun e => h2 (Int32.toInt_inj.mp e)
  rw [bw_iff, i0, addI (by rw [i1]; omega) (by rw [i1]; omega), i1]; omega
theorem line_inv {u w : mS} {r i x : Int32} (h : mInv u) (he : (r, w) = mLine u i x) : mKp u w := by
  unfold mLine at he
  split at he
  · rename_i hk
    split at he
    · split at he
      · obtain ⟨-, e2⟩ := Prod.mk.inj he; subst e2; exact mKp_rf h
      · rename_i h80
        obtain ⟨-, e2⟩ := Prod.mk.inj he; subst e2
        have h1 := mKp_st h (k := 16) (by unfold kR; omega) (by decide) (80 * i + u.2 15 i.toNatClampNeg) x
        have hi := vlt (vIt h.1.1 (band hk).1)
        have hc : bw ((mst u 16 (80 * i + u.2 15 i.toNatClampNeg) x).2 15 i.toNatClampNeg + 1) 0 80 = true := by
          rw [mst_other (by decide)]
          exact bwp (h.1.2.2.2.2.1 _ hi) h80 (by decide)
        exact mKp_tr h1 (mKp_rk h1.1 (Or.inl rfl) (rI_15 h1.1.1 hc))
    · obtain ⟨-, e2⟩ := Prod.mk.inj he; subst e2; exact mKp_rf h
  · obtain ⟨-, e2⟩ := Prod.mk.inj he; subst e2; exact mKp_rf h
theorem size_inv {u w : mS} {r i x y : Int32} (h : mInv u) (he : (r, w) = mSize u i x y) : mKp u w := by
  unfold mSize at he
  split at he
  · rename_i hk
    split at he
    · split at he
      · split at he
        · obtain ⟨-, e2⟩ := Prod.mk.inj he; subst e2; exact mKp_rf h
        · rename_i h4
          dsimp only at he
          obtain ⟨-, e2⟩ := Prod.mk.inj he; subst e2
          have h1 := mKp_st h (k := 18) (by unfold kR; omega) (by decide) (4 * i + u.2 17 i.toNatClampNeg) x
          have h2 := mKp_st h1.1 (k := 19) (by unfold kR; omega) (by decide) (4 * i + (mst u 18 (4 * i + u.2 17 i.toNatClampNeg) x).2 17 i.toNatClampNeg) y
          have hi := vlt (vIt h.1.1 (band hk).1)
          refine mKp_tr h1 (mKp_tr h2 (mKp_rk h2.1 (Or.inr rfl) (rI_17 h2.1.1 ?_)))
          rw [mst_other (by decide), mst_other (by decide)]
          exact bwp (h.1.2.2.2.2.2.1 _ hi) h4 (by decide)
      · obtain ⟨-, e2⟩ := Prod.mk.inj he; subst e2; exact mKp_rf h
    · obtain ⟨-, e2⟩ := Prod.mk.inj he; subst e2; exact mKp_rf h
  · obtain ⟨-, e2⟩ := Prod.mk.inj he; subst e2; exact mKp_rf h
theorem names_inv {u w : mS} {r i x : Int32} (h : mInv u) (he : (r, w) = mNames u i x) : mKp u w := by
  unfold mNames at he
  repeat' split at he
  all_goals first
    | (obtain ⟨-, e2⟩ := Prod.mk.inj he; subst e2; exact mKp_rf h)
    | (obtain ⟨-, e2⟩ := Prod.mk.inj he; subst e2; exact mKp_st h (by unfold kR; omega) (by decide) _ _)
theorem riv_inv {u w : mS} {r a b : Int32} (h : mInv u) (he : (r, w) = mRival u a b) : mInv w ∧ w.1 38 = u.1 38 ∧ w.1 39 = u.1 39 := by
  unfold mRival at he
  repeat' split at he
  all_goals first
    | (obtain ⟨-, e2⟩ := Prod.mk.inj he; subst e2; exact ⟨h, rfl, rfl⟩)
    | (obtain ⟨-, e2⟩ := Prod.mk.inj he; subst e2; exact ⟨mInv_c h (fun _ _ => rfl) (fun j hj => by rw [mst_other (by unfold kR at hj; omega), mst_other (by unfold kR at hj; omega)]), rfl, rfl⟩)
/-- a new item -/
theorem made_1 (u : mS) (k : Int32) (j : Nat) : (mMade u k).1 j = if j = 3 then u.1 3 + 1 else u.1 j := rfl
theorem made_k (u : mS) (k : Int32) {j : Nat} (h : j ≠ 4 ∧ j ≠ 5 ∧ j ≠ 6 ∧ j ≠ 7 ∧ j ≠ 8 ∧ j ≠ 9 ∧ j ≠ 10 ∧ j ≠ 15 ∧ j ≠ 17 ∧ j ≠ 22) : (mMade u k).2 j = u.2 j := by
  unfold mMade
  dsimp only
  rw [mset_2, mst_other (by omega), mst_other (by omega), mst_other (by omega), mst_other (by omega), mst_other (by omega), mst_other (by omega), mst_other (by omega), mst_other (by omega), mst_other (by omega), mst_other (by omega)]
theorem made_4 (u : mS) (k : Int32) (j : Nat) : (mMade u k).2 4 j = if j = (u.1 3).toNatClampNeg then k else u.2 4 j := by
  unfold mMade
  dsimp only
  rw [mset_2, mst_other (by decide), mst_other (by decide), mst_other (by decide), mst_other (by decide), mst_other (by decide), mst_other (by decide), mst_other (by decide), mst_other (by decide), mst_other (by decide), mst_at]
theorem made_10 (u : mS) (k : Int32) (j : Nat) : (mMade u k).2 10 j = if j = (u.1 3).toNatClampNeg then (-1) else u.2 10 j := by
  unfold mMade
  dsimp only
  rw [mset_2, mst_other (by decide), mst_other (by decide), mst_other (by decide), mst_at, mst_other (by decide), mst_other (by decide), mst_other (by decide), mst_other (by decide), mst_other (by decide), mst_other (by decide)]
theorem made_15 (u : mS) (k : Int32) (j : Nat) : (mMade u k).2 15 j = if j = (u.1 3).toNatClampNeg then 0 else u.2 15 j := by
  unfold mMade
  dsimp only
  rw [mset_2, mst_other (by decide), mst_other (by decide), mst_at, mst_other (by decide), mst_other (by decide), mst_other (by decide), mst_other (by decide), mst_other (by decide), mst_other (by decide), mst_other (by decide)]
theorem made_17 (u : mS) (k : Int32) (j : Nat) : (mMade u k).2 17 j = if j = (u.1 3).toNatClampNeg then 0 else u.2 17 j := by
  unfold mMade
  dsimp only
  rw [mset_2, mst_other (by decide), mst_at, mst_other (by decide), mst_other (by decide), mst_other (by decide), mst_other (by decide), mst_other (by decide), mst_other (by decide), mst_other (by decide), mst_other (by decide)]
theorem made_22 (u : mS) (k : Int32) (j : Nat) : (mMade u k).2 22 j = if j = (u.1 3).toNatClampNeg then 0 else u.2 22 j := by
  unfold mMade
  dsimp only
  rw [mset_2, mst_at, mst_other (by decide), mst_other (by decide), mst_other (by decide), mst_other (by decide), mst_other (by decide), mst_other (by decide), mst_other (by decide), mst_other (by decide), mst_other (by decide)]
theorem made_rI {u : mS} (h : rI u) (h8 : ¬ u.1 3 = 80) (k : Int32) : rI (mMade u k) := by
  obtain ⟨r1, r2, r3, r4, r5, r6, r7, r8⟩ := h
  refine ⟨bwp r1 h8 (by decide), r2, ?_, ?_, fun j hj => ?_, fun j hj => ?_, ?_, ?_⟩
  · rw [made_k _ _ (by decide)]; exact r3
  · rw [made_k _ _ (by decide)]; exact r4
  · rw [made_15]
    split
    · decide
    · exact r5 j hj
  · rw [made_17]
    split
    · decide
    · exact r6 j hj
  · rw [made_k _ _ (by decide)]; exact r7
  · rw [made_k _ _ (by decide), made_k _ _ (by decide)]; exact r8
theorem made_H {u : mS} (h1 : rI u) (h8 : ¬ u.1 3 = 80) {es : List hE} {c : cfg} (h : mH u es c) (k : Int32) : mH (mMade u k) es c := by
  obtain ⟨a1, a2, a3, a4, a5, a6⟩ := h
  obtain ⟨e1, e2, e3⟩ := nI_of_bw h1.1
  have h80 : (80 : Int32).toInt = 80 := rfl
  have hn : ((mMade u k).1 3).toNatClampNeg = (u.1 3).toNatClampNeg + 1 := by
    show (u.1 3 + 1).toNatClampNeg = _
    rw [e1, nI_1, nI_clamp (by omega), nI_clamp (by omega)]
  refine ⟨a1, a2, a3, ?_, aM_rows (fun k k1 k2 => made_k _ _ (by omega)) a5, fun a ha => ⟨?_, ?_⟩⟩
  · rw [hn]
    exact hOK_mono (Nat.le_succ _) (fun a ha => by rw [made_4, if_neg (by omega)]) a4
  · rw [made_22]
    split
    · rename_i q
      rw [((hOK_c a4) a).1 (by omega)]; rfl
    · exact (a6 a ha).1
  · exact slM_c (fun k _ _ => ⟨by rw [made_k _ _ (by decide)], by rw [made_k _ _ (by decide)], by rw [made_k _ _ (by decide)], by rw [made_k _ _ (by decide)], by rw [made_k _ _ (by decide)]⟩) (a6 a ha).2
theorem made_kp {u : mS} (h : mInv u) (h8 : ¬ u.1 3 = 80) {k : Int32} (hk : ¬ k = 3) : mKp u (mMade u k) := by
  obtain ⟨a, b, es, c, d⟩ := h
  refine ⟨⟨made_rI a h8 k, fun j hj q => ?_, es, c, made_H a h8 d k⟩, rfl, rfl, made_k _ _ (by decide)⟩
  rw [made_4] at q
  rw [made_10]
  split at q
  · exact absurd q hk
  · rename_i e
    rw [if_neg e]; exact b j hj q
theorem story_inv {u w : mS} {r n : Int32} (h : mInv u) (he : (r, w) = mStory u n) : mKp u w := by
  unfold mStory at he
  split at he
  · obtain ⟨-, e2⟩ := Prod.mk.inj he; subst e2; exact mKp_rf h
  · rename_i h8
    split at he
    · obtain ⟨-, e2⟩ := Prod.mk.inj he; subst e2
      have h1 := made_kp h h8 (k := 0) (by decide)
      exact mKp_tr h1 (mKp_st h1.1 (by unfold kR; omega) (by decide) _ _)
    · obtain ⟨-, e2⟩ := Prod.mk.inj he; subst e2; exact mKp_rf h
theorem pic_inv {u w : mS} {r : Int32} (h : mInv u) (he : (r, w) = mPicture u) : mKp u w := by
  unfold mPicture at he
  split at he
  · obtain ⟨-, e2⟩ := Prod.mk.inj he; subst e2; exact mKp_rf h
  · rename_i h8
    obtain ⟨-, e2⟩ := Prod.mk.inj he; subst e2
    exact made_kp h h8 (k := 2) (by decide)
theorem head_inv {u w : mS} {r s x y : Int32} (h : mInv u) (he : (r, w) = mHead u s x y) : mKp u w := by
  unfold mHead at he
  split at he
  · obtain ⟨-, e2⟩ := Prod.mk.inj he; subst e2; exact mKp_rf h
  · rename_i h8
    have h1 := made_kp h h8 (k := 1) (by decide)
    repeat' split at he
    all_goals first
      | (obtain ⟨-, e2⟩ := Prod.mk.inj he; subst e2; exact mKp_rf h)
      | (obtain ⟨-, e2⟩ := Prod.mk.inj he; subst e2
         have h2 := mKp_st h1.1 (k := 9) (by unfold kR; omega) (by decide) (u.1 3) s
         have h3 := mKp_st h2.1 (k := 7) (by unfold kR; omega) (by decide) (u.1 3) x
         exact mKp_tr h1 (mKp_tr h2 (mKp_tr h3 (mKp_st h3.1 (by unfold kR; omega) (by decide) _ _))))
theorem fill_inv0 {u w : mS} {r x y : Int32} (h : mInv u) (he : (r, w) = mFiller u x y) : mKp u w := by
  unfold mFiller at he
  split at he
  · obtain ⟨-, e2⟩ := Prod.mk.inj he; subst e2; exact mKp_rf h
  · rename_i h8
    have h1 := made_kp h h8 (k := 4) (by decide)
    repeat' split at he
    all_goals first
      | (obtain ⟨-, e2⟩ := Prod.mk.inj he; subst e2; exact mKp_rf h)
      | (obtain ⟨-, e2⟩ := Prod.mk.inj he; subst e2
         have h2 := mKp_st h1.1 (k := 5) (by unfold kR; omega) (by decide) (u.1 3) x
         exact mKp_tr h1 (mKp_tr h2 (mKp_st h2.1 (by unfold kR; omega) (by decide) _ _)))
theorem not_inv {u w : mS} {i x : Int32} (h : mInv u) (he : w = u ∨ (¬ u.1 3 = 80 ∧ bw i 0 (u.1 3 - 1) = true ∧ w = mNotice u i x)) : mKp u w := by
  rcases he with e | ⟨h8, -, e⟩
  · rw [e]; exact mKp_rf h
  · rw [e]
    have h1 := made_kp h h8 (k := 5) (by decide)
    have h2 := mKp_st h1.1 (k := 9) (by unfold kR; omega) (by decide) (u.1 3) i
    exact mKp_tr h1 (mKp_tr h2 (mKp_st h2.1 (by unfold kR; omega) (by decide) _ _))
/-- a square that was sold -/
theorem paid_kp {u : mS} (h : mInv u) (h8 : ¬ u.1 3 = 80) {x : Int32} (hx : bw x 0 9 = true) : mKp u (mst (mMade u 3) 10 (u.1 3) x) := by
  obtain ⟨a, b, es, c, d⟩ := h
  have hr := made_rI a h8 3
  refine ⟨⟨?_, fun j hj q => ?_, es, c, mH_c (made_H a h8 d 3) rfl rfl rfl (mst_other (by decide)) (fun k k1 k2 => mst_other (by omega))⟩, rfl, rfl, ?_⟩
  · obtain ⟨r1, r2, r3, r4, r5, r6, r7, r8⟩ := hr
    refine ⟨r1, r2, ?_, ?_, ?_, ?_, ?_, ?_⟩
    · rw [mst_other (by decide)]; exact r3
    · rw [mst_other (by decide)]; exact r4
    · rw [mst_other (by decide)]; exact r5
    · rw [mst_other (by decide)]; exact r6
    · rw [mst_other (by decide)]; exact r7
    · rw [mst_other (by decide), mst_other (by decide)]; exact r8
  · rw [mst_other (by decide), made_4] at q
    rw [mst_at]
    split
    · exact hx
    · rename_i e
      rw [if_neg e] at q
      rw [made_10, if_neg e]; exact b j hj q
  · rw [mst_other (by decide)]; exact made_k _ _ (by decide)
theorem paid_inv {u w : mS} {r b p c l x y m : Int32} (h : mInv u) (he : (r, w) = mPaid u b p c l x y m) : mKp u w := by
  unfold mPaid at he
  split at he
  · obtain ⟨-, e2⟩ := Prod.mk.inj he; subst e2; exact mKp_rf h
  · rename_i h8
    split at he
    · rename_i q
      obtain ⟨-, e2⟩ := Prod.mk.inj he; subst e2
      have hb : bw b 0 9 = true := (band (band (band (band (band q).1).1).1).1).1
      have h1 := paid_kp h h8 hb
      have h2 := mKp_st h1.1 (k := 11) (by unfold kR; omega) (by decide) (u.1 3) p
      have h3 := mKp_st h2.1 (k := 12) (by unfold kR; omega) (by decide) (u.1 3) c
      have h4 := mKp_st h3.1 (k := 13) (by unfold kR; omega) (by decide) (u.1 3) l
      have h5 := mKp_st h4.1 (k := 7) (by unfold kR; omega) (by decide) (u.1 3) x
      have h6 := mKp_st h5.1 (k := 8) (by unfold kR; omega) (by decide) (u.1 3) y
      exact mKp_tr h1 (mKp_tr h2 (mKp_tr h3 (mKp_tr h4 (mKp_tr h5 (mKp_tr h6 (mKp_st h6.1 (by unfold kR; omega) (by decide) _ _))))))
    · obtain ⟨-, e2⟩ := Prod.mk.inj he; subst e2; exact mKp_rf h
