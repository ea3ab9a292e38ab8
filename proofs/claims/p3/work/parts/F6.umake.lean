theorem uI_column {u : mS} {es : List hE} {c : cfg} (h : uI u es c) (p x n : Int32) : uI (mColumn u p x n).2 es c := by
  have hk := (col_inv (uI_M h) (Prod.ext rfl rfl : ((mColumn u p x n).1, (mColumn u p x n).2) = mColumn u p x n)).1.1
  revert hk
  unfold mColumn
  by_cases h1 : bw p 0 11 = true
  · rw [if_pos h1]
    by_cases h2 : bw x 0 7 = true
    · rw [if_pos h2]
      by_cases h3 : bw n 0 60 = true
      · rw [if_pos h3]
        by_cases h4 : u.1 28 ≤ 0
        · rw [if_pos h4]
          by_cases h5 : mBare (u.2 2) (480 * p + 60 * x) = true
          · rw [if_pos h5]
            intro hk
            have e := uI_es h h4
            obtain ⟨a1, a2, a3, a4, a5, a6, a7, a8, a9, a10, a11⟩ := h
            rw [e] at a3 a4 ⊢
            have ho : ∀ k, k ≠ 0 → (mst u 0 (8 * p + x) n).2 k = u.2 k := fun k q => mst_other q
            refine ⟨hk, kB_c a2 (ho 4 (by decide)) (ho 10 (by decide)), mH_c a3 rfl rfl rfl (ho 4 (by decide)) (fun k k1 k2 => ho k (by omega)), ?_, nwI_e a5 rfl (fun r r1 => ho r (by omega)), plI_c a6 (fun r r1 r2 => ho r (by omega)), ?_, ?_, ?_, rvI_c a10 (ho 20 (by decide)), a11⟩
            · rw [ho 2 (by decide)]; exact a4
            · unfold sdI at a7 ⊢
              rw [ho 40 (by decide), ho 4 (by decide), ho 45 (by decide), ho 11 (by decide)]; exact a7
            · unfold plZ at a8 ⊢
              rw [ho 40 (by decide), ho 45 (by decide)]; exact a8
            · unfold foI at a9 ⊢
              rw [ho 47 (by decide), ho 48 (by decide)]; exact a9
          · rw [if_neg h5]; exact fun _ => h
        · rw [if_neg h4]; exact fun _ => h
      · rw [if_neg h3]; exact fun _ => h
    · rw [if_neg h2]; exact fun _ => h
  · rw [if_neg h1]; exact fun _ => h
theorem uI_measure {u : mS} {es : List hE} {c : cfg} (h : uI u es c) (p x : Int32) : uI (mMeasure u p x).2 es c := by
  unfold mMeasure
  by_cases h1 : bw p 0 11 = true
  · rw [if_pos h1]
    by_cases h2 : bw x 1 200 = true
    · rw [if_pos h2]
      by_cases h3 : 0 < u.1 28
      · rw [if_pos h3]; exact h
      · rw [if_neg h3]
        by_cases h4 : mHas (u.2 2) (480 * p) 480 = true
        · rw [if_pos h4]; exact h
        · rw [if_neg h4]
          exact uI_c h (fun k _ _ _ => rfl) (fun k k1 => mst_other (by omega)) (rI_c h.1 (fun k _ => rfl) (fun k k1 => mst_other (by unfold kR at k1; omega))) (nwI_e h.2.2.2.2.1 rfl (fun r r1 => mst_other (by omega))) (rvI_c h.2.2.2.2.2.2.2.2.2.1 (mst_other (by decide)))
    · rw [if_neg h2]; exact h
  · rw [if_neg h1]; exact h
/-- a new item -/
theorem uI_mk {u w : mS} {es : List hE} {c : cfg} (h : uI u es c) (h8 : ¬ u.1 3 = 80) (hS : mkS u w (u.1 3).toNatClampNeg) (h22 : w.2 22 (u.1 3).toNatClampNeg = 0) (hw : rI w) (hkb : kB w) : uI w es c := by
  have hn := n80 h.1
  have hok := uI_ok h
  obtain ⟨a1, a2, a3, a4, a5, a6, a7, a8, a9, a10, a11⟩ := h
  have e3 := uI_n a1
  have hn8 : (u.1 3).toNatClampNeg < 80 := Nat.lt_of_le_of_ne hn (fun q => h8 (by rw [e3, q]; rfl))
  have w3 : (w.1 3).toNatClampNeg = (u.1 3).toNatClampNeg + 1 := by
    rw [hS.1 3, if_pos rfl]
    rw [e3, nI_1, nI_clamp (by omega), nI_clamp (by omega)]
  have w1 : ∀ k, k ≠ 3 → w.1 k = u.1 k := fun k q => by rw [hS.1 k, if_neg q]
  have ho : ∀ r, r < 4 ∨ (15 < r ∧ r ≠ 17 ∧ r ≠ 22) → w.2 r = u.2 r := hS.2.2
  have hi : ∀ r j, j ≠ (u.1 3).toNatClampNeg → (4 ≤ r ∧ r ≤ 15 ∨ r = 17 ∨ r = 22) → w.2 r j = u.2 r j := hS.2.1
  obtain ⟨b1, b2, b3, b4, b5, b6⟩ := a3
  refine ⟨hw, hkb, ⟨b1, (w1 28 (by decide)).trans b2, (w1 36 (by decide)).trans b3, hOK_mono (by omega) (fun a ha => hi 4 a (by omega) (by omega)) b4, aM_rows (fun k k1 k2 => ho k (by omega)) b5, fun a ha => ?_⟩, ?_, nwI_mk a5 hS w3, plI_c a6 (fun r r1 r2 => ho r (by omega)), fun p hp h40 i hi8 h4 h45 => ?_, fun p hp h40 i i1 i2 => ?_, ?_, rvI_c a10 (ho 20 (by omega)), by rw [w1 39 (by decide)]; exact a11⟩
  · by_cases e : a = (u.1 3).toNatClampNeg
    · rw [e, h22, (hok _).1 (Nat.le_refl _)]
      exact ⟨rfl, trivial⟩
    · rw [hi 22 a e (by omega)]
      exact ⟨(b6 a ha).1, slM_c (fun k _ _ => ⟨by rw [ho 23 (by omega)], by rw [ho 24 (by omega)], by rw [ho 25 (by omega)], by rw [ho 26 (by omega)], by rw [ho 27 (by omega)]⟩) (b6 a ha).2⟩
  · rw [ho 2 (by omega)]
    exact gH_c (by omega) (ho 0 (by omega)) (fun a ha => ⟨hi 4 a (by omega) (by omega), hi 11 a (by omega) (by omega)⟩) a4
  · rw [ho 40 (by omega)] at h40
    rw [ho 45 (by omega)] at h45
    by_cases e : i = (u.1 3).toNatClampNeg
    · exact absurd (a8 p hp h40 i (by omega) hi8) h45
    · rw [hi 11 i e (by omega)]
      rw [hi 4 i e (by omega)] at h4
      exact a7 p hp h40 i hi8 h4 h45
  · rw [ho 40 (by omega)] at h40
    rw [ho 45 (by omega)]
    exact a8 p hp h40 i (by omega) i2
  · unfold foI at a9 ⊢
    rw [w1 38 (by decide), ho 47 (by omega), ho 48 (by omega)]; exact a9
theorem eqP {α β : Type} (x : α × β) : (x.1, x.2) = x := rfl
theorem mk22 {u : mS} {k : Int32} : (mMade u k).2 22 (u.1 3).toNatClampNeg = 0 := by rw [made_22, if_pos rfl]
theorem uI_story {u : mS} {es : List hE} {c : cfg} (h : uI u es c) (n : Int32) : uI (mStory u n).2 es c := by
  have hk := (story_inv (uI_M h) (eqP (mStory u n))).1
  revert hk
  unfold mStory
  by_cases h8 : u.1 3 = 80
  · rw [if_pos h8]; exact fun _ => h
  · rw [if_neg h8]
    by_cases h1 : bw n 1 80 = true
    · rw [if_pos h1]
      exact fun hk => uI_mk h h8 (mkS_mst (mkS_made u 0) rfl (by decide) _) ((congrFun (mst_other (by decide)) _).trans mk22) hk.1 hk.2.1
    · rw [if_neg h1]; exact fun _ => h
theorem uI_picture {u : mS} {es : List hE} {c : cfg} (h : uI u es c) : uI (mPicture u).2 es c := by
  have hk := (pic_inv (uI_M h) (eqP (mPicture u))).1
  revert hk
  unfold mPicture
  by_cases h8 : u.1 3 = 80
  · rw [if_pos h8]; exact fun _ => h
  · rw [if_neg h8]
    exact fun hk => uI_mk h h8 (mkS_made u 2) mk22 hk.1 hk.2.1
theorem uI_filler {u : mS} {es : List hE} {c : cfg} (h : uI u es c) (a b : Int32) : uI (mFiller u a b).2 es c := by
  have hk := (fill_inv0 (uI_M h) (eqP (mFiller u a b))).1
  revert hk
  unfold mFiller
  by_cases h8 : u.1 3 = 80
  · rw [if_pos h8]; exact fun _ => h
  · rw [if_neg h8]
    by_cases h1 : bw a 1 60 = true
    · rw [if_pos h1]
      by_cases h2 : bw b a 60 = true
      · rw [if_pos h2]
        exact fun hk => uI_mk h h8 (mkS_mst (mkS_mst (mkS_made u 4) rfl (by decide) _) rfl (by decide) _) ((congrFun ((mst_other (by decide)).trans (mst_other (by decide))) _).trans mk22) hk.1 hk.2.1
      · rw [if_neg h2]; exact fun _ => h
    · rw [if_neg h1]; exact fun _ => h
theorem uI_head {u : mS} {es : List hE} {c : cfg} (h : uI u es c) (s x y : Int32) : uI (mHead u s x y).2 es c := by
  have hk := (head_inv (uI_M h) (eqP (mHead u s x y))).1
  revert hk
  unfold mHead
  by_cases h8 : u.1 3 = 80
  · rw [if_pos h8]; exact fun _ => h
  · rw [if_neg h8]
    by_cases h1 : mKind u s 0 = true
    · rw [if_pos h1]
      by_cases h2 : bw x 1 8 = true
      · rw [if_pos h2]
        by_cases h3 : bw y 1 9 = true
        · rw [if_pos h3]
          exact fun hk => uI_mk h h8 (mkS_mst (mkS_mst (mkS_mst (mkS_made u 1) rfl (by decide) _) rfl (by decide) _) rfl (by decide) _) ((congrFun (((mst_other (by decide)).trans (mst_other (by decide))).trans (mst_other (by decide))) _).trans mk22) hk.1 hk.2.1
        · rw [if_neg h3]; exact fun _ => h
      · rw [if_neg h2]; exact fun _ => h
    · rw [if_neg h1]; exact fun _ => h
theorem uI_paid {u : mS} {es : List hE} {c : cfg} (h : uI u es c) (b p x l y z m : Int32) : uI (mPaid u b p x l y z m).2 es c := by
  have hk := (paid_inv (uI_M h) (eqP (mPaid u b p x l y z m))).1
  revert hk
  unfold mPaid
  by_cases h8 : u.1 3 = 80
  · rw [if_pos h8]; exact fun _ => h
  · rw [if_neg h8]
    split
    · exact fun hk => uI_mk h h8 (mkS_mst (mkS_mst (mkS_mst (mkS_mst (mkS_mst (mkS_mst (mkS_mst (mkS_made u 3) rfl (by decide) _) rfl (by decide) _) rfl (by decide) _) rfl (by decide) _) rfl (by decide) _) rfl (by decide) _) rfl (by decide) _) ((congrFun (((((((mst_other (by decide)).trans (mst_other (by decide))).trans (mst_other (by decide))).trans (mst_other (by decide))).trans (mst_other (by decide))).trans (mst_other (by decide))).trans (mst_other (by decide))) _).trans mk22) hk.1 hk.2.1
    · exact fun _ => h
theorem uI_notice {u : mS} {es : List hE} {c : cfg} (h : uI u es c) (i x : Int32) : uI (mNoticeX u i x).2 es c := by
  unfold mNoticeX
  by_cases h8 : u.1 3 = 80
  · rw [if_pos h8]; exact h
  · rw [if_neg h8]
    by_cases h1 : bw i 0 (u.1 3 - 1) = true
    · rw [if_pos h1]
      have hk := (not_inv (x := x) (uI_M h) (Or.inr ⟨h8, h1, rfl⟩)).1
      have hu : uI (mNotice u i x) es c := uI_mk h h8 (mkS_mst (mkS_mst (mkS_made u 5) rfl (by decide) _) rfl (by decide) _) ((congrFun ((mst_other (by decide)).trans (mst_other (by decide))) _).trans mk22) hk.1 hk.2.1
      split
      · split
        · exact h
        · split
          · split
            · exact hu
            · exact h
          · exact h
      · exact h
    · rw [if_neg h1]; exact h
theorem foI_en {w : mS} {p : Nat} {S : Nat → Prop} (r : rI w) (h : foI w) (hS : ∀ i, S i → i < 80) : foI (enS w p S) := by
  obtain ⟨D, hD, eD, eN⟩ := day_n r
  intro i hi
  rw [enS_47, enS_48, enS_1, eN]
  have e5 : 5 * i / 5 = i := by omega
  have e6 : 5 * i % 5 = 0 := by omega
  unfold en47 en48
  rw [e5, e6, eN]
  have hv : enV w p i 0 = nI D := eD
  have low : ∀ d, d < D → ¬ (80 * D ≤ 80 * d + i ∧ S (80 * d + i - 80 * D)) := fun d hd q => by have := q.1; omega
  by_cases s : S i
  · rcases h i hi with ⟨h1, h2⟩ | ⟨d0, h1, h2, h3, h4⟩
    · have hneg : w.2 47 (5 * i) < 0 := by rw [h1]; decide
      refine Or.inr ⟨D, Nat.le_refl _, ?_, ?_, fun d hd => ?_⟩
      · rw [if_pos ⟨s, hneg⟩]; exact hv
      · rw [if_pos ⟨by omega, by rw [show 80 * D + i - 80 * D = i by omega]; exact s⟩]; decide
      · rw [if_neg (low d hd)]; exact h2 d (by omega)
    · have hnn : ¬ w.2 47 (5 * i) < 0 := by rw [h2]; exact nIpos (by omega)
      refine Or.inr ⟨d0, by omega, ?_, ?_, fun d hd => ?_⟩
      · rw [if_neg (fun q => hnn q.2)]; exact h2
      · split
        · decide
        · exact h3
      · rw [if_neg (low d (by omega))]; exact h4 d hd
  · have same : ∀ d, ¬ (80 * D ≤ 80 * d + i ∧ S (80 * d + i - 80 * D)) := fun d q => by
      have q2 := hS _ q.2
      have q1 := q.1
      exact s (by rw [show i = 80 * d + i - 80 * D by omega]; exact q.2)
    rcases h i hi with ⟨h1, h2⟩ | ⟨d0, h1, h2, h3, h4⟩
    · refine Or.inl ⟨by rw [if_neg (fun q => s q.1)]; exact h1, fun d hd => by rw [if_neg (same d)]; exact h2 d hd⟩
    · refine Or.inr ⟨d0, by omega, by rw [if_neg (fun q => s q.1)]; exact h2, by rw [if_neg (same d0)]; exact h3, fun d hd => by rw [if_neg (same d)]; exact h4 d hd⟩
theorem nwI_en {w : mS} {p : Nat} {S : Nat → Prop} (r : rI w) (h : nwI w) (hS : ∀ i, S i → i < (w.1 3).toNatClampNeg) : nwI (enS w p S) := by
  have hn := n80 r
  obtain ⟨D, hD, eD, eN⟩ := day_n r
  refine nwI_c h rfl (fun i t _ _ _ => by rw [enS_o w p S (by decide) (by decide)]) (fun i t _ _ _ => by rw [enS_o w p S (by decide) (by decide), enS_o w p S (by decide) (by decide)]; exact ⟨rfl, rfl⟩) (fun i t _ _ _ => by rw [enS_o w p S (by decide) (by decide)]) (fun i t i1 i2 t1 => ?_) (fun i t i1 i2 t1 => ?_)
  · rw [enS_47]
    unfold en47
    rw [if_neg (fun q => by
      have e : (5 * i + t) / 5 = i := by omega
      rw [e] at q
      have := hS i q.1
      omega)]
  · rw [enS_48]
    unfold en48
    rw [eN, if_neg (fun q => by
      have q1 := q.1
      have q2 := hS _ q.2
      omega)]
theorem uI_end {u : mS} {es : List hE} {c : cfg} (h : uI u es c) : ∀ n, n ≤ 12 → uI (endP u n) es c
  | 0, _ => h
  | n + 1, hn => by
    have ih := uI_end h n (by omega)
    show uI (if mNow (endP u n) (nI n) = true then endL (endP u n) (nI n) ((u.1 3).toNatClampNeg) else endP u n) es c
    have e3 : (endP u n).1 3 = u.1 3 := by rw [(endP_k u n).1]
    generalize endP u n = w at ih e3
    have hw8 := n80 ih.1
    by_cases q : mNow w (nI n) = true
    · rw [if_pos q, ← e3, endL_s (by omega) ih.1.2.1 _ hw8]
      obtain ⟨S, eS⟩ : ∃ S : Nat → Prop, S = (fun i => i < (w.1 3).toNatClampNeg ∧ 0 ≤ w.2 45 (80 * n + i)) := ⟨_, rfl⟩
      rw [← eS]
      have hS : ∀ i, S i → i < (w.1 3).toNatClampNeg := by rw [eS]; exact fun i z => z.1
      have a7 := ih.2.2.2.2.2.2.1
      have a8 := ih.2.2.2.2.2.2.2.1
      have ho : ∀ k, k ≠ 47 → k ≠ 48 → (enS w n S).2 k = w.2 k := fun k k1 k2 => enS_o w n S k1 k2
      refine ⟨rI_c ih.1 (fun k _ => rfl) (fun k k1 => ho k (by unfold kR at k1; omega) (by unfold kR at k1; omega)), kB_c ih.2.1 (ho 4 (by decide) (by decide)) (ho 10 (by decide) (by decide)), mH_c ih.2.2.1 rfl rfl rfl (ho 4 (by decide) (by decide)) (fun k k1 k2 => ho k (by omega) (by omega)), ?_, nwI_en ih.1 ih.2.2.2.2.1 hS, plI_c ih.2.2.2.2.2.1 (fun r r1 r2 => ho r (by omega) (by omega)), ?_, ?_, foI_en ih.1 ih.2.2.2.2.2.2.2.2.1 (fun i z => by have := hS i z; omega), rvI_c ih.2.2.2.2.2.2.2.2.2.1 (ho 20 (by decide) (by decide)), ih.2.2.2.2.2.2.2.2.2.2⟩
      · rw [ho 2 (by decide) (by decide)]
        exact gH_e (u := w) (w := enS w n S) rfl (ho 0 (by decide) (by decide)) (ho 4 (by decide) (by decide)) (ho 11 (by decide) (by decide)) ih.2.2.2.1
      · unfold sdI at a7 ⊢
        rw [ho 40 (by decide) (by decide), ho 4 (by decide) (by decide), ho 45 (by decide) (by decide), ho 11 (by decide) (by decide)]; exact a7
      · unfold plZ at a8 ⊢
        rw [ho 40 (by decide) (by decide), ho 45 (by decide) (by decide)]; exact a8
    · rw [if_neg q]; exact ih
theorem uI_edition {u : mS} {es : List hE} {c : cfg} (h : uI u es c) : uI (mEdition u).2 es c := by
  have hk := ed_inv (uI_M h) (eqP (mEdition u))
  have he := uI_end h 12 (Nat.le_refl _)
  have e39 : (endP u 12).1 39 = u.1 39 := by rw [(endP_k u 12).1]
  revert hk
  unfold mEdition
  by_cases h7 : u.1 39 = 7
  · rw [if_pos h7]; exact fun _ => h
  · rw [if_neg h7]
    dsimp only
    generalize endP u 12 = w at he e39
    intro hk
    obtain ⟨a1, a2, a3, a4, a5, a6, a7, a8, a9, a10, a11⟩ := he
    have w1 : ∀ k, k ≠ 39 → (mset w 39 (w.1 39 + 1)).1 k = w.1 k := fun k q => by unfold mset; exact if_neg q
    refine ⟨hk.1.1, kB_c a2 rfl rfl, mH_c a3 (w1 3 (by decide)) (w1 28 (by decide)) (w1 36 (by decide)) rfl (fun _ _ _ => rfl), gH_e (u := w) (w1 3 (by decide)) rfl rfl rfl a4, nwI_e a5 (w1 3 (by decide)) (fun _ _ => rfl), plI_c a6 (fun _ _ _ => rfl), a7, ?_, ?_, rvI_c a10 rfl, ?_⟩
    · unfold plZ at a8 ⊢
      rw [w1 3 (by decide)]; exact a8
    · unfold foI at a9 ⊢
      rw [w1 38 (by decide)]; exact a9
    · rw [mset_same, e39]
      refine (ed_7 (by rw [← e39]; exact a11)).2 ?_
      exact Classical.byContradiction (fun q => h7 ((ed_7 (by rw [← e39]; exact a11)).1.mp q))
theorem uI_day {u : mS} {es : List hE} {c : cfg} (h : uI u es c) : (u.1 38 = 399 ∧ (mDay u).2 = u) ∨ (¬ u.1 38 = 399 ∧ (mDay u).2 = dayS (endP u 12) (u.1 3).toNatClampNeg ∧ uI (mDay u).2 [] (fun _ => [])) := by
  have hk := day_inv (uI_M h) (eqP (mDay u))
  have he := uI_end h 12 (Nat.le_refl _)
  have e1 := (endP_k u 12).1
  revert hk
  unfold mDay
  by_cases h7 : u.1 38 = 399
  · rw [if_pos h7]; exact fun _ => Or.inl ⟨h7, rfl⟩
  · rw [if_neg h7]
    dsimp only
    intro hk
    refine Or.inr ⟨h7, rfl, ?_⟩
    have hk1 := hk.1.1
    have e3 : (endP u 12).1 3 = u.1 3 := by rw [e1]
    have e38 : (endP u 12).1 38 = u.1 38 := by rw [e1]
    have hok := uI_ok he
    generalize endP u 12 = w at he e3 e38 hk1 hok
    obtain ⟨a1, a2, a3, a4, a5, a6, a7, a8, a9, a10, a11⟩ := he
    obtain ⟨d1, d2, d3, d4, d5⟩ := dayS_1 w (u.1 3).toNatClampNeg
    have ho : ∀ k, k ≠ 2 → k ≠ 22 → (dayS w (u.1 3).toNatClampNeg).2 k = w.2 k := fun k k1 k2 => dayS_k w _ k1 k2
    refine ⟨hk1, kB_c a2 (ho 4 (by decide) (by decide)) (ho 10 (by decide) (by decide)), ⟨Nat.zero_le _, d1, d2, fun _ => rfl, trivial, fun a ha => ⟨?_, trivial⟩⟩, ⟨fun _ => rfl, fun j hj => ?_⟩, nwI_e a5 d5 (fun r r1 => ho r (by omega) (by omega)), plI_c a6 (fun r r1 r2 => ho r (by omega) (by omega)), ?_, ?_, ?_, rvI_c a10 (ho 20 (by decide) (by decide)), by rw [d4]; decide⟩
    · rw [dayS_22]
      unfold fillF
      split
      · rfl
      · rename_i q
        rw [(a3.2.2.2.2.2 a ha).1, (hok a).1 (by rw [e3]; omega)]
    · rw [dayS_2]
      unfold fillF
      rw [if_pos hj]
    · unfold sdI at a7 ⊢
      rw [ho 40 (by decide) (by decide), ho 4 (by decide) (by decide), ho 45 (by decide) (by decide), ho 11 (by decide) (by decide)]; exact a7
    · unfold plZ at a8 ⊢
      rw [d5, ho 40 (by decide) (by decide), ho 45 (by decide) (by decide)]; exact a8
    · intro i hi
      rw [ho 47 (by decide) (by decide), ho 48 (by decide) (by decide), d3]
      obtain ⟨D, hD, eD, eN⟩ := day_n a1
      rcases a9 i hi with q | ⟨d0, q1, q2⟩
      · exact Or.inl q
      · refine Or.inr ⟨d0, ?_, q2⟩
        rw [eD, nI_1, nI_clamp (by omega)]
        omega
