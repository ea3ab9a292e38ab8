theorem uI_column {u : mS} {es : List hE} {c : cfg} (h : uI u es c) (p x n : Int32) : uI (mColumn u p x n).2 es c := by
  have hk := (col_inv (uI_M h) (Prod.ext rfl rfl : ((mColumn u p x n).1, (mColumn u p x n).2) = mColumn u p x n)).1.1
  revert hk
  unfold mColumn
  by_cases h1 : bw p 0 11 = true
  · rw [if_pos h1]
    by_cases h2 : bw x 0 7 = true
    · rw [if_pos h2]
      by_cases h3 : bw n 0 60 = true
      · rw [if_pos h3]
        by_cases h4 : u.1 28 ≤ 0
        · rw [if_pos h4]
          by_cases h5 : mBare (u.2 2) (480 * p + 60 * x) = true
          · rw [if_pos h5]
            intro hk
            have e := uI_es h h4
            obtain ⟨a1, a2, a3, a4, a5, a6, a7, a8, a9, a10, a11⟩ := h
            rw [e] at a3 a4 ⊢
            have ho : ∀ k, k ≠ 0 → (mst u 0 (8 * p + x) n).2 k = u.2 k := fun k q => mst_other q
            refine ⟨hk, kB_c a2 (ho 4 (by decide)) (ho 10 (by decide)), mH_c a3 rfl rfl rfl (ho 4 (by decide)) (fun k k1 k2 => ho k (by omega)), ?_, nwI_e a5 rfl (fun r r1 => ho r (by omega)), plI_c a6 (fun r r1 r2 => ho r (by omega)), ?_, ?_, ?_, rvI_c a10 (ho 20 (by decide)), a11⟩
            · rw [ho 2 (by decide)]; exact a4
            · unfold sdI at a7 ⊢
              rw [ho 40 (by decide), ho 4 (by decide), ho 45 (by decide), ho 11 (by decide)]; exact a7
            · unfold plZ at a8 ⊢
              rw [ho 40 (by decide), ho 45 (by decide)]; exact a8
            · unfold foI at a9 ⊢
              rw [ho 47 (by decide), ho 48 (by decide)]; exact a9
          · rw [if_neg h5]; exact fun _ => h
        · rw [if_neg h4]; exact fun _ => h
      · rw [if_neg h3]; exact fun _ => h
    · rw [if_neg h2]; exact fun _ => h
  · rw [if_neg h1]; exact fun _ => h
theorem uI_measure {u : mS} {es : List hE} {c : cfg} (h : uI u es c) (p x : Int32) : uI (mMeasure u p x).2 es c := by
  unfold mMeasure
  by_cases h1 : bw p 0 11 = true
  · rw [if_pos h1]
    by_cases h2 : bw x 1 200 = true
    · rw [if_pos h2]
      by_cases h3 : 0 < u.1 28
      · rw [if_pos h3]; exact h
      · rw [if_neg h3]
        by_cases h4 : mHas (u.2 2) (480 * p) 480 = true
        · rw [if_pos h4]; exact h
        · rw [if_neg h4]
          exact uI_c h (fun k _ _ _ => rfl) (fun k k1 => mst_other (by omega)) (rI_c h.1 (fun k _ => rfl) (fun k k1 => mst_other (by unfold kR at k1; omega))) (nwI_e h.2.2.2.2.1 rfl (fun r r1 => mst_other (by omega))) (rvI_c h.2.2.2.2.2.2.2.2.2.1 (mst_other (by decide)))
    · rw [if_neg h2]; exact h
  · rw [if_neg h1]; exact h
/-- a new item -/
theorem uI_mk {u w : mS} {es : List hE} {c : cfg} (h : uI u es c) (h8 : ¬ u.1 3 = 80) (hS : mkS u w (u.1 3).toNatClampNeg) (h22 : w.2 22 (u.1 3).toNatClampNeg = 0) (hw : rI w) (hkb : kB w) : uI w es c := by
  have hn := n80 h.1
  have hok := uI_ok h
  obtain ⟨a1, a2, a3, a4, a5, a6, a7, a8, a9, a10, a11⟩ := h
  have e3 := uI_n a1
  have hn8 : (u.1 3).toNatClampNeg < 80 := Nat.lt_of_le_of_ne hn (fun q => h8 (by rw [e3, q]; rfl))
  have w3 : (w.1 3).toNatClampNeg = (u.1 3).toNatClampNeg + 1 := by
    rw [hS.1 3, if_pos rfl]
    rw [e3, nI_1, nI_clamp (by omega), nI_clamp (by omega)]
  have w1 : ∀ k, k ≠ 3 → w.1 k = u.1 k := fun k q => by rw [hS.1 k, if_neg q]
  have ho : ∀ r, r < 4 ∨ (15 < r ∧ r ≠ 17 ∧ r ≠ 22) → w.2 r = u.2 r := hS.2.2
  have hi : ∀ r j, j ≠ (u.1 3).toNatClampNeg → (4 ≤ r ∧ r ≤ 15 ∨ r = 17 ∨ r = 22) → w.2 r j = u.2 r j := hS.2.1
  obtain ⟨b1, b2, b3, b4, b5, b6⟩ := a3
  refine ⟨hw, hkb, ⟨b1, (w1 28 (by decide)).trans b2, (w1 36 (by decide)).trans b3, hOK_mono (by omega) (fun a ha => hi 4 a (by omega) (by omega)) b4, aM_rows (fun k k1 k2 => ho k (by omega)) b5, fun a ha => ?_⟩, ?_, nwI_mk a5 hS w3, plI_c a6 (fun r r1 r2 => ho r (by omega)), fun p hp h40 i hi8 h4 h45 => ?_, fun p hp h40 i i1 i2 => ?_, ?_, rvI_c a10 (ho 20 (by omega)), by rw [w1 39 (by decide)]; exact a11⟩
  · by_cases e : a = (u.1 3).toNatClampNeg
    · rw [e, h22, (hok _).1 (Nat.le_refl _)]
      exact ⟨rfl, trivial⟩
    · rw [hi 22 a e (by omega)]
      exact ⟨(b6 a ha).1, slM_c (fun k _ _ => ⟨by rw [ho 23 (by omega)], by rw [ho 24 (by omega)], by rw [ho 25 (by omega)], by rw [ho 26 (by omega)], by rw [ho 27 (by omega)]⟩) (b6 a ha).2⟩
  · rw [ho 2 (by omega)]
    exact gH_c (by omega) (ho 0 (by omega)) (fun a ha => ⟨hi 4 a (by omega) (by omega), hi 11 a (by omega) (by omega)⟩) a4
  · rw [ho 40 (by omega)] at h40
    rw [ho 45 (by omega)] at h45
    by_cases e : i = (u.1 3).toNatClampNeg
    · exact absurd (a8 p hp h40 i (by omega) hi8) h45
    · rw [hi 11 i e (by omega)]
      rw [hi 4 i e (by omega)] at h4
      exact a7 p hp h40 i hi8 h4 h45
  · rw [ho 40 (by omega)] at h40
    rw [ho 45 (by omega)]
    exact a8 p hp h40 i (by omega) i2
  · unfold foI at a9 ⊢
    rw [w1 38 (by decide), ho 47 (by omega), ho 48 (by omega)]; exact a9
theorem eqP {α β : Type} (x : α × β) : (x.1, x.2) = x := rfl
theorem mk22 {u : mS} {k : Int32} : (mMade u k).2 22 (u.1 3).toNatClampNeg = 0 := by rw [made_22, if_pos rfl]
theorem uI_story {u : mS} {es : List hE} {c : cfg} (h : uI u es c) (n : Int32) : uI (mStory u n).2 es c := by
  have hk := (story_inv (uI_M h) (eqP (mStory u n))).1
  revert hk
  unfold mStory
  by_cases h8 : u.1 3 = 80
  · rw [if_pos h8]; exact fun _ => h
  · rw [if_neg h8]
    by_cases h1 : bw n 1 80 = true
    · rw [if_pos h1]
      exact fun hk => uI_mk h h8 (mkS_mst (mkS_made u 0) rfl (by decide) _) ((congrFun (mst_other (by decide)) _).trans mk22) hk.1 hk.2.1
    · rw [if_neg h1]; exact fun _ => h
theorem uI_picture {u : mS} {es : List hE} {c : cfg} (h : uI u es c) : uI (mPicture u).2 es c := by
  have hk := (pic_inv (uI_M h) (eqP (mPicture u))).1
  revert hk
  unfold mPicture
  by_cases h8 : u.1 3 = 80
  · rw [if_pos h8]; exact fun _ => h
  · rw [if_neg h8]
    exact fun hk => uI_mk h h8 (mkS_made u 2) mk22 hk.1 hk.2.1
theorem uI_filler {u : mS} {es : List hE} {c : cfg} (h : uI u es c) (a b : Int32) : uI (mFiller u a b).2 es c := by
  have hk := (fill_inv0 (uI_M h) (eqP (mFiller u a b))).1
  revert hk
  unfold mFiller
  by_cases h8 : u.1 3 = 80
  · rw [if_pos h8]; exact fun _ => h
  · rw [if_neg h8]
    by_cases h1 : bw a 1 60 = true
    · rw [if_pos h1]
      by_cases h2 : bw b a 60 = true
      · rw [if_pos h2]
        exact fun hk => uI_mk h h8 (mkS_mst (mkS_mst (mkS_made u 4) rfl (by decide) _) rfl (by decide) _) ((congrFun ((mst_other (by decide)).trans (mst_other (by decide))) _).trans mk22) hk.1 hk.2.1
      · rw [if_neg h2]; exact fun _ => h
    · rw [if_neg h1]; exact fun _ => h
theorem uI_head {u : mS} {es : List hE} {c : cfg} (h : uI u es c) (s x y : Int32) : uI (mHead u s x y).2 es c := by
  have hk := (head_inv (uI_M h) (eqP (mHead u s x y))).1
  revert hk
  unfold mHead
  by_cases h8 : u.1 3 = 80
  · rw [if_pos h8]; exact fun _ => h
  · rw [if_neg h8]
    by_cases h1 : mKind u s 0 = true
    · rw [if_pos h1]
      by_cases h2 : bw x 1 8 = true
      · rw [if_pos h2]
        by_cases h3 : bw y 1 9 = true
        · rw [if_pos h3]
          exact fun hk => uI_mk h h8 (mkS_mst (mkS_mst (mkS_mst (mkS_made u 1) rfl (by decide) _) rfl (by decide) _) rfl (by decide) _) ((congrFun (((mst_other (by decide)).trans (mst_other (by decide))).trans (mst_other (by decide))) _).trans mk22) hk.1 hk.2.1
        · rw [if_neg h3]; exact fun _ => h
      · rw [if_neg h2]; exact fun _ => h
    · rw [if_neg h1]; exact fun _ => h
theorem uI_paid {u : mS} {es : List hE} {c : cfg} (h : uI u es c) (b p x l y z m : Int32) : uI (mPaid u b p x l y z m).2 es c := by
  have hk := (paid_inv (uI_M h) (eqP (mPaid u b p x l y z m))).1
  revert hk
  unfold mPaid
  by_cases h8 : u.1 3 = 80
  · rw [if_pos h8]; exact fun _ => h
  · rw [if_neg h8]
    split
    · exact fun hk => uI_mk h h8 (mkS_mst (mkS_mst (mkS_mst (mkS_mst (mkS_mst (mkS_mst (mkS_mst (mkS_made u 3) rfl (by decide) _) rfl (by decide) _) rfl (by decide) _) rfl (by decide) _) rfl (by decide) _) rfl (by decide) _) rfl (by decide) _) ((congrFun (((((((mst_other (by decide)).trans (mst_other (by decide))).trans (mst_other (by decide))).trans (mst_other (by decide))).trans (mst_other (by decide))).trans (mst_other (by decide))).trans (mst_other (by decide))) _).trans mk22) hk.1 hk.2.1
    · exact fun _ => h
theorem uI_notice {u : mS} {es : List hE} {c : cfg} (h : uI u es c) (i x : Int32) : uI (mNoticeX u i x).2 es c := by
  unfold mNoticeX
  by_cases h8 : u.1 3 = 80
  · rw [if_pos h8]; exact h
  · rw [if_neg h8]
    by_cases h1 : bw i 0 (u.1 3 - 1) = true
    · rw [if_pos h1]
      have hk := (not_inv (x := x) (uI_M h) (Or.inr ⟨h8, h1, rfl⟩)).1
      have hu : uI (mNotice u i x) es c := uI_mk h h8 (mkS_mst (mkS_mst (mkS_made u 5) rfl (by decide) _) rfl (by decide) _) ((congrFun ((mst_other (by decide)).trans (mst_other (by decide))) _).trans mk22) hk.1 hk.2.1
      split
      · split
        · exact h
        · split
          · split
            · exact hu
            · exact h
          · exact h
      · exact h
    · rw [if_neg h1]; exact h
theorem foI_en {w : mS} {p : Nat} {S : Nat → Prop} (r : rI w) (h : foI w) (hS : ∀ i, S i → i < 80) : foI (enS w p S) := by
  obtain ⟨D, hD, eD, eN⟩ := day_n r
  intro i hi
  rw [enS_47, enS_48, enS_1, eN]
  have e5 : 5 * i / 5 = i := by omega
  have e6 : 5 * i % 5 = 0 := by omega
  unfold en47 en48
  rw [e5, e6, eN]
  have hv : enV w p i 0 = nI D := eD
  have low : ∀ d, d < D → ¬ (80 * D ≤ 80 * d + i ∧ S (80 * d + i - 80 * D)) := fun d hd q => by have := q.1; omega
  by_cases s : S i
  · rcases h i hi with ⟨h1, h2⟩ | ⟨d0, h1, h2, h3, h4⟩
    · have hneg : w.2 47 (5 * i) < 0 := by rw [h1]; decide
      refine Or.inr ⟨D, Nat.le_refl _, ?_, ?_, fun d hd => ?_⟩
      · rw [if_pos ⟨s, hneg⟩]; exact hv
      · rw [if_pos ⟨by omega, by rw [show 80 * D + i - 80 * D = i by omega]; exact s⟩]; decide
      · rw [if_neg (low d hd)]; exact h2 d (by omega)
    · have hnn : ¬ w.2 47 (5 * i) < 0 := by rw [h2]; exact nIpos (by omega)
      refine Or.inr ⟨d0, by omega, ?_, ?_, fun d hd => ?_⟩
      · rw [if_neg (fun q => hnn q.2)]; exact h2
      · split
        · decide
        · exact h3
      · rw [if_neg (low d (by omega))]; exact h4 d hd
  · have same : ∀ d, ¬ (80 * D ≤ 80 * d + i ∧ S (80 * d + i - 80 * D)) := fun d q => by
      have q2 := hS _ q.2
      have q1 := q.1
      exact s (by rw [show i = 80 * d + i - 80 * D by omega]; exact q.2)
    rcases h i hi with ⟨h1, h2⟩ | ⟨d0, h1, h2, h3, h4⟩
    · refine Or.inl ⟨by rw [if_neg (fun q => s q.1)]; exact h1, fun d hd => by rw [if_neg (same d)]; exact h2 d hd⟩
    · refine Or.inr ⟨d0, by omega, by rw [if_neg (fun q => s q.1)]; exact h2, by rw [if_neg (same d0)]; exact h3, fun d hd => by rw [if_neg (same d)]; exact h4 d hd⟩
theorem nwI_en {w : mS} {p : Nat} {S : Nat → Prop} (r : rI w) (h : nwI w) (hS : ∀ i, S i → i < (w.1 3).toNatClampNeg) : nwI (enS w p S) := by
  have hn := n80 r
  obtain ⟨D, hD, eD, eN⟩ := day_n r
  refine nwI_c h rfl (fun i t _ _ _ => by rw [enS_o w p S (by decide) (by decide)]) (fun i t _ _ _ => by rw [enS_o w p S (by decide) (by decide), enS_o w p S (by decide) (by decide)]; exact ⟨rfl, rfl⟩) (fun i t _ _ _ => by rw [enS_o w p S (by decide) (by decide)]) (fun i t i1 i2 t1 => ?_) (fun i t i1 i2 t1 => ?_)
  · rw [enS_47]
    unfold en47
    rw [if_neg (fun q => by
      have e : (5 * i + t) / 5 = i := by omega
      rw [e] at q
      have := hS i q.1
      omega)]
  · rw [enS_48]
    unfold en48
    rw [eN, if_neg (fun q => by
      have q1 := q.1
      have q2 := hS _ q.2
      omega)]
theorem uI_end {u : mS} {es : List hE} {c : cfg} (h : uI u es c) : ∀ n, n ≤ 12 → uI (endP u n) es c
  | 0, _ => h
  | n + 1, hn => by
    have ih := uI_end h n (by omega)
    show uI (if mNow (endP u n) (nI n) = true then endL (endP u n) (nI n) ((u.1 3).toNatClampNeg) else endP u n) es c
    have e3 : (endP u n).1 3 = u.1 3 := by rw [(endP_k u n).1]
    generalize endP u n = w at ih e3
    have hw8 := n80 ih.1
    by_cases q : mNow w (nI n) = true
    · rw [if_pos q, ← e3, endL_s (by omega) ih.1.2.1 _ hw8]
      obtain ⟨S, eS⟩ : ∃ S : Nat → Prop, S = (fun i => i < (w.1 3).toNatClampNeg ∧ 0 ≤ w.2 45 (80 * n + i)) := ⟨_, rfl⟩
      rw [← eS]
      have hS : ∀ i, S i → i < (w.1 3).toNatClampNeg := by rw [eS]; exact fun i z => z.1
      have a7 := ih.2.2.2.2.2.2.1
      have a8 := ih.2.2.2.2.2.2.2.1
      have ho : ∀ k, k ≠ 47 → k ≠ 48 → (enS w n S).2 k = w.2 k := fun k k1 k2 => enS_o w n S k1 k2
      refine ⟨rI_c ih.1 (fun k _ => rfl) (fun k k1 => ho k (by unfold kR at k1; omega) (by unfold kR at k1; omega)), kB_c ih.2.1 (ho 4 (by decide) (by decide)) (ho 10 (by decide) (by decide)), mH_c ih.2.2.1 rfl rfl rfl (ho 4 (by decide) (by decide)) (fun k k1 k2 => ho k (by omega) (by omega)), ?_, nwI_en ih.1 ih.2.2.2.2.1 hS, plI_c ih.2.2.2.2.2.1 (fun r r1 r2 => ho r (by omega) (by omega)), ?_, ?_, foI_en ih.1 ih.2.2.2.2.2.2.2.2.1 (fun i z => by have := hS i z; omega), rvI_c ih.2.2.2.2.2.2.2.2.2.1 (ho 20 (by decide) (by decide)), ih.2.2.2.2.2.2.2.2.2.2⟩
      · rw [ho 2 (by decide) (by decide)]
        exact gH_e (u := w) (w := enS w n S) rfl (ho 0 (by decide) (by decide)) (ho 4 (by decide) (by decide)) (ho 11 (by decide) (by decide)) ih.2.2.2.1
      · unfold sdI at a7 ⊢
        rw [ho 40 (by decide) (by decide), ho 4 (by decide) (by decide), ho 45 (by decide) (by decide), ho 11 (by decide) (by decide)]; exact a7
      · unfold plZ at a8 ⊢
        rw [ho 40 (by decide) (by decide), ho 45 (by decide) (by decide)]; exact a8
    · rw [if_neg q]; exact ih
theorem uI_edition {u : mS} {es : List hE} {c : cfg} (h : uI u es c) : uI (mEdition u).2 es c := by
  have hk := ed_inv (uI_M h) (eqP (mEdition u))
  have he := uI_end h 12 (Nat.le_refl _)
  have e39 : (endP u 12).1 39 = u.1 39 := by rw [(endP_k u 12).1]
  revert hk
  unfold mEdition
  by_cases h7 : u.1 39 = 7
  · rw [if_pos h7]; exact fun _ => h
  · rw [if_neg h7]
    dsimp only
    generalize endP u 12 = w at he e39
    intro hk
    obtain ⟨a1, a2, a3, a4, a5, a6, a7, a8, a9, a10, a11⟩ := he
    have w1 : ∀ k, k ≠ 39 → (mset w 39 (w.1 39 + 1)).1 k = w.1 k := fun k q => by unfold mset; exact if_neg q
    refine ⟨hk.1.1, kB_c a2 rfl rfl, mH_c a3 (w1 3 (by decide)) (w1 28 (by decide)) (w1 36 (by decide)) rfl (fun _ _ _ => rfl), gH_e (u := w) (w1 3 (by decide)) rfl rfl rfl a4, nwI_e a5 (w1 3 (by decide)) (fun _ _ => rfl), plI_c a6 (fun _ _ _ => rfl), a7, ?_, ?_, rvI_c a10 rfl, ?_⟩
    · unfold plZ at a8 ⊢
      rw [w1 3 (by decide)]; exact a8
    · unfold foI at a9 ⊢
      rw [w1 38 (by decide)]; exact a9
    · rw [mset_same, e39]
      refine (ed_7 (by rw [← e39]; exact a11)).2 ?_
      exact Classical.byContradiction (fun q => h7 ((ed_7 (by rw [← e39]; exact a11)).1.mp q))
theorem uI_day {u : mS} {es : List hE} {c : cfg} (h : uI u es c) : (u.1 38 = 399 ∧ (mDay u).2 = u) ∨ (¬ u.1 38 = 399 ∧ (mDay u).2 = dayS (endP u 12) (u.1 3).toNatClampNeg ∧ uI (mDay u).2 [] (fun _ => [])) := by
  have hk := day_inv (uI_M h) (eqP (mDay u))
  have he := uI_end h 12 (Nat.le_refl _)
  have e1 := (endP_k u 12).1
  revert hk
  unfold mDay
  by_cases h7 : u.1 38 = 399
  · rw [if_pos h7]; exact fun _ => Or.inl ⟨h7, rfl⟩
  · rw [if_neg h7]
    dsimp only
    intro hk
    refine Or.inr ⟨h7, rfl, ?_⟩
    have hk1 := hk.1.1
    have e3 : (endP u 12).1 3 = u.1 3 := by rw [e1]
    have e38 : (endP u 12).1 38 = u.1 38 := by rw [e1]
    have hok := uI_ok he
    generalize endP u 12 = w at he e3 e38 hk1 hok
    obtain ⟨a1, a2, a3, a4, a5, a6, a7, a8, a9, a10, a11⟩ := he
    obtain ⟨d1, d2, d3, d4, d5⟩ := dayS_1 w (u.1 3).toNatClampNeg
    have ho : ∀ k, k ≠ 2 → k ≠ 22 → (dayS w (u.1 3).toNatClampNeg).2 k = w.2 k := fun k k1 k2 => dayS_k w _ k1 k2
    refine ⟨hk1, kB_c a2 (ho 4 (by decide) (by decide)) (ho 10 (by decide) (by decide)), ⟨Nat.zero_le _, d1, d2, fun _ => rfl, trivial, fun a ha => ⟨?_, trivial⟩⟩, ⟨fun _ => rfl, fun j hj => ?_⟩, nwI_e a5 d5 (fun r r1 => ho r (by omega) (by omega)), plI_c a6 (fun r r1 r2 => ho r (by omega) (by omega)), ?_, ?_, ?_, rvI_c a10 (ho 20 (by decide) (by decide)), by rw [d4]; decide⟩
    · rw [dayS_22]
      unfold fillF
      split
      · rfl
      · rename_i q
        rw [(a3.2.2.2.2.2 a ha).1, (hok a).1 (by rw [e3]; omega)]
    · rw [dayS_2]
      unfold fillF
      rw [if_pos hj]
    · unfold sdI at a7 ⊢
      rw [ho 40 (by decide) (by decide), ho 4 (by decide) (by decide), ho 45 (by decide) (by decide), ho 11 (by decide) (by decide)]; exact a7
    · unfold plZ at a8 ⊢
      rw [d5, ho 40 (by decide) (by decide), ho 45 (by decide) (by decide)]; exact a8
    · intro i hi
      rw [ho 47 (by decide) (by decide), ho 48 (by decide) (by decide), d3]
      obtain ⟨D, hD, eD, eN⟩ := day_n a1
      rcases a9 i hi with q | ⟨d0, q1, q2⟩
      · exact Or.inl q
      · refine Or.inr ⟨d0, ?_, q2⟩
        rw [eD, nI_1, nI_clamp (by omega)]
        omega
theorem stand_H {u : mS} (r : rI u) {es : List hE} {c : cfg} (d : mH u es c) (h3 : ¬ u.1 28 = 300) {a : Nat} (han : a < (u.1 3).toNatClampNeg) {P X Y D N : Nat} (hr : rOK (P, X, Y, D, N)) (hl : (c a).length ≤ 5) (hok2 : cOK (u.1 3).toNatClampNeg (u.2 4) (cPush c a (P, X, Y, D, N))) : rI (mActs (mStand u (nI a) P X Y D N) 0 (nI a) 0 0 0 0 0) ∧ mH (mActs (mStand u (nI a) P X Y D N) 0 (nI a) 0 0 0 0 0) ((0, a, (P, X, Y, D, N), []) :: es) (cPush c a (P, X, Y, D, N)) := by
  have ha : a < 80 := Nat.lt_of_lt_of_le han (n80 r)
  have hok := hOK_c d.2.2.2.1
  have hm := cM_stand ha hl (fun b => (hok b).2.1) d.2.2.2.2.2 P X Y D N
  have h28 : ((mStand u (nI a) P X Y D N).1 28).toNatClampNeg = es.length := by rw [mStand_1, d.2.1, nI_clamp (by have := d.1; omega)]
  have hx := mActs_r (mStand u (nI a) P X Y D N) 0 (nI a) 0 0 0 0 0
  rw [h28] at hx
  have i3 : ∀ j, j ≠ 28 → (mActs (mStand u (nI a) P X Y D N) 0 (nI a) 0 0 0 0 0).1 j = u.1 j := fun j hj => by rw [mActs_1, if_neg hj, mStand_1]
  have i28 : (mActs (mStand u (nI a) P X Y D N) 0 (nI a) 0 0 0 0 0).1 28 = u.1 28 + 1 := by rw [mActs_1, if_pos rfl, mStand_1]
  refine ⟨rI_m (rI_stand r ha hr.2.1) (i3 3 (by decide)) (i3 38 (by decide)) (fun k hk => mActs_k _ _ _ _ _ _ _ _ (by omega)), ?_⟩
  refine mH_new d (acts300 d h3) (i3 3 (by decide)) ?_ i28 (by rw [i3 36 (by decide), fil_no _ (by decide : (0 : Nat) ≠ 3)]; exact d.2.2.1) (fun k k1 k2 t ht => ?_) (fun j _ => ?_) ?_ (cM_rows (fun k k1 k2 => mActs_k _ _ _ _ _ _ _ _ (by omega)) hm) hok2 (Or.inl ⟨rfl, _, rfl⟩)
  · rw [mActs_k _ _ _ _ _ _ _ _ (by decide), mStand_k2 _ _ _ _ _ _ _ (by decide) (by decide)]
  · obtain ⟨q1, q2, q3, q4, q5, q6, q7⟩ := hx t
    rw [if_neg (by omega)] at q1 q2 q3 q4 q5 q6 q7
    have hk : k = 29 ∨ k = 30 ∨ k = 31 ∨ k = 32 ∨ k = 33 ∨ k = 34 ∨ k = 35 := by omega
    rcases hk with e | e | e | e | e | e | e <;> subst e
    · rw [q1, mStand_k2 _ _ _ _ _ _ _ (by decide) (by decide)]
    · rw [q2, mStand_k2 _ _ _ _ _ _ _ (by decide) (by decide)]
    · rw [q3, mStand_k2 _ _ _ _ _ _ _ (by decide) (by decide)]
    · rw [q4, mStand_k2 _ _ _ _ _ _ _ (by decide) (by decide)]
    · rw [q5, mStand_k2 _ _ _ _ _ _ _ (by decide) (by decide)]
    · rw [q6, mStand_k2 _ _ _ _ _ _ _ (by decide) (by decide)]
    · rw [q7, mStand_k2 _ _ _ _ _ _ _ (by decide) (by decide)]
  · rw [mActs_k _ _ _ _ _ _ _ _ (by decide), mStand_k2 _ _ _ _ _ _ _ (by decide) (by decide)]
  · obtain ⟨q1, q2, -⟩ := hx es.length
    rw [if_pos rfl] at q1 q2
    exact ⟨q1, fun _ => q2, fun q => absurd q (by decide : ¬ (0 : Nat) = 1), fun q => absurd q (by decide : ¬ (0 : Nat) = 2), fun q => absurd q (by decide : ¬ (0 : Nat) = 3)⟩
theorem lift_H {u : mS} (r : rI u) {es : List hE} {c : cfg} (d : mH u es c) (h3 : ¬ u.1 28 = 300) {a : Nat} (ha : a < 80) {P X Y D N : Nat} {l : List fR} (hc : c a = (P, X, Y, D, N) :: l) : rI (mUnstand (mActs u 1 (nI a) (nI P) (nI X) (nI Y) (nI D) (nI N)) (nI a) P X Y D N) ∧ mH (mUnstand (mActs u 1 (nI a) (nI P) (nI X) (nI Y) (nI D) (nI N)) (nI a) P X Y D N) ((1, a, (P, X, Y, D, N), []) :: es) (cDrop c a l) := by
  have hok := hOK_c d.2.2.2.1
  have hl : (cDrop c a l a).length ≤ 5 := by
    rw [cDrop_a]
    have h1 := (hok a).2.1
    rw [hc, List.length_cons] at h1
    omega
  have hp := cDrop_push hc
  have hm : cM (mActs u 1 (nI a) (nI P) (nI X) (nI Y) (nI D) (nI N)) (cPush (cDrop c a l) a (P, X, Y, D, N)) := by
    rw [← hp]; exact cM_rows (fun k k1 k2 => mActs_k _ _ _ _ _ _ _ _ (by omega)) d.2.2.2.2.2
  have h28 := len28 d
  have hx := acts_at h28 1 (nI a) (nI P) (nI X) (nI Y) (nI D) (nI N)
  have ho := acts_old h28 1 (nI a) (nI P) (nI X) (nI Y) (nI D) (nI N)
  have i3 : ∀ j, j ≠ 28 → (mActs u 1 (nI a) (nI P) (nI X) (nI Y) (nI D) (nI N)).1 j = u.1 j := fun j hj => by rw [mActs_1, if_neg hj]
  have i28 : (mActs u 1 (nI a) (nI P) (nI X) (nI Y) (nI D) (nI N)).1 28 = u.1 28 + 1 := by rw [mActs_1, if_pos rfl]
  have k4 : ∀ k, k < 29 ∨ 35 < k → (mActs u 1 (nI a) (nI P) (nI X) (nI Y) (nI D) (nI N)).2 k = u.2 k := fun k hk => mActs_k _ _ _ _ _ _ _ _ hk
  generalize mActs u 1 (nI a) (nI P) (nI X) (nI Y) (nI D) (nI N) = w at hm hx ho i3 i28 k4
  have uk : ∀ k, k ≠ 2 → k ≠ 22 → (mUnstand w (nI a) P X Y D N).2 k = w.2 k := fun k h1 h2 => mUnstand_k _ _ _ _ _ _ _ h1 h2
  have hrI := rI_unstand (rI_m r (i3 3 (by decide)) (i3 38 (by decide)) (fun k hk => k4 k (by omega))) (nI a) P X Y D N
  have hcM := cM_unstand ha hl hm P X Y D N
  have u1 : (mUnstand w (nI a) P X Y D N).1 = w.1 := rfl
  generalize mUnstand w (nI a) P X Y D N = z at uk hrI hcM u1
  refine ⟨hrI, ?_⟩
  refine mH_new d (acts300 d h3) (by rw [u1]; exact i3 3 (by decide)) ?_ (by rw [u1]; exact i28) (by rw [u1, i3 36 (by decide), fil_no _ (by decide : (1 : Nat) ≠ 3)]; exact d.2.2.1) (fun k k1 k2 t ht => ?_) (fun j _ => ?_) ?_ hcM (cOK_drop hok hc) (Or.inr (Or.inl ⟨rfl, hp⟩))
  · rw [uk 4 (by decide) (by decide)]; exact k4 4 (by decide)
  · rw [uk k (by omega) (by omega)]; exact ho k k1 k2 t ht
  · rw [uk 37 (by decide) (by decide), k4 37 (by decide)]
  · unfold eM
    rw [uk 29 (by decide) (by decide), uk 30 (by decide) (by decide), uk 31 (by decide) (by decide), uk 32 (by decide) (by decide), uk 33 (by decide) (by decide), uk 34 (by decide) (by decide), uk 35 (by decide) (by decide)]
    obtain ⟨q1, q2, q3, q4, q5, q6, q7⟩ := hx
    exact ⟨q1, fun q => absurd q (by decide : ¬ (1 : Nat) = 0), fun _ => ⟨q2, q3, q4, q5, q6, q7⟩, fun q => absurd q (by decide : ¬ (1 : Nat) = 2), fun q => absurd q (by decide : ¬ (1 : Nat) = 3)⟩
theorem fill_H {u : mS} (r : rI u) {es : List hE} {c : cfg} (d : mH u es c) (h3 : ¬ u.1 28 = 300) {xs : List fX} (hg : fGood u xs) : rI (mFillE u xs) ∧ mH (mFillE u xs) ((3, 0, (0, 0, 0, 0, 0), xs) :: es) (cFill c xs) := by
  obtain ⟨i1_, i2, i3_, i4, i5⟩ := fill_ind r d xs hg
  have hk := fillR_k u xs
  unfold mFillE
  generalize fillR u xs = z at i2 i3_ i4 i5 hk
  have h28 : (z.1 28).toNatClampNeg = es.length := by rw [hk.1]; exact len28 d
  have hx := acts_at h28 3 (nI xs.length) 0 0 0 0 0
  have ho := acts_old h28 3 (nI xs.length) 0 0 0 0 0
  have i3 : ∀ j, j ≠ 28 → (mActs z 3 (nI xs.length) 0 0 0 0 0).1 j = u.1 j := fun j hj => by rw [mActs_1, if_neg hj, hk.1]
  have i28 : (mActs z 3 (nI xs.length) 0 0 0 0 0).1 28 = u.1 28 + 1 := by rw [mActs_1, if_pos rfl, hk.1]
  have k4 : ∀ k, k < 29 ∨ 35 < k → (mActs z 3 (nI xs.length) 0 0 0 0 0).2 k = z.2 k := fun k hk => mActs_k _ _ _ _ _ _ _ _ hk
  generalize mActs z 3 (nI xs.length) 0 0 0 0 0 = w2 at hx ho i3 i28 k4
  have m1 : ∀ j, j ≠ 36 → (mset w2 36 (w2.1 36 + nI xs.length)).1 j = w2.1 j := fun j hj => by unfold mset; exact if_neg hj
  have m36 : (mset w2 36 (w2.1 36 + nI xs.length)).1 36 = nI (fil es + xs.length) := by rw [mset_same, i3 36 (by decide), d.2.2.1, nI_add]
  have m2 : (mset w2 36 (w2.1 36 + nI xs.length)).2 = w2.2 := rfl
  generalize mset w2 36 (w2.1 36 + nI xs.length) = y at m1 m36 m2
  refine ⟨rI_m i3_ (by rw [m1 3 (by decide), i3 3 (by decide), hk.1]) (by rw [m1 38 (by decide), i3 38 (by decide), hk.1]) (fun k q => by rw [m2]; exact k4 k (by omega)), ?_⟩
  refine mH_new d (acts300 d h3) (by rw [m1 3 (by decide)]; exact i3 3 (by decide)) ?_ (by rw [m1 28 (by decide)]; exact i28) m36 (fun k k1 k2 t ht => ?_) (fun j hj => ?_) ?_ (cM_rows (fun k k1 k2 => by rw [m2, k4 k (by omega)]) i2) (cOK_fill (hOK_c d.2.2.2.1) i1_) (Or.inr (Or.inr (Or.inr ⟨rfl, rfl, i1_⟩)))
  · rw [m2, k4 4 (by decide), hk.2 4 (nR rfl)]
  · rw [m2, ho k k1 k2 t ht, hk.2 k (by unfold stR; omega)]
  · rw [m2, k4 37 (by decide)]; exact i5 j hj
  · obtain ⟨q1, q2, -⟩ := hx
    unfold eM
    rw [m2]
    exact ⟨q1, fun q => absurd q (by decide : ¬ (3 : Nat) = 0), fun q => absurd q (by decide : ¬ (3 : Nat) = 1), fun q => absurd q (by decide : ¬ (3 : Nat) = 2), fun _ => ⟨q2, fM_c (fun j _ => by rw [m2, k4 37 (by decide)]) i4⟩⟩
theorem rule_H {u : mS} (r : rI u) {es : List hE} {c : cfg} (d : mH u es c) (h3 : ¬ u.1 28 = 300) {P X Y : Nat} (hP : P < 12) (hX : X < 8) (hY : Y < 60) : rI (mActs (mst u 2 (480 * nI P + 60 * nI X + nI Y) 100) 2 (nI P) (nI X) (nI Y) 0 0 0) ∧ mH (mActs (mst u 2 (480 * nI P + 60 * nI X + nI Y) 100) 2 (nI P) (nI X) (nI Y) 0 0 0) ((2, 0, (P, X, Y, 1, 1), []) :: es) c := by
  generalize hi : 480 * nI P + 60 * nI X + nI Y = ix
  have hr2 : rI (mst u 2 ix 100) := by
    obtain ⟨r1, r2, r3, r4, r5, r6, r7, r8⟩ := r
    refine ⟨r1, r2, ?_, ?_, ?_, ?_, fun j hj => ?_, ?_⟩
    · rw [mst_other (by decide)]; exact r3
    · rw [mst_other (by decide)]; exact r4
    · rw [mst_other (by decide)]; exact r5
    · rw [mst_other (by decide)]; exact r6
    · rw [mst_at]
      split
      · exact fun q => absurd q (by decide)
      · exact r7 j hj
    · rw [mst_other (by decide), mst_other (by decide)]; exact r8
  have s2 : ∀ k, k ≠ 2 → (mst u 2 ix 100).2 k = u.2 k := fun k hk => mst_other hk
  have s1 : (mst u 2 ix 100).1 = u.1 := rfl
  generalize mst u 2 ix 100 = z at hr2 s2 s1
  have h28 : (z.1 28).toNatClampNeg = es.length := by rw [s1]; exact len28 d
  have hx := acts_at h28 2 (nI P) (nI X) (nI Y) 0 0 0
  have ho := acts_old h28 2 (nI P) (nI X) (nI Y) 0 0 0
  have i3 : ∀ j, j ≠ 28 → (mActs z 2 (nI P) (nI X) (nI Y) 0 0 0).1 j = u.1 j := fun j hj => by rw [mActs_1, if_neg hj, s1]
  have i28 : (mActs z 2 (nI P) (nI X) (nI Y) 0 0 0).1 28 = u.1 28 + 1 := by rw [mActs_1, if_pos rfl, s1]
  have k4 : ∀ k, k < 29 ∨ 35 < k → (mActs z 2 (nI P) (nI X) (nI Y) 0 0 0).2 k = z.2 k := fun k hk => mActs_k _ _ _ _ _ _ _ _ hk
  generalize mActs z 2 (nI P) (nI X) (nI Y) 0 0 0 = w at hx ho i3 i28 k4
  refine ⟨rI_m hr2 (by rw [s1]; exact i3 3 (by decide)) (by rw [s1]; exact i3 38 (by decide)) (fun k hk => k4 k (by omega)), ?_⟩
  refine mH_new d (acts300 d h3) (i3 3 (by decide)) ?_ i28 (by rw [i3 36 (by decide), fil_no _ (by decide : (2 : Nat) ≠ 3)]; exact d.2.2.1) (fun k k1 k2 t ht => ?_) (fun j _ => ?_) ?_ (cM_rows (fun k k1 k2 => by rw [k4 k (by omega), s2 k (by omega)]) d.2.2.2.2.2) (hOK_c d.2.2.2.1) (Or.inr (Or.inr (Or.inl ⟨rfl, rfl, hP, hX, hY⟩)))
  · rw [k4 4 (by decide), s2 4 (by decide)]
  · rw [ho k k1 k2 t ht, s2 k (by omega)]
  · rw [k4 37 (by decide), s2 37 (by decide)]
  · obtain ⟨q1, q2, q3, q4, -⟩ := hx
    exact ⟨q1, fun q => absurd q (by decide : ¬ (2 : Nat) = 0), fun q => absurd q (by decide : ¬ (2 : Nat) = 1), fun _ => ⟨q2, q3, q4⟩, fun q => absurd q (by decide : ¬ (2 : Nat) = 3)⟩
/-- one more act -/
theorem uI_act {u w : mS} {es : List hE} {c c2 : cfg} {e : hE} (h : uI u es c) (hrI : rI w) (hmH : mH w (e :: es) c2) (h1 : ∀ k, k ≠ 28 → k ≠ 36 → w.1 k = u.1 k) (hr : ∀ k, k < 2 ∨ (2 < k ∧ k < 22) ∨ 37 < k → w.2 k = u.2 k) (hX : cX u c2) (hA : agr c2 (w.2 2)) (hi : e.1 ≠ 3 → e.1 ≠ 2 → e.2.1 < (u.1 3).toNatClampNeg) (hru : e.1 = 2 → rLn u (ruR e)) (hs : eS (u.1 3).toNatClampNeg (u.2 4) e c c2) (h9 : gS9 e c (u.2 2) c2 (w.2 2)) : uI w (e :: es) c2 := by
  obtain ⟨a1, a2, a3, a4, a5, a6, a7, a8, a9, a10, a11⟩ := h
  have e3 := h1 3 (by decide) (by decide)
  have hok := hOK_c hmH.2.2.2.1
  refine ⟨hrI, kB_c a2 (hr 4 (by omega)) (hr 10 (by omega)), hmH, ⟨cX_c hX (by rw [e3]; exact Nat.le_refl _) (hr 0 (by omega)) (fun a _ => ⟨by rw [hr 4 (by omega)], by rw [hr 11 (by omega)]⟩) (fun a ha => (hok a).1 (by rw [e3]; exact ha)), hA, hok, by rw [e3]; exact hi, fun q => by have z := hru q; unfold rLn at z ⊢; rw [hr 0 (by omega)]; exact z, c, u.2 2, gH_e e3 (hr 0 (by omega)) (hr 4 (by omega)) (hr 11 (by omega)) a4, by rw [e3, hr 4 (by omega)]; exact hs, h9⟩, nwI_e a5 e3 (fun r r1 => hr r (by omega)), plI_c a6 (fun r r1 r2 => hr r (by omega)), ?_, ?_, ?_, rvI_c a10 (hr 20 (by omega)), by rw [h1 39 (by decide) (by decide)]; exact a11⟩
  · unfold sdI at a7 ⊢
    rw [hr 40 (by omega), hr 4 (by omega), hr 45 (by omega), hr 11 (by omega)]; exact a7
  · unfold plZ at a8 ⊢
    rw [e3, hr 40 (by omega), hr 45 (by omega)]; exact a8
  · unfold foI at a9 ⊢
    rw [h1 38 (by decide) (by decide), hr 47 (by omega), hr 48 (by omega)]; exact a9
theorem uI_lift {u : mS} {es : List hE} {c : cfg} (h : uI u es c) (h3 : ¬ u.1 28 = 300) {a : Nat} (ha : a < (u.1 3).toNatClampNeg) {P X Y D N : Nat} {l : List fR} (hc : c a = (P, X, Y, D, N) :: l) : uI (mUnstand (mActs u 1 (nI a) (nI P) (nI X) (nI Y) (nI D) (nI N)) (nI a) P X Y D N) ((1, a, (P, X, Y, D, N), []) :: es) (cDrop c a l) := by
  have hn := n80 h.1
  obtain ⟨q1, q2⟩ := lift_H h.1 h.2.2.1 h3 (by omega) hc
  have hp := cDrop_push hc
  have hX := gH_cX h.2.2.2.1
  have hA := gH_agr h.2.2.2.1
  have hok := uI_ok h
  have hr : rOK (P, X, Y, D, N) := (hok a).2.2.1 _ (by rw [hc]; exact List.mem_cons_self)
  have e2 : (mUnstand (mActs u 1 (nI a) (nI P) (nI X) (nI Y) (nI D) (nI N)) (nI a) P X Y D N).2 2 = setF (u.2 2) (P, X, Y, D, N) (-2) := by
    rw [mUnstand_2, mActs_k _ _ _ _ _ _ _ _ (by decide)]; rfl
  refine uI_act h q1 q2 (fun k k1 k2 => by rw [mUnstand_1, mActs_1, if_neg k1]) (fun k hk => by rw [mUnstand_k _ _ _ _ _ _ _ (by omega) (by omega), mActs_k _ _ _ _ _ _ _ _ (by omega)]) (cX_pop (by rw [← hp]; exact hX)) ?_ (fun _ _ => ha) (fun q => absurd q (by decide : ¬ (1 : Nat) = 2)) (Or.inr (Or.inl ⟨rfl, hp⟩)) (Or.inr (Or.inl ⟨rfl, hp, e2, hr⟩))
  rw [e2]
  exact agr_pop (by rw [← hp]; exact hA) (by omega)
theorem uI_put {u : mS} {es : List hE} {c : cfg} (h : uI u es c) (h3 : ¬ u.1 28 = 300) {a : Nat} (ha : a < (u.1 3).toNatClampNeg) {P X Y D N : Nat} (hin : rIn u P X Y D N) (hfr : ∀ j, inR (P, X, Y, D, N) j → u.2 2 j = (-2)) (hl : (c a).length ≤ 5) (hg : lgT none ((P, X, Y, D, N) :: c a)) (hk : ¬ u.2 4 a = 0 → c a = []) (hk0 : u.2 4 a = 0 → D = 1 ∧ ∀ s, s ∈ c a → bhd (P, X, Y, D, N) s) (hk3 : u.2 4 a = 3 → u.2 11 a = nI P) : uI (mActs (mStand u (nI a) P X Y D N) 0 (nI a) 0 0 0 0 0) ((0, a, (P, X, Y, D, N), []) :: es) (cPush c a (P, X, Y, D, N)) := by
  have hn := n80 h.1
  have hok := uI_ok h
  have hr : rOK (P, X, Y, D, N) := ⟨hin.1, hin.2.1, hin.2.2.2.1, hin.2.2.1, hin.2.2.2.2.1⟩
  have hok2 := cOK_push hok ha hr hl hg (fun q => hk (by rw [q]; decide))
  obtain ⟨q1, q2⟩ := stand_H h.1 h.2.2.1 h3 ha hr hl hok2
  have e2 : (mActs (mStand u (nI a) P X Y D N) 0 (nI a) 0 0 0 0 0).2 2 = setF (u.2 2) (P, X, Y, D, N) (nI a) := by
    rw [mActs_k _ _ _ _ _ _ _ _ (by decide), mStand_2]; rfl
  refine uI_act h q1 q2 (fun k k1 k2 => by rw [mActs_1, if_neg k1, mStand_1]) (fun k hk => by rw [mActs_k _ _ _ _ _ _ _ _ (by omega), mStand_k2 _ _ _ _ _ _ _ (by omega) (by omega)]) (cX_push (gH_cX h.2.2.2.1) ha hin.2.2.2.2.2 hk hk0 hk3) ?_ (fun _ _ => ha) (fun q => absurd q (by decide : ¬ (0 : Nat) = 2)) (Or.inl ⟨rfl, _, rfl⟩) (Or.inl ⟨rfl, rfl, e2, hfr, hr⟩)
  rw [e2]
  exact agr_push (gH_agr h.2.2.2.1) (by omega) hr hfr
theorem uI_rule {u : mS} {es : List hE} {c : cfg} (h : uI u es c) (h3 : ¬ u.1 28 = 300) {P X Y : Nat} (hP : P < 12) (hX : X < 8) (hY : Y < (u.2 0 (8 * P + X)).toNatClampNeg) (hfr : u.2 2 (480 * P + 60 * X + Y) = (-2)) : uI (mActs (mst u 2 (480 * nI P + 60 * nI X + nI Y) 100) 2 (nI P) (nI X) (nI Y) 0 0 0) ((2, 0, (P, X, Y, 1, 1), []) :: es) c := by
  have l6 := ln60 h.1 (j := 8 * P + X) (by omega)
  have hY6 : Y < 60 := by omega
  obtain ⟨q1, q2⟩ := rule_H h.1 h.2.2.1 h3 hP hX hY6
  have e2 : (mActs (mst u 2 (480 * nI P + 60 * nI X + nI Y) 100) 2 (nI P) (nI X) (nI Y) 0 0 0).2 2 = setF (u.2 2) (P, X, Y, 1, 1) 100 := by
    rw [mActs_k _ _ _ _ _ _ _ _ (by decide)]
    funext j
    rw [mst_at, idxN hP hX hY6, nI_clamp (by omega)]
    show _ = setR (u.2 2) P X Y 1 100 1 j
    unfold setR setR setC
    by_cases hj : j = 480 * P + 60 * X + Y
    · rw [if_pos hj, if_pos (by omega)]
    · rw [if_neg hj, if_neg (by omega)]
  have hf : frG (u.2 2) (P, X, Y, 1, 1) := fun j ⟨x, y, hx, hy, e⟩ => by
    have hx : x < 1 := hx
    have hy : y < 1 := hy
    rw [e, show 480 * (P, X, Y, 1, 1).1 + 60 * ((P, X, Y, 1, 1).2.1 + x) + ((P, X, Y, 1, 1).2.2.1 + y) = 480 * P + 60 * X + Y by show 480 * P + 60 * (X + x) + (Y + y) = _; omega]
    exact hfr
  refine uI_act h q1 q2 (fun k k1 k2 => by rw [mActs_1, if_neg k1]; rfl) (fun k hk => by rw [mActs_k _ _ _ _ _ _ _ _ (by omega), mst_other (by omega)]) (gH_cX h.2.2.2.1) ?_ (fun _ q => absurd rfl q) (fun _ => ?_) (Or.inr (Or.inr (Or.inl ⟨rfl, rfl, hP, hX, hY6⟩))) (Or.inr (Or.inr (Or.inl ⟨rfl, rfl, e2, hf⟩)))
  · rw [e2]
    exact agr_rule (gH_agr h.2.2.2.1) hf
  · intro x hx
    have hx : x < 1 := hx
    show Y + 1 ≤ (u.2 0 (8 * P + (X + x))).toNatClampNeg
    rw [show X + x = X by omega]
    omega
theorem agr_fill {n : Nat} {kd : Nat → Int32} {c : cfg} {G : Nat → Int32} (hn : n ≤ 80) (h : agr c G) : ∀ {xs : List fX}, xG n kd c xs → frL9 G xs → agr (cFill c xs) (gFill G xs)
  | [], _, _ => h
  | x :: xs, hx, hf => by
    obtain ⟨x1, x2, x3, x4, x5⟩ := hx
    exact agr_push (agr_fill hn h x1 hf.1) (by omega) x5 hf.2
theorem cX_fill {u : mS} {c : cfg} (h : cX u c) : ∀ {xs : List fX}, xG (u.1 3).toNatClampNeg (u.2 4) c xs → (∀ x, x ∈ xs → rLn u (xR x)) → cX u (cFill c xs)
  | [], _, _ => h
  | x :: xs, hx, hl => by
    obtain ⟨x1, x2, x3, x4, x5⟩ := hx
    exact cX_push (cX_fill h x1 (fun y hy => hl y (List.mem_cons_of_mem _ hy))) x2 (hl x List.mem_cons_self) (fun _ => x4) (fun q => absurd (x3.symm.trans q) (by decide)) (fun q => absurd (x3.symm.trans q) (by decide))
theorem fillR_2 (u : mS) : ∀ xs, (fillR u xs).2 2 = gFill (u.2 2) xs
  | [] => rfl
  | x :: xs => by
    show (mst (mStand (fillR u xs) (nI x.1) x.2.1 x.2.2.1 x.2.2.2.1 1 x.2.2.2.2) 37 _ _).2 2 = setF (gFill (u.2 2) xs) (xR x) (nI x.1)
    rw [mst_other (by decide), mStand_2, fillR_2 u xs]
    rfl
theorem uI_fill {u : mS} {es : List hE} {c : cfg} (h : uI u es c) (h3 : ¬ u.1 28 = 300) {xs : List fX} (hg : fGood u xs) (hf : frL9 (u.2 2) xs) (hl : ∀ x, x ∈ xs → rLn u (xR x)) : uI (mFillE u xs) ((3, 0, (0, 0, 0, 0, 0), xs) :: es) (cFill c xs) := by
  have hn := n80 h.1
  obtain ⟨q1, q2⟩ := fill_H h.1 h.2.2.1 h3 hg
  obtain ⟨i1_, -⟩ := fill_ind h.1 h.2.2.1 xs hg
  have hk := fillR_k u xs
  have e2 : (mFillE u xs).2 2 = gFill (u.2 2) xs := by
    unfold mFillE
    rw [mset_2, mActs_k _ _ _ _ _ _ _ _ (by decide), fillR_2]
  refine uI_act h q1 q2 (fun k k1 k2 => ?_) (fun k k1 => ?_) (cX_fill (gH_cX h.2.2.2.1) i1_ hl) ?_ (fun q => absurd rfl q) (fun q => absurd q (by decide : ¬ (3 : Nat) = 2)) (Or.inr (Or.inr (Or.inr ⟨rfl, rfl, i1_⟩))) (Or.inr (Or.inr (Or.inr ⟨rfl, rfl, e2, hf⟩)))
  · unfold mFillE mset
    dsimp only
    rw [if_neg k2, mActs_1, if_neg k1, hk.1]
  · unfold mFillE
    rw [mset_2, mActs_k _ _ _ _ _ _ _ _ (by omega), hk.2 k (by unfold stR; omega)]
  · rw [e2]
    exact agr_fill hn (gH_agr h.2.2.2.1) i1_ hf
/-- what a column that is filled keeps -/
def fcQ (u0 : mS) (P c t : Nat) (s : mS × List fX × Nat) : Prop := s.1.2 0 = u0.2 0 ∧ s.1.2 2 = gFill (u0.2 2) s.2.1 ∧ frL9 (u0.2 2) s.2.1 ∧ (∀ x, x ∈ s.2.1 → rLn u0 (xR x)) ∧ s.2.2 ≤ t ∧ ∀ b, b < s.2.2 → mCellAt s.1 (nI P) (nI c) (nI (t - s.2.2 + b)) = (-2)
theorem nI_nn {x : Int32} (h : 0 ≤ x) : nI x.toNatClampNeg = x := by
  rw [i32_le, i0] at h
  exact (nI_of_bw (x := x) (hi := x) (bw_iff.mpr ⟨by rw [i0]; exact h, Int.le_refl _⟩)).1.symm
theorem fcQ_s {u0 : mS} {P c t : Nat} {s : mS × List fX × Nat} (hr : rI u0) (hP : P < 12) (hc : c < 8) (ht : t ≤ 60) (h : fcQ u0 P c t s) : fcQ u0 P c (t + 1) (fcT P c t s) := by
  obtain ⟨u, xs, r⟩ := s
  obtain ⟨h0, h2, h3, h4, h5, h6⟩ := h
  have h0 : u.2 0 = u0.2 0 := h0
  have h2 : u.2 2 = gFill (u0.2 2) xs := h2
  have h3 : frL9 (u0.2 2) xs := h3
  have h4 : ∀ x, x ∈ xs → rLn u0 (xR x) := h4
  have h5 : r ≤ t := h5
  have h6 : ∀ b, b < r → mCellAt u (nI P) (nI c) (nI (t - r + b)) = (-2) := h6
  unfold fcT
  dsimp only
  by_cases e : mCellAt u (nI P) (nI c) (nI t) = (-2)
  · rw [if_pos e]
    refine ⟨h0, h2, h3, h4, by show r + 1 ≤ t + 1; omega, fun b hb => ?_⟩
    have hb : b < r + 1 := hb
    show mCellAt u (nI P) (nI c) (nI (t + 1 - (r + 1) + b)) = (-2)
    rw [show t + 1 - (r + 1) + b = t - r + b by omega]
    by_cases q : b < r
    · exact h6 b q
    · rw [show t - r + b = t by omega]; exact e
  · rw [if_neg e]
    by_cases q : 0 < r ∧ 0 ≤ mFFr u (nI r) (u.1 3).toNatClampNeg (u.1 3).toNatClampNeg
    · rw [if_pos q]
      have hq := nI_nn q.2
      generalize mFFr u (nI r) (u.1 3).toNatClampNeg (u.1 3).toNatClampNeg = i at q hq
      have hin := fc_in (u := u) hP hc (fun a ha => by rw [h0]; exact hr.2.2.1 _ (by omega)) q.1 h5 (by omega) h6
      refine ⟨?_, ?_, ⟨h3, fun j hj => ?_⟩, fun x hx => ?_, Nat.zero_le _, fun b hb => absurd hb (Nat.not_lt_zero _)⟩
      · show (mStand u i P c (t - r) 1 r).2 0 = u0.2 0
        rw [mStand_k2 _ _ _ _ _ _ _ (by decide) (by decide)]; exact h0
      · show (mStand u i P c (t - r) 1 r).2 2 = setF (gFill (u0.2 2) xs) (P, c, t - r, 1, r) (nI i.toNatClampNeg)
        rw [mStand_2, hq, h2]; rfl
      · obtain ⟨x, y, hx, hy, ej⟩ := hj
        have hx : x < 1 := hx
        have hy : y < r := hy
        have ej : j = 480 * P + 60 * (c + x) + (t - r + y) := ej
        have z := (mCA (h6 y hy)).2
        rw [ix_c hP hc (by omega), h2] at z
        rw [ej, show c + x = c by omega]
        exact z
      · rcases List.mem_cons.mp hx with g | g
        · rw [g]
          have z := hin.2.2.2.2.2
          intro a ha
          have z2 := z a ha
          rw [h0] at z2
          exact z2
        · exact h4 x g
    · rw [if_neg q]
      exact ⟨h0, h2, h3, h4, Nat.zero_le _, fun b hb => absurd hb (Nat.not_lt_zero _)⟩
theorem fcN_Q {u0 u1 : mS} {x1 : List fX} {P c : Nat} (hr : rI u0) (hP : P < 12) (hc : c < 8) (h0 : u1.2 0 = u0.2 0) (h2 : u1.2 2 = gFill (u0.2 2) x1) (h3 : frL9 (u0.2 2) x1) (h4 : ∀ x, x ∈ x1 → rLn u0 (xR x)) : ∀ t, t ≤ 61 → fcQ u0 P c t (fcN u1 x1 P c t)
  | 0, _ => ⟨h0, h2, h3, h4, Nat.le_refl _, fun b hb => absurd hb (Nat.not_lt_zero _)⟩
  | t + 1, ht => fcQ_s hr hP hc (by omega) (fcN_Q hr hP hc h0 h2 h3 h4 t (by omega))
theorem flN_Q {u0 : mS} {P : Nat} (hr : rI u0) (hP : P < 12) : ∀ c, c ≤ 8 → (flN u0 P c).1.2 0 = u0.2 0 ∧ (flN u0 P c).1.2 2 = gFill (u0.2 2) (flN u0 P c).2 ∧ frL9 (u0.2 2) (flN u0 P c).2 ∧ ∀ x, x ∈ (flN u0 P c).2 → rLn u0 (xR x)
  | 0, _ => ⟨rfl, rfl, trivial, fun x hx => absurd hx List.not_mem_nil⟩
  | c + 1, hc => by
    obtain ⟨h0, h2, h3, h4⟩ := flN_Q hr hP c (by omega)
    have l6 := ln60 hr (j := 8 * P + c) (by omega)
    have q := fcN_Q hr hP (c := c) (by omega) h0 h2 h3 h4 (((flN u0 P c).1.2 0 (8 * P + c)).toNatClampNeg + 1) (by rw [h0]; omega)
    exact ⟨q.1, q.2.1, q.2.2.1, q.2.2.2.1⟩
/-- a piece that came and went again -/
theorem try_2 {u : mS} {a P X Y N : Nat} (hf : ∀ j, inR (P, X, Y, 1, N) j → u.2 2 j = (-2)) : (mTry u (nI a) P X Y N).2 2 = u.2 2 := by
  unfold mTry
  rw [mUnstand_2, mStand_2]
  show setF (setF (u.2 2) (P, X, Y, 1, N) (nI a)) (P, X, Y, 1, N) (-2) = u.2 2
  exact setF_re hf
theorem try_22 {u : mS} {a P X Y N : Nat} (ha : a < 80) : (mTry u (nI a) P X Y N).2 22 = u.2 22 := by
  funext j
  unfold mTry
  rw [mUnstand_22o, mStand_22o, mStand_22o]
  by_cases e : j = (nI a).toNatClampNeg
  · rw [if_pos e, if_pos rfl, addsub1, e]
  · rw [if_neg e, if_neg e]
theorem try_k {u : mS} {a P X Y N k : Nat} (h1 : k ≠ 2) (h2 : k < 22 ∨ 27 < k) : (mTry u (nI a) P X Y N).2 k = u.2 k := by
  unfold mTry
  rw [mUnstand_k _ _ _ _ _ _ _ h1 (by omega), mStand_k2 _ _ _ _ _ _ _ h1 h2]
theorem uI_try {u : mS} {es : List hE} {c : cfg} (h : uI u es c) {a P X Y N : Nat} (ha : a < 80) (hl : (c a).length ≤ 5) (hX : X + 1 ≤ 8) (hf : ∀ j, inR (P, X, Y, 1, N) j → u.2 2 j = (-2)) : uI (mTry u (nI a) P X Y N) es c := by
  obtain ⟨a1, a2, a3, a4, a5, a6, a7, a8, a9, a10, a11⟩ := h
  have ho : ∀ k, k ≠ 2 → k < 22 ∨ 27 < k → (mTry u (nI a) P X Y N).2 k = u.2 k := fun k k1 k2 => try_k k1 k2
  have e1 := mTry_1 u (nI a) P X Y N
  refine ⟨rI_unstand (rI_stand a1 ha hX) _ _ _ _ _ _, kB_c a2 (ho 4 (by decide) (by decide)) (ho 10 (by decide) (by decide)), try_H a3 ha hl P X Y N, ?_, nwI_e a5 (by rw [e1]) (fun r r1 => ho r (by omega) (by omega)), plI_c a6 (fun r r1 r2 => ho r (by omega) (by omega)), ?_, ?_, ?_, rvI_c a10 (ho 20 (by decide) (by decide)), by rw [e1]; exact a11⟩
  · rw [try_2 hf]
    exact gH_e (by rw [e1]) (ho 0 (by decide) (by decide)) (ho 4 (by decide) (by decide)) (ho 11 (by decide) (by decide)) a4
  · unfold sdI at a7 ⊢
    rw [ho 40 (by decide) (by decide), ho 4 (by decide) (by decide), ho 45 (by decide) (by decide), ho 11 (by decide) (by decide)]; exact a7
  · unfold plZ at a8 ⊢
    rw [e1, ho 40 (by decide) (by decide), ho 45 (by decide) (by decide)]; exact a8
  · unfold foI at a9 ⊢
    rw [e1, ho 47 (by decide) (by decide), ho 48 (by decide) (by decide)]; exact a9
theorem try_slot {u : mS} {a P X Y N r j : Nat} (h1 : 23 ≤ r) (h2 : r ≤ 27) (hj : j ≠ (6 * nI a + u.2 22 (nI a).toNatClampNeg).toNatClampNeg) : (mTry u (nI a) P X Y N).2 r j = u.2 r j := by
  unfold mTry
  rw [mUnstand_k _ _ _ _ _ _ _ (by omega) (by omega)]
  obtain ⟨q1, q2, q3, q4, q5⟩ := mStand_r u (nI a) P X Y 1 N j
  rw [if_neg hj] at q1 q2 q3 q4 q5
  have hr : r = 23 ∨ r = 24 ∨ r = 25 ∨ r = 26 ∨ r = 27 := by omega
  rcases hr with e | e | e | e | e <;> subst e
  · exact q1
  · exact q2
  · exact q3
  · exact q4
  · exact q5
theorem rep_try {q : Nat → ClassId} {d : Nat → Nat} {u : mS} {z : gS} {f : xF} {es : List hE} {c : cfg} (h : uI u es c) (hrp : rep q d u z f) {a P X Y N : Nat} (ha : a < 80) (hl : (c a).length ≤ 5) (hf : ∀ j, inR (P, X, Y, 1, N) j → u.2 2 j = (-2)) : rep q d (mTry u (nI a) P X Y N) z f := by
  have g := uI_g h
  have hn := n80 h.1
  have e1 := mTry_1 u (nI a) P X Y N
  refine rep_ext hrp (by rw [e1]) (fun r hr => ?_) (fun r r1 r2 j hj t ht => try_slot r1 r2 ?_)
  · by_cases e : r = 2
    · rw [e]; exact try_2 hf
    · by_cases e2 : r = 22
      · rw [e2]; exact try_22 ha
      · exact try_k e (by omega)
  · have h6 := g.2.2.2.2.2 a
    have hj6 := g.2.2.2.2.2 j
    rw [cnt_e g (by omega)] at ht
    rw [nI_clamp (n := a) (by omega), (g.2.2.2.1 a ha).1, ix6, nI_clamp (by omega)]
    intro q
    have : j = a := by omega
    rw [this] at ht
    omega
theorem try_stand {u : mS} {a P X Y D N : Nat} (ha : a < 80) (hf : ∀ j, inR (P, X, Y, 1, N) j → u.2 2 j = (-2)) : mStand (mTry u (nI a) P X Y N) (nI a) P X Y D N = mStand u (nI a) P X Y D N := by
  refine mS_x (by rw [mStand_1, mStand_1, mTry_1]) (fun r j => ?_)
  by_cases e2 : r = 2
  · rw [e2, mStand_2, mStand_2, try_2 hf]
  · by_cases e22 : r = 22
    · rw [e22, mStand_22o, mStand_22o, try_22 ha]
    · by_cases e : 23 ≤ r ∧ r ≤ 27
      · obtain ⟨q1, q2, q3, q4, q5⟩ := mStand_r (mTry u (nI a) P X Y N) (nI a) P X Y D N j
        obtain ⟨p1, p2, p3, p4, p5⟩ := mStand_r u (nI a) P X Y D N j
        rw [try_22 ha] at q1 q2 q3 q4 q5
        by_cases s : j = (6 * nI a + u.2 22 (nI a).toNatClampNeg).toNatClampNeg
        · rw [if_pos s] at q1 q2 q3 q4 q5 p1 p2 p3 p4 p5
          have hr : r = 23 ∨ r = 24 ∨ r = 25 ∨ r = 26 ∨ r = 27 := by omega
          rcases hr with z | z | z | z | z <;> subst z
          · rw [q1, p1]
          · rw [q2, p2]
          · rw [q3, p3]
          · rw [q4, p4]
          · rw [q5, p5]
        · rw [if_neg s] at q1 q2 q3 q4 q5 p1 p2 p3 p4 p5
          have t := try_slot (u := u) (P := P) (X := X) (Y := Y) (N := N) e.1 e.2 s
          have hr : r = 23 ∨ r = 24 ∨ r = 25 ∨ r = 26 ∨ r = 27 := by omega
          rcases hr with z | z | z | z | z <;> subst z
          · rw [q1, p1]; exact t
          · rw [q2, p2]; exact t
          · rw [q3, p3]; exact t
          · rw [q4, p4]; exact t
          · rw [q5, p5]; exact t
      · rw [mStand_k2 _ _ _ _ _ _ _ e2 (by omega), mStand_k2 _ _ _ _ _ _ _ e2 (by omega), try_k e2 (by omega)]
theorem slE_u {u : mS} {k : Nat} {r s : fR} (hr : rOK r) (hs : rOK s) (h : slE u k r) (h2 : slE u k s) : r = s := by
  obtain ⟨a1, a2, a3, a4, a5⟩ := hr
  obtain ⟨b1, b2, b3, b4, b5⟩ := hs
  have e1 : r.1 = s.1 := (nI_inj (by omega) (by omega)).mp (h.1.symm.trans h2.1)
  have e2 : r.2.1 = s.2.1 := (nI_inj (by omega) (by omega)).mp (h.2.1.symm.trans h2.2.1)
  have e3 : r.2.2.1 = s.2.2.1 := (nI_inj (by omega) (by omega)).mp (h.2.2.1.symm.trans h2.2.2.1)
  have e4 : r.2.2.2.1 = s.2.2.2.1 := (nI_inj (by omega) (by omega)).mp (h.2.2.2.1.symm.trans h2.2.2.2.1)
  have e5 : r.2.2.2.2 = s.2.2.2.2 := (nI_inj (by omega) (by omega)).mp (h.2.2.2.2.symm.trans h2.2.2.2.2)
  exact Prod.ext e1 (Prod.ext e2 (Prod.ext e3 (Prod.ext e4 e5)))
/-- a later piece stands behind an earlier one -/
theorem sl_bhd {u : mS} {a : Nat} : ∀ {l : List fR}, slM u a l → List.Pairwise bhd l → ∀ t t2, t < t2 → t2 < l.length → ∃ r r2, r ∈ l ∧ r2 ∈ l ∧ slE u (6 * a + t) r ∧ slE u (6 * a + t2) r2 ∧ bhd r2 r
  | [], _, _, t, t2, _, h => absurd h (Nat.not_lt_zero _)
  | q :: l, h, hp, t, t2, h1, h2 => by
    obtain ⟨p1, p2⟩ := List.pairwise_cons.mp hp
    rw [List.length_cons] at h2
    by_cases e : t2 = l.length
    · obtain ⟨r, r1, r2⟩ := (sl_mem h.2).2 t (by omega)
      exact ⟨r, q, List.mem_cons_of_mem _ r1, List.mem_cons_self, r2, by rw [e]; exact h.1, p1 r r1⟩
    · obtain ⟨r, r2, a1, a2, a3⟩ := sl_bhd h.2 p2 t t2 h1 (by omega)
      exact ⟨r, r2, List.mem_cons_of_mem _ a1, List.mem_cons_of_mem _ a2, a3⟩
/-- what stands on a page, told by the first piece there -/
theorem pl_new {u : mS} {es : List hE} {c : cfg} (h : uI u es c) {P i : Nat} {x y : Int32} (hP : P < 12) (hi : i < 80) (hR : plR u P i 0 (ptN u i) x y) : (x = (-1) ∧ ∀ c' l', c' < 8 → l' < (u.2 0 (8 * P + c')).toNatClampNeg → ¬ u.2 2 (480 * P + (60 * c' + l')) = nI i) ∨ ∃ X Y, x = nI X ∧ y = nI Y ∧ X < 8 ∧ Y < (u.2 0 (8 * P + X)).toNatClampNeg ∧ u.2 2 (480 * P + (60 * X + Y)) = nI i ∧ (∃ r, r ∈ c i ∧ r.1 = P) ∧ ∀ c' l', c' < 8 → l' < (u.2 0 (8 * P + c')).toNatClampNeg → (c' < X ∨ (c' = X ∧ l' < Y)) → ¬ u.2 2 (480 * P + (60 * c' + l')) = nI i := by
  have g := uI_g h
  have hn := n80 h.1
  have hX := gH_cX h.2.2.2.1
  have hc6 := g.2.2.2.2.2 i
  have ec := cnt_e g hi
  have ept : ptN u i = (c i).length := by
    unfold ptN
    by_cases q : i < (u.1 3).toNatClampNeg
    · rw [if_pos q]; exact ec
    · rw [if_neg q, g.2.2.2.2.1 i (by omega)]; rfl
  -- a cell of the item on the page lies in one of its pieces there
  have cell : ∀ c' l', c' < 8 → l' < (u.2 0 (8 * P + c')).toNatClampNeg → u.2 2 (480 * P + (60 * c' + l')) = nI i → ∃ k r, k < ptN u i ∧ r ∈ c i ∧ slE u (6 * i + k) r ∧ r.1 = P ∧ r.2.1 ≤ c' ∧ c' < r.2.1 + r.2.2.2.1 ∧ r.2.2.1 ≤ l' ∧ l' < r.2.2.1 + r.2.2.2.2 := fun c' l' h1 h2 h3 => by
    have l6 := ln60 h.1 (j := 8 * P + c') (by omega)
    rw [show 480 * P + (60 * c' + l') = 480 * P + 60 * c' + l' by omega] at h3
    obtain ⟨r, r1, r2⟩ := (g.2.1.1 _ (by omega) i hi).mp h3
    rw [inR_xy (g.2.2.1 i r r1).1 h1 (by omega)] at r2
    obtain ⟨t, t1, t2⟩ := r_pc g hi r1
    exact ⟨t, r, by rw [ept, ← ec]; exact t1, r1, t2, r2⟩
  rcases hR with ⟨h1, h2⟩ | ⟨k, -, hk, hp, hm, ex, ey⟩
  · refine Or.inl ⟨h1, fun c' l' q1 q2 q3 => ?_⟩
    obtain ⟨k, r, k1, k2, k3, k4, -⟩ := cell c' l' q1 q2 q3
    exact h2 k (Nat.zero_le _) k1 (by unfold pgK; rw [k3.1, k4])
  · obtain ⟨r, r1, r2⟩ := pc_r g (i := i) (t := k) hi (by rw [ec, ← ept]; exact hk)
    obtain ⟨kr, lr⟩ := g.2.2.1 i r r1
    have rP : r.1 = P := (nI_inj (by have := kr.1; omega) (by omega)).mp (r2.1.symm.trans hp)
    have kr2 := kr
    obtain ⟨m1, m2, m3, m4, m5⟩ := kr2
    have lr2 := rLn_at lr rP (x := r.2.1) (Nat.le_refl _) (by omega)
    refine Or.inr ⟨r.2.1, r.2.2.1, ex.trans r2.2.1, ey.trans r2.2.2.1, by omega, by omega, ?_, ⟨r, r1, rP⟩, fun c' l' q1 q2 q3 q4 => ?_⟩
    · rw [show 480 * P + (60 * r.2.1 + r.2.2.1) = 480 * P + 60 * r.2.1 + r.2.2.1 by omega]
      exact (g.2.1.1 _ (by omega) i hi).mpr ⟨r, r1, (inR_xy kr (by omega) (by omega)).mpr ⟨rP, Nat.le_refl _, by omega, Nat.le_refl _, by omega⟩⟩
    · obtain ⟨k2, r', a1, a2, a3, a4, a5, a6, a7, a8⟩ := cell c' l' q1 q2 q4
      have kr' := (g.2.2.1 i r' a2).1
      rcases Nat.lt_trichotomy k2 k with z | z | z
      · exact hm k2 (Nat.zero_le _) z (by unfold pgK; rw [a3.1, a4])
      · rw [z] at a3
        have e := slE_u kr' kr a3 r2
        rw [e] at a5 a6 a7 a8
        omega
      · -- a later piece: a story's, behind
        by_cases q : i < (u.1 3).toNatClampNeg
        · by_cases k0 : u.2 4 i = 0
          · obtain ⟨s, s2, b1, b2, b3, b4, b5⟩ := sl_bhd (g.2.2.2.1 i hi).2 ((hX i q).2.2.1 k0).2 k k2 z (by rw [← ept]; exact a1)
            have e1 := slE_u (g.2.2.1 i s b1).1 kr b3 r2
            have e2 := slE_u (g.2.2.1 i s2 b2).1 kr' b4 a3
            rw [e1, e2] at b5
            unfold bhd at b5
            rw [rP, a4] at b5
            omega
          · have := (hX i q).2.1 k0
            omega
        · rw [g.2.2.2.2.1 i (by omega)] at a2
          exact absurd a2 List.not_mem_nil
theorem uI_plate {u w : mS} {es : List hE} {c : cfg} (h : uI u es c) {P : Nat} (hP : P < 12) (hB : plB u P w) (hI : plI9 u P w 80) : uI w es c := by
  have h0 := h
  have hX := gH_cX h.2.2.2.1
  have g := uI_g h
  have hn := n80 h.1
  obtain ⟨⟨b1, b2, b40, b41, b42⟩, b44, b43⟩ := hB
  obtain ⟨i1, i2⟩ := hI
  have w43 : ∀ j, j < 96 → bw (w.2 43 j) 0 60 = true := fun j hj => by
    rw [b43 j]
    split
    · exact h.1.2.2.1 j hj
    · exact h.1.2.2.2.1 j hj
  have hk := (mKp_Pl (uI_M h) ⟨b1, b2, w43⟩).1.1
  obtain ⟨a1, a2, a3, a4, a5, a6, a7, a8, a9, a10, a11⟩ := h
  have e3 := b1 3 (by decide) (by decide) (by decide)
  have n43 : ∀ c', c' < 8 → w.2 43 (8 * P + c') = u.2 0 (8 * P + c') := fun c' hc => by rw [b43, if_pos (by omega)]
  have n44 : ∀ j, j < 480 → w.2 44 (480 * P + j) = u.2 2 (480 * P + j) := fun j hj => by rw [b44, if_pos (by omega)]
  have o43 : ∀ p c', p < 12 → p ≠ P → c' < 8 → w.2 43 (8 * p + c') = u.2 43 (8 * p + c') := fun p c' hp hpp hc => by rw [b43, if_neg (by omega)]
  have o44 : ∀ p j, p < 12 → p ≠ P → j < 480 → w.2 44 (480 * p + j) = u.2 44 (480 * p + j) := fun p j hp hpp hj => by rw [b44, if_neg (by omega)]
  have o45 : ∀ p i, p < 12 → p ≠ P → i < 80 → w.2 45 (80 * p + i) = u.2 45 (80 * p + i) ∧ w.2 46 (80 * p + i) = u.2 46 (80 * p + i) := fun p i hp hpp hi => i1 _ (by omega)
  refine ⟨hk, kB_c a2 (b2 4 (by omega)) (b2 10 (by omega)), mH_c a3 e3 (b1 28 (by decide) (by decide) (by decide)) (b1 36 (by decide) (by decide) (by decide)) (b2 4 (by omega)) (fun k k1 k2 => b2 k (by omega)), ?_, nwI_e a5 e3 (fun r r1 => b2 r (by omega)), fun p hp h40 i hi => ?_, fun p hp h40 i hi h4 h45 => ?_, fun p hp h40 i hi1 hi2 => ?_, ?_, rvI_c a10 (b2 20 (by omega)), by rw [b1 39 (by decide) (by decide) (by decide)]; exact a11⟩
  · rw [b2 2 (by omega)]
    exact gH_e e3 (b2 0 (by omega)) (b2 4 (by omega)) (b2 11 (by omega)) a4
  · by_cases e : p = P
    · rw [e]
      rcases pl_new h0 hP hi (i2 i hi) with ⟨q1, q2⟩ | ⟨X, Y, q1, q2, q3, q4, q5, -, q6⟩
      · refine Or.inl ⟨q1, fun c' l' h1 h2 => ?_⟩
        rw [n43 c' h1] at h2
        have l6 := ln60 a1 (j := 8 * P + c') (by omega)
        rw [n44 _ (by omega)]
        exact q2 c' l' h1 h2
      · have l6 := ln60 a1 (j := 8 * P + X) (by omega)
        refine Or.inr ⟨X, Y, q1, q2, q3, by rw [n43 X q3]; exact q4, by rw [n44 _ (by omega)]; exact q5, fun c' l' h1 h2 h3 => ?_⟩
        rw [n43 c' h1] at h2
        have l7 := ln60 a1 (j := 8 * P + c') (by omega)
        rw [n44 _ (by omega)]
        exact q6 c' l' h1 h2 h3
    · rw [b40, if_neg e] at h40
      have l43 : ∀ c', c' < 8 → (u.2 43 (8 * p + c')).toNatClampNeg ≤ 60 := fun c' hc => by
        obtain ⟨z1, z2, z3⟩ := nI_of_bw (a1.2.2.2.1 (8 * p + c') (by omega))
        have h60 : (60 : Int32).toInt = 60 := rfl
        omega
      rw [(o45 p i hp e hi).1, (o45 p i hp e hi).2]
      rcases a6 p hp h40 i hi with ⟨q1, q2⟩ | ⟨X, Y, q1, q2, q3, q4, q5, q6⟩
      · refine Or.inl ⟨q1, fun c' l' h1 h2 => ?_⟩
        rw [o43 p c' hp e h1] at h2
        have := l43 c' h1
        rw [o44 p _ hp e (by omega)]
        exact q2 c' l' h1 h2
      · have := l43 X q3
        refine Or.inr ⟨X, Y, q1, q2, q3, by rw [o43 p X hp e q3]; exact q4, by rw [o44 p _ hp e (by omega)]; exact q5, fun c' l' h1 h2 h3 => ?_⟩
        rw [o43 p c' hp e h1] at h2
        have := l43 c' h1
        rw [o44 p _ hp e (by omega)]
        exact q6 c' l' h1 h2 h3
  · rw [b2 4 (by omega)] at h4
    rw [b2 11 (by omega)]
    by_cases e : p = P
    · rw [e] at h45 ⊢
      rcases pl_new h0 hP hi (i2 i hi) with ⟨q1, -⟩ | ⟨X, Y, -, -, -, -, -, ⟨r, r1, r2⟩, -⟩
      · exact absurd q1 h45
      · by_cases q : i < (u.1 3).toNatClampNeg
        · rw [← r2]; exact (hX i q).2.2.2 h4 r r1
        · rw [g.2.2.2.2.1 i (by omega)] at r1
          exact absurd r1 List.not_mem_nil
    · rw [b40, if_neg e] at h40
      rw [(o45 p i hp e hi).1] at h45
      exact a7 p hp h40 i hi h4 h45
  · rw [e3] at hi1
    by_cases e : p = P
    · rw [e]
      have z := i2 i hi2
      have ept : ptN u i = 0 := by unfold ptN; rw [if_neg (by omega)]
      rw [ept] at z
      rcases z with ⟨z, -⟩ | ⟨k, -, z, -⟩
      · exact z
      · exact absurd z (Nat.not_lt_zero _)
    · rw [b40, if_neg e] at h40
      rw [(o45 p i hp e hi2).1]
      exact a8 p hp h40 i hi1 hi2
  · unfold foI at a9 ⊢
    rw [b1 38 (by decide) (by decide) (by decide), b2 47 (by omega), b2 48 (by omega)]; exact a9
theorem tg_nq {z : gS} {a b s t : Nat} (h : tg z a s) (h2 : tg z b t) (hn : s ≠ t) : a ≠ b := fun e => hn (by rw [← h.2, ← h2.2, e])
theorem d3_o {q : Nat → ClassId} {d : Nat → Nat} {u : mS} {z : gS} {f : xF} (h : rep q d u z f) : nO d z 3 5 := h.2.2.2.2.2.2.2.1
theorem takeIn_d3 {q : Nat → ClassId} {f f2 : xF} {a3 a0 pa fa wd nm : Nat} {p0 nu kd cn lz co : Int32} {gw : Nat → Int32} (h1 : a3 ≠ wd) (h2 : a3 ≠ a0) (hf : f2 = s_takeIn_f q f a0 pa fa wd nm p0 nu kd cn lz co gw) : f2 a3 = f a3 := by
  rw [hf]
  unfold s_takeIn_f
  split
  · rw [up_o h2, up_o h1]
  · rfl
theorem takeSize_d3 {q : Nat → ClassId} {f f2 : xF} {a3 a0 pa fa ww hh : Nat} {p0 p1 nu kd cn sn : Int32} {gw gh : Nat → Int32} (h1 : a3 ≠ ww) (h3 : a3 ≠ hh) (h2 : a3 ≠ a0) (hf : f2 = s_takeSize_f q f a0 pa fa ww hh p0 p1 nu kd cn sn gw gh) : f2 a3 = f a3 := by
  rw [hf]
  unfold s_takeSize_f
  split
  · rw [up_o h2, up_o h3, up_o h1]
  · rfl
set_option maxHeartbeats 4000000 in
set_option maxRecDepth 100000 in
theorem v_line (l : Launch) (dC : Nat → ClassId) (dI : Nat → Nat → Nat) (q : Nat → ClassId) (h0 : Nat) (d : Nat → Nat) (k : Nat → Int32) (z : gS) (f : xF) (hI : xI q h0 d k z f) (p0 p1 : Int32) (u : mS) (hrp : rep q d u z f) (hk0 : k 0 = u.1 3) (hk1 : k 1 = u.1 28) (hk2 : k 2 = u.1 38) (hk3 : k 3 = u.1 39) (hu : rI u) (sz : Nat) : Met l yX11_line wsX11_line ({ frames := 2, cells := 0, slots := 0, locals := 43 }) (va_Pc [.ref h0, .int p0, .int p1] (fun U => U.heap.size = sz ∧ PX dC dI (va_pl z.1 f) (xT q) U ∧ va_D (fun _ => True) (va_pl z.1 f))) (va_Qi (fun (r : Int32) (w : xU) => w.2.2 (d 3) = f (d 3) ∧ w.1 = k ∧ w.2.1 = z ∧ xI q h0 d k z w.2.2 ∧ r = (mLine u p0 p1).1 ∧ rep q d (mLine u p0 p1).2 z w.2.2) (fun (w : xU) t => va_P (dC, dI) vwCl (va_pl w.2.1.1 w.2.2) t.heap ∧ va_D (va_A (va_pl z.1 f) sz) (va_pl w.2.1.1 w.2.2)) (va_A (va_pl z.1 f) sz)) 0 0 (va_A (va_pl z.1 f) sz) := by
  refine Met.ofW (cc := cX11_line) (maxL := 5) (ret := (some .int)) (by decide) rfl ?_
  intro p e s m args below meth c s₁ B hml hv
  obtain ⟨rfl, hsz, ⟨⟨hP, hK, hN⟩, hXN⟩, hD0⟩ := hv
  have hx := B.exec
  have hb := B.bytes
  have hr := B.returns
  have hts := atoms_spec (ws := wsX11_line) B.pre
  have hown : s.vm.findClass RX11 = some m.cls := findClass_of_methodNamed B.named
  have hlocks := B.notSynchronized
  subst hsz
  have hD := hD0.self (sz := s.heap.size)
  generalize hAe : va_A (va_pl z.1 f) s.heap.size = A at hD ⊢
  have hA : ∀ q : Nat, s.heap.size ≤ q → A q := fun q h => by rw [← hAe]; exact Or.inr h
  have hS : va_S A s.heap s.heap [] := va_S.rf
  have hl := lv_entry ([.ref h0, .int p0, .int p1]) (n := 5) (Nat.le_of_ble_eq_true rfl)
  rw [lg_entry_eq]
  generalize (lg_sl ([.ref h0, .int p0, .int p1]) ++ List.replicate (5 - (lg_sl ([.ref h0, .int p0, .int p1])).length) Slot.unset).toArray = ls at hl ⊢
  have hl : lv_has ls 5 [(0, .ref h0), (1, .int p0), (2, .int p1)] := hl
  refine lv_aload_n hx hb dX11_line_0 rfl (lv_at hl 0 rfl) ?_
  refine lv_iload_n hx hb dX11_line_1 rfl (lv_at hl 1 rfl) ?_
  obtain ⟨kk_1, hk_2⟩ := pl_at hI.2.1.1.1 hI.2.2.2.1.1
  refine va_csq (va_runV (As := [.int p0]) (rest := []) ⟨hx, hb, hml, hown, hts⟩ (y_itemOf l dC dI q h0 d k z f hI p0 u hrp hk0 hk1 hk2 hk3) (cwV 1 hts gX11_line_X11_itemOf rfl rfl rfl (by decide +kernel) ⟨Nat.le_of_ble_eq_true rfl, Nat.le_of_ble_eq_true rfl⟩) ⟨px_fb, va_recv hK hP (ci := 10) (q0 := kk_1) rfl hk_2, fun U hU hW => ⟨rfl, px_to hU hW hP hK hN hXN⟩⟩ rfl rfl hl.1 rfl (lv_room (Nat.le_of_ble_eq_true rfl)) dX11_line_2 ⟨Nat.le_of_ble_eq_true rfl, Nat.le_of_ble_eq_true rfl⟩).run (fun r hw => ?_)
  rcases hw with ⟨hr9, hn9⟩ | ⟨i_3, hi_4, ep_5, hr9⟩
  ·
    subst hr9
    have hno_25 := hn9
    refine W.eq (g2 := F0 m 5 ls [.null]) rfl ?_
    refine lv_astoreN (lv' := [(4, .null), (0, .ref h0), (1, .int p0), (2, .int p1)]) hx hb dX11_line_5 hl (by decide) rfl (fun ls hl => ?_)
    refine lv_aloadN hx hb dX11_line_7 (lv_at hl 0 rfl) ?_
    refine lv_instN hx hb dX11_line_9 ?_
    refine lv_if_eq (tgt := 32) hx hb dX11_line_12 (by decide) (fun c_26 => ?_) (fun c_26 => absurd (by decide) c_26)
    refine lv_iconst (v := (-1)) hx hb dX11_line_32 (by decide) ?_
    exact W.iret (v := (-1)) hx hb hr (fun t ht hW => ⟨⟨(-1), (k, z, f), rfl, ⟨rfl, rfl, rfl, hI, by rw [line_n (mK_no hno_25)], by rw [line_n (mK_no hno_25)]; exact hrp⟩, by rw [ht]; exact hP, hD⟩, hS.F ht⟩) hS.2.2 dX11_line_33
  ·
    subst hr9
    obtain ⟨rs_6, n_7, g_8, fg_9, hit_10, hs_11, hpa_12, hps_13, h1_14, h6_15, hcb_16, hpl_17, hlg_18, hnn_19, hfa_20, hfs_21, hfe_22, hrs_23, hkt_24⟩ := it_all hI hrp.2.2.1 hi_4
    refine W.eq (g2 := F0 m 5 ls [.ref (d (2000 + i_3))]) rfl ?_
    refine lv_astore (lv' := [(4, .ref (d (2000 + i_3))), (0, .ref h0), (1, .int p0), (2, .int p1)]) hx hb dX11_line_5 hl (by decide) rfl (fun ls hl => ?_)
    refine lv_aload hx hb dX11_line_7 (lv_at hl 0 rfl) ?_
    rcases Classical.em (tg z (d (2000 + i_3)) 15) with ht9 | ht9
    ·
      have ht_27 := ht9
      have hkd_29 : u.2 4 i_3 = 0 := (kT_k (kd_05 hrp.2.2.1 hi_4).1 (kd_05 hrp.2.2.1 hi_4).2).1 (hkt_24.symm.trans ht_27.2)
      obtain ⟨hx_30, hx_31, hx_32, ⟨hx_33, hx_34, hx_35⟩, hx_36, hx_37, hx_38⟩ := hrs_23.1 hkd_29
      have hs_39 : f (d (2000 + i_3)) = .inr (9, [.int (nI i_3), .int (u.2 4 i_3), .ref (d (3000 + i_3)), .int (u.2 22 i_3), .ref (d (4000 + i_3)), .int (u.2 5 i_3), .ref (d (5000 + i_3)), .int (u.2 15 i_3), .ref (d (6000 + i_3))]) := by rw [hs_11, ht_27.2, hx_30]; rfl
      obtain ⟨kk_50, hk_51⟩ := pl_at ht_27.1 hs_39
      refine va_instS hx hb hown (hts (.classLink RX11 66 "PageOne$Story") (by decide +kernel)) (hK.1 9 (RX10, TX10, 9) rfl).2 (va_recv hK hP (ci := 9) (q0 := kk_50) rfl hk_51) dX11_line_9 ?_
      refine lv_if_eq (tgt := 32) hx hb dX11_line_12 (by decide) (fun c_52 => absurd c_52 (by decide)) (fun c_52 => ?_)
      refine lv_aload hx hb dX11_line_15 (lv_at hl 0 rfl) ?_
      obtain ⟨kk_53, hk_54⟩ := pl_at ht_27.1 hs_39
      refine va_castS hx hb hown (hts (.classLink RX11 66 "PageOne$Story") (by decide +kernel)) (hK.1 9 (RX10, TX10, 9) rfl).2 (va_recv hK hP (ci := 9) (q0 := kk_53) rfl hk_54) dX11_line_17 ?_
      refine lv_astore_n (lv' := [(3, .ref (d (2000 + i_3))), (4, .ref (d (2000 + i_3))), (0, .ref h0), (1, .int p0), (2, .int p1)]) hx hb dX11_line_20 rfl hl (by decide) rfl (fun ls hl => ?_)
      refine lv_iload_n hx hb dX11_line_21 rfl (lv_at hl 4 rfl) ?_
      refine lv_iconst (v := 1) hx hb dX11_line_22 (by decide) ?_
      refine lv_sipush (v := 200) hx hb dX11_line_23 (by decide) ?_
      refine vp_callSi (va_runS (As := [.int p1, .int 1, .int 200]) (rest := []) ⟨hx, hb, hml, hown, hts⟩ (x_isWithin l dC dI p1 1 200) (va_cwS 3 hts gX11_line_X11_isWithin rfl rfl rfl (by decide +kernel) ⟨Nat.le_of_ble_eq_true rfl, Nat.le_of_ble_eq_true rfl⟩) ⟨pw_fb, fun U hU hW => ⟨rfl, pw_to hU hW (hP.sub (ws' := []) [] rfl) (hK.sub (tys' := []) [] rfl) hN⟩⟩ rfl rfl hl.1 rfl (lv_room (Nat.le_of_ble_eq_true rfl)) dX11_line_26 ⟨Nat.le_of_ble_eq_true rfl, Nat.le_of_ble_eq_true rfl⟩).run (fun r hw => ?_)
      rcases Bool.eq_false_or_eq_true (bw p1 1 200) with b_55 | b_55
      ·
        obtain rfl : r = 1 := b_t hw b_55
        refine lv_if_ne (tgt := 34) hx hb dX11_line_29 (by decide) (fun c_56 => ?_) (fun c_56 => absurd c_56 (by decide))
        refine lv_aload_n hx hb dX11_line_34 rfl (lv_at hl 0 rfl) ?_
        refine lv_iload_n hx hb dX11_line_35 rfl (lv_at hl 4 rfl) ?_
        obtain ⟨kk_57, hk_58⟩ := pl_at ht_27.1 hs_39
        have hFc := fr_all hD hS hA
        refine va_calli (va_runV (As := [.int p1]) (rest := []) ⟨hx, hb, hml, hown, hts⟩ (y_takeIn l dC dI q h0 d k z f hI (d (2000 + i_3)) (d (3000 + i_3)) (d (4000 + i_3)) (d (5000 + i_3)) (d (6000 + i_3)) (nI i_3) (u.2 4 i_3) (u.2 22 i_3) (u.2 5 i_3) (u.2 15 i_3) ht_27 hs_39 p1 hx_33 hx_31.1 hx_34 hx_32.1 hpa_12 hfa_20 (hu.2.2.2.2.1 i_3 (bw_it hu.1 hi_4).2) s.heap.size) (cwV 1 hts gX11_line_X10_takeIn rfl rfl rfl (by decide +kernel) ⟨Nat.le_of_ble_eq_true rfl, Nat.le_of_ble_eq_true rfl⟩) ⟨gx_fb, va_recv hK hP (ci := 9) (q0 := kk_57) rfl hk_58, fun U hU hW => ⟨rfl, by rw [hU], px_to hU hW hP hK hN hXN, hD.weaken (fun _ _ _ _ => trivial)⟩⟩ rfl rfl hl.1 rfl (lv_room (Nat.le_of_ble_eq_true rfl)) dX11_line_36 ⟨Nat.le_of_ble_eq_true rfl, Nat.le_of_ble_eq_true rfl⟩) hS (fun q _ h => hFc q h) hFc (fun r w_59 t H1 locs ht hvm hw hB hz1 hk1 hS => ?_)
        obtain ⟨hP, hD1⟩ := hB
        rw [ht] at hP
        rw [hw.2.1] at hP hD1
        have hD := hD1.weaken (fun _ q _ h => hFc q.1 h)
        have hI := hw.2.2.1
        have hw0 := hw
        generalize w_59.2.2 = f_60 at hP hD hI hw0
        generalize H1 = H at hP hS ⊢
        generalize r = zr_61 at hw hw0 ⊢
        exact W.iret (v := zr_61) hx hb hr (fun t ht hW => ⟨⟨zr_61, (k, z, f_60), rfl, ⟨(takeIn_d3 (nO_ne (d3_o hrp) hx_31 (by omega)) (nO_ne (d3_o hrp) (hrp.2.2.1.2 _ hi_4).1 (by omega)) hw0.2.2.2.2), rfl, rfl, hI, by rw [ep_5]; exact line_y hrp hu hi_4 hkd_29 b_55 hx_34 hw0.2.2.2.1 hw0.2.2.2.2⟩, by rw [ht]; exact hP, hD⟩, hS.F ht⟩) hS.2.2 dX11_line_39
      ·
        obtain rfl : r = 0 := b_f hw b_55
        refine lv_if_ne (tgt := 34) hx hb dX11_line_29 (by decide) (fun c_62 => absurd (by decide) c_62) (fun c_62 => ?_)
        refine lv_iconst (v := (-1)) hx hb dX11_line_32 (by decide) ?_
        exact W.iret (v := (-1)) hx hb hr (fun t ht hW => ⟨⟨(-1), (k, z, f), rfl, ⟨rfl, rfl, rfl, hI, by rw [(line_x (bne b_55))], by rw [(line_x (bne b_55))]; exact hrp⟩, by rw [ht]; exact hP, hD⟩, hS.F ht⟩) hS.2.2 dX11_line_33
    ·
      have hn_28 := ht9
      have hkd_29 : ¬ u.2 4 i_3 = 0 := fun e9 => ht9 ⟨hit_10.1, by rw [hkt_24, e9]; rfl⟩
      refine w_then (F0 m 12 ls [.int 0]) (fun hgo => ?_) ?_
      ·
        rcases x_tag hit_10 with ht8 | ht8 | ht8 | ht8 | ht8 | ht8
        ·
          obtain ⟨nu_63, kd_64, cn_65, pa_66, fa_67, l_68, m_69, hs_70, hs_71, hs_72, hs_73⟩ := x_ifl hI ht8
          obtain ⟨kk_74, hk_75⟩ := pl_at ht8.1 hs_70
          exact va_instNo hx hb hown (hts (.classLink RX11 66 "PageOne$Story") (by decide +kernel)) hXN.n_X2_X10 (va_recv hK hP (ci := 2) (q0 := kk_74) rfl hk_75) dX11_line_9 hgo
        ·
          obtain ⟨nu_76, kd_77, cn_78, pa_79, fa_80, o_81, w_82, y_83, hs_84, hs_85, hs_86, hs_87, hq_88⟩ := x_ihd hI ht8
          obtain ⟨kk_89, hk_90⟩ := pl_at ht8.1 hs_84
          exact va_instNo hx hb hown (hts (.classLink RX11 66 "PageOne$Story") (by decide +kernel)) hXN.n_X3_X10 (va_recv hK hP (ci := 3) (q0 := kk_89) rfl hk_90) dX11_line_9 hgo
        ·
          obtain ⟨nu_91, kd_92, cn_93, pa_94, fa_95, o_96, y_97, hs_98, hs_99, hs_100, hs_101, hq_102⟩ := x_ino hI ht8
          obtain ⟨kk_103, hk_104⟩ := pl_at ht8.1 hs_98
          exact va_instNo hx hb hown (hts (.classLink RX11 66 "PageOne$Story") (by decide +kernel)) hXN.n_X5_X10 (va_recv hK hP (ci := 4) (q0 := kk_103) rfl hk_104) dX11_line_9 hgo
        ·
          obtain ⟨nu_105, kd_106, cn_107, pa_108, fa_109, b_110, pr_111, sp_112, dy_113, hs_114, hs_115, hs_116, hs_117, hq_118, hq_119, hq_120⟩ := x_ipd hI ht8
          obtain ⟨kk_121, hk_122⟩ := pl_at ht8.1 hs_114
          exact va_instNo hx hb hown (hts (.classLink RX11 66 "PageOne$Story") (by decide +kernel)) hXN.n_X6_X10 (va_recv hK hP (ci := 5) (q0 := kk_121) rfl hk_122) dX11_line_9 hgo
        ·
          obtain ⟨nu_123, kd_124, cn_125, pa_126, fa_127, ww_128, hh_129, sz_130, hs_131, hs_132, hs_133, hs_134, hq_135, hq_136, hq_137⟩ := x_ipi hI ht8
          obtain ⟨kk_138, hk_139⟩ := pl_at ht8.1 hs_131
          exact va_instNo hx hb hown (hts (.classLink RX11 66 "PageOne$Story") (by decide +kernel)) hXN.n_X7_X10 (va_recv hK hP (ci := 6) (q0 := kk_138) rfl hk_139) dX11_line_9 hgo
        ·
          exact absurd ht8 ht9
      ·
        refine lv_if_eq (tgt := 32) hx hb dX11_line_12 (by decide) (fun c_140 => ?_) (fun c_140 => absurd (by decide) c_140)
        refine lv_iconst (v := (-1)) hx hb dX11_line_32 (by decide) ?_
        exact W.iret (v := (-1)) hx hb hr (fun t ht hW => ⟨⟨(-1), (k, z, f), rfl, ⟨rfl, rfl, rfl, hI, by rw [(line_n (by rw [ep_5, mK_it hu.1 hi_4]; exact decide_eq_false hkd_29))], by rw [(line_n (by rw [ep_5, mK_it hu.1 hi_4]; exact decide_eq_false hkd_29))]; exact hrp⟩, by rw [ht]; exact hP, hD⟩, hS.F ht⟩) hS.2.2 dX11_line_33
set_option maxHeartbeats 4000000 in
set_option maxRecDepth 100000 in
theorem v_size (l : Launch) (dC : Nat → ClassId) (dI : Nat → Nat → Nat) (q : Nat → ClassId) (h0 : Nat) (d : Nat → Nat) (k : Nat → Int32) (z : gS) (f : xF) (hI : xI q h0 d k z f) (p0 p1 p2 : Int32) (u : mS) (hrp : rep q d u z f) (hk0 : k 0 = u.1 3) (hk1 : k 1 = u.1 28) (hk2 : k 2 = u.1 38) (hk3 : k 3 = u.1 39) (hu : rI u) (sz : Nat) : Met l yX11_size wsX11_size ({ frames := 2, cells := 0, slots := 0, locals := 43 }) (va_Pc [.ref h0, .int p0, .int p1, .int p2] (fun U => U.heap.size = sz ∧ PX dC dI (va_pl z.1 f) (xT q) U ∧ va_D (fun _ => True) (va_pl z.1 f))) (va_Qi (fun (r : Int32) (w : xU) => w.2.2 (d 3) = f (d 3) ∧ w.1 = k ∧ w.2.1 = z ∧ xI q h0 d k z w.2.2 ∧ r = (mSize u p0 p1 p2).1 ∧ rep q d (mSize u p0 p1 p2).2 z w.2.2) (fun (w : xU) t => va_P (dC, dI) vwCl (va_pl w.2.1.1 w.2.2) t.heap ∧ va_D (va_A (va_pl z.1 f) sz) (va_pl w.2.1.1 w.2.2)) (va_A (va_pl z.1 f) sz)) 0 0 (va_A (va_pl z.1 f) sz) := by
  refine Met.ofW (cc := cX11_size) (maxL := 6) (ret := (some .int)) (by decide) rfl ?_
  intro p e s m args below meth c s₁ B hml hv
  obtain ⟨rfl, hsz, ⟨⟨hP, hK, hN⟩, hXN⟩, hD0⟩ := hv
  have hx := B.exec
  have hb := B.bytes
  have hr := B.returns
  have hts := atoms_spec (ws := wsX11_size) B.pre
  have hown : s.vm.findClass RX11 = some m.cls := findClass_of_methodNamed B.named
  have hlocks := B.notSynchronized
  subst hsz
  have hD := hD0.self (sz := s.heap.size)
  generalize hAe : va_A (va_pl z.1 f) s.heap.size = A at hD ⊢
  have hA : ∀ q : Nat, s.heap.size ≤ q → A q := fun q h => by rw [← hAe]; exact Or.inr h
  have hS : va_S A s.heap s.heap [] := va_S.rf
  have hl := lv_entry ([.ref h0, .int p0, .int p1, .int p2]) (n := 6) (Nat.le_of_ble_eq_true rfl)
  rw [lg_entry_eq]
  generalize (lg_sl ([.ref h0, .int p0, .int p1, .int p2]) ++ List.replicate (6 - (lg_sl ([.ref h0, .int p0, .int p1, .int p2])).length) Slot.unset).toArray = ls at hl ⊢
  have hl : lv_has ls 6 [(0, .ref h0), (1, .int p0), (2, .int p1), (3, .int p2)] := hl
  refine lv_aload_n hx hb dX11_size_0 rfl (lv_at hl 0 rfl) ?_
  refine lv_iload_n hx hb dX11_size_1 rfl (lv_at hl 1 rfl) ?_
  obtain ⟨kk_1, hk_2⟩ := pl_at hI.2.1.1.1 hI.2.2.2.1.1
  refine va_csq (va_runV (As := [.int p0]) (rest := []) ⟨hx, hb, hml, hown, hts⟩ (y_itemOf l dC dI q h0 d k z f hI p0 u hrp hk0 hk1 hk2 hk3) (cwV 1 hts gX11_size_X11_itemOf rfl rfl rfl (by decide +kernel) ⟨Nat.le_of_ble_eq_true rfl, Nat.le_of_ble_eq_true rfl⟩) ⟨px_fb, va_recv hK hP (ci := 10) (q0 := kk_1) rfl hk_2, fun U hU hW => ⟨rfl, px_to hU hW hP hK hN hXN⟩⟩ rfl rfl hl.1 rfl (lv_room (Nat.le_of_ble_eq_true rfl)) dX11_size_2 ⟨Nat.le_of_ble_eq_true rfl, Nat.le_of_ble_eq_true rfl⟩).run (fun r hw => ?_)
  rcases hw with ⟨hr9, hn9⟩ | ⟨i_3, hi_4, ep_5, hr9⟩
  ·
    subst hr9
    have hno_25 := hn9
    refine W.eq (g2 := F0 m 5 ls [.null]) rfl ?_
    refine lv_astoreN (lv' := [(5, .null), (0, .ref h0), (1, .int p0), (2, .int p1), (3, .int p2)]) hx hb dX11_size_5 hl (by decide) rfl (fun ls hl => ?_)
    refine lv_aloadN hx hb dX11_size_7 (lv_at hl 0 rfl) ?_
    refine lv_instN hx hb dX11_size_9 ?_
    refine lv_if_eq (tgt := 30) hx hb dX11_size_12 (by decide) (fun c_26 => ?_) (fun c_26 => absurd (by decide) c_26)
    refine lv_iconst (v := (-1)) hx hb dX11_size_30 (by decide) ?_
    exact W.iret (v := (-1)) hx hb hr (fun t ht hW => ⟨⟨(-1), (k, z, f), rfl, ⟨rfl, rfl, rfl, hI, by rw [size_n (mK_no hno_25)], by rw [size_n (mK_no hno_25)]; exact hrp⟩, by rw [ht]; exact hP, hD⟩, hS.F ht⟩) hS.2.2 dX11_size_31
  ·
    subst hr9
    obtain ⟨rs_6, n_7, g_8, fg_9, hit_10, hs_11, hpa_12, hps_13, h1_14, h6_15, hcb_16, hpl_17, hlg_18, hnn_19, hfa_20, hfs_21, hfe_22, hrs_23, hkt_24⟩ := it_all hI hrp.2.2.1 hi_4
    refine W.eq (g2 := F0 m 5 ls [.ref (d (2000 + i_3))]) rfl ?_
    refine lv_astore (lv' := [(5, .ref (d (2000 + i_3))), (0, .ref h0), (1, .int p0), (2, .int p1), (3, .int p2)]) hx hb dX11_size_5 hl (by decide) rfl (fun ls hl => ?_)
    refine lv_aload hx hb dX11_size_7 (lv_at hl 0 rfl) ?_
    rcases Classical.em (tg z (d (2000 + i_3)) 14) with ht9 | ht9
    ·
      have ht_27 := ht9
      have hkd_29 : u.2 4 i_3 = 2 := (kT_k (kd_05 hrp.2.2.1 hi_4).1 (kd_05 hrp.2.2.1 hi_4).2).2.2.1 (hkt_24.symm.trans ht_27.2)
      obtain ⟨hx_30, hx_31, hx_32, ⟨hx_33, hx_34, hx_35⟩, hx_36, hx_37, hx_38⟩ := hrs_23.2.2.1 hkd_29
      have hs_39 : f (d (2000 + i_3)) = .inr (6, [.int (nI i_3), .int (u.2 4 i_3), .ref (d (3000 + i_3)), .int (u.2 22 i_3), .ref (d (4000 + i_3)), .ref (d (5000 + i_3)), .ref (d (6000 + i_3)), .int (u.2 17 i_3)]) := by rw [hs_11, ht_27.2, hx_30]; rfl
      obtain ⟨kk_50, hk_51⟩ := pl_at ht_27.1 hs_39
      refine va_instS hx hb hown (hts (.classLink RX11 88 "PageOne$Picture") (by decide +kernel)) (hK.1 6 (RX7, TX7, 8) rfl).2 (va_recv hK hP (ci := 6) (q0 := kk_50) rfl hk_51) dX11_size_9 ?_
      refine lv_if_eq (tgt := 30) hx hb dX11_size_12 (by decide) (fun c_52 => absurd c_52 (by decide)) (fun c_52 => ?_)
      refine lv_aload hx hb dX11_size_15 (lv_at hl 0 rfl) ?_
      obtain ⟨kk_53, hk_54⟩ := pl_at ht_27.1 hs_39
      refine va_castS hx hb hown (hts (.classLink RX11 88 "PageOne$Picture") (by decide +kernel)) (hK.1 6 (RX7, TX7, 8) rfl).2 (va_recv hK hP (ci := 6) (q0 := kk_53) rfl hk_54) dX11_size_17 ?_
      refine lv_astore (lv' := [(4, .ref (d (2000 + i_3))), (5, .ref (d (2000 + i_3))), (0, .ref h0), (1, .int p0), (2, .int p1), (3, .int p2)]) hx hb dX11_size_20 hl (by decide) rfl (fun ls hl => ?_)
      refine lv_iload_n hx hb dX11_size_22 rfl (lv_at hl 4 rfl) ?_
      refine lv_iload_n hx hb dX11_size_23 rfl (lv_at hl 5 rfl) ?_
      refine vp_callSi (va_runS (As := [.int p1, .int p2]) (rest := []) ⟨hx, hb, hml, hown, hts⟩ (x_isSquare l dC dI p1 p2) (va_cwS 2 hts gX11_size_X11_isSquare rfl rfl rfl (by decide +kernel) ⟨Nat.le_of_ble_eq_true rfl, Nat.le_of_ble_eq_true rfl⟩) ⟨pw_fb, fun U hU hW => ⟨rfl, pw_to hU hW (hP.sub (ws' := []) [] rfl) (hK.sub (tys' := []) [] rfl) hN⟩⟩ rfl rfl hl.1 rfl (lv_room (Nat.le_of_ble_eq_true rfl)) dX11_size_24 ⟨Nat.le_of_ble_eq_true rfl, Nat.le_of_ble_eq_true rfl⟩).run (fun r hw => ?_)
      rcases Bool.eq_false_or_eq_true ((bw p1 1 8 && bw p2 1 60)) with b_55 | b_55
      ·
        obtain rfl : r = 1 := b_t hw b_55
        refine lv_if_ne (tgt := 32) hx hb dX11_size_27 (by decide) (fun c_56 => ?_) (fun c_56 => absurd c_56 (by decide))
        refine lv_aload hx hb dX11_size_32 (lv_at hl 0 rfl) ?_
        refine lv_iload_n hx hb dX11_size_34 rfl (lv_at hl 4 rfl) ?_
        refine lv_iload_n hx hb dX11_size_35 rfl (lv_at hl 5 rfl) ?_
        obtain ⟨kk_57, hk_58⟩ := pl_at ht_27.1 hs_39
        have hFc := fr_all hD hS hA
        refine va_calli (va_runV (As := [.int p1, .int p2]) (rest := []) ⟨hx, hb, hml, hown, hts⟩ (y_takeSize l dC dI q h0 d k z f hI (d (2000 + i_3)) (d (3000 + i_3)) (d (4000 + i_3)) (d (5000 + i_3)) (d (6000 + i_3)) (nI i_3) (u.2 4 i_3) (u.2 22 i_3) (u.2 17 i_3) ht_27 hs_39 p1 p2 hx_33 hx_36 hx_31.1 hx_34 hx_32.1 hx_37 hpa_12 hfa_20 (hu.2.2.2.2.2.1 i_3 (bw_it hu.1 hi_4).2) (nO_ne hx_31 hx_32 (by omega)) s.heap.size) (cwV 2 hts gX11_size_X7_takeSize rfl rfl rfl (by decide +kernel) ⟨Nat.le_of_ble_eq_true rfl, Nat.le_of_ble_eq_true rfl⟩) ⟨gx_fb, va_recv hK hP (ci := 6) (q0 := kk_57) rfl hk_58, fun U hU hW => ⟨rfl, by rw [hU], px_to hU hW hP hK hN hXN, hD.weaken (fun _ _ _ _ => trivial)⟩⟩ rfl rfl hl.1 rfl (lv_room (Nat.le_of_ble_eq_true rfl)) dX11_size_36 ⟨Nat.le_of_ble_eq_true rfl, Nat.le_of_ble_eq_true rfl⟩) hS (fun q _ h => hFc q h) hFc (fun r w_59 t H1 locs ht hvm hw hB hz1 hk1 hS => ?_)
        obtain ⟨hP, hD1⟩ := hB
        rw [ht] at hP
        rw [hw.2.1] at hP hD1
        have hD := hD1.weaken (fun _ q _ h => hFc q.1 h)
        have hI := hw.2.2.1
        have hw0 := hw
        generalize w_59.2.2 = f_60 at hP hD hI hw0
        generalize H1 = H at hP hS ⊢
        generalize r = zr_61 at hw hw0 ⊢
        exact W.iret (v := zr_61) hx hb hr (fun t ht hW => ⟨⟨zr_61, (k, z, f_60), rfl, ⟨(takeSize_d3 (nO_ne (d3_o hrp) hx_31 (by omega)) (nO_ne (d3_o hrp) hx_32 (by omega)) (nO_ne (d3_o hrp) (hrp.2.2.1.2 _ hi_4).1 (by omega)) hw0.2.2.2.2), rfl, rfl, hI, by rw [ep_5]; exact size_y hrp hu hi_4 hkd_29 (Bool.and_eq_true _ _ ▸ b_55).1 (Bool.and_eq_true _ _ ▸ b_55).2 hx_34 hx_37 hw0.2.2.2.1 hw0.2.2.2.2⟩, by rw [ht]; exact hP, hD⟩, hS.F ht⟩) hS.2.2 dX11_size_39
      ·
        obtain rfl : r = 0 := b_f hw b_55
        refine lv_if_ne (tgt := 32) hx hb dX11_size_27 (by decide) (fun c_62 => absurd (by decide) c_62) (fun c_62 => ?_)
        refine lv_iconst (v := (-1)) hx hb dX11_size_30 (by decide) ?_
        exact W.iret (v := (-1)) hx hb hr (fun t ht hW => ⟨⟨(-1), (k, z, f), rfl, ⟨rfl, rfl, rfl, hI, by rw [(size_x (fun e9 => absurd (by rw [Bool.and_eq_true]; exact e9) (bne b_55)))], by rw [(size_x (fun e9 => absurd (by rw [Bool.and_eq_true]; exact e9) (bne b_55)))]; exact hrp⟩, by rw [ht]; exact hP, hD⟩, hS.F ht⟩) hS.2.2 dX11_size_31
    ·
      have hn_28 := ht9
      have hkd_29 : ¬ u.2 4 i_3 = 2 := fun e9 => ht9 ⟨hit_10.1, by rw [hkt_24, e9]; rfl⟩
      refine w_then (F0 m 12 ls [.int 0]) (fun hgo => ?_) ?_
      ·
        rcases x_tag hit_10 with ht8 | ht8 | ht8 | ht8 | ht8 | ht8
        ·
          obtain ⟨nu_63, kd_64, cn_65, pa_66, fa_67, l_68, m_69, hs_70, hs_71, hs_72, hs_73⟩ := x_ifl hI ht8
          obtain ⟨kk_74, hk_75⟩ := pl_at ht8.1 hs_70
          exact va_instNo hx hb hown (hts (.classLink RX11 88 "PageOne$Picture") (by decide +kernel)) hXN.n_X2_X7 (va_recv hK hP (ci := 2) (q0 := kk_74) rfl hk_75) dX11_size_9 hgo
        ·
          obtain ⟨nu_76, kd_77, cn_78, pa_79, fa_80, o_81, w_82, y_83, hs_84, hs_85, hs_86, hs_87, hq_88⟩ := x_ihd hI ht8
          obtain ⟨kk_89, hk_90⟩ := pl_at ht8.1 hs_84
          exact va_instNo hx hb hown (hts (.classLink RX11 88 "PageOne$Picture") (by decide +kernel)) hXN.n_X3_X7 (va_recv hK hP (ci := 3) (q0 := kk_89) rfl hk_90) dX11_size_9 hgo
        ·
          obtain ⟨nu_91, kd_92, cn_93, pa_94, fa_95, o_96, y_97, hs_98, hs_99, hs_100, hs_101, hq_102⟩ := x_ino hI ht8
          obtain ⟨kk_103, hk_104⟩ := pl_at ht8.1 hs_98
          exact va_instNo hx hb hown (hts (.classLink RX11 88 "PageOne$Picture") (by decide +kernel)) hXN.n_X5_X7 (va_recv hK hP (ci := 4) (q0 := kk_103) rfl hk_104) dX11_size_9 hgo
        ·
          obtain ⟨nu_105, kd_106, cn_107, pa_108, fa_109, b_110, pr_111, sp_112, dy_113, hs_114, hs_115, hs_116, hs_117, hq_118, hq_119, hq_120⟩ := x_ipd hI ht8
          obtain ⟨kk_121, hk_122⟩ := pl_at ht8.1 hs_114
          exact va_instNo hx hb hown (hts (.classLink RX11 88 "PageOne$Picture") (by decide +kernel)) hXN.n_X6_X7 (va_recv hK hP (ci := 5) (q0 := kk_121) rfl hk_122) dX11_size_9 hgo
        ·
          exact absurd ht8 ht9
        ·
          obtain ⟨nu_123, kd_124, cn_125, pa_126, fa_127, l_128, co_129, wd_130, nm_131, hs_132, hs_133, hs_134, hs_135, hq_136, hq_137, hq_138⟩ := x_ist hI ht8
          obtain ⟨kk_139, hk_140⟩ := pl_at ht8.1 hs_132
          exact va_instNo hx hb hown (hts (.classLink RX11 88 "PageOne$Picture") (by decide +kernel)) hXN.n_X10_X7 (va_recv hK hP (ci := 9) (q0 := kk_139) rfl hk_140) dX11_size_9 hgo
      ·
        refine lv_if_eq (tgt := 30) hx hb dX11_size_12 (by decide) (fun c_141 => ?_) (fun c_141 => absurd (by decide) c_141)
        refine lv_iconst (v := (-1)) hx hb dX11_size_30 (by decide) ?_
        exact W.iret (v := (-1)) hx hb hr (fun t ht hW => ⟨⟨(-1), (k, z, f), rfl, ⟨rfl, rfl, rfl, hI, by rw [(size_n (by rw [ep_5, mK_it hu.1 hi_4]; exact decide_eq_false hkd_29))], by rw [(size_n (by rw [ep_5, mK_it hu.1 hi_4]; exact decide_eq_false hkd_29))]; exact hrp⟩, by rw [ht]; exact hP, hD⟩, hS.F ht⟩) hS.2.2 dX11_size_31
set_option maxHeartbeats 4000000 in
set_option maxRecDepth 100000 in
theorem v_names (l : Launch) (dC : Nat → ClassId) (dI : Nat → Nat → Nat) (q : Nat → ClassId) (h0 : Nat) (d : Nat → Nat) (k : Nat → Int32) (z : gS) (f : xF) (hI : xI q h0 d k z f) (p0 p1 : Int32) (u : mS) (hrp : rep q d u z f) (hk0 : k 0 = u.1 3) (hk1 : k 1 = u.1 28) (hk2 : k 2 = u.1 38) (hk3 : k 3 = u.1 39) (hu : rI u) (sz : Nat) : Met l yX11_names wsX11_names ({ frames := 2, cells := 0, slots := 0, locals := 43 }) (va_Pc [.ref h0, .int p0, .int p1] (fun U => U.heap.size = sz ∧ PX dC dI (va_pl z.1 f) (xT q) U ∧ va_D (fun _ => True) (va_pl z.1 f))) (va_Qi (fun (r : Int32) (w : xU) => w.2.2 (d 3) = f (d 3) ∧ w.1 = k ∧ w.2.1 = z ∧ xI q h0 d k z w.2.2 ∧ r = (mNames u p0 p1).1 ∧ rep q d (mNames u p0 p1).2 z w.2.2) (fun (w : xU) t => va_P (dC, dI) vwCl (va_pl w.2.1.1 w.2.2) t.heap ∧ va_D (va_A (va_pl z.1 f) sz) (va_pl w.2.1.1 w.2.2)) (va_A (va_pl z.1 f) sz)) 0 0 (va_A (va_pl z.1 f) sz) := by
  refine Met.ofW (cc := cX11_names) (maxL := 5) (ret := (some .boolean)) (by decide) rfl ?_
  intro p e s m args below meth c s₁ B hml hv
  obtain ⟨rfl, hsz, ⟨⟨hP, hK, hN⟩, hXN⟩, hD0⟩ := hv
  have hx := B.exec
  have hb := B.bytes
  have hr := B.returns
  have hts := atoms_spec (ws := wsX11_names) B.pre
  have hown : s.vm.findClass RX11 = some m.cls := findClass_of_methodNamed B.named
  have hlocks := B.notSynchronized
  subst hsz
  have hD := hD0.self (sz := s.heap.size)
  generalize hAe : va_A (va_pl z.1 f) s.heap.size = A at hD ⊢
  have hA : ∀ q : Nat, s.heap.size ≤ q → A q := fun q h => by rw [← hAe]; exact Or.inr h
  have hS : va_S A s.heap s.heap [] := va_S.rf
  have hl := lv_entry ([.ref h0, .int p0, .int p1]) (n := 5) (Nat.le_of_ble_eq_true rfl)
  rw [lg_entry_eq]
  generalize (lg_sl ([.ref h0, .int p0, .int p1]) ++ List.replicate (5 - (lg_sl ([.ref h0, .int p0, .int p1])).length) Slot.unset).toArray = ls at hl ⊢
  have hl : lv_has ls 5 [(0, .ref h0), (1, .int p0), (2, .int p1)] := hl
  refine lv_aload_n hx hb dX11_names_0 rfl (lv_at hl 0 rfl) ?_
  refine lv_iload_n hx hb dX11_names_1 rfl (lv_at hl 1 rfl) ?_
  obtain ⟨kk_1, hk_2⟩ := pl_at hI.2.1.1.1 hI.2.2.2.1.1
  refine va_csq (va_runV (As := [.int p0]) (rest := []) ⟨hx, hb, hml, hown, hts⟩ (y_itemOf l dC dI q h0 d k z f hI p0 u hrp hk0 hk1 hk2 hk3) (cwV 1 hts gX11_names_X11_itemOf rfl rfl rfl (by decide +kernel) ⟨Nat.le_of_ble_eq_true rfl, Nat.le_of_ble_eq_true rfl⟩) ⟨px_fb, va_recv hK hP (ci := 10) (q0 := kk_1) rfl hk_2, fun U hU hW => ⟨rfl, px_to hU hW hP hK hN hXN⟩⟩ rfl rfl hl.1 rfl (lv_room (Nat.le_of_ble_eq_true rfl)) dX11_names_2 ⟨Nat.le_of_ble_eq_true rfl, Nat.le_of_ble_eq_true rfl⟩).run (fun r hw => ?_)
  rcases hw with ⟨hr9, hn9⟩ | ⟨i_3, hi_4, ep_5, hr9⟩
  ·
    subst hr9
    have hno_25 := hn9
    refine W.eq (g2 := F0 m 5 ls [.null]) rfl ?_
    refine lv_astoreN (lv' := [(4, .null), (0, .ref h0), (1, .int p0), (2, .int p1)]) hx hb dX11_names_5 hl (by decide) rfl (fun ls hl => ?_)
    refine lv_aloadN hx hb dX11_names_7 (lv_at hl 0 rfl) ?_
    refine lv_instN hx hb dX11_names_9 ?_
    refine lv_if_eq (tgt := 37) hx hb dX11_names_12 (by decide) (fun c_26 => ?_) (fun c_26 => absurd (by decide) c_26)
    refine lv_iconst (v := 0) hx hb dX11_names_37 (by decide) ?_
    exact W.zret (v := 0) hx hb hr (by decide) (fun t ht hW => ⟨⟨0, (k, z, f), rfl, ⟨rfl, rfl, rfl, hI, by rw [names_n (mK_no hno_25)], by rw [names_n (mK_no hno_25)]; exact hrp⟩, by rw [ht]; exact hP, hD⟩, hS.F ht⟩) hS.2.2 dX11_names_38
  ·
    subst hr9
    obtain ⟨rs_6, n_7, g_8, fg_9, hit_10, hs_11, hpa_12, hps_13, h1_14, h6_15, hcb_16, hpl_17, hlg_18, hnn_19, hfa_20, hfs_21, hfe_22, hrs_23, hkt_24⟩ := it_all hI hrp.2.2.1 hi_4
    refine W.eq (g2 := F0 m 5 ls [.ref (d (2000 + i_3))]) rfl ?_
    refine lv_astore (lv' := [(4, .ref (d (2000 + i_3))), (0, .ref h0), (1, .int p0), (2, .int p1)]) hx hb dX11_names_5 hl (by decide) rfl (fun ls hl => ?_)
    refine lv_aload hx hb dX11_names_7 (lv_at hl 0 rfl) ?_
    rcases Classical.em (tg z (d (2000 + i_3)) 15) with ht9 | ht9
    ·
      have ht_27 := ht9
      have hkd_29 : u.2 4 i_3 = 0 := (kT_k (kd_05 hrp.2.2.1 hi_4).1 (kd_05 hrp.2.2.1 hi_4).2).1 (hkt_24.symm.trans ht_27.2)
      obtain ⟨hx_30, hx_31, hx_32, ⟨hx_33, hx_34, hx_35⟩, hx_36, hx_37, hx_38⟩ := hrs_23.1 hkd_29
      have hs_39 : f (d (2000 + i_3)) = .inr (9, [.int (nI i_3), .int (u.2 4 i_3), .ref (d (3000 + i_3)), .int (u.2 22 i_3), .ref (d (4000 + i_3)), .int (u.2 5 i_3), .ref (d (5000 + i_3)), .int (u.2 15 i_3), .ref (d (6000 + i_3))]) := by rw [hs_11, ht_27.2, hx_30]; rfl
      obtain ⟨kk_50, hk_51⟩ := pl_at ht_27.1 hs_39
      refine va_instS hx hb hown (hts (.classLink RX11 66 "PageOne$Story") (by decide +kernel)) (hK.1 9 (RX10, TX10, 9) rfl).2 (va_recv hK hP (ci := 9) (q0 := kk_50) rfl hk_51) dX11_names_9 ?_
      refine lv_if_eq (tgt := 37) hx hb dX11_names_12 (by decide) (fun c_52 => absurd c_52 (by decide)) (fun c_52 => ?_)
      refine lv_aload hx hb dX11_names_15 (lv_at hl 0 rfl) ?_
      obtain ⟨kk_53, hk_54⟩ := pl_at ht_27.1 hs_39
      refine va_castS hx hb hown (hts (.classLink RX11 66 "PageOne$Story") (by decide +kernel)) (hK.1 9 (RX10, TX10, 9) rfl).2 (va_recv hK hP (ci := 9) (q0 := kk_53) rfl hk_54) dX11_names_17 ?_
      refine lv_astore_n (lv' := [(3, .ref (d (2000 + i_3))), (4, .ref (d (2000 + i_3))), (0, .ref h0), (1, .int p0), (2, .int p1)]) hx hb dX11_names_20 rfl hl (by decide) rfl (fun ls hl => ?_)
      refine lv_iload_n hx hb dX11_names_21 rfl (lv_at hl 4 rfl) ?_
      refine vp_callSi (va_runS (As := [.int p1]) (rest := []) ⟨hx, hb, hml, hown, hts⟩ (x_isBuyer l dC dI p1) (va_cwS 1 hts gX11_names_X11_isBuyer rfl rfl rfl (by decide +kernel) ⟨Nat.le_of_ble_eq_true rfl, Nat.le_of_ble_eq_true rfl⟩) ⟨pw_fb, fun U hU hW => ⟨rfl, pw_to hU hW (hP.sub (ws' := []) [] rfl) (hK.sub (tys' := []) [] rfl) hN⟩⟩ rfl rfl hl.1 rfl (lv_room (Nat.le_of_ble_eq_true rfl)) dX11_names_22 ⟨Nat.le_of_ble_eq_true rfl, Nat.le_of_ble_eq_true rfl⟩).run (fun r hw => ?_)
      rcases Bool.eq_false_or_eq_true (bw p1 0 9) with b_55 | b_55
      ·
        obtain rfl : r = 1 := b_t hw b_55
        refine lv_if_eq (tgt := 37) hx hb dX11_names_25 (by decide) (fun c_56 => absurd c_56 (by decide)) (fun c_56 => ?_)
        refine lv_aload_n hx hb dX11_names_28 rfl (lv_at hl 0 rfl) ?_
        obtain ⟨kk_57, hk_58⟩ := pl_at ht_27.1 hs_39
        refine va_get (D := (dC, dI)) (ci := 9) (v := .ref (d (6000 + i_3))) (C := RX10) (T := TX10) (N := 9) hx hb hts (by decide +kernel) hown hK hP kk_57 hk_58 rfl 8 (by decide) (hts (.fieldLink RX11 135 "PageOne$Story" "named" "[Z") (by decide +kernel)) (fun _ h9 => h9) rfl dX11_names_29 ?_
        refine lv_iload_n hx hb dX11_names_32 rfl (lv_at hl 4 rfl) ?_
        obtain ⟨kk_59, hk_60⟩ := pl_at hx_32.1.1 hx_37
        refine va_zald hx hb hK hP kk_59 1 hk_60 rfl (vin b_55 (by decide)) dX11_names_33 ?_
        refine lv_if_eq (tgt := 39) hx hb dX11_names_34 (by decide) (fun c_61 => ?_) (fun c_61 => ?_)
        ·
          refine lv_aload_n hx hb dX11_names_39 rfl (lv_at hl 0 rfl) ?_
          obtain ⟨kk_62, hk_63⟩ := pl_at ht_27.1 hs_39
          refine va_get (D := (dC, dI)) (ci := 9) (v := .ref (d (6000 + i_3))) (C := RX10) (T := TX10) (N := 9) hx hb hts (by decide +kernel) hown hK hP kk_62 hk_63 rfl 8 (by decide) (hts (.fieldLink RX11 135 "PageOne$Story" "named" "[Z") (by decide +kernel)) (fun _ h9 => h9) rfl dX11_names_40 ?_
          refine lv_iload_n hx hb dX11_names_43 rfl (lv_at hl 4 rfl) ?_
          refine lv_iconst (v := 1) hx hb dX11_names_44 (by decide) ?_
          obtain ⟨kk_64, hk_65⟩ := pl_at hx_32.1.1 hx_37
          have hD0 := hD
          refine va_zast hx hb hK hP hD hS kk_64 1 hk_65 rfl (vin b_55 (by decide)) dX11_names_45 (fun H locs hP hD hS => ?_)
          rw [pl_set hD0 hx_32.1.1 hx_37 hk_65] at hP hD
          obtain ⟨f_66, ef_66⟩ : ∃ y : xF, y = va_up f (d (6000 + i_3)) (aI (q 1) 10 (upd hx_36 (p1 : Int32).toNatClampNeg (vp_nar .boolean 1))) := ⟨_, rfl⟩
          have hI : xI q h0 d k z f_66 := by rw [ef_66]; exact x_up hI hx_32.1 (by decide) (cO_19 hx_32.1.2 ⟨_, rfl⟩)
          have hP : va_P (dC, dI) vwCl (va_pl z.1 f_66) H := by rw [ef_66]; exact hP
          have hD : va_D A (va_pl z.1 f_66) := by rw [ef_66]; exact hD
          refine lv_iconst (v := 1) hx hb dX11_names_46 (by decide) ?_
          exact W.zret (v := 1) hx hb hr (by decide) (fun t ht hW => ⟨⟨1, (k, z, f_66), rfl, ⟨(by show f_66 (d 3) = f (d 3); rw [ef_66]; exact up_o (nO_ne (d3_o hrp) hx_32 (by omega))), rfl, rfl, hI, by rw [ep_5]; show _ ∧ rep q d _ z f_66; rw [ef_66]; exact (names_y hrp hu hi_4 hkd_29 b_55 hx_37 hx_38).1 c_61⟩, by rw [ht]; exact hP, hD⟩, hS.F ht⟩) hS.2.2 dX11_names_47
        ·
          refine lv_iconst (v := 0) hx hb dX11_names_37 (by decide) ?_
          exact W.zret (v := 0) hx hb hr (by decide) (fun t ht hW => ⟨⟨0, (k, z, f), rfl, ⟨rfl, rfl, rfl, hI, by rw [ep_5]; exact (names_y hrp hu hi_4 hkd_29 b_55 hx_37 hx_38).2 c_61⟩, by rw [ht]; exact hP, hD⟩, hS.F ht⟩) hS.2.2 dX11_names_38
      ·
        obtain rfl : r = 0 := b_f hw b_55
        refine lv_if_eq (tgt := 37) hx hb dX11_names_25 (by decide) (fun c_67 => ?_) (fun c_67 => absurd (by decide) c_67)
        refine lv_iconst (v := 0) hx hb dX11_names_37 (by decide) ?_
        exact W.zret (v := 0) hx hb hr (by decide) (fun t ht hW => ⟨⟨0, (k, z, f), rfl, ⟨rfl, rfl, rfl, hI, by rw [(names_x (bne b_55))], by rw [(names_x (bne b_55))]; exact hrp⟩, by rw [ht]; exact hP, hD⟩, hS.F ht⟩) hS.2.2 dX11_names_38
    ·
      have hn_28 := ht9
      have hkd_29 : ¬ u.2 4 i_3 = 0 := fun e9 => ht9 ⟨hit_10.1, by rw [hkt_24, e9]; rfl⟩
      refine w_then (F0 m 12 ls [.int 0]) (fun hgo => ?_) ?_
      ·
        rcases x_tag hit_10 with ht8 | ht8 | ht8 | ht8 | ht8 | ht8
        ·
          obtain ⟨nu_68, kd_69, cn_70, pa_71, fa_72, l_73, m_74, hs_75, hs_76, hs_77, hs_78⟩ := x_ifl hI ht8
          obtain ⟨kk_79, hk_80⟩ := pl_at ht8.1 hs_75
          exact va_instNo hx hb hown (hts (.classLink RX11 66 "PageOne$Story") (by decide +kernel)) hXN.n_X2_X10 (va_recv hK hP (ci := 2) (q0 := kk_79) rfl hk_80) dX11_names_9 hgo
        ·
          obtain ⟨nu_81, kd_82, cn_83, pa_84, fa_85, o_86, w_87, y_88, hs_89, hs_90, hs_91, hs_92, hq_93⟩ := x_ihd hI ht8
          obtain ⟨kk_94, hk_95⟩ := pl_at ht8.1 hs_89
          exact va_instNo hx hb hown (hts (.classLink RX11 66 "PageOne$Story") (by decide +kernel)) hXN.n_X3_X10 (va_recv hK hP (ci := 3) (q0 := kk_94) rfl hk_95) dX11_names_9 hgo
        ·
          obtain ⟨nu_96, kd_97, cn_98, pa_99, fa_100, o_101, y_102, hs_103, hs_104, hs_105, hs_106, hq_107⟩ := x_ino hI ht8
          obtain ⟨kk_108, hk_109⟩ := pl_at ht8.1 hs_103
          exact va_instNo hx hb hown (hts (.classLink RX11 66 "PageOne$Story") (by decide +kernel)) hXN.n_X5_X10 (va_recv hK hP (ci := 4) (q0 := kk_108) rfl hk_109) dX11_names_9 hgo
        ·
          obtain ⟨nu_110, kd_111, cn_112, pa_113, fa_114, b_115, pr_116, sp_117, dy_118, hs_119, hs_120, hs_121, hs_122, hq_123, hq_124, hq_125⟩ := x_ipd hI ht8
          obtain ⟨kk_126, hk_127⟩ := pl_at ht8.1 hs_119
          exact va_instNo hx hb hown (hts (.classLink RX11 66 "PageOne$Story") (by decide +kernel)) hXN.n_X6_X10 (va_recv hK hP (ci := 5) (q0 := kk_126) rfl hk_127) dX11_names_9 hgo
        ·
          obtain ⟨nu_128, kd_129, cn_130, pa_131, fa_132, ww_133, hh_134, sz_135, hs_136, hs_137, hs_138, hs_139, hq_140, hq_141, hq_142⟩ := x_ipi hI ht8
          obtain ⟨kk_143, hk_144⟩ := pl_at ht8.1 hs_136
          exact va_instNo hx hb hown (hts (.classLink RX11 66 "PageOne$Story") (by decide +kernel)) hXN.n_X7_X10 (va_recv hK hP (ci := 6) (q0 := kk_143) rfl hk_144) dX11_names_9 hgo
        ·
          exact absurd ht8 ht9
      ·
        refine lv_if_eq (tgt := 37) hx hb dX11_names_12 (by decide) (fun c_145 => ?_) (fun c_145 => absurd (by decide) c_145)
        refine lv_iconst (v := 0) hx hb dX11_names_37 (by decide) ?_
        exact W.zret (v := 0) hx hb hr (by decide) (fun t ht hW => ⟨⟨0, (k, z, f), rfl, ⟨rfl, rfl, rfl, hI, by rw [(names_n (by rw [ep_5, mK_it hu.1 hi_4]; exact decide_eq_false hkd_29))], by rw [(names_n (by rw [ep_5, mK_it hu.1 hi_4]; exact decide_eq_false hkd_29))]; exact hrp⟩, by rw [ht]; exact hP, hD⟩, hS.F ht⟩) hS.2.2 dX11_names_38
set_option maxHeartbeats 4000000 in
set_option maxRecDepth 100000 in
theorem v_rival (l : Launch) (dC : Nat → ClassId) (dI : Nat → Nat → Nat) (q : Nat → ClassId) (h0 : Nat) (d : Nat → Nat) (k : Nat → Int32) (z : gS) (f : xF) (hI : xI q h0 d k z f) (p0 p1 : Int32) (u : mS) (hrp : rep q d u z f) (hk0 : k 0 = u.1 3) (hk1 : k 1 = u.1 28) (hk2 : k 2 = u.1 38) (hk3 : k 3 = u.1 39) (hu : rI u) (g : Nat → Int32) (hg6 : f (d 4) = aI (q 1) 100 g) (hz6 : ∀ j, g j = 0 ∨ g j = 1) (sz : Nat) : Met l yX11_rival wsX11_rival ({ frames := 2, cells := 0, slots := 0, locals := 42 }) (va_Pc [.ref h0, .int p0, .int p1] (fun U => U.heap.size = sz ∧ PX dC dI (va_pl z.1 f) (xT q) U ∧ va_D (fun _ => True) (va_pl z.1 f))) (va_Qi (fun (r : Int32) (w : xU) => w.2.2 (d 3) = f (d 3) ∧ w.1 = k ∧ w.2.1 = z ∧ xI q h0 d k z w.2.2 ∧ r = (mRival u p0 p1).1 ∧ rep q d (mRival u p0 p1).2 z w.2.2) (fun (w : xU) t => va_P (dC, dI) vwCl (va_pl w.2.1.1 w.2.2) t.heap ∧ va_D (va_A (va_pl z.1 f) sz) (va_pl w.2.1.1 w.2.2)) (va_A (va_pl z.1 f) sz)) 0 0 (va_A (va_pl z.1 f) sz) := by
  refine Met.ofW (cc := cX11_rival) (maxL := 3) (ret := (some .boolean)) (by decide) rfl ?_
  intro p e s m args below meth c s₁ B hml hv
  obtain ⟨rfl, hsz, ⟨⟨hP, hK, hN⟩, hXN⟩, hD0⟩ := hv
  have hx := B.exec
  have hb := B.bytes
  have hr := B.returns
  have hts := atoms_spec (ws := wsX11_rival) B.pre
  have hown : s.vm.findClass RX11 = some m.cls := findClass_of_methodNamed B.named
  have hlocks := B.notSynchronized
  subst hsz
  have hD := hD0.self (sz := s.heap.size)
  generalize hAe : va_A (va_pl z.1 f) s.heap.size = A at hD ⊢
  have hA : ∀ q : Nat, s.heap.size ≤ q → A q := fun q h => by rw [← hAe]; exact Or.inr h
  have hS : va_S A s.heap s.heap [] := va_S.rf
  have hl := lv_entry ([.ref h0, .int p0, .int p1]) (n := 3) (Nat.le_of_ble_eq_true rfl)
  rw [lg_entry_eq]
  generalize (lg_sl ([.ref h0, .int p0, .int p1]) ++ List.replicate (3 - (lg_sl ([.ref h0, .int p0, .int p1])).length) Slot.unset).toArray = ls at hl ⊢
  have hl : lv_has ls 3 [(0, .ref h0), (1, .int p0), (2, .int p1)] := hl
  refine lv_iload_n hx hb dX11_rival_0 rfl (lv_at hl 1 rfl) ?_
  refine vp_callSi (va_runS (As := [.int p0]) (rest := []) ⟨hx, hb, hml, hown, hts⟩ (x_isBuyer l dC dI p0) (va_cwS 1 hts gX11_rival_X11_isBuyer rfl rfl rfl (by decide +kernel) ⟨Nat.le_of_ble_eq_true rfl, Nat.le_of_ble_eq_true rfl⟩) ⟨pw_fb, fun U hU hW => ⟨rfl, pw_to hU hW (hP.sub (ws' := []) [] rfl) (hK.sub (tys' := []) [] rfl) hN⟩⟩ rfl rfl hl.1 rfl (lv_room (Nat.le_of_ble_eq_true rfl)) dX11_rival_1 ⟨Nat.le_of_ble_eq_true rfl, Nat.le_of_ble_eq_true rfl⟩).run (fun r hw => ?_)
  rcases Bool.eq_false_or_eq_true (bw p0 0 9) with b_1 | b_1
  ·
    obtain rfl : r = 1 := b_t hw b_1
    refine lv_if_eq (tgt := 28) hx hb dX11_rival_4 (by decide) (fun c_2 => absurd c_2 (by decide)) (fun c_2 => ?_)
    refine lv_iload_n hx hb dX11_rival_7 rfl (lv_at hl 2 rfl) ?_
    refine vp_callSi (va_runS (As := [.int p1]) (rest := []) ⟨hx, hb, hml, hown, hts⟩ (x_isBuyer l dC dI p1) (va_cwS 1 hts gX11_rival_X11_isBuyer rfl rfl rfl (by decide +kernel) ⟨Nat.le_of_ble_eq_true rfl, Nat.le_of_ble_eq_true rfl⟩) ⟨pw_fb, fun U hU hW => ⟨rfl, pw_to hU hW (hP.sub (ws' := []) [] rfl) (hK.sub (tys' := []) [] rfl) hN⟩⟩ rfl rfl hl.1 rfl (lv_room (Nat.le_of_ble_eq_true rfl)) dX11_rival_8 ⟨Nat.le_of_ble_eq_true rfl, Nat.le_of_ble_eq_true rfl⟩).run (fun r hw => ?_)
    rcases Bool.eq_false_or_eq_true (bw p1 0 9) with b_3 | b_3
    ·
      obtain rfl : r = 1 := b_t hw b_3
      refine lv_if_eq (tgt := 28) hx hb dX11_rival_11 (by decide) (fun c_4 => absurd c_4 (by decide)) (fun c_4 => ?_)
      refine lv_iload_n hx hb dX11_rival_14 rfl (lv_at hl 1 rfl) ?_
      refine lv_iload_n hx hb dX11_rival_15 rfl (lv_at hl 2 rfl) ?_
      refine lv_icmp_eq (tgt := 28) hx hb dX11_rival_16 (by decide) (fun c_5 => ?_) (fun c_5 => ?_)
      ·
        refine lv_iconst (v := 0) hx hb dX11_rival_28 (by decide) ?_
        exact W.zret (v := 0) hx hb hr (by decide) (fun t ht hW => ⟨⟨0, (k, z, f), rfl, ⟨rfl, rfl, rfl, hI, by rw [(rival_e c_5)], by rw [(rival_e c_5)]; exact hrp⟩, by rw [ht]; exact hP, hD⟩, hS.F ht⟩) hS.2.2 dX11_rival_29
      ·
        refine lv_aload_n hx hb dX11_rival_19 rfl (lv_at hl 0 rfl) ?_
        refine lv_iload_n hx hb dX11_rival_20 rfl (lv_at hl 1 rfl) ?_
        refine lv_iload_n hx hb dX11_rival_21 rfl (lv_at hl 2 rfl) ?_
        obtain ⟨kk_6, hk_7⟩ := pl_at hI.2.1.1.1 hI.2.2.2.1.1
        refine vp_callSi (va_runV (As := [.int p0, .int p1]) (rest := []) ⟨hx, hb, hml, hown, hts⟩ (y_areRivals l dC dI q h0 d k z f hI p0 p1 b_1 b_3 g hg6 hz6) (cwV 2 hts gX11_rival_X11_areRivals rfl rfl rfl (by decide +kernel) ⟨Nat.le_of_ble_eq_true rfl, Nat.le_of_ble_eq_true rfl⟩) ⟨px_fb, va_recv hK hP (ci := 10) (q0 := kk_6) rfl hk_7, fun U hU hW => ⟨rfl, px_to hU hW hP hK hN hXN⟩⟩ rfl rfl hl.1 rfl (lv_room (Nat.le_of_ble_eq_true rfl)) dX11_rival_22 ⟨Nat.le_of_ble_eq_true rfl, Nat.le_of_ble_eq_true rfl⟩).run (fun r hw => ?_)
        obtain rfl : r = g (p0 * 10 + p1 : Int32).toNatClampNeg := hw
        refine lv_if_eq (tgt := 30) hx hb dX11_rival_25 (by decide) (fun c_8 => ?_) (fun c_8 => ?_)
        ·
          refine lv_aload_n hx hb dX11_rival_30 rfl (lv_at hl 0 rfl) ?_
          obtain ⟨kk_9, hk_10⟩ := pl_at hI.2.1.1.1 hI.2.2.2.1.1
          refine va_get (D := (dC, dI)) (ci := 10) (v := .ref (d 4)) (C := RX11) (T := TX11) (N := 9) hx hb hts (by decide +kernel) hown hK hP kk_9 hk_10 rfl 6 (by decide) (hts (.fieldLink RX11 37 "PageOne" "rivals" "[Z") (by decide +kernel)) (fun _ h9 => h9) rfl dX11_rival_31 ?_
          refine lv_iload_n hx hb dX11_rival_34 rfl (lv_at hl 1 rfl) ?_
          refine lv_bipush (v := 10) hx hb dX11_rival_35 (by decide) ?_
          refine lv_imul hx hb dX11_rival_37 ?_
          refine lv_iload_n hx hb dX11_rival_38 rfl (lv_at hl 2 rfl) ?_
          refine lv_iadd hx hb dX11_rival_39 ?_
          refine lv_iconst (v := 1) hx hb dX11_rival_40 (by decide) ?_
          obtain ⟨kk_11, hk_12⟩ := pl_at hI.2.1.2.2.2.2.2.1 hg6
          have hD0 := hD
          refine va_zast hx hb hK hP hD hS kk_11 1 hk_12 rfl (vin2 b_1 b_3) dX11_rival_41 (fun H locs hP hD hS => ?_)
          rw [pl_set hD0 hI.2.1.2.2.2.2.2.1 hg6 hk_12] at hP hD
          obtain ⟨f_13, ef_13⟩ : ∃ y : xF, y = va_up f (d 4) (aI (q 1) 100 (upd g (((p0 * 10) + p1) : Int32).toNatClampNeg (vp_nar .boolean 1))) := ⟨_, rfl⟩
          have hI : xI q h0 d k z f_13 := by rw [ef_13]; exact x_up hI hI.2.1.2.2.2.2.2 (by decide) (cO_6 hI.2.1.2.2.2.2.2.2 ⟨_, rfl, z_up hz6⟩)
          have hP : va_P (dC, dI) vwCl (va_pl z.1 f_13) H := by rw [ef_13]; exact hP
          have hD : va_D A (va_pl z.1 f_13) := by rw [ef_13]; exact hD
          refine lv_aload_n hx hb dX11_rival_42 rfl (lv_at hl 0 rfl) ?_
          obtain ⟨kk_14, hk_15⟩ := pl_at hI.2.1.1.1 hI.2.2.2.1.1
          refine va_get (D := (dC, dI)) (ci := 10) (v := .ref (d 4)) (C := RX11) (T := TX11) (N := 9) hx hb hts (by decide +kernel) hown hK hP kk_14 hk_15 rfl 6 (by decide) (hts (.fieldLink RX11 37 "PageOne" "rivals" "[Z") (by decide +kernel)) (fun _ h9 => h9) rfl dX11_rival_43 ?_
          refine lv_iload_n hx hb dX11_rival_46 rfl (lv_at hl 2 rfl) ?_
          refine lv_bipush (v := 10) hx hb dX11_rival_47 (by decide) ?_
          refine lv_imul hx hb dX11_rival_49 ?_
          refine lv_iload_n hx hb dX11_rival_50 rfl (lv_at hl 1 rfl) ?_
          refine lv_iadd hx hb dX11_rival_51 ?_
          refine lv_iconst (v := 1) hx hb dX11_rival_52 (by decide) ?_
          obtain ⟨g_16, hs_17, hz_18⟩ := x_ri hI hI.2.1.2.2.2.2.2
          obtain ⟨kk_19, hk_20⟩ := pl_at hI.2.1.2.2.2.2.2.1 hs_17
          have hD0 := hD
          refine va_zast hx hb hK hP hD hS kk_19 1 hk_20 rfl (vin2 b_3 b_1) dX11_rival_53 (fun H locs hP hD hS => ?_)
          rw [pl_set hD0 hI.2.1.2.2.2.2.2.1 hs_17 hk_20] at hP hD
          obtain ⟨f_21, ef_21⟩ : ∃ y : xF, y = va_up f_13 (d 4) (aI (q 1) 100 (upd g_16 (((p1 * 10) + p0) : Int32).toNatClampNeg (vp_nar .boolean 1))) := ⟨_, rfl⟩
          have hI : xI q h0 d k z f_21 := by rw [ef_21]; exact x_up hI hI.2.1.2.2.2.2.2 (by decide) (cO_6 hI.2.1.2.2.2.2.2.2 ⟨_, rfl, z_up hz_18⟩)
          have hP : va_P (dC, dI) vwCl (va_pl z.1 f_21) H := by rw [ef_21]; exact hP
          have hD : va_D A (va_pl z.1 f_21) := by rw [ef_21]; exact hD
          refine lv_iconst (v := 1) hx hb dX11_rival_54 (by decide) ?_
          exact W.zret (v := 1) hx hb hr (by decide) (fun t ht hW => ⟨⟨1, (k, z, f_21), rfl, ⟨(by show f_21 (d 3) = f (d 3); rw [ef_21, up_o (nO_ne (d3_o hrp) hrp.2.2.2.2.2.2.2.2 (by omega)), ef_13]; exact up_o (nO_ne (d3_o hrp) hrp.2.2.2.2.2.2.2.2 (by omega))), rfl, rfl, hI, (rival_y hrp b_1 b_3 c_5 hg6).2 c_8 _ _ _ ef_13 hs_17 ef_21⟩, by rw [ht]; exact hP, hD⟩, hS.F ht⟩) hS.2.2 dX11_rival_55
        ·
          refine lv_iconst (v := 0) hx hb dX11_rival_28 (by decide) ?_
          exact W.zret (v := 0) hx hb hr (by decide) (fun t ht hW => ⟨⟨0, (k, z, f), rfl, ⟨rfl, rfl, rfl, hI, (rival_y hrp b_1 b_3 c_5 hg6).1 c_8⟩, by rw [ht]; exact hP, hD⟩, hS.F ht⟩) hS.2.2 dX11_rival_29
    ·
      obtain rfl : r = 0 := b_f hw b_3
      refine lv_if_eq (tgt := 28) hx hb dX11_rival_11 (by decide) (fun c_22 => ?_) (fun c_22 => absurd (by decide) c_22)
      refine lv_iconst (v := 0) hx hb dX11_rival_28 (by decide) ?_
      exact W.zret (v := 0) hx hb hr (by decide) (fun t ht hW => ⟨⟨0, (k, z, f), rfl, ⟨rfl, rfl, rfl, hI, by rw [(rival_b (bne b_3))], by rw [(rival_b (bne b_3))]; exact hrp⟩, by rw [ht]; exact hP, hD⟩, hS.F ht⟩) hS.2.2 dX11_rival_29
  ·
    obtain rfl : r = 0 := b_f hw b_1
    refine lv_if_eq (tgt := 28) hx hb dX11_rival_4 (by decide) (fun c_23 => ?_) (fun c_23 => absurd (by decide) c_23)
    refine lv_iconst (v := 0) hx hb dX11_rival_28 (by decide) ?_
    exact W.zret (v := 0) hx hb hr (by decide) (fun t ht hW => ⟨⟨0, (k, z, f), rfl, ⟨rfl, rfl, rfl, hI, by rw [(rival_a (bne b_1))], by rw [(rival_a (bne b_1))]; exact hrp⟩, by rw [ht]; exact hP, hD⟩, hS.F ht⟩) hS.2.2 dX11_rival_29
set_option maxHeartbeats 4000000 in
set_option maxRecDepth 100000 in
theorem v_column (l : Launch) (dC : Nat → ClassId) (dI : Nat → Nat → Nat) (q : Nat → ClassId) (h0 : Nat) (d : Nat → Nat) (k : Nat → Int32) (z : gS) (f : xF) (hI : xI q h0 d k z f) (p0 p1 p2 : Int32) (u : mS) (hrp : rep q d u z f) (hk0 : k 0 = u.1 3) (hk1 : k 1 = u.1 28) (hk2 : k 2 = u.1 38) (hk3 : k 3 = u.1 39) (hbr : u.1 28 ≤ 0 → ∀ j, j < 5760 → u.2 2 j = (-2)) (sz : Nat) : Met l yX11_column wsX11_column ({ frames := 2, cells := 0, slots := 0, locals := 42 }) (va_Pc [.ref h0, .int p0, .int p1, .int p2] (fun U => U.heap.size = sz ∧ PX dC dI (va_pl z.1 f) (xT q) U ∧ va_D (fun _ => True) (va_pl z.1 f))) (va_Qi (fun (r : Int32) (w : xU) => w.2.2 (d 3) = f (d 3) ∧ w.1 = k ∧ w.2.1 = z ∧ xI q h0 d k z w.2.2 ∧ r = (mColumn u p0 p1 p2).1 ∧ rep q d (mColumn u p0 p1 p2).2 z w.2.2) (fun (w : xU) t => va_P (dC, dI) vwCl (va_pl w.2.1.1 w.2.2) t.heap ∧ va_D (va_A (va_pl z.1 f) sz) (va_pl w.2.1.1 w.2.2)) (va_A (va_pl z.1 f) sz)) 0 0 (va_A (va_pl z.1 f) sz) := by
  refine Met.ofW (cc := cX11_column) (maxL := 4) (ret := (some .boolean)) (by decide) rfl ?_
  intro p e s m args below meth c s₁ B hml hv
  obtain ⟨rfl, hsz, ⟨⟨hP, hK, hN⟩, hXN⟩, hD0⟩ := hv
  have hx := B.exec
  have hb := B.bytes
  have hr := B.returns
  have hts := atoms_spec (ws := wsX11_column) B.pre
  have hown : s.vm.findClass RX11 = some m.cls := findClass_of_methodNamed B.named
  have hlocks := B.notSynchronized
  subst hsz
  have hD := hD0.self (sz := s.heap.size)
  generalize hAe : va_A (va_pl z.1 f) s.heap.size = A at hD ⊢
  have hA : ∀ q : Nat, s.heap.size ≤ q → A q := fun q h => by rw [← hAe]; exact Or.inr h
  have hS : va_S A s.heap s.heap [] := va_S.rf
  have hl := lv_entry ([.ref h0, .int p0, .int p1, .int p2]) (n := 4) (Nat.le_of_ble_eq_true rfl)
  rw [lg_entry_eq]
  generalize (lg_sl ([.ref h0, .int p0, .int p1, .int p2]) ++ List.replicate (4 - (lg_sl ([.ref h0, .int p0, .int p1, .int p2])).length) Slot.unset).toArray = ls at hl ⊢
  have hl : lv_has ls 4 [(0, .ref h0), (1, .int p0), (2, .int p1), (3, .int p2)] := hl
  refine lv_iload_n hx hb dX11_column_0 rfl (lv_at hl 1 rfl) ?_
  refine vp_callSi (va_runS (As := [.int p0]) (rest := []) ⟨hx, hb, hml, hown, hts⟩ (x_isPage l dC dI p0) (va_cwS 1 hts gX11_column_X11_isPage rfl rfl rfl (by decide +kernel) ⟨Nat.le_of_ble_eq_true rfl, Nat.le_of_ble_eq_true rfl⟩) ⟨pw_fb, fun U hU hW => ⟨rfl, pw_to hU hW (hP.sub (ws' := []) [] rfl) (hK.sub (tys' := []) [] rfl) hN⟩⟩ rfl rfl hl.1 rfl (lv_room (Nat.le_of_ble_eq_true rfl)) dX11_column_1 ⟨Nat.le_of_ble_eq_true rfl, Nat.le_of_ble_eq_true rfl⟩).run (fun r hw => ?_)
  rcases Bool.eq_false_or_eq_true (bw p0 0 11) with b_1 | b_1
  ·
    obtain rfl : r = 1 := b_t hw b_1
    refine lv_if_eq (tgt := 31) hx hb dX11_column_4 (by decide) (fun c_2 => absurd c_2 (by decide)) (fun c_2 => ?_)
    refine lv_iload_n hx hb dX11_column_7 rfl (lv_at hl 2 rfl) ?_
    refine vp_callSi (va_runS (As := [.int p1]) (rest := []) ⟨hx, hb, hml, hown, hts⟩ (x_isColumn l dC dI p1) (va_cwS 1 hts gX11_column_X11_isColumn rfl rfl rfl (by decide +kernel) ⟨Nat.le_of_ble_eq_true rfl, Nat.le_of_ble_eq_true rfl⟩) ⟨pw_fb, fun U hU hW => ⟨rfl, pw_to hU hW (hP.sub (ws' := []) [] rfl) (hK.sub (tys' := []) [] rfl) hN⟩⟩ rfl rfl hl.1 rfl (lv_room (Nat.le_of_ble_eq_true rfl)) dX11_column_8 ⟨Nat.le_of_ble_eq_true rfl, Nat.le_of_ble_eq_true rfl⟩).run (fun r hw => ?_)
    rcases Bool.eq_false_or_eq_true (bw p1 0 7) with b_3 | b_3
    ·
      obtain rfl : r = 1 := b_t hw b_3
      refine lv_if_eq (tgt := 31) hx hb dX11_column_11 (by decide) (fun c_4 => absurd c_4 (by decide)) (fun c_4 => ?_)
      refine lv_iload_n hx hb dX11_column_14 rfl (lv_at hl 3 rfl) ?_
      refine lv_iconst (v := 0) hx hb dX11_column_15 (by decide) ?_
      refine lv_bipush (v := 60) hx hb dX11_column_16 (by decide) ?_
      refine vp_callSi (va_runS (As := [.int p2, .int 0, .int 60]) (rest := []) ⟨hx, hb, hml, hown, hts⟩ (x_isWithin l dC dI p2 0 60) (va_cwS 3 hts gX11_column_X11_isWithin rfl rfl rfl (by decide +kernel) ⟨Nat.le_of_ble_eq_true rfl, Nat.le_of_ble_eq_true rfl⟩) ⟨pw_fb, fun U hU hW => ⟨rfl, pw_to hU hW (hP.sub (ws' := []) [] rfl) (hK.sub (tys' := []) [] rfl) hN⟩⟩ rfl rfl hl.1 rfl (lv_room (Nat.le_of_ble_eq_true rfl)) dX11_column_18 ⟨Nat.le_of_ble_eq_true rfl, Nat.le_of_ble_eq_true rfl⟩).run (fun r hw => ?_)
      rcases Bool.eq_false_or_eq_true (bw p2 0 60) with b_5 | b_5
      ·
        obtain rfl : r = 1 := b_t hw b_5
        refine lv_if_eq (tgt := 31) hx hb dX11_column_21 (by decide) (fun c_6 => absurd c_6 (by decide)) (fun c_6 => ?_)
        refine lv_aload_n hx hb dX11_column_24 rfl (lv_at hl 0 rfl) ?_
        obtain ⟨kk_7, hk_8⟩ := pl_at hI.2.1.1.1 hI.2.2.2.1.1
        refine va_get (D := (dC, dI)) (ci := 10) (v := .int (k 1)) (C := RX11) (T := TX11) (N := 9) hx hb hts (by decide +kernel) hown hK hP kk_7 hk_8 rfl 5 (by decide) (hts (.fieldLink RX11 34 "PageOne" "actCount" "I") (by decide +kernel)) (fun _ h9 => h9) rfl dX11_column_25 ?_
        refine lv_if_le (tgt := 33) hx hb dX11_column_28 (by decide) (fun c_9 => ?_) (fun c_9 => ?_)
        ·
          refine lv_aload_n hx hb dX11_column_33 rfl (lv_at hl 0 rfl) ?_
          obtain ⟨kk_10, hk_11⟩ := pl_at hI.2.1.1.1 hI.2.2.2.1.1
          refine va_get (D := (dC, dI)) (ci := 10) (v := .ref (d 0)) (C := RX11) (T := TX11) (N := 9) hx hb hts (by decide +kernel) hown hK hP kk_10 hk_11 rfl 0 (by decide) (hts (.fieldLink RX11 11 "PageOne" "pages" "[LPageOne$Sheet;") (by decide +kernel)) (fun _ h9 => h9) rfl dX11_column_34 ?_
          refine lv_iload_n hx hb dX11_column_37 rfl (lv_at hl 1 rfl) ?_
          obtain ⟨g_12, hs_13, hg_14⟩ := x_pg hI hI.2.1.2.1
          obtain ⟨kk_15, hk_16⟩ := pl_at hI.2.1.2.1.1 hs_13
          refine va_aldq hx hb hK hP kk_15 2 hk_16 rfl (vin b_1 (by decide)) dX11_column_38 ?_
          obtain ⟨b_17, hg_18, ht_19⟩ := hg_14 _ (vlt (vin b_1 (by decide)))
          rw [hg_18]
          refine W.eq (g2 := F0 m 39 ls [.ref b_17]) rfl ?_
          obtain ⟨la_20, ca_21, m_22, dd_23, ii_24, hs_25, ht_26, ht_27⟩ := x_sh hI ht_19
          obtain ⟨kk_28, hk_29⟩ := pl_at ht_19.1 hs_25
          refine va_get (D := (dC, dI)) (ci := 8) (v := .ref la_20) (C := RX9) (T := TX9) (N := 5) hx hb hts (by decide +kernel) hown hK hP kk_28 hk_29 rfl 0 (by decide) (hts (.fieldLink RX11 59 "PageOne$Sheet" "lines" "[I") (by decide +kernel)) (fun _ h9 => h9) rfl dX11_column_39 ?_
          refine lv_iload_n hx hb dX11_column_42 rfl (lv_at hl 2 rfl) ?_
          refine lv_iload_n hx hb dX11_column_43 rfl (lv_at hl 3 rfl) ?_
          obtain ⟨g_30, hs_31, hg_32⟩ := x_ln hI ht_26
          obtain ⟨kk_33, hk_34⟩ := pl_at ht_26.1 hs_31
          have hD0 := hD
          refine va_iast hx hb hK hP hD hS kk_33 0 hk_34 rfl (vin b_3 (by decide)) dX11_column_44 (fun H locs hP hD hS => ?_)
          rw [pl_set hD0 ht_26.1 hs_31 hk_34] at hP hD
          obtain ⟨f_35, ef_35⟩ : ∃ y : xF, y = va_up f la_20 (aI (q 0) 8 (upd g_30 (p1 : Int32).toNatClampNeg p2)) := ⟨_, rfl⟩
          have hI : xI q h0 d k z f_35 := by rw [ef_35]; exact x_up hI ht_26 (by decide) (cO_8 ht_26.2 ⟨_, rfl, ln_up hg_32 b_5⟩)
          have hP : va_P (dC, dI) vwCl (va_pl z.1 f_35) H := by rw [ef_35]; exact hP
          have hD : va_D A (va_pl z.1 f_35) := by rw [ef_35]; exact hD
          refine lv_iconst (v := 1) hx hb dX11_column_45 (by decide) ?_
          exact W.zret (v := 1) hx hb hr (by decide) (fun t ht hW => ⟨⟨1, (k, z, f_35), rfl, ⟨(by show f_35 (d 3) = f (d 3); rw [ef_35]; exact up_o (tg_nq hI.2.1.2.2.2.2.1 ht_26 (by decide))), rfl, rfl, hI, by show _ ∧ rep q d _ z f_35; rw [ef_35]; exact column_y hrp b_1 b_3 b_5 (by rw [← hk1]; exact c_9) hbr hs_13 hg_18 hs_25 hs_31⟩, by rw [ht]; exact hP, hD⟩, hS.F ht⟩) hS.2.2 dX11_column_46
        ·
          refine lv_iconst (v := 0) hx hb dX11_column_31 (by decide) ?_
          exact W.zret (v := 0) hx hb hr (by decide) (fun t ht hW => ⟨⟨0, (k, z, f), rfl, ⟨rfl, rfl, rfl, hI, by rw [(column_0 (fun h9 => c_9 (by rw [hk1]; exact h9.2.2.2)))], by rw [(column_0 (fun h9 => c_9 (by rw [hk1]; exact h9.2.2.2)))]; exact hrp⟩, by rw [ht]; exact hP, hD⟩, hS.F ht⟩) hS.2.2 dX11_column_32
      ·
        obtain rfl : r = 0 := b_f hw b_5
        refine lv_if_eq (tgt := 31) hx hb dX11_column_21 (by decide) (fun c_36 => ?_) (fun c_36 => absurd (by decide) c_36)
        refine lv_iconst (v := 0) hx hb dX11_column_31 (by decide) ?_
        exact W.zret (v := 0) hx hb hr (by decide) (fun t ht hW => ⟨⟨0, (k, z, f), rfl, ⟨rfl, rfl, rfl, hI, by rw [(column_0 (fun h9 => bne b_5 h9.2.2.1))], by rw [(column_0 (fun h9 => bne b_5 h9.2.2.1))]; exact hrp⟩, by rw [ht]; exact hP, hD⟩, hS.F ht⟩) hS.2.2 dX11_column_32
    ·
      obtain rfl : r = 0 := b_f hw b_3
      refine lv_if_eq (tgt := 31) hx hb dX11_column_11 (by decide) (fun c_37 => ?_) (fun c_37 => absurd (by decide) c_37)
      refine lv_iconst (v := 0) hx hb dX11_column_31 (by decide) ?_
      exact W.zret (v := 0) hx hb hr (by decide) (fun t ht hW => ⟨⟨0, (k, z, f), rfl, ⟨rfl, rfl, rfl, hI, by rw [(column_0 (fun h9 => bne b_3 h9.2.1))], by rw [(column_0 (fun h9 => bne b_3 h9.2.1))]; exact hrp⟩, by rw [ht]; exact hP, hD⟩, hS.F ht⟩) hS.2.2 dX11_column_32
  ·
    obtain rfl : r = 0 := b_f hw b_1
    refine lv_if_eq (tgt := 31) hx hb dX11_column_4 (by decide) (fun c_38 => ?_) (fun c_38 => absurd (by decide) c_38)
    refine lv_iconst (v := 0) hx hb dX11_column_31 (by decide) ?_
    exact W.zret (v := 0) hx hb hr (by decide) (fun t ht hW => ⟨⟨0, (k, z, f), rfl, ⟨rfl, rfl, rfl, hI, by rw [(column_0 (fun h9 => bne b_1 h9.1))], by rw [(column_0 (fun h9 => bne b_1 h9.1))]; exact hrp⟩, by rw [ht]; exact hP, hD⟩, hS.F ht⟩) hS.2.2 dX11_column_32
set_option maxHeartbeats 4000000 in
set_option maxRecDepth 100000 in
theorem v_measure (l : Launch) (dC : Nat → ClassId) (dI : Nat → Nat → Nat) (q : Nat → ClassId) (h0 : Nat) (d : Nat → Nat) (k : Nat → Int32) (z : gS) (f : xF) (hI : xI q h0 d k z f) (p0 p1 : Int32) (u : mS) (hrp : rep q d u z f) (hk0 : k 0 = u.1 3) (hk1 : k 1 = u.1 28) (hk2 : k 2 = u.1 38) (hk3 : k 3 = u.1 39) (hbr : u.1 28 ≤ 0 → ∀ j, j < 5760 → u.2 2 j = (-2)) (sz : Nat) : Met l yX11_measure wsX11_measure ({ frames := 2, cells := 0, slots := 0, locals := 42 }) (va_Pc [.ref h0, .int p0, .int p1] (fun U => U.heap.size = sz ∧ PX dC dI (va_pl z.1 f) (xT q) U ∧ va_D (fun _ => True) (va_pl z.1 f))) (va_Qi (fun (r : Int32) (w : xU) => w.2.2 (d 3) = f (d 3) ∧ w.1 = k ∧ w.2.1 = z ∧ xI q h0 d k z w.2.2 ∧ r = (mMeasure u p0 p1).1 ∧ rep q d (mMeasure u p0 p1).2 z w.2.2) (fun (w : xU) t => va_P (dC, dI) vwCl (va_pl w.2.1.1 w.2.2) t.heap ∧ va_D (va_A (va_pl z.1 f) sz) (va_pl w.2.1.1 w.2.2)) (va_A (va_pl z.1 f) sz)) 0 0 (va_A (va_pl z.1 f) sz) := by
  refine Met.ofW (cc := cX11_measure) (maxL := 3) (ret := (some .boolean)) (by decide) rfl ?_
  intro p e s m args below meth c s₁ B hml hv
  obtain ⟨rfl, hsz, ⟨⟨hP, hK, hN⟩, hXN⟩, hD0⟩ := hv
  have hx := B.exec
  have hb := B.bytes
  have hr := B.returns
  have hts := atoms_spec (ws := wsX11_measure) B.pre
  have hown : s.vm.findClass RX11 = some m.cls := findClass_of_methodNamed B.named
  have hlocks := B.notSynchronized
  subst hsz
  have hD := hD0.self (sz := s.heap.size)
  generalize hAe : va_A (va_pl z.1 f) s.heap.size = A at hD ⊢
  have hA : ∀ q : Nat, s.heap.size ≤ q → A q := fun q h => by rw [← hAe]; exact Or.inr h
  have hS : va_S A s.heap s.heap [] := va_S.rf
  have hl := lv_entry ([.ref h0, .int p0, .int p1]) (n := 3) (Nat.le_of_ble_eq_true rfl)
  rw [lg_entry_eq]
  generalize (lg_sl ([.ref h0, .int p0, .int p1]) ++ List.replicate (3 - (lg_sl ([.ref h0, .int p0, .int p1])).length) Slot.unset).toArray = ls at hl ⊢
  have hl : lv_has ls 3 [(0, .ref h0), (1, .int p0), (2, .int p1)] := hl
  refine lv_iload_n hx hb dX11_measure_0 rfl (lv_at hl 1 rfl) ?_
  refine vp_callSi (va_runS (As := [.int p0]) (rest := []) ⟨hx, hb, hml, hown, hts⟩ (x_isPage l dC dI p0) (va_cwS 1 hts gX11_measure_X11_isPage rfl rfl rfl (by decide +kernel) ⟨Nat.le_of_ble_eq_true rfl, Nat.le_of_ble_eq_true rfl⟩) ⟨pw_fb, fun U hU hW => ⟨rfl, pw_to hU hW (hP.sub (ws' := []) [] rfl) (hK.sub (tys' := []) [] rfl) hN⟩⟩ rfl rfl hl.1 rfl (lv_room (Nat.le_of_ble_eq_true rfl)) dX11_measure_1 ⟨Nat.le_of_ble_eq_true rfl, Nat.le_of_ble_eq_true rfl⟩).run (fun r hw => ?_)
  rcases Bool.eq_false_or_eq_true (bw p0 0 11) with b_1 | b_1
  ·
    obtain rfl : r = 1 := b_t hw b_1
    refine lv_if_eq (tgt := 25) hx hb dX11_measure_4 (by decide) (fun c_2 => absurd c_2 (by decide)) (fun c_2 => ?_)
    refine lv_iload_n hx hb dX11_measure_7 rfl (lv_at hl 2 rfl) ?_
    refine lv_iconst (v := 1) hx hb dX11_measure_8 (by decide) ?_
    refine lv_sipush (v := 200) hx hb dX11_measure_9 (by decide) ?_
    refine vp_callSi (va_runS (As := [.int p1, .int 1, .int 200]) (rest := []) ⟨hx, hb, hml, hown, hts⟩ (x_isWithin l dC dI p1 1 200) (va_cwS 3 hts gX11_measure_X11_isWithin rfl rfl rfl (by decide +kernel) ⟨Nat.le_of_ble_eq_true rfl, Nat.le_of_ble_eq_true rfl⟩) ⟨pw_fb, fun U hU hW => ⟨rfl, pw_to hU hW (hP.sub (ws' := []) [] rfl) (hK.sub (tys' := []) [] rfl) hN⟩⟩ rfl rfl hl.1 rfl (lv_room (Nat.le_of_ble_eq_true rfl)) dX11_measure_12 ⟨Nat.le_of_ble_eq_true rfl, Nat.le_of_ble_eq_true rfl⟩).run (fun r hw => ?_)
    rcases Bool.eq_false_or_eq_true (bw p1 1 200) with b_3 | b_3
    ·
      obtain rfl : r = 1 := b_t hw b_3
      refine lv_if_eq (tgt := 25) hx hb dX11_measure_15 (by decide) (fun c_4 => absurd c_4 (by decide)) (fun c_4 => ?_)
      refine lv_aload_n hx hb dX11_measure_18 rfl (lv_at hl 0 rfl) ?_
      obtain ⟨kk_5, hk_6⟩ := pl_at hI.2.1.1.1 hI.2.2.2.1.1
      refine va_get (D := (dC, dI)) (ci := 10) (v := .int (k 1)) (C := RX11) (T := TX11) (N := 9) hx hb hts (by decide +kernel) hown hK hP kk_5 hk_6 rfl 5 (by decide) (hts (.fieldLink RX11 34 "PageOne" "actCount" "I") (by decide +kernel)) (fun _ h9 => h9) rfl dX11_measure_19 ?_
      refine lv_if_le (tgt := 27) hx hb dX11_measure_22 (by decide) (fun c_7 => ?_) (fun c_7 => ?_)
      ·
        refine lv_aload_n hx hb dX11_measure_27 rfl (lv_at hl 0 rfl) ?_
        obtain ⟨kk_8, hk_9⟩ := pl_at hI.2.1.1.1 hI.2.2.2.1.1
        refine va_get (D := (dC, dI)) (ci := 10) (v := .ref (d 0)) (C := RX11) (T := TX11) (N := 9) hx hb hts (by decide +kernel) hown hK hP kk_8 hk_9 rfl 0 (by decide) (hts (.fieldLink RX11 11 "PageOne" "pages" "[LPageOne$Sheet;") (by decide +kernel)) (fun _ h9 => h9) rfl dX11_measure_28 ?_
        refine lv_iload_n hx hb dX11_measure_31 rfl (lv_at hl 1 rfl) ?_
        obtain ⟨g_10, hs_11, hg_12⟩ := x_pg hI hI.2.1.2.1
        obtain ⟨kk_13, hk_14⟩ := pl_at hI.2.1.2.1.1 hs_11
        refine va_aldq hx hb hK hP kk_13 2 hk_14 rfl (vin b_1 (by decide)) dX11_measure_32 ?_
        obtain ⟨b_15, hg_16, ht_17⟩ := hg_12 _ (vlt (vin b_1 (by decide)))
        rw [hg_16]
        refine W.eq (g2 := F0 m 33 ls [.ref b_15]) rfl ?_
        refine lv_iload_n hx hb dX11_measure_33 rfl (lv_at hl 2 rfl) ?_
        obtain ⟨la_18, ca_19, m_20, dd_21, ii_22, hs_23, ht_24, ht_25⟩ := x_sh hI ht_17
        obtain ⟨kk_26, hk_27⟩ := pl_at ht_17.1 hs_23
        have hD0 := hD
        refine va_put (D := (dC, dI)) (ci := 8) (v := .int p1) (ty := .int) (C := RX9) (T := TX9) (N := 5) hx hb hts (by decide +kernel) tyX9 tyX9_ok nmX9 hown hK hP hD hS kk_26 hk_27 rfl 2 (by decide) (hts (.fieldLink RX11 63 "PageOne$Sheet" "measure" "I") (by decide +kernel)) (fun _ h9 => h9) rfl (by decide +kernel) rfl rfl (Nat.le_of_ble_eq_true rfl) dX11_measure_34 (fun H locs hP hD hS => ?_)
        rw [pl_set hD0 ht_17.1 hs_23 hk_27] at hP hD
        obtain ⟨f_28, ef_28⟩ : ∃ y : xF, y = va_up f b_15 (.inr (8, [.ref la_18, .ref ca_19, .int p1, .int dd_21, .int ii_22])) := ⟨_, rfl⟩
        have hI : xI q h0 d k z f_28 := by rw [ef_28]; exact x_up hI ht_17 (by decide) (cO_7 ht_17.2 ⟨_, _, _, _, _, rfl, ht_24, ht_25⟩)
        have hP : va_P (dC, dI) vwCl (va_pl z.1 f_28) H := by rw [ef_28]; exact hP
        have hD : va_D A (va_pl z.1 f_28) := by rw [ef_28]; exact hD
        refine lv_iconst (v := 1) hx hb dX11_measure_37 (by decide) ?_
        exact W.zret (v := 1) hx hb hr (by decide) (fun t ht hW => ⟨⟨1, (k, z, f_28), rfl, ⟨(by show f_28 (d 3) = f (d 3); rw [ef_28]; exact up_o (tg_nq hI.2.1.2.2.2.2.1 ht_17 (by decide))), rfl, rfl, hI, by show _ ∧ rep q d _ z f_28; rw [ef_28]; exact measure_y hrp b_1 b_3 (by rw [← hk1]; exact c_7) hbr hs_11 hg_16 hs_23⟩, by rw [ht]; exact hP, hD⟩, hS.F ht⟩) hS.2.2 dX11_measure_38
      ·
        refine lv_iconst (v := 0) hx hb dX11_measure_25 (by decide) ?_
        exact W.zret (v := 0) hx hb hr (by decide) (fun t ht hW => ⟨⟨0, (k, z, f), rfl, ⟨rfl, rfl, rfl, hI, by rw [(measure_0 (fun h9 => c_7 (by rw [hk1]; exact h9.2.2)))], by rw [(measure_0 (fun h9 => c_7 (by rw [hk1]; exact h9.2.2)))]; exact hrp⟩, by rw [ht]; exact hP, hD⟩, hS.F ht⟩) hS.2.2 dX11_measure_26
    ·
      obtain rfl : r = 0 := b_f hw b_3
      refine lv_if_eq (tgt := 25) hx hb dX11_measure_15 (by decide) (fun c_29 => ?_) (fun c_29 => absurd (by decide) c_29)
      refine lv_iconst (v := 0) hx hb dX11_measure_25 (by decide) ?_
      exact W.zret (v := 0) hx hb hr (by decide) (fun t ht hW => ⟨⟨0, (k, z, f), rfl, ⟨rfl, rfl, rfl, hI, by rw [(measure_0 (fun h9 => bne b_3 h9.2.1))], by rw [(measure_0 (fun h9 => bne b_3 h9.2.1))]; exact hrp⟩, by rw [ht]; exact hP, hD⟩, hS.F ht⟩) hS.2.2 dX11_measure_26
  ·
    obtain rfl : r = 0 := b_f hw b_1
    refine lv_if_eq (tgt := 25) hx hb dX11_measure_4 (by decide) (fun c_30 => ?_) (fun c_30 => absurd (by decide) c_30)
    refine lv_iconst (v := 0) hx hb dX11_measure_25 (by decide) ?_
    exact W.zret (v := 0) hx hb hr (by decide) (fun t ht hW => ⟨⟨0, (k, z, f), rfl, ⟨rfl, rfl, rfl, hI, by rw [(measure_0 (fun h9 => bne b_1 h9.1))], by rw [(measure_0 (fun h9 => bne b_1 h9.1))]; exact hrp⟩, by rw [ht]; exact hP, hD⟩, hS.F ht⟩) hS.2.2 dX11_measure_26
/-- the class's acts are the reference's -/
def acL (z : gS) (d : Nat → Nat) (g : Nat → Option Nat) : List hE → Prop
  | [] => True
  | e :: es => (∃ a, g es.length = some a ∧ acE z d a e) ∧ acL z d g es
/-- class and reference stand alike -/
def RR (q : Nat → ClassId) (h0 : Nat) (d : Nat → Nat) (k : Nat → Int32) (z : gS) (f : xF) (u : mS) : Prop := xI q h0 d k z f ∧ rep q d u z f ∧ (k 0 = u.1 3 ∧ k 1 = u.1 28 ∧ k 2 = u.1 38 ∧ k 3 = u.1 39) ∧ (z.2 h0).2.1 = 0 ∧ ∃ es c g, uI u es c ∧ f (d 3) = aR (q 4) 300 g ∧ acL z d g es
def itL (n : Nat) : List hE → Prop
  | [] => True
  | e :: es => ((e.1 ≠ 3 → e.1 ≠ 2 → e.2.1 < n) ∧ (e.1 = 3 → ∀ x, x ∈ e.2.2.2 → x.1 < n)) ∧ itL n es
theorem xG_it {n : Nat} {kd : Nat → Int32} {c : cfg} : ∀ {xs : List fX}, xG n kd c xs → ∀ x, x ∈ xs → x.1 < n
  | [], _, x, hx => absurd hx List.not_mem_nil
  | y :: xs, h, x, hx => by
    rcases List.mem_cons.mp hx with q | q
    · rw [q]; exact h.2.1
    · exact xG_it h.1 x q
theorem gH_it {u : mS} : ∀ {es : List hE} {c : cfg} {G : Nat → Int32}, gH u es c G → itL (u.1 3).toNatClampNeg es
  | [], _, _, _ => trivial
  | e :: es, c, G, h => by
    obtain ⟨-, -, -, h4, -, c1, G1, h6, h7, -⟩ := h
    refine ⟨⟨h4, fun q x hx => ?_⟩, gH_it h6⟩
    rcases h7 with z | z | z | z
    · exact absurd (z.1.symm.trans q) (by decide)
    · exact absurd (z.1.symm.trans q) (by decide)
    · exact absurd (z.1.symm.trans q) (by decide)
    · exact xG_it z.2.2 x hx
theorem acS_E {z w : gS} (hEz : zE z w) {a p : Nat} {l n : Int32} {ah : Option Nat} (h : acS z a p l n ah) : acS w a p l n ah := ⟨zE_tg hEz h.1, by rw [zE_o hEz h.1.1]; exact h.2⟩
theorem acF_d {z w : gS} {d d2 : Nat → Nat} {n : Nat} (hEz : zE z w) (hd : ∀ j, j < n → d2 (2000 + j) = d (2000 + j)) : ∀ {xs : List fX} {o : Option Nat}, (∀ x, x ∈ xs → x.1 < n) → acF z d o xs → acF w d2 o xs
  | [], _, _, h => h
  | x :: xs, _, hx, ⟨a, pp, ah, h1, h2, h3, h4⟩ => ⟨a, pp, ah, h1, acS_E hEz h2, by rw [hd x.1 (hx x List.mem_cons_self)]; exact zE_pc hEz h3, acF_d hEz hd (fun y hy => hx y (List.mem_cons_of_mem _ hy)) h4⟩
theorem acE_d {z w : gS} {d d2 : Nat → Nat} {n a : Nat} {e : hE} (hEz : zE z w) (hd : ∀ j, j < n → d2 (2000 + j) = d (2000 + j)) (hi : (e.1 ≠ 3 → e.1 ≠ 2 → e.2.1 < n) ∧ (e.1 = 3 → ∀ x, x ∈ e.2.2.2 → x.1 < n)) (h : acE z d a e) : acE w d2 a e := by
  rcases h with ⟨q, pp, h1, h2⟩ | ⟨q, pp, h1, h2⟩ | ⟨q, pp, h1, h2⟩ | ⟨q, h1⟩
  · exact Or.inl ⟨q, pp, acS_E hEz h1, by rw [hd _ (hi.1 (by omega) (by omega))]; exact zE_pc hEz h2⟩
  · exact Or.inr (Or.inl ⟨q, pp, acS_E hEz h1, by rw [hd _ (hi.1 (by omega) (by omega))]; exact zE_pc hEz h2⟩)
  · exact Or.inr (Or.inr (Or.inl ⟨q, pp, acS_E hEz h1, zE_pc hEz h2⟩))
  · exact Or.inr (Or.inr (Or.inr ⟨q, acF_d hEz hd (hi.2 q) h1⟩))
theorem acL_m {z w : gS} {d d2 : Nat → Nat} {n : Nat} {g g2 : Nat → Option Nat} (hEz : zE z w) (hd : ∀ j, j < n → d2 (2000 + j) = d (2000 + j)) : ∀ {es : List hE}, (∀ t, t < es.length → g2 t = g t) → itL n es → acL z d g es → acL w d2 g2 es
  | [], _, _, _ => trivial
  | e :: es, hg, hi, h => by
    obtain ⟨⟨a, a1, a2⟩, h2⟩ := h
    exact ⟨⟨a, (hg es.length (by rw [List.length_cons]; omega)).trans a1, acE_d hEz hd hi.1 a2⟩, acL_m hEz hd (fun t ht => hg t (by rw [List.length_cons]; omega)) hi.2 h2⟩
theorem acE_tg {z : gS} {d : Nat → Nat} {a : Nat} {e : hE} (h : acE z d a e) : tg z a 23 := by
  rcases h with ⟨q, pp, h1, h2⟩ | ⟨q, pp, h1, h2⟩ | ⟨q, pp, h1, h2⟩ | ⟨q, h1⟩
  · exact h1.1
  · exact h1.1
  · exact h1.1
  · revert h1
    cases e.2.2.2 with
    | nil => intro h1; exact absurd h1 (fun z => by cases z)
    | cons x xs =>
      rintro ⟨a2, pp, ah, h1, h2, -⟩
      rw [Option.some.inj h1]; exact h2.1
theorem hz_E {z w : gS} {q : Nat → ClassId} {h0 : Nat} {d : Nat → Nat} {k : Nat → Int32} {f : xF} (hI : xI q h0 d k z f) (hEz : zE z w) (h : (z.2 h0).2.1 = 0) : (w.2 h0).2.1 = 0 := by
  rw [zE_o hEz hI.2.1.1.1]; exact h
theorem zE_eq {z w : gS} (h : w = z) : zE z w := fun a ha => by rw [h]; exact ⟨ha, rfl⟩
/-- nothing is kept anew: the acts stay -/
theorem RR_st {q : Nat → ClassId} {h0 : Nat} {d d2 : Nat → Nat} {k : Nat → Int32} {z : gS} {f : xF} {u : mS} {w : xU} {u9 : mS} {es : List hE} {c : cfg} {g : Nat → Option Nat} (hI0 : xI q h0 d k z f) (hz : (z.2 h0).2.1 = 0) (hu : uI u es c) (hg : f (d 3) = aR (q 4) 300 g) (hL : acL z d g es) (hEz : zE z w.2.1) (hI : xI q h0 d2 w.1 w.2.1 w.2.2) (hrp : rep q d2 u9 w.2.1 w.2.2) (hk : w.1 0 = u9.1 3 ∧ w.1 1 = u9.1 28 ∧ w.1 2 = u9.1 38 ∧ w.1 3 = u9.1 39) (hd3 : w.2.2 (d 3) = f (d 3)) (hdd : d2 3 = d 3) (hdi : ∀ j, j < (u.1 3).toNatClampNeg → d2 (2000 + j) = d (2000 + j)) (hu9 : uI u9 es c) : RR q h0 d2 w.1 w.2.1 w.2.2 u9 := ⟨hI, hrp, hk, hz_E hI0 hEz hz, es, c, g, hu9, by rw [hdd, hd3]; exact hg, acL_m hEz hdi (fun _ _ => rfl) (gH_it hu.2.2.2.1) hL⟩
/-- the small writers -/
theorem step_small {q : Nat → ClassId} {h0 : Nat} {d : Nat → Nat} {k : Nat → Int32} {z : gS} {f : xF} {u : mS} {w : xU} {r : Int32} {R9 : Int32 × mS} (h : RR q h0 d k z f u) (hx : w.2.2 (d 3) = f (d 3) ∧ w.1 = k ∧ w.2.1 = z ∧ xI q h0 d k z w.2.2 ∧ r = R9.1 ∧ rep q d R9.2 z w.2.2) (h1 : R9.2.1 = u.1) (hu9 : ∀ es c, uI u es c → uI R9.2 es c) : r = R9.1 ∧ RR q h0 d w.1 w.2.1 w.2.2 R9.2 := by
  obtain ⟨hI, hrp, hk, hz, es, c, g, hu, hg, hL⟩ := h
  obtain ⟨x1, x2, x3, x4, x5, x6⟩ := hx
  refine ⟨x5, RR_st hI hz hu hg hL (zE_eq x3) (by rw [x2, x3]; exact x4) (by rw [x3]; exact x6) (by rw [x2, h1]; exact hk) x1 rfl (fun _ _ => rfl) (hu9 es c hu)⟩
theorem line_1 (u : mS) (i x : Int32) : (mLine u i x).2.1 = u.1 := by
  unfold mLine
  repeat' split
  all_goals rfl
theorem size_1 (u : mS) (i x y : Int32) : (mSize u i x y).2.1 = u.1 := by
  unfold mSize
  repeat' split
  all_goals rfl
theorem names_1 (u : mS) (i x : Int32) : (mNames u i x).2.1 = u.1 := by
  unfold mNames
  repeat' split
  all_goals rfl
theorem rival_1 (u : mS) (i x : Int32) : (mRival u i x).2.1 = u.1 := by
  unfold mRival
  repeat' split
  all_goals rfl
theorem column_1 (u : mS) (i x y : Int32) : (mColumn u i x y).2.1 = u.1 := by
  unfold mColumn
  repeat' split
  all_goals rfl
theorem measure_1 (u : mS) (i x : Int32) : (mMeasure u i x).2.1 = u.1 := by
  unfold mMeasure
  repeat' split
  all_goals rfl
/-- the makers -/
theorem step_mk {q : Nat → ClassId} {h0 : Nat} {d : Nat → Nat} {k : Nat → Int32} {z : gS} {f : xF} {u : mS} {w : xU} {r : Int32} {R9 : Int32 × mS} (h : RR q h0 d k z f u) (hx : mkP q h0 d k z f u R9 r w) (h1 : ∀ j, j ≠ 3 → R9.2.1 j = u.1 j) (hu9 : ∀ es c, uI u es c → uI R9.2 es c) : r = R9.1 ∧ ∃ d2, RR q h0 d2 w.1 w.2.1 w.2.2 R9.2 := by
  obtain ⟨hI, hrp, hk, hz, es, c, g, hu, hg, hL⟩ := h
  obtain ⟨d2, x1, x2, x3, x4, x5, x6, x7, x8, x9⟩ := hx
  refine ⟨x5, d2, RR_st hI hz hu hg hL x3 x4 x6 ⟨x7, ?_, ?_, ?_⟩ x9 (x1 3 (by decide)) (fun j hj => (x2 j hj).1) (hu9 es c hu)⟩
  · rw [x8 1 (by decide), h1 28 (by decide)]; exact hk.2.1
  · rw [x8 2 (by decide), h1 38 (by decide)]; exact hk.2.2.1
  · rw [x8 3 (by decide), h1 39 (by decide)]; exact hk.2.2.2
theorem made_o {u : mS} {k : Int32} {j : Nat} (h : j ≠ 3) : (mMade u k).1 j = u.1 j := by rw [made_1, if_neg h]
theorem story_1 (u : mS) (n : Int32) {j : Nat} (h : j ≠ 3) : (mStory u n).2.1 j = u.1 j := by
  unfold mStory
  repeat' split
  all_goals first | rfl | exact made_o h
theorem head_1 (u : mS) (a b c : Int32) {j : Nat} (h : j ≠ 3) : (mHead u a b c).2.1 j = u.1 j := by
  unfold mHead
  repeat' split
  all_goals first | rfl | exact made_o h
theorem picture_1 (u : mS) {j : Nat} (h : j ≠ 3) : (mPicture u).2.1 j = u.1 j := by
  unfold mPicture
  repeat' split
  all_goals first | rfl | exact made_o h
theorem filler_1 (u : mS) (a b : Int32) {j : Nat} (h : j ≠ 3) : (mFiller u a b).2.1 j = u.1 j := by
  unfold mFiller
  repeat' split
  all_goals first | rfl | exact made_o h
theorem paid_1 (u : mS) (b p x l y z m : Int32) {j : Nat} (h : j ≠ 3) : (mPaid u b p x l y z m).2.1 j = u.1 j := by
  unfold mPaid
  repeat' split
  all_goals first | rfl | exact made_o h
theorem notice_1 (u : mS) (a b : Int32) {j : Nat} (h : j ≠ 3) : (mNoticeX u a b).2.1 j = u.1 j := by
  unfold mNoticeX
  repeat' split
  all_goals first | rfl | exact made_o h
/-- edition -/
theorem step_ed {q : Nat → ClassId} {h0 : Nat} {d : Nat → Nat} {k : Nat → Int32} {z : gS} {f : xF} {u : mS} {w : xU} {r r2 : Int32} {u9 : mS} (h : RR q h0 d k z f u) (hx : edP q h0 d k z f u r w) (hm : (r2, u9) = mEdition u) (h40 : ∀ p, p < 12 → u.2 40 p = 0 ∨ u.2 40 p = 1) : r = r2 ∧ RR q h0 d w.1 w.2.1 w.2.2 u9 := by
  obtain ⟨hI, hrp, hk, hz, es, c, g, hu, hg, hL⟩ := h
  have he := (clE_e hu.1 hu.2.2.2.2.2.1 (uI_fi hu) h40 12 (Nat.le_refl _)).1
  have hu9 := uI_edition hu
  have hed := hu.2.2.2.2.2.2.2.2.2.2
  obtain ⟨e1, e2⟩ := Prod.mk.inj hm
  rw [← eqP (mEdition u)] at hm
  obtain ⟨m1, m2⟩ := Prod.mk.inj hm
  rw [← m2] at hu9
  have hup : mEdition u = if u.1 39 = 7 then (-1, u) else ((mset (endP u 12) 39 ((endP u 12).1 39 + 1)).1 39, mset (endP u 12) 39 ((endP u 12).1 39 + 1)) := rfl
  rcases hx with ⟨x1, x2, x3⟩ | ⟨x1, x2, x3, x4, x5, x6, x7⟩
  · have h7 : u.1 39 = 7 := (ed_7 hed).1.mp (by rw [← hk.2.2.2]; exact x1)
    rw [hup, if_pos h7] at m1 m2
    rw [m1, x2, m2, x3]
    exact ⟨rfl, hI, hrp, hk, hz, es, c, g, hu, hg, hL⟩
  · have h7 : ¬ u.1 39 = 7 := fun q => (ed_7 hed).1.mpr q (by rw [← hk.2.2.2]; exact x1)
    have ep := endP_k u 12
    rw [hup, if_neg h7] at m1 m2
    generalize endP u 12 = v at m1 m2 he ep
    have w1 : ∀ j, j ≠ 39 → u9.1 j = u.1 j := fun j q => by rw [m2]; show (if j = 39 then _ else v.1 j) = _; rw [if_neg q, ep.1]
    have w39 : u9.1 39 = u.1 39 + 1 := by rw [m2]; show (mset v 39 (v.1 39 + 1)).1 39 = _; rw [mset_same, ep.1]
    refine ⟨?_, RR_st hI hz hu hg hL (zE_eq x4) (by rw [x4]; exact x5) ?_ ?_ x7 rfl (fun _ _ => rfl) hu9⟩
    · rw [x2, m1, hk.2.2.2]
      show _ = (mset v 39 (v.1 39 + 1)).1 39
      rw [mset_same, ep.1]
    · rw [x4]
      rw [he] at x6
      exact rep_rows x6 (by rw [w1 3 (by decide), ep.1]) (fun r _ => by rw [m2]; rfl)
    · rw [x3]
      refine ⟨?_, ?_, ?_, ?_⟩
      · rw [w1 3 (by decide)]; exact hk.1
      · rw [w1 28 (by decide)]; exact hk.2.1
      · rw [w1 38 (by decide)]; exact hk.2.2.1
      · rw [w39, ← hk.2.2.2]; rfl
theorem step_dy {q : Nat → ClassId} {h0 : Nat} {d : Nat → Nat} {k : Nat → Int32} {z : gS} {f : xF} {u : mS} {w : xU} {r r2 : Int32} {u9 : mS} (h : RR q h0 d k z f u) (hx : dyP q h0 d k z f u r w) (hm : (r2, u9) = mDay u) (h40 : ∀ p, p < 12 → u.2 40 p = 0 ∨ u.2 40 p = 1) : r = r2 ∧ RR q h0 d w.1 w.2.1 w.2.2 u9 := by
  obtain ⟨hI, hrp, hk, hz, es, c, g, hu, hg, hL⟩ := h
  have he := (clE_e hu.1 hu.2.2.2.2.2.1 (uI_fi hu) h40 12 (Nat.le_refl _)).1
  have hdy := uI_day hu
  have hup : mDay u = if u.1 38 = 399 then (-1, u) else ((dayS (endP u 12) (u.1 3).toNatClampNeg).1 38, dayS (endP u 12) (u.1 3).toNatClampNeg) := rfl
  have m2 : u9 = (mDay u).2 := by rw [← hm]
  have m1 : r2 = (mDay u).1 := by rw [← hm]
  rcases hx with ⟨x1, x2, x3⟩ | ⟨x1, x2, x3, x4, x5, x6, g9, x7⟩
  · have h7 : u.1 38 = 399 := (dy_399 hu.1.2.1).mp (by rw [← hk.2.2.1]; exact x1)
    rw [hup, if_pos h7] at m1 m2
    rw [m1, x2, m2, x3]
    exact ⟨rfl, hI, hrp, hk, hz, es, c, g, hu, hg, hL⟩
  · have h7 : ¬ u.1 38 = 399 := fun q => (dy_399 hu.1.2.1).mpr q (by rw [← hk.2.2.1]; exact x1)
    rcases hdy with ⟨q, -⟩ | ⟨-, d1, d2⟩
    · exact absurd q h7
    · rw [← m2] at d2
      rw [d1] at m2
      have ep := endP_k u 12
      rw [hup, if_neg h7] at m1
      have e3 : (endP u 12).1 3 = u.1 3 := by rw [ep.1]
      generalize endP u 12 = v at m1 m2 he ep e3
      obtain ⟨s1, s2, s3, s4, s5⟩ := dayS_1 v (u.1 3).toNatClampNeg
      refine ⟨?_, by rw [x4]; exact x5, ?_, ?_, by rw [x4]; exact hz, [], fun _ => [], g9, d2, x7, trivial⟩
      · rw [x2, m1, hk.2.2.1]
        show _ = (dayS v (u.1 3).toNatClampNeg).1 38
        rw [s3, ep.1]
      · rw [x4, m2]
        rw [he] at x6
        have z9 := rep_dayS x6
        rw [e3] at z9
        exact z9
      · rw [x3, m2, s5, s1, s3, s4, ep.1]
        refine ⟨hk.1, rfl, ?_, rfl⟩
        rw [← hk.2.2.1]; rfl
theorem s1_ne {x : Int32} (h : bw x 0 300 = true) : ¬ x + 1 = x := fun e => by
  have h1 := bw_iff.mp h
  have h3 : (300 : Int32).toInt = 300 := rfl
  rw [i0, h3] at h1
  have e2 := congrArg Int32.toInt e
  rw [addI (by rw [i1]; omega) (by rw [i1]; omega), i1] at e2
  omega
/-- a call that keeps no act -/
theorem act_no {q : Nat → ClassId} {h0 : Nat} {d : Nat → Nat} {k : Nat → Int32} {z : gS} {f : xF} {u : mS} {w : xU} {R9 : Int32 × mS} {E : hE → Prop} {r : Int32} {u9 : mS} (h : RR q h0 d k z f u) (hx : actP q h0 d k z f R9 E r w) (h28 : R9.2.1 28 = u.1 28) (hrp9 : rep q d u9 w.2.1 w.2.2) (h9 : u9.1 3 = u.1 3 ∧ u9.1 28 = u.1 28 ∧ u9.1 38 = u.1 38 ∧ u9.1 39 = u.1 39) (hu9 : ∀ es c, uI u es c → uI u9 es c) : RR q h0 d w.1 w.2.1 w.2.2 u9 := by
  obtain ⟨hI, hrp, hk, hz, es, c, g, hu, hg, hL⟩ := h
  obtain ⟨x1, x2, x3, x4, x5, x6, x7⟩ := hx
  have hd3 : w.2.2 (d 3) = f (d 3) := by
    rcases x7 with ⟨y, -⟩ | ⟨g2, a, e, y1, y2, y3, -⟩
    · exact y
    · exact absurd (by rw [← y3, x6, h28, hk.2.1]) (s1_ne hI.1.2.1)
  refine RR_st hI hz hu hg hL x1 x2 hrp9 ⟨?_, ?_, ?_, ?_⟩ hd3 rfl (fun _ _ => rfl) (hu9 es c hu)
  · rw [x5 0 (by decide), h9.1]; exact hk.1
  · rw [x6, h28, h9.2.1]
  · rw [x5 2 (by decide), h9.2.2.1]; exact hk.2.2.1
  · rw [x5 3 (by decide), h9.2.2.2]; exact hk.2.2.2
/-- a call that keeps one more act -/
theorem act_ye {q : Nat → ClassId} {h0 : Nat} {d : Nat → Nat} {k : Nat → Int32} {z : gS} {f : xF} {u : mS} {w : xU} {R9 : Int32 × mS} {E : hE → Prop} {r : Int32} {u9 : mS} {e9 : hE} (h : RR q h0 d k z f u) (hx : actP q h0 d k z f R9 E r w) (h28 : R9.2.1 28 = u.1 28 + 1) (hE9 : ∀ e, E e → e = e9) (hrp9 : rep q d u9 w.2.1 w.2.2) (h9 : u9.1 3 = u.1 3 ∧ u9.1 28 = u.1 28 + 1 ∧ u9.1 38 = u.1 38 ∧ u9.1 39 = u.1 39) (hu9 : ∀ es c, uI u es c → ∃ c2, uI u9 (e9 :: es) c2) : RR q h0 d w.1 w.2.1 w.2.2 u9 := by
  obtain ⟨hI, hrp, hk, hz, es, c, g, hu, hg, hL⟩ := h
  obtain ⟨x1, x2, x3, x4, x5, x6, x7⟩ := hx
  obtain ⟨c2, hu2⟩ := hu9 es c hu
  rcases x7 with ⟨y, y2⟩ | ⟨g2, a, e, y1, y2, y3, y4, y5⟩
  · exact absurd (by rw [hk.2.1, ← h28, ← x6, y2, hk.2.1]) (s1_ne hI.1.2.1)
  · have eg : g2 = g := (aR_inj (y1.symm.trans hg)).2
    have ek : (k 1).toNatClampNeg = es.length := by rw [hk.2.1]; exact len28 hu.2.2.1
    rw [hE9 e y5] at y4
    rw [eg, ek] at y2
    refine ⟨x2, hrp9, ⟨?_, ?_, ?_, ?_⟩, hz_E hI x1 hz, e9 :: es, c2, va_up g es.length (some a), hu2, y2, ⟨a, if_pos rfl, y4⟩, acL_m x1 (fun _ _ => rfl) (fun t ht => if_neg (by omega)) (gH_it hu.2.2.2.1) hL⟩
    · rw [x5 0 (by decide), h9.1]; exact hk.1
    · rw [x6, h28, h9.2.1]
    · rw [x5 2 (by decide), h9.2.2.1]; exact hk.2.2.1
    · rw [x5 3 (by decide), h9.2.2.2]; exact hk.2.2.2
theorem acts28 {u : mS} {a b c d e f g : Int32} : (mActs u a b c d e f g).1 28 = u.1 28 + 1 := by rw [mActs_1, if_pos rfl]
theorem acts_o {u : mS} {a b c d e f g : Int32} {j : Nat} (h : j ≠ 28) : (mActs u a b c d e f g).1 j = u.1 j := by rw [mActs_1, if_neg h]
/-- rule -/
theorem step_rule {q : Nat → ClassId} {h0 : Nat} {d : Nat → Nat} {k : Nat → Int32} {z : gS} {f : xF} {u : mS} {w : xU} {p0 p1 p2 r r2 : Int32} {u9 : mS} (h : RR q h0 d k z f u) (hx : actP q h0 d k z f (mRule u p0 p1 p2) (fun e => ∃ P2 X2 Y2, e = (2, 0, (P2, X2, Y2, 1, 1), []) ∧ p0 = nI P2 ∧ p1 = nI X2 ∧ p2 = nI Y2 ∧ P2 < 12 ∧ X2 < 8 ∧ Y2 < 60) r w) (hm : (r2, u9) = mRule u p0 p1 p2) : r = r2 ∧ RR q h0 d w.1 w.2.1 w.2.2 u9 := by
  have e1 : r2 = (mRule u p0 p1 p2).1 := by rw [← hm]
  have e2 : u9 = (mRule u p0 p1 p2).2 := by rw [← hm]
  refine ⟨by rw [e1]; exact hx.2.2.1, ?_⟩
  have hrp9 : rep q d u9 w.2.1 w.2.2 := by rw [e2]; exact hx.2.2.2.1
  by_cases hc : mCell u p0 p1 p2 = true ∧ u.2 2 (480 * p0 + 60 * p1 + p2).toNatClampNeg = (-2) ∧ ¬ u.1 28 = 300
  · have em : mRule u p0 p1 p2 = (1, mActs (mst u 2 (480 * p0 + 60 * p1 + p2) 100) 2 p0 p1 p2 0 0 0) := by
      unfold mRule
      rw [if_pos hc.1, if_pos hc.2.1, if_neg hc.2.2]
    rw [em] at e2 hx
    have e2 : u9 = mActs (mst u 2 (480 * p0 + 60 * p1 + p2) 100) 2 p0 p1 p2 0 0 0 := e2
    obtain ⟨hI, hrp, hk, hz, es0, c0, g0, hu0, -⟩ := id h
    obtain ⟨q1, q2, q3⟩ := mCell_c hc.1
    obtain ⟨P, hP, -, eP⟩ := exN q1 (by decide)
    obtain ⟨X, hX, -, eX⟩ := exN q2 (by decide)
    obtain ⟨Y, hY, eY⟩ := exL hu0.1.2.2.1 hc.1
    have h11 : (11 : Int32).toInt = 11 := rfl
    have h7 : (7 : Int32).toInt = 7 := rfl
    subst eP eX eY
    refine act_ye (e9 := (2, 0, (P, X, Y, 1, 1), [])) h hx acts28 (fun e ⟨P2, X2, Y2, a1, a2, a3, a4, a5, a6, a7⟩ => ?_) hrp9 ?_ (fun es c hu => ⟨c, ?_⟩)
    · rw [a1, (nI_inj (by omega) (by omega)).mp a2, (nI_inj (by omega) (by omega)).mp a3, (nI_inj (by omega) (by omega)).mp a4]
    · rw [e2]
      exact ⟨acts_o (by decide), acts28, acts_o (by decide), acts_o (by decide)⟩
    · rw [e2]
      have hcel := (mC_cel hu.1 (by omega) (by omega) (by omega)).mp hc.1
      exact uI_rule hu hc.2.2 (by omega) hcel.1 hcel.2 (by rw [← ix_c (by omega) (by omega) hY]; exact hc.2.1)
  · have em : (mRule u p0 p1 p2).2 = u := by
      unfold mRule
      by_cases a : mCell u p0 p1 p2 = true
      · rw [if_pos a]
        by_cases b : u.2 2 (480 * p0 + 60 * p1 + p2).toNatClampNeg = (-2)
        · rw [if_pos b]
          by_cases e : u.1 28 = 300
          · rw [if_pos e]
          · exact absurd ⟨a, b, e⟩ hc
        · rw [if_neg b]
      · rw [if_neg a]
    rw [em] at e2
    exact act_no h hx (by rw [em]) hrp9 (by rw [e2]; exact ⟨rfl, rfl, rfl, rfl⟩) (fun es c hu => by rw [e2]; exact hu)
/-- lift -/
theorem step_lift {q : Nat → ClassId} {h0 : Nat} {d : Nat → Nat} {k : Nat → Int32} {z : gS} {f : xF} {u : mS} {w : xU} {p0 r r2 : Int32} {u9 : mS} {P X Y D N : Nat} (h : RR q h0 d k z f u) (hx : actP q h0 d k z f (mLift u p0 P X Y D N) (fun e => e = (1, p0.toNatClampNeg, (P, X, Y, D, N), [])) r w) (hA : lfA u p0 P X Y D N) (hm : (r2, u9) = mLift u p0 P X Y D N) : r = r2 ∧ RR q h0 d w.1 w.2.1 w.2.2 u9 := by
  have e1 : r2 = (mLift u p0 P X Y D N).1 := by rw [← hm]
  have e2 : u9 = (mLift u p0 P X Y D N).2 := by rw [← hm]
  refine ⟨by rw [e1]; exact hx.2.2.1, ?_⟩
  have hrp9 : rep q d u9 w.2.1 w.2.2 := by rw [e2]; exact hx.2.2.2.1
  by_cases hc : bw p0 0 (u.1 3 - 1) = true ∧ ¬ u.2 22 p0.toNatClampNeg = 0 ∧ ¬ u.1 28 = 300
  · obtain ⟨hI, hrp, hk, hz, es0, c0, g0, hu0, -⟩ := id h
    have hn := n80 hu0.1
    obtain ⟨a, ea, ha, -⟩ := itN hu0.1 hc.1
    obtain ⟨hin, f1, f2, f3, f4, f5⟩ := hA hc.1 hc.2.1
    subst ea
    rw [nI_clamp (n := a) (by omega)] at f1 f2 f3 f4 f5 hc hx
    have em : (mLift u (nI a) P X Y D N).2 = mUnstand (mActs u 1 (nI a) (nI P) (nI X) (nI Y) (nI D) (nI N)) (nI a) P X Y D N := by
      unfold mLift
      rw [if_pos hc.1, nI_clamp (n := a) (by omega), if_neg hc.2.1, if_neg hc.2.2]
      dsimp only
      rw [add_sub1, f1, f2, f3, f4, f5]
    have key : ∀ es c, uI u es c → ∃ l, c a = (P, X, Y, D, N) :: l := fun es c hu => by
      have g := uI_g hu
      have ec := g.2.2.2.1 a (by omega)
      cases hl : c a with
      | nil =>
        rw [hl] at ec
        exact absurd ec.1 hc.2.1
      | cons s l =>
        refine ⟨l, ?_⟩
        rw [hl, List.length_cons] at ec
        have h6 := g.2.2.2.2.2 a
        rw [hl, List.length_cons] at h6
        have ks := (g.2.2.1 a s (by rw [hl]; exact List.mem_cons_self)).1
        rw [ec.1, dn_e (by omega), Nat.add_sub_cancel, ix6, nI_clamp (by omega)] at f1 f2 f3 f4 f5
        rw [slE_u (r := s) (s := (P, X, Y, D, N)) ks ⟨hin.1, hin.2.1, hin.2.2.2.1, hin.2.2.1, hin.2.2.2.2.1⟩ ec.2.1 ⟨f1, f2, f3, f4, f5⟩]
    refine act_ye (e9 := (1, a, (P, X, Y, D, N), [])) h hx (by rw [em]; exact acts28) (fun e q => q) hrp9 ?_ (fun es c hu => ?_)
    · rw [e2, em, mUnstand_1]
      exact ⟨acts_o (by decide), acts28, acts_o (by decide), acts_o (by decide)⟩
    · obtain ⟨l, hl⟩ := key es c hu
      rw [e2, em]
      exact ⟨_, uI_lift hu hc.2.2 ha hl⟩
  · have em : (mLift u p0 P X Y D N).2 = u := by
      unfold mLift
      by_cases a : bw p0 0 (u.1 3 - 1) = true
      · rw [if_pos a]
        by_cases b : u.2 22 p0.toNatClampNeg = 0
        · rw [if_pos b]
        · rw [if_neg b]
          by_cases e : u.1 28 = 300
          · rw [if_pos e]
          · exact absurd ⟨a, b, e⟩ hc
      · rw [if_neg a]
    rw [em] at e2
    exact act_no h hx (by rw [em]) hrp9 (by rw [e2]; exact ⟨rfl, rfl, rfl, rfl⟩) (fun es c hu => by rw [e2]; exact hu)
/-- fill -/
theorem step_fill {q : Nat → ClassId} {h0 : Nat} {d : Nat → Nat} {k : Nat → Int32} {z : gS} {f : xF} {u : mS} {w : xU} {p0 r r2 : Int32} {u9 : mS} (h : RR q h0 d k z f u) (hx : flP q h0 d k z f u p0 r w) (hm : flX u p0 r2 u9) : r = r2 ∧ RR q h0 d w.1 w.2.1 w.2.2 u9 := by
  rcases hx with ⟨x1, x2, x3⟩ | ⟨x1, x2, v, xs, x3, x4⟩
  · rcases hm with ⟨-, m2, m3⟩ | ⟨m1, m2, -⟩
    · rw [x2, m2, x3, m3]; exact ⟨rfl, h⟩
    · rcases x1 with q | q
      · exact absurd m1 q
      · exact absurd q m2
  · rcases hm with ⟨m1, -⟩ | ⟨-, -, vc, ys, m3, m4, m5, m6⟩
    · rcases m1 with q | q
      · exact absurd x1 q
      · exact absurd q x2
    · have e := m3.symm.trans x3
      obtain ⟨ev, ex⟩ := Prod.mk.inj e
      subst ev ex
      obtain ⟨hI, hrp, hk, hz, es0, c0, g0, hu0, -⟩ := id h
      obtain ⟨P, hP, -, eP⟩ := exN x1 (by decide)
      have h11 : (11 : Int32).toInt = 11 := rfl
      have hPc : p0.toNatClampNeg = P := by rw [eP, nI_clamp (by omega)]
      rw [hPc] at m3
      obtain ⟨f0, f2, f3, f4⟩ := flN_Q hu0.1 (P := P) (by omega) 8 (Nat.le_refl _)
      rw [m3] at f0 f2 f3 f4
      have ek := fillR_k u ys
      rcases m6 with ⟨y1, y2, y3⟩ | ⟨y1, y2, y3⟩
      · rcases x4 with ⟨-, x5⟩ | ⟨z1, -⟩
        · have ev : rep q d u w.2.1 w.2.2 := by
            rw [y1] at m4
            exact rep_rows x5.2.2.2.1 (congrFun m4.1 3) (fun r hr => m4.2 r (by omega))
          rw [y2, y3]
          have h28 : vc.1 28 = u.1 28 := by rw [← m4.1, ek.1]
          exact ⟨x5.2.2.1, act_no h x5 h28 ev ⟨rfl, rfl, rfl, rfl⟩ (fun _ _ hu => hu)⟩
        · exact absurd y1 z1
      · rcases x4 with ⟨z1, -⟩ | ⟨-, x5⟩
        · exact absurd z1 y1
        · rw [y2, y3]
          have h1 : ∀ j, vc.1 j = u.1 j := fun j => by rw [← m4.1, ek.1]
          have f1 : ∀ j, j ≠ 28 → j ≠ 36 → (mFillE u ys).1 j = u.1 j := fun j j1 j2 => by
            unfold mFillE mset
            dsimp only
            rw [if_neg j2, mActs_1, if_neg j1, ek.1]
          have f28 : (mFillE u ys).1 28 = u.1 28 + 1 := by
            unfold mFillE mset
            dsimp only
            rw [if_neg (by decide), mActs_1, if_pos rfl, ek.1]
          refine ⟨x5.2.2.1, act_ye (e9 := (3, 0, (0, 0, 0, 0, 0), ys)) h x5 (by rw [acts28, h1]) (fun e q => q) ?_ ⟨f1 3 (by decide) (by decide), f28, f1 38 (by decide) (by decide), f1 39 (by decide) (by decide)⟩ (fun es c hu => ⟨_, uI_fill hu x2 m5 f3 f4⟩)⟩
          refine rep_rows x5.2.2.2.1 ?_ (fun r hr => ?_)
          · rw [f1 3 (by decide) (by decide), acts_o (by decide), h1]
          · unfold mFillE
            rw [mset_2, mActs_k _ _ _ _ _ _ _ _ (by omega), mActs_k _ _ _ _ _ _ _ _ (by omega)]
            exact m4.2 r (by omega)
