/-- the rows' ranges -/
def rI (u : mS) : Prop := bw (u.1 3) 0 80 = true ∧ bw (u.1 38) 0 399 = true ∧ (∀ j, j < 96 → bw (u.2 0 j) 0 60 = true) ∧ (∀ j, j < 96 → bw (u.2 43 j) 0 60 = true) ∧ (∀ j, j < 80 → bw (u.2 15 j) 0 80 = true) ∧ (∀ j, j < 80 → bw (u.2 17 j) 0 4 = true) ∧ (∀ j, j < 5760 → mThing (u.2 2 j) = true → bw (u.2 2 j) 0 79 = true) ∧ (∀ j, j < 480 → ∃ X D : Nat, u.2 24 j = nI X ∧ u.2 26 j = nI D ∧ X + D ≤ 8)
def kB (u : mS) : Prop := ∀ j, j < 80 → u.2 4 j = 3 → bw (u.2 10 j) 0 9 = true
/-- the reference's invariant -/
def mInv (u : mS) : Prop := rI u ∧ kB u ∧ ∃ es c, mH u es c
/-- it is kept, and so are the two counters and the rivals -/
def mKp (u w : mS) : Prop := mInv w ∧ w.1 38 = u.1 38 ∧ w.1 39 = u.1 39 ∧ w.2 20 = u.2 20
theorem mKp_rf {u : mS} (h : mInv u) : mKp u u := ⟨h, rfl, rfl, rfl⟩
def kR (k : Nat) : Prop := k = 0 ∨ k = 2 ∨ k = 4 ∨ k = 10 ∨ k = 15 ∨ k = 17 ∨ (22 ≤ k ∧ k ≤ 37) ∨ k = 43
def kI (k : Nat) : Prop := k = 3 ∨ k = 28 ∨ k = 36 ∨ k = 38
theorem rI_c {u w : mS} (h : rI u) (h1 : ∀ k, kI k → w.1 k = u.1 k) (h2 : ∀ k, kR k → w.2 k = u.2 k) : rI w := by
  unfold rI at h ⊢
  rw [h1 3 (Or.inl rfl), h1 38 (Or.inr (Or.inr (Or.inr rfl))), h2 0 (by unfold kR; omega), h2 43 (by unfold kR; omega), h2 15 (by unfold kR; omega), h2 17 (by unfold kR; omega), h2 2 (by unfold kR; omega), h2 24 (by unfold kR; omega), h2 26 (by unfold kR; omega)]
  exact h
theorem kB_c {u w : mS} (h : kB u) (h4 : w.2 4 = u.2 4) (h10 : w.2 10 = u.2 10) : kB w := by
  unfold kB at h ⊢
  rw [h4, h10]; exact h
theorem mH_c {u w : mS} {es : List hE} {c : cfg} (h : mH u es c) (h3 : w.1 3 = u.1 3) (h28 : w.1 28 = u.1 28) (h36 : w.1 36 = u.1 36) (h4 : w.2 4 = u.2 4) (hr : ∀ k, 22 ≤ k → k ≤ 37 → w.2 k = u.2 k) : mH w es c := by
  obtain ⟨a1, a2, a3, a4, a5, a6⟩ := h
  refine ⟨a1, h28.trans a2, h36.trans a3, by rw [h3, h4]; exact a4, aM_rows (fun k k1 k2 => hr k (by omega) k2) a5, cM_rows (fun k k1 k2 => hr k k1 (by omega)) a6⟩
theorem mInv_c {u w : mS} (h : mInv u) (h1 : ∀ k, kI k → w.1 k = u.1 k) (h2 : ∀ k, kR k → w.2 k = u.2 k) : mInv w := by
  obtain ⟨a, b, es, c, d⟩ := h
  exact ⟨rI_c a h1 h2, kB_c b (h2 4 (by unfold kR; omega)) (h2 10 (by unfold kR; omega)), es, c, mH_c d (h1 3 (by unfold kI; omega)) (h1 28 (by unfold kI; omega)) (h1 36 (by unfold kI; omega)) (h2 4 (by unfold kR; omega)) (fun k k1 k2 => h2 k (by unfold kR; omega))⟩
theorem mKp_E {u w : mS} (h : mInv u) (he : mE u w) : mKp u w := ⟨mInv_c h (fun k hk => he.2 k (by unfold kI at hk; omega) (by unfold kI at hk; omega) (by unfold kI at hk; omega)) (fun k _ => by rw [he.1]), he.2 38 (by decide) (by decide) (by decide), he.2 39 (by decide) (by decide) (by decide), by rw [he.1]⟩
theorem mKp_Pl {u w : mS} (h : mInv u) (he : mPl u w) : mKp u w := by
  obtain ⟨⟨r1, r2, r3, r4, r5, r6, r7, r8⟩, b, es, c, d⟩ := h
  have e1 := he.1
  have e2 := he.2.1
  refine ⟨⟨⟨?_, ?_, ?_, he.2.2, ?_, ?_, ?_, ?_⟩, kB_c b (e2 4 (by omega)) (e2 10 (by omega)), es, c, mH_c d (e1 3 (by decide) (by decide) (by decide)) (e1 28 (by decide) (by decide) (by decide)) (e1 36 (by decide) (by decide) (by decide)) (e2 4 (by omega)) (fun k k1 k2 => e2 k (by omega))⟩, e1 38 (by decide) (by decide) (by decide), e1 39 (by decide) (by decide) (by decide), e2 20 (by omega)⟩
  · rw [e1 3 (by decide) (by decide) (by decide)]; exact r1
  · rw [e1 38 (by decide) (by decide) (by decide)]; exact r2
  · rw [e2 0 (by omega)]; exact r3
  · rw [e2 15 (by omega)]; exact r5
  · rw [e2 17 (by omega)]; exact r6
  · rw [e2 2 (by omega)]; exact r7
  · rw [e2 24 (by omega), e2 26 (by omega)]; exact r8
/-- edition -/
theorem mInv_end {u : mS} (h : mInv u) (n : Nat) : mInv (endP u n) := mInv_c h (fun k _ => by rw [(endP_k u n).1]) (fun k hk => (endP_k u n).2 k (by unfold kR at hk; omega) (by unfold kR at hk; omega))
theorem ed_inv {u w : mS} {r : Int32} (h : mInv u) (he : (r, w) = mEdition u) : mInv w ∧ w.1 38 = u.1 38 ∧ w.2 20 = u.2 20 ∧ ((u.1 39 = 7 ∧ r = -1 ∧ w.1 39 = u.1 39) ∨ (¬ u.1 39 = 7 ∧ r = u.1 39 + 1 ∧ w.1 39 = u.1 39 + 1)) := by
  unfold mEdition at he
  split at he
  · rename_i q
    obtain ⟨e1, e2⟩ := Prod.mk.inj he
    subst e2
    exact ⟨h, rfl, rfl, Or.inl ⟨q, e1, rfl⟩⟩
  · rename_i q
    have hi := mInv_end h 12
    have hk := endP_k u 12
    generalize endP u 12 = z at he hi hk
    obtain ⟨e1, e2⟩ := Prod.mk.inj he
    subst e2
    refine ⟨mInv_c hi (fun k hk2 => ?_) (fun k _ => rfl), by rw [← hk.1]; rfl, hk.2 20 (by decide) (by decide), Or.inr ⟨q, ?_, ?_⟩⟩
    · unfold mset; exact if_neg (by unfold kI at hk2; omega)
    · rw [e1, mset_same, hk.1]
    · rw [mset_same, hk.1]
/-- day -/
theorem d399 {x : Int32} (h : bw x 0 399 = true) (h9 : ¬ x = 399) : bw (x + 1) 0 399 = true := by
  have e9 : (399 : Int32).toInt = 399 := rfl
  have h1 := bw_iff.mp h
  rw [i0, e9] at h1
  have h2 : ¬ x.toInt = 399 := fun e => h9 (sw_in e.symm e9)
  rw [bw_iff, i0, e9, addI (by rw [i1]; omega) (by rw [i1]; omega), i1]; omega
theorem dayS_k (w : mS) (K : Nat) {k : Nat} (h1 : k ≠ 2) (h2 : k ≠ 22) : (dayS w K).2 k = w.2 k := by
  unfold dayS mForget
  rw [mset_2, mset_2, mput_other h2, mput_other h1, mset_2, mset_2]
theorem dayS_2 (w : mS) (K : Nat) : (dayS w K).2 2 = fillF (w.2 2) 5760 (-2) := by
  unfold dayS mForget
  rw [mset_2, mset_2, mput_other (by decide), mput_at]
theorem dayS_22 (w : mS) (K : Nat) : (dayS w K).2 22 = fillF (w.2 22) K 0 := by
  unfold dayS mForget
  rw [mset_2, mset_2]
  unfold mput
  dsimp only
  rw [if_pos rfl]
theorem dayS_1 (w : mS) (K : Nat) : (dayS w K).1 28 = 0 ∧ (dayS w K).1 36 = 0 ∧ (dayS w K).1 38 = w.1 38 + 1 ∧ (dayS w K).1 39 = 0 ∧ (dayS w K).1 3 = w.1 3 := ⟨rfl, rfl, rfl, rfl, rfl⟩
theorem mInv_day {u : mS} (h : mInv u) (h9 : ¬ u.1 38 = 399) : mInv (dayS u (u.1 3).toNatClampNeg) := by
  obtain ⟨⟨r1, r2, r3, r4, r5, r6, r7, r8⟩, b, es, c, d⟩ := h
  obtain ⟨d1, d2, d3, d4, d5⟩ := dayS_1 u (u.1 3).toNatClampNeg
  obtain ⟨e1, e2, e3⟩ := nI_of_bw r1
  have h80 : (80 : Int32).toInt = 80 := rfl
  refine ⟨⟨?_, ?_, ?_, ?_, ?_, ?_, ?_, ?_⟩, kB_c b (dayS_k _ _ (by decide) (by decide)) (dayS_k _ _ (by decide) (by decide)), [], fun _ => [], ?_⟩
  · rw [d5]; exact r1
  · rw [d3]; exact d399 r2 h9
  · rw [dayS_k _ _ (by decide) (by decide)]; exact r3
  · rw [dayS_k _ _ (by decide) (by decide)]; exact r4
  · rw [dayS_k _ _ (by decide) (by decide)]; exact r5
  · rw [dayS_k _ _ (by decide) (by decide)]; exact r6
  · intro j hj
    rw [dayS_2]
    unfold fillF
    rw [if_pos hj]
    intro q
    exact absurd q (by decide)
  · rw [dayS_k _ _ (by decide) (by decide), dayS_k _ _ (by decide) (by decide)]; exact r8
  · refine ⟨Nat.zero_le _, d1, d2, fun _ => rfl, trivial, fun a ha => ⟨?_, trivial⟩⟩
    rw [dayS_22]
    unfold fillF
    split
    · rfl
    · rename_i q
      rw [(d.2.2.2.2.2 a ha).1, ((hOK_c d.2.2.2.1) a).1 (by omega)]
theorem day_inv {u w : mS} {r : Int32} (h : mInv u) (he : (r, w) = mDay u) : mInv w ∧ w.2 20 = u.2 20 ∧ ((u.1 38 = 399 ∧ r = -1 ∧ w.1 38 = u.1 38 ∧ w.1 39 = u.1 39) ∨ (¬ u.1 38 = 399 ∧ r = u.1 38 + 1 ∧ w.1 38 = u.1 38 + 1 ∧ w.1 39 = 0)) := by
  unfold mDay at he
  split at he
  · rename_i q
    obtain ⟨e1, e2⟩ := Prod.mk.inj he
    subst e2
    exact ⟨h, rfl, Or.inl ⟨q, e1, rfl, rfl⟩⟩
  · rename_i q
    have hi := mInv_end h 12
    have hk := endP_k u 12
    generalize endP u 12 = z at he hi hk
    obtain ⟨e1, e2⟩ := Prod.mk.inj he
    subst e2
    obtain ⟨d1, d2, d3, d4, d5⟩ := dayS_1 z (u.1 3).toNatClampNeg
    have hm := mInv_day hi (by rw [hk.1]; exact q)
    rw [hk.1] at hm
    refine ⟨hm, by rw [dayS_k _ _ (by decide) (by decide)]; exact hk.2 20 (by decide) (by decide), Or.inr ⟨q, ?_, ?_, d4⟩⟩
    · rw [e1, d3, hk.1]
    · rw [d3, hk.1]
/-- column, measure -/
theorem mKp_st {u : mS} (h : mInv u) {k : Nat} (hk : ¬ kR k) (h20 : k ≠ 20) (i x : Int32) : mKp u (mst u k i x) := ⟨mInv_c h (fun _ _ => rfl) (fun j hj => mst_other (fun e => hk (e ▸ hj))), rfl, rfl, mst_other (fun e => h20 e.symm)⟩
theorem mKp_tr {u v w : mS} (h1 : mKp u v) (h2 : mKp v w) : mKp u w := ⟨h2.1, h2.2.1.trans h1.2.1, h2.2.2.1.trans h1.2.2.1, h2.2.2.2.trans h1.2.2.2⟩
theorem rI_0 {u : mS} (h : rI u) {i x : Int32} (hx : bw x 0 60 = true) : rI (mst u 0 i x) := by
  obtain ⟨r1, r2, r3, r4, r5, r6, r7, r8⟩ := h
  refine ⟨r1, r2, fun j hj => ?_, ?_, ?_, ?_, ?_, ?_⟩
  · rw [mst_at]
    split
    · exact hx
    · exact r3 j hj
  · rw [mst_other (by decide)]; exact r4
  · rw [mst_other (by decide)]; exact r5
  · rw [mst_other (by decide)]; exact r6
  · rw [mst_other (by decide)]; exact r7
  · rw [mst_other (by decide), mst_other (by decide)]; exact r8
theorem mKp_0 {u : mS} (h : mInv u) {i x : Int32} (hx : bw x 0 60 = true) : mKp u (mst u 0 i x) := by
  obtain ⟨a, b, es, c, d⟩ := h
  exact ⟨⟨rI_0 a hx, kB_c b (mst_other (by decide)) (mst_other (by decide)), es, c, mH_c d rfl rfl rfl (mst_other (by decide)) (fun k k1 k2 => mst_other (by omega))⟩, rfl, rfl, mst_other (by decide)⟩
theorem col_inv {u w : mS} {r p c n : Int32} (h : mInv u) (he : (r, w) = mColumn u p c n) : mKp u w := by
  unfold mColumn at he
  repeat' split at he
  all_goals first
    | (obtain ⟨-, e2⟩ := Prod.mk.inj he; subst e2; exact mKp_rf h)
    | (obtain ⟨-, e2⟩ := Prod.mk.inj he; subst e2; exact mKp_0 h (by assumption))
theorem mea_inv {u w : mS} {r p x : Int32} (h : mInv u) (he : (r, w) = mMeasure u p x) : mKp u w := by
  unfold mMeasure at he
  repeat' split at he
  all_goals first
    | (obtain ⟨-, e2⟩ := Prod.mk.inj he; subst e2; exact mKp_rf h)
    | (obtain ⟨-, e2⟩ := Prod.mk.inj he; subst e2; exact mKp_st h (by unfold kR; omega) (by decide) _ _)
