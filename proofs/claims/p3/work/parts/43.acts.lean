theorem setR_v (f : Nat → Int32) (P X Y n : Nat) (z : Int32) : ∀ D j, setR f P X Y n z D j = f j ∨ setR f P X Y n z D j = z
  | 0, _ => Or.inl rfl
  | D + 1, j => by
    show setC (setR f P X Y n z D) P (X + D) Y n z j = f j ∨ setC (setR f P X Y n z D) P (X + D) Y n z j = z
    unfold setC
    split
    · exact Or.inr rfl
    · exact setR_v f P X Y n z D j
theorem mStand_2 (u : mS) (i : Int32) (P X Y D N : Nat) : (mStand u i P X Y D N).2 2 = setR (u.2 2) P X Y N i D := by
  unfold mStand
  dsimp only
  rw [mput_at, mst_other (by decide), mst_other (by decide), mst_other (by decide), mst_other (by decide), mst_other (by decide), mst_other (by decide)]
theorem mUnstand_2 (u : mS) (i : Int32) (P X Y D N : Nat) : (mUnstand u i P X Y D N).2 2 = setR (u.2 2) P X Y N (-2) D := by
  unfold mUnstand
  dsimp only
  rw [mput_at, mst_other (by decide)]
theorem rI_stand {u : mS} (h : rI u) {a : Nat} (ha : a < 80) {P X Y D N : Nat} (hX : X + D ≤ 8) : rI (mStand u (nI a) P X Y D N) := by
  obtain ⟨r1, r2, r3, r4, r5, r6, r7, r8⟩ := h
  refine ⟨r1, r2, ?_, ?_, ?_, ?_, fun j hj => ?_, fun j hj => ?_⟩
  · rw [mStand_k _ _ _ _ _ _ _ (nR rfl)]; exact r3
  · rw [mStand_k _ _ _ _ _ _ _ (nR rfl)]; exact r4
  · rw [mStand_k _ _ _ _ _ _ _ (nR rfl)]; exact r5
  · rw [mStand_k _ _ _ _ _ _ _ (nR rfl)]; exact r6
  · rw [mStand_2]
    rcases setR_v (u.2 2) P X Y N (nI a) D j with e | e
    · rw [e]; exact r7 j hj
    · rw [e]; exact fun _ => bw79 ha
  · obtain ⟨-, e1, -, e2, -⟩ := mStand_r u (nI a) P X Y D N j
    rw [e1, e2]
    by_cases e : j = (6 * nI a + u.2 22 (nI a).toNatClampNeg).toNatClampNeg
    · rw [if_pos e, if_pos e]; exact ⟨X, D, rfl, rfl, hX⟩
    · rw [if_neg e, if_neg e]; exact r8 j hj
theorem rI_unstand {u : mS} (h : rI u) (i : Int32) (P X Y D N : Nat) : rI (mUnstand u i P X Y D N) := by
  obtain ⟨r1, r2, r3, r4, r5, r6, r7, r8⟩ := h
  refine ⟨r1, r2, ?_, ?_, ?_, ?_, fun j hj => ?_, ?_⟩
  · rw [mUnstand_k _ _ _ _ _ _ _ (by decide) (by decide)]; exact r3
  · rw [mUnstand_k _ _ _ _ _ _ _ (by decide) (by decide)]; exact r4
  · rw [mUnstand_k _ _ _ _ _ _ _ (by decide) (by decide)]; exact r5
  · rw [mUnstand_k _ _ _ _ _ _ _ (by decide) (by decide)]; exact r6
  · rw [mUnstand_2]
    rcases setR_v (u.2 2) P X Y N (-2) D j with e | e
    · rw [e]; exact r7 j hj
    · rw [e]; exact fun q => absurd q (by decide)
  · rw [mUnstand_k _ _ _ _ _ _ _ (by decide) (by decide), mUnstand_k _ _ _ _ _ _ _ (by decide) (by decide)]; exact r8
theorem rI_m {u w : mS} (h : rI u) (h3 : w.1 3 = u.1 3) (h38 : w.1 38 = u.1 38) (hr : ∀ k, k < 29 ∨ 37 < k → w.2 k = u.2 k) : rI w := by
  unfold rI at h ⊢
  rw [h3, h38, hr 0 (by omega), hr 43 (by omega), hr 15 (by omega), hr 17 (by omega), hr 2 (by omega), hr 24 (by omega), hr 26 (by omega)]
  exact h
theorem mH_cm {u w : mS} {es : List hE} {c : cfg} (h : mH u es c) (h1 : w.1 = u.1) (h4 : w.2 4 = u.2 4) (hr : ∀ k, 29 ≤ k → k ≤ 37 → w.2 k = u.2 k) (hc : cM w c) : mH w es c := by
  obtain ⟨a1, a2, a3, a4, a5, a6⟩ := h
  refine ⟨a1, by rw [h1]; exact a2, by rw [h1]; exact a3, by rw [h1, h4]; exact a4, aM_rows (fun k k1 k2 => hr k k1 k2) a5, hc⟩
theorem mH_new {u w : mS} {es : List hE} {c c2 : cfg} {e : hE} (h : mH u es c) (hl : es.length < 300) (h3 : w.1 3 = u.1 3) (h4 : w.2 4 = u.2 4) (h28 : w.1 28 = u.1 28 + 1) (h36 : w.1 36 = nI (fil (e :: es))) (hold : ∀ k, 29 ≤ k → k ≤ 35 → ∀ t, t < es.length → w.2 k t = u.2 k t) (h37 : ∀ j, j < fil es → w.2 37 j = u.2 37 j) (he : eM w es.length (fil es) e) (hc : cM w c2) (hok : cOK (u.1 3).toNatClampNeg (u.2 4) c2) (hs : eS (u.1 3).toNatClampNeg (u.2 4) e c c2) : mH w (e :: es) c2 := by
  obtain ⟨a1, a2, a3, a4, a5, a6⟩ := h
  exact ⟨by rw [List.length_cons]; omega, by rw [h28, a2, nI_1]; rfl, h36, by rw [h3, h4]; exact ⟨hok, c, a4, hs⟩, ⟨he, aM_c hold h37 a5⟩, hc⟩
theorem mH_old {u w : mS} {es : List hE} {c c1 : cfg} {e : hE} (h : mH u (e :: es) c) (h1 : hOK (u.1 3).toNatClampNeg (u.2 4) es c1) (h3 : w.1 3 = u.1 3) (h4 : w.2 4 = u.2 4) (h28 : w.1 28 = u.1 28 - 1) (h36 : w.1 36 = nI (fil es)) (hr : ∀ k, 29 ≤ k → k ≤ 37 → w.2 k = u.2 k) (hc : cM w c1) : mH w es c1 := by
  obtain ⟨a1, a2, a3, a4, a5, a6⟩ := h
  rw [List.length_cons] at a1 a2
  exact ⟨by omega, by rw [h28, a2, dn_e (by omega)]; rfl, h36, by rw [h3, h4]; exact h1, aM_rows hr a5.2, hc⟩
theorem itN {u : mS} (h : rI u) {i : Int32} (hi : bw i 0 (u.1 3 - 1) = true) : ∃ a : Nat, i = nI a ∧ a < (u.1 3).toNatClampNeg ∧ (u.1 3).toNatClampNeg ≤ 80 := by
  obtain ⟨e1, e2, e3⟩ := nI_of_bw h.1
  have h80 : (80 : Int32).toInt = 80 := rfl
  obtain ⟨a, h1, -, e⟩ := exN hi (by decide)
  rw [subI (by rw [i1]; omega) (by rw [i1]; omega), i1] at h1
  exact ⟨a, e, by omega, by omega⟩
theorem n80 {u : mS} (h : rI u) : (u.1 3).toNatClampNeg ≤ 80 := by
  obtain ⟨e1, e2, e3⟩ := nI_of_bw h.1
  have h80 : (80 : Int32).toInt = 80 := rfl
  omega
theorem len5 {u : mS} {es : List hE} {c : cfg} (h : mH u es c) {a : Nat} (ha : a < 80) (h6 : ¬ u.2 22 a = 6) : (c a).length ≤ 5 := by
  have h1 := (h.2.2.2.2.2 a ha).1
  have h2 := ((hOK_c h.2.2.2.1) a).2.1
  rcases Nat.lt_or_ge 5 (c a).length with q | q
  · exfalso
    exact h6 (by rw [h1, show (c a).length = 6 from by omega]; rfl)
  · exact q
theorem len0 {u : mS} {es : List hE} {c : cfg} (h : mH u es c) {a : Nat} (ha : a < 80) (h0 : u.2 22 a = 0) : c a = [] := by
  have h1 := (h.2.2.2.2.2 a ha).1
  have h2 := ((hOK_c h.2.2.2.1) a).2.1
  rw [h0] at h1
  refine List.length_eq_zero_iff.mp ?_
  have e : (nI (c a).length).toInt = 0 := by rw [← h1]; rfl
  rw [nI_toInt (by omega)] at e
  omega
theorem acts300 {u : mS} {es : List hE} {c : cfg} (h : mH u es c) (h3 : ¬ u.1 28 = 300) : es.length < 300 := by
  have h1 := h.1
  have h2 := h.2.1
  rcases Nat.lt_or_ge es.length 300 with q | q
  · exact q
  · exfalso
    exact h3 (by rw [h2, show es.length = 300 from by omega]; rfl)
/-- what mayRun asks of the pieces that stand -/
theorem put_hfr {u : mS} (h : mInv u) {i : Int32} (hi : bw i 0 79 = true) (P X Y N : Nat) (hP : P < 12) (hX : X + 1 ≤ 8) (hN : 1 ≤ N) (hY : Y + N ≤ 60) (h6 : ¬ u.2 22 i.toNatClampNeg = 6) (hG : runG (mStand u i P X Y 1 N) i (u.2 22 i.toNatClampNeg)) : 0 ≤ (mFrom (mStand u i P X Y 1 N) i (u.2 22 i.toNatClampNeg).toNatClampNeg).toInt ∧ (mFrom (mStand u i P X Y 1 N) i (u.2 22 i.toNatClampNeg).toNatClampNeg).toInt ≤ 400 ∧ (mTakes (mStand u i P X Y 1 N) i (u.2 22 i.toNatClampNeg)).toInt ≤ 60 := by
  obtain ⟨-, -, es, c, d⟩ := h
  obtain ⟨a, ha, -, e⟩ := exN hi (by decide)
  have h79 : (79 : Int32).toInt = 79 := rfl
  subst e
  have ha8 : a < 80 := by omega
  have hca : (nI a).toNatClampNeg = a := nI_clamp (by omega)
  rw [hca] at h6 hG ⊢
  have hl := len5 d ha8 h6
  have hok := hOK_c d.2.2.2.1
  have hm := cM_stand ha8 hl (fun b => (hok b).2.1) d.2.2.2.2.2 P X Y 1 N
  have h1 := (d.2.2.2.2.2 a ha8).1
  rw [h1] at hG ⊢
  rw [nI_clamp (by omega)]
  have h2 := hm a ha8
  rw [cPush_a] at h2
  exact runG_f (r := (P, X, Y, 1, N)) ha8 hl ⟨hP, hX, hY, Nat.le_refl 1, hN⟩ (hok a).2.2.1 h2.2 h2.1 (hok a).2.2.2.1 hG
theorem try_H {u : mS} {es : List hE} {c : cfg} (d : mH u es c) {a : Nat} (ha : a < 80) (hl : (c a).length ≤ 5) (P X Y N : Nat) : mH (mTry u (nI a) P X Y N) es c := by
  have hok := hOK_c d.2.2.2.1
  refine mH_cm d rfl ?_ (fun k k1 k2 => ?_) (cM_unstand ha hl (cM_stand ha hl (fun b => (hok b).2.1) d.2.2.2.2.2 P X Y 1 N) P X Y 1 N)
  · unfold mTry; rw [mUnstand_k _ _ _ _ _ _ _ (by decide) (by decide), mStand_k _ _ _ _ _ _ _ (nR rfl)]
  · unfold mTry
    by_cases e : k = 37
    · subst e
      rw [mUnstand_k _ _ _ _ _ _ _ (by decide) (by decide)]
      unfold mStand
      dsimp only
      rw [mput_other (by decide), mst_other (by decide), mst_other (by decide), mst_other (by decide), mst_other (by decide), mst_other (by decide), mst_other (by decide)]
    · rw [mUnstand_k _ _ _ _ _ _ _ (by omega) (by omega), mStand_k _ _ _ _ _ _ _ (by unfold stR; omega)]
theorem mStand_k2 (u : mS) (i : Int32) (P X Y D N : Nat) {k : Nat} (h1 : k ≠ 2) (h2 : k < 22 ∨ 27 < k) : (mStand u i P X Y D N).2 k = u.2 k := by
  unfold mStand
  dsimp only
  rw [mput_other (by omega), mst_other (by omega), mst_other (by omega), mst_other (by omega), mst_other (by omega), mst_other (by omega), mst_other (by omega)]
theorem try_kp {u : mS} (h : mInv u) {a : Nat} (ha : a < 80) (h6 : ¬ u.2 22 a = 6) {P X Y N : Nat} (hX : X + 1 ≤ 8) : mKp u (mTry u (nI a) P X Y N) := by
  obtain ⟨r, b, es, c, d⟩ := h
  refine ⟨⟨rI_unstand (rI_stand r ha hX) _ _ _ _ _ _, kB_c b ?_ ?_, es, c, try_H d ha (len5 d ha h6) P X Y N⟩, rfl, rfl, ?_⟩
  · unfold mTry; rw [mUnstand_k _ _ _ _ _ _ _ (by decide) (by decide), mStand_k2 _ _ _ _ _ _ _ (by decide) (by decide)]
  · unfold mTry; rw [mUnstand_k _ _ _ _ _ _ _ (by decide) (by decide), mStand_k2 _ _ _ _ _ _ _ (by decide) (by decide)]
  · unfold mTry; rw [mUnstand_k _ _ _ _ _ _ _ (by decide) (by decide), mStand_k2 _ _ _ _ _ _ _ (by decide) (by decide)]
theorem lgT_D {P X Y D D2 N : Nat} {l : List fR} (h : lgT none ((P, X, Y, D, N) :: l)) : lgT none ((P, X, Y, D2, N) :: l) := by
  cases l with
  | nil => exact h
  | cons q l => exact h
theorem fil_no {e : hE} (es : List hE) (h : e.1 ≠ 3) : fil (e :: es) = fil es := by
  show fil es + (if e.1 = 3 then e.2.2.2.length else 0) = fil es
  rw [if_neg h]; rfl
/-- a piece comes to stand, and the act is kept -/
theorem stand_kp {u : mS} (h : mInv u) {es : List hE} {c : cfg} (d : mH u es c) (h3 : ¬ u.1 28 = 300) {a : Nat} (han : a < (u.1 3).toNatClampNeg) {P X Y D N : Nat} (hr : rOK (P, X, Y, D, N)) (hl : (c a).length ≤ 5) (hok2 : cOK (u.1 3).toNatClampNeg (u.2 4) (cPush c a (P, X, Y, D, N))) : mKp u (mActs (mStand u (nI a) P X Y D N) 0 (nI a) 0 0 0 0 0) := by
  obtain ⟨r, b, -, -, -⟩ := h
  have ha : a < 80 := Nat.lt_of_lt_of_le han (n80 r)
  have hok := hOK_c d.2.2.2.1
  have hm := cM_stand ha hl (fun b => (hok b).2.1) d.2.2.2.2.2 P X Y D N
  have h28 : ((mStand u (nI a) P X Y D N).1 28).toNatClampNeg = es.length := by rw [mStand_1, d.2.1, nI_clamp (by have := d.1; omega)]
  have hx := mActs_r (mStand u (nI a) P X Y D N) 0 (nI a) 0 0 0 0 0
  rw [h28] at hx
  have i3 : ∀ j, j ≠ 28 → (mActs (mStand u (nI a) P X Y D N) 0 (nI a) 0 0 0 0 0).1 j = u.1 j := fun j hj => by rw [mActs_1, if_neg hj, mStand_1]
  have i28 : (mActs (mStand u (nI a) P X Y D N) 0 (nI a) 0 0 0 0 0).1 28 = u.1 28 + 1 := by rw [mActs_1, if_pos rfl, mStand_1]
  refine ⟨⟨rI_m (rI_stand r ha hr.2.1) (i3 3 (by decide)) (i3 38 (by decide)) (fun k hk => mActs_k _ _ _ _ _ _ _ _ (by omega)), kB_c b ?_ ?_, (0, a, (P, X, Y, D, N), []) :: es, cPush c a (P, X, Y, D, N), ?_⟩, i3 38 (by decide), i3 39 (by decide), ?_⟩
  · rw [mActs_k _ _ _ _ _ _ _ _ (by decide), mStand_k2 _ _ _ _ _ _ _ (by decide) (by decide)]
  · rw [mActs_k _ _ _ _ _ _ _ _ (by decide), mStand_k2 _ _ _ _ _ _ _ (by decide) (by decide)]
  · refine mH_new d (acts300 d h3) (i3 3 (by decide)) ?_ i28 (by rw [i3 36 (by decide), fil_no _ (by decide : (0 : Nat) ≠ 3)]; exact d.2.2.1) (fun k k1 k2 t ht => ?_) (fun j _ => ?_) ?_ (cM_rows (fun k k1 k2 => mActs_k _ _ _ _ _ _ _ _ (by omega)) hm) hok2 (Or.inl ⟨rfl, _, rfl⟩)
    · rw [mActs_k _ _ _ _ _ _ _ _ (by decide), mStand_k2 _ _ _ _ _ _ _ (by decide) (by decide)]
    · obtain ⟨q1, q2, q3, q4, q5, q6, q7⟩ := hx t
      rw [if_neg (by omega)] at q1 q2 q3 q4 q5 q6 q7
      have hk : k = 29 ∨ k = 30 ∨ k = 31 ∨ k = 32 ∨ k = 33 ∨ k = 34 ∨ k = 35 := by omega
      rcases hk with e | e | e | e | e | e | e <;> subst e
      · rw [q1, mStand_k2 _ _ _ _ _ _ _ (by decide) (by decide)]
      · rw [q2, mStand_k2 _ _ _ _ _ _ _ (by decide) (by decide)]
      · rw [q3, mStand_k2 _ _ _ _ _ _ _ (by decide) (by decide)]
      · rw [q4, mStand_k2 _ _ _ _ _ _ _ (by decide) (by decide)]
      · rw [q5, mStand_k2 _ _ _ _ _ _ _ (by decide) (by decide)]
      · rw [q6, mStand_k2 _ _ _ _ _ _ _ (by decide) (by decide)]
      · rw [q7, mStand_k2 _ _ _ _ _ _ _ (by decide) (by decide)]
    · rw [mActs_k _ _ _ _ _ _ _ _ (by decide), mStand_k2 _ _ _ _ _ _ _ (by decide) (by decide)]
    · obtain ⟨q1, q2, -⟩ := hx es.length
      rw [if_pos rfl] at q1 q2
      exact ⟨q1, fun _ => q2, fun q => absurd q (by decide : ¬ (0 : Nat) = 1), fun q => absurd q (by decide : ¬ (0 : Nat) = 2), fun q => absurd q (by decide : ¬ (0 : Nat) = 3)⟩
  · rw [mActs_k _ _ _ _ _ _ _ _ (by decide), mStand_k2 _ _ _ _ _ _ _ (by decide) (by decide)]
theorem put_inv {u w : mS} {i : Int32} (h : mInv u) (hq : putQ u i w) : mKp u w := by
  rcases hq with e | ⟨hi, P, X, Y, D, N, hP, hX, hY, hD, hN, hq⟩
  · rw [e]; exact mKp_rf h
  · obtain ⟨a, e, han, h80⟩ := itN h.1 hi
    subst e
    have ha : a < 80 := by omega
    have hca : (nI a).toNatClampNeg = a := nI_clamp (by omega)
    rw [hca] at hq
    have hr : rOK (P, X, Y, D, N) := ⟨hP, hX, hY, hD, hN⟩
    obtain ⟨r, b, es, c, d⟩ := h
    have hok := hOK_c d.2.2.2.1
    rcases hq with ⟨h6, e⟩ | ⟨h3, h0, e⟩ | ⟨h3, hk, h6, hG, e⟩
    · rw [e]; exact try_kp ⟨r, b, es, c, d⟩ ha h6 (by omega)
    · rw [e]
      have hc := len0 d ha h0
      refine stand_kp ⟨r, b, es, c, d⟩ d h3 han hr (by rw [hc]; exact Nat.zero_le _) (cOK_push hok han hr (by rw [hc]; exact Nat.zero_le _) (by rw [hc]; exact lg_one hr) (fun _ => hc))
    · rw [e]
      have hl := len5 d ha h6
      have ht := try_kp ⟨r, b, es, c, d⟩ ha h6 (P := P) (X := X) (Y := Y) (N := N) (by omega)
      have hd := try_H d ha hl P X Y N
      have hm := cM_stand ha hl (fun b => (hok b).2.1) d.2.2.2.2.2 P X Y 1 N
      have h1 := (d.2.2.2.2.2 a ha).1
      rw [h1] at hG
      have h2 := hm a ha
      rw [cPush_a] at h2
      have hg1 : lgT none ((P, X, Y, 1, N) :: c a) := runG_l ha hl ⟨hP, by show X + 1 ≤ 8; omega, hY, Nat.le_refl 1, hN⟩ (hok a).2.2.1 h2.2 h2.1 (hok a).2.2.2.1 hG
      have hg : lgT none ((P, X, Y, D, N) :: c a) := lgT_D hg1
      have hok3 := hOK_c hd.2.2.2.1
      exact mKp_tr ht (stand_kp ht.1 hd h3 han hr hl (cOK_push hok3 han hr hl hg (fun q => by
        exfalso
        have e4 : (mTry u (nI a) P X Y N).2 4 a = u.2 4 a := by unfold mTry; rw [mUnstand_k _ _ _ _ _ _ _ (by decide) (by decide), mStand_k2 _ _ _ _ _ _ _ (by decide) (by decide)]
        rw [e4, hk] at q
        exact absurd q (by decide))))
