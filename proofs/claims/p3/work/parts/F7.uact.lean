theorem stand_H {u : mS} (r : rI u) {es : List hE} {c : cfg} (d : mH u es c) (h3 : ¬ u.1 28 = 300) {a : Nat} (han : a < (u.1 3).toNatClampNeg) {P X Y D N : Nat} (hr : rOK (P, X, Y, D, N)) (hl : (c a).length ≤ 5) (hok2 : cOK (u.1 3).toNatClampNeg (u.2 4) (cPush c a (P, X, Y, D, N))) : rI (mActs (mStand u (nI a) P X Y D N) 0 (nI a) 0 0 0 0 0) ∧ mH (mActs (mStand u (nI a) P X Y D N) 0 (nI a) 0 0 0 0 0) ((0, a, (P, X, Y, D, N), []) :: es) (cPush c a (P, X, Y, D, N)) := by
  have ha : a < 80 := Nat.lt_of_lt_of_le han (n80 r)
  have hok := hOK_c d.2.2.2.1
  have hm := cM_stand ha hl (fun b => (hok b).2.1) d.2.2.2.2.2 P X Y D N
  have h28 : ((mStand u (nI a) P X Y D N).1 28).toNatClampNeg = es.length := by rw [mStand_1, d.2.1, nI_clamp (by have := d.1; omega)]
  have hx := mActs_r (mStand u (nI a) P X Y D N) 0 (nI a) 0 0 0 0 0
  rw [h28] at hx
  have i3 : ∀ j, j ≠ 28 → (mActs (mStand u (nI a) P X Y D N) 0 (nI a) 0 0 0 0 0).1 j = u.1 j := fun j hj => by rw [mActs_1, if_neg hj, mStand_1]
  have i28 : (mActs (mStand u (nI a) P X Y D N) 0 (nI a) 0 0 0 0 0).1 28 = u.1 28 + 1 := by rw [mActs_1, if_pos rfl, mStand_1]
  refine ⟨rI_m (rI_stand r ha hr.2.1) (i3 3 (by decide)) (i3 38 (by decide)) (fun k hk => mActs_k _ _ _ _ _ _ _ _ (by omega)), ?_⟩
  refine mH_new d (acts300 d h3) (i3 3 (by decide)) ?_ i28 (by rw [i3 36 (by decide), fil_no _ (by decide : (0 : Nat) ≠ 3)]; exact d.2.2.1) (fun k k1 k2 t ht => ?_) (fun j _ => ?_) ?_ (cM_rows (fun k k1 k2 => mActs_k _ _ _ _ _ _ _ _ (by omega)) hm) hok2 (Or.inl ⟨rfl, _, rfl⟩)
  · rw [mActs_k _ _ _ _ _ _ _ _ (by decide), mStand_k2 _ _ _ _ _ _ _ (by decide) (by decide)]
  · obtain ⟨q1, q2, q3, q4, q5, q6, q7⟩ := hx t
    rw [if_neg (by omega)] at q1 q2 q3 q4 q5 q6 q7
    have hk : k = 29 ∨ k = 30 ∨ k = 31 ∨ k = 32 ∨ k = 33 ∨ k = 34 ∨ k = 35 := by omega
    rcases hk with e | e | e | e | e | e | e <;> subst e
    · rw [q1, mStand_k2 _ _ _ _ _ _ _ (by decide) (by decide)]
    · rw [q2, mStand_k2 _ _ _ _ _ _ _ (by decide) (by decide)]
    · rw [q3, mStand_k2 _ _ _ _ _ _ _ (by decide) (by decide)]
    · rw [q4, mStand_k2 _ _ _ _ _ _ _ (by decide) (by decide)]
    · rw [q5, mStand_k2 _ _ _ _ _ _ _ (by decide) (by decide)]
    · rw [q6, mStand_k2 _ _ _ _ _ _ _ (by decide) (by decide)]
    · rw [q7, mStand_k2 _ _ _ _ _ _ _ (by decide) (by decide)]
  · rw [mActs_k _ _ _ _ _ _ _ _ (by decide), mStand_k2 _ _ _ _ _ _ _ (by decide) (by decide)]
  · obtain ⟨q1, q2, -⟩ := hx es.length
    rw [if_pos rfl] at q1 q2
    exact ⟨q1, fun _ => q2, fun q => absurd q (by decide : ¬ (0 : Nat) = 1), fun q => absurd q (by decide : ¬ (0 : Nat) = 2), fun q => absurd q (by decide : ¬ (0 : Nat) = 3)⟩
theorem lift_H {u : mS} (r : rI u) {es : List hE} {c : cfg} (d : mH u es c) (h3 : ¬ u.1 28 = 300) {a : Nat} (ha : a < 80) {P X Y D N : Nat} {l : List fR} (hc : c a = (P, X, Y, D, N) :: l) : rI (mUnstand (mActs u 1 (nI a) (nI P) (nI X) (nI Y) (nI D) (nI N)) (nI a) P X Y D N) ∧ mH (mUnstand (mActs u 1 (nI a) (nI P) (nI X) (nI Y) (nI D) (nI N)) (nI a) P X Y D N) ((1, a, (P, X, Y, D, N), []) :: es) (cDrop c a l) := by
  have hok := hOK_c d.2.2.2.1
  have hl : (cDrop c a l a).length ≤ 5 := by
    rw [cDrop_a]
    have h1 := (hok a).2.1
    rw [hc, List.length_cons] at h1
    omega
  have hp := cDrop_push hc
  have hm : cM (mActs u 1 (nI a) (nI P) (nI X) (nI Y) (nI D) (nI N)) (cPush (cDrop c a l) a (P, X, Y, D, N)) := by
    rw [← hp]; exact cM_rows (fun k k1 k2 => mActs_k _ _ _ _ _ _ _ _ (by omega)) d.2.2.2.2.2
  have h28 := len28 d
  have hx := acts_at h28 1 (nI a) (nI P) (nI X) (nI Y) (nI D) (nI N)
  have ho := acts_old h28 1 (nI a) (nI P) (nI X) (nI Y) (nI D) (nI N)
  have i3 : ∀ j, j ≠ 28 → (mActs u 1 (nI a) (nI P) (nI X) (nI Y) (nI D) (nI N)).1 j = u.1 j := fun j hj => by rw [mActs_1, if_neg hj]
  have i28 : (mActs u 1 (nI a) (nI P) (nI X) (nI Y) (nI D) (nI N)).1 28 = u.1 28 + 1 := by rw [mActs_1, if_pos rfl]
  have k4 : ∀ k, k < 29 ∨ 35 < k → (mActs u 1 (nI a) (nI P) (nI X) (nI Y) (nI D) (nI N)).2 k = u.2 k := fun k hk => mActs_k _ _ _ _ _ _ _ _ hk
  generalize mActs u 1 (nI a) (nI P) (nI X) (nI Y) (nI D) (nI N) = w at hm hx ho i3 i28 k4
  have uk : ∀ k, k ≠ 2 → k ≠ 22 → (mUnstand w (nI a) P X Y D N).2 k = w.2 k := fun k h1 h2 => mUnstand_k _ _ _ _ _ _ _ h1 h2
  have hrI := rI_unstand (rI_m r (i3 3 (by decide)) (i3 38 (by decide)) (fun k hk => k4 k (by omega))) (nI a) P X Y D N
  have hcM := cM_unstand ha hl hm P X Y D N
  have u1 : (mUnstand w (nI a) P X Y D N).1 = w.1 := rfl
  generalize mUnstand w (nI a) P X Y D N = z at uk hrI hcM u1
  refine ⟨hrI, ?_⟩
  refine mH_new d (acts300 d h3) (by rw [u1]; exact i3 3 (by decide)) ?_ (by rw [u1]; exact i28) (by rw [u1, i3 36 (by decide), fil_no _ (by decide : (1 : Nat) ≠ 3)]; exact d.2.2.1) (fun k k1 k2 t ht => ?_) (fun j _ => ?_) ?_ hcM (cOK_drop hok hc) (Or.inr (Or.inl ⟨rfl, hp⟩))
  · rw [uk 4 (by decide) (by decide)]; exact k4 4 (by decide)
  · rw [uk k (by omega) (by omega)]; exact ho k k1 k2 t ht
  · rw [uk 37 (by decide) (by decide), k4 37 (by decide)]
  · unfold eM
    rw [uk 29 (by decide) (by decide), uk 30 (by decide) (by decide), uk 31 (by decide) (by decide), uk 32 (by decide) (by decide), uk 33 (by decide) (by decide), uk 34 (by decide) (by decide), uk 35 (by decide) (by decide)]
    obtain ⟨q1, q2, q3, q4, q5, q6, q7⟩ := hx
    exact ⟨q1, fun q => absurd q (by decide : ¬ (1 : Nat) = 0), fun _ => ⟨q2, q3, q4, q5, q6, q7⟩, fun q => absurd q (by decide : ¬ (1 : Nat) = 2), fun q => absurd q (by decide : ¬ (1 : Nat) = 3)⟩
theorem fill_H {u : mS} (r : rI u) {es : List hE} {c : cfg} (d : mH u es c) (h3 : ¬ u.1 28 = 300) {xs : List fX} (hg : fGood u xs) : rI (mFillE u xs) ∧ mH (mFillE u xs) ((3, 0, (0, 0, 0, 0, 0), xs) :: es) (cFill c xs) := by
  obtain ⟨i1_, i2, i3_, i4, i5⟩ := fill_ind r d xs hg
  have hk := fillR_k u xs
  unfold mFillE
  generalize fillR u xs = z at i2 i3_ i4 i5 hk
  have h28 : (z.1 28).toNatClampNeg = es.length := by rw [hk.1]; exact len28 d
  have hx := acts_at h28 3 (nI xs.length) 0 0 0 0 0
  have ho := acts_old h28 3 (nI xs.length) 0 0 0 0 0
  have i3 : ∀ j, j ≠ 28 → (mActs z 3 (nI xs.length) 0 0 0 0 0).1 j = u.1 j := fun j hj => by rw [mActs_1, if_neg hj, hk.1]
  have i28 : (mActs z 3 (nI xs.length) 0 0 0 0 0).1 28 = u.1 28 + 1 := by rw [mActs_1, if_pos rfl, hk.1]
  have k4 : ∀ k, k < 29 ∨ 35 < k → (mActs z 3 (nI xs.length) 0 0 0 0 0).2 k = z.2 k := fun k hk => mActs_k _ _ _ _ _ _ _ _ hk
  generalize mActs z 3 (nI xs.length) 0 0 0 0 0 = w2 at hx ho i3 i28 k4
  have m1 : ∀ j, j ≠ 36 → (mset w2 36 (w2.1 36 + nI xs.length)).1 j = w2.1 j := fun j hj => by unfold mset; exact if_neg hj
  have m36 : (mset w2 36 (w2.1 36 + nI xs.length)).1 36 = nI (fil es + xs.length) := by rw [mset_same, i3 36 (by decide), d.2.2.1, nI_add]
  have m2 : (mset w2 36 (w2.1 36 + nI xs.length)).2 = w2.2 := rfl
  generalize mset w2 36 (w2.1 36 + nI xs.length) = y at m1 m36 m2
  refine ⟨rI_m i3_ (by rw [m1 3 (by decide), i3 3 (by decide), hk.1]) (by rw [m1 38 (by decide), i3 38 (by decide), hk.1]) (fun k q => by rw [m2]; exact k4 k (by omega)), ?_⟩
  refine mH_new d (acts300 d h3) (by rw [m1 3 (by decide)]; exact i3 3 (by decide)) ?_ (by rw [m1 28 (by decide)]; exact i28) m36 (fun k k1 k2 t ht => ?_) (fun j hj => ?_) ?_ (cM_rows (fun k k1 k2 => by rw [m2, k4 k (by omega)]) i2) (cOK_fill (hOK_c d.2.2.2.1) i1_) (Or.inr (Or.inr (Or.inr ⟨rfl, rfl, i1_⟩)))
  · rw [m2, k4 4 (by decide), hk.2 4 (nR rfl)]
  · rw [m2, ho k k1 k2 t ht, hk.2 k (by unfold stR; omega)]
  · rw [m2, k4 37 (by decide)]; exact i5 j hj
  · obtain ⟨q1, q2, -⟩ := hx
    unfold eM
    rw [m2]
    exact ⟨q1, fun q => absurd q (by decide : ¬ (3 : Nat) = 0), fun q => absurd q (by decide : ¬ (3 : Nat) = 1), fun q => absurd q (by decide : ¬ (3 : Nat) = 2), fun _ => ⟨q2, fM_c (fun j _ => by rw [m2, k4 37 (by decide)]) i4⟩⟩
theorem rule_H {u : mS} (r : rI u) {es : List hE} {c : cfg} (d : mH u es c) (h3 : ¬ u.1 28 = 300) {P X Y : Nat} (hP : P < 12) (hX : X < 8) (hY : Y < 60) : rI (mActs (mst u 2 (480 * nI P + 60 * nI X + nI Y) 100) 2 (nI P) (nI X) (nI Y) 0 0 0) ∧ mH (mActs (mst u 2 (480 * nI P + 60 * nI X + nI Y) 100) 2 (nI P) (nI X) (nI Y) 0 0 0) ((2, 0, (P, X, Y, 1, 1), []) :: es) c := by
  generalize hi : 480 * nI P + 60 * nI X + nI Y = ix
  have hr2 : rI (mst u 2 ix 100) := by
    obtain ⟨r1, r2, r3, r4, r5, r6, r7, r8⟩ := r
    refine ⟨r1, r2, ?_, ?_, ?_, ?_, fun j hj => ?_, ?_⟩
    · rw [mst_other (by decide)]; exact r3
    · rw [mst_other (by decide)]; exact r4
    · rw [mst_other (by decide)]; exact r5
    · rw [mst_other (by decide)]; exact r6
    · rw [mst_at]
      split
      · exact fun q => absurd q (by decide)
      · exact r7 j hj
    · rw [mst_other (by decide), mst_other (by decide)]; exact r8
  have s2 : ∀ k, k ≠ 2 → (mst u 2 ix 100).2 k = u.2 k := fun k hk => mst_other hk
  have s1 : (mst u 2 ix 100).1 = u.1 := rfl
  generalize mst u 2 ix 100 = z at hr2 s2 s1
  have h28 : (z.1 28).toNatClampNeg = es.length := by rw [s1]; exact len28 d
  have hx := acts_at h28 2 (nI P) (nI X) (nI Y) 0 0 0
  have ho := acts_old h28 2 (nI P) (nI X) (nI Y) 0 0 0
  have i3 : ∀ j, j ≠ 28 → (mActs z 2 (nI P) (nI X) (nI Y) 0 0 0).1 j = u.1 j := fun j hj => by rw [mActs_1, if_neg hj, s1]
  have i28 : (mActs z 2 (nI P) (nI X) (nI Y) 0 0 0).1 28 = u.1 28 + 1 := by rw [mActs_1, if_pos rfl, s1]
  have k4 : ∀ k, k < 29 ∨ 35 < k → (mActs z 2 (nI P) (nI X) (nI Y) 0 0 0).2 k = z.2 k := fun k hk => mActs_k _ _ _ _ _ _ _ _ hk
  generalize mActs z 2 (nI P) (nI X) (nI Y) 0 0 0 = w at hx ho i3 i28 k4
  refine ⟨rI_m hr2 (by rw [s1]; exact i3 3 (by decide)) (by rw [s1]; exact i3 38 (by decide)) (fun k hk => k4 k (by omega)), ?_⟩
  refine mH_new d (acts300 d h3) (i3 3 (by decide)) ?_ i28 (by rw [i3 36 (by decide), fil_no _ (by decide : (2 : Nat) ≠ 3)]; exact d.2.2.1) (fun k k1 k2 t ht => ?_) (fun j _ => ?_) ?_ (cM_rows (fun k k1 k2 => by rw [k4 k (by omega), s2 k (by omega)]) d.2.2.2.2.2) (hOK_c d.2.2.2.1) (Or.inr (Or.inr (Or.inl ⟨rfl, rfl, hP, hX, hY⟩)))
  · rw [k4 4 (by decide), s2 4 (by decide)]
  · rw [ho k k1 k2 t ht, s2 k (by omega)]
  · rw [k4 37 (by decide), s2 37 (by decide)]
  · obtain ⟨q1, q2, q3, q4, -⟩ := hx
    exact ⟨q1, fun q => absurd q (by decide : ¬ (2 : Nat) = 0), fun q => absurd q (by decide : ¬ (2 : Nat) = 1), fun _ => ⟨q2, q3, q4⟩, fun q => absurd q (by decide : ¬ (2 : Nat) = 3)⟩
/-- one more act -/
theorem uI_act {u w : mS} {es : List hE} {c c2 : cfg} {e : hE} (h : uI u es c) (hrI : rI w) (hmH : mH w (e :: es) c2) (h1 : ∀ k, k ≠ 28 → k ≠ 36 → w.1 k = u.1 k) (hr : ∀ k, k < 2 ∨ (2 < k ∧ k < 22) ∨ 37 < k → w.2 k = u.2 k) (hX : cX u c2) (hA : agr c2 (w.2 2)) (hi : e.1 ≠ 3 → e.1 ≠ 2 → e.2.1 < (u.1 3).toNatClampNeg) (hru : e.1 = 2 → rLn u (ruR e)) (hs : eS (u.1 3).toNatClampNeg (u.2 4) e c c2) (h9 : gS9 e c (u.2 2) c2 (w.2 2)) : uI w (e :: es) c2 := by
  obtain ⟨a1, a2, a3, a4, a5, a6, a7, a8, a9, a10, a11⟩ := h
  have e3 := h1 3 (by decide) (by decide)
  have hok := hOK_c hmH.2.2.2.1
  refine ⟨hrI, kB_c a2 (hr 4 (by omega)) (hr 10 (by omega)), hmH, ⟨cX_c hX (by rw [e3]; exact Nat.le_refl _) (hr 0 (by omega)) (fun a _ => ⟨by rw [hr 4 (by omega)], by rw [hr 11 (by omega)]⟩) (fun a ha => (hok a).1 (by rw [e3]; exact ha)), hA, hok, by rw [e3]; exact hi, fun q => by have z := hru q; unfold rLn at z ⊢; rw [hr 0 (by omega)]; exact z, c, u.2 2, gH_e e3 (hr 0 (by omega)) (hr 4 (by omega)) (hr 11 (by omega)) a4, by rw [e3, hr 4 (by omega)]; exact hs, h9⟩, nwI_e a5 e3 (fun r r1 => hr r (by omega)), plI_c a6 (fun r r1 r2 => hr r (by omega)), ?_, ?_, ?_, rvI_c a10 (hr 20 (by omega)), by rw [h1 39 (by decide) (by decide)]; exact a11⟩
  · unfold sdI at a7 ⊢
    rw [hr 40 (by omega), hr 4 (by omega), hr 45 (by omega), hr 11 (by omega)]; exact a7
  · unfold plZ at a8 ⊢
    rw [e3, hr 40 (by omega), hr 45 (by omega)]; exact a8
  · unfold foI at a9 ⊢
    rw [h1 38 (by decide) (by decide), hr 47 (by omega), hr 48 (by omega)]; exact a9
theorem uI_lift {u : mS} {es : List hE} {c : cfg} (h : uI u es c) (h3 : ¬ u.1 28 = 300) {a : Nat} (ha : a < (u.1 3).toNatClampNeg) {P X Y D N : Nat} {l : List fR} (hc : c a = (P, X, Y, D, N) :: l) : uI (mUnstand (mActs u 1 (nI a) (nI P) (nI X) (nI Y) (nI D) (nI N)) (nI a) P X Y D N) ((1, a, (P, X, Y, D, N), []) :: es) (cDrop c a l) := by
  have hn := n80 h.1
  obtain ⟨q1, q2⟩ := lift_H h.1 h.2.2.1 h3 (by omega) hc
  have hp := cDrop_push hc
  have hX := gH_cX h.2.2.2.1
  have hA := gH_agr h.2.2.2.1
  have hok := uI_ok h
  have hr : rOK (P, X, Y, D, N) := (hok a).2.2.1 _ (by rw [hc]; exact List.mem_cons_self)
  have e2 : (mUnstand (mActs u 1 (nI a) (nI P) (nI X) (nI Y) (nI D) (nI N)) (nI a) P X Y D N).2 2 = setF (u.2 2) (P, X, Y, D, N) (-2) := by
    rw [mUnstand_2, mActs_k _ _ _ _ _ _ _ _ (by decide)]; rfl
  refine uI_act h q1 q2 (fun k k1 k2 => by rw [mUnstand_1, mActs_1, if_neg k1]) (fun k hk => by rw [mUnstand_k _ _ _ _ _ _ _ (by omega) (by omega), mActs_k _ _ _ _ _ _ _ _ (by omega)]) (cX_pop (by rw [← hp]; exact hX)) ?_ (fun _ _ => ha) (fun q => absurd q (by decide : ¬ (1 : Nat) = 2)) (Or.inr (Or.inl ⟨rfl, hp⟩)) (Or.inr (Or.inl ⟨rfl, hp, e2, hr⟩))
  rw [e2]
  exact agr_pop (by rw [← hp]; exact hA) (by omega)
theorem uI_put {u : mS} {es : List hE} {c : cfg} (h : uI u es c) (h3 : ¬ u.1 28 = 300) {a : Nat} (ha : a < (u.1 3).toNatClampNeg) {P X Y D N : Nat} (hin : rIn u P X Y D N) (hfr : ∀ j, inR (P, X, Y, D, N) j → u.2 2 j = (-2)) (hl : (c a).length ≤ 5) (hg : lgT none ((P, X, Y, D, N) :: c a)) (hk : ¬ u.2 4 a = 0 → c a = []) (hk0 : u.2 4 a = 0 → D = 1 ∧ ∀ s, s ∈ c a → bhd (P, X, Y, D, N) s) (hk3 : u.2 4 a = 3 → u.2 11 a = nI P) : uI (mActs (mStand u (nI a) P X Y D N) 0 (nI a) 0 0 0 0 0) ((0, a, (P, X, Y, D, N), []) :: es) (cPush c a (P, X, Y, D, N)) := by
  have hn := n80 h.1
  have hok := uI_ok h
  have hr : rOK (P, X, Y, D, N) := ⟨hin.1, hin.2.1, hin.2.2.2.1, hin.2.2.1, hin.2.2.2.2.1⟩
  have hok2 := cOK_push hok ha hr hl hg (fun q => hk (by rw [q]; decide))
  obtain ⟨q1, q2⟩ := stand_H h.1 h.2.2.1 h3 ha hr hl hok2
  have e2 : (mActs (mStand u (nI a) P X Y D N) 0 (nI a) 0 0 0 0 0).2 2 = setF (u.2 2) (P, X, Y, D, N) (nI a) := by
    rw [mActs_k _ _ _ _ _ _ _ _ (by decide), mStand_2]; rfl
  refine uI_act h q1 q2 (fun k k1 k2 => by rw [mActs_1, if_neg k1, mStand_1]) (fun k hk => by rw [mActs_k _ _ _ _ _ _ _ _ (by omega), mStand_k2 _ _ _ _ _ _ _ (by omega) (by omega)]) (cX_push (gH_cX h.2.2.2.1) ha hin.2.2.2.2.2 hk hk0 hk3) ?_ (fun _ _ => ha) (fun q => absurd q (by decide : ¬ (0 : Nat) = 2)) (Or.inl ⟨rfl, _, rfl⟩) (Or.inl ⟨rfl, rfl, e2, hfr, hr⟩)
  rw [e2]
  exact agr_push (gH_agr h.2.2.2.1) (by omega) hr hfr
theorem uI_rule {u : mS} {es : List hE} {c : cfg} (h : uI u es c) (h3 : ¬ u.1 28 = 300) {P X Y : Nat} (hP : P < 12) (hX : X < 8) (hY : Y < (u.2 0 (8 * P + X)).toNatClampNeg) (hfr : u.2 2 (480 * P + 60 * X + Y) = (-2)) : uI (mActs (mst u 2 (480 * nI P + 60 * nI X + nI Y) 100) 2 (nI P) (nI X) (nI Y) 0 0 0) ((2, 0, (P, X, Y, 1, 1), []) :: es) c := by
  have l6 := ln60 h.1 (j := 8 * P + X) (by omega)
  have hY6 : Y < 60 := by omega
  obtain ⟨q1, q2⟩ := rule_H h.1 h.2.2.1 h3 hP hX hY6
  have e2 : (mActs (mst u 2 (480 * nI P + 60 * nI X + nI Y) 100) 2 (nI P) (nI X) (nI Y) 0 0 0).2 2 = setF (u.2 2) (P, X, Y, 1, 1) 100 := by
    rw [mActs_k _ _ _ _ _ _ _ _ (by decide)]
    funext j
    rw [mst_at, idxN hP hX hY6, nI_clamp (by omega)]
    show _ = setR (u.2 2) P X Y 1 100 1 j
    unfold setR setR setC
    by_cases hj : j = 480 * P + 60 * X + Y
    · rw [if_pos hj, if_pos (by omega)]
    · rw [if_neg hj, if_neg (by omega)]
  have hf : frG (u.2 2) (P, X, Y, 1, 1) := fun j ⟨x, y, hx, hy, e⟩ => by
    have hx : x < 1 := hx
    have hy : y < 1 := hy
    rw [e, show 480 * (P, X, Y, 1, 1).1 + 60 * ((P, X, Y, 1, 1).2.1 + x) + ((P, X, Y, 1, 1).2.2.1 + y) = 480 * P + 60 * X + Y by show 480 * P + 60 * (X + x) + (Y + y) = _; omega]
    exact hfr
  refine uI_act h q1 q2 (fun k k1 k2 => by rw [mActs_1, if_neg k1]; rfl) (fun k hk => by rw [mActs_k _ _ _ _ _ _ _ _ (by omega), mst_other (by omega)]) (gH_cX h.2.2.2.1) ?_ (fun _ q => absurd rfl q) (fun _ => ?_) (Or.inr (Or.inr (Or.inl ⟨rfl, rfl, hP, hX, hY6⟩))) (Or.inr (Or.inr (Or.inl ⟨rfl, rfl, e2, hf⟩)))
  · rw [e2]
    exact agr_rule (gH_agr h.2.2.2.1) hf
  · intro x hx
    have hx : x < 1 := hx
    show Y + 1 ≤ (u.2 0 (8 * P + (X + x))).toNatClampNeg
    rw [show X + x = X by omega]
    omega
theorem agr_fill {n : Nat} {kd : Nat → Int32} {c : cfg} {G : Nat → Int32} (hn : n ≤ 80) (h : agr c G) : ∀ {xs : List fX}, xG n kd c xs → frL9 G xs → agr (cFill c xs) (gFill G xs)
  | [], _, _ => h
  | x :: xs, hx, hf => by
    obtain ⟨x1, x2, x3, x4, x5⟩ := hx
    exact agr_push (agr_fill hn h x1 hf.1) (by omega) x5 hf.2
theorem cX_fill {u : mS} {c : cfg} (h : cX u c) : ∀ {xs : List fX}, xG (u.1 3).toNatClampNeg (u.2 4) c xs → (∀ x, x ∈ xs → rLn u (xR x)) → cX u (cFill c xs)
  | [], _, _ => h
  | x :: xs, hx, hl => by
    obtain ⟨x1, x2, x3, x4, x5⟩ := hx
    exact cX_push (cX_fill h x1 (fun y hy => hl y (List.mem_cons_of_mem _ hy))) x2 (hl x List.mem_cons_self) (fun _ => x4) (fun q => absurd (x3.symm.trans q) (by decide)) (fun q => absurd (x3.symm.trans q) (by decide))
theorem fillR_2 (u : mS) : ∀ xs, (fillR u xs).2 2 = gFill (u.2 2) xs
  | [] => rfl
  | x :: xs => by
    show (mst (mStand (fillR u xs) (nI x.1) x.2.1 x.2.2.1 x.2.2.2.1 1 x.2.2.2.2) 37 _ _).2 2 = setF (gFill (u.2 2) xs) (xR x) (nI x.1)
    rw [mst_other (by decide), mStand_2, fillR_2 u xs]
    rfl
theorem uI_fill {u : mS} {es : List hE} {c : cfg} (h : uI u es c) (h3 : ¬ u.1 28 = 300) {xs : List fX} (hg : fGood u xs) (hf : frL9 (u.2 2) xs) (hl : ∀ x, x ∈ xs → rLn u (xR x)) : uI (mFillE u xs) ((3, 0, (0, 0, 0, 0, 0), xs) :: es) (cFill c xs) := by
  have hn := n80 h.1
  obtain ⟨q1, q2⟩ := fill_H h.1 h.2.2.1 h3 hg
  obtain ⟨i1_, -⟩ := fill_ind h.1 h.2.2.1 xs hg
  have hk := fillR_k u xs
  have e2 : (mFillE u xs).2 2 = gFill (u.2 2) xs := by
    unfold mFillE
    rw [mset_2, mActs_k _ _ _ _ _ _ _ _ (by decide), fillR_2]
  refine uI_act h q1 q2 (fun k k1 k2 => ?_) (fun k k1 => ?_) (cX_fill (gH_cX h.2.2.2.1) i1_ hl) ?_ (fun q => absurd rfl q) (fun q => absurd q (by decide : ¬ (3 : Nat) = 2)) (Or.inr (Or.inr (Or.inr ⟨rfl, rfl, i1_⟩))) (Or.inr (Or.inr (Or.inr ⟨rfl, rfl, e2, hf⟩)))
  · unfold mFillE mset
    dsimp only
    rw [if_neg k2, mActs_1, if_neg k1, hk.1]
  · unfold mFillE
    rw [mset_2, mActs_k _ _ _ _ _ _ _ _ (by omega), hk.2 k (by unfold stR; omega)]
  · rw [e2]
    exact agr_fill hn (gH_agr h.2.2.2.1) i1_ hf
