theorem stand_H {u : mS} (r : rI u) {es : List hE} {c : cfg} (d : mH u es c) (h3 : ¬ u.1 28 = 300) {a : Nat} (han : a < (u.1 3).toNatClampNeg) {P X Y D N : Nat} (hr : rOK (P, X, Y, D, N)) (hl : (c a).length ≤ 5) (hok2 : cOK (u.1 3).toNatClampNeg (u.2 4) (cPush c a (P, X, Y, D, N))) : rI (mActs (mStand u (nI a) P X Y D N) 0 (nI a) 0 0 0 0 0) ∧ mH (mActs (mStand u (nI a) P X Y D N) 0 (nI a) 0 0 0 0 0) ((0, a, (P, X, Y, D, N), []) :: es) (cPush c a (P, X, Y, D, N)) := by
  have ha : a < 80 := Nat.lt_of_lt_of_le han (n80 r)
  have hok := hOK_c d.2.2.2.1
  have hm := cM_stand ha hl (fun b => (hok b).2.1) d.2.2.2.2.2 P X Y D N
  have h28 : ((mStand u (nI a) P X Y D N).1 28).toNatClampNeg = es.length := by rw [mStand_1, d.2.1, nI_clamp (by have := d.1; omega)]
  have hx := mActs_r (mStand u (nI a) P X Y D N) 0 (nI a) 0 0 0 0 0
  rw [h28] at hx
  have i3 : ∀ j, j ≠ 28 → (mActs (mStand u (nI a) P X Y D N) 0 (nI a) 0 0 0 0 0).1 j = u.1 j := fun j hj => by rw [mActs_1, if_neg hj, mStand_1]
  have i28 : (mActs (mStand u (nI a) P X Y D N) 0 (nI a) 0 0 0 0 0).1 28 = u.1 28 + 1 := by rw [mActs_1, if_pos rfl, mStand_1]
  refine ⟨rI_m (rI_stand r ha hr.2.1) (i3 3 (by decide)) (i3 38 (by decide)) (fun k hk => mActs_k _ _ _ _ _ _ _ _ (by omega)), ?_⟩
  refine mH_new d (acts300 d h3) (i3 3 (by decide)) ?_ i28 (by rw [i3 36 (by decide), fil_no _ (by decide : (0 : Nat) ≠ 3)]; exact d.2.2.1) (fun k k1 k2 t ht => ?_) (fun j _ => ?_) ?_ (cM_rows (fun k k1 k2 => mActs_k _ _ _ _ _ _ _ _ (by omega)) hm) hok2 (Or.inl ⟨rfl, _, rfl⟩)
  · rw [mActs_k _ _ _ _ _ _ _ _ (by decide), mStand_k2 _ _ _ _ _ _ _ (by decide) (by decide)]
  · obtain ⟨q1, q2, q3, q4, q5, q6, q7⟩ := hx t
    rw [if_neg (by omega)] at q1 q2 q3 q4 q5 q6 q7
    have hk : k = 29 ∨ k = 30 ∨ k = 31 ∨ k = 32 ∨ k = 33 ∨ k = 34 ∨ k = 35 := by omega
    rcases hk with e | e | e | e | e | e | e <;> subst e
    · rw [q1, mStand_k2 _ _ _ _ _ _ _ (by decide) (by decide)]
    · rw [q2, mStand_k2 _ _ _ _ _ _ _ (by decide) (by decide)]
    · rw [q3, mStand_k2 _ _ _ _ _ _ _ (by decide) (by decide)]
    · rw [q4, mStand_k2 _ _ _ _ _ _ _ (by decide) (by decide)]
    · rw [q5, mStand_k2 _ _ _ _ _ _ _ (by decide) (by decide)]
    · rw [q6, mStand_k2 _ _ _ _ _ _ _ (by decide) (by decide)]
    · rw [q7, mStand_k2 _ _ _ _ _ _ _ (by decide) (by decide)]
  · rw [mActs_k _ _ _ _ _ _ _ _ (by decide), mStand_k2 _ _ _ _ _ _ _ (by decide) (by decide)]
  · obtain ⟨q1, q2, -⟩ := hx es.length
    rw [if_pos rfl] at q1 q2
    exact ⟨q1, fun _ => q2, fun q => absurd q (by decide : ¬ (0 : Nat) = 1), fun q => absurd q (by decide : ¬ (0 : Nat) = 2), fun q => absurd q (by decide : ¬ (0 : Nat) = 3)⟩
theorem lift_H {u : mS} (r : rI u) {es : List hE} {c : cfg} (d : mH u es c) (h3 : ¬ u.1 28 = 300) {a : Nat} (ha : a < 80) {P X Y D N : Nat} {l : List fR} (hc : c a = (P, X, Y, D, N) :: l) : rI (mUnstand (mActs u 1 (nI a) (nI P) (nI X) (nI Y) (nI D) (nI N)) (nI a) P X Y D N) ∧ mH (mUnstand (mActs u 1 (nI a) (nI P) (nI X) (nI Y) (nI D) (nI N)) (nI a) P X Y D N) ((1, a, (P, X, Y, D, N), []) :: es) (cDrop c a l) := by
  have hok := hOK_c d.2.2.2.1
  have hl : (cDrop c a l a).length ≤ 5 := by
    rw [cDrop_a]
    have h1 := (hok a).2.1
    rw [hc, List.length_cons] at h1
    omega
  have hp := cDrop_push hc
  have hm : cM (mActs u 1 (nI a) (nI P) (nI X) (nI Y) (nI D) (nI N)) (cPush (cDrop c a l) a (P, X, Y, D, N)) := by
    rw [← hp]; exact cM_rows (fun k k1 k2 => mActs_k _ _ _ _ _ _ _ _ (by omega)) d.2.2.2.2.2
  have h28 := len28 d
  have hx := acts_at h28 1 (nI a) (nI P) (nI X) (nI Y) (nI D) (nI N)
  have ho := acts_old h28 1 (nI a) (nI P) (nI X) (nI Y) (nI D) (nI N)
  have i3 : ∀ j, j ≠ 28 → (mActs u 1 (nI a) (nI P) (nI X) (nI Y) (nI D) (nI N)).1 j = u.1 j := fun j hj => by rw [mActs_1, if_neg hj]
  have i28 : (mActs u 1 (nI a) (nI P) (nI X) (nI Y) (nI D) (nI N)).1 28 = u.1 28 + 1 := by rw [mActs_1, if_pos rfl]
  have k4 : ∀ k, k < 29 ∨ 35 < k → (mActs u 1 (nI a) (nI P) (nI X) (nI Y) (nI D) (nI N)).2 k = u.2 k := fun k hk => mActs_k _ _ _ _ _ _ _ _ hk
  generalize mActs u 1 (nI a) (nI P) (nI X) (nI Y) (nI D) (nI N) = w at hm hx ho i3 i28 k4
  have uk : ∀ k, k ≠ 2 → k ≠ 22 → (mUnstand w (nI a) P X Y D N).2 k = w.2 k := fun k h1 h2 => mUnstand_k _ _ _ _ _ _ _ h1 h2
  have hrI := rI_unstand (rI_m r (i3 3 (by decide)) (i3 38 (by decide)) (fun k hk => k4 k (by omega))) (nI a) P X Y D N
  have hcM := cM_unstand ha hl hm P X Y D N
  have u1 : (mUnstand w (nI a) P X Y D N).1 = w.1 := rfl
  generalize mUnstand w (nI a) P X Y D N = z at uk hrI hcM u1
  refine ⟨hrI, ?_⟩
  refine mH_new d (acts300 d h3) (by rw [u1]; exact i3 3 (by decide)) ?_ (by rw [u1]; exact i28) (by rw [u1, i3 36 (by decide), fil_no _ (by decide : (1 : Nat) ≠ 3)]; exact d.2.2.1) (fun k k1 k2 t ht => ?_) (fun j _ => ?_) ?_ hcM (cOK_drop hok hc) (Or.inr (Or.inl ⟨rfl, hp⟩))
  · rw [uk 4 (by decide) (by decide)]; exact k4 4 (by decide)
  · rw [uk k (by omega) (by omega)]; exact ho k k1 k2 t ht
  · rw [uk 37 (by decide) (by decide), k4 37 (by decide)]
  · unfold eM
    rw [uk 29 (by decide) (by decide), uk 30 (by decide) (by decide), uk 31 (by decide) (by decide), uk 32 (by decide) (by decide), uk 33 (by decide) (by decide), uk 34 (by decide) (by decide), uk 35 (by decide) (by decide)]
    obtain ⟨q1, q2, q3, q4, q5, q6, q7⟩ := hx
    exact ⟨q1, fun q => absurd q (by decide : ¬ (1 : Nat) = 0), fun _ => ⟨q2, q3, q4, q5, q6, q7⟩, fun q => absurd q (by decide : ¬ (1 : Nat) = 2), fun q => absurd q (by decide : ¬ (1 : Nat) = 3)⟩
theorem fill_H {u : mS} (r : rI u) {es : List hE} {c : cfg} (d : mH u es c) (h3 : ¬ u.1 28 = 300) {xs : List fX} (hg : fGood u xs) : rI (mFillE u xs) ∧ mH (mFillE u xs) ((3, 0, (0, 0, 0, 0, 0), xs) :: es) (cFill c xs) := by
  obtain ⟨i1_, i2, i3_, i4, i5⟩ := fill_ind r d xs hg
  have hk := fillR_k u xs
  unfold mFillE
  generalize fillR u xs = z at i2 i3_ i4 i5 hk
  have h28 : (z.1 28).toNatClampNeg = es.length := by rw [hk.1]; exact len28 d
  have hx := acts_at h28 3 (nI xs.length) 0 0 0 0 0
  have ho := acts_old h28 3 (nI xs.length) 0 0 0 0 0
  have i3 : ∀ j, j ≠ 28 → (mActs z 3 (nI xs.length) 0 0 0 0 0).1 j = u.1 j := fun j hj => by rw [mActs_1, if_neg hj, hk.1]
  have i28 : (mActs z 3 (nI xs.length) 0 0 0 0 0).1 28 = u.1 28 + 1 := by rw [mActs_1, if_pos rfl, hk.1]
  have k4 : ∀ k, k < 29 ∨ 35 < k → (mActs z 3 (nI xs.length) 0 0 0 0 0).2 k = z.2 k := fun k hk => mActs_k _ _ _ _ _ _ _ _ hk
  generalize mActs z 3 (nI xs.length) 0 0 0 0 0 = w2 at hx ho i3 i28 k4
  have m1 : ∀ j, j ≠ 36 → (mset w2 36 (w2.1 36 + nI xs.length)).1 j = w2.1 j := fun j hj => by unfold mset; exact if_neg hj
  have m36 : (mset w2 36 (w2.1 36 + nI xs.length)).1 36 = nI (fil es + xs.length) := by rw [mset_same, i3 36 (by decide), d.2.2.1, nI_add]
  have m2 : (mset w2 36 (w2.1 36 + nI xs.length)).2 = w2.2 := rfl
  generalize mset w2 36 (w2.1 36 + nI xs.length) = y at m1 m36 m2
  refine ⟨rI_m i3_ (by rw [m1 3 (by decide), i3 3 (by decide), hk.1]) (by rw [m1 38 (by decide), i3 38 (by decide), hk.1]) (fun k q => by rw [m2]; exact k4 k (by omega)), ?_⟩
  refine mH_new d (acts300 d h3) (by rw [m1 3 (by decide)]; exact i3 3 (by decide)) ?_ (by rw [m1 28 (by decide)]; exact i28) m36 (fun k k1 k2 t ht => ?_) (fun j hj => ?_) ?_ (cM_rows (fun k k1 k2 => by rw [m2, k4 k (by omega)]) i2) (cOK_fill (hOK_c d.2.2.2.1) i1_) (Or.inr (Or.inr (Or.inr ⟨rfl, rfl, i1_⟩)))
  · rw [m2, k4 4 (by decide), hk.2 4 (nR rfl)]
  · rw [m2, ho k k1 k2 t ht, hk.2 k (by unfold stR; omega)]
  · rw [m2, k4 37 (by decide)]; exact i5 j hj
  · obtain ⟨q1, q2, -⟩ := hx
    unfold eM
    rw [m2]
    exact ⟨q1, fun q => absurd q (by decide : ¬ (3 : Nat) = 0), fun q => absurd q (by decide : ¬ (3 : Nat) = 1), fun q => absurd q (by decide : ¬ (3 : Nat) = 2), fun _ => ⟨q2, fM_c (fun j _ => by rw [m2, k4 37 (by decide)]) i4⟩⟩
theorem rule_H {u : mS} (r : rI u) {es : List hE} {c : cfg} (d : mH u es c) (h3 : ¬ u.1 28 = 300) {P X Y : Nat} (hP : P < 12) (hX : X < 8) (hY : Y < 60) : rI (mActs (mst u 2 (480 * nI P + 60 * nI X + nI Y) 100) 2 (nI P) (nI X) (nI Y) 0 0 0) ∧ mH (mActs (mst u 2 (480 * nI P + 60 * nI X + nI Y) 100) 2 (nI P) (nI X) (nI Y) 0 0 0) ((2, 0, (P, X, Y, 1, 1), []) :: es) c := by
  generalize hi : 480 * nI P + 60 * nI X + nI Y = ix
  have hr2 : rI (mst u 2 ix 100) := by
    obtain ⟨r1, r2, r3, r4, r5, r6, r7, r8⟩ := r
    refine ⟨r1, r2, ?_, ?_, ?_, ?_, fun j hj => ?_, ?_⟩
    · rw [mst_other (by decide)]; exact r3
    · rw [mst_other (by decide)]; exact r4
    · rw [mst_other (by decide)]; exact r5
    · rw [mst_other (by decide)]; exact r6
    · rw [mst_at]
      split
      · exact fun q => absurd q (by decide)
      · exact r7 j hj
    · rw [mst_other (by decide), mst_other (by decide)]; exact r8
  have s2 : ∀ k, k ≠ 2 → (mst u 2 ix 100).2 k = u.2 k := fun k hk => mst_other hk
  have s1 : (mst u 2 ix 100).1 = u.1 := rfl
  generalize mst u 2 ix 100 = z at hr2 s2 s1
  have h28 : (z.1 28).toNatClampNeg = es.length := by rw [s1]; exact len28 d
  have hx := acts_at h28 2 (nI P) (nI X) (nI Y) 0 0 0
  have ho := acts_old h28 2 (nI P) (nI X) (nI Y) 0 0 0
  have i3 : ∀ j, j ≠ 28 → (mActs z 2 (nI P) (nI X) (nI Y) 0 0 0).1 j = u.1 j := fun j hj => by rw [mActs_1, if_neg hj, s1]
  have i28 : (mActs z 2 (nI P) (nI X) (nI Y) 0 0 0).1 28 = u.1 28 + 1 := by rw [mActs_1, if_pos rfl, s1]
  have k4 : ∀ k, k < 29 ∨ 35 < k → (mActs z 2 (nI P) (nI X) (nI Y) 0 0 0).2 k = z.2 k := fun k hk => mActs_k _ _ _ _ _ _ _ _ hk
  generalize mActs z 2 (nI P) (nI X) (nI Y) 0 0 0 = w at hx ho i3 i28 k4
  refine ⟨rI_m hr2 (by rw [s1]; exact i3 3 (by decide)) (by rw [s1]; exact i3 38 (by decide)) (fun k hk => k4 k (by omega)), ?_⟩
  refine mH_new d (acts300 d h3) (i3 3 (by decide)) ?_ i28 (by rw [i3 36 (by decide), fil_no _ (by decide : (2 : Nat) ≠ 3)]; exact d.2.2.1) (fun k k1 k2 t ht => ?_) (fun j _ => ?_) ?_ (cM_rows (fun k k1 k2 => by rw [k4 k (by omega), s2 k (by omega)]) d.2.2.2.2.2) (hOK_c d.2.2.2.1) (Or.inr (Or.inr (Or.inl ⟨rfl, rfl, hP, hX, hY⟩)))
  · rw [k4 4 (by decide), s2 4 (by decide)]
  · rw [ho k k1 k2 t ht, s2 k (by omega)]
  · rw [k4 37 (by decide), s2 37 (by decide)]
  · obtain ⟨q1, q2, q3, q4, -⟩ := hx
    exact ⟨q1, fun q => absurd q (by decide : ¬ (2 : Nat) = 0), fun q => absurd q (by decide : ¬ (2 : Nat) = 1), fun _ => ⟨q2, q3, q4⟩, fun q => absurd q (by decide : ¬ (2 : Nat) = 3)⟩
/-- one more act -/
theorem uI_act {u w : mS} {es : List hE} {c c2 : cfg} {e : hE} (h : uI u es c) (hrI : rI w) (hmH : mH w (e :: es) c2) (h1 : ∀ k, k ≠ 28 → k ≠ 36 → w.1 k = u.1 k) (hr : ∀ k, k < 2 ∨ (2 < k ∧ k < 22) ∨ 37 < k → w.2 k = u.2 k) (hX : cX u c2) (hA : agr c2 (w.2 2)) (hi : e.1 ≠ 3 → e.1 ≠ 2 → e.2.1 < (u.1 3).toNatClampNeg) (hru : e.1 = 2 → rLn u (ruR e)) (hs : eS (u.1 3).toNatClampNeg (u.2 4) e c c2) (h9 : gS9 e c (u.2 2) c2 (w.2 2)) : uI w (e :: es) c2 := by
  obtain ⟨a1, a2, a3, a4, a5, a6, a7, a8, a9, a10, a11⟩ := h
  have e3 := h1 3 (by decide) (by decide)
  have hok := hOK_c hmH.2.2.2.1
  refine ⟨hrI, kB_c a2 (hr 4 (by omega)) (hr 10 (by omega)), hmH, ⟨cX_c hX (by rw [e3]; exact Nat.le_refl _) (hr 0 (by omega)) (fun a _ => ⟨by rw [hr 4 (by omega)], by rw [hr 11 (by omega)]⟩) (fun a ha => (hok a).1 (by rw [e3]; exact ha)), hA, hok, by rw [e3]; exact hi, fun q => by have z := hru q; unfold rLn at z ⊢; rw [hr 0 (by omega)]; exact z, c, u.2 2, gH_e e3 (hr 0 (by omega)) (hr 4 (by omega)) (hr 11 (by omega)) a4, by rw [e3, hr 4 (by omega)]; exact hs, h9⟩, nwI_e a5 e3 (fun r r1 => hr r (by omega)), plI_c a6 (fun r r1 r2 => hr r (by omega)), ?_, ?_, ?_, rvI_c a10 (hr 20 (by omega)), by rw [h1 39 (by decide) (by decide)]; exact a11⟩
  · unfold sdI at a7 ⊢
    rw [hr 40 (by omega), hr 4 (by omega), hr 45 (by omega), hr 11 (by omega)]; exact a7
  · unfold plZ at a8 ⊢
    rw [e3, hr 40 (by omega), hr 45 (by omega)]; exact a8
  · unfold foI at a9 ⊢
    rw [h1 38 (by decide) (by decide), hr 47 (by omega), hr 48 (by omega)]; exact a9
theorem uI_lift {u : mS} {es : List hE} {c : cfg} (h : uI u es c) (h3 : ¬ u.1 28 = 300) {a : Nat} (ha : a < (u.1 3).toNatClampNeg) {P X Y D N : Nat} {l : List fR} (hc : c a = (P, X, Y, D, N) :: l) : uI (mUnstand (mActs u 1 (nI a) (nI P) (nI X) (nI Y) (nI D) (nI N)) (nI a) P X Y D N) ((1, a, (P, X, Y, D, N), []) :: es) (cDrop c a l) := by
  have hn := n80 h.1
  obtain ⟨q1, q2⟩ := lift_H h.1 h.2.2.1 h3 (by omega) hc
  have hp := cDrop_push hc
  have hX := gH_cX h.2.2.2.1
  have hA := gH_agr h.2.2.2.1
  have hok := uI_ok h
  have hr : rOK (P, X, Y, D, N) := (hok a).2.2.1 _ (by rw [hc]; exact List.mem_cons_self)
  have e2 : (mUnstand (mActs u 1 (nI a) (nI P) (nI X) (nI Y) (nI D) (nI N)) (nI a) P X Y D N).2 2 = setF (u.2 2) (P, X, Y, D, N) (-2) := by
    rw [mUnstand_2, mActs_k _ _ _ _ _ _ _ _ (by decide)]; rfl
  refine uI_act h q1 q2 (fun k k1 k2 => by rw [mUnstand_1, mActs_1, if_neg k1]) (fun k hk => by rw [mUnstand_k _ _ _ _ _ _ _ (by omega) (by omega), mActs_k _ _ _ _ _ _ _ _ (by omega)]) (cX_pop (by rw [← hp]; exact hX)) ?_ (fun _ _ => ha) (fun q => absurd q (by decide : ¬ (1 : Nat) = 2)) (Or.inr (Or.inl ⟨rfl, hp⟩)) (Or.inr (Or.inl ⟨rfl, hp, e2, hr⟩))
  rw [e2]
  exact agr_pop (by rw [← hp]; exact hA) (by omega)
theorem uI_put {u : mS} {es : List hE} {c : cfg} (h : uI u es c) (h3 : ¬ u.1 28 = 300) {a : Nat} (ha : a < (u.1 3).toNatClampNeg) {P X Y D N : Nat} (hin : rIn u P X Y D N) (hfr : ∀ j, inR (P, X, Y, D, N) j → u.2 2 j = (-2)) (hl : (c a).length ≤ 5) (hg : lgT none ((P, X, Y, D, N) :: c a)) (hk : ¬ u.2 4 a = 0 → c a = []) (hk0 : u.2 4 a = 0 → D = 1 ∧ ∀ s, s ∈ c a → bhd (P, X, Y, D, N) s) (hk3 : u.2 4 a = 3 → u.2 11 a = nI P) : uI (mActs (mStand u (nI a) P X Y D N) 0 (nI a) 0 0 0 0 0) ((0, a, (P, X, Y, D, N), []) :: es) (cPush c a (P, X, Y, D, N)) := by
  have hn := n80 h.1
  have hok := uI_ok h
  have hr : rOK (P, X, Y, D, N) := ⟨hin.1, hin.2.1, hin.2.2.2.1, hin.2.2.1, hin.2.2.2.2.1⟩
  have hok2 := cOK_push hok ha hr hl hg (fun q => hk (by rw [q]; decide))
  obtain ⟨q1, q2⟩ := stand_H h.1 h.2.2.1 h3 ha hr hl hok2
  have e2 : (mActs (mStand u (nI a) P X Y D N) 0 (nI a) 0 0 0 0 0).2 2 = setF (u.2 2) (P, X, Y, D, N) (nI a) := by
    rw [mActs_k _ _ _ _ _ _ _ _ (by decide), mStand_2]; rfl
  refine uI_act h q1 q2 (fun k k1 k2 => by rw [mActs_1, if_neg k1, mStand_1]) (fun k hk => by rw [mActs_k _ _ _ _ _ _ _ _ (by omega), mStand_k2 _ _ _ _ _ _ _ (by omega) (by omega)]) (cX_push (gH_cX h.2.2.2.1) ha hin.2.2.2.2.2 hk hk0 hk3) ?_ (fun _ _ => ha) (fun q => absurd q (by decide : ¬ (0 : Nat) = 2)) (Or.inl ⟨rfl, _, rfl⟩) (Or.inl ⟨rfl, rfl, e2, hfr, hr⟩)
  rw [e2]
  exact agr_push (gH_agr h.2.2.2.1) (by omega) hr hfr
theorem uI_rule {u : mS} {es : List hE} {c : cfg} (h : uI u es c) (h3 : ¬ u.1 28 = 300) {P X Y : Nat} (hP : P < 12) (hX : X < 8) (hY : Y < (u.2 0 (8 * P + X)).toNatClampNeg) (hfr : u.2 2 (480 * P + 60 * X + Y) = (-2)) : uI (mActs (mst u 2 (480 * nI P + 60 * nI X + nI Y) 100) 2 (nI P) (nI X) (nI Y) 0 0 0) ((2, 0, (P, X, Y, 1, 1), []) :: es) c := by
  have l6 := ln60 h.1 (j := 8 * P + X) (by omega)
  have hY6 : Y < 60 := by omega
  obtain ⟨q1, q2⟩ := rule_H h.1 h.2.2.1 h3 hP hX hY6
  have e2 : (mActs (mst u 2 (480 * nI P + 60 * nI X + nI Y) 100) 2 (nI P) (nI X) (nI Y) 0 0 0).2 2 = setF (u.2 2) (P, X, Y, 1, 1) 100 := by
    rw [mActs_k _ _ _ _ _ _ _ _ (by decide)]
    funext j
    rw [mst_at, idxN hP hX hY6, nI_clamp (by omega)]
    show _ = setR (u.2 2) P X Y 1 100 1 j
    unfold setR setR setC
    by_cases hj : j = 480 * P + 60 * X + Y
    · rw [if_pos hj, if_pos (by omega)]
    · rw [if_neg hj, if_neg (by omega)]
  have hf : frG (u.2 2) (P, X, Y, 1, 1) := fun j ⟨x, y, hx, hy, e⟩ => by
    have hx : x < 1 := hx
    have hy : y < 1 := hy
    rw [e, show 480 * (P, X, Y, 1, 1).1 + 60 * ((P, X, Y, 1, 1).2.1 + x) + ((P, X, Y, 1, 1).2.2.1 + y) = 480 * P + 60 * X + Y by show 480 * P + 60 * (X + x) + (Y + y) = _; omega]
    exact hfr
  refine uI_act h q1 q2 (fun k k1 k2 => by rw [mActs_1, if_neg k1]; rfl) (fun k hk => by rw [mActs_k _ _ _ _ _ _ _ _ (by omega), mst_other (by omega)]) (gH_cX h.2.2.2.1) ?_ (fun _ q => absurd rfl q) (fun _ => ?_) (Or.inr (Or.inr (Or.inl ⟨rfl, rfl, hP, hX, hY6⟩))) (Or.inr (Or.inr (Or.inl ⟨rfl, rfl, e2, hf⟩)))
  · rw [e2]
    exact agr_rule (gH_agr h.2.2.2.1) hf
  · intro x hx
    have hx : x < 1 := hx
    show Y + 1 ≤ (u.2 0 (8 * P + (X + x))).toNatClampNeg
    rw [show X + x = X by omega]
    omega
theorem agr_fill {n : Nat} {kd : Nat → Int32} {c : cfg} {G : Nat → Int32} (hn : n ≤ 80) (h : agr c G) : ∀ {xs : List fX}, xG n kd c xs → frL9 G xs → agr (cFill c xs) (gFill G xs)
  | [], _, _ => h
  | x :: xs, hx, hf => by
    obtain ⟨x1, x2, x3, x4, x5⟩ := hx
    exact agr_push (agr_fill hn h x1 hf.1) (by omega) x5 hf.2
theorem cX_fill {u : mS} {c : cfg} (h : cX u c) : ∀ {xs : List fX}, xG (u.1 3).toNatClampNeg (u.2 4) c xs → (∀ x, x ∈ xs → rLn u (xR x)) → cX u (cFill c xs)
  | [], _, _ => h
  | x :: xs, hx, hl => by
    obtain ⟨x1, x2, x3, x4, x5⟩ := hx
    exact cX_push (cX_fill h x1 (fun y hy => hl y (List.mem_cons_of_mem _ hy))) x2 (hl x List.mem_cons_self) (fun _ => x4) (fun q => absurd (x3.symm.trans q) (by decide)) (fun q => absurd (x3.symm.trans q) (by decide))
theorem fillR_2 (u : mS) : ∀ xs, (fillR u xs).2 2 = gFill (u.2 2) xs
  | [] => rfl
  | x :: xs => by
    show (mst (mStand (fillR u xs) (nI x.1) x.2.1 x.2.2.1 x.2.2.2.1 1 x.2.2.2.2) 37 _ _).2 2 = setF (gFill (u.2 2) xs) (xR x) (nI x.1)
    rw [mst_other (by decide), mStand_2, fillR_2 u xs]
    rfl
theorem uI_fill {u : mS} {es : List hE} {c : cfg} (h : uI u es c) (h3 : ¬ u.1 28 = 300) {xs : List fX} (hg : fGood u xs) (hf : frL9 (u.2 2) xs) (hl : ∀ x, x ∈ xs → rLn u (xR x)) : uI (mFillE u xs) ((3, 0, (0, 0, 0, 0, 0), xs) :: es) (cFill c xs) := by
  have hn := n80 h.1
  obtain ⟨q1, q2⟩ := fill_H h.1 h.2.2.1 h3 hg
  obtain ⟨i1_, -⟩ := fill_ind h.1 h.2.2.1 xs hg
  have hk := fillR_k u xs
  have e2 : (mFillE u xs).2 2 = gFill (u.2 2) xs := by
    unfold mFillE
    rw [mset_2, mActs_k _ _ _ _ _ _ _ _ (by decide), fillR_2]
  refine uI_act h q1 q2 (fun k k1 k2 => ?_) (fun k k1 => ?_) (cX_fill (gH_cX h.2.2.2.1) i1_ hl) ?_ (fun q => absurd rfl q) (fun q => absurd q (by decide : ¬ (3 : Nat) = 2)) (Or.inr (Or.inr (Or.inr ⟨rfl, rfl, i1_⟩))) (Or.inr (Or.inr (Or.inr ⟨rfl, rfl, e2, hf⟩)))
  · unfold mFillE mset
    dsimp only
    rw [if_neg k2, mActs_1, if_neg k1, hk.1]
  · unfold mFillE
    rw [mset_2, mActs_k _ _ _ _ _ _ _ _ (by omega), hk.2 k (by unfold stR; omega)]
  · rw [e2]
    exact agr_fill hn (gH_agr h.2.2.2.1) i1_ hf
/-- what a column that is filled keeps -/
def fcQ (u0 : mS) (P c t : Nat) (s : mS × List fX × Nat) : Prop := s.1.2 0 = u0.2 0 ∧ s.1.2 2 = gFill (u0.2 2) s.2.1 ∧ frL9 (u0.2 2) s.2.1 ∧ (∀ x, x ∈ s.2.1 → rLn u0 (xR x)) ∧ s.2.2 ≤ t ∧ ∀ b, b < s.2.2 → mCellAt s.1 (nI P) (nI c) (nI (t - s.2.2 + b)) = (-2)
theorem nI_nn {x : Int32} (h : 0 ≤ x) : nI x.toNatClampNeg = x := by
  rw [i32_le, i0] at h
  exact (nI_of_bw (x := x) (hi := x) (bw_iff.mpr ⟨by rw [i0]; exact h, Int.le_refl _⟩)).1.symm
theorem fcQ_s {u0 : mS} {P c t : Nat} {s : mS × List fX × Nat} (hr : rI u0) (hP : P < 12) (hc : c < 8) (ht : t ≤ 60) (h : fcQ u0 P c t s) : fcQ u0 P c (t + 1) (fcT P c t s) := by
  obtain ⟨u, xs, r⟩ := s
  obtain ⟨h0, h2, h3, h4, h5, h6⟩ := h
  have h0 : u.2 0 = u0.2 0 := h0
  have h2 : u.2 2 = gFill (u0.2 2) xs := h2
  have h3 : frL9 (u0.2 2) xs := h3
  have h4 : ∀ x, x ∈ xs → rLn u0 (xR x) := h4
  have h5 : r ≤ t := h5
  have h6 : ∀ b, b < r → mCellAt u (nI P) (nI c) (nI (t - r + b)) = (-2) := h6
  unfold fcT
  dsimp only
  by_cases e : mCellAt u (nI P) (nI c) (nI t) = (-2)
  · rw [if_pos e]
    refine ⟨h0, h2, h3, h4, by show r + 1 ≤ t + 1; omega, fun b hb => ?_⟩
    have hb : b < r + 1 := hb
    show mCellAt u (nI P) (nI c) (nI (t + 1 - (r + 1) + b)) = (-2)
    rw [show t + 1 - (r + 1) + b = t - r + b by omega]
    by_cases q : b < r
    · exact h6 b q
    · rw [show t - r + b = t by omega]; exact e
  · rw [if_neg e]
    by_cases q : 0 < r ∧ 0 ≤ mFFr u (nI r) (u.1 3).toNatClampNeg (u.1 3).toNatClampNeg
    · rw [if_pos q]
      have hq := nI_nn q.2
      generalize mFFr u (nI r) (u.1 3).toNatClampNeg (u.1 3).toNatClampNeg = i at q hq
      have hin := fc_in (u := u) hP hc (fun a ha => by rw [h0]; exact hr.2.2.1 _ (by omega)) q.1 h5 (by omega) h6
      refine ⟨?_, ?_, ⟨h3, fun j hj => ?_⟩, fun x hx => ?_, Nat.zero_le _, fun b hb => absurd hb (Nat.not_lt_zero _)⟩
      · show (mStand u i P c (t - r) 1 r).2 0 = u0.2 0
        rw [mStand_k2 _ _ _ _ _ _ _ (by decide) (by decide)]; exact h0
      · show (mStand u i P c (t - r) 1 r).2 2 = setF (gFill (u0.2 2) xs) (P, c, t - r, 1, r) (nI i.toNatClampNeg)
        rw [mStand_2, hq, h2]; rfl
      · obtain ⟨x, y, hx, hy, ej⟩ := hj
        have hx : x < 1 := hx
        have hy : y < r := hy
        have ej : j = 480 * P + 60 * (c + x) + (t - r + y) := ej
        have z := (mCA (h6 y hy)).2
        rw [ix_c hP hc (by omega), h2] at z
        rw [ej, show c + x = c by omega]
        exact z
      · rcases List.mem_cons.mp hx with g | g
        · rw [g]
          have z := hin.2.2.2.2.2
          intro a ha
          have z2 := z a ha
          rw [h0] at z2
          exact z2
        · exact h4 x g
    · rw [if_neg q]
      exact ⟨h0, h2, h3, h4, Nat.zero_le _, fun b hb => absurd hb (Nat.not_lt_zero _)⟩
theorem fcN_Q {u0 u1 : mS} {x1 : List fX} {P c : Nat} (hr : rI u0) (hP : P < 12) (hc : c < 8) (h0 : u1.2 0 = u0.2 0) (h2 : u1.2 2 = gFill (u0.2 2) x1) (h3 : frL9 (u0.2 2) x1) (h4 : ∀ x, x ∈ x1 → rLn u0 (xR x)) : ∀ t, t ≤ 61 → fcQ u0 P c t (fcN u1 x1 P c t)
  | 0, _ => ⟨h0, h2, h3, h4, Nat.le_refl _, fun b hb => absurd hb (Nat.not_lt_zero _)⟩
  | t + 1, ht => fcQ_s hr hP hc (by omega) (fcN_Q hr hP hc h0 h2 h3 h4 t (by omega))
theorem flN_Q {u0 : mS} {P : Nat} (hr : rI u0) (hP : P < 12) : ∀ c, c ≤ 8 → (flN u0 P c).1.2 0 = u0.2 0 ∧ (flN u0 P c).1.2 2 = gFill (u0.2 2) (flN u0 P c).2 ∧ frL9 (u0.2 2) (flN u0 P c).2 ∧ ∀ x, x ∈ (flN u0 P c).2 → rLn u0 (xR x)
  | 0, _ => ⟨rfl, rfl, trivial, fun x hx => absurd hx List.not_mem_nil⟩
  | c + 1, hc => by
    obtain ⟨h0, h2, h3, h4⟩ := flN_Q hr hP c (by omega)
    have l6 := ln60 hr (j := 8 * P + c) (by omega)
    have q := fcN_Q hr hP (c := c) (by omega) h0 h2 h3 h4 (((flN u0 P c).1.2 0 (8 * P + c)).toNatClampNeg + 1) (by rw [h0]; omega)
    exact ⟨q.1, q.2.1, q.2.2.1, q.2.2.2.1⟩
/-- a piece that came and went again -/
theorem try_2 {u : mS} {a P X Y N : Nat} (hf : ∀ j, inR (P, X, Y, 1, N) j → u.2 2 j = (-2)) : (mTry u (nI a) P X Y N).2 2 = u.2 2 := by
  unfold mTry
  rw [mUnstand_2, mStand_2]
  show setF (setF (u.2 2) (P, X, Y, 1, N) (nI a)) (P, X, Y, 1, N) (-2) = u.2 2
  exact setF_re hf
theorem try_22 {u : mS} {a P X Y N : Nat} (ha : a < 80) : (mTry u (nI a) P X Y N).2 22 = u.2 22 := by
  funext j
  unfold mTry
  rw [mUnstand_22o, mStand_22o, mStand_22o]
  by_cases e : j = (nI a).toNatClampNeg
  · rw [if_pos e, if_pos rfl, addsub1, e]
  · rw [if_neg e, if_neg e]
theorem try_k {u : mS} {a P X Y N k : Nat} (h1 : k ≠ 2) (h2 : k < 22 ∨ 27 < k) : (mTry u (nI a) P X Y N).2 k = u.2 k := by
  unfold mTry
  rw [mUnstand_k _ _ _ _ _ _ _ h1 (by omega), mStand_k2 _ _ _ _ _ _ _ h1 h2]
theorem uI_try {u : mS} {es : List hE} {c : cfg} (h : uI u es c) {a P X Y N : Nat} (ha : a < 80) (hl : (c a).length ≤ 5) (hX : X + 1 ≤ 8) (hf : ∀ j, inR (P, X, Y, 1, N) j → u.2 2 j = (-2)) : uI (mTry u (nI a) P X Y N) es c := by
  obtain ⟨a1, a2, a3, a4, a5, a6, a7, a8, a9, a10, a11⟩ := h
  have ho : ∀ k, k ≠ 2 → k < 22 ∨ 27 < k → (mTry u (nI a) P X Y N).2 k = u.2 k := fun k k1 k2 => try_k k1 k2
  have e1 := mTry_1 u (nI a) P X Y N
  refine ⟨rI_unstand (rI_stand a1 ha hX) _ _ _ _ _ _, kB_c a2 (ho 4 (by decide) (by decide)) (ho 10 (by decide) (by decide)), try_H a3 ha hl P X Y N, ?_, nwI_e a5 (by rw [e1]) (fun r r1 => ho r (by omega) (by omega)), plI_c a6 (fun r r1 r2 => ho r (by omega) (by omega)), ?_, ?_, ?_, rvI_c a10 (ho 20 (by decide) (by decide)), by rw [e1]; exact a11⟩
  · rw [try_2 hf]
    exact gH_e (by rw [e1]) (ho 0 (by decide) (by decide)) (ho 4 (by decide) (by decide)) (ho 11 (by decide) (by decide)) a4
  · unfold sdI at a7 ⊢
    rw [ho 40 (by decide) (by decide), ho 4 (by decide) (by decide), ho 45 (by decide) (by decide), ho 11 (by decide) (by decide)]; exact a7
  · unfold plZ at a8 ⊢
    rw [e1, ho 40 (by decide) (by decide), ho 45 (by decide) (by decide)]; exact a8
  · unfold foI at a9 ⊢
    rw [e1, ho 47 (by decide) (by decide), ho 48 (by decide) (by decide)]; exact a9
theorem try_slot {u : mS} {a P X Y N r j : Nat} (h1 : 23 ≤ r) (h2 : r ≤ 27) (hj : j ≠ (6 * nI a + u.2 22 (nI a).toNatClampNeg).toNatClampNeg) : (mTry u (nI a) P X Y N).2 r j = u.2 r j := by
  unfold mTry
  rw [mUnstand_k _ _ _ _ _ _ _ (by omega) (by omega)]
  obtain ⟨q1, q2, q3, q4, q5⟩ := mStand_r u (nI a) P X Y 1 N j
  rw [if_neg hj] at q1 q2 q3 q4 q5
  have hr : r = 23 ∨ r = 24 ∨ r = 25 ∨ r = 26 ∨ r = 27 := by omega
  rcases hr with e | e | e | e | e <;> subst e
  · exact q1
  · exact q2
  · exact q3
  · exact q4
  · exact q5
theorem rep_try {q : Nat → ClassId} {d : Nat → Nat} {u : mS} {z : gS} {f : xF} {es : List hE} {c : cfg} (h : uI u es c) (hrp : rep q d u z f) {a P X Y N : Nat} (ha : a < 80) (hl : (c a).length ≤ 5) (hf : ∀ j, inR (P, X, Y, 1, N) j → u.2 2 j = (-2)) : rep q d (mTry u (nI a) P X Y N) z f := by
  have g := uI_g h
  have hn := n80 h.1
  have e1 := mTry_1 u (nI a) P X Y N
  refine rep_ext hrp (by rw [e1]) (fun r hr => ?_) (fun r r1 r2 j hj t ht => try_slot r1 r2 ?_)
  · by_cases e : r = 2
    · rw [e]; exact try_2 hf
    · by_cases e2 : r = 22
      · rw [e2]; exact try_22 ha
      · exact try_k e (by omega)
  · have h6 := g.2.2.2.2.2 a
    have hj6 := g.2.2.2.2.2 j
    rw [cnt_e g (by omega)] at ht
    rw [nI_clamp (n := a) (by omega), (g.2.2.2.1 a ha).1, ix6, nI_clamp (by omega)]
    intro q
    have : j = a := by omega
    rw [this] at ht
    omega
theorem try_stand {u : mS} {a P X Y D N : Nat} (ha : a < 80) (hf : ∀ j, inR (P, X, Y, 1, N) j → u.2 2 j = (-2)) : mStand (mTry u (nI a) P X Y N) (nI a) P X Y D N = mStand u (nI a) P X Y D N := by
  refine mS_x (by rw [mStand_1, mStand_1, mTry_1]) (fun r j => ?_)
  by_cases e2 : r = 2
  · rw [e2, mStand_2, mStand_2, try_2 hf]
  · by_cases e22 : r = 22
    · rw [e22, mStand_22o, mStand_22o, try_22 ha]
    · by_cases e : 23 ≤ r ∧ r ≤ 27
      · obtain ⟨q1, q2, q3, q4, q5⟩ := mStand_r (mTry u (nI a) P X Y N) (nI a) P X Y D N j
        obtain ⟨p1, p2, p3, p4, p5⟩ := mStand_r u (nI a) P X Y D N j
        rw [try_22 ha] at q1 q2 q3 q4 q5
        by_cases s : j = (6 * nI a + u.2 22 (nI a).toNatClampNeg).toNatClampNeg
        · rw [if_pos s] at q1 q2 q3 q4 q5 p1 p2 p3 p4 p5
          have hr : r = 23 ∨ r = 24 ∨ r = 25 ∨ r = 26 ∨ r = 27 := by omega
          rcases hr with z | z | z | z | z <;> subst z
          · rw [q1, p1]
          · rw [q2, p2]
          · rw [q3, p3]
          · rw [q4, p4]
          · rw [q5, p5]
        · rw [if_neg s] at q1 q2 q3 q4 q5 p1 p2 p3 p4 p5
          have t := try_slot (u := u) (P := P) (X := X) (Y := Y) (N := N) e.1 e.2 s
          have hr : r = 23 ∨ r = 24 ∨ r = 25 ∨ r = 26 ∨ r = 27 := by omega
          rcases hr with z | z | z | z | z <;> subst z
          · rw [q1, p1]; exact t
          · rw [q2, p2]; exact t
          · rw [q3, p3]; exact t
          · rw [q4, p4]; exact t
          · rw [q5, p5]; exact t
      · rw [mStand_k2 _ _ _ _ _ _ _ e2 (by omega), mStand_k2 _ _ _ _ _ _ _ e2 (by omega), try_k e2 (by omega)]
theorem slE_u {u : mS} {k : Nat} {r s : fR} (hr : rOK r) (hs : rOK s) (h : slE u k r) (h2 : slE u k s) : r = s := by
  obtain ⟨a1, a2, a3, a4, a5⟩ := hr
  obtain ⟨b1, b2, b3, b4, b5⟩ := hs
  have e1 : r.1 = s.1 := (nI_inj (by omega) (by omega)).mp (h.1.symm.trans h2.1)
  have e2 : r.2.1 = s.2.1 := (nI_inj (by omega) (by omega)).mp (h.2.1.symm.trans h2.2.1)
  have e3 : r.2.2.1 = s.2.2.1 := (nI_inj (by omega) (by omega)).mp (h.2.2.1.symm.trans h2.2.2.1)
  have e4 : r.2.2.2.1 = s.2.2.2.1 := (nI_inj (by omega) (by omega)).mp (h.2.2.2.1.symm.trans h2.2.2.2.1)
  have e5 : r.2.2.2.2 = s.2.2.2.2 := (nI_inj (by omega) (by omega)).mp (h.2.2.2.2.symm.trans h2.2.2.2.2)
  exact Prod.ext e1 (Prod.ext e2 (Prod.ext e3 (Prod.ext e4 e5)))
/-- a later piece stands behind an earlier one -/
theorem sl_bhd {u : mS} {a : Nat} : ∀ {l : List fR}, slM u a l → List.Pairwise bhd l → ∀ t t2, t < t2 → t2 < l.length → ∃ r r2, r ∈ l ∧ r2 ∈ l ∧ slE u (6 * a + t) r ∧ slE u (6 * a + t2) r2 ∧ bhd r2 r
  | [], _, _, t, t2, _, h => absurd h (Nat.not_lt_zero _)
  | q :: l, h, hp, t, t2, h1, h2 => by
    obtain ⟨p1, p2⟩ := List.pairwise_cons.mp hp
    rw [List.length_cons] at h2
    by_cases e : t2 = l.length
    · obtain ⟨r, r1, r2⟩ := (sl_mem h.2).2 t (by omega)
      exact ⟨r, q, List.mem_cons_of_mem _ r1, List.mem_cons_self, r2, by rw [e]; exact h.1, p1 r r1⟩
    · obtain ⟨r, r2, a1, a2, a3⟩ := sl_bhd h.2 p2 t t2 h1 (by omega)
      exact ⟨r, r2, List.mem_cons_of_mem _ a1, List.mem_cons_of_mem _ a2, a3⟩
/-- what stands on a page, told by the first piece there -/
theorem pl_new {u : mS} {es : List hE} {c : cfg} (h : uI u es c) {P i : Nat} {x y : Int32} (hP : P < 12) (hi : i < 80) (hR : plR u P i 0 (ptN u i) x y) : (x = (-1) ∧ ∀ c' l', c' < 8 → l' < (u.2 0 (8 * P + c')).toNatClampNeg → ¬ u.2 2 (480 * P + (60 * c' + l')) = nI i) ∨ ∃ X Y, x = nI X ∧ y = nI Y ∧ X < 8 ∧ Y < (u.2 0 (8 * P + X)).toNatClampNeg ∧ u.2 2 (480 * P + (60 * X + Y)) = nI i ∧ (∃ r, r ∈ c i ∧ r.1 = P) ∧ ∀ c' l', c' < 8 → l' < (u.2 0 (8 * P + c')).toNatClampNeg → (c' < X ∨ (c' = X ∧ l' < Y)) → ¬ u.2 2 (480 * P + (60 * c' + l')) = nI i := by
  have g := uI_g h
  have hn := n80 h.1
  have hX := gH_cX h.2.2.2.1
  have hc6 := g.2.2.2.2.2 i
  have ec := cnt_e g hi
  have ept : ptN u i = (c i).length := by
    unfold ptN
    by_cases q : i < (u.1 3).toNatClampNeg
    · rw [if_pos q]; exact ec
    · rw [if_neg q, g.2.2.2.2.1 i (by omega)]; rfl
  -- a cell of the item on the page lies in one of its pieces there
  have cell : ∀ c' l', c' < 8 → l' < (u.2 0 (8 * P + c')).toNatClampNeg → u.2 2 (480 * P + (60 * c' + l')) = nI i → ∃ k r, k < ptN u i ∧ r ∈ c i ∧ slE u (6 * i + k) r ∧ r.1 = P ∧ r.2.1 ≤ c' ∧ c' < r.2.1 + r.2.2.2.1 ∧ r.2.2.1 ≤ l' ∧ l' < r.2.2.1 + r.2.2.2.2 := fun c' l' h1 h2 h3 => by
    have l6 := ln60 h.1 (j := 8 * P + c') (by omega)
    rw [show 480 * P + (60 * c' + l') = 480 * P + 60 * c' + l' by omega] at h3
    obtain ⟨r, r1, r2⟩ := (g.2.1.1 _ (by omega) i hi).mp h3
    rw [inR_xy (g.2.2.1 i r r1).1 h1 (by omega)] at r2
    obtain ⟨t, t1, t2⟩ := r_pc g hi r1
    exact ⟨t, r, by rw [ept, ← ec]; exact t1, r1, t2, r2⟩
  rcases hR with ⟨h1, h2⟩ | ⟨k, -, hk, hp, hm, ex, ey⟩
  · refine Or.inl ⟨h1, fun c' l' q1 q2 q3 => ?_⟩
    obtain ⟨k, r, k1, k2, k3, k4, -⟩ := cell c' l' q1 q2 q3
    exact h2 k (Nat.zero_le _) k1 (by unfold pgK; rw [k3.1, k4])
  · obtain ⟨r, r1, r2⟩ := pc_r g (i := i) (t := k) hi (by rw [ec, ← ept]; exact hk)
    obtain ⟨kr, lr⟩ := g.2.2.1 i r r1
    have rP : r.1 = P := (nI_inj (by have := kr.1; omega) (by omega)).mp (r2.1.symm.trans hp)
    have kr2 := kr
    obtain ⟨m1, m2, m3, m4, m5⟩ := kr2
    have lr2 := rLn_at lr rP (x := r.2.1) (Nat.le_refl _) (by omega)
    refine Or.inr ⟨r.2.1, r.2.2.1, ex.trans r2.2.1, ey.trans r2.2.2.1, by omega, by omega, ?_, ⟨r, r1, rP⟩, fun c' l' q1 q2 q3 q4 => ?_⟩
    · rw [show 480 * P + (60 * r.2.1 + r.2.2.1) = 480 * P + 60 * r.2.1 + r.2.2.1 by omega]
      exact (g.2.1.1 _ (by omega) i hi).mpr ⟨r, r1, (inR_xy kr (by omega) (by omega)).mpr ⟨rP, Nat.le_refl _, by omega, Nat.le_refl _, by omega⟩⟩
    · obtain ⟨k2, r', a1, a2, a3, a4, a5, a6, a7, a8⟩ := cell c' l' q1 q2 q4
      have kr' := (g.2.2.1 i r' a2).1
      rcases Nat.lt_trichotomy k2 k with z | z | z
      · exact hm k2 (Nat.zero_le _) z (by unfold pgK; rw [a3.1, a4])
      · rw [z] at a3
        have e := slE_u kr' kr a3 r2
        rw [e] at a5 a6 a7 a8
        omega
      · -- a later piece: a story's, behind
        by_cases q : i < (u.1 3).toNatClampNeg
        · by_cases k0 : u.2 4 i = 0
          · obtain ⟨s, s2, b1, b2, b3, b4, b5⟩ := sl_bhd (g.2.2.2.1 i hi).2 ((hX i q).2.2.1 k0).2 k k2 z (by rw [← ept]; exact a1)
            have e1 := slE_u (g.2.2.1 i s b1).1 kr b3 r2
            have e2 := slE_u (g.2.2.1 i s2 b2).1 kr' b4 a3
            rw [e1, e2] at b5
            unfold bhd at b5
            rw [rP, a4] at b5
            omega
          · have := (hX i q).2.1 k0
            omega
        · rw [g.2.2.2.2.1 i (by omega)] at a2
          exact absurd a2 List.not_mem_nil
theorem uI_plate {u w : mS} {es : List hE} {c : cfg} (h : uI u es c) {P : Nat} (hP : P < 12) (hB : plB u P w) (hI : plI9 u P w 80) : uI w es c := by
  have h0 := h
  have hX := gH_cX h.2.2.2.1
  have g := uI_g h
  have hn := n80 h.1
  obtain ⟨⟨b1, b2, b40, b41, b42⟩, b44, b43⟩ := hB
  obtain ⟨i1, i2⟩ := hI
  have w43 : ∀ j, j < 96 → bw (w.2 43 j) 0 60 = true := fun j hj => by
    rw [b43 j]
    split
    · exact h.1.2.2.1 j hj
    · exact h.1.2.2.2.1 j hj
  have hk := (mKp_Pl (uI_M h) ⟨b1, b2, w43⟩).1.1
  obtain ⟨a1, a2, a3, a4, a5, a6, a7, a8, a9, a10, a11⟩ := h
  have e3 := b1 3 (by decide) (by decide) (by decide)
  have n43 : ∀ c', c' < 8 → w.2 43 (8 * P + c') = u.2 0 (8 * P + c') := fun c' hc => by rw [b43, if_pos (by omega)]
  have n44 : ∀ j, j < 480 → w.2 44 (480 * P + j) = u.2 2 (480 * P + j) := fun j hj => by rw [b44, if_pos (by omega)]
  have o43 : ∀ p c', p < 12 → p ≠ P → c' < 8 → w.2 43 (8 * p + c') = u.2 43 (8 * p + c') := fun p c' hp hpp hc => by rw [b43, if_neg (by omega)]
  have o44 : ∀ p j, p < 12 → p ≠ P → j < 480 → w.2 44 (480 * p + j) = u.2 44 (480 * p + j) := fun p j hp hpp hj => by rw [b44, if_neg (by omega)]
  have o45 : ∀ p i, p < 12 → p ≠ P → i < 80 → w.2 45 (80 * p + i) = u.2 45 (80 * p + i) ∧ w.2 46 (80 * p + i) = u.2 46 (80 * p + i) := fun p i hp hpp hi => i1 _ (by omega)
  refine ⟨hk, kB_c a2 (b2 4 (by omega)) (b2 10 (by omega)), mH_c a3 e3 (b1 28 (by decide) (by decide) (by decide)) (b1 36 (by decide) (by decide) (by decide)) (b2 4 (by omega)) (fun k k1 k2 => b2 k (by omega)), ?_, nwI_e a5 e3 (fun r r1 => b2 r (by omega)), fun p hp h40 i hi => ?_, fun p hp h40 i hi h4 h45 => ?_, fun p hp h40 i hi1 hi2 => ?_, ?_, rvI_c a10 (b2 20 (by omega)), by rw [b1 39 (by decide) (by decide) (by decide)]; exact a11⟩
  · rw [b2 2 (by omega)]
    exact gH_e e3 (b2 0 (by omega)) (b2 4 (by omega)) (b2 11 (by omega)) a4
  · by_cases e : p = P
    · rw [e]
      rcases pl_new h0 hP hi (i2 i hi) with ⟨q1, q2⟩ | ⟨X, Y, q1, q2, q3, q4, q5, -, q6⟩
      · refine Or.inl ⟨q1, fun c' l' h1 h2 => ?_⟩
        rw [n43 c' h1] at h2
        have l6 := ln60 a1 (j := 8 * P + c') (by omega)
        rw [n44 _ (by omega)]
        exact q2 c' l' h1 h2
      · have l6 := ln60 a1 (j := 8 * P + X) (by omega)
        refine Or.inr ⟨X, Y, q1, q2, q3, by rw [n43 X q3]; exact q4, by rw [n44 _ (by omega)]; exact q5, fun c' l' h1 h2 h3 => ?_⟩
        rw [n43 c' h1] at h2
        have l7 := ln60 a1 (j := 8 * P + c') (by omega)
        rw [n44 _ (by omega)]
        exact q6 c' l' h1 h2 h3
    · rw [b40, if_neg e] at h40
      have l43 : ∀ c', c' < 8 → (u.2 43 (8 * p + c')).toNatClampNeg ≤ 60 := fun c' hc => by
        obtain ⟨z1, z2, z3⟩ := nI_of_bw (a1.2.2.2.1 (8 * p + c') (by omega))
        have h60 : (60 : Int32).toInt = 60 := rfl
        omega
      rw [(o45 p i hp e hi).1, (o45 p i hp e hi).2]
      rcases a6 p hp h40 i hi with ⟨q1, q2⟩ | ⟨X, Y, q1, q2, q3, q4, q5, q6⟩
      · refine Or.inl ⟨q1, fun c' l' h1 h2 => ?_⟩
        rw [o43 p c' hp e h1] at h2
        have := l43 c' h1
        rw [o44 p _ hp e (by omega)]
        exact q2 c' l' h1 h2
      · have := l43 X q3
        refine Or.inr ⟨X, Y, q1, q2, q3, by rw [o43 p X hp e q3]; exact q4, by rw [o44 p _ hp e (by omega)]; exact q5, fun c' l' h1 h2 h3 => ?_⟩
        rw [o43 p c' hp e h1] at h2
        have := l43 c' h1
        rw [o44 p _ hp e (by omega)]
        exact q6 c' l' h1 h2 h3
  · rw [b2 4 (by omega)] at h4
    rw [b2 11 (by omega)]
    by_cases e : p = P
    · rw [e] at h45 ⊢
      rcases pl_new h0 hP hi (i2 i hi) with ⟨q1, -⟩ | ⟨X, Y, -, -, -, -, -, ⟨r, r1, r2⟩, -⟩
      · exact absurd q1 h45
      · by_cases q : i < (u.1 3).toNatClampNeg
        · rw [← r2]; exact (hX i q).2.2.2 h4 r r1
        · rw [g.2.2.2.2.1 i (by omega)] at r1
          exact absurd r1 List.not_mem_nil
    · rw [b40, if_neg e] at h40
      rw [(o45 p i hp e hi).1] at h45
      exact a7 p hp h40 i hi h4 h45
  · rw [e3] at hi1
    by_cases e : p = P
    · rw [e]
      have z := i2 i hi2
      have ept : ptN u i = 0 := by unfold ptN; rw [if_neg (by omega)]
      rw [ept] at z
      rcases z with ⟨z, -⟩ | ⟨k, -, z, -⟩
      · exact z
      · exact absurd z (Nat.not_lt_zero _)
    · rw [b40, if_neg e] at h40
      rw [(o45 p i hp e hi2).1]
      exact a8 p hp h40 i hi1 hi2
  · unfold foI at a9 ⊢
    rw [b1 38 (by decide) (by decide) (by decide), b2 47 (by omega), b2 48 (by omega)]; exact a9
theorem tg_nq {z : gS} {a b s t : Nat} (h : tg z a s) (h2 : tg z b t) (hn : s ≠ t) : a ≠ b := fun e => hn (by rw [← h.2, ← h2.2, e])
theorem d3_o {q : Nat → ClassId} {d : Nat → Nat} {u : mS} {z : gS} {f : xF} (h : rep q d u z f) : nO d z 3 5 := h.2.2.2.2.2.2.2.1
theorem takeIn_d3 {q : Nat → ClassId} {f f2 : xF} {a3 a0 pa fa wd nm : Nat} {p0 nu kd cn lz co : Int32} {gw : Nat → Int32} (h1 : a3 ≠ wd) (h2 : a3 ≠ a0) (hf : f2 = s_takeIn_f q f a0 pa fa wd nm p0 nu kd cn lz co gw) : f2 a3 = f a3 := by
  rw [hf]
  unfold s_takeIn_f
  split
  · rw [up_o h2, up_o h1]
  · rfl
theorem takeSize_d3 {q : Nat → ClassId} {f f2 : xF} {a3 a0 pa fa ww hh : Nat} {p0 p1 nu kd cn sn : Int32} {gw gh : Nat → Int32} (h1 : a3 ≠ ww) (h3 : a3 ≠ hh) (h2 : a3 ≠ a0) (hf : f2 = s_takeSize_f q f a0 pa fa ww hh p0 p1 nu kd cn sn gw gh) : f2 a3 = f a3 := by
  rw [hf]
  unfold s_takeSize_f
  split
  · rw [up_o h2, up_o h3, up_o h1]
  · rfl
set_option maxHeartbeats 4000000 in
set_option maxRecDepth 100000 in
theorem v_line (l : Launch) (dC : Nat → ClassId) (dI : Nat → Nat → Nat) (q : Nat → ClassId) (h0 : Nat) (d : Nat → Nat) (k : Nat → Int32) (z : gS) (f : xF) (hI : xI q h0 d k z f) (p0 p1 : Int32) (u : mS) (hrp : rep q d u z f) (hk0 : k 0 = u.1 3) (hk1 : k 1 = u.1 28) (hk2 : k 2 = u.1 38) (hk3 : k 3 = u.1 39) (hu : rI u) (sz : Nat) : Met l yX11_line wsX11_line ({ frames := 2, cells := 0, slots := 0, locals := 43 }) (va_Pc [.ref h0, .int p0, .int p1] (fun U => U.heap.size = sz ∧ PX dC dI (va_pl z.1 f) (xT q) U ∧ va_D (fun _ => True) (va_pl z.1 f))) (va_Qi (fun (r : Int32) (w : xU) => w.2.2 (d 3) = f (d 3) ∧ w.1 = k ∧ w.2.1 = z ∧ xI q h0 d k z w.2.2 ∧ r = (mLine u p0 p1).1 ∧ rep q d (mLine u p0 p1).2 z w.2.2) (fun (w : xU) t => va_P (dC, dI) vwCl (va_pl w.2.1.1 w.2.2) t.heap ∧ va_D (va_A (va_pl z.1 f) sz) (va_pl w.2.1.1 w.2.2)) (va_A (va_pl z.1 f) sz)) 0 0 (va_A (va_pl z.1 f) sz) := by
  refine Met.ofW (cc := cX11_line) (maxL := 5) (ret := (some .int)) (by decide) rfl ?_
  intro p e s m args below meth c s₁ B hml hv
  obtain ⟨rfl, hsz, ⟨⟨hP, hK, hN⟩, hXN⟩, hD0⟩ := hv
  have hx := B.exec
  have hb := B.bytes
  have hr := B.returns
  have hts := atoms_spec (ws := wsX11_line) B.pre
  have hown : s.vm.findClass RX11 = some m.cls := findClass_of_methodNamed B.named
  have hlocks := B.notSynchronized
  subst hsz
  have hD := hD0.self (sz := s.heap.size)
  generalize hAe : va_A (va_pl z.1 f) s.heap.size = A at hD ⊢
  have hA : ∀ q : Nat, s.heap.size ≤ q → A q := fun q h => by rw [← hAe]; exact Or.inr h
  have hS : va_S A s.heap s.heap [] := va_S.rf
  have hl := lv_entry ([.ref h0, .int p0, .int p1]) (n := 5) (Nat.le_of_ble_eq_true rfl)
  rw [lg_entry_eq]
  generalize (lg_sl ([.ref h0, .int p0, .int p1]) ++ List.replicate (5 - (lg_sl ([.ref h0, .int p0, .int p1])).length) Slot.unset).toArray = ls at hl ⊢
  have hl : lv_has ls 5 [(0, .ref h0), (1, .int p0), (2, .int p1)] := hl
  refine lv_aload_n hx hb dX11_line_0 rfl (lv_at hl 0 rfl) ?_
  refine lv_iload_n hx hb dX11_line_1 rfl (lv_at hl 1 rfl) ?_
  obtain ⟨kk_1, hk_2⟩ := pl_at hI.2.1.1.1 hI.2.2.2.1.1
  refine va_csq (va_runV (As := [.int p0]) (rest := []) ⟨hx, hb, hml, hown, hts⟩ (y_itemOf l dC dI q h0 d k z f hI p0 u hrp hk0 hk1 hk2 hk3) (cwV 1 hts gX11_line_X11_itemOf rfl rfl rfl zh_X11_itemOf_49 ⟨Nat.le_of_ble_eq_true rfl, Nat.le_of_ble_eq_true rfl⟩) ⟨px_fb, va_recv hK hP (ci := 10) (q0 := kk_1) rfl hk_2, fun U hU hW => ⟨rfl, px_to hU hW hP hK hN hXN⟩⟩ rfl rfl hl.1 rfl (lv_room (Nat.le_of_ble_eq_true rfl)) dX11_line_2 ⟨Nat.le_of_ble_eq_true rfl, Nat.le_of_ble_eq_true rfl⟩).run (fun r hw => ?_)
  rcases hw with ⟨hr9, hn9⟩ | ⟨i_3, hi_4, ep_5, hr9⟩
  ·
    subst hr9
    have hno_25 := hn9
    refine W.eq (g2 := F0 m 5 ls [.null]) rfl ?_
    refine lv_astoreN (lv' := [(4, .null), (0, .ref h0), (1, .int p0), (2, .int p1)]) hx hb dX11_line_5 hl (by decide) rfl (fun ls hl => ?_)
    refine lv_aloadN hx hb dX11_line_7 (lv_at hl 0 rfl) ?_
    refine lv_instN hx hb dX11_line_9 ?_
    refine lv_if_eq (tgt := 32) hx hb dX11_line_12 (by decide) (fun c_26 => ?_) (fun c_26 => absurd (by decide) c_26)
    refine lv_iconst (v := (-1)) hx hb dX11_line_32 (by decide) ?_
    exact W.iret (v := (-1)) hx hb hr (fun t ht hW => ⟨⟨(-1), (k, z, f), rfl, ⟨rfl, rfl, rfl, hI, by rw [line_n (mK_no hno_25)], by rw [line_n (mK_no hno_25)]; exact hrp⟩, by rw [ht]; exact hP, hD⟩, hS.F ht⟩) hS.2.2 dX11_line_33
  ·
    subst hr9
    obtain ⟨rs_6, n_7, g_8, fg_9, hit_10, hs_11, hpa_12, hps_13, h1_14, h6_15, hcb_16, hpl_17, hlg_18, hnn_19, hfa_20, hfs_21, hfe_22, hrs_23, hkt_24⟩ := it_all hI hrp.2.2.1 hi_4
    refine W.eq (g2 := F0 m 5 ls [.ref (d (2000 + i_3))]) rfl ?_
    refine lv_astore (lv' := [(4, .ref (d (2000 + i_3))), (0, .ref h0), (1, .int p0), (2, .int p1)]) hx hb dX11_line_5 hl (by decide) rfl (fun ls hl => ?_)
    refine lv_aload hx hb dX11_line_7 (lv_at hl 0 rfl) ?_
    rcases Classical.em (tg z (d (2000 + i_3)) 15) with ht9 | ht9
    ·
      have ht_27 := ht9
      have hkd_29 : u.2 4 i_3 = 0 := (kT_k (kd_05 hrp.2.2.1 hi_4).1 (kd_05 hrp.2.2.1 hi_4).2).1 (hkt_24.symm.trans ht_27.2)
      obtain ⟨hx_30, hx_31, hx_32, ⟨hx_33, hx_34, hx_35⟩, hx_36, hx_37, hx_38⟩ := hrs_23.1 hkd_29
      have hs_39 : f (d (2000 + i_3)) = .inr (9, [.int (nI i_3), .int (u.2 4 i_3), .ref (d (3000 + i_3)), .int (u.2 22 i_3), .ref (d (4000 + i_3)), .int (u.2 5 i_3), .ref (d (5000 + i_3)), .int (u.2 15 i_3), .ref (d (6000 + i_3))]) := by rw [hs_11, ht_27.2, hx_30]; rfl
      obtain ⟨kk_50, hk_51⟩ := pl_at ht_27.1 hs_39
      refine va_instS hx hb hown (hts (.classLink RX11 66 "PageOne$Story") (zat q_wsX11_line k_wsX11_line 161 rfl (by decide +kernel))) (hK.1 9 (RX10, TX10, 9) rfl).2 (va_recv hK hP (ci := 9) (q0 := kk_50) rfl hk_51) dX11_line_9 ?_
      refine lv_if_eq (tgt := 32) hx hb dX11_line_12 (by decide) (fun c_52 => absurd c_52 (by decide)) (fun c_52 => ?_)
      refine lv_aload hx hb dX11_line_15 (lv_at hl 0 rfl) ?_
      obtain ⟨kk_53, hk_54⟩ := pl_at ht_27.1 hs_39
      refine va_castS hx hb hown (hts (.classLink RX11 66 "PageOne$Story") (zat q_wsX11_line k_wsX11_line 161 rfl (by decide +kernel))) (hK.1 9 (RX10, TX10, 9) rfl).2 (va_recv hK hP (ci := 9) (q0 := kk_53) rfl hk_54) dX11_line_17 ?_
      refine lv_astore_n (lv' := [(3, .ref (d (2000 + i_3))), (4, .ref (d (2000 + i_3))), (0, .ref h0), (1, .int p0), (2, .int p1)]) hx hb dX11_line_20 rfl hl (by decide) rfl (fun ls hl => ?_)
      refine lv_iload_n hx hb dX11_line_21 rfl (lv_at hl 4 rfl) ?_
      refine lv_iconst (v := 1) hx hb dX11_line_22 (by decide) ?_
      refine lv_sipush (v := 200) hx hb dX11_line_23 (by decide) ?_
      refine vp_callSi (va_runS (As := [.int p1, .int 1, .int 200]) (rest := []) ⟨hx, hb, hml, hown, hts⟩ (x_isWithin l dC dI p1 1 200) (va_cwS 3 hts gX11_line_X11_isWithin rfl rfl rfl zh_X11_isWithin_30 ⟨Nat.le_of_ble_eq_true rfl, Nat.le_of_ble_eq_true rfl⟩) ⟨pw_fb, fun U hU hW => ⟨rfl, pw_to hU hW (hP.sub (ws' := []) [] rfl) (hK.sub (tys' := []) [] rfl) hN⟩⟩ rfl rfl hl.1 rfl (lv_room (Nat.le_of_ble_eq_true rfl)) dX11_line_26 ⟨Nat.le_of_ble_eq_true rfl, Nat.le_of_ble_eq_true rfl⟩).run (fun r hw => ?_)
      rcases Bool.eq_false_or_eq_true (bw p1 1 200) with b_55 | b_55
      ·
        obtain rfl : r = 1 := b_t hw b_55
        refine lv_if_ne (tgt := 34) hx hb dX11_line_29 (by decide) (fun c_56 => ?_) (fun c_56 => absurd c_56 (by decide))
        refine lv_aload_n hx hb dX11_line_34 rfl (lv_at hl 0 rfl) ?_
        refine lv_iload_n hx hb dX11_line_35 rfl (lv_at hl 4 rfl) ?_
        obtain ⟨kk_57, hk_58⟩ := pl_at ht_27.1 hs_39
        have hFc := fr_all hD hS hA
        refine va_calli (va_runV (As := [.int p1]) (rest := []) ⟨hx, hb, hml, hown, hts⟩ (y_takeIn l dC dI q h0 d k z f hI (d (2000 + i_3)) (d (3000 + i_3)) (d (4000 + i_3)) (d (5000 + i_3)) (d (6000 + i_3)) (nI i_3) (u.2 4 i_3) (u.2 22 i_3) (u.2 5 i_3) (u.2 15 i_3) ht_27 hs_39 p1 hx_33 hx_31.1 hx_34 hx_32.1 hpa_12 hfa_20 (hu.2.2.2.2.1 i_3 (bw_it hu.1 hi_4).2) s.heap.size) (cwV 1 hts gX11_line_X10_takeIn rfl rfl rfl zh_X10_takeIn_50 ⟨Nat.le_of_ble_eq_true rfl, Nat.le_of_ble_eq_true rfl⟩) ⟨gx_fb, va_recv hK hP (ci := 9) (q0 := kk_57) rfl hk_58, fun U hU hW => ⟨rfl, by rw [hU], px_to hU hW hP hK hN hXN, hD.weaken (fun _ _ _ _ => trivial)⟩⟩ rfl rfl hl.1 rfl (lv_room (Nat.le_of_ble_eq_true rfl)) dX11_line_36 ⟨Nat.le_of_ble_eq_true rfl, Nat.le_of_ble_eq_true rfl⟩) hS (fun q _ h => hFc q h) hFc (fun r w_59 t H1 locs ht hvm hw hB hz1 hk1 hS => ?_)
        obtain ⟨hP, hD1⟩ := hB
        rw [ht] at hP
        rw [hw.2.1] at hP hD1
        have hD := hD1.weaken (fun _ q _ h => hFc q.1 h)
        have hI := hw.2.2.1
        have hw0 := hw
        generalize w_59.2.2 = f_60 at hP hD hI hw0
        generalize H1 = H at hP hS ⊢
        generalize r = zr_61 at hw hw0 ⊢
        exact W.iret (v := zr_61) hx hb hr (fun t ht hW => ⟨⟨zr_61, (k, z, f_60), rfl, ⟨(takeIn_d3 (nO_ne (d3_o hrp) hx_31 (by omega)) (nO_ne (d3_o hrp) (hrp.2.2.1.2 _ hi_4).1 (by omega)) hw0.2.2.2.2), rfl, rfl, hI, by rw [ep_5]; exact line_y hrp hu hi_4 hkd_29 b_55 hx_34 hw0.2.2.2.1 hw0.2.2.2.2⟩, by rw [ht]; exact hP, hD⟩, hS.F ht⟩) hS.2.2 dX11_line_39
      ·
        obtain rfl : r = 0 := b_f hw b_55
        refine lv_if_ne (tgt := 34) hx hb dX11_line_29 (by decide) (fun c_62 => absurd (by decide) c_62) (fun c_62 => ?_)
        refine lv_iconst (v := (-1)) hx hb dX11_line_32 (by decide) ?_
        exact W.iret (v := (-1)) hx hb hr (fun t ht hW => ⟨⟨(-1), (k, z, f), rfl, ⟨rfl, rfl, rfl, hI, by rw [(line_x (bne b_55))], by rw [(line_x (bne b_55))]; exact hrp⟩, by rw [ht]; exact hP, hD⟩, hS.F ht⟩) hS.2.2 dX11_line_33
    ·
      have hn_28 := ht9
      have hkd_29 : ¬ u.2 4 i_3 = 0 := fun e9 => ht9 ⟨hit_10.1, by rw [hkt_24, e9]; rfl⟩
      refine w_then (F0 m 12 ls [.int 0]) (fun hgo => ?_) ?_
      ·
        rcases x_tag hit_10 with ht8 | ht8 | ht8 | ht8 | ht8 | ht8
        ·
          obtain ⟨nu_63, kd_64, cn_65, pa_66, fa_67, l_68, m_69, hs_70, hs_71, hs_72, hs_73⟩ := x_ifl hI ht8
          obtain ⟨kk_74, hk_75⟩ := pl_at ht8.1 hs_70
          exact va_instNo hx hb hown (hts (.classLink RX11 66 "PageOne$Story") (zat q_wsX11_line k_wsX11_line 161 rfl (by decide +kernel))) hXN.n_X2_X10 (va_recv hK hP (ci := 2) (q0 := kk_74) rfl hk_75) dX11_line_9 hgo
        ·
          obtain ⟨nu_76, kd_77, cn_78, pa_79, fa_80, o_81, w_82, y_83, hs_84, hs_85, hs_86, hs_87, hq_88⟩ := x_ihd hI ht8
          obtain ⟨kk_89, hk_90⟩ := pl_at ht8.1 hs_84
          exact va_instNo hx hb hown (hts (.classLink RX11 66 "PageOne$Story") (zat q_wsX11_line k_wsX11_line 161 rfl (by decide +kernel))) hXN.n_X3_X10 (va_recv hK hP (ci := 3) (q0 := kk_89) rfl hk_90) dX11_line_9 hgo
        ·
          obtain ⟨nu_91, kd_92, cn_93, pa_94, fa_95, o_96, y_97, hs_98, hs_99, hs_100, hs_101, hq_102⟩ := x_ino hI ht8
          obtain ⟨kk_103, hk_104⟩ := pl_at ht8.1 hs_98
          exact va_instNo hx hb hown (hts (.classLink RX11 66 "PageOne$Story") (zat q_wsX11_line k_wsX11_line 161 rfl (by decide +kernel))) hXN.n_X5_X10 (va_recv hK hP (ci := 4) (q0 := kk_103) rfl hk_104) dX11_line_9 hgo
        ·
          obtain ⟨nu_105, kd_106, cn_107, pa_108, fa_109, b_110, pr_111, sp_112, dy_113, hs_114, hs_115, hs_116, hs_117, hq_118, hq_119, hq_120⟩ := x_ipd hI ht8
          obtain ⟨kk_121, hk_122⟩ := pl_at ht8.1 hs_114
          exact va_instNo hx hb hown (hts (.classLink RX11 66 "PageOne$Story") (zat q_wsX11_line k_wsX11_line 161 rfl (by decide +kernel))) hXN.n_X6_X10 (va_recv hK hP (ci := 5) (q0 := kk_121) rfl hk_122) dX11_line_9 hgo
        ·
          obtain ⟨nu_123, kd_124, cn_125, pa_126, fa_127, ww_128, hh_129, sz_130, hs_131, hs_132, hs_133, hs_134, hq_135, hq_136, hq_137⟩ := x_ipi hI ht8
          obtain ⟨kk_138, hk_139⟩ := pl_at ht8.1 hs_131
          exact va_instNo hx hb hown (hts (.classLink RX11 66 "PageOne$Story") (zat q_wsX11_line k_wsX11_line 161 rfl (by decide +kernel))) hXN.n_X7_X10 (va_recv hK hP (ci := 6) (q0 := kk_138) rfl hk_139) dX11_line_9 hgo
        ·
          exact absurd ht8 ht9
      ·
        refine lv_if_eq (tgt := 32) hx hb dX11_line_12 (by decide) (fun c_140 => ?_) (fun c_140 => absurd (by decide) c_140)
        refine lv_iconst (v := (-1)) hx hb dX11_line_32 (by decide) ?_
        exact W.iret (v := (-1)) hx hb hr (fun t ht hW => ⟨⟨(-1), (k, z, f), rfl, ⟨rfl, rfl, rfl, hI, by rw [(line_n (by rw [ep_5, mK_it hu.1 hi_4]; exact decide_eq_false hkd_29))], by rw [(line_n (by rw [ep_5, mK_it hu.1 hi_4]; exact decide_eq_false hkd_29))]; exact hrp⟩, by rw [ht]; exact hP, hD⟩, hS.F ht⟩) hS.2.2 dX11_line_33
set_option maxHeartbeats 4000000 in
set_option maxRecDepth 100000 in
theorem v_size (l : Launch) (dC : Nat → ClassId) (dI : Nat → Nat → Nat) (q : Nat → ClassId) (h0 : Nat) (d : Nat → Nat) (k : Nat → Int32) (z : gS) (f : xF) (hI : xI q h0 d k z f) (p0 p1 p2 : Int32) (u : mS) (hrp : rep q d u z f) (hk0 : k 0 = u.1 3) (hk1 : k 1 = u.1 28) (hk2 : k 2 = u.1 38) (hk3 : k 3 = u.1 39) (hu : rI u) (sz : Nat) : Met l yX11_size wsX11_size ({ frames := 2, cells := 0, slots := 0, locals := 43 }) (va_Pc [.ref h0, .int p0, .int p1, .int p2] (fun U => U.heap.size = sz ∧ PX dC dI (va_pl z.1 f) (xT q) U ∧ va_D (fun _ => True) (va_pl z.1 f))) (va_Qi (fun (r : Int32) (w : xU) => w.2.2 (d 3) = f (d 3) ∧ w.1 = k ∧ w.2.1 = z ∧ xI q h0 d k z w.2.2 ∧ r = (mSize u p0 p1 p2).1 ∧ rep q d (mSize u p0 p1 p2).2 z w.2.2) (fun (w : xU) t => va_P (dC, dI) vwCl (va_pl w.2.1.1 w.2.2) t.heap ∧ va_D (va_A (va_pl z.1 f) sz) (va_pl w.2.1.1 w.2.2)) (va_A (va_pl z.1 f) sz)) 0 0 (va_A (va_pl z.1 f) sz) := by
  refine Met.ofW (cc := cX11_size) (maxL := 6) (ret := (some .int)) (by decide) rfl ?_
  intro p e s m args below meth c s₁ B hml hv
  obtain ⟨rfl, hsz, ⟨⟨hP, hK, hN⟩, hXN⟩, hD0⟩ := hv
  have hx := B.exec
  have hb := B.bytes
  have hr := B.returns
  have hts := atoms_spec (ws := wsX11_size) B.pre
  have hown : s.vm.findClass RX11 = some m.cls := findClass_of_methodNamed B.named
  have hlocks := B.notSynchronized
  subst hsz
  have hD := hD0.self (sz := s.heap.size)
  generalize hAe : va_A (va_pl z.1 f) s.heap.size = A at hD ⊢
  have hA : ∀ q : Nat, s.heap.size ≤ q → A q := fun q h => by rw [← hAe]; exact Or.inr h
  have hS : va_S A s.heap s.heap [] := va_S.rf
  have hl := lv_entry ([.ref h0, .int p0, .int p1, .int p2]) (n := 6) (Nat.le_of_ble_eq_true rfl)
  rw [lg_entry_eq]
  generalize (lg_sl ([.ref h0, .int p0, .int p1, .int p2]) ++ List.replicate (6 - (lg_sl ([.ref h0, .int p0, .int p1, .int p2])).length) Slot.unset).toArray = ls at hl ⊢
  have hl : lv_has ls 6 [(0, .ref h0), (1, .int p0), (2, .int p1), (3, .int p2)] := hl
  refine lv_aload_n hx hb dX11_size_0 rfl (lv_at hl 0 rfl) ?_
  refine lv_iload_n hx hb dX11_size_1 rfl (lv_at hl 1 rfl) ?_
  obtain ⟨kk_1, hk_2⟩ := pl_at hI.2.1.1.1 hI.2.2.2.1.1
  refine va_csq (va_runV (As := [.int p0]) (rest := []) ⟨hx, hb, hml, hown, hts⟩ (y_itemOf l dC dI q h0 d k z f hI p0 u hrp hk0 hk1 hk2 hk3) (cwV 1 hts gX11_size_X11_itemOf rfl rfl rfl zh_X11_itemOf_49 ⟨Nat.le_of_ble_eq_true rfl, Nat.le_of_ble_eq_true rfl⟩) ⟨px_fb, va_recv hK hP (ci := 10) (q0 := kk_1) rfl hk_2, fun U hU hW => ⟨rfl, px_to hU hW hP hK hN hXN⟩⟩ rfl rfl hl.1 rfl (lv_room (Nat.le_of_ble_eq_true rfl)) dX11_size_2 ⟨Nat.le_of_ble_eq_true rfl, Nat.le_of_ble_eq_true rfl⟩).run (fun r hw => ?_)
  rcases hw with ⟨hr9, hn9⟩ | ⟨i_3, hi_4, ep_5, hr9⟩
  ·
    subst hr9
    have hno_25 := hn9
    refine W.eq (g2 := F0 m 5 ls [.null]) rfl ?_
    refine lv_astoreN (lv' := [(5, .null), (0, .ref h0), (1, .int p0), (2, .int p1), (3, .int p2)]) hx hb dX11_size_5 hl (by decide) rfl (fun ls hl => ?_)
    refine lv_aloadN hx hb dX11_size_7 (lv_at hl 0 rfl) ?_
    refine lv_instN hx hb dX11_size_9 ?_
    refine lv_if_eq (tgt := 30) hx hb dX11_size_12 (by decide) (fun c_26 => ?_) (fun c_26 => absurd (by decide) c_26)
    refine lv_iconst (v := (-1)) hx hb dX11_size_30 (by decide) ?_
    exact W.iret (v := (-1)) hx hb hr (fun t ht hW => ⟨⟨(-1), (k, z, f), rfl, ⟨rfl, rfl, rfl, hI, by rw [size_n (mK_no hno_25)], by rw [size_n (mK_no hno_25)]; exact hrp⟩, by rw [ht]; exact hP, hD⟩, hS.F ht⟩) hS.2.2 dX11_size_31
  ·
    subst hr9
    obtain ⟨rs_6, n_7, g_8, fg_9, hit_10, hs_11, hpa_12, hps_13, h1_14, h6_15, hcb_16, hpl_17, hlg_18, hnn_19, hfa_20, hfs_21, hfe_22, hrs_23, hkt_24⟩ := it_all hI hrp.2.2.1 hi_4
    refine W.eq (g2 := F0 m 5 ls [.ref (d (2000 + i_3))]) rfl ?_
    refine lv_astore (lv' := [(5, .ref (d (2000 + i_3))), (0, .ref h0), (1, .int p0), (2, .int p1), (3, .int p2)]) hx hb dX11_size_5 hl (by decide) rfl (fun ls hl => ?_)
    refine lv_aload hx hb dX11_size_7 (lv_at hl 0 rfl) ?_
    rcases Classical.em (tg z (d (2000 + i_3)) 14) with ht9 | ht9
    ·
      have ht_27 := ht9
      have hkd_29 : u.2 4 i_3 = 2 := (kT_k (kd_05 hrp.2.2.1 hi_4).1 (kd_05 hrp.2.2.1 hi_4).2).2.2.1 (hkt_24.symm.trans ht_27.2)
      obtain ⟨hx_30, hx_31, hx_32, ⟨hx_33, hx_34, hx_35⟩, hx_36, hx_37, hx_38⟩ := hrs_23.2.2.1 hkd_29
      have hs_39 : f (d (2000 + i_3)) = .inr (6, [.int (nI i_3), .int (u.2 4 i_3), .ref (d (3000 + i_3)), .int (u.2 22 i_3), .ref (d (4000 + i_3)), .ref (d (5000 + i_3)), .ref (d (6000 + i_3)), .int (u.2 17 i_3)]) := by rw [hs_11, ht_27.2, hx_30]; rfl
      obtain ⟨kk_50, hk_51⟩ := pl_at ht_27.1 hs_39
      refine va_instS hx hb hown (hts (.classLink RX11 88 "PageOne$Picture") (zat q_wsX11_size k_wsX11_size 268 rfl (by decide +kernel))) (hK.1 6 (RX7, TX7, 8) rfl).2 (va_recv hK hP (ci := 6) (q0 := kk_50) rfl hk_51) dX11_size_9 ?_
      refine lv_if_eq (tgt := 30) hx hb dX11_size_12 (by decide) (fun c_52 => absurd c_52 (by decide)) (fun c_52 => ?_)
      refine lv_aload hx hb dX11_size_15 (lv_at hl 0 rfl) ?_
      obtain ⟨kk_53, hk_54⟩ := pl_at ht_27.1 hs_39
      refine va_castS hx hb hown (hts (.classLink RX11 88 "PageOne$Picture") (zat q_wsX11_size k_wsX11_size 268 rfl (by decide +kernel))) (hK.1 6 (RX7, TX7, 8) rfl).2 (va_recv hK hP (ci := 6) (q0 := kk_53) rfl hk_54) dX11_size_17 ?_
      refine lv_astore (lv' := [(4, .ref (d (2000 + i_3))), (5, .ref (d (2000 + i_3))), (0, .ref h0), (1, .int p0), (2, .int p1), (3, .int p2)]) hx hb dX11_size_20 hl (by decide) rfl (fun ls hl => ?_)
      refine lv_iload_n hx hb dX11_size_22 rfl (lv_at hl 4 rfl) ?_
      refine lv_iload_n hx hb dX11_size_23 rfl (lv_at hl 5 rfl) ?_
      refine vp_callSi (va_runS (As := [.int p1, .int p2]) (rest := []) ⟨hx, hb, hml, hown, hts⟩ (x_isSquare l dC dI p1 p2) (va_cwS 2 hts gX11_size_X11_isSquare rfl rfl rfl zh_X11_isSquare_51 ⟨Nat.le_of_ble_eq_true rfl, Nat.le_of_ble_eq_true rfl⟩) ⟨pw_fb, fun U hU hW => ⟨rfl, pw_to hU hW (hP.sub (ws' := []) [] rfl) (hK.sub (tys' := []) [] rfl) hN⟩⟩ rfl rfl hl.1 rfl (lv_room (Nat.le_of_ble_eq_true rfl)) dX11_size_24 ⟨Nat.le_of_ble_eq_true rfl, Nat.le_of_ble_eq_true rfl⟩).run (fun r hw => ?_)
      rcases Bool.eq_false_or_eq_true ((bw p1 1 8 && bw p2 1 60)) with b_55 | b_55
      ·
        obtain rfl : r = 1 := b_t hw b_55
        refine lv_if_ne (tgt := 32) hx hb dX11_size_27 (by decide) (fun c_56 => ?_) (fun c_56 => absurd c_56 (by decide))
        refine lv_aload hx hb dX11_size_32 (lv_at hl 0 rfl) ?_
        refine lv_iload_n hx hb dX11_size_34 rfl (lv_at hl 4 rfl) ?_
        refine lv_iload_n hx hb dX11_size_35 rfl (lv_at hl 5 rfl) ?_
        obtain ⟨kk_57, hk_58⟩ := pl_at ht_27.1 hs_39
        have hFc := fr_all hD hS hA
        refine va_calli (va_runV (As := [.int p1, .int p2]) (rest := []) ⟨hx, hb, hml, hown, hts⟩ (y_takeSize l dC dI q h0 d k z f hI (d (2000 + i_3)) (d (3000 + i_3)) (d (4000 + i_3)) (d (5000 + i_3)) (d (6000 + i_3)) (nI i_3) (u.2 4 i_3) (u.2 22 i_3) (u.2 17 i_3) ht_27 hs_39 p1 p2 hx_33 hx_36 hx_31.1 hx_34 hx_32.1 hx_37 hpa_12 hfa_20 (hu.2.2.2.2.2.1 i_3 (bw_it hu.1 hi_4).2) (nO_ne hx_31 hx_32 (by omega)) s.heap.size) (cwV 2 hts gX11_size_X7_takeSize rfl rfl rfl zh_X7_takeSize_52 ⟨Nat.le_of_ble_eq_true rfl, Nat.le_of_ble_eq_true rfl⟩) ⟨gx_fb, va_recv hK hP (ci := 6) (q0 := kk_57) rfl hk_58, fun U hU hW => ⟨rfl, by rw [hU], px_to hU hW hP hK hN hXN, hD.weaken (fun _ _ _ _ => trivial)⟩⟩ rfl rfl hl.1 rfl (lv_room (Nat.le_of_ble_eq_true rfl)) dX11_size_36 ⟨Nat.le_of_ble_eq_true rfl, Nat.le_of_ble_eq_true rfl⟩) hS (fun q _ h => hFc q h) hFc (fun r w_59 t H1 locs ht hvm hw hB hz1 hk1 hS => ?_)
        obtain ⟨hP, hD1⟩ := hB
        rw [ht] at hP
        rw [hw.2.1] at hP hD1
        have hD := hD1.weaken (fun _ q _ h => hFc q.1 h)
        have hI := hw.2.2.1
        have hw0 := hw
        generalize w_59.2.2 = f_60 at hP hD hI hw0
        generalize H1 = H at hP hS ⊢
        generalize r = zr_61 at hw hw0 ⊢
        exact W.iret (v := zr_61) hx hb hr (fun t ht hW => ⟨⟨zr_61, (k, z, f_60), rfl, ⟨(takeSize_d3 (nO_ne (d3_o hrp) hx_31 (by omega)) (nO_ne (d3_o hrp) hx_32 (by omega)) (nO_ne (d3_o hrp) (hrp.2.2.1.2 _ hi_4).1 (by omega)) hw0.2.2.2.2), rfl, rfl, hI, by rw [ep_5]; exact size_y hrp hu hi_4 hkd_29 (Bool.and_eq_true _ _ ▸ b_55).1 (Bool.and_eq_true _ _ ▸ b_55).2 hx_34 hx_37 hw0.2.2.2.1 hw0.2.2.2.2⟩, by rw [ht]; exact hP, hD⟩, hS.F ht⟩) hS.2.2 dX11_size_39
      ·
        obtain rfl : r = 0 := b_f hw b_55
        refine lv_if_ne (tgt := 32) hx hb dX11_size_27 (by decide) (fun c_62 => absurd (by decide) c_62) (fun c_62 => ?_)
        refine lv_iconst (v := (-1)) hx hb dX11_size_30 (by decide) ?_
        exact W.iret (v := (-1)) hx hb hr (fun t ht hW => ⟨⟨(-1), (k, z, f), rfl, ⟨rfl, rfl, rfl, hI, by rw [(size_x (fun e9 => absurd (by rw [Bool.and_eq_true]; exact e9) (bne b_55)))], by rw [(size_x (fun e9 => absurd (by rw [Bool.and_eq_true]; exact e9) (bne b_55)))]; exact hrp⟩, by rw [ht]; exact hP, hD⟩, hS.F ht⟩) hS.2.2 dX11_size_31
    ·
      have hn_28 := ht9
      have hkd_29 : ¬ u.2 4 i_3 = 2 := fun e9 => ht9 ⟨hit_10.1, by rw [hkt_24, e9]; rfl⟩
      refine w_then (F0 m 12 ls [.int 0]) (fun hgo => ?_) ?_
      ·
        rcases x_tag hit_10 with ht8 | ht8 | ht8 | ht8 | ht8 | ht8
        ·
          obtain ⟨nu_63, kd_64, cn_65, pa_66, fa_67, l_68, m_69, hs_70, hs_71, hs_72, hs_73⟩ := x_ifl hI ht8
          obtain ⟨kk_74, hk_75⟩ := pl_at ht8.1 hs_70
          exact va_instNo hx hb hown (hts (.classLink RX11 88 "PageOne$Picture") (zat q_wsX11_size k_wsX11_size 268 rfl (by decide +kernel))) hXN.n_X2_X7 (va_recv hK hP (ci := 2) (q0 := kk_74) rfl hk_75) dX11_size_9 hgo
        ·
          obtain ⟨nu_76, kd_77, cn_78, pa_79, fa_80, o_81, w_82, y_83, hs_84, hs_85, hs_86, hs_87, hq_88⟩ := x_ihd hI ht8
          obtain ⟨kk_89, hk_90⟩ := pl_at ht8.1 hs_84
          exact va_instNo hx hb hown (hts (.classLink RX11 88 "PageOne$Picture") (zat q_wsX11_size k_wsX11_size 268 rfl (by decide +kernel))) hXN.n_X3_X7 (va_recv hK hP (ci := 3) (q0 := kk_89) rfl hk_90) dX11_size_9 hgo
        ·
          obtain ⟨nu_91, kd_92, cn_93, pa_94, fa_95, o_96, y_97, hs_98, hs_99, hs_100, hs_101, hq_102⟩ := x_ino hI ht8
          obtain ⟨kk_103, hk_104⟩ := pl_at ht8.1 hs_98
          exact va_instNo hx hb hown (hts (.classLink RX11 88 "PageOne$Picture") (zat q_wsX11_size k_wsX11_size 268 rfl (by decide +kernel))) hXN.n_X5_X7 (va_recv hK hP (ci := 4) (q0 := kk_103) rfl hk_104) dX11_size_9 hgo
        ·
          obtain ⟨nu_105, kd_106, cn_107, pa_108, fa_109, b_110, pr_111, sp_112, dy_113, hs_114, hs_115, hs_116, hs_117, hq_118, hq_119, hq_120⟩ := x_ipd hI ht8
          obtain ⟨kk_121, hk_122⟩ := pl_at ht8.1 hs_114
          exact va_instNo hx hb hown (hts (.classLink RX11 88 "PageOne$Picture") (zat q_wsX11_size k_wsX11_size 268 rfl (by decide +kernel))) hXN.n_X6_X7 (va_recv hK hP (ci := 5) (q0 := kk_121) rfl hk_122) dX11_size_9 hgo
        ·
          exact absurd ht8 ht9
        ·
          obtain ⟨nu_123, kd_124, cn_125, pa_126, fa_127, l_128, co_129, wd_130, nm_131, hs_132, hs_133, hs_134, hs_135, hq_136, hq_137, hq_138⟩ := x_ist hI ht8
          obtain ⟨kk_139, hk_140⟩ := pl_at ht8.1 hs_132
          exact va_instNo hx hb hown (hts (.classLink RX11 88 "PageOne$Picture") (zat q_wsX11_size k_wsX11_size 268 rfl (by decide +kernel))) hXN.n_X10_X7 (va_recv hK hP (ci := 9) (q0 := kk_139) rfl hk_140) dX11_size_9 hgo
      ·
        refine lv_if_eq (tgt := 30) hx hb dX11_size_12 (by decide) (fun c_141 => ?_) (fun c_141 => absurd (by decide) c_141)
        refine lv_iconst (v := (-1)) hx hb dX11_size_30 (by decide) ?_
        exact W.iret (v := (-1)) hx hb hr (fun t ht hW => ⟨⟨(-1), (k, z, f), rfl, ⟨rfl, rfl, rfl, hI, by rw [(size_n (by rw [ep_5, mK_it hu.1 hi_4]; exact decide_eq_false hkd_29))], by rw [(size_n (by rw [ep_5, mK_it hu.1 hi_4]; exact decide_eq_false hkd_29))]; exact hrp⟩, by rw [ht]; exact hP, hD⟩, hS.F ht⟩) hS.2.2 dX11_size_31
set_option maxHeartbeats 4000000 in
set_option maxRecDepth 100000 in
theorem v_names (l : Launch) (dC : Nat → ClassId) (dI : Nat → Nat → Nat) (q : Nat → ClassId) (h0 : Nat) (d : Nat → Nat) (k : Nat → Int32) (z : gS) (f : xF) (hI : xI q h0 d k z f) (p0 p1 : Int32) (u : mS) (hrp : rep q d u z f) (hk0 : k 0 = u.1 3) (hk1 : k 1 = u.1 28) (hk2 : k 2 = u.1 38) (hk3 : k 3 = u.1 39) (hu : rI u) (sz : Nat) : Met l yX11_names wsX11_names ({ frames := 2, cells := 0, slots := 0, locals := 43 }) (va_Pc [.ref h0, .int p0, .int p1] (fun U => U.heap.size = sz ∧ PX dC dI (va_pl z.1 f) (xT q) U ∧ va_D (fun _ => True) (va_pl z.1 f))) (va_Qi (fun (r : Int32) (w : xU) => w.2.2 (d 3) = f (d 3) ∧ w.1 = k ∧ w.2.1 = z ∧ xI q h0 d k z w.2.2 ∧ r = (mNames u p0 p1).1 ∧ rep q d (mNames u p0 p1).2 z w.2.2) (fun (w : xU) t => va_P (dC, dI) vwCl (va_pl w.2.1.1 w.2.2) t.heap ∧ va_D (va_A (va_pl z.1 f) sz) (va_pl w.2.1.1 w.2.2)) (va_A (va_pl z.1 f) sz)) 0 0 (va_A (va_pl z.1 f) sz) := by
  refine Met.ofW (cc := cX11_names) (maxL := 5) (ret := (some .boolean)) (by decide) rfl ?_
  intro p e s m args below meth c s₁ B hml hv
  obtain ⟨rfl, hsz, ⟨⟨hP, hK, hN⟩, hXN⟩, hD0⟩ := hv
  have hx := B.exec
  have hb := B.bytes
  have hr := B.returns
  have hts := atoms_spec (ws := wsX11_names) B.pre
  have hown : s.vm.findClass RX11 = some m.cls := findClass_of_methodNamed B.named
  have hlocks := B.notSynchronized
  subst hsz
  have hD := hD0.self (sz := s.heap.size)
  generalize hAe : va_A (va_pl z.1 f) s.heap.size = A at hD ⊢
  have hA : ∀ q : Nat, s.heap.size ≤ q → A q := fun q h => by rw [← hAe]; exact Or.inr h
  have hS : va_S A s.heap s.heap [] := va_S.rf
  have hl := lv_entry ([.ref h0, .int p0, .int p1]) (n := 5) (Nat.le_of_ble_eq_true rfl)
  rw [lg_entry_eq]
  generalize (lg_sl ([.ref h0, .int p0, .int p1]) ++ List.replicate (5 - (lg_sl ([.ref h0, .int p0, .int p1])).length) Slot.unset).toArray = ls at hl ⊢
  have hl : lv_has ls 5 [(0, .ref h0), (1, .int p0), (2, .int p1)] := hl
  refine lv_aload_n hx hb dX11_names_0 rfl (lv_at hl 0 rfl) ?_
  refine lv_iload_n hx hb dX11_names_1 rfl (lv_at hl 1 rfl) ?_
  obtain ⟨kk_1, hk_2⟩ := pl_at hI.2.1.1.1 hI.2.2.2.1.1
  refine va_csq (va_runV (As := [.int p0]) (rest := []) ⟨hx, hb, hml, hown, hts⟩ (y_itemOf l dC dI q h0 d k z f hI p0 u hrp hk0 hk1 hk2 hk3) (cwV 1 hts gX11_names_X11_itemOf rfl rfl rfl zh_X11_itemOf_49 ⟨Nat.le_of_ble_eq_true rfl, Nat.le_of_ble_eq_true rfl⟩) ⟨px_fb, va_recv hK hP (ci := 10) (q0 := kk_1) rfl hk_2, fun U hU hW => ⟨rfl, px_to hU hW hP hK hN hXN⟩⟩ rfl rfl hl.1 rfl (lv_room (Nat.le_of_ble_eq_true rfl)) dX11_names_2 ⟨Nat.le_of_ble_eq_true rfl, Nat.le_of_ble_eq_true rfl⟩).run (fun r hw => ?_)
  rcases hw with ⟨hr9, hn9⟩ | ⟨i_3, hi_4, ep_5, hr9⟩
  ·
    subst hr9
    have hno_25 := hn9
    refine W.eq (g2 := F0 m 5 ls [.null]) rfl ?_
    refine lv_astoreN (lv' := [(4, .null), (0, .ref h0), (1, .int p0), (2, .int p1)]) hx hb dX11_names_5 hl (by decide) rfl (fun ls hl => ?_)
    refine lv_aloadN hx hb dX11_names_7 (lv_at hl 0 rfl) ?_
    refine lv_instN hx hb dX11_names_9 ?_
    refine lv_if_eq (tgt := 37) hx hb dX11_names_12 (by decide) (fun c_26 => ?_) (fun c_26 => absurd (by decide) c_26)
    refine lv_iconst (v := 0) hx hb dX11_names_37 (by decide) ?_
    exact W.zret (v := 0) hx hb hr (by decide) (fun t ht hW => ⟨⟨0, (k, z, f), rfl, ⟨rfl, rfl, rfl, hI, by rw [names_n (mK_no hno_25)], by rw [names_n (mK_no hno_25)]; exact hrp⟩, by rw [ht]; exact hP, hD⟩, hS.F ht⟩) hS.2.2 dX11_names_38
  ·
    subst hr9
    obtain ⟨rs_6, n_7, g_8, fg_9, hit_10, hs_11, hpa_12, hps_13, h1_14, h6_15, hcb_16, hpl_17, hlg_18, hnn_19, hfa_20, hfs_21, hfe_22, hrs_23, hkt_24⟩ := it_all hI hrp.2.2.1 hi_4
    refine W.eq (g2 := F0 m 5 ls [.ref (d (2000 + i_3))]) rfl ?_
    refine lv_astore (lv' := [(4, .ref (d (2000 + i_3))), (0, .ref h0), (1, .int p0), (2, .int p1)]) hx hb dX11_names_5 hl (by decide) rfl (fun ls hl => ?_)
    refine lv_aload hx hb dX11_names_7 (lv_at hl 0 rfl) ?_
    rcases Classical.em (tg z (d (2000 + i_3)) 15) with ht9 | ht9
    ·
      have ht_27 := ht9
      have hkd_29 : u.2 4 i_3 = 0 := (kT_k (kd_05 hrp.2.2.1 hi_4).1 (kd_05 hrp.2.2.1 hi_4).2).1 (hkt_24.symm.trans ht_27.2)
      obtain ⟨hx_30, hx_31, hx_32, ⟨hx_33, hx_34, hx_35⟩, hx_36, hx_37, hx_38⟩ := hrs_23.1 hkd_29
      have hs_39 : f (d (2000 + i_3)) = .inr (9, [.int (nI i_3), .int (u.2 4 i_3), .ref (d (3000 + i_3)), .int (u.2 22 i_3), .ref (d (4000 + i_3)), .int (u.2 5 i_3), .ref (d (5000 + i_3)), .int (u.2 15 i_3), .ref (d (6000 + i_3))]) := by rw [hs_11, ht_27.2, hx_30]; rfl
      obtain ⟨kk_50, hk_51⟩ := pl_at ht_27.1 hs_39
      refine va_instS hx hb hown (hts (.classLink RX11 66 "PageOne$Story") (zat q_wsX11_names k_wsX11_names 161 rfl (by decide +kernel))) (hK.1 9 (RX10, TX10, 9) rfl).2 (va_recv hK hP (ci := 9) (q0 := kk_50) rfl hk_51) dX11_names_9 ?_
      refine lv_if_eq (tgt := 37) hx hb dX11_names_12 (by decide) (fun c_52 => absurd c_52 (by decide)) (fun c_52 => ?_)
      refine lv_aload hx hb dX11_names_15 (lv_at hl 0 rfl) ?_
      obtain ⟨kk_53, hk_54⟩ := pl_at ht_27.1 hs_39
      refine va_castS hx hb hown (hts (.classLink RX11 66 "PageOne$Story") (zat q_wsX11_names k_wsX11_names 161 rfl (by decide +kernel))) (hK.1 9 (RX10, TX10, 9) rfl).2 (va_recv hK hP (ci := 9) (q0 := kk_53) rfl hk_54) dX11_names_17 ?_
      refine lv_astore_n (lv' := [(3, .ref (d (2000 + i_3))), (4, .ref (d (2000 + i_3))), (0, .ref h0), (1, .int p0), (2, .int p1)]) hx hb dX11_names_20 rfl hl (by decide) rfl (fun ls hl => ?_)
      refine lv_iload_n hx hb dX11_names_21 rfl (lv_at hl 4 rfl) ?_
      refine vp_callSi (va_runS (As := [.int p1]) (rest := []) ⟨hx, hb, hml, hown, hts⟩ (x_isBuyer l dC dI p1) (va_cwS 1 hts gX11_names_X11_isBuyer rfl rfl rfl zh_X11_isBuyer_53 ⟨Nat.le_of_ble_eq_true rfl, Nat.le_of_ble_eq_true rfl⟩) ⟨pw_fb, fun U hU hW => ⟨rfl, pw_to hU hW (hP.sub (ws' := []) [] rfl) (hK.sub (tys' := []) [] rfl) hN⟩⟩ rfl rfl hl.1 rfl (lv_room (Nat.le_of_ble_eq_true rfl)) dX11_names_22 ⟨Nat.le_of_ble_eq_true rfl, Nat.le_of_ble_eq_true rfl⟩).run (fun r hw => ?_)
      rcases Bool.eq_false_or_eq_true (bw p1 0 9) with b_55 | b_55
      ·
        obtain rfl : r = 1 := b_t hw b_55
        refine lv_if_eq (tgt := 37) hx hb dX11_names_25 (by decide) (fun c_56 => absurd c_56 (by decide)) (fun c_56 => ?_)
        refine lv_aload_n hx hb dX11_names_28 rfl (lv_at hl 0 rfl) ?_
        obtain ⟨kk_57, hk_58⟩ := pl_at ht_27.1 hs_39
        refine va_get (D := (dC, dI)) (ci := 9) (v := .ref (d (6000 + i_3))) (C := RX10) (T := TX10) (N := 9) hx hb hts zl_X11_names_X10 hown hK hP kk_57 hk_58 rfl 8 (by decide) (hts (.fieldLink RX11 135 "PageOne$Story" "named" "[Z") (zat q_wsX11_names k_wsX11_names 180 rfl (by decide +kernel))) (fun _ h9 => h9) rfl dX11_names_29 ?_
        refine lv_iload_n hx hb dX11_names_32 rfl (lv_at hl 4 rfl) ?_
        obtain ⟨kk_59, hk_60⟩ := pl_at hx_32.1.1 hx_37
        refine va_zald hx hb hK hP kk_59 1 hk_60 rfl (vin b_55 (by decide)) dX11_names_33 ?_
        refine lv_if_eq (tgt := 39) hx hb dX11_names_34 (by decide) (fun c_61 => ?_) (fun c_61 => ?_)
        ·
          refine lv_aload_n hx hb dX11_names_39 rfl (lv_at hl 0 rfl) ?_
          obtain ⟨kk_62, hk_63⟩ := pl_at ht_27.1 hs_39
          refine va_get (D := (dC, dI)) (ci := 9) (v := .ref (d (6000 + i_3))) (C := RX10) (T := TX10) (N := 9) hx hb hts zl_X11_names_X10 hown hK hP kk_62 hk_63 rfl 8 (by decide) (hts (.fieldLink RX11 135 "PageOne$Story" "named" "[Z") (zat q_wsX11_names k_wsX11_names 180 rfl (by decide +kernel))) (fun _ h9 => h9) rfl dX11_names_40 ?_
          refine lv_iload_n hx hb dX11_names_43 rfl (lv_at hl 4 rfl) ?_
          refine lv_iconst (v := 1) hx hb dX11_names_44 (by decide) ?_
          obtain ⟨kk_64, hk_65⟩ := pl_at hx_32.1.1 hx_37
          have hD0 := hD
          refine va_zast hx hb hK hP hD hS kk_64 1 hk_65 rfl (vin b_55 (by decide)) dX11_names_45 (fun H locs hP hD hS => ?_)
          rw [pl_set hD0 hx_32.1.1 hx_37 hk_65] at hP hD
          obtain ⟨f_66, ef_66⟩ : ∃ y : xF, y = va_up f (d (6000 + i_3)) (aI (q 1) 10 (upd hx_36 (p1 : Int32).toNatClampNeg (vp_nar .boolean 1))) := ⟨_, rfl⟩
          have hI : xI q h0 d k z f_66 := by rw [ef_66]; exact x_up hI hx_32.1 (by decide) (cO_19 hx_32.1.2 ⟨_, rfl⟩)
          have hP : va_P (dC, dI) vwCl (va_pl z.1 f_66) H := by rw [ef_66]; exact hP
          have hD : va_D A (va_pl z.1 f_66) := by rw [ef_66]; exact hD
          refine lv_iconst (v := 1) hx hb dX11_names_46 (by decide) ?_
          exact W.zret (v := 1) hx hb hr (by decide) (fun t ht hW => ⟨⟨1, (k, z, f_66), rfl, ⟨(by show f_66 (d 3) = f (d 3); rw [ef_66]; exact up_o (nO_ne (d3_o hrp) hx_32 (by omega))), rfl, rfl, hI, by rw [ep_5]; show _ ∧ rep q d _ z f_66; rw [ef_66]; exact (names_y hrp hu hi_4 hkd_29 b_55 hx_37 hx_38).1 c_61⟩, by rw [ht]; exact hP, hD⟩, hS.F ht⟩) hS.2.2 dX11_names_47
        ·
          refine lv_iconst (v := 0) hx hb dX11_names_37 (by decide) ?_
          exact W.zret (v := 0) hx hb hr (by decide) (fun t ht hW => ⟨⟨0, (k, z, f), rfl, ⟨rfl, rfl, rfl, hI, by rw [ep_5]; exact (names_y hrp hu hi_4 hkd_29 b_55 hx_37 hx_38).2 c_61⟩, by rw [ht]; exact hP, hD⟩, hS.F ht⟩) hS.2.2 dX11_names_38
      ·
        obtain rfl : r = 0 := b_f hw b_55
        refine lv_if_eq (tgt := 37) hx hb dX11_names_25 (by decide) (fun c_67 => ?_) (fun c_67 => absurd (by decide) c_67)
        refine lv_iconst (v := 0) hx hb dX11_names_37 (by decide) ?_
        exact W.zret (v := 0) hx hb hr (by decide) (fun t ht hW => ⟨⟨0, (k, z, f), rfl, ⟨rfl, rfl, rfl, hI, by rw [(names_x (bne b_55))], by rw [(names_x (bne b_55))]; exact hrp⟩, by rw [ht]; exact hP, hD⟩, hS.F ht⟩) hS.2.2 dX11_names_38
    ·
      have hn_28 := ht9
      have hkd_29 : ¬ u.2 4 i_3 = 0 := fun e9 => ht9 ⟨hit_10.1, by rw [hkt_24, e9]; rfl⟩
      refine w_then (F0 m 12 ls [.int 0]) (fun hgo => ?_) ?_
      ·
        rcases x_tag hit_10 with ht8 | ht8 | ht8 | ht8 | ht8 | ht8
        ·
          obtain ⟨nu_68, kd_69, cn_70, pa_71, fa_72, l_73, m_74, hs_75, hs_76, hs_77, hs_78⟩ := x_ifl hI ht8
          obtain ⟨kk_79, hk_80⟩ := pl_at ht8.1 hs_75
          exact va_instNo hx hb hown (hts (.classLink RX11 66 "PageOne$Story") (zat q_wsX11_names k_wsX11_names 161 rfl (by decide +kernel))) hXN.n_X2_X10 (va_recv hK hP (ci := 2) (q0 := kk_79) rfl hk_80) dX11_names_9 hgo
        ·
          obtain ⟨nu_81, kd_82, cn_83, pa_84, fa_85, o_86, w_87, y_88, hs_89, hs_90, hs_91, hs_92, hq_93⟩ := x_ihd hI ht8
          obtain ⟨kk_94, hk_95⟩ := pl_at ht8.1 hs_89
          exact va_instNo hx hb hown (hts (.classLink RX11 66 "PageOne$Story") (zat q_wsX11_names k_wsX11_names 161 rfl (by decide +kernel))) hXN.n_X3_X10 (va_recv hK hP (ci := 3) (q0 := kk_94) rfl hk_95) dX11_names_9 hgo
        ·
          obtain ⟨nu_96, kd_97, cn_98, pa_99, fa_100, o_101, y_102, hs_103, hs_104, hs_105, hs_106, hq_107⟩ := x_ino hI ht8
          obtain ⟨kk_108, hk_109⟩ := pl_at ht8.1 hs_103
          exact va_instNo hx hb hown (hts (.classLink RX11 66 "PageOne$Story") (zat q_wsX11_names k_wsX11_names 161 rfl (by decide +kernel))) hXN.n_X5_X10 (va_recv hK hP (ci := 4) (q0 := kk_108) rfl hk_109) dX11_names_9 hgo
        ·
          obtain ⟨nu_110, kd_111, cn_112, pa_113, fa_114, b_115, pr_116, sp_117, dy_118, hs_119, hs_120, hs_121, hs_122, hq_123, hq_124, hq_125⟩ := x_ipd hI ht8
          obtain ⟨kk_126, hk_127⟩ := pl_at ht8.1 hs_119
          exact va_instNo hx hb hown (hts (.classLink RX11 66 "PageOne$Story") (zat q_wsX11_names k_wsX11_names 161 rfl (by decide +kernel))) hXN.n_X6_X10 (va_recv hK hP (ci := 5) (q0 := kk_126) rfl hk_127) dX11_names_9 hgo
        ·
          obtain ⟨nu_128, kd_129, cn_130, pa_131, fa_132, ww_133, hh_134, sz_135, hs_136, hs_137, hs_138, hs_139, hq_140, hq_141, hq_142⟩ := x_ipi hI ht8
          obtain ⟨kk_143, hk_144⟩ := pl_at ht8.1 hs_136
          exact va_instNo hx hb hown (hts (.classLink RX11 66 "PageOne$Story") (zat q_wsX11_names k_wsX11_names 161 rfl (by decide +kernel))) hXN.n_X7_X10 (va_recv hK hP (ci := 6) (q0 := kk_143) rfl hk_144) dX11_names_9 hgo
        ·
          exact absurd ht8 ht9
      ·
        refine lv_if_eq (tgt := 37) hx hb dX11_names_12 (by decide) (fun c_145 => ?_) (fun c_145 => absurd (by decide) c_145)
        refine lv_iconst (v := 0) hx hb dX11_names_37 (by decide) ?_
        exact W.zret (v := 0) hx hb hr (by decide) (fun t ht hW => ⟨⟨0, (k, z, f), rfl, ⟨rfl, rfl, rfl, hI, by rw [(names_n (by rw [ep_5, mK_it hu.1 hi_4]; exact decide_eq_false hkd_29))], by rw [(names_n (by rw [ep_5, mK_it hu.1 hi_4]; exact decide_eq_false hkd_29))]; exact hrp⟩, by rw [ht]; exact hP, hD⟩, hS.F ht⟩) hS.2.2 dX11_names_38
set_option maxHeartbeats 4000000 in
set_option maxRecDepth 100000 in
theorem v_rival (l : Launch) (dC : Nat → ClassId) (dI : Nat → Nat → Nat) (q : Nat → ClassId) (h0 : Nat) (d : Nat → Nat) (k : Nat → Int32) (z : gS) (f : xF) (hI : xI q h0 d k z f) (p0 p1 : Int32) (u : mS) (hrp : rep q d u z f) (hk0 : k 0 = u.1 3) (hk1 : k 1 = u.1 28) (hk2 : k 2 = u.1 38) (hk3 : k 3 = u.1 39) (hu : rI u) (g : Nat → Int32) (hg6 : f (d 4) = aI (q 1) 100 g) (hz6 : ∀ j, g j = 0 ∨ g j = 1) (sz : Nat) : Met l yX11_rival wsX11_rival ({ frames := 2, cells := 0, slots := 0, locals := 42 }) (va_Pc [.ref h0, .int p0, .int p1] (fun U => U.heap.size = sz ∧ PX dC dI (va_pl z.1 f) (xT q) U ∧ va_D (fun _ => True) (va_pl z.1 f))) (va_Qi (fun (r : Int32) (w : xU) => w.2.2 (d 3) = f (d 3) ∧ w.1 = k ∧ w.2.1 = z ∧ xI q h0 d k z w.2.2 ∧ r = (mRival u p0 p1).1 ∧ rep q d (mRival u p0 p1).2 z w.2.2) (fun (w : xU) t => va_P (dC, dI) vwCl (va_pl w.2.1.1 w.2.2) t.heap ∧ va_D (va_A (va_pl z.1 f) sz) (va_pl w.2.1.1 w.2.2)) (va_A (va_pl z.1 f) sz)) 0 0 (va_A (va_pl z.1 f) sz) := by
  refine Met.ofW (cc := cX11_rival) (maxL := 3) (ret := (some .boolean)) (by decide) rfl ?_
  intro p e s m args below meth c s₁ B hml hv
  obtain ⟨rfl, hsz, ⟨⟨hP, hK, hN⟩, hXN⟩, hD0⟩ := hv
  have hx := B.exec
  have hb := B.bytes
  have hr := B.returns
  have hts := atoms_spec (ws := wsX11_rival) B.pre
  have hown : s.vm.findClass RX11 = some m.cls := findClass_of_methodNamed B.named
  have hlocks := B.notSynchronized
  subst hsz
  have hD := hD0.self (sz := s.heap.size)
  generalize hAe : va_A (va_pl z.1 f) s.heap.size = A at hD ⊢
  have hA : ∀ q : Nat, s.heap.size ≤ q → A q := fun q h => by rw [← hAe]; exact Or.inr h
  have hS : va_S A s.heap s.heap [] := va_S.rf
  have hl := lv_entry ([.ref h0, .int p0, .int p1]) (n := 3) (Nat.le_of_ble_eq_true rfl)
  rw [lg_entry_eq]
  generalize (lg_sl ([.ref h0, .int p0, .int p1]) ++ List.replicate (3 - (lg_sl ([.ref h0, .int p0, .int p1])).length) Slot.unset).toArray = ls at hl ⊢
  have hl : lv_has ls 3 [(0, .ref h0), (1, .int p0), (2, .int p1)] := hl
  refine lv_iload_n hx hb dX11_rival_0 rfl (lv_at hl 1 rfl) ?_
  refine vp_callSi (va_runS (As := [.int p0]) (rest := []) ⟨hx, hb, hml, hown, hts⟩ (x_isBuyer l dC dI p0) (va_cwS 1 hts gX11_rival_X11_isBuyer rfl rfl rfl zh_X11_isBuyer_53 ⟨Nat.le_of_ble_eq_true rfl, Nat.le_of_ble_eq_true rfl⟩) ⟨pw_fb, fun U hU hW => ⟨rfl, pw_to hU hW (hP.sub (ws' := []) [] rfl) (hK.sub (tys' := []) [] rfl) hN⟩⟩ rfl rfl hl.1 rfl (lv_room (Nat.le_of_ble_eq_true rfl)) dX11_rival_1 ⟨Nat.le_of_ble_eq_true rfl, Nat.le_of_ble_eq_true rfl⟩).run (fun r hw => ?_)
  rcases Bool.eq_false_or_eq_true (bw p0 0 9) with b_1 | b_1
  ·
    obtain rfl : r = 1 := b_t hw b_1
    refine lv_if_eq (tgt := 28) hx hb dX11_rival_4 (by decide) (fun c_2 => absurd c_2 (by decide)) (fun c_2 => ?_)
    refine lv_iload_n hx hb dX11_rival_7 rfl (lv_at hl 2 rfl) ?_
    refine vp_callSi (va_runS (As := [.int p1]) (rest := []) ⟨hx, hb, hml, hown, hts⟩ (x_isBuyer l dC dI p1) (va_cwS 1 hts gX11_rival_X11_isBuyer rfl rfl rfl zh_X11_isBuyer_53 ⟨Nat.le_of_ble_eq_true rfl, Nat.le_of_ble_eq_true rfl⟩) ⟨pw_fb, fun U hU hW => ⟨rfl, pw_to hU hW (hP.sub (ws' := []) [] rfl) (hK.sub (tys' := []) [] rfl) hN⟩⟩ rfl rfl hl.1 rfl (lv_room (Nat.le_of_ble_eq_true rfl)) dX11_rival_8 ⟨Nat.le_of_ble_eq_true rfl, Nat.le_of_ble_eq_true rfl⟩).run (fun r hw => ?_)
    rcases Bool.eq_false_or_eq_true (bw p1 0 9) with b_3 | b_3
    ·
      obtain rfl : r = 1 := b_t hw b_3
      refine lv_if_eq (tgt := 28) hx hb dX11_rival_11 (by decide) (fun c_4 => absurd c_4 (by decide)) (fun c_4 => ?_)
      refine lv_iload_n hx hb dX11_rival_14 rfl (lv_at hl 1 rfl) ?_
      refine lv_iload_n hx hb dX11_rival_15 rfl (lv_at hl 2 rfl) ?_
      refine lv_icmp_eq (tgt := 28) hx hb dX11_rival_16 (by decide) (fun c_5 => ?_) (fun c_5 => ?_)
      ·
        refine lv_iconst (v := 0) hx hb dX11_rival_28 (by decide) ?_
        exact W.zret (v := 0) hx hb hr (by decide) (fun t ht hW => ⟨⟨0, (k, z, f), rfl, ⟨rfl, rfl, rfl, hI, by rw [(rival_e c_5)], by rw [(rival_e c_5)]; exact hrp⟩, by rw [ht]; exact hP, hD⟩, hS.F ht⟩) hS.2.2 dX11_rival_29
      ·
        refine lv_aload_n hx hb dX11_rival_19 rfl (lv_at hl 0 rfl) ?_
        refine lv_iload_n hx hb dX11_rival_20 rfl (lv_at hl 1 rfl) ?_
        refine lv_iload_n hx hb dX11_rival_21 rfl (lv_at hl 2 rfl) ?_
        obtain ⟨kk_6, hk_7⟩ := pl_at hI.2.1.1.1 hI.2.2.2.1.1
        refine vp_callSi (va_runV (As := [.int p0, .int p1]) (rest := []) ⟨hx, hb, hml, hown, hts⟩ (y_areRivals l dC dI q h0 d k z f hI p0 p1 b_1 b_3 g hg6 hz6) (cwV 2 hts gX11_rival_X11_areRivals rfl rfl rfl zh_X11_areRivals_54 ⟨Nat.le_of_ble_eq_true rfl, Nat.le_of_ble_eq_true rfl⟩) ⟨px_fb, va_recv hK hP (ci := 10) (q0 := kk_6) rfl hk_7, fun U hU hW => ⟨rfl, px_to hU hW hP hK hN hXN⟩⟩ rfl rfl hl.1 rfl (lv_room (Nat.le_of_ble_eq_true rfl)) dX11_rival_22 ⟨Nat.le_of_ble_eq_true rfl, Nat.le_of_ble_eq_true rfl⟩).run (fun r hw => ?_)
        obtain rfl : r = g (p0 * 10 + p1 : Int32).toNatClampNeg := hw
        refine lv_if_eq (tgt := 30) hx hb dX11_rival_25 (by decide) (fun c_8 => ?_) (fun c_8 => ?_)
        ·
          refine lv_aload_n hx hb dX11_rival_30 rfl (lv_at hl 0 rfl) ?_
          obtain ⟨kk_9, hk_10⟩ := pl_at hI.2.1.1.1 hI.2.2.2.1.1
          refine va_get (D := (dC, dI)) (ci := 10) (v := .ref (d 4)) (C := RX11) (T := TX11) (N := 9) hx hb hts zl_X11_rival_X11 hown hK hP kk_9 hk_10 rfl 6 (by decide) (hts (.fieldLink RX11 37 "PageOne" "rivals" "[Z") (zat q_wsX11_rival k_wsX11_rival 118 rfl (by decide +kernel))) (fun _ h9 => h9) rfl dX11_rival_31 ?_
          refine lv_iload_n hx hb dX11_rival_34 rfl (lv_at hl 1 rfl) ?_
          refine lv_bipush (v := 10) hx hb dX11_rival_35 (by decide) ?_
          refine lv_imul hx hb dX11_rival_37 ?_
          refine lv_iload_n hx hb dX11_rival_38 rfl (lv_at hl 2 rfl) ?_
          refine lv_iadd hx hb dX11_rival_39 ?_
          refine lv_iconst (v := 1) hx hb dX11_rival_40 (by decide) ?_
          obtain ⟨kk_11, hk_12⟩ := pl_at hI.2.1.2.2.2.2.2.1 hg6
          have hD0 := hD
          refine va_zast hx hb hK hP hD hS kk_11 1 hk_12 rfl (vin2 b_1 b_3) dX11_rival_41 (fun H locs hP hD hS => ?_)
          rw [pl_set hD0 hI.2.1.2.2.2.2.2.1 hg6 hk_12] at hP hD
          obtain ⟨f_13, ef_13⟩ : ∃ y : xF, y = va_up f (d 4) (aI (q 1) 100 (upd g (((p0 * 10) + p1) : Int32).toNatClampNeg (vp_nar .boolean 1))) := ⟨_, rfl⟩
          have hI : xI q h0 d k z f_13 := by rw [ef_13]; exact x_up hI hI.2.1.2.2.2.2.2 (by decide) (cO_6 hI.2.1.2.2.2.2.2.2 ⟨_, rfl, z_up hz6⟩)
          have hP : va_P (dC, dI) vwCl (va_pl z.1 f_13) H := by rw [ef_13]; exact hP
          have hD : va_D A (va_pl z.1 f_13) := by rw [ef_13]; exact hD
          refine lv_aload_n hx hb dX11_rival_42 rfl (lv_at hl 0 rfl) ?_
          obtain ⟨kk_14, hk_15⟩ := pl_at hI.2.1.1.1 hI.2.2.2.1.1
          refine va_get (D := (dC, dI)) (ci := 10) (v := .ref (d 4)) (C := RX11) (T := TX11) (N := 9) hx hb hts zl_X11_rival_X11 hown hK hP kk_14 hk_15 rfl 6 (by decide) (hts (.fieldLink RX11 37 "PageOne" "rivals" "[Z") (zat q_wsX11_rival k_wsX11_rival 118 rfl (by decide +kernel))) (fun _ h9 => h9) rfl dX11_rival_43 ?_
          refine lv_iload_n hx hb dX11_rival_46 rfl (lv_at hl 2 rfl) ?_
          refine lv_bipush (v := 10) hx hb dX11_rival_47 (by decide) ?_
          refine lv_imul hx hb dX11_rival_49 ?_
          refine lv_iload_n hx hb dX11_rival_50 rfl (lv_at hl 1 rfl) ?_
          refine lv_iadd hx hb dX11_rival_51 ?_
          refine lv_iconst (v := 1) hx hb dX11_rival_52 (by decide) ?_
          obtain ⟨g_16, hs_17, hz_18⟩ := x_ri hI hI.2.1.2.2.2.2.2
          obtain ⟨kk_19, hk_20⟩ := pl_at hI.2.1.2.2.2.2.2.1 hs_17
          have hD0 := hD
          refine va_zast hx hb hK hP hD hS kk_19 1 hk_20 rfl (vin2 b_3 b_1) dX11_rival_53 (fun H locs hP hD hS => ?_)
          rw [pl_set hD0 hI.2.1.2.2.2.2.2.1 hs_17 hk_20] at hP hD
          obtain ⟨f_21, ef_21⟩ : ∃ y : xF, y = va_up f_13 (d 4) (aI (q 1) 100 (upd g_16 (((p1 * 10) + p0) : Int32).toNatClampNeg (vp_nar .boolean 1))) := ⟨_, rfl⟩
          have hI : xI q h0 d k z f_21 := by rw [ef_21]; exact x_up hI hI.2.1.2.2.2.2.2 (by decide) (cO_6 hI.2.1.2.2.2.2.2.2 ⟨_, rfl, z_up hz_18⟩)
          have hP : va_P (dC, dI) vwCl (va_pl z.1 f_21) H := by rw [ef_21]; exact hP
          have hD : va_D A (va_pl z.1 f_21) := by rw [ef_21]; exact hD
          refine lv_iconst (v := 1) hx hb dX11_rival_54 (by decide) ?_
          exact W.zret (v := 1) hx hb hr (by decide) (fun t ht hW => ⟨⟨1, (k, z, f_21), rfl, ⟨(by show f_21 (d 3) = f (d 3); rw [ef_21, up_o (nO_ne (d3_o hrp) hrp.2.2.2.2.2.2.2.2 (by omega)), ef_13]; exact up_o (nO_ne (d3_o hrp) hrp.2.2.2.2.2.2.2.2 (by omega))), rfl, rfl, hI, (rival_y hrp b_1 b_3 c_5 hg6).2 c_8 _ _ _ ef_13 hs_17 ef_21⟩, by rw [ht]; exact hP, hD⟩, hS.F ht⟩) hS.2.2 dX11_rival_55
        ·
          refine lv_iconst (v := 0) hx hb dX11_rival_28 (by decide) ?_
          exact W.zret (v := 0) hx hb hr (by decide) (fun t ht hW => ⟨⟨0, (k, z, f), rfl, ⟨rfl, rfl, rfl, hI, (rival_y hrp b_1 b_3 c_5 hg6).1 c_8⟩, by rw [ht]; exact hP, hD⟩, hS.F ht⟩) hS.2.2 dX11_rival_29
    ·
      obtain rfl : r = 0 := b_f hw b_3
      refine lv_if_eq (tgt := 28) hx hb dX11_rival_11 (by decide) (fun c_22 => ?_) (fun c_22 => absurd (by decide) c_22)
      refine lv_iconst (v := 0) hx hb dX11_rival_28 (by decide) ?_
      exact W.zret (v := 0) hx hb hr (by decide) (fun t ht hW => ⟨⟨0, (k, z, f), rfl, ⟨rfl, rfl, rfl, hI, by rw [(rival_b (bne b_3))], by rw [(rival_b (bne b_3))]; exact hrp⟩, by rw [ht]; exact hP, hD⟩, hS.F ht⟩) hS.2.2 dX11_rival_29
  ·
    obtain rfl : r = 0 := b_f hw b_1
    refine lv_if_eq (tgt := 28) hx hb dX11_rival_4 (by decide) (fun c_23 => ?_) (fun c_23 => absurd (by decide) c_23)
    refine lv_iconst (v := 0) hx hb dX11_rival_28 (by decide) ?_
    exact W.zret (v := 0) hx hb hr (by decide) (fun t ht hW => ⟨⟨0, (k, z, f), rfl, ⟨rfl, rfl, rfl, hI, by rw [(rival_a (bne b_1))], by rw [(rival_a (bne b_1))]; exact hrp⟩, by rw [ht]; exact hP, hD⟩, hS.F ht⟩) hS.2.2 dX11_rival_29
set_option maxHeartbeats 4000000 in
set_option maxRecDepth 100000 in
theorem v_column (l : Launch) (dC : Nat → ClassId) (dI : Nat → Nat → Nat) (q : Nat → ClassId) (h0 : Nat) (d : Nat → Nat) (k : Nat → Int32) (z : gS) (f : xF) (hI : xI q h0 d k z f) (p0 p1 p2 : Int32) (u : mS) (hrp : rep q d u z f) (hk0 : k 0 = u.1 3) (hk1 : k 1 = u.1 28) (hk2 : k 2 = u.1 38) (hk3 : k 3 = u.1 39) (hbr : u.1 28 ≤ 0 → ∀ j, j < 5760 → u.2 2 j = (-2)) (sz : Nat) : Met l yX11_column wsX11_column ({ frames := 2, cells := 0, slots := 0, locals := 42 }) (va_Pc [.ref h0, .int p0, .int p1, .int p2] (fun U => U.heap.size = sz ∧ PX dC dI (va_pl z.1 f) (xT q) U ∧ va_D (fun _ => True) (va_pl z.1 f))) (va_Qi (fun (r : Int32) (w : xU) => w.2.2 (d 3) = f (d 3) ∧ w.1 = k ∧ w.2.1 = z ∧ xI q h0 d k z w.2.2 ∧ r = (mColumn u p0 p1 p2).1 ∧ rep q d (mColumn u p0 p1 p2).2 z w.2.2) (fun (w : xU) t => va_P (dC, dI) vwCl (va_pl w.2.1.1 w.2.2) t.heap ∧ va_D (va_A (va_pl z.1 f) sz) (va_pl w.2.1.1 w.2.2)) (va_A (va_pl z.1 f) sz)) 0 0 (va_A (va_pl z.1 f) sz) := by
  refine Met.ofW (cc := cX11_column) (maxL := 4) (ret := (some .boolean)) (by decide) rfl ?_
  intro p e s m args below meth c s₁ B hml hv
  obtain ⟨rfl, hsz, ⟨⟨hP, hK, hN⟩, hXN⟩, hD0⟩ := hv
  have hx := B.exec
  have hb := B.bytes
  have hr := B.returns
  have hts := atoms_spec (ws := wsX11_column) B.pre
  have hown : s.vm.findClass RX11 = some m.cls := findClass_of_methodNamed B.named
  have hlocks := B.notSynchronized
  subst hsz
  have hD := hD0.self (sz := s.heap.size)
  generalize hAe : va_A (va_pl z.1 f) s.heap.size = A at hD ⊢
  have hA : ∀ q : Nat, s.heap.size ≤ q → A q := fun q h => by rw [← hAe]; exact Or.inr h
  have hS : va_S A s.heap s.heap [] := va_S.rf
  have hl := lv_entry ([.ref h0, .int p0, .int p1, .int p2]) (n := 4) (Nat.le_of_ble_eq_true rfl)
  rw [lg_entry_eq]
  generalize (lg_sl ([.ref h0, .int p0, .int p1, .int p2]) ++ List.replicate (4 - (lg_sl ([.ref h0, .int p0, .int p1, .int p2])).length) Slot.unset).toArray = ls at hl ⊢
  have hl : lv_has ls 4 [(0, .ref h0), (1, .int p0), (2, .int p1), (3, .int p2)] := hl
  refine lv_iload_n hx hb dX11_column_0 rfl (lv_at hl 1 rfl) ?_
  refine vp_callSi (va_runS (As := [.int p0]) (rest := []) ⟨hx, hb, hml, hown, hts⟩ (x_isPage l dC dI p0) (va_cwS 1 hts gX11_column_X11_isPage rfl rfl rfl zh_X11_isPage_44 ⟨Nat.le_of_ble_eq_true rfl, Nat.le_of_ble_eq_true rfl⟩) ⟨pw_fb, fun U hU hW => ⟨rfl, pw_to hU hW (hP.sub (ws' := []) [] rfl) (hK.sub (tys' := []) [] rfl) hN⟩⟩ rfl rfl hl.1 rfl (lv_room (Nat.le_of_ble_eq_true rfl)) dX11_column_1 ⟨Nat.le_of_ble_eq_true rfl, Nat.le_of_ble_eq_true rfl⟩).run (fun r hw => ?_)
  rcases Bool.eq_false_or_eq_true (bw p0 0 11) with b_1 | b_1
  ·
    obtain rfl : r = 1 := b_t hw b_1
    refine lv_if_eq (tgt := 31) hx hb dX11_column_4 (by decide) (fun c_2 => absurd c_2 (by decide)) (fun c_2 => ?_)
    refine lv_iload_n hx hb dX11_column_7 rfl (lv_at hl 2 rfl) ?_
    refine vp_callSi (va_runS (As := [.int p1]) (rest := []) ⟨hx, hb, hml, hown, hts⟩ (x_isColumn l dC dI p1) (va_cwS 1 hts gX11_column_X11_isColumn rfl rfl rfl zh_X11_isColumn_47 ⟨Nat.le_of_ble_eq_true rfl, Nat.le_of_ble_eq_true rfl⟩) ⟨pw_fb, fun U hU hW => ⟨rfl, pw_to hU hW (hP.sub (ws' := []) [] rfl) (hK.sub (tys' := []) [] rfl) hN⟩⟩ rfl rfl hl.1 rfl (lv_room (Nat.le_of_ble_eq_true rfl)) dX11_column_8 ⟨Nat.le_of_ble_eq_true rfl, Nat.le_of_ble_eq_true rfl⟩).run (fun r hw => ?_)
    rcases Bool.eq_false_or_eq_true (bw p1 0 7) with b_3 | b_3
    ·
      obtain rfl : r = 1 := b_t hw b_3
      refine lv_if_eq (tgt := 31) hx hb dX11_column_11 (by decide) (fun c_4 => absurd c_4 (by decide)) (fun c_4 => ?_)
      refine lv_iload_n hx hb dX11_column_14 rfl (lv_at hl 3 rfl) ?_
      refine lv_iconst (v := 0) hx hb dX11_column_15 (by decide) ?_
      refine lv_bipush (v := 60) hx hb dX11_column_16 (by decide) ?_
      refine vp_callSi (va_runS (As := [.int p2, .int 0, .int 60]) (rest := []) ⟨hx, hb, hml, hown, hts⟩ (x_isWithin l dC dI p2 0 60) (va_cwS 3 hts gX11_column_X11_isWithin rfl rfl rfl zh_X11_isWithin_30 ⟨Nat.le_of_ble_eq_true rfl, Nat.le_of_ble_eq_true rfl⟩) ⟨pw_fb, fun U hU hW => ⟨rfl, pw_to hU hW (hP.sub (ws' := []) [] rfl) (hK.sub (tys' := []) [] rfl) hN⟩⟩ rfl rfl hl.1 rfl (lv_room (Nat.le_of_ble_eq_true rfl)) dX11_column_18 ⟨Nat.le_of_ble_eq_true rfl, Nat.le_of_ble_eq_true rfl⟩).run (fun r hw => ?_)
      rcases Bool.eq_false_or_eq_true (bw p2 0 60) with b_5 | b_5
      ·
        obtain rfl : r = 1 := b_t hw b_5
        refine lv_if_eq (tgt := 31) hx hb dX11_column_21 (by decide) (fun c_6 => absurd c_6 (by decide)) (fun c_6 => ?_)
        refine lv_aload_n hx hb dX11_column_24 rfl (lv_at hl 0 rfl) ?_
        obtain ⟨kk_7, hk_8⟩ := pl_at hI.2.1.1.1 hI.2.2.2.1.1
        refine va_get (D := (dC, dI)) (ci := 10) (v := .int (k 1)) (C := RX11) (T := TX11) (N := 9) hx hb hts zl_X11_column_X11 hown hK hP kk_7 hk_8 rfl 5 (by decide) (hts (.fieldLink RX11 34 "PageOne" "actCount" "I") (zat q_wsX11_column k_wsX11_column 117 rfl (by decide +kernel))) (fun _ h9 => h9) rfl dX11_column_25 ?_
        refine lv_if_le (tgt := 33) hx hb dX11_column_28 (by decide) (fun c_9 => ?_) (fun c_9 => ?_)
        ·
          refine lv_aload_n hx hb dX11_column_33 rfl (lv_at hl 0 rfl) ?_
          obtain ⟨kk_10, hk_11⟩ := pl_at hI.2.1.1.1 hI.2.2.2.1.1
          refine va_get (D := (dC, dI)) (ci := 10) (v := .ref (d 0)) (C := RX11) (T := TX11) (N := 9) hx hb hts zl_X11_column_X11 hown hK hP kk_10 hk_11 rfl 0 (by decide) (hts (.fieldLink RX11 11 "PageOne" "pages" "[LPageOne$Sheet;") (zat q_wsX11_column k_wsX11_column 112 rfl (by decide +kernel))) (fun _ h9 => h9) rfl dX11_column_34 ?_
          refine lv_iload_n hx hb dX11_column_37 rfl (lv_at hl 1 rfl) ?_
          obtain ⟨g_12, hs_13, hg_14⟩ := x_pg hI hI.2.1.2.1
          obtain ⟨kk_15, hk_16⟩ := pl_at hI.2.1.2.1.1 hs_13
          refine va_aldq hx hb hK hP kk_15 2 hk_16 rfl (vin b_1 (by decide)) dX11_column_38 ?_
          obtain ⟨b_17, hg_18, ht_19⟩ := hg_14 _ (vlt (vin b_1 (by decide)))
          rw [hg_18]
          refine W.eq (g2 := F0 m 39 ls [.ref b_17]) rfl ?_
          obtain ⟨la_20, ca_21, m_22, dd_23, ii_24, hs_25, ht_26, ht_27⟩ := x_sh hI ht_19
          obtain ⟨kk_28, hk_29⟩ := pl_at ht_19.1 hs_25
          refine va_get (D := (dC, dI)) (ci := 8) (v := .ref la_20) (C := RX9) (T := TX9) (N := 5) hx hb hts zl_X11_column_X9 hown hK hP kk_28 hk_29 rfl 0 (by decide) (hts (.fieldLink RX11 59 "PageOne$Sheet" "lines" "[I") (zat q_wsX11_column k_wsX11_column 91 rfl (by decide +kernel))) (fun _ h9 => h9) rfl dX11_column_39 ?_
          refine lv_iload_n hx hb dX11_column_42 rfl (lv_at hl 2 rfl) ?_
          refine lv_iload_n hx hb dX11_column_43 rfl (lv_at hl 3 rfl) ?_
          obtain ⟨g_30, hs_31, hg_32⟩ := x_ln hI ht_26
          obtain ⟨kk_33, hk_34⟩ := pl_at ht_26.1 hs_31
          have hD0 := hD
          refine va_iast hx hb hK hP hD hS kk_33 0 hk_34 rfl (vin b_3 (by decide)) dX11_column_44 (fun H locs hP hD hS => ?_)
          rw [pl_set hD0 ht_26.1 hs_31 hk_34] at hP hD
          obtain ⟨f_35, ef_35⟩ : ∃ y : xF, y = va_up f la_20 (aI (q 0) 8 (upd g_30 (p1 : Int32).toNatClampNeg p2)) := ⟨_, rfl⟩
          have hI : xI q h0 d k z f_35 := by rw [ef_35]; exact x_up hI ht_26 (by decide) (cO_8 ht_26.2 ⟨_, rfl, ln_up hg_32 b_5⟩)
          have hP : va_P (dC, dI) vwCl (va_pl z.1 f_35) H := by rw [ef_35]; exact hP
          have hD : va_D A (va_pl z.1 f_35) := by rw [ef_35]; exact hD
          refine lv_iconst (v := 1) hx hb dX11_column_45 (by decide) ?_
          exact W.zret (v := 1) hx hb hr (by decide) (fun t ht hW => ⟨⟨1, (k, z, f_35), rfl, ⟨(by show f_35 (d 3) = f (d 3); rw [ef_35]; exact up_o (tg_nq hI.2.1.2.2.2.2.1 ht_26 (by decide))), rfl, rfl, hI, by show _ ∧ rep q d _ z f_35; rw [ef_35]; exact column_y hrp b_1 b_3 b_5 (by rw [← hk1]; exact c_9) hbr hs_13 hg_18 hs_25 hs_31⟩, by rw [ht]; exact hP, hD⟩, hS.F ht⟩) hS.2.2 dX11_column_46
        ·
          refine lv_iconst (v := 0) hx hb dX11_column_31 (by decide) ?_
          exact W.zret (v := 0) hx hb hr (by decide) (fun t ht hW => ⟨⟨0, (k, z, f), rfl, ⟨rfl, rfl, rfl, hI, by rw [(column_0 (fun h9 => c_9 (by rw [hk1]; exact h9.2.2.2)))], by rw [(column_0 (fun h9 => c_9 (by rw [hk1]; exact h9.2.2.2)))]; exact hrp⟩, by rw [ht]; exact hP, hD⟩, hS.F ht⟩) hS.2.2 dX11_column_32
      ·
        obtain rfl : r = 0 := b_f hw b_5
        refine lv_if_eq (tgt := 31) hx hb dX11_column_21 (by decide) (fun c_36 => ?_) (fun c_36 => absurd (by decide) c_36)
        refine lv_iconst (v := 0) hx hb dX11_column_31 (by decide) ?_
        exact W.zret (v := 0) hx hb hr (by decide) (fun t ht hW => ⟨⟨0, (k, z, f), rfl, ⟨rfl, rfl, rfl, hI, by rw [(column_0 (fun h9 => bne b_5 h9.2.2.1))], by rw [(column_0 (fun h9 => bne b_5 h9.2.2.1))]; exact hrp⟩, by rw [ht]; exact hP, hD⟩, hS.F ht⟩) hS.2.2 dX11_column_32
    ·
      obtain rfl : r = 0 := b_f hw b_3
      refine lv_if_eq (tgt := 31) hx hb dX11_column_11 (by decide) (fun c_37 => ?_) (fun c_37 => absurd (by decide) c_37)
      refine lv_iconst (v := 0) hx hb dX11_column_31 (by decide) ?_
      exact W.zret (v := 0) hx hb hr (by decide) (fun t ht hW => ⟨⟨0, (k, z, f), rfl, ⟨rfl, rfl, rfl, hI, by rw [(column_0 (fun h9 => bne b_3 h9.2.1))], by rw [(column_0 (fun h9 => bne b_3 h9.2.1))]; exact hrp⟩, by rw [ht]; exact hP, hD⟩, hS.F ht⟩) hS.2.2 dX11_column_32
  ·
    obtain rfl : r = 0 := b_f hw b_1
    refine lv_if_eq (tgt := 31) hx hb dX11_column_4 (by decide) (fun c_38 => ?_) (fun c_38 => absurd (by decide) c_38)
    refine lv_iconst (v := 0) hx hb dX11_column_31 (by decide) ?_
    exact W.zret (v := 0) hx hb hr (by decide) (fun t ht hW => ⟨⟨0, (k, z, f), rfl, ⟨rfl, rfl, rfl, hI, by rw [(column_0 (fun h9 => bne b_1 h9.1))], by rw [(column_0 (fun h9 => bne b_1 h9.1))]; exact hrp⟩, by rw [ht]; exact hP, hD⟩, hS.F ht⟩) hS.2.2 dX11_column_32
set_option maxHeartbeats 4000000 in
set_option maxRecDepth 100000 in
theorem v_measure (l : Launch) (dC : Nat → ClassId) (dI : Nat → Nat → Nat) (q : Nat → ClassId) (h0 : Nat) (d : Nat → Nat) (k : Nat → Int32) (z : gS) (f : xF) (hI : xI q h0 d k z f) (p0 p1 : Int32) (u : mS) (hrp : rep q d u z f) (hk0 : k 0 = u.1 3) (hk1 : k 1 = u.1 28) (hk2 : k 2 = u.1 38) (hk3 : k 3 = u.1 39) (hbr : u.1 28 ≤ 0 → ∀ j, j < 5760 → u.2 2 j = (-2)) (sz : Nat) : Met l yX11_measure wsX11_measure ({ frames := 2, cells := 0, slots := 0, locals := 42 }) (va_Pc [.ref h0, .int p0, .int p1] (fun U => U.heap.size = sz ∧ PX dC dI (va_pl z.1 f) (xT q) U ∧ va_D (fun _ => True) (va_pl z.1 f))) (va_Qi (fun (r : Int32) (w : xU) => w.2.2 (d 3) = f (d 3) ∧ w.1 = k ∧ w.2.1 = z ∧ xI q h0 d k z w.2.2 ∧ r = (mMeasure u p0 p1).1 ∧ rep q d (mMeasure u p0 p1).2 z w.2.2) (fun (w : xU) t => va_P (dC, dI) vwCl (va_pl w.2.1.1 w.2.2) t.heap ∧ va_D (va_A (va_pl z.1 f) sz) (va_pl w.2.1.1 w.2.2)) (va_A (va_pl z.1 f) sz)) 0 0 (va_A (va_pl z.1 f) sz) := by
  refine Met.ofW (cc := cX11_measure) (maxL := 3) (ret := (some .boolean)) (by decide) rfl ?_
  intro p e s m args below meth c s₁ B hml hv
  obtain ⟨rfl, hsz, ⟨⟨hP, hK, hN⟩, hXN⟩, hD0⟩ := hv
  have hx := B.exec
  have hb := B.bytes
  have hr := B.returns
  have hts := atoms_spec (ws := wsX11_measure) B.pre
  have hown : s.vm.findClass RX11 = some m.cls := findClass_of_methodNamed B.named
  have hlocks := B.notSynchronized
  subst hsz
  have hD := hD0.self (sz := s.heap.size)
  generalize hAe : va_A (va_pl z.1 f) s.heap.size = A at hD ⊢
  have hA : ∀ q : Nat, s.heap.size ≤ q → A q := fun q h => by rw [← hAe]; exact Or.inr h
  have hS : va_S A s.heap s.heap [] := va_S.rf
  have hl := lv_entry ([.ref h0, .int p0, .int p1]) (n := 3) (Nat.le_of_ble_eq_true rfl)
  rw [lg_entry_eq]
  generalize (lg_sl ([.ref h0, .int p0, .int p1]) ++ List.replicate (3 - (lg_sl ([.ref h0, .int p0, .int p1])).length) Slot.unset).toArray = ls at hl ⊢
  have hl : lv_has ls 3 [(0, .ref h0), (1, .int p0), (2, .int p1)] := hl
  refine lv_iload_n hx hb dX11_measure_0 rfl (lv_at hl 1 rfl) ?_
  refine vp_callSi (va_runS (As := [.int p0]) (rest := []) ⟨hx, hb, hml, hown, hts⟩ (x_isPage l dC dI p0) (va_cwS 1 hts gX11_measure_X11_isPage rfl rfl rfl zh_X11_isPage_44 ⟨Nat.le_of_ble_eq_true rfl, Nat.le_of_ble_eq_true rfl⟩) ⟨pw_fb, fun U hU hW => ⟨rfl, pw_to hU hW (hP.sub (ws' := []) [] rfl) (hK.sub (tys' := []) [] rfl) hN⟩⟩ rfl rfl hl.1 rfl (lv_room (Nat.le_of_ble_eq_true rfl)) dX11_measure_1 ⟨Nat.le_of_ble_eq_true rfl, Nat.le_of_ble_eq_true rfl⟩).run (fun r hw => ?_)
  rcases Bool.eq_false_or_eq_true (bw p0 0 11) with b_1 | b_1
  ·
    obtain rfl : r = 1 := b_t hw b_1
    refine lv_if_eq (tgt := 25) hx hb dX11_measure_4 (by decide) (fun c_2 => absurd c_2 (by decide)) (fun c_2 => ?_)
    refine lv_iload_n hx hb dX11_measure_7 rfl (lv_at hl 2 rfl) ?_
    refine lv_iconst (v := 1) hx hb dX11_measure_8 (by decide) ?_
    refine lv_sipush (v := 200) hx hb dX11_measure_9 (by decide) ?_
    refine vp_callSi (va_runS (As := [.int p1, .int 1, .int 200]) (rest := []) ⟨hx, hb, hml, hown, hts⟩ (x_isWithin l dC dI p1 1 200) (va_cwS 3 hts gX11_measure_X11_isWithin rfl rfl rfl zh_X11_isWithin_30 ⟨Nat.le_of_ble_eq_true rfl, Nat.le_of_ble_eq_true rfl⟩) ⟨pw_fb, fun U hU hW => ⟨rfl, pw_to hU hW (hP.sub (ws' := []) [] rfl) (hK.sub (tys' := []) [] rfl) hN⟩⟩ rfl rfl hl.1 rfl (lv_room (Nat.le_of_ble_eq_true rfl)) dX11_measure_12 ⟨Nat.le_of_ble_eq_true rfl, Nat.le_of_ble_eq_true rfl⟩).run (fun r hw => ?_)
    rcases Bool.eq_false_or_eq_true (bw p1 1 200) with b_3 | b_3
    ·
      obtain rfl : r = 1 := b_t hw b_3
      refine lv_if_eq (tgt := 25) hx hb dX11_measure_15 (by decide) (fun c_4 => absurd c_4 (by decide)) (fun c_4 => ?_)
      refine lv_aload_n hx hb dX11_measure_18 rfl (lv_at hl 0 rfl) ?_
      obtain ⟨kk_5, hk_6⟩ := pl_at hI.2.1.1.1 hI.2.2.2.1.1
      refine va_get (D := (dC, dI)) (ci := 10) (v := .int (k 1)) (C := RX11) (T := TX11) (N := 9) hx hb hts zl_X11_measure_X11 hown hK hP kk_5 hk_6 rfl 5 (by decide) (hts (.fieldLink RX11 34 "PageOne" "actCount" "I") (zat q_wsX11_measure k_wsX11_measure 117 rfl (by decide +kernel))) (fun _ h9 => h9) rfl dX11_measure_19 ?_
      refine lv_if_le (tgt := 27) hx hb dX11_measure_22 (by decide) (fun c_7 => ?_) (fun c_7 => ?_)
      ·
        refine lv_aload_n hx hb dX11_measure_27 rfl (lv_at hl 0 rfl) ?_
        obtain ⟨kk_8, hk_9⟩ := pl_at hI.2.1.1.1 hI.2.2.2.1.1
        refine va_get (D := (dC, dI)) (ci := 10) (v := .ref (d 0)) (C := RX11) (T := TX11) (N := 9) hx hb hts zl_X11_measure_X11 hown hK hP kk_8 hk_9 rfl 0 (by decide) (hts (.fieldLink RX11 11 "PageOne" "pages" "[LPageOne$Sheet;") (zat q_wsX11_measure k_wsX11_measure 112 rfl (by decide +kernel))) (fun _ h9 => h9) rfl dX11_measure_28 ?_
        refine lv_iload_n hx hb dX11_measure_31 rfl (lv_at hl 1 rfl) ?_
        obtain ⟨g_10, hs_11, hg_12⟩ := x_pg hI hI.2.1.2.1
        obtain ⟨kk_13, hk_14⟩ := pl_at hI.2.1.2.1.1 hs_11
        refine va_aldq hx hb hK hP kk_13 2 hk_14 rfl (vin b_1 (by decide)) dX11_measure_32 ?_
        obtain ⟨b_15, hg_16, ht_17⟩ := hg_12 _ (vlt (vin b_1 (by decide)))
        rw [hg_16]
        refine W.eq (g2 := F0 m 33 ls [.ref b_15]) rfl ?_
        refine lv_iload_n hx hb dX11_measure_33 rfl (lv_at hl 2 rfl) ?_
        obtain ⟨la_18, ca_19, m_20, dd_21, ii_22, hs_23, ht_24, ht_25⟩ := x_sh hI ht_17
        obtain ⟨kk_26, hk_27⟩ := pl_at ht_17.1 hs_23
        have hD0 := hD
        refine va_put (D := (dC, dI)) (ci := 8) (v := .int p1) (ty := .int) (C := RX9) (T := TX9) (N := 5) hx hb hts zl_X11_measure_X9 tyX9 tyX9_ok nmX9 hown hK hP hD hS kk_26 hk_27 rfl 2 (by decide) (hts (.fieldLink RX11 63 "PageOne$Sheet" "measure" "I") (zat q_wsX11_measure k_wsX11_measure 94 rfl (by decide +kernel))) (fun _ h9 => h9) rfl (tyX9_ok 2 (by decide)) rfl rfl (Nat.le_of_ble_eq_true rfl) dX11_measure_34 (fun H locs hP hD hS => ?_)
        rw [pl_set hD0 ht_17.1 hs_23 hk_27] at hP hD
        obtain ⟨f_28, ef_28⟩ : ∃ y : xF, y = va_up f b_15 (.inr (8, [.ref la_18, .ref ca_19, .int p1, .int dd_21, .int ii_22])) := ⟨_, rfl⟩
        have hI : xI q h0 d k z f_28 := by rw [ef_28]; exact x_up hI ht_17 (by decide) (cO_7 ht_17.2 ⟨_, _, _, _, _, rfl, ht_24, ht_25⟩)
        have hP : va_P (dC, dI) vwCl (va_pl z.1 f_28) H := by rw [ef_28]; exact hP
        have hD : va_D A (va_pl z.1 f_28) := by rw [ef_28]; exact hD
        refine lv_iconst (v := 1) hx hb dX11_measure_37 (by decide) ?_
        exact W.zret (v := 1) hx hb hr (by decide) (fun t ht hW => ⟨⟨1, (k, z, f_28), rfl, ⟨(by show f_28 (d 3) = f (d 3); rw [ef_28]; exact up_o (tg_nq hI.2.1.2.2.2.2.1 ht_17 (by decide))), rfl, rfl, hI, by show _ ∧ rep q d _ z f_28; rw [ef_28]; exact measure_y hrp b_1 b_3 (by rw [← hk1]; exact c_7) hbr hs_11 hg_16 hs_23⟩, by rw [ht]; exact hP, hD⟩, hS.F ht⟩) hS.2.2 dX11_measure_38
      ·
        refine lv_iconst (v := 0) hx hb dX11_measure_25 (by decide) ?_
        exact W.zret (v := 0) hx hb hr (by decide) (fun t ht hW => ⟨⟨0, (k, z, f), rfl, ⟨rfl, rfl, rfl, hI, by rw [(measure_0 (fun h9 => c_7 (by rw [hk1]; exact h9.2.2)))], by rw [(measure_0 (fun h9 => c_7 (by rw [hk1]; exact h9.2.2)))]; exact hrp⟩, by rw [ht]; exact hP, hD⟩, hS.F ht⟩) hS.2.2 dX11_measure_26
    ·
      obtain rfl : r = 0 := b_f hw b_3
      refine lv_if_eq (tgt := 25) hx hb dX11_measure_15 (by decide) (fun c_29 => ?_) (fun c_29 => absurd (by decide) c_29)
      refine lv_iconst (v := 0) hx hb dX11_measure_25 (by decide) ?_
      exact W.zret (v := 0) hx hb hr (by decide) (fun t ht hW => ⟨⟨0, (k, z, f), rfl, ⟨rfl, rfl, rfl, hI, by rw [(measure_0 (fun h9 => bne b_3 h9.2.1))], by rw [(measure_0 (fun h9 => bne b_3 h9.2.1))]; exact hrp⟩, by rw [ht]; exact hP, hD⟩, hS.F ht⟩) hS.2.2 dX11_measure_26
  ·
    obtain rfl : r = 0 := b_f hw b_1
    refine lv_if_eq (tgt := 25) hx hb dX11_measure_4 (by decide) (fun c_30 => ?_) (fun c_30 => absurd (by decide) c_30)
    refine lv_iconst (v := 0) hx hb dX11_measure_25 (by decide) ?_
    exact W.zret (v := 0) hx hb hr (by decide) (fun t ht hW => ⟨⟨0, (k, z, f), rfl, ⟨rfl, rfl, rfl, hI, by rw [(measure_0 (fun h9 => bne b_1 h9.1))], by rw [(measure_0 (fun h9 => bne b_1 h9.1))]; exact hrp⟩, by rw [ht]; exact hP, hD⟩, hS.F ht⟩) hS.2.2 dX11_measure_26
/-- the class's acts are the reference's -/
def acL (z : gS) (d : Nat → Nat) (g : Nat → Option Nat) : List hE → Prop
  | [] => True
  | e :: es => (∃ a, g es.length = some a ∧ acE z d a e) ∧ acL z d g es
/-- class and reference stand alike -/
def RR (q : Nat → ClassId) (h0 : Nat) (d : Nat → Nat) (k : Nat → Int32) (z : gS) (f : xF) (u : mS) : Prop := xI q h0 d k z f ∧ rep q d u z f ∧ (k 0 = u.1 3 ∧ k 1 = u.1 28 ∧ k 2 = u.1 38 ∧ k 3 = u.1 39) ∧ (z.2 h0).2.1 = 0 ∧ ∃ es c g, uI u es c ∧ f (d 3) = aR (q 4) 300 g ∧ acL z d g es
def itL (n : Nat) : List hE → Prop
  | [] => True
  | e :: es => ((e.1 ≠ 3 → e.1 ≠ 2 → e.2.1 < n) ∧ (e.1 = 3 → ∀ x, x ∈ e.2.2.2 → x.1 < n)) ∧ itL n es
theorem xG_it {n : Nat} {kd : Nat → Int32} {c : cfg} : ∀ {xs : List fX}, xG n kd c xs → ∀ x, x ∈ xs → x.1 < n
  | [], _, x, hx => absurd hx List.not_mem_nil
  | y :: xs, h, x, hx => by
    rcases List.mem_cons.mp hx with q | q
    · rw [q]; exact h.2.1
    · exact xG_it h.1 x q
theorem gH_it {u : mS} : ∀ {es : List hE} {c : cfg} {G : Nat → Int32}, gH u es c G → itL (u.1 3).toNatClampNeg es
  | [], _, _, _ => trivial
  | e :: es, c, G, h => by
    obtain ⟨-, -, -, h4, -, c1, G1, h6, h7, -⟩ := h
    refine ⟨⟨h4, fun q x hx => ?_⟩, gH_it h6⟩
    rcases h7 with z | z | z | z
    · exact absurd (z.1.symm.trans q) (by decide)
    · exact absurd (z.1.symm.trans q) (by decide)
    · exact absurd (z.1.symm.trans q) (by decide)
    · exact xG_it z.2.2 x hx
theorem acS_E {z w : gS} (hEz : zE z w) {a p : Nat} {l n : Int32} {ah : Option Nat} (h : acS z a p l n ah) : acS w a p l n ah := ⟨zE_tg hEz h.1, by rw [zE_o hEz h.1.1]; exact h.2⟩
theorem acF_d {z w : gS} {d d2 : Nat → Nat} {n : Nat} (hEz : zE z w) (hd : ∀ j, j < n → d2 (2000 + j) = d (2000 + j)) : ∀ {xs : List fX} {o : Option Nat}, (∀ x, x ∈ xs → x.1 < n) → acF z d o xs → acF w d2 o xs
  | [], _, _, h => h
  | x :: xs, _, hx, ⟨a, pp, ah, h1, h2, h3, h4⟩ => ⟨a, pp, ah, h1, acS_E hEz h2, by rw [hd x.1 (hx x List.mem_cons_self)]; exact zE_pc hEz h3, acF_d hEz hd (fun y hy => hx y (List.mem_cons_of_mem _ hy)) h4⟩
theorem acE_d {z w : gS} {d d2 : Nat → Nat} {n a : Nat} {e : hE} (hEz : zE z w) (hd : ∀ j, j < n → d2 (2000 + j) = d (2000 + j)) (hi : (e.1 ≠ 3 → e.1 ≠ 2 → e.2.1 < n) ∧ (e.1 = 3 → ∀ x, x ∈ e.2.2.2 → x.1 < n)) (h : acE z d a e) : acE w d2 a e := by
  rcases h with ⟨q, pp, h1, h2⟩ | ⟨q, pp, h1, h2⟩ | ⟨q, pp, h1, h2⟩ | ⟨q, h1⟩
  · exact Or.inl ⟨q, pp, acS_E hEz h1, by rw [hd _ (hi.1 (by omega) (by omega))]; exact zE_pc hEz h2⟩
  · exact Or.inr (Or.inl ⟨q, pp, acS_E hEz h1, by rw [hd _ (hi.1 (by omega) (by omega))]; exact zE_pc hEz h2⟩)
  · exact Or.inr (Or.inr (Or.inl ⟨q, pp, acS_E hEz h1, zE_pc hEz h2⟩))
  · exact Or.inr (Or.inr (Or.inr ⟨q, acF_d hEz hd (hi.2 q) h1⟩))
theorem acL_m {z w : gS} {d d2 : Nat → Nat} {n : Nat} {g g2 : Nat → Option Nat} (hEz : zE z w) (hd : ∀ j, j < n → d2 (2000 + j) = d (2000 + j)) : ∀ {es : List hE}, (∀ t, t < es.length → g2 t = g t) → itL n es → acL z d g es → acL w d2 g2 es
  | [], _, _, _ => trivial
  | e :: es, hg, hi, h => by
    obtain ⟨⟨a, a1, a2⟩, h2⟩ := h
    exact ⟨⟨a, (hg es.length (by rw [List.length_cons]; omega)).trans a1, acE_d hEz hd hi.1 a2⟩, acL_m hEz hd (fun t ht => hg t (by rw [List.length_cons]; omega)) hi.2 h2⟩
theorem acE_tg {z : gS} {d : Nat → Nat} {a : Nat} {e : hE} (h : acE z d a e) : tg z a 23 := by
  rcases h with ⟨q, pp, h1, h2⟩ | ⟨q, pp, h1, h2⟩ | ⟨q, pp, h1, h2⟩ | ⟨q, h1⟩
  · exact h1.1
  · exact h1.1
  · exact h1.1
  · revert h1
    cases e.2.2.2 with
    | nil => intro h1; exact absurd h1 (fun z => by cases z)
    | cons x xs =>
      rintro ⟨a2, pp, ah, h1, h2, -⟩
      rw [Option.some.inj h1]; exact h2.1
theorem hz_E {z w : gS} {q : Nat → ClassId} {h0 : Nat} {d : Nat → Nat} {k : Nat → Int32} {f : xF} (hI : xI q h0 d k z f) (hEz : zE z w) (h : (z.2 h0).2.1 = 0) : (w.2 h0).2.1 = 0 := by
  rw [zE_o hEz hI.2.1.1.1]; exact h
theorem zE_eq {z w : gS} (h : w = z) : zE z w := fun a ha => by rw [h]; exact ⟨ha, rfl⟩
/-- nothing is kept anew: the acts stay -/
theorem RR_st {q : Nat → ClassId} {h0 : Nat} {d d2 : Nat → Nat} {k : Nat → Int32} {z : gS} {f : xF} {u : mS} {w : xU} {u9 : mS} {es : List hE} {c : cfg} {g : Nat → Option Nat} (hI0 : xI q h0 d k z f) (hz : (z.2 h0).2.1 = 0) (hu : uI u es c) (hg : f (d 3) = aR (q 4) 300 g) (hL : acL z d g es) (hEz : zE z w.2.1) (hI : xI q h0 d2 w.1 w.2.1 w.2.2) (hrp : rep q d2 u9 w.2.1 w.2.2) (hk : w.1 0 = u9.1 3 ∧ w.1 1 = u9.1 28 ∧ w.1 2 = u9.1 38 ∧ w.1 3 = u9.1 39) (hd3 : w.2.2 (d 3) = f (d 3)) (hdd : d2 3 = d 3) (hdi : ∀ j, j < (u.1 3).toNatClampNeg → d2 (2000 + j) = d (2000 + j)) (hu9 : uI u9 es c) : RR q h0 d2 w.1 w.2.1 w.2.2 u9 := ⟨hI, hrp, hk, hz_E hI0 hEz hz, es, c, g, hu9, by rw [hdd, hd3]; exact hg, acL_m hEz hdi (fun _ _ => rfl) (gH_it hu.2.2.2.1) hL⟩
/-- the small writers -/
theorem step_small {q : Nat → ClassId} {h0 : Nat} {d : Nat → Nat} {k : Nat → Int32} {z : gS} {f : xF} {u : mS} {w : xU} {r : Int32} {R9 : Int32 × mS} (h : RR q h0 d k z f u) (hx : w.2.2 (d 3) = f (d 3) ∧ w.1 = k ∧ w.2.1 = z ∧ xI q h0 d k z w.2.2 ∧ r = R9.1 ∧ rep q d R9.2 z w.2.2) (h1 : R9.2.1 = u.1) (hu9 : ∀ es c, uI u es c → uI R9.2 es c) : r = R9.1 ∧ RR q h0 d w.1 w.2.1 w.2.2 R9.2 := by
  obtain ⟨hI, hrp, hk, hz, es, c, g, hu, hg, hL⟩ := h
  obtain ⟨x1, x2, x3, x4, x5, x6⟩ := hx
  refine ⟨x5, RR_st hI hz hu hg hL (zE_eq x3) (by rw [x2, x3]; exact x4) (by rw [x3]; exact x6) (by rw [x2, h1]; exact hk) x1 rfl (fun _ _ => rfl) (hu9 es c hu)⟩
theorem line_1 (u : mS) (i x : Int32) : (mLine u i x).2.1 = u.1 := by
  unfold mLine
  repeat' split
  all_goals rfl
theorem size_1 (u : mS) (i x y : Int32) : (mSize u i x y).2.1 = u.1 := by
  unfold mSize
  repeat' split
  all_goals rfl
theorem names_1 (u : mS) (i x : Int32) : (mNames u i x).2.1 = u.1 := by
  unfold mNames
  repeat' split
  all_goals rfl
theorem rival_1 (u : mS) (i x : Int32) : (mRival u i x).2.1 = u.1 := by
  unfold mRival
  repeat' split
  all_goals rfl
theorem column_1 (u : mS) (i x y : Int32) : (mColumn u i x y).2.1 = u.1 := by
  unfold mColumn
  repeat' split
  all_goals rfl
theorem measure_1 (u : mS) (i x : Int32) : (mMeasure u i x).2.1 = u.1 := by
  unfold mMeasure
  repeat' split
  all_goals rfl
/-- the makers -/
theorem step_mk {q : Nat → ClassId} {h0 : Nat} {d : Nat → Nat} {k : Nat → Int32} {z : gS} {f : xF} {u : mS} {w : xU} {r : Int32} {R9 : Int32 × mS} (h : RR q h0 d k z f u) (hx : mkP q h0 d k z f u R9 r w) (h1 : ∀ j, j ≠ 3 → R9.2.1 j = u.1 j) (hu9 : ∀ es c, uI u es c → uI R9.2 es c) : r = R9.1 ∧ ∃ d2, RR q h0 d2 w.1 w.2.1 w.2.2 R9.2 := by
  obtain ⟨hI, hrp, hk, hz, es, c, g, hu, hg, hL⟩ := h
  obtain ⟨d2, x1, x2, x3, x4, x5, x6, x7, x8, x9⟩ := hx
  refine ⟨x5, d2, RR_st hI hz hu hg hL x3 x4 x6 ⟨x7, ?_, ?_, ?_⟩ x9 (x1 3 (by decide)) (fun j hj => (x2 j hj).1) (hu9 es c hu)⟩
  · rw [x8 1 (by decide), h1 28 (by decide)]; exact hk.2.1
  · rw [x8 2 (by decide), h1 38 (by decide)]; exact hk.2.2.1
  · rw [x8 3 (by decide), h1 39 (by decide)]; exact hk.2.2.2
theorem made_o {u : mS} {k : Int32} {j : Nat} (h : j ≠ 3) : (mMade u k).1 j = u.1 j := by rw [made_1, if_neg h]
theorem story_1 (u : mS) (n : Int32) {j : Nat} (h : j ≠ 3) : (mStory u n).2.1 j = u.1 j := by
  unfold mStory
  repeat' split
  all_goals first | rfl | exact made_o h
theorem head_1 (u : mS) (a b c : Int32) {j : Nat} (h : j ≠ 3) : (mHead u a b c).2.1 j = u.1 j := by
  unfold mHead
  repeat' split
  all_goals first | rfl | exact made_o h
theorem picture_1 (u : mS) {j : Nat} (h : j ≠ 3) : (mPicture u).2.1 j = u.1 j := by
  unfold mPicture
  repeat' split
  all_goals first | rfl | exact made_o h
theorem filler_1 (u : mS) (a b : Int32) {j : Nat} (h : j ≠ 3) : (mFiller u a b).2.1 j = u.1 j := by
  unfold mFiller
  repeat' split
  all_goals first | rfl | exact made_o h
theorem paid_1 (u : mS) (b p x l y z m : Int32) {j : Nat} (h : j ≠ 3) : (mPaid u b p x l y z m).2.1 j = u.1 j := by
  unfold mPaid
  repeat' split
  all_goals first | rfl | exact made_o h
theorem notice_1 (u : mS) (a b : Int32) {j : Nat} (h : j ≠ 3) : (mNoticeX u a b).2.1 j = u.1 j := by
  unfold mNoticeX
  repeat' split
  all_goals first | rfl | exact made_o h
/-- edition -/
theorem step_ed {q : Nat → ClassId} {h0 : Nat} {d : Nat → Nat} {k : Nat → Int32} {z : gS} {f : xF} {u : mS} {w : xU} {r r2 : Int32} {u9 : mS} (h : RR q h0 d k z f u) (hx : edP q h0 d k z f u r w) (hm : (r2, u9) = mEdition u) (h40 : ∀ p, p < 12 → u.2 40 p = 0 ∨ u.2 40 p = 1) : r = r2 ∧ RR q h0 d w.1 w.2.1 w.2.2 u9 := by
  obtain ⟨hI, hrp, hk, hz, es, c, g, hu, hg, hL⟩ := h
  have he := (clE_e hu.1 hu.2.2.2.2.2.1 (uI_fi hu) h40 12 (Nat.le_refl _)).1
  have hu9 := uI_edition hu
  have hed := hu.2.2.2.2.2.2.2.2.2.2
  obtain ⟨e1, e2⟩ := Prod.mk.inj hm
  rw [← eqP (mEdition u)] at hm
  obtain ⟨m1, m2⟩ := Prod.mk.inj hm
  rw [← m2] at hu9
  have hup : mEdition u = if u.1 39 = 7 then (-1, u) else ((mset (endP u 12) 39 ((endP u 12).1 39 + 1)).1 39, mset (endP u 12) 39 ((endP u 12).1 39 + 1)) := rfl
  rcases hx with ⟨x1, x2, x3⟩ | ⟨x1, x2, x3, x4, x5, x6, x7⟩
  · have h7 : u.1 39 = 7 := (ed_7 hed).1.mp (by rw [← hk.2.2.2]; exact x1)
    rw [hup, if_pos h7] at m1 m2
    rw [m1, x2, m2, x3]
    exact ⟨rfl, hI, hrp, hk, hz, es, c, g, hu, hg, hL⟩
  · have h7 : ¬ u.1 39 = 7 := fun q => (ed_7 hed).1.mpr q (by rw [← hk.2.2.2]; exact x1)
    have ep := endP_k u 12
    rw [hup, if_neg h7] at m1 m2
    generalize endP u 12 = v at m1 m2 he ep
    have w1 : ∀ j, j ≠ 39 → u9.1 j = u.1 j := fun j q => by rw [m2]; show (if j = 39 then _ else v.1 j) = _; rw [if_neg q, ep.1]
    have w39 : u9.1 39 = u.1 39 + 1 := by rw [m2]; show (mset v 39 (v.1 39 + 1)).1 39 = _; rw [mset_same, ep.1]
    refine ⟨?_, RR_st hI hz hu hg hL (zE_eq x4) (by rw [x4]; exact x5) ?_ ?_ x7 rfl (fun _ _ => rfl) hu9⟩
    · rw [x2, m1, hk.2.2.2]
      show _ = (mset v 39 (v.1 39 + 1)).1 39
      rw [mset_same, ep.1]
    · rw [x4]
      rw [he] at x6
      exact rep_rows x6 (by rw [w1 3 (by decide), ep.1]) (fun r _ => by rw [m2]; rfl)
    · rw [x3]
      refine ⟨?_, ?_, ?_, ?_⟩
      · rw [w1 3 (by decide)]; exact hk.1
      · rw [w1 28 (by decide)]; exact hk.2.1
      · rw [w1 38 (by decide)]; exact hk.2.2.1
      · rw [w39, ← hk.2.2.2]; rfl
theorem step_dy {q : Nat → ClassId} {h0 : Nat} {d : Nat → Nat} {k : Nat → Int32} {z : gS} {f : xF} {u : mS} {w : xU} {r r2 : Int32} {u9 : mS} (h : RR q h0 d k z f u) (hx : dyP q h0 d k z f u r w) (hm : (r2, u9) = mDay u) (h40 : ∀ p, p < 12 → u.2 40 p = 0 ∨ u.2 40 p = 1) : r = r2 ∧ RR q h0 d w.1 w.2.1 w.2.2 u9 := by
  obtain ⟨hI, hrp, hk, hz, es, c, g, hu, hg, hL⟩ := h
  have he := (clE_e hu.1 hu.2.2.2.2.2.1 (uI_fi hu) h40 12 (Nat.le_refl _)).1
  have hdy := uI_day hu
  have hup : mDay u = if u.1 38 = 399 then (-1, u) else ((dayS (endP u 12) (u.1 3).toNatClampNeg).1 38, dayS (endP u 12) (u.1 3).toNatClampNeg) := rfl
  have m2 : u9 = (mDay u).2 := by rw [← hm]
  have m1 : r2 = (mDay u).1 := by rw [← hm]
  rcases hx with ⟨x1, x2, x3⟩ | ⟨x1, x2, x3, x4, x5, x6, g9, x7⟩
  · have h7 : u.1 38 = 399 := (dy_399 hu.1.2.1).mp (by rw [← hk.2.2.1]; exact x1)
    rw [hup, if_pos h7] at m1 m2
    rw [m1, x2, m2, x3]
    exact ⟨rfl, hI, hrp, hk, hz, es, c, g, hu, hg, hL⟩
  · have h7 : ¬ u.1 38 = 399 := fun q => (dy_399 hu.1.2.1).mpr q (by rw [← hk.2.2.1]; exact x1)
    rcases hdy with ⟨q, -⟩ | ⟨-, d1, d2⟩
    · exact absurd q h7
    · rw [← m2] at d2
      rw [d1] at m2
      have ep := endP_k u 12
      rw [hup, if_neg h7] at m1
      have e3 : (endP u 12).1 3 = u.1 3 := by rw [ep.1]
      generalize endP u 12 = v at m1 m2 he ep e3
      obtain ⟨s1, s2, s3, s4, s5⟩ := dayS_1 v (u.1 3).toNatClampNeg
      refine ⟨?_, by rw [x4]; exact x5, ?_, ?_, by rw [x4]; exact hz, [], fun _ => [], g9, d2, x7, trivial⟩
      · rw [x2, m1, hk.2.2.1]
        show _ = (dayS v (u.1 3).toNatClampNeg).1 38
        rw [s3, ep.1]
      · rw [x4, m2]
        rw [he] at x6
        have z9 := rep_dayS x6
        rw [e3] at z9
        exact z9
      · rw [x3, m2, s5, s1, s3, s4, ep.1]
        refine ⟨hk.1, rfl, ?_, rfl⟩
        rw [← hk.2.2.1]; rfl
theorem s1_ne {x : Int32} (h : bw x 0 300 = true) : ¬ x + 1 = x := fun e => by
  have h1 := bw_iff.mp h
  have h3 : (300 : Int32).toInt = 300 := rfl
  rw [i0, h3] at h1
  have e2 := congrArg Int32.toInt e
  rw [addI (by rw [i1]; omega) (by rw [i1]; omega), i1] at e2
  omega
/-- a call that keeps no act -/
theorem act_no {q : Nat → ClassId} {h0 : Nat} {d : Nat → Nat} {k : Nat → Int32} {z : gS} {f : xF} {u : mS} {w : xU} {R9 : Int32 × mS} {E : hE → Prop} {r : Int32} {u9 : mS} (h : RR q h0 d k z f u) (hx : actP q h0 d k z f R9 E r w) (h28 : R9.2.1 28 = u.1 28) (hrp9 : rep q d u9 w.2.1 w.2.2) (h9 : u9.1 3 = u.1 3 ∧ u9.1 28 = u.1 28 ∧ u9.1 38 = u.1 38 ∧ u9.1 39 = u.1 39) (hu9 : ∀ es c, uI u es c → uI u9 es c) : RR q h0 d w.1 w.2.1 w.2.2 u9 := by
  obtain ⟨hI, hrp, hk, hz, es, c, g, hu, hg, hL⟩ := h
  obtain ⟨x1, x2, x3, x4, x5, x6, x7⟩ := hx
  have hd3 : w.2.2 (d 3) = f (d 3) := by
    rcases x7 with ⟨y, -⟩ | ⟨g2, a, e, y1, y2, y3, -⟩
    · exact y
    · exact absurd (by rw [← y3, x6, h28, hk.2.1]) (s1_ne hI.1.2.1)
  refine RR_st hI hz hu hg hL x1 x2 hrp9 ⟨?_, ?_, ?_, ?_⟩ hd3 rfl (fun _ _ => rfl) (hu9 es c hu)
  · rw [x5 0 (by decide), h9.1]; exact hk.1
  · rw [x6, h28, h9.2.1]
  · rw [x5 2 (by decide), h9.2.2.1]; exact hk.2.2.1
  · rw [x5 3 (by decide), h9.2.2.2]; exact hk.2.2.2
/-- a call that keeps one more act -/
theorem act_ye {q : Nat → ClassId} {h0 : Nat} {d : Nat → Nat} {k : Nat → Int32} {z : gS} {f : xF} {u : mS} {w : xU} {R9 : Int32 × mS} {E : hE → Prop} {r : Int32} {u9 : mS} {e9 : hE} (h : RR q h0 d k z f u) (hx : actP q h0 d k z f R9 E r w) (h28 : R9.2.1 28 = u.1 28 + 1) (hE9 : ∀ e, E e → e = e9) (hrp9 : rep q d u9 w.2.1 w.2.2) (h9 : u9.1 3 = u.1 3 ∧ u9.1 28 = u.1 28 + 1 ∧ u9.1 38 = u.1 38 ∧ u9.1 39 = u.1 39) (hu9 : ∀ es c, uI u es c → ∃ c2, uI u9 (e9 :: es) c2) : RR q h0 d w.1 w.2.1 w.2.2 u9 := by
  obtain ⟨hI, hrp, hk, hz, es, c, g, hu, hg, hL⟩ := h
  obtain ⟨x1, x2, x3, x4, x5, x6, x7⟩ := hx
  obtain ⟨c2, hu2⟩ := hu9 es c hu
  rcases x7 with ⟨y, y2⟩ | ⟨g2, a, e, y1, y2, y3, y4, y5⟩
  · exact absurd (by rw [hk.2.1, ← h28, ← x6, y2, hk.2.1]) (s1_ne hI.1.2.1)
  · have eg : g2 = g := (aR_inj (y1.symm.trans hg)).2
    have ek : (k 1).toNatClampNeg = es.length := by rw [hk.2.1]; exact len28 hu.2.2.1
    rw [hE9 e y5] at y4
    rw [eg, ek] at y2
    refine ⟨x2, hrp9, ⟨?_, ?_, ?_, ?_⟩, hz_E hI x1 hz, e9 :: es, c2, va_up g es.length (some a), hu2, y2, ⟨a, if_pos rfl, y4⟩, acL_m x1 (fun _ _ => rfl) (fun t ht => if_neg (by omega)) (gH_it hu.2.2.2.1) hL⟩
    · rw [x5 0 (by decide), h9.1]; exact hk.1
    · rw [x6, h28, h9.2.1]
    · rw [x5 2 (by decide), h9.2.2.1]; exact hk.2.2.1
    · rw [x5 3 (by decide), h9.2.2.2]; exact hk.2.2.2
theorem acts28 {u : mS} {a b c d e f g : Int32} : (mActs u a b c d e f g).1 28 = u.1 28 + 1 := by rw [mActs_1, if_pos rfl]
theorem acts_o {u : mS} {a b c d e f g : Int32} {j : Nat} (h : j ≠ 28) : (mActs u a b c d e f g).1 j = u.1 j := by rw [mActs_1, if_neg h]
/-- rule -/
theorem step_rule {q : Nat → ClassId} {h0 : Nat} {d : Nat → Nat} {k : Nat → Int32} {z : gS} {f : xF} {u : mS} {w : xU} {p0 p1 p2 r r2 : Int32} {u9 : mS} (h : RR q h0 d k z f u) (hx : actP q h0 d k z f (mRule u p0 p1 p2) (fun e => ∃ P2 X2 Y2, e = (2, 0, (P2, X2, Y2, 1, 1), []) ∧ p0 = nI P2 ∧ p1 = nI X2 ∧ p2 = nI Y2 ∧ P2 < 12 ∧ X2 < 8 ∧ Y2 < 60) r w) (hm : (r2, u9) = mRule u p0 p1 p2) : r = r2 ∧ RR q h0 d w.1 w.2.1 w.2.2 u9 := by
  have e1 : r2 = (mRule u p0 p1 p2).1 := by rw [← hm]
  have e2 : u9 = (mRule u p0 p1 p2).2 := by rw [← hm]
  refine ⟨by rw [e1]; exact hx.2.2.1, ?_⟩
  have hrp9 : rep q d u9 w.2.1 w.2.2 := by rw [e2]; exact hx.2.2.2.1
  by_cases hc : mCell u p0 p1 p2 = true ∧ u.2 2 (480 * p0 + 60 * p1 + p2).toNatClampNeg = (-2) ∧ ¬ u.1 28 = 300
  · have em : mRule u p0 p1 p2 = (1, mActs (mst u 2 (480 * p0 + 60 * p1 + p2) 100) 2 p0 p1 p2 0 0 0) := by
      unfold mRule
      rw [if_pos hc.1, if_pos hc.2.1, if_neg hc.2.2]
    rw [em] at e2 hx
    have e2 : u9 = mActs (mst u 2 (480 * p0 + 60 * p1 + p2) 100) 2 p0 p1 p2 0 0 0 := e2
    obtain ⟨hI, hrp, hk, hz, es0, c0, g0, hu0, -⟩ := id h
    obtain ⟨q1, q2, q3⟩ := mCell_c hc.1
    obtain ⟨P, hP, -, eP⟩ := exN q1 (by decide)
    obtain ⟨X, hX, -, eX⟩ := exN q2 (by decide)
    obtain ⟨Y, hY, eY⟩ := exL hu0.1.2.2.1 hc.1
    have h11 : (11 : Int32).toInt = 11 := rfl
    have h7 : (7 : Int32).toInt = 7 := rfl
    subst eP eX eY
    refine act_ye (e9 := (2, 0, (P, X, Y, 1, 1), [])) h hx acts28 (fun e ⟨P2, X2, Y2, a1, a2, a3, a4, a5, a6, a7⟩ => ?_) hrp9 ?_ (fun es c hu => ⟨c, ?_⟩)
    · rw [a1, (nI_inj (by omega) (by omega)).mp a2, (nI_inj (by omega) (by omega)).mp a3, (nI_inj (by omega) (by omega)).mp a4]
    · rw [e2]
      exact ⟨acts_o (by decide), acts28, acts_o (by decide), acts_o (by decide)⟩
    · rw [e2]
      have hcel := (mC_cel hu.1 (by omega) (by omega) (by omega)).mp hc.1
      exact uI_rule hu hc.2.2 (by omega) hcel.1 hcel.2 (by rw [← ix_c (by omega) (by omega) hY]; exact hc.2.1)
  · have em : (mRule u p0 p1 p2).2 = u := by
      unfold mRule
      by_cases a : mCell u p0 p1 p2 = true
      · rw [if_pos a]
        by_cases b : u.2 2 (480 * p0 + 60 * p1 + p2).toNatClampNeg = (-2)
        · rw [if_pos b]
          by_cases e : u.1 28 = 300
          · rw [if_pos e]
          · exact absurd ⟨a, b, e⟩ hc
        · rw [if_neg b]
      · rw [if_neg a]
    rw [em] at e2
    exact act_no h hx (by rw [em]) hrp9 (by rw [e2]; exact ⟨rfl, rfl, rfl, rfl⟩) (fun es c hu => by rw [e2]; exact hu)
/-- lift -/
theorem step_lift {q : Nat → ClassId} {h0 : Nat} {d : Nat → Nat} {k : Nat → Int32} {z : gS} {f : xF} {u : mS} {w : xU} {p0 r r2 : Int32} {u9 : mS} {P X Y D N : Nat} (h : RR q h0 d k z f u) (hx : actP q h0 d k z f (mLift u p0 P X Y D N) (fun e => e = (1, p0.toNatClampNeg, (P, X, Y, D, N), [])) r w) (hA : lfA u p0 P X Y D N) (hm : (r2, u9) = mLift u p0 P X Y D N) : r = r2 ∧ RR q h0 d w.1 w.2.1 w.2.2 u9 := by
  have e1 : r2 = (mLift u p0 P X Y D N).1 := by rw [← hm]
  have e2 : u9 = (mLift u p0 P X Y D N).2 := by rw [← hm]
  refine ⟨by rw [e1]; exact hx.2.2.1, ?_⟩
  have hrp9 : rep q d u9 w.2.1 w.2.2 := by rw [e2]; exact hx.2.2.2.1
  by_cases hc : bw p0 0 (u.1 3 - 1) = true ∧ ¬ u.2 22 p0.toNatClampNeg = 0 ∧ ¬ u.1 28 = 300
  · obtain ⟨hI, hrp, hk, hz, es0, c0, g0, hu0, -⟩ := id h
    have hn := n80 hu0.1
    obtain ⟨a, ea, ha, -⟩ := itN hu0.1 hc.1
    obtain ⟨hin, f1, f2, f3, f4, f5⟩ := hA hc.1 hc.2.1
    subst ea
    rw [nI_clamp (n := a) (by omega)] at f1 f2 f3 f4 f5 hc hx
    have em : (mLift u (nI a) P X Y D N).2 = mUnstand (mActs u 1 (nI a) (nI P) (nI X) (nI Y) (nI D) (nI N)) (nI a) P X Y D N := by
      unfold mLift
      rw [if_pos hc.1, nI_clamp (n := a) (by omega), if_neg hc.2.1, if_neg hc.2.2]
      dsimp only
      rw [add_sub1, f1, f2, f3, f4, f5]
    have key : ∀ es c, uI u es c → ∃ l, c a = (P, X, Y, D, N) :: l := fun es c hu => by
      have g := uI_g hu
      have ec := g.2.2.2.1 a (by omega)
      cases hl : c a with
      | nil =>
        rw [hl] at ec
        exact absurd ec.1 hc.2.1
      | cons s l =>
        refine ⟨l, ?_⟩
        rw [hl, List.length_cons] at ec
        have h6 := g.2.2.2.2.2 a
        rw [hl, List.length_cons] at h6
        have ks := (g.2.2.1 a s (by rw [hl]; exact List.mem_cons_self)).1
        rw [ec.1, dn_e (by omega), Nat.add_sub_cancel, ix6, nI_clamp (by omega)] at f1 f2 f3 f4 f5
        rw [slE_u (r := s) (s := (P, X, Y, D, N)) ks ⟨hin.1, hin.2.1, hin.2.2.2.1, hin.2.2.1, hin.2.2.2.2.1⟩ ec.2.1 ⟨f1, f2, f3, f4, f5⟩]
    refine act_ye (e9 := (1, a, (P, X, Y, D, N), [])) h hx (by rw [em]; exact acts28) (fun e q => q) hrp9 ?_ (fun es c hu => ?_)
    · rw [e2, em, mUnstand_1]
      exact ⟨acts_o (by decide), acts28, acts_o (by decide), acts_o (by decide)⟩
    · obtain ⟨l, hl⟩ := key es c hu
      rw [e2, em]
      exact ⟨_, uI_lift hu hc.2.2 ha hl⟩
  · have em : (mLift u p0 P X Y D N).2 = u := by
      unfold mLift
      by_cases a : bw p0 0 (u.1 3 - 1) = true
      · rw [if_pos a]
        by_cases b : u.2 22 p0.toNatClampNeg = 0
        · rw [if_pos b]
        · rw [if_neg b]
          by_cases e : u.1 28 = 300
          · rw [if_pos e]
          · exact absurd ⟨a, b, e⟩ hc
      · rw [if_neg a]
    rw [em] at e2
    exact act_no h hx (by rw [em]) hrp9 (by rw [e2]; exact ⟨rfl, rfl, rfl, rfl⟩) (fun es c hu => by rw [e2]; exact hu)
/-- fill -/
theorem step_fill {q : Nat → ClassId} {h0 : Nat} {d : Nat → Nat} {k : Nat → Int32} {z : gS} {f : xF} {u : mS} {w : xU} {p0 r r2 : Int32} {u9 : mS} (h : RR q h0 d k z f u) (hx : flP q h0 d k z f u p0 r w) (hm : flX u p0 r2 u9) : r = r2 ∧ RR q h0 d w.1 w.2.1 w.2.2 u9 := by
  rcases hx with ⟨x1, x2, x3⟩ | ⟨x1, x2, v, xs, x3, x4⟩
  · rcases hm with ⟨-, m2, m3⟩ | ⟨m1, m2, -⟩
    · rw [x2, m2, x3, m3]; exact ⟨rfl, h⟩
    · rcases x1 with q | q
      · exact absurd m1 q
      · exact absurd q m2
  · rcases hm with ⟨m1, -⟩ | ⟨-, -, vc, ys, m3, m4, m5, m6⟩
    · rcases m1 with q | q
      · exact absurd x1 q
      · exact absurd q x2
    · have e := m3.symm.trans x3
      obtain ⟨ev, ex⟩ := Prod.mk.inj e
      subst ev ex
      obtain ⟨hI, hrp, hk, hz, es0, c0, g0, hu0, -⟩ := id h
      obtain ⟨P, hP, -, eP⟩ := exN x1 (by decide)
      have h11 : (11 : Int32).toInt = 11 := rfl
      have hPc : p0.toNatClampNeg = P := by rw [eP, nI_clamp (by omega)]
      rw [hPc] at m3
      obtain ⟨f0, f2, f3, f4⟩ := flN_Q hu0.1 (P := P) (by omega) 8 (Nat.le_refl _)
      rw [m3] at f0 f2 f3 f4
      have ek := fillR_k u ys
      rcases m6 with ⟨y1, y2, y3⟩ | ⟨y1, y2, y3⟩
      · rcases x4 with ⟨-, x5⟩ | ⟨z1, -⟩
        · have ev : rep q d u w.2.1 w.2.2 := by
            rw [y1] at m4
            exact rep_rows x5.2.2.2.1 (congrFun m4.1 3) (fun r hr => m4.2 r (by omega))
          rw [y2, y3]
          have h28 : vc.1 28 = u.1 28 := by rw [← m4.1, ek.1]
          exact ⟨x5.2.2.1, act_no h x5 h28 ev ⟨rfl, rfl, rfl, rfl⟩ (fun _ _ hu => hu)⟩
        · exact absurd y1 z1
      · rcases x4 with ⟨z1, -⟩ | ⟨-, x5⟩
        · exact absurd z1 y1
        · rw [y2, y3]
          have h1 : ∀ j, vc.1 j = u.1 j := fun j => by rw [← m4.1, ek.1]
          have f1 : ∀ j, j ≠ 28 → j ≠ 36 → (mFillE u ys).1 j = u.1 j := fun j j1 j2 => by
            unfold mFillE mset
            dsimp only
            rw [if_neg j2, mActs_1, if_neg j1, ek.1]
          have f28 : (mFillE u ys).1 28 = u.1 28 + 1 := by
            unfold mFillE mset
            dsimp only
            rw [if_neg (by decide), mActs_1, if_pos rfl, ek.1]
          refine ⟨x5.2.2.1, act_ye (e9 := (3, 0, (0, 0, 0, 0, 0), ys)) h x5 (by rw [acts28, h1]) (fun e q => q) ?_ ⟨f1 3 (by decide) (by decide), f28, f1 38 (by decide) (by decide), f1 39 (by decide) (by decide)⟩ (fun es c hu => ⟨_, uI_fill hu x2 m5 f3 f4⟩)⟩
          refine rep_rows x5.2.2.2.1 ?_ (fun r hr => ?_)
          · rw [f1 3 (by decide) (by decide), acts_o (by decide), h1]
          · unfold mFillE
            rw [mset_2, mActs_k _ _ _ _ _ _ _ _ (by omega), mActs_k _ _ _ _ _ _ _ _ (by omega)]
            exact m4.2 r (by omega)
theorem free_G {u : mS} {P X Y D N : Nat} (r : rI u) (hP : P < 12) (hX : X + D ≤ 8) (hY : Y + N ≤ 60) (h : mFreeP u (nI P) (nI X) (nI Y) (nI D) (nI N)) : (∀ j, inR (P, X, Y, D, N) j → u.2 2 j = (-2)) ∧ (1 ≤ D → 1 ≤ N → rIn u P X Y D N) := by
  obtain ⟨h1, h2, h3, h4⟩ := h
  rw [nI_clamp (n := D) (by omega), nI_clamp (n := N) (by omega)] at h4
  have cl : ∀ a, a < D → ∀ b, b < N → cel u P (X + a) (Y + b) ∧ u.2 2 (480 * P + 60 * (X + a) + (Y + b)) = (-2) := fun a ha b hb => by
    have z := h4 a ha b hb
    unfold frB at z
    obtain ⟨z1, z2⟩ := band z
    rw [nI_add, nI_add] at z1
    rw [nI_add, nI_add, ix_c hP (by omega) (by omega)] at z2
    exact ⟨(mC_cel r hP (by omega) (by omega)).mp z1, of_decide_eq_true z2⟩
  refine ⟨fun j ⟨a, b, ha, hb, e⟩ => ?_, fun hD hN => ⟨hP, hX, hD, hY, hN, fun a ha => ?_⟩⟩
  · rw [e]; exact (cl a ha b hb).2
  · have z := (cl a ha (N - 1) (by omega)).1.2
    omega
/-- what the class's maySit answers is what the reference asks -/
theorem stV_sit {u : mS} {es : List hE} {c : cfg} {i : Nat} {p1 p2 p3 p4 v : Int32} (h : uI u es c) (hi : i < (u.1 3).toNatClampNeg) (hk : 0 ≤ u.2 4 i ∧ u.2 4 i ≤ 5) (hrm : rmP u i) (hf : mFreeP u p1 p2 p3 (cpW u i p4) (cpH u i p4)) (hs : stV u i p1 p2 p3 (cpW u i p4) (cpH u i p4) v) : ¬ v = 0 ↔ sitP u i p1 p2 p3 (cpH u i p4) := by
  have hn := n80 h.1
  have g := uI_g h
  obtain ⟨s0, s3, s5, s1⟩ := hs
  have h6 := g.2.2.2.2.2 i
  have ec := cnt_e g (i := i) (by omega)
  unfold sitP
  have hkk : u.2 4 i = 0 ∨ u.2 4 i = 3 ∨ u.2 4 i = 5 ∨ (u.2 4 i = 1 ∨ u.2 4 i = 2 ∨ u.2 4 i = 4) := by
    have a := hk.1
    have b := hk.2
    rw [i32_le] at a b
    have e5 : (5 : Int32).toInt = 5 := rfl
    rw [i0] at a
    rw [e5] at b
    rcases (by omega : (u.2 4 i).toInt = 0 ∨ (u.2 4 i).toInt = 1 ∨ (u.2 4 i).toInt = 2 ∨ (u.2 4 i).toInt = 3 ∨ (u.2 4 i).toInt = 4 ∨ (u.2 4 i).toInt = 5) with z | z | z | z | z | z
    · exact Or.inl (Int32.toInt_inj.mp z)
    · exact Or.inr (Or.inr (Or.inr (Or.inl (Int32.toInt_inj.mp z))))
    · exact Or.inr (Or.inr (Or.inr (Or.inr (Or.inl (Int32.toInt_inj.mp z)))))
    · exact Or.inr (Or.inl (Int32.toInt_inj.mp z))
    · exact Or.inr (Or.inr (Or.inr (Or.inr (Or.inr (Int32.toInt_inj.mp z)))))
    · exact Or.inr (Or.inr (Or.inl (Int32.toInt_inj.mp z)))
  rcases hkk with k0 | k0 | k0 | k0
  · obtain ⟨gw, hg, hv⟩ := s0 k0
    rw [cpW_0 (Or.inl k0)] at hf hv
    obtain ⟨P, X, Y, D, N, eP, eX, eY, eD, eN, hP, hX, hY, hD, hN⟩ := free_rect h.1.2.2.1 hf
    have hl : (c i).length ≤ 5 := by
      unfold rmP at hrm
      rw [if_pos k0, ec] at hrm
      omega
    have eD : D = 1 := ((nI_inj (by omega) (by omega)).mp (show nI 1 = nI D from eD)).symm
    rw [eN] at hv
    rw [hv, eP, eX, eY, eN, nI_clamp (n := P) (by omega), nI_clamp (n := X) (by omega), nI_clamp (n := Y) (by omega), nI_clamp (n := N) (by omega)]
    have key := sit_run (X := X) h.1 h.2.2.1.2.2.2.2.2 (uI_ok h) (by omega) hl hP (by omega) hY hN hg
    rw [key]
    exact ⟨fun z => ⟨fun _ => z, fun q => absurd (k0.symm.trans q) (by decide), fun q => absurd (k0.symm.trans q) (by decide)⟩, fun z => z.1 k0⟩
  · rw [s3 k0]
    unfold s_sitP s_startsWith
    constructor
    · intro z
      refine ⟨fun q => absurd (k0.symm.trans q) (by decide), fun _ => ?_, fun q => absurd (k0.symm.trans q) (by decide)⟩
      by_cases a : p1 = u.2 11 i
      · rw [if_pos a] at z
        by_cases b : p2 = u.2 12 i
        · rw [if_pos b] at z
          by_cases e : p3 = u.2 13 i
          · exact ⟨a, b, e⟩
          · rw [if_neg e] at z; exact absurd rfl z
        · rw [if_neg b] at z; exact absurd rfl z
      · rw [if_neg a] at z; exact absurd rfl z
    · rintro ⟨-, z, -⟩
      obtain ⟨a, b, e⟩ := z k0
      rw [if_pos a, if_pos b, if_pos e]; decide
  · obtain ⟨o, g5, gm, ho, e9, hg5, hgm, hv⟩ := s5 k0
    rw [hv, sit_mend h.1 h.2.2.2.2.2.2.2.2.1 (by omega) ho e9 hg5 hgm]
    exact ⟨fun z => ⟨fun q => absurd (k0.symm.trans q) (by decide), fun q => absurd (k0.symm.trans q) (by decide), fun _ => z⟩, fun z => z.2.2 k0⟩
  · rw [s1 k0]
    refine ⟨fun _ => ⟨fun q => ?_, fun q => ?_, fun q => ?_⟩, fun _ => by decide⟩
    · rcases k0 with e | e | e <;> exact absurd (e.symm.trans q) (by decide)
    · rcases k0 with e | e | e <;> exact absurd (e.symm.trans q) (by decide)
    · rcases k0 with e | e | e <;> exact absurd (e.symm.trans q) (by decide)
theorem bhd_all {l : List fR} {r q : fR} (h : bhd r q) (hp : List.Pairwise bhd (q :: l)) : ∀ s, s ∈ q :: l → bhd r s := fun s hs => by
  rcases List.mem_cons.mp hs with e | e
  · rw [e]; exact h
  · exact bhd_tr h ((List.pairwise_cons.mp hp).1 s e)
/-- what a put that is let leaves of the invariant -/
theorem put_uI {u : mS} {es : List hE} {c : cfg} {i P X Y D N : Nat} {p4 : Int32} (h : uI u es c) (hi : i < (u.1 3).toNatClampNeg) (h3 : ¬ u.1 28 = 300) (hrm : rmP u i) (hP : P < 12) (hX : X + D ≤ 8) (hY : Y + N ≤ 60) (hD : 1 ≤ D) (hN : 1 ≤ N) (hf : mFreeP u (nI P) (nI X) (nI Y) (nI D) (nI N)) (eW : cpW u i p4 = nI D) (eH : cpH u i p4 = nI N) (hs : sitP u i (nI P) (nI X) (nI Y) (nI N)) : uI (mActs (mStand u (nI i) P X Y D N) 0 (nI i) 0 0 0 0 0) ((0, i, (P, X, Y, D, N), []) :: es) (cPush c i (P, X, Y, D, N)) := by
  have hn := n80 h.1
  have g := uI_g h
  have hok := uI_ok h
  obtain ⟨hG, hin⟩ := free_G h.1 hP hX hY hf
  have ec := cnt_e g (i := i) (by omega)
  have h6 := g.2.2.2.2.2 i
  have hr : rOK (P, X, Y, D, N) := ⟨hP, hX, hY, hD, hN⟩
  by_cases k0 : u.2 4 i = 0
  · have hl : (c i).length ≤ 5 := by
      unfold rmP at hrm
      rw [if_pos k0, ec] at hrm
      omega
    rw [cpW_0 (Or.inl k0)] at eW
    have eD : D = 1 := ((nI_inj (by omega) (by omega)).mp (show nI 1 = nI D from eW)).symm
    subst eD
    have hrun := hs.1 k0
    rw [nI_clamp (n := P) (by omega), nI_clamp (n := X) (by omega), nI_clamp (n := Y) (by omega), nI_clamp (n := N) (by omega)] at hrun
    obtain ⟨r1, r2, r3, -, -⟩ := hrun
    have e22 := (g.2.2.2.1 i (by omega)).1
    have usl := (g.2.2.2.1 i (by omega)).2
    rw [nI_clamp (n := i) (by omega), e22] at r3
    have hw := cM_stand (a := i) (by omega) hl (fun b => (hok b).2.1) h.2.2.1.2.2.2.2.2 P X Y 1 N
    obtain ⟨w22, wsl⟩ := hw i (by omega)
    rw [cPush_a] at w22 wsl
    rw [List.length_cons] at w22
    have hlg := runG_l (by omega) hl hr (hok i).2.2.1 wsl w22 (hok i).2.2.2.1 r3
    refine uI_put h h3 hi (hin hD hN) hG hl hlg (fun q => absurd k0 q) (fun _ => ⟨rfl, ?_⟩) (fun q => absurd (k0.symm.trans q) (by decide))
    have hpw := ((gH_cX h.2.2.2.1) i hi).2.2.1 k0
    cases hL : c i with
    | nil => intro s hs; exact absurd hs List.not_mem_nil
    | cons q l =>
      rw [hL] at hpw usl e22 hl h6
      rw [List.length_cons] at e22 hl h6
      refine bhd_all ?_ hpw.2
      have kq := (g.2.2.1 i q (by rw [hL]; exact List.mem_cons_self)).1
      unfold bhR at r2
      rw [nI_clamp (n := i) (by omega), e22] at r2
      rcases r2 with z | z
      · rw [i32_le, nI_toInt (by omega), i0] at z; omega
      · unfold bhK at z
        obtain ⟨m1, m2, m3, m4, m5⟩ := kq
        rw [add_sub1, dn_e (by omega), Nat.add_sub_cancel, ix6, nI_clamp (by omega), usl.1.1, usl.1.2.1, usl.1.2.2.1, usl.1.2.2.2.2, nI_add, i32_lt, i32_lt, i32_lt, nI_inj (a := P) (b := q.1) (by omega) (by omega), nI_inj (a := X) (b := q.2.1) (by omega) (by omega), nI_toInt (n := P) (by omega), nI_toInt (n := q.1) (by omega), nI_toInt (n := X) (by omega), nI_toInt (n := q.2.1) (by omega), nI_toInt (n := Y) (by omega), nI_toInt (n := q.2.2.1 + q.2.2.2.2) (by omega)] at z
        unfold bhd
        show q.1 < P ∨ (q.1 = P ∧ (q.2.1 < X ∨ (q.2.1 = X ∧ q.2.2.1 + q.2.2.2.2 ≤ Y)))
        omega
  · have hl : c i = [] := by
      unfold rmP at hrm
      rw [if_neg k0, ec] at hrm
      exact List.length_eq_zero_iff.mp (by omega)
    refine uI_put h h3 hi (hin hD hN) hG (by rw [hl]; exact Nat.zero_le _) (by rw [hl]; exact lg_one hr) (fun _ => hl) (fun q => absurd q k0) (fun k3 => ?_)
    exact ((hs.2.1 k3).1).symm
/-- put -/
theorem step_put {q : Nat → ClassId} {h0 : Nat} {d : Nat → Nat} {k : Nat → Int32} {z : gS} {f : xF} {u : mS} {w : xU} {p0 p1 p2 p3 p4 r r2 W H : Int32} {u9 : mS} {ok : Prop} (h : RR q h0 d k z f u) (hx : putP q h0 d k z f u p0 p1 p2 p3 p4 r w) (hok0 : ok → bw p0 0 (u.1 3 - 1) = true) (hok : ∀ i, p0 = nI i → i < (u.1 3).toNatClampNeg → (ok ↔ okU u i p1 p2 p3 p4)) (hWH : ∀ i, p0 = nI i → i < (u.1 3).toNatClampNeg → ok → W = cpW u i p4 ∧ H = cpH u i p4) (hm : rPut u p0 p1 p2 p3 W H ok r2 u9) : r = r2 ∧ RR q h0 d w.1 w.2.1 w.2.2 u9 := by
  obtain ⟨hI, hrp, hk, hz, es0, c0, g0, hu0, -⟩ := id h
  have hn := n80 hu0.1
  rcases hx with ⟨hno, hx⟩ | ⟨i, P, X, Y, D, N, hye, hx⟩
  · have nok : ¬ ok := fun o => by
      obtain ⟨i, ei, hi, -⟩ := itN hu0.1 (hok0 o)
      obtain ⟨o1, o2, o3, o4⟩ := (hok i ei hi).mp o
      rcases hno with z | z | z | ⟨j, ej, hj, z⟩
      · exact z (hok0 o)
      · exact z (mCell_c o3.1).1
      · exact o1 z
      · have eij : j = i := (nI_inj (by omega) (by omega)).mp (ej.symm.trans ei)
        subst eij
        rcases z with z | z | z
        · exact z o2
        · exact z o3
        · have hk5 := (hrp.2.2.1.2 j hj).2.2.2.1
          exact (stV_sit hu0 hj hk5 o2 o3 z).mpr o4 rfl
    rcases hm with ⟨m1, -, m3⟩ | ⟨m1, -⟩
    · refine ⟨by rw [m1]; exact hx.2.2.1, ?_⟩
      rcases m3 with e | ⟨b1, P, X, Y, N, e1, e2, e3, hP, hX, hY, hN, hf, h6, e⟩
      · rw [e]
        exact act_no h hx rfl hx.2.2.2.1 ⟨rfl, rfl, rfl, rfl⟩ (fun _ _ hu => hu)
      · obtain ⟨i, ei, hi, -⟩ := itN hu0.1 b1
        subst ei
        rw [nI_clamp (n := i) (by omega)] at h6
        have hG := (free_G (D := 1) hu0.1 hP hX hY hf).1
        rw [e]
        refine act_no h hx rfl (rep_try hu0 hx.2.2.2.1 (by omega) (len5 hu0.2.2.1 (by omega) h6) hG) ⟨rfl, rfl, rfl, rfl⟩ (fun es c hu => uI_try hu (by omega) (len5 hu.2.2.1 (by omega) h6) hX hG)
    · exact absurd m1 nok
  · obtain ⟨y1, y2, y3, y4, y5, y6, y7, y8, y9, y10, y11, ⟨v, v1, v2⟩, y12⟩ := hye
    have hk5 := (hrp.2.2.1.2 i y2).2.2.2.1
    have hsit := (stV_sit hu0 y2 hk5 y10 y11 v2).mp v1
    have o : ok := (hok i y1 y2).mpr ⟨y8, y10, y11, hsit⟩
    obtain ⟨i1, i2, i3, i4, i5, i6⟩ := y9
    rcases hm with ⟨-, m2, -⟩ | ⟨-, m2, P', X', Y', D', N', e1, e2, e3, e4, e5, hP, hX, hY, hD, hN, m3⟩
    · exact absurd o m2
    · obtain ⟨w1, w2⟩ := hWH i y1 y2 o
      have eP : P' = P := (nI_inj (by omega) (by omega)).mp (e1.symm.trans y3)
      have eX : X' = X := (nI_inj (by omega) (by omega)).mp (e2.symm.trans y4)
      have eY : Y' = Y := (nI_inj (by omega) (by omega)).mp (e3.symm.trans y5)
      have eD : D' = D := (nI_inj (by omega) (by omega)).mp (e4.symm.trans (w1.trans y6))
      have eN : N' = N := (nI_inj (by omega) (by omega)).mp (e5.symm.trans (w2.trans y7))
      subst eP eX eY eD eN y1
      rw [y3, y4, y5, y6, y7] at y11
      have hG := (free_G hu0.1 hP hX hY y11).1
      have e9 : u9 = mActs (mStand u (nI i) P' X' Y' D' N') 0 (nI i) 0 0 0 0 0 := by
        rcases m3 with z | ⟨-, z⟩
        · exact z
        · rw [z, try_stand (by omega) (fun j ⟨a, b, ha, hb, ej⟩ => hG j ⟨a, b, by have ha : a < 1 := ha; show a < D'; omega, hb, ej⟩)]
      rw [nI_clamp (n := i) (by omega)] at m2
      refine ⟨by rw [m2]; exact hx.2.2.1, ?_⟩
      rw [y3, y4, y5, y7] at hsit
      refine act_ye (e9 := (0, i, (P', X', Y', D', N'), [])) h hx (by rw [acts28, mStand_1]) (fun e z => z) (by rw [e9]; exact hx.2.2.2.1) ?_ (fun es c hu => ⟨_, by rw [e9]; exact put_uI hu y2 y8 y10 hP hX hY hD hN y11 y6 y7 hsit⟩)
      rw [e9]
      exact ⟨acts_o (by decide), acts28, acts_o (by decide), acts_o (by decide)⟩
set_option maxHeartbeats 4000000 in
set_option maxRecDepth 100000 in
theorem o_put1 (l : Launch) (dC : Nat → ClassId) (dI : Nat → Nat → Nat) (h0 : Nat) (v : Nat → Nat) (cI cZ : ClassId) (u : mS) (p0 p1 p2 p3 p4 : Int32) (hn : bw (u.1 3) 0 80 = true) (hln : ∀ j, j < 96 → bw (u.2 0 j) 0 60 = true) (hd : bw (u.1 38) 0 399 = true) (ha : bw (u.1 28) 0 300 = true) (hpc : ∀ j, j < 80 → bw (u.2 22 j) 0 6 = true) (hcm : ∀ j, j < 80 → bw (u.2 15 j) 0 80 = true) (hsz : ∀ j, j < 80 → bw (u.2 17 j) 0 4 = true) (hfr : bw p0 0 79 = true → ∀ P X Y N : Nat, P < 12 → X + 1 ≤ 8 → 1 ≤ N → Y + N ≤ 60 → ¬ u.2 22 p0.toNatClampNeg = 6 → runG (mStand u p0 P X Y 1 N) p0 (u.2 22 p0.toNatClampNeg) → 0 ≤ (mFrom (mStand u p0 P X Y 1 N) p0 (u.2 22 p0.toNatClampNeg).toNatClampNeg).toInt ∧ (mFrom (mStand u p0 P X Y 1 N) p0 (u.2 22 p0.toNatClampNeg).toNatClampNeg).toInt ≤ 400 ∧ (mTakes (mStand u p0 P X Y 1 N) p0 (u.2 22 p0.toNatClampNeg)).toInt ≤ 60) (hK9 : bw p0 0 (u.1 3 - 1) = true → u.2 4 p0.toNatClampNeg = 1) (sz : Nat) : Met l yX12_put wsX12_put ({ frames := 4, cells := 0, slots := 0, locals := 106 }) (va_Pc [.ref h0, .int p0, .int p1, .int p2, .int p3, .int p4] (fun U => U.heap.size = sz ∧ PW dC dI (mW h0 v cI cZ u) [(cI, .int), (cZ, .boolean)] U ∧ va_D (fun _ => True) (mW h0 v cI cZ u))) (va_Qi (fun (r : Int32) (u9 : mS) => rPut u p0 p1 p2 p3 (u.2 7 p0.toNatClampNeg) (u.2 8 p0.toNatClampNeg) (okP1 u p0 p1 p2 p3 p4) r u9) (fun u9 t => va_P (dC, dI) vwCl (mW h0 v cI cZ u9) t.heap ∧ va_D (va_A (mW h0 v cI cZ u) sz) (mW h0 v cI cZ u9)) (va_A (mW h0 v cI cZ u) sz)) 0 0 (va_A (mW h0 v cI cZ u) sz) := by
  refine Met.ofW (cc := cX12_put) (maxL := 10) (ret := (some .int)) (by decide) rfl ?_
  intro p e s m args below meth c s₁ B hml hv
  obtain ⟨rfl, hsz, ⟨hP, hK, hN⟩, hD0⟩ := hv
  have hx := B.exec
  have hb := B.bytes
  have hr := B.returns
  have hts := atoms_spec (ws := wsX12_put) B.pre
  have hown : s.vm.findClass RX12 = some m.cls := findClass_of_methodNamed B.named
  have hlocks := B.notSynchronized
  subst hsz
  have hD := hD0.self (sz := s.heap.size)
  generalize hAe : va_A (mW h0 v cI cZ u) s.heap.size = A at hD ⊢
  have hA : ∀ q : Nat, s.heap.size ≤ q → A q := fun q h => by rw [← hAe]; exact Or.inr h
  have hS : va_S A s.heap s.heap [] := va_S.rf
  have hl := lv_entry ([.ref h0, .int p0, .int p1, .int p2, .int p3, .int p4]) (n := 10) (Nat.le_of_ble_eq_true rfl)
  rw [lg_entry_eq]
  generalize (lg_sl ([.ref h0, .int p0, .int p1, .int p2, .int p3, .int p4]) ++ List.replicate (10 - (lg_sl ([.ref h0, .int p0, .int p1, .int p2, .int p3, .int p4])).length) Slot.unset).toArray = ls at hl ⊢
  have hl : lv_has ls 10 [(0, .ref h0), (1, .int p0), (2, .int p1), (3, .int p2), (4, .int p3), (5, .int p4)] := hl
  refine lv_aload_n hx hb dX12_put_0 rfl (lv_at hl 0 rfl) ?_
  refine lv_iload_n hx hb dX12_put_1 rfl (lv_at hl 1 rfl) ?_
  refine vp_callSi (va_runV (As := [.int p0]) (rest := []) ⟨hx, hb, hml, hown, hts⟩ (m_isItem l dC dI h0 v cI cZ u p0) (cwV 1 hts gX12_put_X12_isItem rfl rfl rfl zh_X12_isItem_1 ⟨Nat.le_of_ble_eq_true rfl, Nat.le_of_ble_eq_true rfl⟩) ⟨pw_fb, va_recv hK hP (ci := 11) (q0 := 0) rfl rfl, fun U hU hW => ⟨rfl, pw_to hU hW hP hK hN⟩⟩ rfl rfl hl.1 rfl (lv_room (Nat.le_of_ble_eq_true rfl)) dX12_put_2 ⟨Nat.le_of_ble_eq_true rfl, Nat.le_of_ble_eq_true rfl⟩).run (fun r hw => ?_)
  rcases Bool.eq_false_or_eq_true (bw p0 0 (u.1 3 - 1)) with b_1 | b_1
  ·
    obtain rfl : r = 1 := b_t hw b_1
    refine lv_if_eq (tgt := 18) hx hb dX12_put_5 (by decide) (fun c_2 => absurd c_2 (by decide)) (fun c_2 => ?_)
    refine lv_aload_n hx hb dX12_put_8 rfl (lv_at hl 0 rfl) ?_
    refine va_get (D := (dC, dI)) (ci := 11) (v := .int (u.1 28)) (C := RX12) (T := TX12) (N := 52) hx hb hts zl_X12_put_X12 hown hK hP 0 rfl rfl 28 (by decide) (hts (.fieldLink RX12 158 "PageOneModel" "acts" "I") (zat q_wsX12_put k_wsX12_put 910 rfl (by decide +kernel))) (fun _ h9 => h9) rfl dX12_put_9 ?_
    refine lv_sipush (v := 300) hx hb dX12_put_12 (by decide) ?_
    refine lv_icmp_ne (tgt := 20) hx hb dX12_put_15 (by decide) (fun c_3 => ?_) (fun c_3 => ?_)
    ·
      refine lv_aload_n hx hb dX12_put_20 rfl (lv_at hl 0 rfl) ?_
      refine va_get (D := (dC, dI)) (ci := 11) (v := .ref (v 4)) (C := RX12) (T := TX12) (N := 52) hx hb hts zl_X12_put_X12 hown hK hP 0 rfl rfl 4 (by decide) (hts (.fieldLink RX12 19 "PageOneModel" "kind" "[I") (zat q_wsX12_put k_wsX12_put 886 rfl (by decide +kernel))) (fun _ h9 => h9) rfl dX12_put_21 ?_
      refine lv_iload_n hx hb dX12_put_24 rfl (lv_at hl 1 rfl) ?_
      refine va_iald hx hb hK hP 4 0 rfl rfl (vin (it79 hn b_1) (by decide)) dX12_put_25 ?_
      refine lv_topi (fun y_4 ey_4 => ?_)
      obtain rfl : y_4 = 1 := ey_4.trans (hK9 b_1)
      refine lv_istore (lv' := [(6, .int 1), (0, .ref h0), (1, .int p0), (2, .int p1), (3, .int p2), (4, .int p3), (5, .int p4)]) hx hb dX12_put_26 hl (by decide) rfl (fun ls hl => ?_)
      refine lv_iload hx hb dX12_put_28 (lv_at hl 0 rfl) ?_
      refine lv_iconst (v := 1) hx hb dX12_put_30 (by decide) ?_
      refine lv_icmp_eq (tgt := 40) hx hb dX12_put_31 (by decide) (fun c_5 => ?_) (fun c_5 => absurd (by decide) c_5)
      refine lv_aload_n hx hb dX12_put_40 rfl (lv_at hl 1 rfl) ?_
      refine va_get (D := (dC, dI)) (ci := 11) (v := .ref (v 7)) (C := RX12) (T := TX12) (N := 52) hx hb hts zl_X12_put_X12 hown hK hP 0 rfl rfl 7 (by decide) (hts (.fieldLink RX12 28 "PageOneModel" "wide" "[I") (zat q_wsX12_put k_wsX12_put 889 rfl (by decide +kernel))) (fun _ h9 => h9) rfl dX12_put_41 ?_
      refine lv_iload_n hx hb dX12_put_44 rfl (lv_at hl 2 rfl) ?_
      refine va_iald hx hb hK hP 7 0 rfl rfl (vin (it79 hn b_1) (by decide)) dX12_put_45 ?_
      refine lv_goto (tgt := 50) hx hb dX12_put_46 (by decide) ?_
      refine lv_istore (lv' := [(7, .int (u.2 7 (p0 : Int32).toNatClampNeg)), (6, .int 1), (0, .ref h0), (1, .int p0), (2, .int p1), (3, .int p2), (4, .int p3), (5, .int p4)]) hx hb dX12_put_50 hl (by decide) rfl (fun ls hl => ?_)
      refine lv_iload hx hb dX12_put_52 (lv_at hl 1 rfl) ?_
      refine lv_if_eq (tgt := 63) hx hb dX12_put_54 (by decide) (fun c_6 => absurd c_6 (by decide)) (fun c_6 => ?_)
      refine lv_iload hx hb dX12_put_57 (lv_at hl 1 rfl) ?_
      refine lv_iconst (v := 4) hx hb dX12_put_59 (by decide) ?_
      refine lv_icmp_ne (tgt := 68) hx hb dX12_put_60 (by decide) (fun c_7 => ?_) (fun c_7 => absurd c_7 (by decide))
      refine lv_aload_n hx hb dX12_put_68 rfl (lv_at hl 2 rfl) ?_
      refine va_get (D := (dC, dI)) (ci := 11) (v := .ref (v 8)) (C := RX12) (T := TX12) (N := 52) hx hb hts zl_X12_put_X12 hown hK hP 0 rfl rfl 8 (by decide) (hts (.fieldLink RX12 31 "PageOneModel" "high" "[I") (zat q_wsX12_put k_wsX12_put 890 rfl (by decide +kernel))) (fun _ h9 => h9) rfl dX12_put_69 ?_
      refine lv_iload_n hx hb dX12_put_72 rfl (lv_at hl 3 rfl) ?_
      refine va_iald hx hb hK hP 8 0 rfl rfl (vin (it79 hn b_1) (by decide)) dX12_put_73 ?_
      refine lv_istore (lv' := [(8, .int (u.2 8 (p0 : Int32).toNatClampNeg)), (7, .int (u.2 7 (p0 : Int32).toNatClampNeg)), (6, .int 1), (0, .ref h0), (1, .int p0), (2, .int p1), (3, .int p2), (4, .int p3), (5, .int p4)]) hx hb dX12_put_74 hl (by decide) rfl (fun ls hl => ?_)
      refine lv_iload hx hb dX12_put_76 (lv_at hl 2 rfl) ?_
      refine lv_iconst (v := 2) hx hb dX12_put_78 (by decide) ?_
      refine lv_icmp_ne (tgt := 127) hx hb dX12_put_79 (by decide) (fun c_8 => ?_) (fun c_8 => absurd c_8 (by decide))
      refine lv_iload hx hb dX12_put_127 (lv_at hl 2 rfl) ?_
      refine lv_if_eq (tgt := 149) hx hb dX12_put_129 (by decide) (fun c_9 => absurd c_9 (by decide)) (fun c_9 => ?_)
      refine lv_iload hx hb dX12_put_132 (lv_at hl 2 rfl) ?_
      refine lv_iconst (v := 4) hx hb dX12_put_134 (by decide) ?_
      refine lv_icmp_eq (tgt := 149) hx hb dX12_put_135 (by decide) (fun c_10 => absurd c_10 (by decide)) (fun c_10 => ?_)
      refine lv_iload hx hb dX12_put_138 (lv_at hl 2 rfl) ?_
      refine lv_iconst (v := 2) hx hb dX12_put_140 (by decide) ?_
      refine lv_icmp_eq (tgt := 149) hx hb dX12_put_141 (by decide) (fun c_11 => absurd c_11 (by decide)) (fun c_11 => ?_)
      refine lv_iload hx hb dX12_put_144 (lv_at hl 8 rfl) ?_
      refine lv_if_ne (tgt := 153) hx hb dX12_put_146 (by decide) (fun c_12 => ?_) (fun c_12 => ?_)
      ·
        refine lv_iconst (v := 0) hx hb dX12_put_153 (by decide) ?_
        refine lv_istore (lv' := [(9, .int 0), (8, .int (u.2 8 (p0 : Int32).toNatClampNeg)), (7, .int (u.2 7 (p0 : Int32).toNatClampNeg)), (6, .int 1), (0, .ref h0), (1, .int p0), (2, .int p1), (3, .int p2), (4, .int p3), (5, .int p4)]) hx hb dX12_put_154 hl (by decide) rfl (fun ls hl => ?_)
        refine lv_iload hx hb dX12_put_156 (lv_at hl 0 rfl) ?_
        refine lv_if_eq (tgt := 200) hx hb dX12_put_158 (by decide) (fun c_13 => ?_) (fun c_13 => absurd (by decide) c_13)
        refine lv_iconst (v := 0) hx hb dX12_put_200 (by decide) ?_
        refine lv_istore (lv' := [(9, .int 0), (8, .int (u.2 8 (p0 : Int32).toNatClampNeg)), (7, .int (u.2 7 (p0 : Int32).toNatClampNeg)), (6, .int 1), (0, .ref h0), (1, .int p0), (2, .int p1), (3, .int p2), (4, .int p3), (5, .int p4)]) hx hb dX12_put_201 hl (by decide) rfl (fun ls hl => ?_)
        refine lv_iload hx hb dX12_put_203 (lv_at hl 0 rfl) ?_
        refine lv_if_ne (tgt := 210) hx hb dX12_put_205 (by decide) (fun c_14 => absurd (by decide) c_14) (fun c_14 => ?_)
        refine lv_iconst (v := (-1)) hx hb dX12_put_208 (by decide) ?_
        exact W.iret (v := (-1)) hx hb hr (fun t ht hW => ⟨⟨(-1), u, rfl, (Or.inl ⟨rfl, (fun h => c_12 h.2.2.1), Or.inl rfl⟩), by rw [ht]; exact hP, hD⟩, hS.F ht⟩) hS.2.2 dX12_put_209
      ·
        refine lv_iconst (v := 1) hx hb dX12_put_149 (by decide) ?_
        refine lv_goto (tgt := 154) hx hb dX12_put_150 (by decide) ?_
        refine lv_istore (lv' := [(9, .int 1), (8, .int (u.2 8 (p0 : Int32).toNatClampNeg)), (7, .int (u.2 7 (p0 : Int32).toNatClampNeg)), (6, .int 1), (0, .ref h0), (1, .int p0), (2, .int p1), (3, .int p2), (4, .int p3), (5, .int p4)]) hx hb dX12_put_154 hl (by decide) rfl (fun ls hl => ?_)
        refine lv_iload hx hb dX12_put_156 (lv_at hl 0 rfl) ?_
        refine lv_if_eq (tgt := 200) hx hb dX12_put_158 (by decide) (fun c_15 => absurd c_15 (by decide)) (fun c_15 => ?_)
        refine lv_iload hx hb dX12_put_161 (lv_at hl 1 rfl) ?_
        refine lv_iconst (v := 1) hx hb dX12_put_163 (by decide) ?_
        refine lv_icmp_lt (tgt := 200) hx hb dX12_put_164 (by decide) (fun c_16 => ?_) (fun c_16 => ?_)
        ·
          refine lv_iconst (v := 0) hx hb dX12_put_200 (by decide) ?_
          refine lv_istore (lv' := [(9, .int 0), (8, .int (u.2 8 (p0 : Int32).toNatClampNeg)), (7, .int (u.2 7 (p0 : Int32).toNatClampNeg)), (6, .int 1), (0, .ref h0), (1, .int p0), (2, .int p1), (3, .int p2), (4, .int p3), (5, .int p4)]) hx hb dX12_put_201 hl (by decide) rfl (fun ls hl => ?_)
          refine lv_iload hx hb dX12_put_203 (lv_at hl 0 rfl) ?_
          refine lv_if_ne (tgt := 210) hx hb dX12_put_205 (by decide) (fun c_17 => absurd (by decide) c_17) (fun c_17 => ?_)
          refine lv_iconst (v := (-1)) hx hb dX12_put_208 (by decide) ?_
          exact W.iret (v := (-1)) hx hb hr (fun t ht hW => ⟨⟨(-1), u, rfl, (Or.inl ⟨rfl, (fun h => h.2.2.2.1 c_16), Or.inl rfl⟩), by rw [ht]; exact hP, hD⟩, hS.F ht⟩) hS.2.2 dX12_put_209
        ·
          refine lv_iload hx hb dX12_put_167 (lv_at hl 3 rfl) ?_
          refine lv_if_eq (tgt := 181) hx hb dX12_put_169 (by decide) (fun c_18 => absurd c_18 (by decide)) (fun c_18 => ?_)
          refine lv_aload_n hx hb dX12_put_172 rfl (lv_at hl 4 rfl) ?_
          refine va_get (D := (dC, dI)) (ci := 11) (v := .ref (v 22)) (C := RX12) (T := TX12) (N := 52) hx hb hts zl_X12_put_X12 hown hK hP 0 rfl rfl 22 (by decide) (hts (.fieldLink RX12 74 "PageOneModel" "pieces" "[I") (zat q_wsX12_put k_wsX12_put 904 rfl (by decide +kernel))) (fun _ h9 => h9) rfl dX12_put_173 ?_
          refine lv_iload_n hx hb dX12_put_176 rfl (lv_at hl 5 rfl) ?_
          refine va_iald hx hb hK hP 22 0 rfl rfl (vin (it79 hn b_1) (by decide)) dX12_put_177 ?_
          refine lv_if_ne (tgt := 200) hx hb dX12_put_178 (by decide) (fun c_19 => ?_) (fun c_19 => ?_)
          ·
            refine lv_iconst (v := 0) hx hb dX12_put_200 (by decide) ?_
            refine lv_istore (lv' := [(9, .int 0), (8, .int (u.2 8 (p0 : Int32).toNatClampNeg)), (7, .int (u.2 7 (p0 : Int32).toNatClampNeg)), (6, .int 1), (0, .ref h0), (1, .int p0), (2, .int p1), (3, .int p2), (4, .int p3), (5, .int p4)]) hx hb dX12_put_201 hl (by decide) rfl (fun ls hl => ?_)
            refine lv_iload hx hb dX12_put_203 (lv_at hl 0 rfl) ?_
            refine lv_if_ne (tgt := 210) hx hb dX12_put_205 (by decide) (fun c_20 => absurd (by decide) c_20) (fun c_20 => ?_)
            refine lv_iconst (v := (-1)) hx hb dX12_put_208 (by decide) ?_
            exact W.iret (v := (-1)) hx hb hr (fun t ht hW => ⟨⟨(-1), u, rfl, (Or.inl ⟨rfl, (fun h => c_19 h.2.2.2.2.1), Or.inl rfl⟩), by rw [ht]; exact hP, hD⟩, hS.F ht⟩) hS.2.2 dX12_put_209
          ·
            refine lv_aload_n hx hb dX12_put_181 rfl (lv_at hl 4 rfl) ?_
            refine lv_iload_n hx hb dX12_put_182 rfl (lv_at hl 6 rfl) ?_
            refine lv_iload_n hx hb dX12_put_183 rfl (lv_at hl 7 rfl) ?_
            refine lv_iload hx hb dX12_put_184 (lv_at hl 8 rfl) ?_
            refine lv_iload hx hb dX12_put_186 (lv_at hl 2 rfl) ?_
            refine lv_iload hx hb dX12_put_188 (lv_at hl 1 rfl) ?_
            refine vp_callSi (va_runV (As := [.int p1, .int p2, .int p3, .int (u.2 7 (p0 : Int32).toNatClampNeg), .int (u.2 8 (p0 : Int32).toNatClampNeg)]) (rest := []) ⟨hx, hb, hml, hown, hts⟩ (m_isFree l dC dI h0 v cI cZ u p1 p2 p3 (u.2 7 (p0 : Int32).toNatClampNeg) (u.2 8 (p0 : Int32).toNatClampNeg) hln) (cwV 5 hts gX12_put_X12_isFree rfl rfl rfl zh_X12_isFree_28 ⟨Nat.le_of_ble_eq_true rfl, Nat.le_of_ble_eq_true rfl⟩) ⟨pw_fb, va_recv hK hP (ci := 11) (q0 := 0) rfl rfl, fun U hU hW => ⟨rfl, pw_to hU hW hP hK hN⟩⟩ rfl rfl hl.1 rfl (lv_room (Nat.le_of_ble_eq_true rfl)) dX12_put_190 ⟨Nat.le_of_ble_eq_true rfl, Nat.le_of_ble_eq_true rfl⟩).run (fun r hw => ?_)
            have hit := b_1
            have hi := it79 hn hit
            have h300 := c_3
            rcases hw with ⟨hw, hfree⟩ | ⟨hw, hfree⟩
            ·
              subst hw
              have hfree0 := hfree
              obtain ⟨P, X, Y, D, N, eP, eX, eY, eD, eN, hPP, hXW, hYN, hDD1, hN1⟩ := free_rect hln hfree
              subst eP eX eY
              rw [eD] at hl
              rw [eN] at hl
              refine lv_if_eq (tgt := 200) hx hb dX12_put_193 (by decide) (fun c_21 => absurd c_21 (by decide)) (fun c_21 => ?_)
              refine lv_iconst (v := 1) hx hb dX12_put_196 (by decide) ?_
              refine lv_goto (tgt := 201) hx hb dX12_put_197 (by decide) ?_
              refine lv_istore (lv' := [(9, .int 1), (8, .int (nI N)), (7, .int (nI D)), (6, .int 1), (0, .ref h0), (1, .int p0), (2, .int (nI P)), (3, .int (nI X)), (4, .int (nI Y)), (5, .int p4)]) hx hb dX12_put_201 hl (by decide) rfl (fun ls hl => ?_)
              refine lv_iload hx hb dX12_put_203 (lv_at hl 0 rfl) ?_
              refine lv_if_ne (tgt := 210) hx hb dX12_put_205 (by decide) (fun c_22 => ?_) (fun c_22 => absurd c_22 (by decide))
              refine lv_iload hx hb dX12_put_210 (lv_at hl 3 rfl) ?_
              refine lv_tableIn (tgt := 343) (off := 131) hx hb dX12_put_212 (by decide) (by decide) (by decide) (by decide) ?_
              refine lv_iload hx hb dX12_put_343 (lv_at hl 0 rfl) ?_
              refine lv_if_ne (tgt := 350) hx hb dX12_put_345 (by decide) (fun c_23 => ?_) (fun c_23 => absurd c_23 (by decide))
              refine lv_aload_n hx hb dX12_put_350 rfl (lv_at hl 4 rfl) ?_
              refine lv_iload_n hx hb dX12_put_351 rfl (lv_at hl 5 rfl) ?_
              refine lv_iload_n hx hb dX12_put_352 rfl (lv_at hl 6 rfl) ?_
              refine lv_iload_n hx hb dX12_put_353 rfl (lv_at hl 7 rfl) ?_
              refine lv_iload hx hb dX12_put_354 (lv_at hl 8 rfl) ?_
              refine lv_iload hx hb dX12_put_356 (lv_at hl 2 rfl) ?_
              refine lv_iload hx hb dX12_put_358 (lv_at hl 1 rfl) ?_
              have hFc := fr_all hD hS hA
              refine va_callv (va_runV (As := [.int p0, .int (nI P), .int (nI X), .int (nI Y), .int (nI D), .int (nI N)]) (rest := []) ⟨hx, hb, hml, hown, hts⟩ (m_stand l dC dI h0 v cI cZ u p0 P X Y D N hPP hXW hYN hi (z05 c_19) s.heap.size) (cwV 6 hts gX12_put_X12_stand rfl rfl rfl zh_X12_stand_25 ⟨Nat.le_of_ble_eq_true rfl, Nat.le_of_ble_eq_true rfl⟩) ⟨gw_fb, va_recv hK hP (ci := 11) (q0 := 0) rfl rfl, fun U hU hW => ⟨rfl, by rw [hU], pw_to hU hW hP hK hN, hD.weaken (fun _ _ _ _ => trivial)⟩⟩ rfl rfl hl.1 rfl (lv_room (Nat.le_of_ble_eq_true rfl)) dX12_put_360 ⟨Nat.le_of_ble_eq_true rfl, Nat.le_of_ble_eq_true rfl⟩) hS (fun q _ h => hFc q h) hFc (fun u_24 t H1 locs ht hvm hw hB hz1 hk1 hS => ?_)
              obtain ⟨hP, hD1⟩ := hB
              rw [ht] at hP
              have hD := hD1.weaken (fun _ q _ h => hFc q.1 h)
              generalize H1 = H at hP hS ⊢
              have eu_24 := hw
              refine lv_aload_n hx hb dX12_put_363 rfl (lv_at hl 4 rfl) ?_
              refine lv_iconst (v := 0) hx hb dX12_put_364 (by decide) ?_
              refine lv_iload_n hx hb dX12_put_365 rfl (lv_at hl 5 rfl) ?_
              refine lv_iconst (v := 0) hx hb dX12_put_366 (by decide) ?_
              refine lv_iconst (v := 0) hx hb dX12_put_367 (by decide) ?_
              refine lv_iconst (v := 0) hx hb dX12_put_368 (by decide) ?_
              refine lv_iconst (v := 0) hx hb dX12_put_369 (by decide) ?_
              refine lv_iconst (v := 0) hx hb dX12_put_370 (by decide) ?_
              have hFc := fr_all hD hS hA
              refine va_callv (va_runV (As := [.int 0, .int p0, .int 0, .int 0, .int 0, .int 0, .int 0]) (rest := []) ⟨hx, hb, hml, hown, hts⟩ (m_acts l dC dI h0 v cI cZ u_24 0 p0 0 0 0 0 0 (by rw [eu_24]; show bw (u.1 28) 0 299 = true; exact v300 ha h300) H.size) (cwV 7 hts gX12_put_X12_acts rfl rfl rfl zh_X12_acts_10 ⟨Nat.le_of_ble_eq_true rfl, Nat.le_of_ble_eq_true rfl⟩) ⟨gw_fb, va_recv hK hP (ci := 11) (q0 := 0) rfl rfl, fun U hU hW => ⟨rfl, by rw [hU], pw_to hU hW hP hK hN, hD.weaken (fun _ _ _ _ => trivial)⟩⟩ rfl rfl hl.1 rfl (lv_room (Nat.le_of_ble_eq_true rfl)) dX12_put_371 ⟨Nat.le_of_ble_eq_true rfl, Nat.le_of_ble_eq_true rfl⟩) hS (fun q _ h => hFc q h) hFc (fun u_25 t H1 locs ht hvm hw hB hz1 hk1 hS => ?_)
              obtain ⟨hP, hD1⟩ := hB
              rw [ht] at hP
              have hD := hD1.weaken (fun _ q _ h => hFc q.1 h)
              generalize H1 = H at hP hS ⊢
              have eu_25 := hw
              refine lv_aload_n hx hb dX12_put_374 rfl (lv_at hl 4 rfl) ?_
              refine va_get (D := (dC, dI)) (ci := 11) (v := .ref (v 22)) (C := RX12) (T := TX12) (N := 52) hx hb hts zl_X12_put_X12 hown hK hP 0 rfl rfl 22 (by decide) (hts (.fieldLink RX12 74 "PageOneModel" "pieces" "[I") (zat q_wsX12_put k_wsX12_put 904 rfl (by decide +kernel))) (fun _ h9 => h9) rfl dX12_put_375 ?_
              refine lv_iload_n hx hb dX12_put_378 rfl (lv_at hl 5 rfl) ?_
              refine va_iald hx hb hK hP 22 0 rfl rfl (vin (it79 hn b_1) (by decide)) dX12_put_379 ?_
              exact W.iret (v := (u_25.2 22 (p0 : Int32).toNatClampNeg)) hx hb hr (fun t ht hW => ⟨⟨(u_25.2 22 (p0 : Int32).toNatClampNeg), u_25, rfl, (Or.inr ⟨⟨hit, h300, c_12, c_16, c_19, hfree0, trivial⟩, (by rw [eu_25, eu_24, putR]), P, X, Y, D, N, rfl, rfl, rfl, eD, eN, hPP, hXW, hYN, hDD1, hN1, (Or.inl (by rw [eu_25, eu_24]))⟩), by rw [ht]; exact hP, hD⟩, hS.F ht⟩) hS.2.2 dX12_put_380
            ·
              subst hw
              refine lv_if_eq (tgt := 200) hx hb dX12_put_193 (by decide) (fun c_26 => ?_) (fun c_26 => absurd (by decide) c_26)
              refine lv_iconst (v := 0) hx hb dX12_put_200 (by decide) ?_
              refine lv_istore (lv' := [(9, .int 0), (8, .int (u.2 8 (p0 : Int32).toNatClampNeg)), (7, .int (u.2 7 (p0 : Int32).toNatClampNeg)), (6, .int 1), (0, .ref h0), (1, .int p0), (2, .int p1), (3, .int p2), (4, .int p3), (5, .int p4)]) hx hb dX12_put_201 hl (by decide) rfl (fun ls hl => ?_)
              refine lv_iload hx hb dX12_put_203 (lv_at hl 0 rfl) ?_
              refine lv_if_ne (tgt := 210) hx hb dX12_put_205 (by decide) (fun c_27 => absurd (by decide) c_27) (fun c_27 => ?_)
              refine lv_iconst (v := (-1)) hx hb dX12_put_208 (by decide) ?_
              exact W.iret (v := (-1)) hx hb hr (fun t ht hW => ⟨⟨(-1), u, rfl, (Or.inl ⟨rfl, (fun h => hfree h.2.2.2.2.2.1), Or.inl rfl⟩), by rw [ht]; exact hP, hD⟩, hS.F ht⟩) hS.2.2 dX12_put_209
    ·
      refine lv_iconst (v := (-1)) hx hb dX12_put_18 (by decide) ?_
      exact W.iret (v := (-1)) hx hb hr (fun t ht hW => ⟨⟨(-1), u, rfl, (Or.inl ⟨rfl, (fun h => h.2.1 c_3), Or.inl rfl⟩), by rw [ht]; exact hP, hD⟩, hS.F ht⟩) hS.2.2 dX12_put_19
  ·
    obtain rfl : r = 0 := b_f hw b_1
    refine lv_if_eq (tgt := 18) hx hb dX12_put_5 (by decide) (fun c_28 => ?_) (fun c_28 => absurd (by decide) c_28)
    refine lv_iconst (v := (-1)) hx hb dX12_put_18 (by decide) ?_
    exact W.iret (v := (-1)) hx hb hr (fun t ht hW => ⟨⟨(-1), u, rfl, (Or.inl ⟨rfl, (fun h => bne b_1 h.1), Or.inl rfl⟩), by rw [ht]; exact hP, hD⟩, hS.F ht⟩) hS.2.2 dX12_put_19
set_option maxHeartbeats 4000000 in
set_option maxRecDepth 100000 in
theorem o_put2 (l : Launch) (dC : Nat → ClassId) (dI : Nat → Nat → Nat) (h0 : Nat) (v : Nat → Nat) (cI cZ : ClassId) (u : mS) (p0 p1 p2 p3 p4 : Int32) (hn : bw (u.1 3) 0 80 = true) (hln : ∀ j, j < 96 → bw (u.2 0 j) 0 60 = true) (hd : bw (u.1 38) 0 399 = true) (ha : bw (u.1 28) 0 300 = true) (hpc : ∀ j, j < 80 → bw (u.2 22 j) 0 6 = true) (hcm : ∀ j, j < 80 → bw (u.2 15 j) 0 80 = true) (hsz : ∀ j, j < 80 → bw (u.2 17 j) 0 4 = true) (hfr : bw p0 0 79 = true → ∀ P X Y N : Nat, P < 12 → X + 1 ≤ 8 → 1 ≤ N → Y + N ≤ 60 → ¬ u.2 22 p0.toNatClampNeg = 6 → runG (mStand u p0 P X Y 1 N) p0 (u.2 22 p0.toNatClampNeg) → 0 ≤ (mFrom (mStand u p0 P X Y 1 N) p0 (u.2 22 p0.toNatClampNeg).toNatClampNeg).toInt ∧ (mFrom (mStand u p0 P X Y 1 N) p0 (u.2 22 p0.toNatClampNeg).toNatClampNeg).toInt ≤ 400 ∧ (mTakes (mStand u p0 P X Y 1 N) p0 (u.2 22 p0.toNatClampNeg)).toInt ≤ 60) (hK9 : bw p0 0 (u.1 3 - 1) = true → u.2 4 p0.toNatClampNeg = 2) (sz : Nat) : Met l yX12_put wsX12_put ({ frames := 4, cells := 0, slots := 0, locals := 106 }) (va_Pc [.ref h0, .int p0, .int p1, .int p2, .int p3, .int p4] (fun U => U.heap.size = sz ∧ PW dC dI (mW h0 v cI cZ u) [(cI, .int), (cZ, .boolean)] U ∧ va_D (fun _ => True) (mW h0 v cI cZ u))) (va_Qi (fun (r : Int32) (u9 : mS) => rPut u p0 p1 p2 p3 (u.2 18 (4 * p0 + p4).toNatClampNeg) (u.2 19 (4 * p0 + p4).toNatClampNeg) (okP2 u p0 p1 p2 p3 p4) r u9) (fun u9 t => va_P (dC, dI) vwCl (mW h0 v cI cZ u9) t.heap ∧ va_D (va_A (mW h0 v cI cZ u) sz) (mW h0 v cI cZ u9)) (va_A (mW h0 v cI cZ u) sz)) 0 0 (va_A (mW h0 v cI cZ u) sz) := by
  refine Met.ofW (cc := cX12_put) (maxL := 10) (ret := (some .int)) (by decide) rfl ?_
  intro p e s m args below meth c s₁ B hml hv
  obtain ⟨rfl, hsz, ⟨hP, hK, hN⟩, hD0⟩ := hv
  have hx := B.exec
  have hb := B.bytes
  have hr := B.returns
  have hts := atoms_spec (ws := wsX12_put) B.pre
  have hown : s.vm.findClass RX12 = some m.cls := findClass_of_methodNamed B.named
  have hlocks := B.notSynchronized
  subst hsz
  have hD := hD0.self (sz := s.heap.size)
  generalize hAe : va_A (mW h0 v cI cZ u) s.heap.size = A at hD ⊢
  have hA : ∀ q : Nat, s.heap.size ≤ q → A q := fun q h => by rw [← hAe]; exact Or.inr h
  have hS : va_S A s.heap s.heap [] := va_S.rf
  have hl := lv_entry ([.ref h0, .int p0, .int p1, .int p2, .int p3, .int p4]) (n := 10) (Nat.le_of_ble_eq_true rfl)
  rw [lg_entry_eq]
  generalize (lg_sl ([.ref h0, .int p0, .int p1, .int p2, .int p3, .int p4]) ++ List.replicate (10 - (lg_sl ([.ref h0, .int p0, .int p1, .int p2, .int p3, .int p4])).length) Slot.unset).toArray = ls at hl ⊢
  have hl : lv_has ls 10 [(0, .ref h0), (1, .int p0), (2, .int p1), (3, .int p2), (4, .int p3), (5, .int p4)] := hl
  refine lv_aload_n hx hb dX12_put_0 rfl (lv_at hl 0 rfl) ?_
  refine lv_iload_n hx hb dX12_put_1 rfl (lv_at hl 1 rfl) ?_
  refine vp_callSi (va_runV (As := [.int p0]) (rest := []) ⟨hx, hb, hml, hown, hts⟩ (m_isItem l dC dI h0 v cI cZ u p0) (cwV 1 hts gX12_put_X12_isItem rfl rfl rfl zh_X12_isItem_1 ⟨Nat.le_of_ble_eq_true rfl, Nat.le_of_ble_eq_true rfl⟩) ⟨pw_fb, va_recv hK hP (ci := 11) (q0 := 0) rfl rfl, fun U hU hW => ⟨rfl, pw_to hU hW hP hK hN⟩⟩ rfl rfl hl.1 rfl (lv_room (Nat.le_of_ble_eq_true rfl)) dX12_put_2 ⟨Nat.le_of_ble_eq_true rfl, Nat.le_of_ble_eq_true rfl⟩).run (fun r hw => ?_)
  rcases Bool.eq_false_or_eq_true (bw p0 0 (u.1 3 - 1)) with b_1 | b_1
  ·
    obtain rfl : r = 1 := b_t hw b_1
    refine lv_if_eq (tgt := 18) hx hb dX12_put_5 (by decide) (fun c_2 => absurd c_2 (by decide)) (fun c_2 => ?_)
    refine lv_aload_n hx hb dX12_put_8 rfl (lv_at hl 0 rfl) ?_
    refine va_get (D := (dC, dI)) (ci := 11) (v := .int (u.1 28)) (C := RX12) (T := TX12) (N := 52) hx hb hts zl_X12_put_X12 hown hK hP 0 rfl rfl 28 (by decide) (hts (.fieldLink RX12 158 "PageOneModel" "acts" "I") (zat q_wsX12_put k_wsX12_put 910 rfl (by decide +kernel))) (fun _ h9 => h9) rfl dX12_put_9 ?_
    refine lv_sipush (v := 300) hx hb dX12_put_12 (by decide) ?_
    refine lv_icmp_ne (tgt := 20) hx hb dX12_put_15 (by decide) (fun c_3 => ?_) (fun c_3 => ?_)
    ·
      refine lv_aload_n hx hb dX12_put_20 rfl (lv_at hl 0 rfl) ?_
      refine va_get (D := (dC, dI)) (ci := 11) (v := .ref (v 4)) (C := RX12) (T := TX12) (N := 52) hx hb hts zl_X12_put_X12 hown hK hP 0 rfl rfl 4 (by decide) (hts (.fieldLink RX12 19 "PageOneModel" "kind" "[I") (zat q_wsX12_put k_wsX12_put 886 rfl (by decide +kernel))) (fun _ h9 => h9) rfl dX12_put_21 ?_
      refine lv_iload_n hx hb dX12_put_24 rfl (lv_at hl 1 rfl) ?_
      refine va_iald hx hb hK hP 4 0 rfl rfl (vin (it79 hn b_1) (by decide)) dX12_put_25 ?_
      refine lv_topi (fun y_4 ey_4 => ?_)
      obtain rfl : y_4 = 2 := ey_4.trans (hK9 b_1)
      refine lv_istore (lv' := [(6, .int 2), (0, .ref h0), (1, .int p0), (2, .int p1), (3, .int p2), (4, .int p3), (5, .int p4)]) hx hb dX12_put_26 hl (by decide) rfl (fun ls hl => ?_)
      refine lv_iload hx hb dX12_put_28 (lv_at hl 0 rfl) ?_
      refine lv_iconst (v := 1) hx hb dX12_put_30 (by decide) ?_
      refine lv_icmp_eq (tgt := 40) hx hb dX12_put_31 (by decide) (fun c_5 => absurd c_5 (by decide)) (fun c_5 => ?_)
      refine lv_iload hx hb dX12_put_34 (lv_at hl 0 rfl) ?_
      refine lv_iconst (v := 3) hx hb dX12_put_36 (by decide) ?_
      refine lv_icmp_ne (tgt := 49) hx hb dX12_put_37 (by decide) (fun c_6 => ?_) (fun c_6 => absurd c_6 (by decide))
      refine lv_iconst (v := 1) hx hb dX12_put_49 (by decide) ?_
      refine lv_istore (lv' := [(7, .int 1), (6, .int 2), (0, .ref h0), (1, .int p0), (2, .int p1), (3, .int p2), (4, .int p3), (5, .int p4)]) hx hb dX12_put_50 hl (by decide) rfl (fun ls hl => ?_)
      refine lv_iload hx hb dX12_put_52 (lv_at hl 1 rfl) ?_
      refine lv_if_eq (tgt := 63) hx hb dX12_put_54 (by decide) (fun c_7 => absurd c_7 (by decide)) (fun c_7 => ?_)
      refine lv_iload hx hb dX12_put_57 (lv_at hl 1 rfl) ?_
      refine lv_iconst (v := 4) hx hb dX12_put_59 (by decide) ?_
      refine lv_icmp_ne (tgt := 68) hx hb dX12_put_60 (by decide) (fun c_8 => ?_) (fun c_8 => absurd c_8 (by decide))
      refine lv_aload_n hx hb dX12_put_68 rfl (lv_at hl 2 rfl) ?_
      refine va_get (D := (dC, dI)) (ci := 11) (v := .ref (v 8)) (C := RX12) (T := TX12) (N := 52) hx hb hts zl_X12_put_X12 hown hK hP 0 rfl rfl 8 (by decide) (hts (.fieldLink RX12 31 "PageOneModel" "high" "[I") (zat q_wsX12_put k_wsX12_put 890 rfl (by decide +kernel))) (fun _ h9 => h9) rfl dX12_put_69 ?_
      refine lv_iload_n hx hb dX12_put_72 rfl (lv_at hl 3 rfl) ?_
      refine va_iald hx hb hK hP 8 0 rfl rfl (vin (it79 hn b_1) (by decide)) dX12_put_73 ?_
      refine lv_istore (lv' := [(8, .int (u.2 8 (p0 : Int32).toNatClampNeg)), (7, .int 1), (6, .int 2), (0, .ref h0), (1, .int p0), (2, .int p1), (3, .int p2), (4, .int p3), (5, .int p4)]) hx hb dX12_put_74 hl (by decide) rfl (fun ls hl => ?_)
      refine lv_iload hx hb dX12_put_76 (lv_at hl 2 rfl) ?_
      refine lv_iconst (v := 2) hx hb dX12_put_78 (by decide) ?_
      refine lv_icmp_ne (tgt := 127) hx hb dX12_put_79 (by decide) (fun c_9 => absurd (by decide) c_9) (fun c_9 => ?_)
      refine lv_iload hx hb dX12_put_82 (lv_at hl 8 rfl) ?_
      refine lv_iconst (v := 0) hx hb dX12_put_84 (by decide) ?_
      refine lv_aload_n hx hb dX12_put_85 rfl (lv_at hl 3 rfl) ?_
      refine va_get (D := (dC, dI)) (ci := 11) (v := .ref (v 17)) (C := RX12) (T := TX12) (N := 52) hx hb hts zl_X12_put_X12 hown hK hP 0 rfl rfl 17 (by decide) (hts (.fieldLink RX12 58 "PageOneModel" "sizes" "[I") (zat q_wsX12_put k_wsX12_put 899 rfl (by decide +kernel))) (fun _ h9 => h9) rfl dX12_put_86 ?_
      refine lv_iload_n hx hb dX12_put_89 rfl (lv_at hl 4 rfl) ?_
      refine va_iald hx hb hK hP 17 0 rfl rfl (vin (it79 hn b_1) (by decide)) dX12_put_90 ?_
      refine lv_iconst (v := 1) hx hb dX12_put_91 (by decide) ?_
      refine lv_isub hx hb dX12_put_92 ?_
      refine vp_callSi (va_runS (As := [.int p4, .int 0, .int ((u.2 17 (p0 : Int32).toNatClampNeg) - 1)]) (rest := []) ⟨hx, hb, hml, hown, hts⟩ (m_in l dC dI p4 0 ((u.2 17 (p0 : Int32).toNatClampNeg) - 1)) (va_cwS 3 hts gX12_put_X12_in rfl rfl rfl zh_X12_in_0 ⟨Nat.le_of_ble_eq_true rfl, Nat.le_of_ble_eq_true rfl⟩) ⟨pw_fb, fun U hU hW => ⟨rfl, pw_to hU hW (hP.sub (ws' := []) [] rfl) (hK.sub (tys' := []) [] rfl) hN⟩⟩ rfl rfl hl.1 rfl (lv_room (Nat.le_of_ble_eq_true rfl)) dX12_put_93 ⟨Nat.le_of_ble_eq_true rfl, Nat.le_of_ble_eq_true rfl⟩).run (fun r hw => ?_)
      rcases Bool.eq_false_or_eq_true (bw p4 0 ((u.2 17 (p0 : Int32).toNatClampNeg) - 1)) with b_10 | b_10
      ·
        obtain rfl : r = 1 := b_t hw b_10
        refine lv_if_ne (tgt := 101) hx hb dX12_put_96 (by decide) (fun c_11 => ?_) (fun c_11 => absurd c_11 (by decide))
        refine lv_aload_n hx hb dX12_put_101 rfl (lv_at hl 3 rfl) ?_
        refine va_get (D := (dC, dI)) (ci := 11) (v := .ref (v 18)) (C := RX12) (T := TX12) (N := 52) hx hb hts zl_X12_put_X12 hown hK hP 0 rfl rfl 18 (by decide) (hts (.fieldLink RX12 61 "PageOneModel" "sizeW" "[I") (zat q_wsX12_put k_wsX12_put 900 rfl (by decide +kernel))) (fun _ h9 => h9) rfl dX12_put_102 ?_
        refine lv_iconst (v := 4) hx hb dX12_put_105 (by decide) ?_
        refine lv_iload_n hx hb dX12_put_106 rfl (lv_at hl 4 rfl) ?_
        refine lv_imul hx hb dX12_put_107 ?_
        refine lv_iload hx hb dX12_put_108 (lv_at hl 8 rfl) ?_
        refine lv_iadd hx hb dX12_put_110 ?_
        refine va_iald hx hb hK hP 18 0 rfl rfl (vSz (it79 hn b_1) (hsz _ (vlt (vin (it79 hn b_1) (by decide)))) b_10) dX12_put_111 ?_
        refine lv_istore (lv' := [(7, .int (u.2 18 (((4 * p0) + p4) : Int32).toNatClampNeg)), (8, .int (u.2 8 (p0 : Int32).toNatClampNeg)), (6, .int 2), (0, .ref h0), (1, .int p0), (2, .int p1), (3, .int p2), (4, .int p3), (5, .int p4)]) hx hb dX12_put_112 hl (by decide) rfl (fun ls hl => ?_)
        refine lv_aload_n hx hb dX12_put_114 rfl (lv_at hl 3 rfl) ?_
        refine va_get (D := (dC, dI)) (ci := 11) (v := .ref (v 19)) (C := RX12) (T := TX12) (N := 52) hx hb hts zl_X12_put_X12 hown hK hP 0 rfl rfl 19 (by decide) (hts (.fieldLink RX12 64 "PageOneModel" "sizeH" "[I") (zat q_wsX12_put k_wsX12_put 901 rfl (by decide +kernel))) (fun _ h9 => h9) rfl dX12_put_115 ?_
        refine lv_iconst (v := 4) hx hb dX12_put_118 (by decide) ?_
        refine lv_iload_n hx hb dX12_put_119 rfl (lv_at hl 4 rfl) ?_
        refine lv_imul hx hb dX12_put_120 ?_
        refine lv_iload hx hb dX12_put_121 (lv_at hl 8 rfl) ?_
        refine lv_iadd hx hb dX12_put_123 ?_
        refine va_iald hx hb hK hP 19 0 rfl rfl (vSz (it79 hn b_1) (hsz _ (vlt (vin (it79 hn b_1) (by decide)))) b_10) dX12_put_124 ?_
        refine lv_istore (lv' := [(8, .int (u.2 19 (((4 * p0) + p4) : Int32).toNatClampNeg)), (7, .int (u.2 18 (((4 * p0) + p4) : Int32).toNatClampNeg)), (6, .int 2), (0, .ref h0), (1, .int p0), (2, .int p1), (3, .int p2), (4, .int p3), (5, .int p4)]) hx hb dX12_put_125 hl (by decide) rfl (fun ls hl => ?_)
        refine lv_iload hx hb dX12_put_127 (lv_at hl 2 rfl) ?_
        refine lv_if_eq (tgt := 149) hx hb dX12_put_129 (by decide) (fun c_12 => absurd c_12 (by decide)) (fun c_12 => ?_)
        refine lv_iload hx hb dX12_put_132 (lv_at hl 2 rfl) ?_
        refine lv_iconst (v := 4) hx hb dX12_put_134 (by decide) ?_
        refine lv_icmp_eq (tgt := 149) hx hb dX12_put_135 (by decide) (fun c_13 => absurd c_13 (by decide)) (fun c_13 => ?_)
        refine lv_iload hx hb dX12_put_138 (lv_at hl 2 rfl) ?_
        refine lv_iconst (v := 2) hx hb dX12_put_140 (by decide) ?_
        refine lv_icmp_eq (tgt := 149) hx hb dX12_put_141 (by decide) (fun c_14 => ?_) (fun c_14 => absurd (by decide) c_14)
        refine lv_iconst (v := 1) hx hb dX12_put_149 (by decide) ?_
        refine lv_goto (tgt := 154) hx hb dX12_put_150 (by decide) ?_
        refine lv_istore (lv' := [(9, .int 1), (8, .int (u.2 19 (((4 * p0) + p4) : Int32).toNatClampNeg)), (7, .int (u.2 18 (((4 * p0) + p4) : Int32).toNatClampNeg)), (6, .int 2), (0, .ref h0), (1, .int p0), (2, .int p1), (3, .int p2), (4, .int p3), (5, .int p4)]) hx hb dX12_put_154 hl (by decide) rfl (fun ls hl => ?_)
        refine lv_iload hx hb dX12_put_156 (lv_at hl 0 rfl) ?_
        refine lv_if_eq (tgt := 200) hx hb dX12_put_158 (by decide) (fun c_15 => absurd c_15 (by decide)) (fun c_15 => ?_)
        refine lv_iload hx hb dX12_put_161 (lv_at hl 1 rfl) ?_
        refine lv_iconst (v := 1) hx hb dX12_put_163 (by decide) ?_
        refine lv_icmp_lt (tgt := 200) hx hb dX12_put_164 (by decide) (fun c_16 => ?_) (fun c_16 => ?_)
        ·
          refine lv_iconst (v := 0) hx hb dX12_put_200 (by decide) ?_
          refine lv_istore (lv' := [(9, .int 0), (8, .int (u.2 19 (((4 * p0) + p4) : Int32).toNatClampNeg)), (7, .int (u.2 18 (((4 * p0) + p4) : Int32).toNatClampNeg)), (6, .int 2), (0, .ref h0), (1, .int p0), (2, .int p1), (3, .int p2), (4, .int p3), (5, .int p4)]) hx hb dX12_put_201 hl (by decide) rfl (fun ls hl => ?_)
          refine lv_iload hx hb dX12_put_203 (lv_at hl 0 rfl) ?_
          refine lv_if_ne (tgt := 210) hx hb dX12_put_205 (by decide) (fun c_17 => absurd (by decide) c_17) (fun c_17 => ?_)
          refine lv_iconst (v := (-1)) hx hb dX12_put_208 (by decide) ?_
          exact W.iret (v := (-1)) hx hb hr (fun t ht hW => ⟨⟨(-1), u, rfl, (Or.inl ⟨rfl, (fun h => h.2.2.2.1 c_16), Or.inl rfl⟩), by rw [ht]; exact hP, hD⟩, hS.F ht⟩) hS.2.2 dX12_put_209
        ·
          refine lv_iload hx hb dX12_put_167 (lv_at hl 3 rfl) ?_
          refine lv_if_eq (tgt := 181) hx hb dX12_put_169 (by decide) (fun c_18 => absurd c_18 (by decide)) (fun c_18 => ?_)
          refine lv_aload_n hx hb dX12_put_172 rfl (lv_at hl 4 rfl) ?_
          refine va_get (D := (dC, dI)) (ci := 11) (v := .ref (v 22)) (C := RX12) (T := TX12) (N := 52) hx hb hts zl_X12_put_X12 hown hK hP 0 rfl rfl 22 (by decide) (hts (.fieldLink RX12 74 "PageOneModel" "pieces" "[I") (zat q_wsX12_put k_wsX12_put 904 rfl (by decide +kernel))) (fun _ h9 => h9) rfl dX12_put_173 ?_
          refine lv_iload_n hx hb dX12_put_176 rfl (lv_at hl 5 rfl) ?_
          refine va_iald hx hb hK hP 22 0 rfl rfl (vin (it79 hn b_1) (by decide)) dX12_put_177 ?_
          refine lv_if_ne (tgt := 200) hx hb dX12_put_178 (by decide) (fun c_19 => ?_) (fun c_19 => ?_)
          ·
            refine lv_iconst (v := 0) hx hb dX12_put_200 (by decide) ?_
            refine lv_istore (lv' := [(9, .int 0), (8, .int (u.2 19 (((4 * p0) + p4) : Int32).toNatClampNeg)), (7, .int (u.2 18 (((4 * p0) + p4) : Int32).toNatClampNeg)), (6, .int 2), (0, .ref h0), (1, .int p0), (2, .int p1), (3, .int p2), (4, .int p3), (5, .int p4)]) hx hb dX12_put_201 hl (by decide) rfl (fun ls hl => ?_)
            refine lv_iload hx hb dX12_put_203 (lv_at hl 0 rfl) ?_
            refine lv_if_ne (tgt := 210) hx hb dX12_put_205 (by decide) (fun c_20 => absurd (by decide) c_20) (fun c_20 => ?_)
            refine lv_iconst (v := (-1)) hx hb dX12_put_208 (by decide) ?_
            exact W.iret (v := (-1)) hx hb hr (fun t ht hW => ⟨⟨(-1), u, rfl, (Or.inl ⟨rfl, (fun h => c_19 h.2.2.2.2.1), Or.inl rfl⟩), by rw [ht]; exact hP, hD⟩, hS.F ht⟩) hS.2.2 dX12_put_209
          ·
            refine lv_aload_n hx hb dX12_put_181 rfl (lv_at hl 4 rfl) ?_
            refine lv_iload_n hx hb dX12_put_182 rfl (lv_at hl 6 rfl) ?_
            refine lv_iload_n hx hb dX12_put_183 rfl (lv_at hl 7 rfl) ?_
            refine lv_iload hx hb dX12_put_184 (lv_at hl 8 rfl) ?_
            refine lv_iload hx hb dX12_put_186 (lv_at hl 2 rfl) ?_
            refine lv_iload hx hb dX12_put_188 (lv_at hl 1 rfl) ?_
            refine vp_callSi (va_runV (As := [.int p1, .int p2, .int p3, .int (u.2 18 (((4 * p0) + p4) : Int32).toNatClampNeg), .int (u.2 19 (((4 * p0) + p4) : Int32).toNatClampNeg)]) (rest := []) ⟨hx, hb, hml, hown, hts⟩ (m_isFree l dC dI h0 v cI cZ u p1 p2 p3 (u.2 18 (((4 * p0) + p4) : Int32).toNatClampNeg) (u.2 19 (((4 * p0) + p4) : Int32).toNatClampNeg) hln) (cwV 5 hts gX12_put_X12_isFree rfl rfl rfl zh_X12_isFree_28 ⟨Nat.le_of_ble_eq_true rfl, Nat.le_of_ble_eq_true rfl⟩) ⟨pw_fb, va_recv hK hP (ci := 11) (q0 := 0) rfl rfl, fun U hU hW => ⟨rfl, pw_to hU hW hP hK hN⟩⟩ rfl rfl hl.1 rfl (lv_room (Nat.le_of_ble_eq_true rfl)) dX12_put_190 ⟨Nat.le_of_ble_eq_true rfl, Nat.le_of_ble_eq_true rfl⟩).run (fun r hw => ?_)
            have hit := b_1
            have hi := it79 hn hit
            have h300 := c_3
            rcases hw with ⟨hw, hfree⟩ | ⟨hw, hfree⟩
            ·
              subst hw
              have hfree0 := hfree
              obtain ⟨P, X, Y, D, N, eP, eX, eY, eD, eN, hPP, hXW, hYN, hDD1, hN1⟩ := free_rect hln hfree
              subst eP eX eY
              rw [eD] at hl
              rw [eN] at hl
              refine lv_if_eq (tgt := 200) hx hb dX12_put_193 (by decide) (fun c_21 => absurd c_21 (by decide)) (fun c_21 => ?_)
              refine lv_iconst (v := 1) hx hb dX12_put_196 (by decide) ?_
              refine lv_goto (tgt := 201) hx hb dX12_put_197 (by decide) ?_
              refine lv_istore (lv' := [(9, .int 1), (8, .int (nI N)), (7, .int (nI D)), (6, .int 2), (0, .ref h0), (1, .int p0), (2, .int (nI P)), (3, .int (nI X)), (4, .int (nI Y)), (5, .int p4)]) hx hb dX12_put_201 hl (by decide) rfl (fun ls hl => ?_)
              refine lv_iload hx hb dX12_put_203 (lv_at hl 0 rfl) ?_
              refine lv_if_ne (tgt := 210) hx hb dX12_put_205 (by decide) (fun c_22 => ?_) (fun c_22 => absurd c_22 (by decide))
              refine lv_iload hx hb dX12_put_210 (lv_at hl 3 rfl) ?_
              refine lv_tableIn (tgt := 343) (off := 131) hx hb dX12_put_212 (by decide) (by decide) (by decide) (by decide) ?_
              refine lv_iload hx hb dX12_put_343 (lv_at hl 0 rfl) ?_
              refine lv_if_ne (tgt := 350) hx hb dX12_put_345 (by decide) (fun c_23 => ?_) (fun c_23 => absurd c_23 (by decide))
              refine lv_aload_n hx hb dX12_put_350 rfl (lv_at hl 4 rfl) ?_
              refine lv_iload_n hx hb dX12_put_351 rfl (lv_at hl 5 rfl) ?_
              refine lv_iload_n hx hb dX12_put_352 rfl (lv_at hl 6 rfl) ?_
              refine lv_iload_n hx hb dX12_put_353 rfl (lv_at hl 7 rfl) ?_
              refine lv_iload hx hb dX12_put_354 (lv_at hl 8 rfl) ?_
              refine lv_iload hx hb dX12_put_356 (lv_at hl 2 rfl) ?_
              refine lv_iload hx hb dX12_put_358 (lv_at hl 1 rfl) ?_
              have hFc := fr_all hD hS hA
              refine va_callv (va_runV (As := [.int p0, .int (nI P), .int (nI X), .int (nI Y), .int (nI D), .int (nI N)]) (rest := []) ⟨hx, hb, hml, hown, hts⟩ (m_stand l dC dI h0 v cI cZ u p0 P X Y D N hPP hXW hYN hi (z05 c_19) s.heap.size) (cwV 6 hts gX12_put_X12_stand rfl rfl rfl zh_X12_stand_25 ⟨Nat.le_of_ble_eq_true rfl, Nat.le_of_ble_eq_true rfl⟩) ⟨gw_fb, va_recv hK hP (ci := 11) (q0 := 0) rfl rfl, fun U hU hW => ⟨rfl, by rw [hU], pw_to hU hW hP hK hN, hD.weaken (fun _ _ _ _ => trivial)⟩⟩ rfl rfl hl.1 rfl (lv_room (Nat.le_of_ble_eq_true rfl)) dX12_put_360 ⟨Nat.le_of_ble_eq_true rfl, Nat.le_of_ble_eq_true rfl⟩) hS (fun q _ h => hFc q h) hFc (fun u_24 t H1 locs ht hvm hw hB hz1 hk1 hS => ?_)
              obtain ⟨hP, hD1⟩ := hB
              rw [ht] at hP
              have hD := hD1.weaken (fun _ q _ h => hFc q.1 h)
              generalize H1 = H at hP hS ⊢
              have eu_24 := hw
              refine lv_aload_n hx hb dX12_put_363 rfl (lv_at hl 4 rfl) ?_
              refine lv_iconst (v := 0) hx hb dX12_put_364 (by decide) ?_
              refine lv_iload_n hx hb dX12_put_365 rfl (lv_at hl 5 rfl) ?_
              refine lv_iconst (v := 0) hx hb dX12_put_366 (by decide) ?_
              refine lv_iconst (v := 0) hx hb dX12_put_367 (by decide) ?_
              refine lv_iconst (v := 0) hx hb dX12_put_368 (by decide) ?_
              refine lv_iconst (v := 0) hx hb dX12_put_369 (by decide) ?_
              refine lv_iconst (v := 0) hx hb dX12_put_370 (by decide) ?_
              have hFc := fr_all hD hS hA
              refine va_callv (va_runV (As := [.int 0, .int p0, .int 0, .int 0, .int 0, .int 0, .int 0]) (rest := []) ⟨hx, hb, hml, hown, hts⟩ (m_acts l dC dI h0 v cI cZ u_24 0 p0 0 0 0 0 0 (by rw [eu_24]; show bw (u.1 28) 0 299 = true; exact v300 ha h300) H.size) (cwV 7 hts gX12_put_X12_acts rfl rfl rfl zh_X12_acts_10 ⟨Nat.le_of_ble_eq_true rfl, Nat.le_of_ble_eq_true rfl⟩) ⟨gw_fb, va_recv hK hP (ci := 11) (q0 := 0) rfl rfl, fun U hU hW => ⟨rfl, by rw [hU], pw_to hU hW hP hK hN, hD.weaken (fun _ _ _ _ => trivial)⟩⟩ rfl rfl hl.1 rfl (lv_room (Nat.le_of_ble_eq_true rfl)) dX12_put_371 ⟨Nat.le_of_ble_eq_true rfl, Nat.le_of_ble_eq_true rfl⟩) hS (fun q _ h => hFc q h) hFc (fun u_25 t H1 locs ht hvm hw hB hz1 hk1 hS => ?_)
              obtain ⟨hP, hD1⟩ := hB
              rw [ht] at hP
              have hD := hD1.weaken (fun _ q _ h => hFc q.1 h)
              generalize H1 = H at hP hS ⊢
              have eu_25 := hw
              refine lv_aload_n hx hb dX12_put_374 rfl (lv_at hl 4 rfl) ?_
              refine va_get (D := (dC, dI)) (ci := 11) (v := .ref (v 22)) (C := RX12) (T := TX12) (N := 52) hx hb hts zl_X12_put_X12 hown hK hP 0 rfl rfl 22 (by decide) (hts (.fieldLink RX12 74 "PageOneModel" "pieces" "[I") (zat q_wsX12_put k_wsX12_put 904 rfl (by decide +kernel))) (fun _ h9 => h9) rfl dX12_put_375 ?_
              refine lv_iload_n hx hb dX12_put_378 rfl (lv_at hl 5 rfl) ?_
              refine va_iald hx hb hK hP 22 0 rfl rfl (vin (it79 hn b_1) (by decide)) dX12_put_379 ?_
              exact W.iret (v := (u_25.2 22 (p0 : Int32).toNatClampNeg)) hx hb hr (fun t ht hW => ⟨⟨(u_25.2 22 (p0 : Int32).toNatClampNeg), u_25, rfl, (Or.inr ⟨⟨hit, h300, b_10, c_16, c_19, hfree0, trivial⟩, (by rw [eu_25, eu_24, putR]), P, X, Y, D, N, rfl, rfl, rfl, eD, eN, hPP, hXW, hYN, hDD1, hN1, (Or.inl (by rw [eu_25, eu_24]))⟩), by rw [ht]; exact hP, hD⟩, hS.F ht⟩) hS.2.2 dX12_put_380
            ·
              subst hw
              refine lv_if_eq (tgt := 200) hx hb dX12_put_193 (by decide) (fun c_26 => ?_) (fun c_26 => absurd (by decide) c_26)
              refine lv_iconst (v := 0) hx hb dX12_put_200 (by decide) ?_
              refine lv_istore (lv' := [(9, .int 0), (8, .int (u.2 19 (((4 * p0) + p4) : Int32).toNatClampNeg)), (7, .int (u.2 18 (((4 * p0) + p4) : Int32).toNatClampNeg)), (6, .int 2), (0, .ref h0), (1, .int p0), (2, .int p1), (3, .int p2), (4, .int p3), (5, .int p4)]) hx hb dX12_put_201 hl (by decide) rfl (fun ls hl => ?_)
              refine lv_iload hx hb dX12_put_203 (lv_at hl 0 rfl) ?_
              refine lv_if_ne (tgt := 210) hx hb dX12_put_205 (by decide) (fun c_27 => absurd (by decide) c_27) (fun c_27 => ?_)
              refine lv_iconst (v := (-1)) hx hb dX12_put_208 (by decide) ?_
              exact W.iret (v := (-1)) hx hb hr (fun t ht hW => ⟨⟨(-1), u, rfl, (Or.inl ⟨rfl, (fun h => hfree h.2.2.2.2.2.1), Or.inl rfl⟩), by rw [ht]; exact hP, hD⟩, hS.F ht⟩) hS.2.2 dX12_put_209
      ·
        obtain rfl : r = 0 := b_f hw b_10
        refine lv_if_ne (tgt := 101) hx hb dX12_put_96 (by decide) (fun c_28 => absurd (by decide) c_28) (fun c_28 => ?_)
        refine lv_iconst (v := (-1)) hx hb dX12_put_99 (by decide) ?_
        exact W.iret (v := (-1)) hx hb hr (fun t ht hW => ⟨⟨(-1), u, rfl, (Or.inl ⟨rfl, (fun h => bne b_10 h.2.2.1), Or.inl rfl⟩), by rw [ht]; exact hP, hD⟩, hS.F ht⟩) hS.2.2 dX12_put_100
    ·
      refine lv_iconst (v := (-1)) hx hb dX12_put_18 (by decide) ?_
      exact W.iret (v := (-1)) hx hb hr (fun t ht hW => ⟨⟨(-1), u, rfl, (Or.inl ⟨rfl, (fun h => h.2.1 c_3), Or.inl rfl⟩), by rw [ht]; exact hP, hD⟩, hS.F ht⟩) hS.2.2 dX12_put_19
  ·
    obtain rfl : r = 0 := b_f hw b_1
    refine lv_if_eq (tgt := 18) hx hb dX12_put_5 (by decide) (fun c_29 => ?_) (fun c_29 => absurd (by decide) c_29)
    refine lv_iconst (v := (-1)) hx hb dX12_put_18 (by decide) ?_
    exact W.iret (v := (-1)) hx hb hr (fun t ht hW => ⟨⟨(-1), u, rfl, (Or.inl ⟨rfl, (fun h => bne b_1 h.1), Or.inl rfl⟩), by rw [ht]; exact hP, hD⟩, hS.F ht⟩) hS.2.2 dX12_put_19
set_option maxHeartbeats 4000000 in
set_option maxRecDepth 100000 in
theorem o_put3 (l : Launch) (dC : Nat → ClassId) (dI : Nat → Nat → Nat) (h0 : Nat) (v : Nat → Nat) (cI cZ : ClassId) (u : mS) (p0 p1 p2 p3 p4 : Int32) (hn : bw (u.1 3) 0 80 = true) (hln : ∀ j, j < 96 → bw (u.2 0 j) 0 60 = true) (hd : bw (u.1 38) 0 399 = true) (ha : bw (u.1 28) 0 300 = true) (hpc : ∀ j, j < 80 → bw (u.2 22 j) 0 6 = true) (hcm : ∀ j, j < 80 → bw (u.2 15 j) 0 80 = true) (hsz : ∀ j, j < 80 → bw (u.2 17 j) 0 4 = true) (hfr : bw p0 0 79 = true → ∀ P X Y N : Nat, P < 12 → X + 1 ≤ 8 → 1 ≤ N → Y + N ≤ 60 → ¬ u.2 22 p0.toNatClampNeg = 6 → runG (mStand u p0 P X Y 1 N) p0 (u.2 22 p0.toNatClampNeg) → 0 ≤ (mFrom (mStand u p0 P X Y 1 N) p0 (u.2 22 p0.toNatClampNeg).toNatClampNeg).toInt ∧ (mFrom (mStand u p0 P X Y 1 N) p0 (u.2 22 p0.toNatClampNeg).toNatClampNeg).toInt ≤ 400 ∧ (mTakes (mStand u p0 P X Y 1 N) p0 (u.2 22 p0.toNatClampNeg)).toInt ≤ 60) (hK9 : bw p0 0 (u.1 3 - 1) = true → u.2 4 p0.toNatClampNeg = 3) (sz : Nat) : Met l yX12_put wsX12_put ({ frames := 4, cells := 0, slots := 0, locals := 106 }) (va_Pc [.ref h0, .int p0, .int p1, .int p2, .int p3, .int p4] (fun U => U.heap.size = sz ∧ PW dC dI (mW h0 v cI cZ u) [(cI, .int), (cZ, .boolean)] U ∧ va_D (fun _ => True) (mW h0 v cI cZ u))) (va_Qi (fun (r : Int32) (u9 : mS) => rPut u p0 p1 p2 p3 (u.2 7 p0.toNatClampNeg) (u.2 8 p0.toNatClampNeg) (okP3 u p0 p1 p2 p3 p4) r u9) (fun u9 t => va_P (dC, dI) vwCl (mW h0 v cI cZ u9) t.heap ∧ va_D (va_A (mW h0 v cI cZ u) sz) (mW h0 v cI cZ u9)) (va_A (mW h0 v cI cZ u) sz)) 0 0 (va_A (mW h0 v cI cZ u) sz) := by
  refine Met.ofW (cc := cX12_put) (maxL := 10) (ret := (some .int)) (by decide) rfl ?_
  intro p e s m args below meth c s₁ B hml hv
  obtain ⟨rfl, hsz, ⟨hP, hK, hN⟩, hD0⟩ := hv
  have hx := B.exec
  have hb := B.bytes
  have hr := B.returns
  have hts := atoms_spec (ws := wsX12_put) B.pre
  have hown : s.vm.findClass RX12 = some m.cls := findClass_of_methodNamed B.named
  have hlocks := B.notSynchronized
  subst hsz
  have hD := hD0.self (sz := s.heap.size)
  generalize hAe : va_A (mW h0 v cI cZ u) s.heap.size = A at hD ⊢
  have hA : ∀ q : Nat, s.heap.size ≤ q → A q := fun q h => by rw [← hAe]; exact Or.inr h
  have hS : va_S A s.heap s.heap [] := va_S.rf
  have hl := lv_entry ([.ref h0, .int p0, .int p1, .int p2, .int p3, .int p4]) (n := 10) (Nat.le_of_ble_eq_true rfl)
  rw [lg_entry_eq]
  generalize (lg_sl ([.ref h0, .int p0, .int p1, .int p2, .int p3, .int p4]) ++ List.replicate (10 - (lg_sl ([.ref h0, .int p0, .int p1, .int p2, .int p3, .int p4])).length) Slot.unset).toArray = ls at hl ⊢
  have hl : lv_has ls 10 [(0, .ref h0), (1, .int p0), (2, .int p1), (3, .int p2), (4, .int p3), (5, .int p4)] := hl
  refine lv_aload_n hx hb dX12_put_0 rfl (lv_at hl 0 rfl) ?_
  refine lv_iload_n hx hb dX12_put_1 rfl (lv_at hl 1 rfl) ?_
  refine vp_callSi (va_runV (As := [.int p0]) (rest := []) ⟨hx, hb, hml, hown, hts⟩ (m_isItem l dC dI h0 v cI cZ u p0) (cwV 1 hts gX12_put_X12_isItem rfl rfl rfl zh_X12_isItem_1 ⟨Nat.le_of_ble_eq_true rfl, Nat.le_of_ble_eq_true rfl⟩) ⟨pw_fb, va_recv hK hP (ci := 11) (q0 := 0) rfl rfl, fun U hU hW => ⟨rfl, pw_to hU hW hP hK hN⟩⟩ rfl rfl hl.1 rfl (lv_room (Nat.le_of_ble_eq_true rfl)) dX12_put_2 ⟨Nat.le_of_ble_eq_true rfl, Nat.le_of_ble_eq_true rfl⟩).run (fun r hw => ?_)
  rcases Bool.eq_false_or_eq_true (bw p0 0 (u.1 3 - 1)) with b_1 | b_1
  ·
    obtain rfl : r = 1 := b_t hw b_1
    refine lv_if_eq (tgt := 18) hx hb dX12_put_5 (by decide) (fun c_2 => absurd c_2 (by decide)) (fun c_2 => ?_)
    refine lv_aload_n hx hb dX12_put_8 rfl (lv_at hl 0 rfl) ?_
    refine va_get (D := (dC, dI)) (ci := 11) (v := .int (u.1 28)) (C := RX12) (T := TX12) (N := 52) hx hb hts zl_X12_put_X12 hown hK hP 0 rfl rfl 28 (by decide) (hts (.fieldLink RX12 158 "PageOneModel" "acts" "I") (zat q_wsX12_put k_wsX12_put 910 rfl (by decide +kernel))) (fun _ h9 => h9) rfl dX12_put_9 ?_
    refine lv_sipush (v := 300) hx hb dX12_put_12 (by decide) ?_
    refine lv_icmp_ne (tgt := 20) hx hb dX12_put_15 (by decide) (fun c_3 => ?_) (fun c_3 => ?_)
    ·
      refine lv_aload_n hx hb dX12_put_20 rfl (lv_at hl 0 rfl) ?_
      refine va_get (D := (dC, dI)) (ci := 11) (v := .ref (v 4)) (C := RX12) (T := TX12) (N := 52) hx hb hts zl_X12_put_X12 hown hK hP 0 rfl rfl 4 (by decide) (hts (.fieldLink RX12 19 "PageOneModel" "kind" "[I") (zat q_wsX12_put k_wsX12_put 886 rfl (by decide +kernel))) (fun _ h9 => h9) rfl dX12_put_21 ?_
      refine lv_iload_n hx hb dX12_put_24 rfl (lv_at hl 1 rfl) ?_
      refine va_iald hx hb hK hP 4 0 rfl rfl (vin (it79 hn b_1) (by decide)) dX12_put_25 ?_
      refine lv_topi (fun y_4 ey_4 => ?_)
      obtain rfl : y_4 = 3 := ey_4.trans (hK9 b_1)
      refine lv_istore (lv' := [(6, .int 3), (0, .ref h0), (1, .int p0), (2, .int p1), (3, .int p2), (4, .int p3), (5, .int p4)]) hx hb dX12_put_26 hl (by decide) rfl (fun ls hl => ?_)
      refine lv_iload hx hb dX12_put_28 (lv_at hl 0 rfl) ?_
      refine lv_iconst (v := 1) hx hb dX12_put_30 (by decide) ?_
      refine lv_icmp_eq (tgt := 40) hx hb dX12_put_31 (by decide) (fun c_5 => absurd c_5 (by decide)) (fun c_5 => ?_)
      refine lv_iload hx hb dX12_put_34 (lv_at hl 0 rfl) ?_
      refine lv_iconst (v := 3) hx hb dX12_put_36 (by decide) ?_
      refine lv_icmp_ne (tgt := 49) hx hb dX12_put_37 (by decide) (fun c_6 => absurd (by decide) c_6) (fun c_6 => ?_)
      refine lv_aload_n hx hb dX12_put_40 rfl (lv_at hl 1 rfl) ?_
      refine va_get (D := (dC, dI)) (ci := 11) (v := .ref (v 7)) (C := RX12) (T := TX12) (N := 52) hx hb hts zl_X12_put_X12 hown hK hP 0 rfl rfl 7 (by decide) (hts (.fieldLink RX12 28 "PageOneModel" "wide" "[I") (zat q_wsX12_put k_wsX12_put 889 rfl (by decide +kernel))) (fun _ h9 => h9) rfl dX12_put_41 ?_
      refine lv_iload_n hx hb dX12_put_44 rfl (lv_at hl 2 rfl) ?_
      refine va_iald hx hb hK hP 7 0 rfl rfl (vin (it79 hn b_1) (by decide)) dX12_put_45 ?_
      refine lv_goto (tgt := 50) hx hb dX12_put_46 (by decide) ?_
      refine lv_istore (lv' := [(7, .int (u.2 7 (p0 : Int32).toNatClampNeg)), (6, .int 3), (0, .ref h0), (1, .int p0), (2, .int p1), (3, .int p2), (4, .int p3), (5, .int p4)]) hx hb dX12_put_50 hl (by decide) rfl (fun ls hl => ?_)
      refine lv_iload hx hb dX12_put_52 (lv_at hl 1 rfl) ?_
      refine lv_if_eq (tgt := 63) hx hb dX12_put_54 (by decide) (fun c_7 => absurd c_7 (by decide)) (fun c_7 => ?_)
      refine lv_iload hx hb dX12_put_57 (lv_at hl 1 rfl) ?_
      refine lv_iconst (v := 4) hx hb dX12_put_59 (by decide) ?_
      refine lv_icmp_ne (tgt := 68) hx hb dX12_put_60 (by decide) (fun c_8 => ?_) (fun c_8 => absurd c_8 (by decide))
      refine lv_aload_n hx hb dX12_put_68 rfl (lv_at hl 2 rfl) ?_
      refine va_get (D := (dC, dI)) (ci := 11) (v := .ref (v 8)) (C := RX12) (T := TX12) (N := 52) hx hb hts zl_X12_put_X12 hown hK hP 0 rfl rfl 8 (by decide) (hts (.fieldLink RX12 31 "PageOneModel" "high" "[I") (zat q_wsX12_put k_wsX12_put 890 rfl (by decide +kernel))) (fun _ h9 => h9) rfl dX12_put_69 ?_
      refine lv_iload_n hx hb dX12_put_72 rfl (lv_at hl 3 rfl) ?_
      refine va_iald hx hb hK hP 8 0 rfl rfl (vin (it79 hn b_1) (by decide)) dX12_put_73 ?_
      refine lv_istore (lv' := [(8, .int (u.2 8 (p0 : Int32).toNatClampNeg)), (7, .int (u.2 7 (p0 : Int32).toNatClampNeg)), (6, .int 3), (0, .ref h0), (1, .int p0), (2, .int p1), (3, .int p2), (4, .int p3), (5, .int p4)]) hx hb dX12_put_74 hl (by decide) rfl (fun ls hl => ?_)
      refine lv_iload hx hb dX12_put_76 (lv_at hl 2 rfl) ?_
      refine lv_iconst (v := 2) hx hb dX12_put_78 (by decide) ?_
      refine lv_icmp_ne (tgt := 127) hx hb dX12_put_79 (by decide) (fun c_9 => ?_) (fun c_9 => absurd c_9 (by decide))
      refine lv_iload hx hb dX12_put_127 (lv_at hl 2 rfl) ?_
      refine lv_if_eq (tgt := 149) hx hb dX12_put_129 (by decide) (fun c_10 => absurd c_10 (by decide)) (fun c_10 => ?_)
      refine lv_iload hx hb dX12_put_132 (lv_at hl 2 rfl) ?_
      refine lv_iconst (v := 4) hx hb dX12_put_134 (by decide) ?_
      refine lv_icmp_eq (tgt := 149) hx hb dX12_put_135 (by decide) (fun c_11 => absurd c_11 (by decide)) (fun c_11 => ?_)
      refine lv_iload hx hb dX12_put_138 (lv_at hl 2 rfl) ?_
      refine lv_iconst (v := 2) hx hb dX12_put_140 (by decide) ?_
      refine lv_icmp_eq (tgt := 149) hx hb dX12_put_141 (by decide) (fun c_12 => absurd c_12 (by decide)) (fun c_12 => ?_)
      refine lv_iload hx hb dX12_put_144 (lv_at hl 8 rfl) ?_
      refine lv_if_ne (tgt := 153) hx hb dX12_put_146 (by decide) (fun c_13 => ?_) (fun c_13 => ?_)
      ·
        refine lv_iconst (v := 0) hx hb dX12_put_153 (by decide) ?_
        refine lv_istore (lv' := [(9, .int 0), (8, .int (u.2 8 (p0 : Int32).toNatClampNeg)), (7, .int (u.2 7 (p0 : Int32).toNatClampNeg)), (6, .int 3), (0, .ref h0), (1, .int p0), (2, .int p1), (3, .int p2), (4, .int p3), (5, .int p4)]) hx hb dX12_put_154 hl (by decide) rfl (fun ls hl => ?_)
        refine lv_iload hx hb dX12_put_156 (lv_at hl 0 rfl) ?_
        refine lv_if_eq (tgt := 200) hx hb dX12_put_158 (by decide) (fun c_14 => ?_) (fun c_14 => absurd (by decide) c_14)
        refine lv_iconst (v := 0) hx hb dX12_put_200 (by decide) ?_
        refine lv_istore (lv' := [(9, .int 0), (8, .int (u.2 8 (p0 : Int32).toNatClampNeg)), (7, .int (u.2 7 (p0 : Int32).toNatClampNeg)), (6, .int 3), (0, .ref h0), (1, .int p0), (2, .int p1), (3, .int p2), (4, .int p3), (5, .int p4)]) hx hb dX12_put_201 hl (by decide) rfl (fun ls hl => ?_)
        refine lv_iload hx hb dX12_put_203 (lv_at hl 0 rfl) ?_
        refine lv_if_ne (tgt := 210) hx hb dX12_put_205 (by decide) (fun c_15 => absurd (by decide) c_15) (fun c_15 => ?_)
        refine lv_iconst (v := (-1)) hx hb dX12_put_208 (by decide) ?_
        exact W.iret (v := (-1)) hx hb hr (fun t ht hW => ⟨⟨(-1), u, rfl, (Or.inl ⟨rfl, (fun h => c_13 h.2.2.1), Or.inl rfl⟩), by rw [ht]; exact hP, hD⟩, hS.F ht⟩) hS.2.2 dX12_put_209
      ·
        refine lv_iconst (v := 1) hx hb dX12_put_149 (by decide) ?_
        refine lv_goto (tgt := 154) hx hb dX12_put_150 (by decide) ?_
        refine lv_istore (lv' := [(9, .int 1), (8, .int (u.2 8 (p0 : Int32).toNatClampNeg)), (7, .int (u.2 7 (p0 : Int32).toNatClampNeg)), (6, .int 3), (0, .ref h0), (1, .int p0), (2, .int p1), (3, .int p2), (4, .int p3), (5, .int p4)]) hx hb dX12_put_154 hl (by decide) rfl (fun ls hl => ?_)
        refine lv_iload hx hb dX12_put_156 (lv_at hl 0 rfl) ?_
        refine lv_if_eq (tgt := 200) hx hb dX12_put_158 (by decide) (fun c_16 => absurd c_16 (by decide)) (fun c_16 => ?_)
        refine lv_iload hx hb dX12_put_161 (lv_at hl 1 rfl) ?_
        refine lv_iconst (v := 1) hx hb dX12_put_163 (by decide) ?_
        refine lv_icmp_lt (tgt := 200) hx hb dX12_put_164 (by decide) (fun c_17 => ?_) (fun c_17 => ?_)
        ·
          refine lv_iconst (v := 0) hx hb dX12_put_200 (by decide) ?_
          refine lv_istore (lv' := [(9, .int 0), (8, .int (u.2 8 (p0 : Int32).toNatClampNeg)), (7, .int (u.2 7 (p0 : Int32).toNatClampNeg)), (6, .int 3), (0, .ref h0), (1, .int p0), (2, .int p1), (3, .int p2), (4, .int p3), (5, .int p4)]) hx hb dX12_put_201 hl (by decide) rfl (fun ls hl => ?_)
          refine lv_iload hx hb dX12_put_203 (lv_at hl 0 rfl) ?_
          refine lv_if_ne (tgt := 210) hx hb dX12_put_205 (by decide) (fun c_18 => absurd (by decide) c_18) (fun c_18 => ?_)
          refine lv_iconst (v := (-1)) hx hb dX12_put_208 (by decide) ?_
          exact W.iret (v := (-1)) hx hb hr (fun t ht hW => ⟨⟨(-1), u, rfl, (Or.inl ⟨rfl, (fun h => h.2.2.2.1 c_17), Or.inl rfl⟩), by rw [ht]; exact hP, hD⟩, hS.F ht⟩) hS.2.2 dX12_put_209
        ·
          refine lv_iload hx hb dX12_put_167 (lv_at hl 3 rfl) ?_
          refine lv_if_eq (tgt := 181) hx hb dX12_put_169 (by decide) (fun c_19 => absurd c_19 (by decide)) (fun c_19 => ?_)
          refine lv_aload_n hx hb dX12_put_172 rfl (lv_at hl 4 rfl) ?_
          refine va_get (D := (dC, dI)) (ci := 11) (v := .ref (v 22)) (C := RX12) (T := TX12) (N := 52) hx hb hts zl_X12_put_X12 hown hK hP 0 rfl rfl 22 (by decide) (hts (.fieldLink RX12 74 "PageOneModel" "pieces" "[I") (zat q_wsX12_put k_wsX12_put 904 rfl (by decide +kernel))) (fun _ h9 => h9) rfl dX12_put_173 ?_
          refine lv_iload_n hx hb dX12_put_176 rfl (lv_at hl 5 rfl) ?_
          refine va_iald hx hb hK hP 22 0 rfl rfl (vin (it79 hn b_1) (by decide)) dX12_put_177 ?_
          refine lv_if_ne (tgt := 200) hx hb dX12_put_178 (by decide) (fun c_20 => ?_) (fun c_20 => ?_)
          ·
            refine lv_iconst (v := 0) hx hb dX12_put_200 (by decide) ?_
            refine lv_istore (lv' := [(9, .int 0), (8, .int (u.2 8 (p0 : Int32).toNatClampNeg)), (7, .int (u.2 7 (p0 : Int32).toNatClampNeg)), (6, .int 3), (0, .ref h0), (1, .int p0), (2, .int p1), (3, .int p2), (4, .int p3), (5, .int p4)]) hx hb dX12_put_201 hl (by decide) rfl (fun ls hl => ?_)
            refine lv_iload hx hb dX12_put_203 (lv_at hl 0 rfl) ?_
            refine lv_if_ne (tgt := 210) hx hb dX12_put_205 (by decide) (fun c_21 => absurd (by decide) c_21) (fun c_21 => ?_)
            refine lv_iconst (v := (-1)) hx hb dX12_put_208 (by decide) ?_
            exact W.iret (v := (-1)) hx hb hr (fun t ht hW => ⟨⟨(-1), u, rfl, (Or.inl ⟨rfl, (fun h => c_20 h.2.2.2.2.1), Or.inl rfl⟩), by rw [ht]; exact hP, hD⟩, hS.F ht⟩) hS.2.2 dX12_put_209
          ·
            refine lv_aload_n hx hb dX12_put_181 rfl (lv_at hl 4 rfl) ?_
            refine lv_iload_n hx hb dX12_put_182 rfl (lv_at hl 6 rfl) ?_
            refine lv_iload_n hx hb dX12_put_183 rfl (lv_at hl 7 rfl) ?_
            refine lv_iload hx hb dX12_put_184 (lv_at hl 8 rfl) ?_
            refine lv_iload hx hb dX12_put_186 (lv_at hl 2 rfl) ?_
            refine lv_iload hx hb dX12_put_188 (lv_at hl 1 rfl) ?_
            refine vp_callSi (va_runV (As := [.int p1, .int p2, .int p3, .int (u.2 7 (p0 : Int32).toNatClampNeg), .int (u.2 8 (p0 : Int32).toNatClampNeg)]) (rest := []) ⟨hx, hb, hml, hown, hts⟩ (m_isFree l dC dI h0 v cI cZ u p1 p2 p3 (u.2 7 (p0 : Int32).toNatClampNeg) (u.2 8 (p0 : Int32).toNatClampNeg) hln) (cwV 5 hts gX12_put_X12_isFree rfl rfl rfl zh_X12_isFree_28 ⟨Nat.le_of_ble_eq_true rfl, Nat.le_of_ble_eq_true rfl⟩) ⟨pw_fb, va_recv hK hP (ci := 11) (q0 := 0) rfl rfl, fun U hU hW => ⟨rfl, pw_to hU hW hP hK hN⟩⟩ rfl rfl hl.1 rfl (lv_room (Nat.le_of_ble_eq_true rfl)) dX12_put_190 ⟨Nat.le_of_ble_eq_true rfl, Nat.le_of_ble_eq_true rfl⟩).run (fun r hw => ?_)
            have hit := b_1
            have hi := it79 hn hit
            have h300 := c_3
            rcases hw with ⟨hw, hfree⟩ | ⟨hw, hfree⟩
            ·
              subst hw
              have hfree0 := hfree
              obtain ⟨P, X, Y, D, N, eP, eX, eY, eD, eN, hPP, hXW, hYN, hDD1, hN1⟩ := free_rect hln hfree
              subst eP eX eY
              rw [eD] at hl
              rw [eN] at hl
              refine lv_if_eq (tgt := 200) hx hb dX12_put_193 (by decide) (fun c_22 => absurd c_22 (by decide)) (fun c_22 => ?_)
              refine lv_iconst (v := 1) hx hb dX12_put_196 (by decide) ?_
              refine lv_goto (tgt := 201) hx hb dX12_put_197 (by decide) ?_
              refine lv_istore (lv' := [(9, .int 1), (8, .int (nI N)), (7, .int (nI D)), (6, .int 3), (0, .ref h0), (1, .int p0), (2, .int (nI P)), (3, .int (nI X)), (4, .int (nI Y)), (5, .int p4)]) hx hb dX12_put_201 hl (by decide) rfl (fun ls hl => ?_)
              refine lv_iload hx hb dX12_put_203 (lv_at hl 0 rfl) ?_
              refine lv_if_ne (tgt := 210) hx hb dX12_put_205 (by decide) (fun c_23 => ?_) (fun c_23 => absurd c_23 (by decide))
              refine lv_iload hx hb dX12_put_210 (lv_at hl 3 rfl) ?_
              refine lv_tableIn (tgt := 268) (off := 56) hx hb dX12_put_212 (by decide) (by decide) (by decide) (by decide) ?_
              refine lv_iload_n hx hb dX12_put_268 rfl (lv_at hl 6 rfl) ?_
              refine lv_aload_n hx hb dX12_put_269 rfl (lv_at hl 4 rfl) ?_
              refine va_get (D := (dC, dI)) (ci := 11) (v := .ref (v 11)) (C := RX12) (T := TX12) (N := 52) hx hb hts zl_X12_put_X12 hown hK hP 0 rfl rfl 11 (by decide) (hts (.fieldLink RX12 40 "PageOneModel" "soldPage" "[I") (zat q_wsX12_put k_wsX12_put 893 rfl (by decide +kernel))) (fun _ h9 => h9) rfl dX12_put_270 ?_
              refine lv_iload_n hx hb dX12_put_273 rfl (lv_at hl 5 rfl) ?_
              refine va_iald hx hb hK hP 11 0 rfl rfl (vin (it79 hn b_1) (by decide)) dX12_put_274 ?_
              refine lv_icmp_ne (tgt := 303) hx hb dX12_put_275 (by decide) (fun c_24 => ?_) (fun c_24 => ?_)
              ·
                refine lv_iconst (v := 0) hx hb dX12_put_303 (by decide) ?_
                refine lv_istore (lv' := [(9, .int 0), (8, .int (nI N)), (7, .int (nI D)), (6, .int 3), (0, .ref h0), (1, .int p0), (2, .int (nI P)), (3, .int (nI X)), (4, .int (nI Y)), (5, .int p4)]) hx hb dX12_put_304 hl (by decide) rfl (fun ls hl => ?_)
                refine lv_goto (tgt := 343) hx hb dX12_put_306 (by decide) ?_
                refine lv_iload hx hb dX12_put_343 (lv_at hl 0 rfl) ?_
                refine lv_if_ne (tgt := 350) hx hb dX12_put_345 (by decide) (fun c_25 => absurd (by decide) c_25) (fun c_25 => ?_)
                refine lv_iconst (v := (-1)) hx hb dX12_put_348 (by decide) ?_
                exact W.iret (v := (-1)) hx hb hr (fun t ht hW => ⟨⟨(-1), u, rfl, (Or.inl ⟨rfl, (fun h => c_24 h.2.2.2.2.2.2.1), Or.inl rfl⟩), by rw [ht]; exact hP, hD⟩, hS.F ht⟩) hS.2.2 dX12_put_349
              ·
                refine lv_iload_n hx hb dX12_put_278 rfl (lv_at hl 7 rfl) ?_
                refine lv_aload_n hx hb dX12_put_279 rfl (lv_at hl 4 rfl) ?_
                refine va_get (D := (dC, dI)) (ci := 11) (v := .ref (v 12)) (C := RX12) (T := TX12) (N := 52) hx hb hts zl_X12_put_X12 hown hK hP 0 rfl rfl 12 (by decide) (hts (.fieldLink RX12 43 "PageOneModel" "soldColumn" "[I") (zat q_wsX12_put k_wsX12_put 894 rfl (by decide +kernel))) (fun _ h9 => h9) rfl dX12_put_280 ?_
                refine lv_iload_n hx hb dX12_put_283 rfl (lv_at hl 5 rfl) ?_
                refine va_iald hx hb hK hP 12 0 rfl rfl (vin (it79 hn b_1) (by decide)) dX12_put_284 ?_
                refine lv_icmp_ne (tgt := 303) hx hb dX12_put_285 (by decide) (fun c_26 => ?_) (fun c_26 => ?_)
                ·
                  refine lv_iconst (v := 0) hx hb dX12_put_303 (by decide) ?_
                  refine lv_istore (lv' := [(9, .int 0), (8, .int (nI N)), (7, .int (nI D)), (6, .int 3), (0, .ref h0), (1, .int p0), (2, .int (nI P)), (3, .int (nI X)), (4, .int (nI Y)), (5, .int p4)]) hx hb dX12_put_304 hl (by decide) rfl (fun ls hl => ?_)
                  refine lv_goto (tgt := 343) hx hb dX12_put_306 (by decide) ?_
                  refine lv_iload hx hb dX12_put_343 (lv_at hl 0 rfl) ?_
                  refine lv_if_ne (tgt := 350) hx hb dX12_put_345 (by decide) (fun c_27 => absurd (by decide) c_27) (fun c_27 => ?_)
                  refine lv_iconst (v := (-1)) hx hb dX12_put_348 (by decide) ?_
                  exact W.iret (v := (-1)) hx hb hr (fun t ht hW => ⟨⟨(-1), u, rfl, (Or.inl ⟨rfl, (fun h => c_26 h.2.2.2.2.2.2.2.1), Or.inl rfl⟩), by rw [ht]; exact hP, hD⟩, hS.F ht⟩) hS.2.2 dX12_put_349
                ·
                  refine lv_iload hx hb dX12_put_288 (lv_at hl 8 rfl) ?_
                  refine lv_aload_n hx hb dX12_put_290 rfl (lv_at hl 4 rfl) ?_
                  refine va_get (D := (dC, dI)) (ci := 11) (v := .ref (v 13)) (C := RX12) (T := TX12) (N := 52) hx hb hts zl_X12_put_X12 hown hK hP 0 rfl rfl 13 (by decide) (hts (.fieldLink RX12 46 "PageOneModel" "soldLine" "[I") (zat q_wsX12_put k_wsX12_put 895 rfl (by decide +kernel))) (fun _ h9 => h9) rfl dX12_put_291 ?_
                  refine lv_iload_n hx hb dX12_put_294 rfl (lv_at hl 5 rfl) ?_
                  refine va_iald hx hb hK hP 13 0 rfl rfl (vin (it79 hn b_1) (by decide)) dX12_put_295 ?_
                  refine lv_icmp_ne (tgt := 303) hx hb dX12_put_296 (by decide) (fun c_28 => ?_) (fun c_28 => ?_)
                  ·
                    refine lv_iconst (v := 0) hx hb dX12_put_303 (by decide) ?_
                    refine lv_istore (lv' := [(9, .int 0), (8, .int (nI N)), (7, .int (nI D)), (6, .int 3), (0, .ref h0), (1, .int p0), (2, .int (nI P)), (3, .int (nI X)), (4, .int (nI Y)), (5, .int p4)]) hx hb dX12_put_304 hl (by decide) rfl (fun ls hl => ?_)
                    refine lv_goto (tgt := 343) hx hb dX12_put_306 (by decide) ?_
                    refine lv_iload hx hb dX12_put_343 (lv_at hl 0 rfl) ?_
                    refine lv_if_ne (tgt := 350) hx hb dX12_put_345 (by decide) (fun c_29 => absurd (by decide) c_29) (fun c_29 => ?_)
                    refine lv_iconst (v := (-1)) hx hb dX12_put_348 (by decide) ?_
                    exact W.iret (v := (-1)) hx hb hr (fun t ht hW => ⟨⟨(-1), u, rfl, (Or.inl ⟨rfl, (fun h => c_28 h.2.2.2.2.2.2.2.2), Or.inl rfl⟩), by rw [ht]; exact hP, hD⟩, hS.F ht⟩) hS.2.2 dX12_put_349
                  ·
                    refine lv_iconst (v := 1) hx hb dX12_put_299 (by decide) ?_
                    refine lv_goto (tgt := 304) hx hb dX12_put_300 (by decide) ?_
                    refine lv_istore (lv' := [(9, .int 1), (8, .int (nI N)), (7, .int (nI D)), (6, .int 3), (0, .ref h0), (1, .int p0), (2, .int (nI P)), (3, .int (nI X)), (4, .int (nI Y)), (5, .int p4)]) hx hb dX12_put_304 hl (by decide) rfl (fun ls hl => ?_)
                    refine lv_goto (tgt := 343) hx hb dX12_put_306 (by decide) ?_
                    refine lv_iload hx hb dX12_put_343 (lv_at hl 0 rfl) ?_
                    refine lv_if_ne (tgt := 350) hx hb dX12_put_345 (by decide) (fun c_30 => ?_) (fun c_30 => absurd c_30 (by decide))
                    refine lv_aload_n hx hb dX12_put_350 rfl (lv_at hl 4 rfl) ?_
                    refine lv_iload_n hx hb dX12_put_351 rfl (lv_at hl 5 rfl) ?_
                    refine lv_iload_n hx hb dX12_put_352 rfl (lv_at hl 6 rfl) ?_
                    refine lv_iload_n hx hb dX12_put_353 rfl (lv_at hl 7 rfl) ?_
                    refine lv_iload hx hb dX12_put_354 (lv_at hl 8 rfl) ?_
                    refine lv_iload hx hb dX12_put_356 (lv_at hl 2 rfl) ?_
                    refine lv_iload hx hb dX12_put_358 (lv_at hl 1 rfl) ?_
                    have hFc := fr_all hD hS hA
                    refine va_callv (va_runV (As := [.int p0, .int (nI P), .int (nI X), .int (nI Y), .int (nI D), .int (nI N)]) (rest := []) ⟨hx, hb, hml, hown, hts⟩ (m_stand l dC dI h0 v cI cZ u p0 P X Y D N hPP hXW hYN hi (z05 c_20) s.heap.size) (cwV 6 hts gX12_put_X12_stand rfl rfl rfl zh_X12_stand_25 ⟨Nat.le_of_ble_eq_true rfl, Nat.le_of_ble_eq_true rfl⟩) ⟨gw_fb, va_recv hK hP (ci := 11) (q0 := 0) rfl rfl, fun U hU hW => ⟨rfl, by rw [hU], pw_to hU hW hP hK hN, hD.weaken (fun _ _ _ _ => trivial)⟩⟩ rfl rfl hl.1 rfl (lv_room (Nat.le_of_ble_eq_true rfl)) dX12_put_360 ⟨Nat.le_of_ble_eq_true rfl, Nat.le_of_ble_eq_true rfl⟩) hS (fun q _ h => hFc q h) hFc (fun u_31 t H1 locs ht hvm hw hB hz1 hk1 hS => ?_)
                    obtain ⟨hP, hD1⟩ := hB
                    rw [ht] at hP
                    have hD := hD1.weaken (fun _ q _ h => hFc q.1 h)
                    generalize H1 = H at hP hS ⊢
                    have eu_31 := hw
                    refine lv_aload_n hx hb dX12_put_363 rfl (lv_at hl 4 rfl) ?_
                    refine lv_iconst (v := 0) hx hb dX12_put_364 (by decide) ?_
                    refine lv_iload_n hx hb dX12_put_365 rfl (lv_at hl 5 rfl) ?_
                    refine lv_iconst (v := 0) hx hb dX12_put_366 (by decide) ?_
                    refine lv_iconst (v := 0) hx hb dX12_put_367 (by decide) ?_
                    refine lv_iconst (v := 0) hx hb dX12_put_368 (by decide) ?_
                    refine lv_iconst (v := 0) hx hb dX12_put_369 (by decide) ?_
                    refine lv_iconst (v := 0) hx hb dX12_put_370 (by decide) ?_
                    have hFc := fr_all hD hS hA
                    refine va_callv (va_runV (As := [.int 0, .int p0, .int 0, .int 0, .int 0, .int 0, .int 0]) (rest := []) ⟨hx, hb, hml, hown, hts⟩ (m_acts l dC dI h0 v cI cZ u_31 0 p0 0 0 0 0 0 (by rw [eu_31]; show bw (u.1 28) 0 299 = true; exact v300 ha h300) H.size) (cwV 7 hts gX12_put_X12_acts rfl rfl rfl zh_X12_acts_10 ⟨Nat.le_of_ble_eq_true rfl, Nat.le_of_ble_eq_true rfl⟩) ⟨gw_fb, va_recv hK hP (ci := 11) (q0 := 0) rfl rfl, fun U hU hW => ⟨rfl, by rw [hU], pw_to hU hW hP hK hN, hD.weaken (fun _ _ _ _ => trivial)⟩⟩ rfl rfl hl.1 rfl (lv_room (Nat.le_of_ble_eq_true rfl)) dX12_put_371 ⟨Nat.le_of_ble_eq_true rfl, Nat.le_of_ble_eq_true rfl⟩) hS (fun q _ h => hFc q h) hFc (fun u_32 t H1 locs ht hvm hw hB hz1 hk1 hS => ?_)
                    obtain ⟨hP, hD1⟩ := hB
                    rw [ht] at hP
                    have hD := hD1.weaken (fun _ q _ h => hFc q.1 h)
                    generalize H1 = H at hP hS ⊢
                    have eu_32 := hw
                    refine lv_aload_n hx hb dX12_put_374 rfl (lv_at hl 4 rfl) ?_
                    refine va_get (D := (dC, dI)) (ci := 11) (v := .ref (v 22)) (C := RX12) (T := TX12) (N := 52) hx hb hts zl_X12_put_X12 hown hK hP 0 rfl rfl 22 (by decide) (hts (.fieldLink RX12 74 "PageOneModel" "pieces" "[I") (zat q_wsX12_put k_wsX12_put 904 rfl (by decide +kernel))) (fun _ h9 => h9) rfl dX12_put_375 ?_
                    refine lv_iload_n hx hb dX12_put_378 rfl (lv_at hl 5 rfl) ?_
                    refine va_iald hx hb hK hP 22 0 rfl rfl (vin (it79 hn b_1) (by decide)) dX12_put_379 ?_
                    exact W.iret (v := (u_32.2 22 (p0 : Int32).toNatClampNeg)) hx hb hr (fun t ht hW => ⟨⟨(u_32.2 22 (p0 : Int32).toNatClampNeg), u_32, rfl, (Or.inr ⟨⟨hit, h300, c_13, c_17, c_20, hfree0, ⟨c_24, c_26, c_28⟩⟩, (by rw [eu_32, eu_31, putR]), P, X, Y, D, N, rfl, rfl, rfl, eD, eN, hPP, hXW, hYN, hDD1, hN1, (Or.inl (by rw [eu_32, eu_31]))⟩), by rw [ht]; exact hP, hD⟩, hS.F ht⟩) hS.2.2 dX12_put_380
            ·
              subst hw
              refine lv_if_eq (tgt := 200) hx hb dX12_put_193 (by decide) (fun c_33 => ?_) (fun c_33 => absurd (by decide) c_33)
              refine lv_iconst (v := 0) hx hb dX12_put_200 (by decide) ?_
              refine lv_istore (lv' := [(9, .int 0), (8, .int (u.2 8 (p0 : Int32).toNatClampNeg)), (7, .int (u.2 7 (p0 : Int32).toNatClampNeg)), (6, .int 3), (0, .ref h0), (1, .int p0), (2, .int p1), (3, .int p2), (4, .int p3), (5, .int p4)]) hx hb dX12_put_201 hl (by decide) rfl (fun ls hl => ?_)
              refine lv_iload hx hb dX12_put_203 (lv_at hl 0 rfl) ?_
              refine lv_if_ne (tgt := 210) hx hb dX12_put_205 (by decide) (fun c_34 => absurd (by decide) c_34) (fun c_34 => ?_)
              refine lv_iconst (v := (-1)) hx hb dX12_put_208 (by decide) ?_
              exact W.iret (v := (-1)) hx hb hr (fun t ht hW => ⟨⟨(-1), u, rfl, (Or.inl ⟨rfl, (fun h => hfree h.2.2.2.2.2.1), Or.inl rfl⟩), by rw [ht]; exact hP, hD⟩, hS.F ht⟩) hS.2.2 dX12_put_209
    ·
      refine lv_iconst (v := (-1)) hx hb dX12_put_18 (by decide) ?_
      exact W.iret (v := (-1)) hx hb hr (fun t ht hW => ⟨⟨(-1), u, rfl, (Or.inl ⟨rfl, (fun h => h.2.1 c_3), Or.inl rfl⟩), by rw [ht]; exact hP, hD⟩, hS.F ht⟩) hS.2.2 dX12_put_19
  ·
    obtain rfl : r = 0 := b_f hw b_1
    refine lv_if_eq (tgt := 18) hx hb dX12_put_5 (by decide) (fun c_35 => ?_) (fun c_35 => absurd (by decide) c_35)
    refine lv_iconst (v := (-1)) hx hb dX12_put_18 (by decide) ?_
    exact W.iret (v := (-1)) hx hb hr (fun t ht hW => ⟨⟨(-1), u, rfl, (Or.inl ⟨rfl, (fun h => bne b_1 h.1), Or.inl rfl⟩), by rw [ht]; exact hP, hD⟩, hS.F ht⟩) hS.2.2 dX12_put_19
set_option maxHeartbeats 4000000 in
set_option maxRecDepth 100000 in
theorem o_put4 (l : Launch) (dC : Nat → ClassId) (dI : Nat → Nat → Nat) (h0 : Nat) (v : Nat → Nat) (cI cZ : ClassId) (u : mS) (p0 p1 p2 p3 p4 : Int32) (hn : bw (u.1 3) 0 80 = true) (hln : ∀ j, j < 96 → bw (u.2 0 j) 0 60 = true) (hd : bw (u.1 38) 0 399 = true) (ha : bw (u.1 28) 0 300 = true) (hpc : ∀ j, j < 80 → bw (u.2 22 j) 0 6 = true) (hcm : ∀ j, j < 80 → bw (u.2 15 j) 0 80 = true) (hsz : ∀ j, j < 80 → bw (u.2 17 j) 0 4 = true) (hfr : bw p0 0 79 = true → ∀ P X Y N : Nat, P < 12 → X + 1 ≤ 8 → 1 ≤ N → Y + N ≤ 60 → ¬ u.2 22 p0.toNatClampNeg = 6 → runG (mStand u p0 P X Y 1 N) p0 (u.2 22 p0.toNatClampNeg) → 0 ≤ (mFrom (mStand u p0 P X Y 1 N) p0 (u.2 22 p0.toNatClampNeg).toNatClampNeg).toInt ∧ (mFrom (mStand u p0 P X Y 1 N) p0 (u.2 22 p0.toNatClampNeg).toNatClampNeg).toInt ≤ 400 ∧ (mTakes (mStand u p0 P X Y 1 N) p0 (u.2 22 p0.toNatClampNeg)).toInt ≤ 60) (hK9 : bw p0 0 (u.1 3 - 1) = true → u.2 4 p0.toNatClampNeg = 4) (sz : Nat) : Met l yX12_put wsX12_put ({ frames := 4, cells := 0, slots := 0, locals := 106 }) (va_Pc [.ref h0, .int p0, .int p1, .int p2, .int p3, .int p4] (fun U => U.heap.size = sz ∧ PW dC dI (mW h0 v cI cZ u) [(cI, .int), (cZ, .boolean)] U ∧ va_D (fun _ => True) (mW h0 v cI cZ u))) (va_Qi (fun (r : Int32) (u9 : mS) => rPut u p0 p1 p2 p3 1 p4 (okP4 u p0 p1 p2 p3 p4) r u9) (fun u9 t => va_P (dC, dI) vwCl (mW h0 v cI cZ u9) t.heap ∧ va_D (va_A (mW h0 v cI cZ u) sz) (mW h0 v cI cZ u9)) (va_A (mW h0 v cI cZ u) sz)) 0 0 (va_A (mW h0 v cI cZ u) sz) := by
  refine Met.ofW (cc := cX12_put) (maxL := 10) (ret := (some .int)) (by decide) rfl ?_
  intro p e s m args below meth c s₁ B hml hv
  obtain ⟨rfl, hsz, ⟨hP, hK, hN⟩, hD0⟩ := hv
  have hx := B.exec
  have hb := B.bytes
  have hr := B.returns
  have hts := atoms_spec (ws := wsX12_put) B.pre
  have hown : s.vm.findClass RX12 = some m.cls := findClass_of_methodNamed B.named
  have hlocks := B.notSynchronized
  subst hsz
  have hD := hD0.self (sz := s.heap.size)
  generalize hAe : va_A (mW h0 v cI cZ u) s.heap.size = A at hD ⊢
  have hA : ∀ q : Nat, s.heap.size ≤ q → A q := fun q h => by rw [← hAe]; exact Or.inr h
  have hS : va_S A s.heap s.heap [] := va_S.rf
  have hl := lv_entry ([.ref h0, .int p0, .int p1, .int p2, .int p3, .int p4]) (n := 10) (Nat.le_of_ble_eq_true rfl)
  rw [lg_entry_eq]
  generalize (lg_sl ([.ref h0, .int p0, .int p1, .int p2, .int p3, .int p4]) ++ List.replicate (10 - (lg_sl ([.ref h0, .int p0, .int p1, .int p2, .int p3, .int p4])).length) Slot.unset).toArray = ls at hl ⊢
  have hl : lv_has ls 10 [(0, .ref h0), (1, .int p0), (2, .int p1), (3, .int p2), (4, .int p3), (5, .int p4)] := hl
  refine lv_aload_n hx hb dX12_put_0 rfl (lv_at hl 0 rfl) ?_
  refine lv_iload_n hx hb dX12_put_1 rfl (lv_at hl 1 rfl) ?_
  refine vp_callSi (va_runV (As := [.int p0]) (rest := []) ⟨hx, hb, hml, hown, hts⟩ (m_isItem l dC dI h0 v cI cZ u p0) (cwV 1 hts gX12_put_X12_isItem rfl rfl rfl zh_X12_isItem_1 ⟨Nat.le_of_ble_eq_true rfl, Nat.le_of_ble_eq_true rfl⟩) ⟨pw_fb, va_recv hK hP (ci := 11) (q0 := 0) rfl rfl, fun U hU hW => ⟨rfl, pw_to hU hW hP hK hN⟩⟩ rfl rfl hl.1 rfl (lv_room (Nat.le_of_ble_eq_true rfl)) dX12_put_2 ⟨Nat.le_of_ble_eq_true rfl, Nat.le_of_ble_eq_true rfl⟩).run (fun r hw => ?_)
  rcases Bool.eq_false_or_eq_true (bw p0 0 (u.1 3 - 1)) with b_1 | b_1
  ·
    obtain rfl : r = 1 := b_t hw b_1
    refine lv_if_eq (tgt := 18) hx hb dX12_put_5 (by decide) (fun c_2 => absurd c_2 (by decide)) (fun c_2 => ?_)
    refine lv_aload_n hx hb dX12_put_8 rfl (lv_at hl 0 rfl) ?_
    refine va_get (D := (dC, dI)) (ci := 11) (v := .int (u.1 28)) (C := RX12) (T := TX12) (N := 52) hx hb hts zl_X12_put_X12 hown hK hP 0 rfl rfl 28 (by decide) (hts (.fieldLink RX12 158 "PageOneModel" "acts" "I") (zat q_wsX12_put k_wsX12_put 910 rfl (by decide +kernel))) (fun _ h9 => h9) rfl dX12_put_9 ?_
    refine lv_sipush (v := 300) hx hb dX12_put_12 (by decide) ?_
    refine lv_icmp_ne (tgt := 20) hx hb dX12_put_15 (by decide) (fun c_3 => ?_) (fun c_3 => ?_)
    ·
      refine lv_aload_n hx hb dX12_put_20 rfl (lv_at hl 0 rfl) ?_
      refine va_get (D := (dC, dI)) (ci := 11) (v := .ref (v 4)) (C := RX12) (T := TX12) (N := 52) hx hb hts zl_X12_put_X12 hown hK hP 0 rfl rfl 4 (by decide) (hts (.fieldLink RX12 19 "PageOneModel" "kind" "[I") (zat q_wsX12_put k_wsX12_put 886 rfl (by decide +kernel))) (fun _ h9 => h9) rfl dX12_put_21 ?_
      refine lv_iload_n hx hb dX12_put_24 rfl (lv_at hl 1 rfl) ?_
      refine va_iald hx hb hK hP 4 0 rfl rfl (vin (it79 hn b_1) (by decide)) dX12_put_25 ?_
      refine lv_topi (fun y_4 ey_4 => ?_)
      obtain rfl : y_4 = 4 := ey_4.trans (hK9 b_1)
      refine lv_istore (lv' := [(6, .int 4), (0, .ref h0), (1, .int p0), (2, .int p1), (3, .int p2), (4, .int p3), (5, .int p4)]) hx hb dX12_put_26 hl (by decide) rfl (fun ls hl => ?_)
      refine lv_iload hx hb dX12_put_28 (lv_at hl 0 rfl) ?_
      refine lv_iconst (v := 1) hx hb dX12_put_30 (by decide) ?_
      refine lv_icmp_eq (tgt := 40) hx hb dX12_put_31 (by decide) (fun c_5 => absurd c_5 (by decide)) (fun c_5 => ?_)
      refine lv_iload hx hb dX12_put_34 (lv_at hl 0 rfl) ?_
      refine lv_iconst (v := 3) hx hb dX12_put_36 (by decide) ?_
      refine lv_icmp_ne (tgt := 49) hx hb dX12_put_37 (by decide) (fun c_6 => ?_) (fun c_6 => absurd c_6 (by decide))
      refine lv_iconst (v := 1) hx hb dX12_put_49 (by decide) ?_
      refine lv_istore (lv' := [(7, .int 1), (6, .int 4), (0, .ref h0), (1, .int p0), (2, .int p1), (3, .int p2), (4, .int p3), (5, .int p4)]) hx hb dX12_put_50 hl (by decide) rfl (fun ls hl => ?_)
      refine lv_iload hx hb dX12_put_52 (lv_at hl 1 rfl) ?_
      refine lv_if_eq (tgt := 63) hx hb dX12_put_54 (by decide) (fun c_7 => absurd c_7 (by decide)) (fun c_7 => ?_)
      refine lv_iload hx hb dX12_put_57 (lv_at hl 1 rfl) ?_
      refine lv_iconst (v := 4) hx hb dX12_put_59 (by decide) ?_
      refine lv_icmp_ne (tgt := 68) hx hb dX12_put_60 (by decide) (fun c_8 => absurd (by decide) c_8) (fun c_8 => ?_)
      refine lv_iload hx hb dX12_put_63 (lv_at hl 7 rfl) ?_
      refine lv_goto (tgt := 74) hx hb dX12_put_65 (by decide) ?_
      refine lv_istore (lv' := [(8, .int p4), (7, .int 1), (6, .int 4), (0, .ref h0), (1, .int p0), (2, .int p1), (3, .int p2), (4, .int p3), (5, .int p4)]) hx hb dX12_put_74 hl (by decide) rfl (fun ls hl => ?_)
      refine lv_iload hx hb dX12_put_76 (lv_at hl 2 rfl) ?_
      refine lv_iconst (v := 2) hx hb dX12_put_78 (by decide) ?_
      refine lv_icmp_ne (tgt := 127) hx hb dX12_put_79 (by decide) (fun c_9 => ?_) (fun c_9 => absurd c_9 (by decide))
      refine lv_iload hx hb dX12_put_127 (lv_at hl 2 rfl) ?_
      refine lv_if_eq (tgt := 149) hx hb dX12_put_129 (by decide) (fun c_10 => absurd c_10 (by decide)) (fun c_10 => ?_)
      refine lv_iload hx hb dX12_put_132 (lv_at hl 2 rfl) ?_
      refine lv_iconst (v := 4) hx hb dX12_put_134 (by decide) ?_
      refine lv_icmp_eq (tgt := 149) hx hb dX12_put_135 (by decide) (fun c_11 => ?_) (fun c_11 => absurd (by decide) c_11)
      refine lv_iconst (v := 1) hx hb dX12_put_149 (by decide) ?_
      refine lv_goto (tgt := 154) hx hb dX12_put_150 (by decide) ?_
      refine lv_istore (lv' := [(9, .int 1), (8, .int p4), (7, .int 1), (6, .int 4), (0, .ref h0), (1, .int p0), (2, .int p1), (3, .int p2), (4, .int p3), (5, .int p4)]) hx hb dX12_put_154 hl (by decide) rfl (fun ls hl => ?_)
      refine lv_iload hx hb dX12_put_156 (lv_at hl 0 rfl) ?_
      refine lv_if_eq (tgt := 200) hx hb dX12_put_158 (by decide) (fun c_12 => absurd c_12 (by decide)) (fun c_12 => ?_)
      refine lv_iload hx hb dX12_put_161 (lv_at hl 1 rfl) ?_
      refine lv_iconst (v := 1) hx hb dX12_put_163 (by decide) ?_
      refine lv_icmp_lt (tgt := 200) hx hb dX12_put_164 (by decide) (fun c_13 => ?_) (fun c_13 => ?_)
      ·
        refine lv_iconst (v := 0) hx hb dX12_put_200 (by decide) ?_
        refine lv_istore (lv' := [(9, .int 0), (8, .int p4), (7, .int 1), (6, .int 4), (0, .ref h0), (1, .int p0), (2, .int p1), (3, .int p2), (4, .int p3), (5, .int p4)]) hx hb dX12_put_201 hl (by decide) rfl (fun ls hl => ?_)
        refine lv_iload hx hb dX12_put_203 (lv_at hl 0 rfl) ?_
        refine lv_if_ne (tgt := 210) hx hb dX12_put_205 (by decide) (fun c_14 => absurd (by decide) c_14) (fun c_14 => ?_)
        refine lv_iconst (v := (-1)) hx hb dX12_put_208 (by decide) ?_
        exact W.iret (v := (-1)) hx hb hr (fun t ht hW => ⟨⟨(-1), u, rfl, (Or.inl ⟨rfl, (fun h => h.2.2.2.1 c_13), Or.inl rfl⟩), by rw [ht]; exact hP, hD⟩, hS.F ht⟩) hS.2.2 dX12_put_209
      ·
        refine lv_iload hx hb dX12_put_167 (lv_at hl 3 rfl) ?_
        refine lv_if_eq (tgt := 181) hx hb dX12_put_169 (by decide) (fun c_15 => absurd c_15 (by decide)) (fun c_15 => ?_)
        refine lv_aload_n hx hb dX12_put_172 rfl (lv_at hl 4 rfl) ?_
        refine va_get (D := (dC, dI)) (ci := 11) (v := .ref (v 22)) (C := RX12) (T := TX12) (N := 52) hx hb hts zl_X12_put_X12 hown hK hP 0 rfl rfl 22 (by decide) (hts (.fieldLink RX12 74 "PageOneModel" "pieces" "[I") (zat q_wsX12_put k_wsX12_put 904 rfl (by decide +kernel))) (fun _ h9 => h9) rfl dX12_put_173 ?_
        refine lv_iload_n hx hb dX12_put_176 rfl (lv_at hl 5 rfl) ?_
        refine va_iald hx hb hK hP 22 0 rfl rfl (vin (it79 hn b_1) (by decide)) dX12_put_177 ?_
        refine lv_if_ne (tgt := 200) hx hb dX12_put_178 (by decide) (fun c_16 => ?_) (fun c_16 => ?_)
        ·
          refine lv_iconst (v := 0) hx hb dX12_put_200 (by decide) ?_
          refine lv_istore (lv' := [(9, .int 0), (8, .int p4), (7, .int 1), (6, .int 4), (0, .ref h0), (1, .int p0), (2, .int p1), (3, .int p2), (4, .int p3), (5, .int p4)]) hx hb dX12_put_201 hl (by decide) rfl (fun ls hl => ?_)
          refine lv_iload hx hb dX12_put_203 (lv_at hl 0 rfl) ?_
          refine lv_if_ne (tgt := 210) hx hb dX12_put_205 (by decide) (fun c_17 => absurd (by decide) c_17) (fun c_17 => ?_)
          refine lv_iconst (v := (-1)) hx hb dX12_put_208 (by decide) ?_
          exact W.iret (v := (-1)) hx hb hr (fun t ht hW => ⟨⟨(-1), u, rfl, (Or.inl ⟨rfl, (fun h => c_16 h.2.2.2.2.1), Or.inl rfl⟩), by rw [ht]; exact hP, hD⟩, hS.F ht⟩) hS.2.2 dX12_put_209
        ·
          refine lv_aload_n hx hb dX12_put_181 rfl (lv_at hl 4 rfl) ?_
          refine lv_iload_n hx hb dX12_put_182 rfl (lv_at hl 6 rfl) ?_
          refine lv_iload_n hx hb dX12_put_183 rfl (lv_at hl 7 rfl) ?_
          refine lv_iload hx hb dX12_put_184 (lv_at hl 8 rfl) ?_
          refine lv_iload hx hb dX12_put_186 (lv_at hl 2 rfl) ?_
          refine lv_iload hx hb dX12_put_188 (lv_at hl 1 rfl) ?_
          refine vp_callSi (va_runV (As := [.int p1, .int p2, .int p3, .int 1, .int p4]) (rest := []) ⟨hx, hb, hml, hown, hts⟩ (m_isFree l dC dI h0 v cI cZ u p1 p2 p3 1 p4 hln) (cwV 5 hts gX12_put_X12_isFree rfl rfl rfl zh_X12_isFree_28 ⟨Nat.le_of_ble_eq_true rfl, Nat.le_of_ble_eq_true rfl⟩) ⟨pw_fb, va_recv hK hP (ci := 11) (q0 := 0) rfl rfl, fun U hU hW => ⟨rfl, pw_to hU hW hP hK hN⟩⟩ rfl rfl hl.1 rfl (lv_room (Nat.le_of_ble_eq_true rfl)) dX12_put_190 ⟨Nat.le_of_ble_eq_true rfl, Nat.le_of_ble_eq_true rfl⟩).run (fun r hw => ?_)
          have hit := b_1
          have hi := it79 hn hit
          have h300 := c_3
          rcases hw with ⟨hw, hfree⟩ | ⟨hw, hfree⟩
          ·
            subst hw
            have hfree0 := hfree
            obtain ⟨P, X, Y, D, N, eP, eX, eY, eD, eN, hPP, hXW, hYN, hDD1, hN1⟩ := free_rect hln hfree
            subst eP eX eY
            obtain rfl : D = 1 := (nI_inj (by omega) (by decide)).mp (show nI D = nI 1 from eD.symm)
            subst eN
            refine lv_if_eq (tgt := 200) hx hb dX12_put_193 (by decide) (fun c_18 => absurd c_18 (by decide)) (fun c_18 => ?_)
            refine lv_iconst (v := 1) hx hb dX12_put_196 (by decide) ?_
            refine lv_goto (tgt := 201) hx hb dX12_put_197 (by decide) ?_
            refine lv_istore (lv' := [(9, .int 1), (8, .int (nI N)), (7, .int 1), (6, .int 4), (0, .ref h0), (1, .int p0), (2, .int (nI P)), (3, .int (nI X)), (4, .int (nI Y)), (5, .int (nI N))]) hx hb dX12_put_201 hl (by decide) rfl (fun ls hl => ?_)
            refine lv_iload hx hb dX12_put_203 (lv_at hl 0 rfl) ?_
            refine lv_if_ne (tgt := 210) hx hb dX12_put_205 (by decide) (fun c_19 => ?_) (fun c_19 => absurd c_19 (by decide))
            refine lv_iload hx hb dX12_put_210 (lv_at hl 3 rfl) ?_
            refine lv_tableIn (tgt := 309) (off := 97) hx hb dX12_put_212 (by decide) (by decide) (by decide) (by decide) ?_
            refine lv_iload hx hb dX12_put_309 (lv_at hl 1 rfl) ?_
            refine lv_aload_n hx hb dX12_put_311 rfl (lv_at hl 4 rfl) ?_
            refine va_get (D := (dC, dI)) (ci := 11) (v := .ref (v 5)) (C := RX12) (T := TX12) (N := 52) hx hb hts zl_X12_put_X12 hown hK hP 0 rfl rfl 5 (by decide) (hts (.fieldLink RX12 22 "PageOneModel" "least" "[I") (zat q_wsX12_put k_wsX12_put 887 rfl (by decide +kernel))) (fun _ h9 => h9) rfl dX12_put_312 ?_
            refine lv_iload_n hx hb dX12_put_315 rfl (lv_at hl 5 rfl) ?_
            refine va_iald hx hb hK hP 5 0 rfl rfl (vin (it79 hn b_1) (by decide)) dX12_put_316 ?_
            refine lv_aload_n hx hb dX12_put_317 rfl (lv_at hl 4 rfl) ?_
            refine va_get (D := (dC, dI)) (ci := 11) (v := .ref (v 6)) (C := RX12) (T := TX12) (N := 52) hx hb hts zl_X12_put_X12 hown hK hP 0 rfl rfl 6 (by decide) (hts (.fieldLink RX12 25 "PageOneModel" "most" "[I") (zat q_wsX12_put k_wsX12_put 888 rfl (by decide +kernel))) (fun _ h9 => h9) rfl dX12_put_318 ?_
            refine lv_iload_n hx hb dX12_put_321 rfl (lv_at hl 5 rfl) ?_
            refine va_iald hx hb hK hP 6 0 rfl rfl (vin (it79 hn b_1) (by decide)) dX12_put_322 ?_
            refine vp_callSi (va_runS (As := [.int (nI N), .int (u.2 5 (p0 : Int32).toNatClampNeg), .int (u.2 6 (p0 : Int32).toNatClampNeg)]) (rest := []) ⟨hx, hb, hml, hown, hts⟩ (m_in l dC dI (nI N) (u.2 5 (p0 : Int32).toNatClampNeg) (u.2 6 (p0 : Int32).toNatClampNeg)) (va_cwS 3 hts gX12_put_X12_in rfl rfl rfl zh_X12_in_0 ⟨Nat.le_of_ble_eq_true rfl, Nat.le_of_ble_eq_true rfl⟩) ⟨pw_fb, fun U hU hW => ⟨rfl, pw_to hU hW (hP.sub (ws' := []) [] rfl) (hK.sub (tys' := []) [] rfl) hN⟩⟩ rfl rfl hl.1 rfl (lv_room (Nat.le_of_ble_eq_true rfl)) dX12_put_323 ⟨Nat.le_of_ble_eq_true rfl, Nat.le_of_ble_eq_true rfl⟩).run (fun r hw => ?_)
            rcases Bool.eq_false_or_eq_true (bw (nI N) (u.2 5 (p0 : Int32).toNatClampNeg) (u.2 6 (p0 : Int32).toNatClampNeg)) with b_20 | b_20
            ·
              obtain rfl : r = 1 := b_t hw b_20
              refine lv_istore (lv' := [(9, .int 1), (8, .int (nI N)), (7, .int 1), (6, .int 4), (0, .ref h0), (1, .int p0), (2, .int (nI P)), (3, .int (nI X)), (4, .int (nI Y)), (5, .int (nI N))]) hx hb dX12_put_326 hl (by decide) rfl (fun ls hl => ?_)
              refine lv_goto (tgt := 343) hx hb dX12_put_328 (by decide) ?_
              refine lv_iload hx hb dX12_put_343 (lv_at hl 0 rfl) ?_
              refine lv_if_ne (tgt := 350) hx hb dX12_put_345 (by decide) (fun c_21 => ?_) (fun c_21 => absurd c_21 (by decide))
              refine lv_aload_n hx hb dX12_put_350 rfl (lv_at hl 4 rfl) ?_
              refine lv_iload_n hx hb dX12_put_351 rfl (lv_at hl 5 rfl) ?_
              refine lv_iload_n hx hb dX12_put_352 rfl (lv_at hl 6 rfl) ?_
              refine lv_iload_n hx hb dX12_put_353 rfl (lv_at hl 7 rfl) ?_
              refine lv_iload hx hb dX12_put_354 (lv_at hl 8 rfl) ?_
              refine lv_iload hx hb dX12_put_356 (lv_at hl 2 rfl) ?_
              refine lv_iload hx hb dX12_put_358 (lv_at hl 1 rfl) ?_
              have hFc := fr_all hD hS hA
              refine va_callv (va_runV (As := [.int p0, .int (nI P), .int (nI X), .int (nI Y), .int 1, .int (nI N)]) (rest := []) ⟨hx, hb, hml, hown, hts⟩ (m_stand l dC dI h0 v cI cZ u p0 P X Y 1 N hPP hXW hYN hi (z05 c_16) s.heap.size) (cwV 6 hts gX12_put_X12_stand rfl rfl rfl zh_X12_stand_25 ⟨Nat.le_of_ble_eq_true rfl, Nat.le_of_ble_eq_true rfl⟩) ⟨gw_fb, va_recv hK hP (ci := 11) (q0 := 0) rfl rfl, fun U hU hW => ⟨rfl, by rw [hU], pw_to hU hW hP hK hN, hD.weaken (fun _ _ _ _ => trivial)⟩⟩ rfl rfl hl.1 rfl (lv_room (Nat.le_of_ble_eq_true rfl)) dX12_put_360 ⟨Nat.le_of_ble_eq_true rfl, Nat.le_of_ble_eq_true rfl⟩) hS (fun q _ h => hFc q h) hFc (fun u_22 t H1 locs ht hvm hw hB hz1 hk1 hS => ?_)
              obtain ⟨hP, hD1⟩ := hB
              rw [ht] at hP
              have hD := hD1.weaken (fun _ q _ h => hFc q.1 h)
              generalize H1 = H at hP hS ⊢
              have eu_22 := hw
              refine lv_aload_n hx hb dX12_put_363 rfl (lv_at hl 4 rfl) ?_
              refine lv_iconst (v := 0) hx hb dX12_put_364 (by decide) ?_
              refine lv_iload_n hx hb dX12_put_365 rfl (lv_at hl 5 rfl) ?_
              refine lv_iconst (v := 0) hx hb dX12_put_366 (by decide) ?_
              refine lv_iconst (v := 0) hx hb dX12_put_367 (by decide) ?_
              refine lv_iconst (v := 0) hx hb dX12_put_368 (by decide) ?_
              refine lv_iconst (v := 0) hx hb dX12_put_369 (by decide) ?_
              refine lv_iconst (v := 0) hx hb dX12_put_370 (by decide) ?_
              have hFc := fr_all hD hS hA
              refine va_callv (va_runV (As := [.int 0, .int p0, .int 0, .int 0, .int 0, .int 0, .int 0]) (rest := []) ⟨hx, hb, hml, hown, hts⟩ (m_acts l dC dI h0 v cI cZ u_22 0 p0 0 0 0 0 0 (by rw [eu_22]; show bw (u.1 28) 0 299 = true; exact v300 ha h300) H.size) (cwV 7 hts gX12_put_X12_acts rfl rfl rfl zh_X12_acts_10 ⟨Nat.le_of_ble_eq_true rfl, Nat.le_of_ble_eq_true rfl⟩) ⟨gw_fb, va_recv hK hP (ci := 11) (q0 := 0) rfl rfl, fun U hU hW => ⟨rfl, by rw [hU], pw_to hU hW hP hK hN, hD.weaken (fun _ _ _ _ => trivial)⟩⟩ rfl rfl hl.1 rfl (lv_room (Nat.le_of_ble_eq_true rfl)) dX12_put_371 ⟨Nat.le_of_ble_eq_true rfl, Nat.le_of_ble_eq_true rfl⟩) hS (fun q _ h => hFc q h) hFc (fun u_23 t H1 locs ht hvm hw hB hz1 hk1 hS => ?_)
              obtain ⟨hP, hD1⟩ := hB
              rw [ht] at hP
              have hD := hD1.weaken (fun _ q _ h => hFc q.1 h)
              generalize H1 = H at hP hS ⊢
              have eu_23 := hw
              refine lv_aload_n hx hb dX12_put_374 rfl (lv_at hl 4 rfl) ?_
              refine va_get (D := (dC, dI)) (ci := 11) (v := .ref (v 22)) (C := RX12) (T := TX12) (N := 52) hx hb hts zl_X12_put_X12 hown hK hP 0 rfl rfl 22 (by decide) (hts (.fieldLink RX12 74 "PageOneModel" "pieces" "[I") (zat q_wsX12_put k_wsX12_put 904 rfl (by decide +kernel))) (fun _ h9 => h9) rfl dX12_put_375 ?_
              refine lv_iload_n hx hb dX12_put_378 rfl (lv_at hl 5 rfl) ?_
              refine va_iald hx hb hK hP 22 0 rfl rfl (vin (it79 hn b_1) (by decide)) dX12_put_379 ?_
              exact W.iret (v := (u_23.2 22 (p0 : Int32).toNatClampNeg)) hx hb hr (fun t ht hW => ⟨⟨(u_23.2 22 (p0 : Int32).toNatClampNeg), u_23, rfl, (Or.inr ⟨⟨hit, h300, trivial, c_13, c_16, hfree0, b_20⟩, (by rw [eu_23, eu_22, putR]), P, X, Y, 1, N, rfl, rfl, rfl, rfl, rfl, hPP, hXW, hYN, hDD1, hN1, (Or.inl (by rw [eu_23, eu_22]))⟩), by rw [ht]; exact hP, hD⟩, hS.F ht⟩) hS.2.2 dX12_put_380
            ·
              obtain rfl : r = 0 := b_f hw b_20
              refine lv_istore (lv' := [(9, .int 0), (8, .int (nI N)), (7, .int 1), (6, .int 4), (0, .ref h0), (1, .int p0), (2, .int (nI P)), (3, .int (nI X)), (4, .int (nI Y)), (5, .int (nI N))]) hx hb dX12_put_326 hl (by decide) rfl (fun ls hl => ?_)
              refine lv_goto (tgt := 343) hx hb dX12_put_328 (by decide) ?_
              refine lv_iload hx hb dX12_put_343 (lv_at hl 0 rfl) ?_
              refine lv_if_ne (tgt := 350) hx hb dX12_put_345 (by decide) (fun c_24 => absurd (by decide) c_24) (fun c_24 => ?_)
              refine lv_iconst (v := (-1)) hx hb dX12_put_348 (by decide) ?_
              exact W.iret (v := (-1)) hx hb hr (fun t ht hW => ⟨⟨(-1), u, rfl, (Or.inl ⟨rfl, (fun h => bne b_20 h.2.2.2.2.2.2), Or.inl rfl⟩), by rw [ht]; exact hP, hD⟩, hS.F ht⟩) hS.2.2 dX12_put_349
          ·
            subst hw
            refine lv_if_eq (tgt := 200) hx hb dX12_put_193 (by decide) (fun c_25 => ?_) (fun c_25 => absurd (by decide) c_25)
            refine lv_iconst (v := 0) hx hb dX12_put_200 (by decide) ?_
            refine lv_istore (lv' := [(9, .int 0), (8, .int p4), (7, .int 1), (6, .int 4), (0, .ref h0), (1, .int p0), (2, .int p1), (3, .int p2), (4, .int p3), (5, .int p4)]) hx hb dX12_put_201 hl (by decide) rfl (fun ls hl => ?_)
            refine lv_iload hx hb dX12_put_203 (lv_at hl 0 rfl) ?_
            refine lv_if_ne (tgt := 210) hx hb dX12_put_205 (by decide) (fun c_26 => absurd (by decide) c_26) (fun c_26 => ?_)
            refine lv_iconst (v := (-1)) hx hb dX12_put_208 (by decide) ?_
            exact W.iret (v := (-1)) hx hb hr (fun t ht hW => ⟨⟨(-1), u, rfl, (Or.inl ⟨rfl, (fun h => hfree h.2.2.2.2.2.1), Or.inl rfl⟩), by rw [ht]; exact hP, hD⟩, hS.F ht⟩) hS.2.2 dX12_put_209
    ·
      refine lv_iconst (v := (-1)) hx hb dX12_put_18 (by decide) ?_
      exact W.iret (v := (-1)) hx hb hr (fun t ht hW => ⟨⟨(-1), u, rfl, (Or.inl ⟨rfl, (fun h => h.2.1 c_3), Or.inl rfl⟩), by rw [ht]; exact hP, hD⟩, hS.F ht⟩) hS.2.2 dX12_put_19
  ·
    obtain rfl : r = 0 := b_f hw b_1
    refine lv_if_eq (tgt := 18) hx hb dX12_put_5 (by decide) (fun c_27 => ?_) (fun c_27 => absurd (by decide) c_27)
    refine lv_iconst (v := (-1)) hx hb dX12_put_18 (by decide) ?_
    exact W.iret (v := (-1)) hx hb hr (fun t ht hW => ⟨⟨(-1), u, rfl, (Or.inl ⟨rfl, (fun h => bne b_1 h.1), Or.inl rfl⟩), by rw [ht]; exact hP, hD⟩, hS.F ht⟩) hS.2.2 dX12_put_19
set_option maxHeartbeats 4000000 in
set_option maxRecDepth 100000 in
theorem o_put5 (l : Launch) (dC : Nat → ClassId) (dI : Nat → Nat → Nat) (h0 : Nat) (v : Nat → Nat) (cI cZ : ClassId) (u : mS) (p0 p1 p2 p3 p4 : Int32) (hn : bw (u.1 3) 0 80 = true) (hln : ∀ j, j < 96 → bw (u.2 0 j) 0 60 = true) (hd : bw (u.1 38) 0 399 = true) (ha : bw (u.1 28) 0 300 = true) (hpc : ∀ j, j < 80 → bw (u.2 22 j) 0 6 = true) (hcm : ∀ j, j < 80 → bw (u.2 15 j) 0 80 = true) (hsz : ∀ j, j < 80 → bw (u.2 17 j) 0 4 = true) (hfr : bw p0 0 79 = true → ∀ P X Y N : Nat, P < 12 → X + 1 ≤ 8 → 1 ≤ N → Y + N ≤ 60 → ¬ u.2 22 p0.toNatClampNeg = 6 → runG (mStand u p0 P X Y 1 N) p0 (u.2 22 p0.toNatClampNeg) → 0 ≤ (mFrom (mStand u p0 P X Y 1 N) p0 (u.2 22 p0.toNatClampNeg).toNatClampNeg).toInt ∧ (mFrom (mStand u p0 P X Y 1 N) p0 (u.2 22 p0.toNatClampNeg).toNatClampNeg).toInt ≤ 400 ∧ (mTakes (mStand u p0 P X Y 1 N) p0 (u.2 22 p0.toNatClampNeg)).toInt ≤ 60) (hK9 : bw p0 0 (u.1 3 - 1) = true → u.2 4 p0.toNatClampNeg = 5) (sz : Nat) : Met l yX12_put wsX12_put ({ frames := 4, cells := 0, slots := 0, locals := 106 }) (va_Pc [.ref h0, .int p0, .int p1, .int p2, .int p3, .int p4] (fun U => U.heap.size = sz ∧ PW dC dI (mW h0 v cI cZ u) [(cI, .int), (cZ, .boolean)] U ∧ va_D (fun _ => True) (mW h0 v cI cZ u))) (va_Qi (fun (r : Int32) (u9 : mS) => rPut u p0 p1 p2 p3 1 (u.2 8 p0.toNatClampNeg) (okP5 u p0 p1 p2 p3 p4) r u9) (fun u9 t => va_P (dC, dI) vwCl (mW h0 v cI cZ u9) t.heap ∧ va_D (va_A (mW h0 v cI cZ u) sz) (mW h0 v cI cZ u9)) (va_A (mW h0 v cI cZ u) sz)) 0 0 (va_A (mW h0 v cI cZ u) sz) := by
  refine Met.ofW (cc := cX12_put) (maxL := 10) (ret := (some .int)) (by decide) rfl ?_
  intro p e s m args below meth c s₁ B hml hv
  obtain ⟨rfl, hsz, ⟨hP, hK, hN⟩, hD0⟩ := hv
  have hx := B.exec
  have hb := B.bytes
  have hr := B.returns
  have hts := atoms_spec (ws := wsX12_put) B.pre
  have hown : s.vm.findClass RX12 = some m.cls := findClass_of_methodNamed B.named
  have hlocks := B.notSynchronized
  subst hsz
  have hD := hD0.self (sz := s.heap.size)
  generalize hAe : va_A (mW h0 v cI cZ u) s.heap.size = A at hD ⊢
  have hA : ∀ q : Nat, s.heap.size ≤ q → A q := fun q h => by rw [← hAe]; exact Or.inr h
  have hS : va_S A s.heap s.heap [] := va_S.rf
  have hl := lv_entry ([.ref h0, .int p0, .int p1, .int p2, .int p3, .int p4]) (n := 10) (Nat.le_of_ble_eq_true rfl)
  rw [lg_entry_eq]
  generalize (lg_sl ([.ref h0, .int p0, .int p1, .int p2, .int p3, .int p4]) ++ List.replicate (10 - (lg_sl ([.ref h0, .int p0, .int p1, .int p2, .int p3, .int p4])).length) Slot.unset).toArray = ls at hl ⊢
  have hl : lv_has ls 10 [(0, .ref h0), (1, .int p0), (2, .int p1), (3, .int p2), (4, .int p3), (5, .int p4)] := hl
  refine lv_aload_n hx hb dX12_put_0 rfl (lv_at hl 0 rfl) ?_
  refine lv_iload_n hx hb dX12_put_1 rfl (lv_at hl 1 rfl) ?_
  refine vp_callSi (va_runV (As := [.int p0]) (rest := []) ⟨hx, hb, hml, hown, hts⟩ (m_isItem l dC dI h0 v cI cZ u p0) (cwV 1 hts gX12_put_X12_isItem rfl rfl rfl zh_X12_isItem_1 ⟨Nat.le_of_ble_eq_true rfl, Nat.le_of_ble_eq_true rfl⟩) ⟨pw_fb, va_recv hK hP (ci := 11) (q0 := 0) rfl rfl, fun U hU hW => ⟨rfl, pw_to hU hW hP hK hN⟩⟩ rfl rfl hl.1 rfl (lv_room (Nat.le_of_ble_eq_true rfl)) dX12_put_2 ⟨Nat.le_of_ble_eq_true rfl, Nat.le_of_ble_eq_true rfl⟩).run (fun r hw => ?_)
  rcases Bool.eq_false_or_eq_true (bw p0 0 (u.1 3 - 1)) with b_1 | b_1
  ·
    obtain rfl : r = 1 := b_t hw b_1
    refine lv_if_eq (tgt := 18) hx hb dX12_put_5 (by decide) (fun c_2 => absurd c_2 (by decide)) (fun c_2 => ?_)
    refine lv_aload_n hx hb dX12_put_8 rfl (lv_at hl 0 rfl) ?_
    refine va_get (D := (dC, dI)) (ci := 11) (v := .int (u.1 28)) (C := RX12) (T := TX12) (N := 52) hx hb hts zl_X12_put_X12 hown hK hP 0 rfl rfl 28 (by decide) (hts (.fieldLink RX12 158 "PageOneModel" "acts" "I") (zat q_wsX12_put k_wsX12_put 910 rfl (by decide +kernel))) (fun _ h9 => h9) rfl dX12_put_9 ?_
    refine lv_sipush (v := 300) hx hb dX12_put_12 (by decide) ?_
    refine lv_icmp_ne (tgt := 20) hx hb dX12_put_15 (by decide) (fun c_3 => ?_) (fun c_3 => ?_)
    ·
      refine lv_aload_n hx hb dX12_put_20 rfl (lv_at hl 0 rfl) ?_
      refine va_get (D := (dC, dI)) (ci := 11) (v := .ref (v 4)) (C := RX12) (T := TX12) (N := 52) hx hb hts zl_X12_put_X12 hown hK hP 0 rfl rfl 4 (by decide) (hts (.fieldLink RX12 19 "PageOneModel" "kind" "[I") (zat q_wsX12_put k_wsX12_put 886 rfl (by decide +kernel))) (fun _ h9 => h9) rfl dX12_put_21 ?_
      refine lv_iload_n hx hb dX12_put_24 rfl (lv_at hl 1 rfl) ?_
      refine va_iald hx hb hK hP 4 0 rfl rfl (vin (it79 hn b_1) (by decide)) dX12_put_25 ?_
      refine lv_topi (fun y_4 ey_4 => ?_)
      obtain rfl : y_4 = 5 := ey_4.trans (hK9 b_1)
      refine lv_istore (lv' := [(6, .int 5), (0, .ref h0), (1, .int p0), (2, .int p1), (3, .int p2), (4, .int p3), (5, .int p4)]) hx hb dX12_put_26 hl (by decide) rfl (fun ls hl => ?_)
      refine lv_iload hx hb dX12_put_28 (lv_at hl 0 rfl) ?_
      refine lv_iconst (v := 1) hx hb dX12_put_30 (by decide) ?_
      refine lv_icmp_eq (tgt := 40) hx hb dX12_put_31 (by decide) (fun c_5 => absurd c_5 (by decide)) (fun c_5 => ?_)
      refine lv_iload hx hb dX12_put_34 (lv_at hl 0 rfl) ?_
      refine lv_iconst (v := 3) hx hb dX12_put_36 (by decide) ?_
      refine lv_icmp_ne (tgt := 49) hx hb dX12_put_37 (by decide) (fun c_6 => ?_) (fun c_6 => absurd c_6 (by decide))
      refine lv_iconst (v := 1) hx hb dX12_put_49 (by decide) ?_
      refine lv_istore (lv' := [(7, .int 1), (6, .int 5), (0, .ref h0), (1, .int p0), (2, .int p1), (3, .int p2), (4, .int p3), (5, .int p4)]) hx hb dX12_put_50 hl (by decide) rfl (fun ls hl => ?_)
      refine lv_iload hx hb dX12_put_52 (lv_at hl 1 rfl) ?_
      refine lv_if_eq (tgt := 63) hx hb dX12_put_54 (by decide) (fun c_7 => absurd c_7 (by decide)) (fun c_7 => ?_)
      refine lv_iload hx hb dX12_put_57 (lv_at hl 1 rfl) ?_
      refine lv_iconst (v := 4) hx hb dX12_put_59 (by decide) ?_
      refine lv_icmp_ne (tgt := 68) hx hb dX12_put_60 (by decide) (fun c_8 => ?_) (fun c_8 => absurd c_8 (by decide))
      refine lv_aload_n hx hb dX12_put_68 rfl (lv_at hl 2 rfl) ?_
      refine va_get (D := (dC, dI)) (ci := 11) (v := .ref (v 8)) (C := RX12) (T := TX12) (N := 52) hx hb hts zl_X12_put_X12 hown hK hP 0 rfl rfl 8 (by decide) (hts (.fieldLink RX12 31 "PageOneModel" "high" "[I") (zat q_wsX12_put k_wsX12_put 890 rfl (by decide +kernel))) (fun _ h9 => h9) rfl dX12_put_69 ?_
      refine lv_iload_n hx hb dX12_put_72 rfl (lv_at hl 3 rfl) ?_
      refine va_iald hx hb hK hP 8 0 rfl rfl (vin (it79 hn b_1) (by decide)) dX12_put_73 ?_
      refine lv_istore (lv' := [(8, .int (u.2 8 (p0 : Int32).toNatClampNeg)), (7, .int 1), (6, .int 5), (0, .ref h0), (1, .int p0), (2, .int p1), (3, .int p2), (4, .int p3), (5, .int p4)]) hx hb dX12_put_74 hl (by decide) rfl (fun ls hl => ?_)
      refine lv_iload hx hb dX12_put_76 (lv_at hl 2 rfl) ?_
      refine lv_iconst (v := 2) hx hb dX12_put_78 (by decide) ?_
      refine lv_icmp_ne (tgt := 127) hx hb dX12_put_79 (by decide) (fun c_9 => ?_) (fun c_9 => absurd c_9 (by decide))
      refine lv_iload hx hb dX12_put_127 (lv_at hl 2 rfl) ?_
      refine lv_if_eq (tgt := 149) hx hb dX12_put_129 (by decide) (fun c_10 => absurd c_10 (by decide)) (fun c_10 => ?_)
      refine lv_iload hx hb dX12_put_132 (lv_at hl 2 rfl) ?_
      refine lv_iconst (v := 4) hx hb dX12_put_134 (by decide) ?_
      refine lv_icmp_eq (tgt := 149) hx hb dX12_put_135 (by decide) (fun c_11 => absurd c_11 (by decide)) (fun c_11 => ?_)
      refine lv_iload hx hb dX12_put_138 (lv_at hl 2 rfl) ?_
      refine lv_iconst (v := 2) hx hb dX12_put_140 (by decide) ?_
      refine lv_icmp_eq (tgt := 149) hx hb dX12_put_141 (by decide) (fun c_12 => absurd c_12 (by decide)) (fun c_12 => ?_)
      refine lv_iload hx hb dX12_put_144 (lv_at hl 8 rfl) ?_
      refine lv_if_ne (tgt := 153) hx hb dX12_put_146 (by decide) (fun c_13 => ?_) (fun c_13 => ?_)
      ·
        refine lv_iconst (v := 0) hx hb dX12_put_153 (by decide) ?_
        refine lv_istore (lv' := [(9, .int 0), (8, .int (u.2 8 (p0 : Int32).toNatClampNeg)), (7, .int 1), (6, .int 5), (0, .ref h0), (1, .int p0), (2, .int p1), (3, .int p2), (4, .int p3), (5, .int p4)]) hx hb dX12_put_154 hl (by decide) rfl (fun ls hl => ?_)
        refine lv_iload hx hb dX12_put_156 (lv_at hl 0 rfl) ?_
        refine lv_if_eq (tgt := 200) hx hb dX12_put_158 (by decide) (fun c_14 => ?_) (fun c_14 => absurd (by decide) c_14)
        refine lv_iconst (v := 0) hx hb dX12_put_200 (by decide) ?_
        refine lv_istore (lv' := [(9, .int 0), (8, .int (u.2 8 (p0 : Int32).toNatClampNeg)), (7, .int 1), (6, .int 5), (0, .ref h0), (1, .int p0), (2, .int p1), (3, .int p2), (4, .int p3), (5, .int p4)]) hx hb dX12_put_201 hl (by decide) rfl (fun ls hl => ?_)
        refine lv_iload hx hb dX12_put_203 (lv_at hl 0 rfl) ?_
        refine lv_if_ne (tgt := 210) hx hb dX12_put_205 (by decide) (fun c_15 => absurd (by decide) c_15) (fun c_15 => ?_)
        refine lv_iconst (v := (-1)) hx hb dX12_put_208 (by decide) ?_
        exact W.iret (v := (-1)) hx hb hr (fun t ht hW => ⟨⟨(-1), u, rfl, (Or.inl ⟨rfl, (fun h => c_13 h.2.2.1), Or.inl rfl⟩), by rw [ht]; exact hP, hD⟩, hS.F ht⟩) hS.2.2 dX12_put_209
      ·
        refine lv_iconst (v := 1) hx hb dX12_put_149 (by decide) ?_
        refine lv_goto (tgt := 154) hx hb dX12_put_150 (by decide) ?_
        refine lv_istore (lv' := [(9, .int 1), (8, .int (u.2 8 (p0 : Int32).toNatClampNeg)), (7, .int 1), (6, .int 5), (0, .ref h0), (1, .int p0), (2, .int p1), (3, .int p2), (4, .int p3), (5, .int p4)]) hx hb dX12_put_154 hl (by decide) rfl (fun ls hl => ?_)
        refine lv_iload hx hb dX12_put_156 (lv_at hl 0 rfl) ?_
        refine lv_if_eq (tgt := 200) hx hb dX12_put_158 (by decide) (fun c_16 => absurd c_16 (by decide)) (fun c_16 => ?_)
        refine lv_iload hx hb dX12_put_161 (lv_at hl 1 rfl) ?_
        refine lv_iconst (v := 1) hx hb dX12_put_163 (by decide) ?_
        refine lv_icmp_lt (tgt := 200) hx hb dX12_put_164 (by decide) (fun c_17 => ?_) (fun c_17 => ?_)
        ·
          refine lv_iconst (v := 0) hx hb dX12_put_200 (by decide) ?_
          refine lv_istore (lv' := [(9, .int 0), (8, .int (u.2 8 (p0 : Int32).toNatClampNeg)), (7, .int 1), (6, .int 5), (0, .ref h0), (1, .int p0), (2, .int p1), (3, .int p2), (4, .int p3), (5, .int p4)]) hx hb dX12_put_201 hl (by decide) rfl (fun ls hl => ?_)
          refine lv_iload hx hb dX12_put_203 (lv_at hl 0 rfl) ?_
          refine lv_if_ne (tgt := 210) hx hb dX12_put_205 (by decide) (fun c_18 => absurd (by decide) c_18) (fun c_18 => ?_)
          refine lv_iconst (v := (-1)) hx hb dX12_put_208 (by decide) ?_
          exact W.iret (v := (-1)) hx hb hr (fun t ht hW => ⟨⟨(-1), u, rfl, (Or.inl ⟨rfl, (fun h => h.2.2.2.1 c_17), Or.inl rfl⟩), by rw [ht]; exact hP, hD⟩, hS.F ht⟩) hS.2.2 dX12_put_209
        ·
          refine lv_iload hx hb dX12_put_167 (lv_at hl 3 rfl) ?_
          refine lv_if_eq (tgt := 181) hx hb dX12_put_169 (by decide) (fun c_19 => absurd c_19 (by decide)) (fun c_19 => ?_)
          refine lv_aload_n hx hb dX12_put_172 rfl (lv_at hl 4 rfl) ?_
          refine va_get (D := (dC, dI)) (ci := 11) (v := .ref (v 22)) (C := RX12) (T := TX12) (N := 52) hx hb hts zl_X12_put_X12 hown hK hP 0 rfl rfl 22 (by decide) (hts (.fieldLink RX12 74 "PageOneModel" "pieces" "[I") (zat q_wsX12_put k_wsX12_put 904 rfl (by decide +kernel))) (fun _ h9 => h9) rfl dX12_put_173 ?_
          refine lv_iload_n hx hb dX12_put_176 rfl (lv_at hl 5 rfl) ?_
          refine va_iald hx hb hK hP 22 0 rfl rfl (vin (it79 hn b_1) (by decide)) dX12_put_177 ?_
          refine lv_if_ne (tgt := 200) hx hb dX12_put_178 (by decide) (fun c_20 => ?_) (fun c_20 => ?_)
          ·
            refine lv_iconst (v := 0) hx hb dX12_put_200 (by decide) ?_
            refine lv_istore (lv' := [(9, .int 0), (8, .int (u.2 8 (p0 : Int32).toNatClampNeg)), (7, .int 1), (6, .int 5), (0, .ref h0), (1, .int p0), (2, .int p1), (3, .int p2), (4, .int p3), (5, .int p4)]) hx hb dX12_put_201 hl (by decide) rfl (fun ls hl => ?_)
            refine lv_iload hx hb dX12_put_203 (lv_at hl 0 rfl) ?_
            refine lv_if_ne (tgt := 210) hx hb dX12_put_205 (by decide) (fun c_21 => absurd (by decide) c_21) (fun c_21 => ?_)
            refine lv_iconst (v := (-1)) hx hb dX12_put_208 (by decide) ?_
            exact W.iret (v := (-1)) hx hb hr (fun t ht hW => ⟨⟨(-1), u, rfl, (Or.inl ⟨rfl, (fun h => c_20 h.2.2.2.2.1), Or.inl rfl⟩), by rw [ht]; exact hP, hD⟩, hS.F ht⟩) hS.2.2 dX12_put_209
          ·
            refine lv_aload_n hx hb dX12_put_181 rfl (lv_at hl 4 rfl) ?_
            refine lv_iload_n hx hb dX12_put_182 rfl (lv_at hl 6 rfl) ?_
            refine lv_iload_n hx hb dX12_put_183 rfl (lv_at hl 7 rfl) ?_
            refine lv_iload hx hb dX12_put_184 (lv_at hl 8 rfl) ?_
            refine lv_iload hx hb dX12_put_186 (lv_at hl 2 rfl) ?_
            refine lv_iload hx hb dX12_put_188 (lv_at hl 1 rfl) ?_
            refine vp_callSi (va_runV (As := [.int p1, .int p2, .int p3, .int 1, .int (u.2 8 (p0 : Int32).toNatClampNeg)]) (rest := []) ⟨hx, hb, hml, hown, hts⟩ (m_isFree l dC dI h0 v cI cZ u p1 p2 p3 1 (u.2 8 (p0 : Int32).toNatClampNeg) hln) (cwV 5 hts gX12_put_X12_isFree rfl rfl rfl zh_X12_isFree_28 ⟨Nat.le_of_ble_eq_true rfl, Nat.le_of_ble_eq_true rfl⟩) ⟨pw_fb, va_recv hK hP (ci := 11) (q0 := 0) rfl rfl, fun U hU hW => ⟨rfl, pw_to hU hW hP hK hN⟩⟩ rfl rfl hl.1 rfl (lv_room (Nat.le_of_ble_eq_true rfl)) dX12_put_190 ⟨Nat.le_of_ble_eq_true rfl, Nat.le_of_ble_eq_true rfl⟩).run (fun r hw => ?_)
            have hit := b_1
            have hi := it79 hn hit
            have h300 := c_3
            rcases hw with ⟨hw, hfree⟩ | ⟨hw, hfree⟩
            ·
              subst hw
              have hfree0 := hfree
              obtain ⟨P, X, Y, D, N, eP, eX, eY, eD, eN, hPP, hXW, hYN, hDD1, hN1⟩ := free_rect hln hfree
              subst eP eX eY
              obtain rfl : D = 1 := (nI_inj (by omega) (by decide)).mp (show nI D = nI 1 from eD.symm)
              rw [eN] at hl
              refine lv_if_eq (tgt := 200) hx hb dX12_put_193 (by decide) (fun c_22 => absurd c_22 (by decide)) (fun c_22 => ?_)
              refine lv_iconst (v := 1) hx hb dX12_put_196 (by decide) ?_
              refine lv_goto (tgt := 201) hx hb dX12_put_197 (by decide) ?_
              refine lv_istore (lv' := [(9, .int 1), (8, .int (nI N)), (7, .int 1), (6, .int 5), (0, .ref h0), (1, .int p0), (2, .int (nI P)), (3, .int (nI X)), (4, .int (nI Y)), (5, .int p4)]) hx hb dX12_put_201 hl (by decide) rfl (fun ls hl => ?_)
              refine lv_iload hx hb dX12_put_203 (lv_at hl 0 rfl) ?_
              refine lv_if_ne (tgt := 210) hx hb dX12_put_205 (by decide) (fun c_23 => ?_) (fun c_23 => absurd c_23 (by decide))
              refine lv_iload hx hb dX12_put_210 (lv_at hl 3 rfl) ?_
              refine lv_tableIn (tgt := 331) (off := 119) hx hb dX12_put_212 (by decide) (by decide) (by decide) (by decide) ?_
              refine lv_aload_n hx hb dX12_put_331 rfl (lv_at hl 4 rfl) ?_
              refine lv_iload_n hx hb dX12_put_332 rfl (lv_at hl 5 rfl) ?_
              refine lv_iload_n hx hb dX12_put_333 rfl (lv_at hl 6 rfl) ?_
              refine lv_iload_n hx hb dX12_put_334 rfl (lv_at hl 7 rfl) ?_
              refine vp_callSi (va_runV (As := [.int p0, .int (nI P), .int (nI X)]) (rest := []) ⟨hx, hb, hml, hown, hts⟩ (n_mayMend l dC dI h0 v cI cZ u p0 (nI P) (nI X) hi hn hd) (cwV 3 hts gX12_put_X12_mayMend rfl rfl rfl zh_X12_mayMend_27 ⟨Nat.le_of_ble_eq_true rfl, Nat.le_of_ble_eq_true rfl⟩) ⟨pw_fb, va_recv hK hP (ci := 11) (q0 := 0) rfl rfl, fun U hU hW => ⟨rfl, pw_to hU hW hP hK hN⟩⟩ rfl rfl hl.1 rfl (lv_room (Nat.le_of_ble_eq_true rfl)) dX12_put_335 ⟨Nat.le_of_ble_eq_true rfl, Nat.le_of_ble_eq_true rfl⟩).run (fun r hw => ?_)
              obtain rfl : r = (mMend u p0 (nI P) (nI X)) := hw
              refine lv_istore (lv' := [(9, .int (mMend u p0 (nI P) (nI X))), (8, .int (nI N)), (7, .int 1), (6, .int 5), (0, .ref h0), (1, .int p0), (2, .int (nI P)), (3, .int (nI X)), (4, .int (nI Y)), (5, .int p4)]) hx hb dX12_put_338 hl (by decide) rfl (fun ls hl => ?_)
              refine lv_goto (tgt := 343) hx hb dX12_put_340 (by decide) ?_
              refine lv_iload hx hb dX12_put_343 (lv_at hl 0 rfl) ?_
              refine lv_if_ne (tgt := 350) hx hb dX12_put_345 (by decide) (fun c_24 => ?_) (fun c_24 => ?_)
              ·
                refine lv_aload_n hx hb dX12_put_350 rfl (lv_at hl 4 rfl) ?_
                refine lv_iload_n hx hb dX12_put_351 rfl (lv_at hl 5 rfl) ?_
                refine lv_iload_n hx hb dX12_put_352 rfl (lv_at hl 6 rfl) ?_
                refine lv_iload_n hx hb dX12_put_353 rfl (lv_at hl 7 rfl) ?_
                refine lv_iload hx hb dX12_put_354 (lv_at hl 8 rfl) ?_
                refine lv_iload hx hb dX12_put_356 (lv_at hl 2 rfl) ?_
                refine lv_iload hx hb dX12_put_358 (lv_at hl 1 rfl) ?_
                have hFc := fr_all hD hS hA
                refine va_callv (va_runV (As := [.int p0, .int (nI P), .int (nI X), .int (nI Y), .int 1, .int (nI N)]) (rest := []) ⟨hx, hb, hml, hown, hts⟩ (m_stand l dC dI h0 v cI cZ u p0 P X Y 1 N hPP hXW hYN hi (z05 c_20) s.heap.size) (cwV 6 hts gX12_put_X12_stand rfl rfl rfl zh_X12_stand_25 ⟨Nat.le_of_ble_eq_true rfl, Nat.le_of_ble_eq_true rfl⟩) ⟨gw_fb, va_recv hK hP (ci := 11) (q0 := 0) rfl rfl, fun U hU hW => ⟨rfl, by rw [hU], pw_to hU hW hP hK hN, hD.weaken (fun _ _ _ _ => trivial)⟩⟩ rfl rfl hl.1 rfl (lv_room (Nat.le_of_ble_eq_true rfl)) dX12_put_360 ⟨Nat.le_of_ble_eq_true rfl, Nat.le_of_ble_eq_true rfl⟩) hS (fun q _ h => hFc q h) hFc (fun u_25 t H1 locs ht hvm hw hB hz1 hk1 hS => ?_)
                obtain ⟨hP, hD1⟩ := hB
                rw [ht] at hP
                have hD := hD1.weaken (fun _ q _ h => hFc q.1 h)
                generalize H1 = H at hP hS ⊢
                have eu_25 := hw
                refine lv_aload_n hx hb dX12_put_363 rfl (lv_at hl 4 rfl) ?_
                refine lv_iconst (v := 0) hx hb dX12_put_364 (by decide) ?_
                refine lv_iload_n hx hb dX12_put_365 rfl (lv_at hl 5 rfl) ?_
                refine lv_iconst (v := 0) hx hb dX12_put_366 (by decide) ?_
                refine lv_iconst (v := 0) hx hb dX12_put_367 (by decide) ?_
                refine lv_iconst (v := 0) hx hb dX12_put_368 (by decide) ?_
                refine lv_iconst (v := 0) hx hb dX12_put_369 (by decide) ?_
                refine lv_iconst (v := 0) hx hb dX12_put_370 (by decide) ?_
                have hFc := fr_all hD hS hA
                refine va_callv (va_runV (As := [.int 0, .int p0, .int 0, .int 0, .int 0, .int 0, .int 0]) (rest := []) ⟨hx, hb, hml, hown, hts⟩ (m_acts l dC dI h0 v cI cZ u_25 0 p0 0 0 0 0 0 (by rw [eu_25]; show bw (u.1 28) 0 299 = true; exact v300 ha h300) H.size) (cwV 7 hts gX12_put_X12_acts rfl rfl rfl zh_X12_acts_10 ⟨Nat.le_of_ble_eq_true rfl, Nat.le_of_ble_eq_true rfl⟩) ⟨gw_fb, va_recv hK hP (ci := 11) (q0 := 0) rfl rfl, fun U hU hW => ⟨rfl, by rw [hU], pw_to hU hW hP hK hN, hD.weaken (fun _ _ _ _ => trivial)⟩⟩ rfl rfl hl.1 rfl (lv_room (Nat.le_of_ble_eq_true rfl)) dX12_put_371 ⟨Nat.le_of_ble_eq_true rfl, Nat.le_of_ble_eq_true rfl⟩) hS (fun q _ h => hFc q h) hFc (fun u_26 t H1 locs ht hvm hw hB hz1 hk1 hS => ?_)
                obtain ⟨hP, hD1⟩ := hB
                rw [ht] at hP
                have hD := hD1.weaken (fun _ q _ h => hFc q.1 h)
                generalize H1 = H at hP hS ⊢
                have eu_26 := hw
                refine lv_aload_n hx hb dX12_put_374 rfl (lv_at hl 4 rfl) ?_
                refine va_get (D := (dC, dI)) (ci := 11) (v := .ref (v 22)) (C := RX12) (T := TX12) (N := 52) hx hb hts zl_X12_put_X12 hown hK hP 0 rfl rfl 22 (by decide) (hts (.fieldLink RX12 74 "PageOneModel" "pieces" "[I") (zat q_wsX12_put k_wsX12_put 904 rfl (by decide +kernel))) (fun _ h9 => h9) rfl dX12_put_375 ?_
                refine lv_iload_n hx hb dX12_put_378 rfl (lv_at hl 5 rfl) ?_
                refine va_iald hx hb hK hP 22 0 rfl rfl (vin (it79 hn b_1) (by decide)) dX12_put_379 ?_
                exact W.iret (v := (u_26.2 22 (p0 : Int32).toNatClampNeg)) hx hb hr (fun t ht hW => ⟨⟨(u_26.2 22 (p0 : Int32).toNatClampNeg), u_26, rfl, (Or.inr ⟨⟨hit, h300, c_13, c_17, c_20, hfree0, c_24⟩, (by rw [eu_26, eu_25, putR]), P, X, Y, 1, N, rfl, rfl, rfl, rfl, eN, hPP, hXW, hYN, hDD1, hN1, (Or.inl (by rw [eu_26, eu_25]))⟩), by rw [ht]; exact hP, hD⟩, hS.F ht⟩) hS.2.2 dX12_put_380
              ·
                refine lv_iconst (v := (-1)) hx hb dX12_put_348 (by decide) ?_
                exact W.iret (v := (-1)) hx hb hr (fun t ht hW => ⟨⟨(-1), u, rfl, (Or.inl ⟨rfl, (fun h => h.2.2.2.2.2.2 c_24), Or.inl rfl⟩), by rw [ht]; exact hP, hD⟩, hS.F ht⟩) hS.2.2 dX12_put_349
            ·
              subst hw
              refine lv_if_eq (tgt := 200) hx hb dX12_put_193 (by decide) (fun c_27 => ?_) (fun c_27 => absurd (by decide) c_27)
              refine lv_iconst (v := 0) hx hb dX12_put_200 (by decide) ?_
              refine lv_istore (lv' := [(9, .int 0), (8, .int (u.2 8 (p0 : Int32).toNatClampNeg)), (7, .int 1), (6, .int 5), (0, .ref h0), (1, .int p0), (2, .int p1), (3, .int p2), (4, .int p3), (5, .int p4)]) hx hb dX12_put_201 hl (by decide) rfl (fun ls hl => ?_)
              refine lv_iload hx hb dX12_put_203 (lv_at hl 0 rfl) ?_
              refine lv_if_ne (tgt := 210) hx hb dX12_put_205 (by decide) (fun c_28 => absurd (by decide) c_28) (fun c_28 => ?_)
              refine lv_iconst (v := (-1)) hx hb dX12_put_208 (by decide) ?_
              exact W.iret (v := (-1)) hx hb hr (fun t ht hW => ⟨⟨(-1), u, rfl, (Or.inl ⟨rfl, (fun h => hfree h.2.2.2.2.2.1), Or.inl rfl⟩), by rw [ht]; exact hP, hD⟩, hS.F ht⟩) hS.2.2 dX12_put_209
    ·
      refine lv_iconst (v := (-1)) hx hb dX12_put_18 (by decide) ?_
      exact W.iret (v := (-1)) hx hb hr (fun t ht hW => ⟨⟨(-1), u, rfl, (Or.inl ⟨rfl, (fun h => h.2.1 c_3), Or.inl rfl⟩), by rw [ht]; exact hP, hD⟩, hS.F ht⟩) hS.2.2 dX12_put_19
  ·
    obtain rfl : r = 0 := b_f hw b_1
    refine lv_if_eq (tgt := 18) hx hb dX12_put_5 (by decide) (fun c_29 => ?_) (fun c_29 => absurd (by decide) c_29)
    refine lv_iconst (v := (-1)) hx hb dX12_put_18 (by decide) ?_
    exact W.iret (v := (-1)) hx hb hr (fun t ht hW => ⟨⟨(-1), u, rfl, (Or.inl ⟨rfl, (fun h => bne b_1 h.1), Or.inl rfl⟩), by rw [ht]; exact hP, hD⟩, hS.F ht⟩) hS.2.2 dX12_put_19
set_option maxHeartbeats 4000000 in
set_option maxRecDepth 100000 in
theorem n_liftN (l : Launch) (dC : Nat → ClassId) (dI : Nat → Nat → Nat) (h0 : Nat) (v : Nat → Nat) (cI cZ : ClassId) (u : mS) (p0 : Int32) (hn : bw (u.1 3) 0 80 = true) (hno : bw p0 0 (u.1 3 - 1) = true → u.2 22 p0.toNatClampNeg = 0) (sz : Nat) : Met l yX12_lift wsX12_lift ({ frames := 3, cells := 0, slots := 0, locals := 72 }) (va_Pc [.ref h0, .int p0] (fun U => U.heap.size = sz ∧ PW dC dI (mW h0 v cI cZ u) [(cI, .int), (cZ, .boolean)] U ∧ va_D (fun _ => True) (mW h0 v cI cZ u))) (va_Qi (fun (r : Int32) (u9 : mS) => r = (-1) ∧ u9 = u) (fun u9 t => va_P (dC, dI) vwCl (mW h0 v cI cZ u9) t.heap ∧ va_D (va_A (mW h0 v cI cZ u) sz) (mW h0 v cI cZ u9)) (va_A (mW h0 v cI cZ u) sz)) 0 0 (va_A (mW h0 v cI cZ u) sz) := by
  refine Met.ofW (cc := cX12_lift) (maxL := 3) (ret := (some .int)) (by decide) rfl ?_
  intro p e s m args below meth c s₁ B hml hv
  obtain ⟨rfl, hsz, ⟨hP, hK, hN⟩, hD0⟩ := hv
  have hx := B.exec
  have hb := B.bytes
  have hr := B.returns
  have hts := atoms_spec (ws := wsX12_lift) B.pre
  have hown : s.vm.findClass RX12 = some m.cls := findClass_of_methodNamed B.named
  have hlocks := B.notSynchronized
  subst hsz
  have hD := hD0.self (sz := s.heap.size)
  generalize hAe : va_A (mW h0 v cI cZ u) s.heap.size = A at hD ⊢
  have hA : ∀ q : Nat, s.heap.size ≤ q → A q := fun q h => by rw [← hAe]; exact Or.inr h
  have hS : va_S A s.heap s.heap [] := va_S.rf
  have hl := lv_entry ([.ref h0, .int p0]) (n := 3) (Nat.le_of_ble_eq_true rfl)
  rw [lg_entry_eq]
  generalize (lg_sl ([.ref h0, .int p0]) ++ List.replicate (3 - (lg_sl ([.ref h0, .int p0])).length) Slot.unset).toArray = ls at hl ⊢
  have hl : lv_has ls 3 [(0, .ref h0), (1, .int p0)] := hl
  refine lv_aload_n hx hb dX12_lift_0 rfl (lv_at hl 0 rfl) ?_
  refine lv_iload_n hx hb dX12_lift_1 rfl (lv_at hl 1 rfl) ?_
  refine vp_callSi (va_runV (As := [.int p0]) (rest := []) ⟨hx, hb, hml, hown, hts⟩ (m_isItem l dC dI h0 v cI cZ u p0) (cwV 1 hts gX12_lift_X12_isItem rfl rfl rfl zh_X12_isItem_1 ⟨Nat.le_of_ble_eq_true rfl, Nat.le_of_ble_eq_true rfl⟩) ⟨pw_fb, va_recv hK hP (ci := 11) (q0 := 0) rfl rfl, fun U hU hW => ⟨rfl, pw_to hU hW hP hK hN⟩⟩ rfl rfl hl.1 rfl (lv_room (Nat.le_of_ble_eq_true rfl)) dX12_lift_2 ⟨Nat.le_of_ble_eq_true rfl, Nat.le_of_ble_eq_true rfl⟩).run (fun r hw => ?_)
  rcases Bool.eq_false_or_eq_true (bw p0 0 (u.1 3 - 1)) with b_1 | b_1
  ·
    obtain rfl : r = 1 := b_t hw b_1
    refine lv_if_eq (tgt := 27) hx hb dX12_lift_5 (by decide) (fun c_2 => absurd c_2 (by decide)) (fun c_2 => ?_)
    refine lv_aload_n hx hb dX12_lift_8 rfl (lv_at hl 0 rfl) ?_
    refine va_get (D := (dC, dI)) (ci := 11) (v := .ref (v 22)) (C := RX12) (T := TX12) (N := 52) hx hb hts zl_X12_lift_X12 hown hK hP 0 rfl rfl 22 (by decide) (hts (.fieldLink RX12 74 "PageOneModel" "pieces" "[I") (zat q_wsX12_lift k_wsX12_lift 904 rfl (by decide +kernel))) (fun _ h9 => h9) rfl dX12_lift_9 ?_
    refine lv_iload_n hx hb dX12_lift_12 rfl (lv_at hl 1 rfl) ?_
    refine va_iald hx hb hK hP 22 0 rfl rfl (vIt hn b_1) dX12_lift_13 ?_
    refine lv_if_eq (tgt := 27) hx hb dX12_lift_14 (by decide) (fun c_3 => ?_) (fun c_3 => absurd (hno b_1) c_3)
    refine lv_iconst (v := (-1)) hx hb dX12_lift_27 (by decide) ?_
    exact W.iret (v := (-1)) hx hb hr (fun t ht hW => ⟨⟨(-1), u, rfl, ⟨rfl, rfl⟩, by rw [ht]; exact hP, hD⟩, hS.F ht⟩) hS.2.2 dX12_lift_28
  ·
    obtain rfl : r = 0 := b_f hw b_1
    refine lv_if_eq (tgt := 27) hx hb dX12_lift_5 (by decide) (fun c_4 => ?_) (fun c_4 => absurd (by decide) c_4)
    refine lv_iconst (v := (-1)) hx hb dX12_lift_27 (by decide) ?_
    exact W.iret (v := (-1)) hx hb hr (fun t ht hW => ⟨⟨(-1), u, rfl, ⟨rfl, rfl⟩, by rw [ht]; exact hP, hD⟩, hS.F ht⟩) hS.2.2 dX12_lift_28
/-- put: what the reference answers, whatever the kind -/
def puX (u : mS) (p0 p1 p2 p3 p4 r : Int32) (u9 : mS) : Prop := ∃ (W H : Int32) (ok : Prop), (ok → bw p0 0 (u.1 3 - 1) = true) ∧ (∀ i, p0 = nI i → i < (u.1 3).toNatClampNeg → (ok ↔ okU u i p1 p2 p3 p4)) ∧ (∀ i, p0 = nI i → i < (u.1 3).toNatClampNeg → ok → W = cpW u i p4 ∧ H = cpH u i p4) ∧ rPut u p0 p1 p2 p3 W H ok r u9
theorem kind6 {x : Int32} (h : 0 ≤ x ∧ x ≤ 5) : x = 0 ∨ x = 1 ∨ x = 2 ∨ x = 3 ∨ x = 4 ∨ x = 5 := by
  have a := h.1
  have b := h.2
  rw [i32_le] at a b
  have e5 : (5 : Int32).toInt = 5 := rfl
  rw [i0] at a
  rw [e5] at b
  rcases (by omega : x.toInt = 0 ∨ x.toInt = 1 ∨ x.toInt = 2 ∨ x.toInt = 3 ∨ x.toInt = 4 ∨ x.toInt = 5) with z | z | z | z | z | z
  · exact Or.inl (Int32.toInt_inj.mp z)
  · exact Or.inr (Or.inl (Int32.toInt_inj.mp z))
  · exact Or.inr (Or.inr (Or.inl (Int32.toInt_inj.mp z)))
  · exact Or.inr (Or.inr (Or.inr (Or.inl (Int32.toInt_inj.mp z))))
  · exact Or.inr (Or.inr (Or.inr (Or.inr (Or.inl (Int32.toInt_inj.mp z)))))
  · exact Or.inr (Or.inr (Or.inr (Or.inr (Or.inr (Int32.toInt_inj.mp z)))))
theorem o_put (l : Launch) (dC : Nat → ClassId) (dI : Nat → Nat → Nat) (h0 : Nat) (v : Nat → Nat) (cI cZ : ClassId) (u : mS) (p0 p1 p2 p3 p4 : Int32) {es : List hE} {c : cfg} (hu : uI u es c) (hkd : ∀ i, i < (u.1 3).toNatClampNeg → 0 ≤ u.2 4 i ∧ u.2 4 i ≤ 5) (sz : Nat) : Met l yX12_put wsX12_put ({ frames := 4, cells := 0, slots := 0, locals := 106 }) (va_Pc [.ref h0, .int p0, .int p1, .int p2, .int p3, .int p4] (fun U => U.heap.size = sz ∧ PW dC dI (mW h0 v cI cZ u) [(cI, .int), (cZ, .boolean)] U ∧ va_D (fun _ => True) (mW h0 v cI cZ u))) (va_Qi (fun (r : Int32) (u9 : mS) => puX u p0 p1 p2 p3 p4 r u9) (fun u9 t => va_P (dC, dI) vwCl (mW h0 v cI cZ u9) t.heap ∧ va_D (va_A (mW h0 v cI cZ u) sz) (mW h0 v cI cZ u9)) (va_A (mW h0 v cI cZ u) sz)) 0 0 (va_A (mW h0 v cI cZ u) sz) := by
  have hn := n80 hu.1
  have hpc := inv_pc (uI_M hu)
  by_cases hit : bw p0 0 (u.1 3 - 1) = true
  · obtain ⟨i, ei, hi, -⟩ := itN hu.1 hit
    have eC : p0.toNatClampNeg = i := by rw [ei, nI_clamp (by omega)]
    have uniq : ∀ j, p0 = nI j → j < (u.1 3).toNatClampNeg → j = i := fun j ej hj => (nI_inj (by omega) (by omega)).mp (ej.symm.trans ei)
    have uniq2 : ∀ j, p0 = nI j → p0.toNatClampNeg = i := fun _ _ => eC
    rcases kind6 (hkd i hi) with k0 | k0 | k0 | k0 | k0 | k0
    · refine mq (n_put0 l dC dI h0 v cI cZ u p0 p1 p2 p3 p4 hu.1.1 hu.1.2.2.1 hu.1.2.1 (inv_ha (uI_M hu)) (inv_pc (uI_M hu)) hu.1.2.2.2.2.1 hu.1.2.2.2.2.2.1 (fun hi P X Y N hP hX hN hY h6 hG => put_hfr (uI_M hu) hi P X Y N hP hX hN hY h6 hG) (fun _ => by rw [eC]; exact k0) sz) (fun r u9 he => ⟨1, p4, okP0 u p0 p1 p2 p3 p4, fun o => o.1, fun j ej hj => ?_, fun j ej hj9 o => ?_, he⟩)
      · rw [uniq j ej hj, ei]; exact ok0 hu.1 hi (hpc i (by omega)) k0
      · have hj : j = i := uniq j ej hj9
        have kj : u.2 4 j = 0 := by rw [hj]; exact k0
        have cj : p0.toNatClampNeg = j := by rw [hj]; exact eC
        exact ⟨(cpW_0 (Or.inl kj)).symm, by rw [cpH_0 kj, if_pos o.2.2.2.2.2.1.2.2.1]⟩
    · refine mq (o_put1 l dC dI h0 v cI cZ u p0 p1 p2 p3 p4 hu.1.1 hu.1.2.2.1 hu.1.2.1 (inv_ha (uI_M hu)) (inv_pc (uI_M hu)) hu.1.2.2.2.2.1 hu.1.2.2.2.2.2.1 (fun hi P X Y N hP hX hN hY h6 hG => put_hfr (uI_M hu) hi P X Y N hP hX hN hY h6 hG) (fun _ => by rw [eC]; exact k0) sz) (fun r u9 he => ⟨(u.2 7 p0.toNatClampNeg), (u.2 8 p0.toNatClampNeg), okP1 u p0 p1 p2 p3 p4, fun o => o.1, fun j ej hj => ?_, fun j ej hj9 o => ?_, he⟩)
      · rw [uniq j ej hj, ei]; exact ok1 hu.1 hi (hpc i (by omega)) k0
      · have hj : j = i := uniq j ej hj9
        have kj : u.2 4 j = 1 := by rw [hj]; exact k0
        have cj : p0.toNatClampNeg = j := by rw [hj]; exact eC
        exact ⟨by rw [cpW_1 (Or.inl kj), if_pos o.2.2.1, cj], by rw [cpH_1 (Or.inl kj), if_pos o.2.2.1, cj]⟩
    · refine mq (o_put2 l dC dI h0 v cI cZ u p0 p1 p2 p3 p4 hu.1.1 hu.1.2.2.1 hu.1.2.1 (inv_ha (uI_M hu)) (inv_pc (uI_M hu)) hu.1.2.2.2.2.1 hu.1.2.2.2.2.2.1 (fun hi P X Y N hP hX hN hY h6 hG => put_hfr (uI_M hu) hi P X Y N hP hX hN hY h6 hG) (fun _ => by rw [eC]; exact k0) sz) (fun r u9 he => ⟨(u.2 18 (4 * p0 + p4).toNatClampNeg), (u.2 19 (4 * p0 + p4).toNatClampNeg), okP2 u p0 p1 p2 p3 p4, fun o => o.1, fun j ej hj => ?_, fun j ej hj9 o => ?_, he⟩)
      · rw [uniq j ej hj, ei]; exact ok2 hu.1 hi (hpc i (by omega)) k0
      · have hj : j = i := uniq j ej hj9
        have kj : u.2 4 j = 2 := by rw [hj]; exact k0
        have cj : p0.toNatClampNeg = j := by rw [hj]; exact eC
        have oj : bw p4 0 (u.2 17 j - 1) = true := by have z := o.2.2.1; rw [cj] at z; exact z
        exact ⟨by rw [cpW_2 kj, if_pos oj, ej, i4k hu.1 (by omega) oj], by rw [cpH_2 kj, if_pos oj, ej, i4k hu.1 (by omega) oj]⟩
    · refine mq (o_put3 l dC dI h0 v cI cZ u p0 p1 p2 p3 p4 hu.1.1 hu.1.2.2.1 hu.1.2.1 (inv_ha (uI_M hu)) (inv_pc (uI_M hu)) hu.1.2.2.2.2.1 hu.1.2.2.2.2.2.1 (fun hi P X Y N hP hX hN hY h6 hG => put_hfr (uI_M hu) hi P X Y N hP hX hN hY h6 hG) (fun _ => by rw [eC]; exact k0) sz) (fun r u9 he => ⟨(u.2 7 p0.toNatClampNeg), (u.2 8 p0.toNatClampNeg), okP3 u p0 p1 p2 p3 p4, fun o => o.1, fun j ej hj => ?_, fun j ej hj9 o => ?_, he⟩)
      · rw [uniq j ej hj, ei]; exact ok3 hu.1 hi (hpc i (by omega)) k0
      · have hj : j = i := uniq j ej hj9
        have kj : u.2 4 j = 3 := by rw [hj]; exact k0
        have cj : p0.toNatClampNeg = j := by rw [hj]; exact eC
        exact ⟨by rw [cpW_1 (Or.inr kj), if_pos o.2.2.1, cj], by rw [cpH_1 (Or.inr (Or.inl kj)), if_pos o.2.2.1, cj]⟩
    · refine mq (o_put4 l dC dI h0 v cI cZ u p0 p1 p2 p3 p4 hu.1.1 hu.1.2.2.1 hu.1.2.1 (inv_ha (uI_M hu)) (inv_pc (uI_M hu)) hu.1.2.2.2.2.1 hu.1.2.2.2.2.2.1 (fun hi P X Y N hP hX hN hY h6 hG => put_hfr (uI_M hu) hi P X Y N hP hX hN hY h6 hG) (fun _ => by rw [eC]; exact k0) sz) (fun r u9 he => ⟨1, p4, okP4 u p0 p1 p2 p3 p4, fun o => o.1, fun j ej hj => ?_, fun j ej hj9 o => ?_, he⟩)
      · rw [uniq j ej hj, ei]; exact ok4 hu.1 hi (hpc i (by omega)) k0
      · have hj : j = i := uniq j ej hj9
        have kj : u.2 4 j = 4 := by rw [hj]; exact k0
        have cj : p0.toNatClampNeg = j := by rw [hj]; exact eC
        exact ⟨(cpW_0 (Or.inr (Or.inl kj))).symm, by rw [cpH_4 kj, if_pos (by have z := o.2.2.2.2.2.2; rw [cj] at z; exact z)]⟩
    · refine mq (o_put5 l dC dI h0 v cI cZ u p0 p1 p2 p3 p4 hu.1.1 hu.1.2.2.1 hu.1.2.1 (inv_ha (uI_M hu)) (inv_pc (uI_M hu)) hu.1.2.2.2.2.1 hu.1.2.2.2.2.2.1 (fun hi P X Y N hP hX hN hY h6 hG => put_hfr (uI_M hu) hi P X Y N hP hX hN hY h6 hG) (fun _ => by rw [eC]; exact k0) sz) (fun r u9 he => ⟨1, (u.2 8 p0.toNatClampNeg), okP5 u p0 p1 p2 p3 p4, fun o => o.1, fun j ej hj => ?_, fun j ej hj9 o => ?_, he⟩)
      · rw [uniq j ej hj, ei]; exact ok5 hu.1 hi (hpc i (by omega)) k0
      · have hj : j = i := uniq j ej hj9
        have kj : u.2 4 j = 5 := by rw [hj]; exact k0
        have cj : p0.toNatClampNeg = j := by rw [hj]; exact eC
        exact ⟨(cpW_0 (Or.inr (Or.inr kj))).symm, by rw [cpH_1 (Or.inr (Or.inr kj)), if_pos o.2.2.1, cj]⟩
  · refine mq (n_put0 l dC dI h0 v cI cZ u p0 p1 p2 p3 p4 hu.1.1 hu.1.2.2.1 hu.1.2.1 (inv_ha (uI_M hu)) (inv_pc (uI_M hu)) hu.1.2.2.2.2.1 hu.1.2.2.2.2.2.1 (fun hi P X Y N hP hX hN hY h6 hG => put_hfr (uI_M hu) hi P X Y N hP hX hN hY h6 hG) (fun q => absurd q hit) sz) (fun r u9 he => ⟨1, p4, okP0 u p0 p1 p2 p3 p4, fun o => o.1, fun j ej hj => absurd (by rw [ej]; exact itI hu.1 hj) hit, fun j ej hj9 o => absurd o.1 hit, he⟩)
theorem lf_u {u : mS} {p0 : Int32} {P X Y D N P2 X2 Y2 D2 N2 : Nat} (h : lfA u p0 P X Y D N) (h2 : lfA u p0 P2 X2 Y2 D2 N2) : mLift u p0 P X Y D N = mLift u p0 P2 X2 Y2 D2 N2 := by
  by_cases hc : bw p0 0 (u.1 3 - 1) = true ∧ ¬ u.2 22 p0.toNatClampNeg = 0
  · obtain ⟨a1, a2, a3, a4, a5, a6⟩ := h hc.1 hc.2
    obtain ⟨b1, b2, b3, b4, b5, b6⟩ := h2 hc.1 hc.2
    obtain ⟨c1, c2, c3, c4, c5, -⟩ := a1
    obtain ⟨e1, e2, e3, e4, e5, -⟩ := b1
    have q1 : P = P2 := (nI_inj (by omega) (by omega)).mp (a2.symm.trans b2)
    have q2 : X = X2 := (nI_inj (by omega) (by omega)).mp (a3.symm.trans b3)
    have q3 : Y = Y2 := (nI_inj (by omega) (by omega)).mp (a4.symm.trans b4)
    have q4 : D = D2 := (nI_inj (by omega) (by omega)).mp (a5.symm.trans b5)
    have q5 : N = N2 := (nI_inj (by omega) (by omega)).mp (a6.symm.trans b6)
    rw [q1, q2, q3, q4, q5]
  · unfold mLift
    by_cases a : bw p0 0 (u.1 3 - 1) = true
    · rw [if_pos a, if_pos a]
      by_cases b : u.2 22 p0.toNatClampNeg = 0
      · rw [if_pos b, if_pos b]
      · exact absurd ⟨a, b⟩ hc
    · rw [if_neg a, if_neg a]
theorem o_lift (l9 : Launch) (dC : Nat → ClassId) (dI : Nat → Nat → Nat) (h0 : Nat) (v : Nat → Nat) (cI cZ : ClassId) (u : mS) (p0 : Int32) {es : List hE} {c : cfg} (hu : uI u es c) (sz : Nat) : Met l9 yX12_lift wsX12_lift ({ frames := 3, cells := 0, slots := 0, locals := 72 }) (va_Pc [.ref h0, .int p0] (fun U => U.heap.size = sz ∧ PW dC dI (mW h0 v cI cZ u) [(cI, .int), (cZ, .boolean)] U ∧ va_D (fun _ => True) (mW h0 v cI cZ u))) (va_Qi (fun (r : Int32) (u9 : mS) => ∃ P X Y D N, lfA u p0 P X Y D N ∧ (r, u9) = mLift u p0 P X Y D N) (fun u9 t => va_P (dC, dI) vwCl (mW h0 v cI cZ u9) t.heap ∧ va_D (va_A (mW h0 v cI cZ u) sz) (mW h0 v cI cZ u9)) (va_A (mW h0 v cI cZ u) sz)) 0 0 (va_A (mW h0 v cI cZ u) sz) := by
  have hn := n80 hu.1
  by_cases hc : bw p0 0 (u.1 3 - 1) = true ∧ ¬ u.2 22 p0.toNatClampNeg = 0
  · obtain ⟨a, ea, ha, -⟩ := itN hu.1 hc.1
    have eC : p0.toNatClampNeg = a := by rw [ea, nI_clamp (by omega)]
    have g := uI_g hu
    have h6 := g.2.2.2.2.2 a
    have ec := cnt_e g (i := a) (by omega)
    have e22 := (g.2.2.2.1 a (by omega)).1
    have hpos : 0 < (c a).length := Nat.pos_of_ne_zero (fun z => hc.2 (by rw [eC, e22, z]; rfl))
    obtain ⟨P, X, Y, D, N, hin, f1, f2, f3, f4, f5⟩ := uI_pc hu a ha ((c a).length - 1) (by omega)
    have ei : (6 * p0 + (u.2 22 p0.toNatClampNeg - 1)).toNatClampNeg = 6 * a + ((c a).length - 1) := by rw [eC, e22, dn_e hpos, ea, ix6, nI_clamp (by omega)]
    have l : lfA u p0 P X Y D N := fun _ _ => ⟨hin, by rw [ei]; exact f1, by rw [ei]; exact f2, by rw [ei]; exact f3, by rw [ei]; exact f4, by rw [ei]; exact f5⟩
    obtain ⟨l1, l2, l3, l4, l5, l6⟩ := l hc.1 hc.2
    refine mq (m_lift l9 dC dI h0 v cI cZ u p0 P X Y D N hin.1 hin.2.1 hin.2.2.2.1 hu.1.1 (inv_ha (uI_M hu)) ?_ l2 l3 l4 l5 l6 sz) (fun r u9 he => ⟨P, X, Y, D, N, l, he⟩)
    rw [eC, e22, dn_e hpos]
    exact bwN (by have h5 : (5 : Int32).toInt = 5 := rfl; rw [h5]; omega) (by omega)
  · refine mq (n_liftN l9 dC dI h0 v cI cZ u p0 hu.1.1 (fun b => Classical.byContradiction (fun q => hc ⟨b, q⟩)) sz) (fun r u9 he => ⟨0, 0, 0, 0, 0, fun b q => absurd ⟨b, q⟩ hc, ?_⟩)
    rw [he.1, he.2]
    unfold mLift
    by_cases a : bw p0 0 (u.1 3 - 1) = true
    · rw [if_pos a]
      by_cases b : u.2 22 p0.toNatClampNeg = 0
      · rw [if_pos b]
      · exact absurd ⟨a, b⟩ hc
    · rw [if_neg a]
/-- undo: what the reference answers -/
def unX (u : mS) (es : List hE) (r : Int32) (u9 : mS) : Prop := (es = [] ∧ r = (-1) ∧ u9 = u) ∨ ∃ e es', es = e :: es' ∧ r = u.1 28 - 1 ∧ u9 = refU u e
theorem o_undo (l : Launch) (dC : Nat → ClassId) (dI : Nat → Nat → Nat) (h0 : Nat) (v : Nat → Nat) (cI cZ : ClassId) (u : mS) {es : List hE} {c : cfg} (hu : uI u es c) (sz : Nat) : Met l yX12_undo wsX12_undo ({ frames := 3, cells := 0, slots := 0, locals := 77 }) (va_Pc [.ref h0] (fun U => U.heap.size = sz ∧ PW dC dI (mW h0 v cI cZ u) [(cI, .int), (cZ, .boolean)] U ∧ va_D (fun _ => True) (mW h0 v cI cZ u))) (va_Qi (fun (r : Int32) (u9 : mS) => unX u es r u9) (fun u9 t => va_P (dC, dI) vwCl (mW h0 v cI cZ u9) t.heap ∧ va_D (va_A (mW h0 v cI cZ u) sz) (mW h0 v cI cZ u9)) (va_A (mW h0 v cI cZ u) sz)) 0 0 (va_A (mW h0 v cI cZ u) sz) := by
  cases es with
  | nil => exact mq (n_undoN l dC dI h0 v cI cZ u hu.2.2.1.2.1 sz) (fun r u9 he => Or.inl ⟨rfl, he.1, he.2⟩)
  | cons e es => exact mq (n_undoH l dC dI h0 v cI cZ u e es c hu.1 hu.2.2.1 hu.2.2.2.1 sz) (fun r u9 he => Or.inr ⟨e, es, rfl, he.1, he.2⟩)
/-- the parts of the latest act -/
def bkT (es : List hE) : List bS := match es with
  | [] => []
  | e :: _ => bkL e
theorem un_pre {q : Nat → ClassId} {d : Nat → Nat} {k : Nat → Int32} {z : gS} {u : mS} {es : List hE} {c : cfg} {g : Nat → Option Nat} (hk1 : k 1 = u.1 28) (hu : uI u es c) (hL : acL z d g es) : ¬ k 1 = 0 → ∃ a9, g (k 1 - 1).toNatClampNeg = some a9 ∧ tg z a9 23 ∧ bkS z d (some a9) (bkT es) ∧ bkK (mBack u) (bkT es) := by
  intro hk
  cases es with
  | nil => exact absurd (by rw [hk1, hu.2.2.1.2.1]; rfl) hk
  | cons e es =>
    obtain ⟨⟨a, a1, a2⟩, -⟩ := hL
    have l3 := hu.2.2.1.1
    rw [List.length_cons] at l3
    have e1 : (k 1 - 1).toNatClampNeg = es.length := by
      rw [hk1, hu.2.2.1.2.1, List.length_cons, dn_e (by omega), Nat.add_sub_cancel, nI_clamp (by omega)]
    exact ⟨a, by rw [e1]; exact a1, acE_tg a2, acE_bkS a2, (undo_all hu.1 hu.2.2.1 hu.2.2.2.1).1⟩
theorem step_undo {q : Nat → ClassId} {h0 : Nat} {d : Nat → Nat} {k : Nat → Int32} {z : gS} {f : xF} {u : mS} {w : xU} {r r2 : Int32} {u9 : mS} {es : List hE} {c : cfg} {g : Nat → Option Nat} (hI : xI q h0 d k z f) (hrp : rep q d u z f) (hk : k 0 = u.1 3 ∧ k 1 = u.1 28 ∧ k 2 = u.1 38 ∧ k 3 = u.1 39) (hz : (z.2 h0).2.1 = 0) (hu : uI u es c) (hg : f (d 3) = aR (q 4) 300 g) (hL : acL z d g es) (hx : unP q h0 d k z f u (bkT es) g r w) (hm : unX u es r2 u9) : r = r2 ∧ RR q h0 d w.1 w.2.1 w.2.2 u9 := by
  cases es with
  | nil =>
    have h28 : u.1 28 = 0 := hu.2.2.1.2.1
    rcases hx with ⟨-, x2, x3⟩ | ⟨x1, -⟩
    · rcases hm with ⟨-, m2, m3⟩ | ⟨e, es', m1, -⟩
      · rw [x2, m2, x3, m3]
        exact ⟨rfl, hI, hrp, hk, hz, [], c, g, hu, hg, hL⟩
      · exact absurd m1 (by simp)
    · exact absurd (by rw [hk.2.1]; exact h28) x1
  | cons e es =>
    have l3 := hu.2.2.1.1
    rw [List.length_cons] at l3
    have e28 : u.1 28 = nI (es.length + 1) := hu.2.2.1.2.1
    have hk0 : ¬ k 1 = 0 := fun z => by
      rw [hk.2.1, e28] at z
      have z2 := congrArg Int32.toInt z
      rw [nI_toInt (by omega), i0] at z2
      omega
    rcases hx with ⟨x1, -⟩ | ⟨-, x2, x3, x4, x5, x6, x7⟩
    · exact absurd x1 hk0
    · rcases hm with ⟨m1, -⟩ | ⟨e2, es2, m1, m2, m3⟩
      · exact absurd m1 (by simp)
      · obtain ⟨m4, m5⟩ := List.cons.inj m1
        subst m4 m5
        obtain ⟨-, a2, a3, c1, a4, a5, a6, a7, a8⟩ := undo_all hu.1 hu.2.2.1 hu.2.2.2.1
        have e1 : (k 1 - 1).toNatClampNeg = es.length := by rw [hk.2.1, e28, dn_e (by omega), Nat.add_sub_cancel, nI_clamp (by omega)]
        have hu9 : uI u9 es c1 := by
          obtain ⟨b1, b2, b3, b4, b5, b6, b7, b8, b9, b10, b11⟩ := hu
          rw [m3]
          have k3 := a6 3 (by decide) (by decide)
          refine ⟨a3, kB_c b2 (a8 4 (by decide) (by decide)) (a8 10 (by decide) (by decide)), a4, a5, nwI_e b5 k3 (fun r r1 => a8 r (by omega) (by omega)), plI_c b6 (fun r r1 r2 => a8 r (by omega) (by omega)), ?_, ?_, ?_, rvI_c b10 (a8 20 (by decide) (by decide)), by rw [a6 39 (by decide) (by decide)]; exact b11⟩
          · unfold sdI at b7 ⊢
            rw [a8 40 (by decide) (by decide), a8 4 (by decide) (by decide), a8 45 (by decide) (by decide), a8 11 (by decide) (by decide)]; exact b7
          · unfold plZ at b8 ⊢
            rw [k3, a8 40 (by decide) (by decide), a8 45 (by decide) (by decide)]; exact b8
          · unfold foI at b9 ⊢
            rw [a6 38 (by decide) (by decide), a8 47 (by decide) (by decide), a8 48 (by decide) (by decide)]; exact b9
        refine ⟨by rw [x2, m2, hk.2.1], by rw [x4]; exact x5, by rw [x4, m3]; exact a2 q d z w.2.2 x6, ?_, by rw [x4]; exact hz, es, c1, _, hu9, x7, ?_⟩
        · rw [x3, m3, a6 3 (by decide) (by decide), a6 38 (by decide) (by decide), a6 39 (by decide) (by decide), a7]
          refine ⟨hk.1, ?_, hk.2.2.1, hk.2.2.2⟩
          rw [← hk.2.1]; rfl
        · rw [x4, e1]
          exact acL_m (zE_rf z) (n := (u.1 3).toNatClampNeg) (fun _ _ => rfl) (fun t ht => if_neg (by omega)) (gH_it hu.2.2.2.1).2 hL.2
theorem hd_of {q : Nat → ClassId} {d : Nat → Nat} {z : gS} {f : xF} {u : mS} {es : List hE} {c : cfg} (hrp : rep q d u z f) (hu : uI u es c) : hdI u c := fun i hi h1 => by
  have hn := n80 hu.1
  refine ⟨((gH_cX hu.2.2.2.1) i hi).2.1 (by rw [h1]; decide), fun q9 => ?_⟩
  obtain ⟨-, -, -, -, rs, g, fg, -, -, -, -, -, hr⟩ := hrp.2.2.1.2 i hi
  obtain ⟨o, ho, e9, -⟩ := hr.2.1 h1
  rw [e9] at q9
  have z := congrArg Int32.toInt q9
  rw [nI_toInt (by omega)] at z
  have e1 : (-1 : Int32).toInt = -1 := rfl
  omega
theorem uI_E {u w : mS} {es : List hE} {c : cfg} (h : uI u es c) (he : mE u w) : uI w es c := uI_c h he.2 (fun k _ => by rw [he.1]) (rI_c h.1 (fun k hk => he.2 k (by unfold kI at hk; omega) (by unfold kI at hk; omega) (by unfold kI at hk; omega)) (fun k _ => by rw [he.1])) (nwI_e h.2.2.2.2.1 (he.2 3 (by decide) (by decide) (by decide)) (fun r _ => by rw [he.1])) (rvI_c h.2.2.2.2.2.2.2.2.2.1 (by rw [he.1]))
theorem rep_E {q : Nat → ClassId} {d : Nat → Nat} {z : gS} {f : xF} {u w : mS} (hrp : rep q d u z f) (he : mE u w) : rep q d w z f := rep_rows hrp (he.2 3 (by decide) (by decide) (by decide)) (fun r _ => by rw [he.1])
theorem k4_E {k : Nat → Int32} {u w : mS} (hk : k 0 = u.1 3 ∧ k 1 = u.1 28 ∧ k 2 = u.1 38 ∧ k 3 = u.1 39) (he : ∀ k, k ≠ 49 → k ≠ 50 → k ≠ 51 → w.1 k = u.1 k) : k 0 = w.1 3 ∧ k 1 = w.1 28 ∧ k 2 = w.1 38 ∧ k 3 = w.1 39 := by
  rw [he 3 (by decide) (by decide) (by decide), he 28 (by decide) (by decide) (by decide), he 38 (by decide) (by decide) (by decide), he 39 (by decide) (by decide) (by decide)]
  exact hk
theorem step_broken {q : Nat → ClassId} {h0 : Nat} {d : Nat → Nat} {k : Nat → Int32} {z : gS} {f : xF} {u : mS} {w : xU} {p wh r r2 : Int32} {u9 : mS} (h : RR q h0 d k z f u) (hx : bkP q h0 d k z f u p wh r w) (hm : bkX u p wh r2 u9) : r = r2 ∧ RR q h0 d w.1 w.2.1 w.2.2 u9 := by
  obtain ⟨hI, hrp, hk, hz, es, c, g, hu, hg, hL⟩ := h
  obtain ⟨he, hm⟩ := hm
  have hk9 := k4_E hk he.2
  rcases hx with ⟨x1, x2, x3⟩ | ⟨x1, x2, x, y, t, x3, x4, x5, x6, x7, x8, x9⟩
  · rcases hm with ⟨-, m2⟩ | ⟨m1, m2, -⟩
    · rw [x2, m2, x3]
      exact ⟨rfl, hI, rep_E hrp he, hk9, hz, es, c, g, uI_E hu he, hg, hL⟩
    · rcases x1 with q | q
      · exact absurd m1 q
      · exact absurd m2 q
  · rcases hm with ⟨m1, -⟩ | ⟨-, -, b, m3, m4⟩
    · rcases m1 with q | q
      · exact absurd x1 q
      · exact absurd x2 q
    · obtain ⟨P, hP, -, eP⟩ := exN x1 (by decide)
      have h11 : (11 : Int32).toInt = 11 := rfl
      rw [eP] at x3 m3
      have eb := br_eq (uI_g hu) (by omega) hu.2.1 hu.2.2.2.2.2.2.2.2.2.1 (hd_of hrp hu) x3 m3
      refine ⟨?_, RR_st hI hz hu hg hL x6 (by rw [x5]; exact x7) (rep_E x8 he) (by rw [x5]; exact hk9) x9 rfl (fun _ _ => rfl) (uI_E hu he)⟩
      rw [x4, m4, eb]
theorem shCC_e {u : mS} {P : Nat} {gl : Nat → Int32} (hP : P < 12) (hl : eqR 8 gl (u.2 0) (8 * P)) : ∀ n, n ≤ 8 → shCC gl n = plS u (nI P) n
  | 0, _ => rfl
  | n + 1, hn => by
    show shCC gl n + gl (nI n).toNatClampNeg = plS u (nI P) n + u.2 0 (8 * nI P + nI n).toNatClampNeg
    rw [shCC_e hP hl n (by omega), nI_clamp (by omega), idx8 hP (by omega), hl n (by omega)]
theorem shE_n {gl gc : Nat → Int32} {c : Int32} : ∀ n, n ≤ 60 → ∃ m, m ≤ n ∧ shE gl gc c n = nI m ∧ (m = 0 ↔ ∀ l, l < n → ¬ shAt gl gc c (nI l) = (-2))
  | 0, _ => ⟨0, Nat.le_refl _, rfl, ⟨fun _ l h => absurd h (Nat.not_lt_zero _), fun _ => rfl⟩⟩
  | n + 1, hn => by
    obtain ⟨m, m1, m2, m3⟩ := shE_n (gl := gl) (gc := gc) (c := c) n (by omega)
    show ∃ m, m ≤ n + 1 ∧ shE gl gc c n + (if shAt gl gc c (nI n) = (-2) then 1 else 0) = nI m ∧ _
    by_cases e : shAt gl gc c (nI n) = (-2)
    · refine ⟨m + 1, by omega, by rw [if_pos e, m2, nI_1], ⟨fun z => absurd z (by omega), fun z => absurd e (z n (Nat.lt_succ_self _))⟩⟩
    · refine ⟨m, by omega, by rw [if_neg e, m2, Int32.add_zero], ⟨fun z l hl => ?_, fun z => m3.mpr (fun l hl => z l (by omega))⟩⟩
      by_cases q : l = n
      · rw [q]; exact e
      · exact m3.mp z l (by omega)
theorem shEC_n {gl gc : Nat → Int32} (hb : ∀ j, j < 8 → bw (gl j) 0 60 = true) : ∀ n, n ≤ 8 → ∃ m, m ≤ 60 * n ∧ shEC gl gc n = nI m ∧ (m = 0 ↔ ∀ c, c < n → ∀ l, l < (gl c).toNatClampNeg → ¬ shAt gl gc (nI c) (nI l) = (-2))
  | 0, _ => ⟨0, Nat.le_refl _, rfl, ⟨fun _ c h => absurd h (Nat.not_lt_zero _), fun _ => rfl⟩⟩
  | n + 1, hn => by
    obtain ⟨m, m1, m2, m3⟩ := shEC_n (gc := gc) hb n (by omega)
    obtain ⟨a1, a2, a3⟩ := nI_of_bw (hb n (by omega))
    have h60 : (60 : Int32).toInt = 60 := rfl
    obtain ⟨k, k1, k2, k3⟩ := shE_n (gl := gl) (gc := gc) (c := nI n) (gl n).toNatClampNeg (by omega)
    refine ⟨m + k, by omega, ?_, ⟨fun z c hc l hl => ?_, fun z => ?_⟩⟩
    · show shEC gl gc n + shE gl gc (nI n) (gl (nI n).toNatClampNeg).toNatClampNeg = _
      rw [nI_clamp (by omega), m2, k2, nI_add]
    · by_cases q : c = n
      · rw [q] at hl ⊢
        exact k3.mp (by omega) l hl
      · exact m3.mp (by omega) c (by omega) l hl
    · have z1 := m3.mpr (fun c hc l hl => z c (by omega) l hl)
      have z2 := k3.mpr (fun l hl => z n (Nat.lt_succ_self _) l hl)
      omega
/-- an empty cell -/
theorem shEC_e {u : mS} {P : Nat} {gl gc : Nat → Int32} (hr : rI u) (hP : P < 12) (hl : eqR 8 gl (u.2 0) (8 * P)) (hc : eqR 480 gc (u.2 2) (480 * P)) (hb : ∀ j, j < 8 → bw (gl j) 0 60 = true) : 0 < shEC gl gc 8 ↔ plEx u (nI P) := by
  obtain ⟨m, m1, m2, m3⟩ := shEC_n (gc := gc) hb 8 (Nat.le_refl _)
  rw [m2, i32_lt, i0, nI_toInt (by omega)]
  have cell : ∀ c l, c < 8 → l < (gl c).toNatClampNeg → shAt gl gc (nI c) (nI l) = u.2 2 (480 * nI P + 60 * nI c + nI l).toNatClampNeg ∧ l < lnN u (nI P) c := fun c l h1 h2 => by
    rw [shAt_eq hP hl hc hb]
    have e0 : gl c = u.2 0 (8 * P + c) := hl c h1
    rw [e0] at h2
    have l6 := ln60 hr (j := 8 * P + c) (by omega)
    unfold mCellAt
    rw [if_pos ((mC_cel hr hP (by omega) (by omega)).mpr ⟨h1, h2⟩)]
    exact ⟨rfl, by rw [lnN_e hP h1]; exact h2⟩
  constructor
  · intro z
    refine Classical.byContradiction (fun q => ?_)
    have z1 : m = 0 := m3.mpr (fun c hc l hl2 e => q ⟨c, l, hc, (cell c l hc hl2).2, by rw [← (cell c l hc hl2).1]; exact e⟩)
    omega
  · rintro ⟨c, l, h1, h2, h3⟩
    refine Classical.byContradiction (fun q => ?_)
    have z1 := m3.mp (by omega)
    rw [lnN_e hP h1, ← hl c h1] at h2
    exact z1 c h1 l h2 (by rw [(cell c l h1 h2).1]; exact h3)
theorem brM_0 {u : mS} {p x y t : Int32} (h : brM u p x y t) : x = 0 ↔ x ≤ 0 := by
  have e : x = 0 ∨ x = 1 ∨ x = 2 ∨ x = 3 ∨ x = 4 ∨ x = 5 := by
    rcases h with h | ⟨-, h⟩
    · exact Or.inr (Or.inl h.1)
    rcases h with h | ⟨-, h⟩
    · exact Or.inr (Or.inr (Or.inl h.1))
    rcases h with h | ⟨-, h⟩
    · exact Or.inr (Or.inr (Or.inr (Or.inl h.1)))
    rcases h with h | ⟨-, h⟩
    · exact Or.inr (Or.inr (Or.inr (Or.inr (Or.inl h.1))))
    rcases h with h | ⟨-, h⟩
    · exact Or.inr (Or.inr (Or.inr (Or.inr (Or.inr h.1))))
    exact Or.inl h.1
  rcases e with e | e | e | e | e | e <;> rw [e] <;> decide
theorem step_plate {q : Nat → ClassId} {h0 : Nat} {d : Nat → Nat} {k : Nat → Int32} {z : gS} {f : xF} {u : mS} {w : xU} {p r r2 : Int32} {u9 : mS} (h : RR q h0 d k z f u) (hx : plP q h0 d k z f u p r w) (hm : plX u p r2 u9) : r = r2 ∧ ∃ d2, RR q h0 d2 w.1 w.2.1 w.2.2 u9 := by
  obtain ⟨hI, hrp, hk, hz, es, c, g, hu, hg, hL⟩ := h
  obtain ⟨x1, x2, x3, hx⟩ := hx
  have br : ∀ P x y t b, P < 12 → brM u (nI P) x y t → best (brS u (nI P) (u.1 3).toNatClampNeg) b → b = (x, y, t) := fun P x y t b hP a1 a2 => br_eq (uI_g hu) hP hu.2.1 hu.2.2.2.2.2.2.2.2.2.1 (hd_of hrp hu) a1 a2
  have h11 : (11 : Int32).toInt = 11 := rfl
  rcases hx with ⟨no, n1, n2, n3⟩ | ⟨⟨y1, gl, gc, y2, y3, y4, y5, y6, y7, y, t, y8⟩, d2, y9, y10, y11⟩
  · rcases hm with ⟨m1, m2, -⟩ | ⟨m1, m2, m3, m4, ⟨b, m5, m6⟩, -⟩
    · refine ⟨by rw [n1, m1], d, RR_st hI hz hu hg hL x2 (by rw [x1]; exact n2) (rep_E n3 m2) (by rw [x1]; exact k4_E hk m2.2) x3 rfl (fun _ _ => rfl) (uI_E hu m2)⟩
    · exfalso
      rcases no with a | ⟨-, gl, gc, a2, a3, a4, a5⟩
      · exact a m1
      · obtain ⟨P, hP, -, eP⟩ := exN m1 (by decide)
        have hPc : p.toNatClampNeg = P := by rw [eP, nI_clamp (by omega)]
        rw [hPc] at a2 a3
        rw [eP] at m2 m3 m5 a5
        rcases a5 with a | a | ⟨x, y, t, a6, a7⟩
        · rw [shCC_e (by omega) a2 8 (Nat.le_refl _)] at a
          exact m4 (m3.trans a)
        · exact m2 ((shEC_e hu.1 (by omega) a2 a3 a4).mp a)
        · have e := br P x y t b (by omega) a6 m5
          rw [e] at m6
          exact a7 ((brM_0 a6).mpr m6)
  · obtain ⟨P, hP, -, eP⟩ := exN y1 (by decide)
    have hPc : p.toNatClampNeg = P := by rw [eP, nI_clamp (by omega)]
    rw [hPc] at y2 y3 y11
    rw [eP] at y8
    rcases hm with ⟨m1, m2, m3⟩ | ⟨m1, m2, m3, m4, -, P2, p1, p2, p3, p4⟩
    · exfalso
      rcases m3 with a | ⟨-, a⟩
      · exact a y1
      · rw [eP] at a
        rcases a with a | a | ⟨b, a1, a2⟩
        · exact y7 ((shEC_e hu.1 (by omega) y2 y3 y4).mpr a)
        · exact y6 (by rw [y5, shCC_e (by omega) y2 8 (Nat.le_refl _)]; exact a)
        · have e := br P 0 y t b (by omega) y8 a1
          rw [e] at a2
          exact a2 (show (0 : Int32) ≤ 0 by decide)
    · have e2 : P2 = P := (nI_inj (by omega) (by omega)).mp (p2.symm.trans eP)
      subst e2
      obtain ⟨⟨b1, b2, b40, b41, b42⟩, b44, b43⟩ := id p3
      refine ⟨by rw [y5, m3, shCC_e (by omega) y2 8 (Nat.le_refl _), eP], d2, RR_st hI hz hu hg hL x2 (by rw [x1]; exact y10) (y11 u9 ⟨b1 3 (by decide) (by decide) (by decide), b2, b40, b41, b42, b43, b44⟩) (by rw [x1]; exact k4_E hk b1) x3 (y9 3 (Or.inl (by decide))) (fun j hj => y9 _ (Or.inr (by omega))) (uI_plate hu p1 p3 p4)⟩
/-- a question changes nothing -/
theorem RR_40 {q : Nat → ClassId} {h0 : Nat} {d : Nat → Nat} {k : Nat → Int32} {z : gS} {f : xF} {u : mS} (h : RR q h0 d k z f u) : (∀ p, p < 12 → u.2 40 p = 0 ∨ u.2 40 p = 1) ∧ ∀ i, i < (u.1 3).toNatClampNeg → 0 ≤ u.2 4 i ∧ u.2 4 i ≤ 5 := by
  obtain ⟨hI, hrp, -⟩ := h
  refine ⟨fun p hp => ?_, fun i hi => (hrp.2.2.1.2 i hi).2.2.2.1⟩
  obtain ⟨g, -, h2⟩ := hrp.2.1
  exact (h2 p hp).elim (fun z => Or.inl z.1) (fun z => Or.inr z.1)
