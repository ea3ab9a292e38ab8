/-- where no item is, no plate tells of one -/
def plZ (u : mS) : Prop := ∀ p, p < 12 → u.2 40 p = 1 → ∀ i, (u.1 3).toNatClampNeg ≤ i → i < 80 → u.2 45 (80 * p + i) = (-1)
/-- the reference's whole invariant, with its history -/
def uI (u : mS) (es : List hE) (c : cfg) : Prop := rI u ∧ kB u ∧ mH u es c ∧ gH u es c (u.2 2) ∧ nwI u ∧ plI u ∧ sdI u ∧ plZ u ∧ foI u ∧ rvI u ∧ bw (u.1 39) 0 7 = true
theorem uI_M {u : mS} {es : List hE} {c : cfg} (h : uI u es c) : mInv u := ⟨h.1, h.2.1, es, c, h.2.2.1⟩
theorem uI_ok {u : mS} {es : List hE} {c : cfg} (h : uI u es c) : cOK (u.1 3).toNatClampNeg (u.2 4) c := hOK_c h.2.2.1.2.2.2.1
theorem uI_g {u : mS} {es : List hE} {c : cfg} (h : uI u es c) : gOK u c := by
  have hok := uI_ok h
  refine ⟨h.1, gH_agr h.2.2.2.1, fun a r hr => ⟨(hok a).2.2.1 r hr, ?_⟩, h.2.2.1.2.2.2.2.2, fun a ha => (hok a).1 ha, fun a => (hok a).2.1⟩
  by_cases q : a < (u.1 3).toNatClampNeg
  · exact (gH_cX h.2.2.2.1 a q).1 r hr
  · rw [(hok a).1 (by omega)] at hr
    exact absurd hr List.not_mem_nil
theorem uI_pc {u : mS} {es : List hE} {c : cfg} (h : uI u es c) : pcI u := fun i hi t ht => by
  have g := uI_g h
  have hn := n80 h.1
  obtain ⟨r, r1, r2⟩ := pc_r g (by omega) ht
  obtain ⟨k1, k2⟩ := g.2.2.1 i r r1
  exact ⟨r.1, r.2.1, r.2.2.1, r.2.2.2.1, r.2.2.2.2, rIn_of k1 k2, r2⟩
theorem uI_ne {u : mS} {es : List hE} {c : cfg} (h : uI u es c) : neI u := fun j hj q => by
  rcases (gH_agr h.2.2.2.1).2.1 j hj with z | z | ⟨a, ha, z⟩
  · rw [z] at q; exact absurd q (by decide)
  · rw [z] at q; exact absurd q (by decide)
  · rw [z] at q
    have q2 := congrArg Int32.toInt q
    rw [nI_toInt (by omega)] at q2
    have e1 : (-1 : Int32).toInt = -1 := rfl
    omega
theorem uI_es {u : mS} {es : List hE} {c : cfg} (h : uI u es c) (h0 : u.1 28 ≤ 0) : es = [] := by
  have a1 := h.2.2.1.1
  rw [h.2.2.1.2.1, i32_le, nI_toInt (by omega), i0] at h0
  exact List.length_eq_zero_iff.mp (by omega)
theorem uI_br {u : mS} {es : List hE} {c : cfg} (h : uI u es c) : u.1 28 ≤ 0 → ∀ j, j < 5760 → u.2 2 j = (-2) := fun h0 => by
  have e := uI_es h h0
  have g := h.2.2.2.1
  rw [e] at g
  exact g.2
theorem uI_fi {u : mS} {es : List hE} {c : cfg} (h : uI u es c) : fiI u := fun i hi => by
  rcases h.2.2.2.2.2.2.2.2.1 i hi with ⟨h1, -⟩ | ⟨d0, h1, h2, -⟩
  · rw [h1]; decide
  · rw [h2, i32_lt]
    have hd := h.1.2.1
    obtain ⟨a, b, e⟩ := nI_of_bw hd
    have h9 : (399 : Int32).toInt = 399 := rfl
    have e1 : (-1 : Int32).toInt = -1 := rfl
    rw [nI_toInt (by omega), e1]; omega
theorem uI_n {u : mS} (h : rI u) : u.1 3 = nI (u.1 3).toNatClampNeg := (nI_of_bw h.1).1
/-- rows that the invariant reads are the same -/
theorem uI_c {u w : mS} {es : List hE} {c : cfg} (h : uI u es c) (h1 : ∀ k, k ≠ 49 → k ≠ 50 → k ≠ 51 → w.1 k = u.1 k) (hr : ∀ k, k = 0 ∨ k = 2 ∨ k = 4 ∨ k = 10 ∨ k = 11 ∨ (22 ≤ k ∧ k ≤ 37) ∨ 40 ≤ k → w.2 k = u.2 k) (hw : rI w) (hn : nwI w) (hv : rvI w) : uI w es c := by
  obtain ⟨a1, a2, a3, a4, a5, a6, a7, a8, a9, a10, a11⟩ := h
  have e3 := h1 3 (by decide) (by decide) (by decide)
  refine ⟨hw, kB_c a2 (hr 4 (by omega)) (hr 10 (by omega)), mH_c a3 e3 (h1 28 (by decide) (by decide) (by decide)) (h1 36 (by decide) (by decide) (by decide)) (hr 4 (by omega)) (fun k k1 k2 => hr k (by omega)), ?_, hn, plI_c a6 (fun r r1 r2 => hr r (by omega)), ?_, ?_, ?_, hv, by rw [h1 39 (by decide) (by decide) (by decide)]; exact a11⟩
  · rw [hr 2 (by omega)]
    exact gH_e e3 (hr 0 (by omega)) (hr 4 (by omega)) (hr 11 (by omega)) a4
  · unfold sdI at a7 ⊢
    rw [hr 40 (by omega), hr 4 (by omega), hr 45 (by omega), hr 11 (by omega)]; exact a7
  · unfold plZ at a8 ⊢
    rw [e3, hr 40 (by omega), hr 45 (by omega)]; exact a8
  · unfold foI at a9 ⊢
    rw [h1 38 (by decide) (by decide) (by decide), hr 47 (by omega), hr 48 (by omega)]; exact a9
theorem rvI_c {u w : mS} (h : rvI u) (hr : w.2 20 = u.2 20) : rvI w := by
  unfold rvI at h ⊢
  rw [hr]; exact h
theorem nwI_c {u w : mS} (h : nwI u) (h3 : w.1 3 = u.1 3) (h16 : ∀ i t, (u.1 3).toNatClampNeg ≤ i → i < 80 → t < 80 → w.2 16 (80 * i + t) = u.2 16 (80 * i + t)) (h18 : ∀ i t, (u.1 3).toNatClampNeg ≤ i → i < 80 → t < 4 → w.2 18 (4 * i + t) = u.2 18 (4 * i + t) ∧ w.2 19 (4 * i + t) = u.2 19 (4 * i + t)) (h21 : ∀ i t, (u.1 3).toNatClampNeg ≤ i → i < 80 → t < 10 → w.2 21 (10 * i + t) = u.2 21 (10 * i + t)) (h47 : ∀ i t, (u.1 3).toNatClampNeg ≤ i → i < 80 → t < 5 → w.2 47 (5 * i + t) = u.2 47 (5 * i + t)) (h48 : ∀ i t, (u.1 3).toNatClampNeg ≤ i → i < 80 → t < 400 → w.2 48 (80 * t + i) = u.2 48 (80 * t + i)) : nwI w := by
  intro i hi h8
  rw [h3] at hi
  obtain ⟨q1, q2, q3, q4, q5⟩ := h i hi h8
  exact ⟨fun t ht => (h47 i t hi h8 ht).trans (q1 t ht), fun t ht => (h16 i t hi h8 ht).trans (q2 t ht), fun t ht => ⟨(h18 i t hi h8 ht).1.trans (q3 t ht).1, (h18 i t hi h8 ht).2.trans (q3 t ht).2⟩, fun t ht => (h21 i t hi h8 ht).trans (q4 t ht), fun t ht => (h48 i t hi h8 ht).trans (q5 t ht)⟩
theorem nwI_e {u w : mS} (h : nwI u) (h3 : w.1 3 = u.1 3) (hr : ∀ r, r = 16 ∨ r = 18 ∨ r = 19 ∨ r = 21 ∨ r = 47 ∨ r = 48 → w.2 r = u.2 r) : nwI w := nwI_c h h3 (fun i t _ _ _ => by rw [hr 16 (by omega)]) (fun i t _ _ _ => by rw [hr 18 (by omega), hr 19 (by omega)]; exact ⟨rfl, rfl⟩) (fun i t _ _ _ => by rw [hr 21 (by omega)]) (fun i t _ _ _ => by rw [hr 47 (by omega)]) (fun i t _ _ _ => by rw [hr 48 (by omega)])
/-- line -/
theorem uI_line {u : mS} {es : List hE} {c : cfg} (h : uI u es c) (i x : Int32) : uI (mLine u i x).2 es c := by
  have hk := (line_inv (uI_M h) (Prod.ext rfl rfl : ((mLine u i x).1, (mLine u i x).2) = mLine u i x)).1.1
  have hn := n80 h.1
  revert hk
  unfold mLine
  by_cases h1 : mKind u i 0 = true
  · rw [if_pos h1]
    by_cases h2 : bw x 1 200 = true
    · rw [if_pos h2]
      by_cases h3 : u.2 15 i.toNatClampNeg = 80
      · rw [if_pos h3]; exact fun _ => h
      · rw [if_neg h3]
        dsimp only
        intro hk
        obtain ⟨m1, -⟩ := band h1
        obtain ⟨a, ea, ha, -⟩ := itN h.1 m1
        have hc := vp_in_iff.mp (vNew (h.1.2.2.2.2.1 i.toNatClampNeg (by rw [ea, nI_clamp (by omega)]; omega)) h3)
        obtain ⟨y, hy⟩ : ∃ y : Nat, (u.2 15 i.toNatClampNeg).toInt = (y : Int) := ⟨(u.2 15 i.toNatClampNeg).toInt.toNat, by omega⟩
        have ey : u.2 15 i.toNatClampNeg = nI y := Int32.toInt_inj.mp (by rw [nI_toInt (by omega)]; exact hy)
        refine uI_c h (fun k _ _ _ => rfl) (fun k k1 => by rw [mst_other (by omega), mst_other (by omega)]) hk (nwI_c h.2.2.2.2.1 rfl (fun j t j1 j2 j3 => ?_) (fun i t _ _ _ => by rw [mst_other (by decide), mst_other (by decide), mst_other (by decide), mst_other (by decide)]; exact ⟨rfl, rfl⟩) (fun i t _ _ _ => by rw [mst_other (by decide), mst_other (by decide)]) (fun i t _ _ _ => by rw [mst_other (by decide), mst_other (by decide)]) (fun i t _ _ _ => by rw [mst_other (by decide), mst_other (by decide)])) (rvI_c h.2.2.2.2.2.2.2.2.2.1 (by rw [mst_other (by decide), mst_other (by decide)]))
        rw [mst_other (by decide), mst_at, ey, ea, i80 (by omega) (by omega), if_neg (by omega)]
    · rw [if_neg h2]; exact fun _ => h
  · rw [if_neg h1]; exact fun _ => h
theorem uI_names {u : mS} {es : List hE} {c : cfg} (h : uI u es c) (i x : Int32) : uI (mNames u i x).2 es c := by
  have hk := (names_inv (uI_M h) (Prod.ext rfl rfl : ((mNames u i x).1, (mNames u i x).2) = mNames u i x)).1.1
  have hn := n80 h.1
  revert hk
  unfold mNames
  by_cases h1 : mKind u i 0 = true
  · rw [if_pos h1]
    by_cases h2 : bw x 0 9 = true
    · rw [if_pos h2]
      by_cases h3 : u.2 21 (10 * i + x).toNatClampNeg = 0
      · rw [if_pos h3]
        intro hk
        obtain ⟨m1, -⟩ := band h1
        obtain ⟨a, ea, ha, -⟩ := itN h.1 m1
        obtain ⟨y, hy, -, ey⟩ := exN h2 (by decide)
        have h9 : (9 : Int32).toInt = 9 := rfl
        refine uI_c h (fun k _ _ _ => rfl) (fun k k1 => by rw [mst_other (by omega)]) hk (nwI_c h.2.2.2.2.1 rfl (fun i t _ _ _ => by rw [mst_other (by decide)]) (fun i t _ _ _ => by rw [mst_other (by decide), mst_other (by decide)]; exact ⟨rfl, rfl⟩) (fun j t j1 j2 j3 => ?_) (fun i t _ _ _ => by rw [mst_other (by decide)]) (fun i t _ _ _ => by rw [mst_other (by decide)])) (rvI_c h.2.2.2.2.2.2.2.2.2.1 (by rw [mst_other (by decide)]))
        rw [mst_at, ey, ea, show (10 : Int32) = nI 10 from rfl, pk_mul, nI_add, nI_clamp (by omega), if_neg (by omega)]
      · rw [if_neg h3]; exact fun _ => h
    · rw [if_neg h2]; exact fun _ => h
  · rw [if_neg h1]; exact fun _ => h
theorem uI_size {u : mS} {es : List hE} {c : cfg} (h : uI u es c) (i x y : Int32) : uI (mSize u i x y).2 es c := by
  have hk := (size_inv (uI_M h) (Prod.ext rfl rfl : ((mSize u i x y).1, (mSize u i x y).2) = mSize u i x y)).1.1
  have hn := n80 h.1
  revert hk
  unfold mSize
  by_cases h1 : mKind u i 2 = true
  · rw [if_pos h1]
    by_cases h2 : bw x 1 8 = true
    · rw [if_pos h2]
      by_cases h4 : bw y 1 60 = true
      · rw [if_pos h4]
        by_cases h3 : u.2 17 i.toNatClampNeg = 4
        · rw [if_pos h3]; exact fun _ => h
        · rw [if_neg h3]
          dsimp only
          intro hk
          obtain ⟨m1, -⟩ := band h1
          obtain ⟨a, ea, ha, -⟩ := itN h.1 m1
          have hs := bw_iff.mp (h.1.2.2.2.2.2.1 i.toNatClampNeg (by rw [ea, nI_clamp (by omega)]; omega))
          have e4 : (4 : Int32).toInt = 4 := rfl
          rw [i0, e4] at hs
          have hs4 : ¬ (u.2 17 i.toNatClampNeg).toInt = 4 := fun q => h3 (sw_in q.symm e4)
          obtain ⟨b, hb⟩ : ∃ b : Nat, (u.2 17 i.toNatClampNeg).toInt = (b : Int) := ⟨(u.2 17 i.toNatClampNeg).toInt.toNat, by omega⟩
          have eb : u.2 17 i.toNatClampNeg = nI b := Int32.toInt_inj.mp (by rw [nI_toInt (by omega)]; exact hb)
          have ei : (4 * i + u.2 17 i.toNatClampNeg).toNatClampNeg = 4 * a + b := by rw [eb, ea, show (4 : Int32) = nI 4 from rfl, pk_mul, nI_add, nI_clamp (by omega)]
          refine uI_c h (fun k _ _ _ => rfl) (fun k k1 => by rw [mst_other (by omega), mst_other (by omega), mst_other (by omega)]) hk (nwI_c h.2.2.2.2.1 rfl (fun i t _ _ _ => by rw [mst_other (by decide), mst_other (by decide), mst_other (by decide)]) (fun j t j1 j2 j3 => ⟨?_, ?_⟩) (fun i t _ _ _ => by rw [mst_other (by decide), mst_other (by decide), mst_other (by decide)]) (fun i t _ _ _ => by rw [mst_other (by decide), mst_other (by decide), mst_other (by decide)]) (fun i t _ _ _ => by rw [mst_other (by decide), mst_other (by decide), mst_other (by decide)])) (rvI_c h.2.2.2.2.2.2.2.2.2.1 (by rw [mst_other (by decide), mst_other (by decide), mst_other (by decide)]))
          · rw [mst_other (by decide), mst_other (by decide), mst_at, ei, if_neg (by omega)]
          · rw [mst_other (by decide), mst_at, mst_other (by decide), ei, if_neg (by omega), mst_other (by decide)]
      · rw [if_neg h4]; exact fun _ => h
    · rw [if_neg h2]; exact fun _ => h
  · rw [if_neg h1]; exact fun _ => h
theorem uI_rival {u : mS} {es : List hE} {c : cfg} (h : uI u es c) (a b : Int32) : uI (mRival u a b).2 es c := by
  have hk := (riv_inv (uI_M h) (Prod.ext rfl rfl : ((mRival u a b).1, (mRival u a b).2) = mRival u a b)).1.1
  revert hk
  unfold mRival
  by_cases h1 : bw a 0 9 = true
  · rw [if_pos h1]
    by_cases h2 : bw b 0 9 = true
    · rw [if_pos h2]
      by_cases h4 : a = b
      · rw [if_pos h4]; exact fun _ => h
      · rw [if_neg h4]
        by_cases h3 : u.2 20 (10 * a + b).toNatClampNeg = 0
        · rw [if_pos h3]
          intro hk
          obtain ⟨x, hx, -, ex⟩ := exN h1 (by decide)
          obtain ⟨y, hy, -, ey⟩ := exN h2 (by decide)
          have h9 : (9 : Int32).toInt = 9 := rfl
          refine uI_c h (fun k _ _ _ => rfl) (fun k k1 => by rw [mst_other (by omega), mst_other (by omega)]) hk (nwI_e h.2.2.2.2.1 rfl (fun r r1 => by rw [mst_other (by omega), mst_other (by omega)])) ?_
          have hxy : x ≠ y := fun z => h4 (by rw [ex, ey, z])
          intro p q hp hq
          have hv := h.2.2.2.2.2.2.2.2.2.1 p q hp hq
          rw [mst_at, mst_at, mst_at, mst_at, ex, ey, show (10 : Int32) = nI 10 from rfl, pk_mul, pk_mul, nI_add, nI_add, nI_clamp (by omega), nI_clamp (by omega)]
          by_cases e1 : 10 * p + q = 10 * y + x
          · rw [if_pos e1, if_neg (by omega), if_pos (by omega)]
          · rw [if_neg e1]
            by_cases e2 : 10 * p + q = 10 * x + y
            · rw [if_pos e2, if_pos (by omega)]
            · rw [if_neg e2, if_neg (by omega), if_neg (by omega)]; exact hv
        · rw [if_neg h3]; exact fun _ => h
    · rw [if_neg h2]; exact fun _ => h
  · rw [if_neg h1]; exact fun _ => h
