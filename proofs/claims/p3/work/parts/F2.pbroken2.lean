/-- heads: one piece at most, and they belong to something -/
def hdI (u : mS) (c : cfg) : Prop := ∀ i, i < (u.1 3).toNatClampNeg → u.2 4 i = 1 → (c i).length ≤ 1 ∧ ¬ u.2 9 i = (-1)
theorem thN_on {u : mS} {c : cfg} (g : gOK u c) {p0 : Int32} {j : Nat} (hj : j < 80) : thN u p0 j ↔ onP u j p0 := by
  have h6 := g.2.2.2.2.2 j
  have ec := cnt_e g hj
  unfold thN thP onP ptC
  rw [nI_clamp (n := j) (by omega)]
  constructor
  · rintro ⟨t, t1, t2⟩
    rw [i6k hj (by omega)] at t2
    exact ⟨t, t1, t2⟩
  · rintro ⟨t, t1, t2⟩
    refine ⟨t, t1, ?_⟩
    rw [i6k hj (by omega)]
    exact t2
theorem iC4_i {u : mS} {c : cfg} (g : gOK u c) {p0 : Int32} {j : Nat} (hj : j < 80) : iC4 u p0 j ↔ fsC u p0 4 j := by
  have hc : bw (u.2 22 j) 0 6 = true := by
    rw [(g.2.2.2.1 j hj).1]
    exact bwN (by have h6 : (6 : Int32).toInt = 6 := rfl; have := g.2.2.2.2.2 j; rw [h6]; omega) (by have := g.2.2.2.2.2 j; omega)
  unfold iC4 fsC faP
  rw [thN_on g hj, nI_clamp (n := j) (by omega), s_standing_m hj hc]
  constructor
  · rintro ⟨h1, h2, h3⟩
    refine ⟨h1, Or.inl ⟨rfl, h2, ?_⟩⟩
    rw [i32_lt]
    rw [i32_le] at h3
    omega
  · rintro ⟨h1, h2⟩
    rcases h2 with ⟨-, h2, h3⟩ | ⟨h2, -⟩
    · refine ⟨h1, h2, ?_⟩
      rw [i32_lt] at h3
      rw [i32_le]
      omega
    · exact absurd rfl h2
theorem hs_so {u : mS} {c : cfg} (g : gOK u c) {j : Nat} (hj : j < (u.1 3).toNatClampNeg) (h1 : (c j).length = 1) (h9 : ¬ u.2 9 j = (-1)) : hsP u j ↔ soP u j := by
  have hn := n80 g.1
  have hj8 : j < 80 := by omega
  have ec := cnt_e g hj8
  obtain ⟨r, r1, r2⟩ := pc_r g (i := j) (t := 0) hj8 (by omega)
  obtain ⟨kr, lr⟩ := g.2.2.1 j r r1
  have e6 : (6 * nI j).toNatClampNeg = 6 * j := by rw [show (6 : Int32) = nI 6 from rfl, pk_mul, nI_clamp (by omega)]
  have r2 : slE u (6 * j) r := r2
  obtain ⟨a0, a1, a2, a3, a4⟩ := r2
  have e22 : u.2 22 j = 1 := by rw [(g.2.2.2.1 j hj8).1, h1]; rfl
  have c22 : (u.2 22 j).toNatClampNeg - 1 = 0 := by omega
  have core : ∀ k, k < r.2.2.2.1 → (hsC u (nI j) (6 * nI j) (u.2 25 (6 * nI j).toNatClampNeg + u.2 27 (6 * nI j).toNatClampNeg) (r.2.1 + k) ↔ soC u j r.1 r.2.1 r.2.2.1 r.2.2.2.2 k) := fun k hk => by
    unfold hsC soC mCellAt
    rw [e6, a0, a2, a4, nI_clamp (n := j) (by omega)]
    by_cases q : mCell u (nI r.1) (nI (r.2.1 + k)) (nI r.2.2.1 + nI r.2.2.2.2) = true
    · rw [if_pos q]
      exact ⟨fun z => z.2, fun z => ⟨q, z⟩⟩
    · rw [if_neg q]
      exact ⟨fun z => absurd z.1 q, fun z => absurd z.symm h9⟩
  constructor
  · rintro ⟨X, D, f1, f2, f3, k, k1, k2⟩
    rw [e6] at f1 f2
    have eX : X = r.2.1 := (nI_inj (by omega) (by have := kr.2.1; omega)).mp (f1.symm.trans a1)
    have eD : D = r.2.2.2.1 := (nI_inj (by omega) (by have := kr.2.1; omega)).mp (f2.symm.trans a3)
    rw [eX] at k2
    rw [eD] at k1
    refine ⟨by rw [e22]; decide, r.1, r.2.1, r.2.2.1, r.2.2.2.1, r.2.2.2.2, ?_, ?_, ?_, ?_, ?_, rIn_of kr lr, k, k1, (core k k1).mp k2⟩
    · rw [c22]; exact a0
    · rw [c22]; exact a1
    · rw [c22]; exact a2
    · rw [c22]; exact a3
    · rw [c22]; exact a4
  · rintro ⟨-, P, X, Y, D, N, b0, b1, b2, b3, b4, hin, k, k1, k2⟩
    rw [c22] at b0 b1 b2 b3 b4
    obtain ⟨i1, i2, i3, i4, i5, -⟩ := hin
    have b0 : u.2 23 (6 * j) = nI P := b0
    have b1 : u.2 24 (6 * j) = nI X := b1
    have b2 : u.2 25 (6 * j) = nI Y := b2
    have b3 : u.2 26 (6 * j) = nI D := b3
    have b4 : u.2 27 (6 * j) = nI N := b4
    obtain ⟨m1, m2, m3, m4, m5⟩ := kr
    have eP : P = r.1 := (nI_inj (by omega) (by omega)).mp (b0.symm.trans a0)
    have eX : X = r.2.1 := (nI_inj (by omega) (by omega)).mp (b1.symm.trans a1)
    have eY : Y = r.2.2.1 := (nI_inj (by omega) (by omega)).mp (b2.symm.trans a2)
    have eD : D = r.2.2.2.1 := (nI_inj (by omega) (by omega)).mp (b3.symm.trans a3)
    have eN : N = r.2.2.2.2 := (nI_inj (by omega) (by omega)).mp (b4.symm.trans a4)
    rw [eP, eX, eY, eN] at k2
    rw [eD] at k1
    exact ⟨r.2.1, r.2.2.2.1, by rw [e6]; exact a1, by rw [e6]; exact a3, m2, k, k1, (core k k1).mpr k2⟩
theorem iC5_i {u : mS} {c : cfg} (g : gOK u c) (hd : hdI u c) {p0 : Int32} {j : Nat} (hj : j < (u.1 3).toNatClampNeg) : iC5 u p0 j ↔ fsC u p0 5 j := by
  have hn := n80 g.1
  have hj8 : j < 80 := by omega
  unfold iC5 fsC faP
  rw [thN_on g hj8, nI_clamp (n := j) (by omega)]
  have key : onP u j p0 → u.2 4 j = 1 → (hsP u j ↔ soP u j) := fun h1 h2 => by
    obtain ⟨q1, q2⟩ := hd j hj h2
    obtain ⟨t, t1, -⟩ := h1
    rw [cnt_e g hj8] at t1
    exact hs_so g hj (by omega) q2
  constructor
  · rintro ⟨h1, h2, h3⟩
    exact ⟨h1, Or.inr ⟨by decide, h2, fun z => h3 ((key h1 h2).mpr z)⟩⟩
  · rintro ⟨h1, h2⟩
    rcases h2 with ⟨h2, -⟩ | ⟨-, h2, h3⟩
    · exact absurd h2 (by decide)
    · exact ⟨h1, h2, fun z => h3 ((key h1 h2).mp z)⟩
def kd2 (kd : Int32) : Prop := kd = 4 ∨ kd = 5
/-- all that is broken on a page, in the class's words -/
def kS (u : mS) (p : Int32) (t : tr3) : Prop := (∃ kd a b, kd3 kd ∧ a < b ∧ b < (u.1 3).toNatClampNeg ∧ lpC u p kd a b ∧ t = (kd, nI a, nI b)) ∨ ∃ kd i, kd2 kd ∧ i < (u.1 3).toNatClampNeg ∧ fsC u p kd i ∧ t = (kd, nI i, -1)
theorem trN_1 {k : Int32} {j : Nat} : trN k (nI j) (-1) = (k, nI j, -1) := by
  unfold trN
  rw [if_pos (by decide), if_pos (by decide)]
theorem brS_k {u : mS} {c : cfg} {P : Nat} (g : gOK u c) (hP : P < 12) (hk : kB u) (hv : rvI u) (hd : hdI u c) (t : tr3) : brS u (nI P) (u.1 3).toNatClampNeg t ↔ kS u (nI P) t := by
  have hn := n80 g.1
  unfold brS kS
  rw [vTS_k g hP hk hv]
  refine or_congr Iff.rfl ⟨?_, ?_⟩
  · rintro ⟨j, hj, h⟩
    rcases h with ⟨h1, h2⟩ | ⟨h1, h2⟩
    · exact ⟨4, j, Or.inl rfl, hj, (iC4_i g (by omega)).mp h1, by rw [h2, trN_1]⟩
    · exact ⟨5, j, Or.inr rfl, hj, (iC5_i g hd hj).mp h1, by rw [h2, trN_1]⟩
  · rintro ⟨kd, i, h1, hi, h2, h3⟩
    rcases h1 with e | e
    · rw [e] at h2 h3
      exact ⟨i, hi, Or.inl ⟨(iC4_i g (by omega)).mpr h2, by rw [h3, trN_1]⟩⟩
    · rw [e] at h2 h3
      exact ⟨i, hi, Or.inr ⟨(iC5_i g hd hi).mpr h2, by rw [h3, trN_1]⟩⟩
theorem kd_int {kd : Int32} : (kd3 kd → 1 ≤ kd.toInt ∧ kd.toInt ≤ 3) ∧ (kd2 kd → 4 ≤ kd.toInt ∧ kd.toInt ≤ 5) := by
  have e1 : (1 : Int32).toInt = 1 := rfl
  have e2 : (2 : Int32).toInt = 2 := rfl
  have e3 : (3 : Int32).toInt = 3 := rfl
  have e4 : (4 : Int32).toInt = 4 := rfl
  have e5 : (5 : Int32).toInt = 5 := rfl
  refine ⟨fun h => ?_, fun h => ?_⟩
  · rcases h with q | q | q <;> rw [q] <;> omega
  · rcases h with q | q <;> rw [q] <;> omega
theorem best_L {u : mS} {p : Int32} {kd0 x y t : Int32} (hn : (u.1 3).toNatClampNeg ≤ 80) (h0 : kd3 kd0) (hno : ∀ kd, kd3 kd → kd.toInt < kd0.toInt → noL u p kd) (h : isL u p kd0 x y t) : best (kS u p) (x, y, t) := by
  obtain ⟨ex, a, b, ey, et, hab, hb, hc, hm⟩ := h
  rw [ex, ey, et]
  have k0 := (kd_int (kd := kd0)).1 h0
  refine Or.inr ⟨fun q => ?_, Or.inl ⟨kd0, a, b, h0, hab, hb, hc, rfl⟩, fun t' ht' => ?_⟩
  · have q2 : kd0.toInt = 0 := congrArg Int32.toInt q
    omega
  · rcases ht' with ⟨kd, a', b', k1, k2, k3, k4, k5⟩ | ⟨kd, i, k1, k2, k3, k4⟩
    · have kk := (kd_int (kd := kd)).1 k1
      rw [k5]
      unfold le3
      dsimp only
      rcases Int.lt_trichotomy kd.toInt kd0.toInt with q | q | q
      · exact absurd k4 (hno kd k1 q a' b' k2 k3)
      · have e : kd = kd0 := Int32.toInt_inj.mp q
        rw [e] at k4
        have nm : ¬ (a' < a ∨ (a' = a ∧ b' < b)) := fun z => hm a' b' k2 k3 z k4
        rw [nI_toInt (by omega), nI_toInt (by omega), nI_toInt (by omega), nI_toInt (by omega)]
        omega
      · exact Or.inl q
    · have kk := (kd_int (kd := kd)).2 k1
      rw [k4]
      exact Or.inl (by show kd0.toInt < kd.toInt; omega)
theorem best_S {u : mS} {p : Int32} {kd0 x y t : Int32} (hn : (u.1 3).toNatClampNeg ≤ 80) (h0 : kd2 kd0) (hno : ∀ kd, kd3 kd → noL u p kd) (hno2 : ∀ kd, kd2 kd → kd.toInt < kd0.toInt → noS u p kd) (h : isS u p kd0 x y t) : best (kS u p) (x, y, t) := by
  obtain ⟨ex, et, i, hi, ey, hc, hm⟩ := h
  rw [ex, ey, et]
  have k0 := (kd_int (kd := kd0)).2 h0
  refine Or.inr ⟨fun q => ?_, Or.inr ⟨kd0, i, h0, hi, hc, rfl⟩, fun t' ht' => ?_⟩
  · have q2 : kd0.toInt = 0 := congrArg Int32.toInt q
    omega
  · rcases ht' with ⟨kd, a', b', k1, k2, k3, k4, k5⟩ | ⟨kd, j, k1, k2, k3, k4⟩
    · exact absurd k4 (hno kd k1 a' b' k2 k3)
    · have kk := (kd_int (kd := kd)).2 k1
      rw [k4]
      unfold le3
      dsimp only
      rcases Int.lt_trichotomy kd.toInt kd0.toInt with q | q | q
      · exact absurd k3 (hno2 kd k1 q j k2)
      · have e : kd = kd0 := Int32.toInt_inj.mp q
        rw [e] at k3
        have nm : ¬ j < i := fun z => hm j z k3
        rw [nI_toInt (by omega), nI_toInt (by omega)]
        omega
      · exact Or.inl q
theorem t1 : (1 : Int32).toInt = 1 ∧ (2 : Int32).toInt = 2 ∧ (3 : Int32).toInt = 3 ∧ (4 : Int32).toInt = 4 ∧ (5 : Int32).toInt = 5 := ⟨rfl, rfl, rfl, rfl, rfl⟩
/-- what the class finds is the least wrong -/
theorem brM_best {u : mS} {p x y t : Int32} (hn : (u.1 3).toNatClampNeg ≤ 80) (h : brM u p x y t) : best (kS u p) (x, y, t) := by
  obtain ⟨e1, e2, e3, e4, e5⟩ := t1
  rcases h with h | ⟨n1, h⟩
  · refine best_L hn (Or.inl rfl) (fun kd k q => ?_) h
    have := (kd_int (kd := kd)).1 k
    omega
  rcases h with h | ⟨n2, h⟩
  · refine best_L hn (Or.inr (Or.inl rfl)) (fun kd k q => ?_) h
    rcases k with k | k | k
    · rw [k]; exact n1
    · rw [k] at q; omega
    · rw [k] at q; omega
  rcases h with h | ⟨n3, h⟩
  · refine best_L hn (Or.inr (Or.inr rfl)) (fun kd k q => ?_) h
    rcases k with k | k | k
    · rw [k]; exact n1
    · rw [k]; exact n2
    · rw [k] at q; omega
  have hno : ∀ kd, kd3 kd → noL u p kd := fun kd k => by
    rcases k with k | k | k
    · rw [k]; exact n1
    · rw [k]; exact n2
    · rw [k]; exact n3
  rcases h with h | ⟨n4, h⟩
  · refine best_S hn (Or.inl rfl) hno (fun kd k q => ?_) h
    have := (kd_int (kd := kd)).2 k
    omega
  rcases h with h | ⟨n5, hx, hy, ht⟩
  · refine best_S hn (Or.inr rfl) hno (fun kd k q => ?_) h
    rcases k with k | k
    · rw [k]; exact n4
    · rw [k] at q; omega
  rw [hx, hy, ht]
  refine Or.inl ⟨rfl, fun t' ht' => ?_⟩
  rcases ht' with ⟨kd, a', b', k1, k2, k3, k4, k5⟩ | ⟨kd, j, k1, k2, k3, k4⟩
  · exact hno kd k1 a' b' k2 k3 k4
  · rcases k1 with k | k
    · rw [k] at k3; exact n4 j k2 k3
    · rw [k] at k3; exact n5 j k2 k3
/-- broken: class and reference answer alike -/
theorem br_eq {u : mS} {c : cfg} {P : Nat} (g : gOK u c) (hP : P < 12) (hk : kB u) (hv : rvI u) (hd : hdI u c) {x y t : Int32} {b : tr3} (h : brM u (nI P) x y t) (h2 : best (brS u (nI P) (u.1 3).toNatClampNeg) b) : b = (x, y, t) := best_u (best_c h2 (fun t => brS_k g hP hk hv hd t)) (brM_best (n80 g.1) h)
