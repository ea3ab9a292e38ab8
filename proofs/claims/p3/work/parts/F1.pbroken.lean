theorem nm_i {u : mS} (hk : kB u) {a b : Nat} (ha : a < 80) (hb : b < 80) : bCa u (nI a) (nI b) ↔ nmP u a b := by
  unfold bCa nmP
  rw [nI_clamp (n := a) (by omega), nI_clamp (n := b) (by omega)]
  by_cases h : u.2 4 a = 3
  · obtain ⟨x, hx, -, ex⟩ := exN (hk a ha h) (by decide)
    have h9 : (9 : Int32).toInt = 9 := rfl
    rw [ex, show (10 : Int32) = nI 10 from rfl, pk_mul, nI_add, nI_clamp (n := 10 * b + x) (by omega), nI_clamp (n := x) (by omega)]
  · exact ⟨fun q => absurd q.1 h, fun q => absurd q.1 h⟩
/-- rivals of one another -/
def rvI (u : mS) : Prop := ∀ x y, x < 10 → y < 10 → (u.2 20 (10 * x + y) = 0 ↔ u.2 20 (10 * y + x) = 0)
theorem rv_i {u : mS} {a b : Nat} (ha : a < 80) (hb : b < 80) : bC1 u (nI a) (nI b) ↔ rvP u a b := by
  unfold bC1 rvP
  rw [nI_clamp (n := a) (by omega), nI_clamp (n := b) (by omega), Int32.mul_comm 10 (u.2 10 a)]
theorem rv_s {u : mS} (hk : kB u) (hv : rvI u) {a b : Nat} (ha : a < 80) (hb : b < 80) (h : rvP u a b) : rvP u b a := by
  obtain ⟨h1, h2, h3⟩ := h
  refine ⟨h2, h1, fun q => h3 ?_⟩
  obtain ⟨x, hx, -, ex⟩ := exN (hk a ha h1) (by decide)
  obtain ⟨y, hy, -, ey⟩ := exN (hk b hb h2) (by decide)
  have h9 : (9 : Int32).toInt = 9 := rfl
  rw [ex, ey, show (10 : Int32) = nI 10 from rfl, pk_mul, nI_add, nI_clamp (by omega)] at q ⊢
  rw [Nat.mul_comm] at q ⊢
  exact (hv x y (by omega) (by omega)).mpr q
theorem sl_mem {u : mS} {a : Nat} : ∀ {l : List fR}, slM u a l → (∀ r, r ∈ l → ∃ t, t < l.length ∧ slE u (6 * a + t) r) ∧ ∀ t, t < l.length → ∃ r, r ∈ l ∧ slE u (6 * a + t) r
  | [], _ => ⟨fun r h => absurd h List.not_mem_nil, fun t h => absurd h (Nat.not_lt_zero _)⟩
  | r :: l, h => by
    obtain ⟨h1, h2⟩ := h
    obtain ⟨a1, a2⟩ := sl_mem h2
    refine ⟨fun s hs => ?_, fun t ht => ?_⟩
    · rcases List.mem_cons.mp hs with q | q
      · exact ⟨l.length, by rw [List.length_cons]; omega, by rw [q]; exact h1⟩
      · obtain ⟨t, t1, t2⟩ := a1 s q
        exact ⟨t, by rw [List.length_cons]; omega, t2⟩
    · by_cases e : t = l.length
      · exact ⟨r, List.mem_cons_self, by rw [e]; exact h1⟩
      · obtain ⟨s, s1, s2⟩ := a2 t (by rw [List.length_cons] at ht; omega)
        exact ⟨s, List.mem_cons_of_mem _ s1, s2⟩
theorem cnt_e {u : mS} {c : cfg} (g : gOK u c) {i : Nat} (hi : i < 80) : (u.2 22 i).toNatClampNeg = (c i).length := by
  rw [(g.2.2.2.1 i hi).1, nI_clamp (by have := g.2.2.2.2.2 i; omega)]
theorem pc_r {u : mS} {c : cfg} (g : gOK u c) {i t : Nat} (hi : i < 80) (ht : t < (u.2 22 i).toNatClampNeg) : ∃ r, r ∈ c i ∧ slE u (6 * i + t) r := (sl_mem (g.2.2.2.1 i hi).2).2 t (by rw [← cnt_e g hi]; exact ht)
theorem r_pc {u : mS} {c : cfg} (g : gOK u c) {i : Nat} {r : fR} (hi : i < 80) (hr : r ∈ c i) : ∃ t, t < (u.2 22 i).toNatClampNeg ∧ slE u (6 * i + t) r := by
  obtain ⟨t, t1, t2⟩ := (sl_mem (g.2.2.2.1 i hi).2).1 r hr
  exact ⟨t, by rw [cnt_e g hi]; exact t1, t2⟩
theorem tch_iff {u : mS} {i j t t2 : Nat} {r s : fR} (kr : rOK r) (ks : rOK s) (hr : slE u (6 * i + t) r) (hs : slE u (6 * j + t2) s) (sw : Int32) : s_tch (pR u j) (pR u i t 0) (pR u i t 1) (pR u i t 2) (pR u i t 3) (pR u i t 4) sw t2 ↔ besN s r ∨ (sw = 0 ∧ ovrN s r) := by
  unfold s_tch
  have a0 : pR u i t 0 = nI r.1 := hr.1
  have a1 : pR u i t 1 = nI r.2.1 := hr.2.1
  have a2 : pR u i t 2 = nI r.2.2.1 := hr.2.2.1
  have a3 : pR u i t 3 = nI r.2.2.2.1 := hr.2.2.2.1
  have a4 : pR u i t 4 = nI r.2.2.2.2 := hr.2.2.2.2
  have b0 : pR u j t2 0 = nI s.1 := hs.1
  have b1 : pR u j t2 1 = nI s.2.1 := hs.2.1
  have b2 : pR u j t2 2 = nI s.2.2.1 := hs.2.2.1
  have b3 : pR u j t2 3 = nI s.2.2.2.1 := hs.2.2.2.1
  have b4 : pR u j t2 4 = nI s.2.2.2.2 := hs.2.2.2.2
  obtain ⟨k1, k2, k3, k4, k5⟩ := kr
  obtain ⟨m1, m2, m3, m4, m5⟩ := ks
  rw [a0, a1, a2, a3, a4, b0, b1, b2, b3, b4, bes_iff ⟨by omega, by omega, by omega, by omega, by omega⟩ ⟨by omega, by omega, by omega, by omega, by omega⟩, ovr_iff ⟨by omega, by omega, by omega, by omega, by omega⟩ ⟨by omega, by omega, by omega, by omega, by omega⟩]
  exact Iff.rfl
theorem besN_s {r s : fR} (h : besN r s) : besN s r := ⟨h.1.symm, h.2.1.symm, h.2.2.2, h.2.2.1⟩
theorem ovrN_s {r s : fR} (h : ovrN r s) : ovrN s r := ⟨h.1.symm, h.2.1.symm, h.2.2.2, h.2.2.1⟩
theorem mt_iff {u : mS} {c : cfg} {P i j : Nat} (g : gOK u c) (hP : P < 12) (hi : i < 80) (hj : j < 80) (sw : Int32) : mtP u i j (nI P) sw ↔ hAd c P i j ∨ (sw = 0 ∧ vAd c P i j) := by
  constructor
  · rintro ⟨t, ht, e, hb⟩
    obtain ⟨t2, h1, h2⟩ := bP_nz rfl hb
    obtain ⟨r, r1, r2⟩ := pc_r g hi ht
    obtain ⟨s, s1, s2⟩ := pc_r g hj h1
    have kr := (g.2.2.1 i r r1).1
    have ks := (g.2.2.1 j s s1).1
    have e2 : pR u i t 0 = nI r.1 := r2.1
    have rP : r.1 = P := (nI_inj (by have := kr.1; omega) (by omega)).mp (e2.symm.trans e)
    rw [tch_iff kr ks r2 s2] at h2
    rcases h2 with h2 | h2
    · exact Or.inl ⟨r, s, r1, s1, rP, besN_s h2⟩
    · exact Or.inr ⟨h2.1, r, s, r1, s1, rP, ovrN_s h2.2⟩
  · intro h
    obtain ⟨r, s, r1, s1, rP, h2⟩ : ∃ r s, r ∈ c i ∧ s ∈ c j ∧ r.1 = P ∧ (besN s r ∨ (sw = 0 ∧ ovrN s r)) := by
      rcases h with ⟨r, s, r1, s1, rP, h⟩ | ⟨h0, r, s, r1, s1, rP, h⟩
      · exact ⟨r, s, r1, s1, rP, Or.inl (besN_s h)⟩
      · exact ⟨r, s, r1, s1, rP, Or.inr ⟨h0, ovrN_s h⟩⟩
    obtain ⟨t, t1, t2⟩ := r_pc g hi r1
    obtain ⟨t3, t4, t5⟩ := r_pc g hj s1
    have kr := (g.2.2.1 i r r1).1
    have ks := (g.2.2.1 j s s1).1
    have e2 : pR u i t 0 = nI r.1 := t2.1
    refine ⟨t, t1, by rw [e2, rP], ?_⟩
    rw [bP_t ⟨t3, t4, (tch_iff kr ks t2 t5 sw).mpr h2⟩]
    decide
theorem lpC_iff {u : mS} {c : cfg} {P a b : Nat} (g : gOK u c) (hP : P < 12) (ha : a < 80) (hb : b < 80) (kd : Int32) : lpC u (nI P) kd a b ↔ mnP u a b kd ∧ (hAd c P a b ∨ (swA kd = 0 ∧ vAd c P a b)) := by
  unfold lpC lpB
  rw [mt_iff g hP ha hb]
  refine ⟨fun h => h.2, fun h => ⟨?_, h⟩⟩
  obtain ⟨r, r1, rP⟩ : ∃ r, r ∈ c a ∧ r.1 = P := by
    rcases h.2 with ⟨r, s, r1, s1, rP, -⟩ | ⟨-, r, s, r1, s1, rP, -⟩
    · exact ⟨r, r1, rP⟩
    · exact ⟨r, r1, rP⟩
  obtain ⟨t, t1, t2⟩ := r_pc g ha r1
  exact ⟨t, t1, by rw [← rP]; exact t2.1⟩
theorem trN_lt {a b : Nat} (h : a < b) (hb : b < 80) (k : Int32) : trN k (nI a) (nI b) = (k, nI a, nI b) ∧ trN k (nI b) (nI a) = (k, nI a, nI b) := by
  unfold trN
  have h1 : nI a ≤ nI b := by rw [nle (by omega) (by omega)]; omega
  have h2 : ¬ nI b ≤ nI a := by rw [nle (by omega) (by omega)]; omega
  rw [if_neg (nIpos (by omega)), if_neg (nIpos (by omega)), if_neg (nIpos (by omega)), if_neg (nIpos (by omega)), if_pos h1, if_pos h1, if_neg h2, if_neg h2]
  exact ⟨rfl, rfl⟩
def kdO (ac kd : Int32) : Prop := kd = 1 ∨ kd = 2 ∨ (kd = 3 ∧ ¬ ac = 0)
theorem prT_lt {u : mS} (hk : kB u) {a b : Nat} (h : a < b) (hb : b < 80) (ac : Int32) (t : tr3) : prT u a b ac t ↔ ∃ kd, kdO ac kd ∧ mnP u a b kd ∧ t = (kd, nI a, nI b) := by
  unfold prT bT1 bT2 bT3 bC3
  rw [rv_i (by omega) hb, nm_i hk (by omega) hb, nm_i hk hb (by omega), (trN_lt h hb 1).1, (trN_lt h hb 2).1, (trN_lt h hb 3).1, nI_clamp (n := a) (by omega), nI_clamp (n := b) (by omega)]
  constructor
  · rintro (⟨h1, h2⟩ | ⟨h1, h2⟩ | ⟨⟨h0, h1⟩, h2⟩)
    · exact ⟨1, Or.inl rfl, Or.inl ⟨rfl, h1⟩, h2⟩
    · exact ⟨2, Or.inr (Or.inl rfl), Or.inr (Or.inl ⟨rfl, h1⟩), h2⟩
    · exact ⟨3, Or.inr (Or.inr ⟨rfl, h0⟩), Or.inr (Or.inr ⟨rfl, h1⟩), h2⟩
  · rintro ⟨kd, hk1, h1, h2⟩
    rcases h1 with ⟨e, h1⟩ | ⟨e, h1⟩ | ⟨e, h1⟩
    · rw [e] at h2; exact Or.inl ⟨h1, h2⟩
    · rw [e] at h2; exact Or.inr (Or.inl ⟨h1, h2⟩)
    · rw [e] at h2 hk1
      rcases hk1 with q | q | q
      · exact absurd q (by decide)
      · exact absurd q (by decide)
      · exact Or.inr (Or.inr ⟨⟨q.2, h1⟩, h2⟩)
theorem prT_gt {u : mS} (hk : kB u) (hv : rvI u) {a b : Nat} (h : a < b) (hb : b < 80) (ac : Int32) (t : tr3) : prT u b a ac t ↔ ∃ kd, kdO ac kd ∧ mnP u a b kd ∧ t = (kd, nI a, nI b) := by
  unfold prT bT1 bT2 bT3 bC3
  rw [rv_i hb (by omega), nm_i hk (by omega) hb, nm_i hk hb (by omega), (trN_lt h hb 1).2, (trN_lt h hb 2).2, (trN_lt h hb 3).2, nI_clamp (n := a) (by omega), nI_clamp (n := b) (by omega)]
  constructor
  · rintro (⟨h1, h2⟩ | ⟨h1, h2⟩ | ⟨⟨h0, h1⟩, h2⟩)
    · exact ⟨1, Or.inl rfl, Or.inl ⟨rfl, rv_s hk hv hb (by omega) h1⟩, h2⟩
    · exact ⟨2, Or.inr (Or.inl rfl), Or.inr (Or.inl ⟨rfl, h1.symm⟩), h2⟩
    · exact ⟨3, Or.inr (Or.inr ⟨rfl, h0⟩), Or.inr (Or.inr ⟨rfl, h1.symm⟩), h2⟩
  · rintro ⟨kd, hk1, h1, h2⟩
    rcases h1 with ⟨e, h1⟩ | ⟨e, h1⟩ | ⟨e, h1⟩
    · rw [e] at h2; exact Or.inl ⟨rv_s hk hv (by omega) hb h1, h2⟩
    · rw [e] at h2; exact Or.inr (Or.inl ⟨h1.symm, h2⟩)
    · rw [e] at h2 hk1
      rcases hk1 with q | q | q
      · exact absurd q (by decide)
      · exact absurd q (by decide)
      · exact Or.inr (Or.inr ⟨⟨q.2, h1.symm⟩, h2⟩)
def kd3 (kd : Int32) : Prop := kd = 1 ∨ kd = 2 ∨ kd = 3
theorem kdO_3 {ac kd : Int32} (h : kdO ac kd) : kd3 kd := h.elim Or.inl (fun q => q.elim (fun z => Or.inr (Or.inl z)) (fun z => Or.inr (Or.inr z.1)))
theorem kdO_0 {kd : Int32} (h : kdO 0 kd) : swA kd = 0 := by
  rcases h with q | q | q
  · rw [q]; decide
  · rw [q]; decide
  · exact absurd rfl q.2
theorem kdO_1 {kd : Int32} (h : kd3 kd) : kdO 1 kd := h.elim Or.inl (fun q => q.elim (fun z => Or.inr (Or.inl z)) (fun z => Or.inr (Or.inr ⟨z, by decide⟩)))
theorem kdO_w {kd : Int32} (h : kd3 kd) (hs : swA kd = 0) : kdO 0 kd := by
  rcases h with q | q | q
  · exact Or.inl q
  · exact Or.inr (Or.inl q)
  · rw [q] at hs; exact absurd hs (by decide)
/-- what neighbouring cells break: the class's pairs -/
theorem vTS_k {u : mS} {c : cfg} {P : Nat} (g : gOK u c) (hP : P < 12) (hk : kB u) (hv : rvI u) (t : tr3) : vTS u (nI P) 8 0 t ↔ ∃ kd a b, kd3 kd ∧ a < b ∧ b < (u.1 3).toNatClampNeg ∧ lpC u (nI P) kd a b ∧ t = (kd, nI a, nI b) := by
  have hn := n80 g.1
  rw [vTS_iff g hP]
  constructor
  · rintro ⟨a, b, ha, hb, hab, h⟩
    rcases Nat.lt_or_gt_of_ne hab with q | q
    · rcases h with ⟨h1, h2⟩ | ⟨h1, h2⟩
      · obtain ⟨kd, k1, k2, k3⟩ := (prT_lt hk q (by omega) 0 t).mp h2
        exact ⟨kd, a, b, kdO_3 k1, q, hb, (lpC_iff g hP (by omega) (by omega) kd).mpr ⟨k2, Or.inr ⟨kdO_0 k1, vC_ad g hP (by omega) (by omega) hab h1⟩⟩, k3⟩
      · obtain ⟨kd, k1, k2, k3⟩ := (prT_lt hk q (by omega) 1 t).mp h2
        exact ⟨kd, a, b, kdO_3 k1, q, hb, (lpC_iff g hP (by omega) (by omega) kd).mpr ⟨k2, Or.inl (hC_ad g hP (by omega) (by omega) hab h1)⟩, k3⟩
    · rcases h with ⟨h1, h2⟩ | ⟨h1, h2⟩
      · obtain ⟨kd, k1, k2, k3⟩ := (prT_gt hk hv q (by omega) 0 t).mp h2
        exact ⟨kd, b, a, kdO_3 k1, q, ha, (lpC_iff g hP (by omega) (by omega) kd).mpr ⟨k2, Or.inr ⟨kdO_0 k1, vAd_s (vC_ad g hP (by omega) (by omega) hab h1)⟩⟩, k3⟩
      · obtain ⟨kd, k1, k2, k3⟩ := (prT_gt hk hv q (by omega) 1 t).mp h2
        exact ⟨kd, b, a, kdO_3 k1, q, ha, (lpC_iff g hP (by omega) (by omega) kd).mpr ⟨k2, Or.inl (hAd_s (hC_ad g hP (by omega) (by omega) hab h1))⟩, k3⟩
  · rintro ⟨kd, a, b, k1, q, hb, h, k3⟩
    obtain ⟨k2, h⟩ := (lpC_iff g hP (by omega) (by omega) kd).mp h
    rcases h with h | ⟨hs, h⟩
    · rcases hAd_C g hP (by omega) (by omega) h with z | z
      · exact ⟨a, b, by omega, hb, by omega, Or.inr ⟨z, (prT_lt hk q (by omega) 1 t).mpr ⟨kd, kdO_1 k1, k2, k3⟩⟩⟩
      · exact ⟨b, a, hb, by omega, by omega, Or.inr ⟨z, (prT_gt hk hv q (by omega) 1 t).mpr ⟨kd, kdO_1 k1, k2, k3⟩⟩⟩
    · rcases vAd_C g hP (by omega) (by omega) h with z | z
      · exact ⟨a, b, by omega, hb, by omega, Or.inl ⟨z, (prT_lt hk q (by omega) 0 t).mpr ⟨kd, kdO_w k1 hs, k2, k3⟩⟩⟩
      · exact ⟨b, a, hb, by omega, by omega, Or.inl ⟨z, (prT_gt hk hv q (by omega) 0 t).mpr ⟨kd, kdO_w k1 hs, k2, k3⟩⟩⟩
