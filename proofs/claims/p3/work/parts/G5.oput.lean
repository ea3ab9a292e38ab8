/-- put: what the reference answers, whatever the kind -/
def puX (u : mS) (p0 p1 p2 p3 p4 r : Int32) (u9 : mS) : Prop := ∃ (W H : Int32) (ok : Prop), (ok → bw p0 0 (u.1 3 - 1) = true) ∧ (∀ i, p0 = nI i → i < (u.1 3).toNatClampNeg → (ok ↔ okU u i p1 p2 p3 p4)) ∧ (∀ i, p0 = nI i → i < (u.1 3).toNatClampNeg → ok → W = cpW u i p4 ∧ H = cpH u i p4) ∧ rPut u p0 p1 p2 p3 W H ok r u9
theorem kind6 {x : Int32} (h : 0 ≤ x ∧ x ≤ 5) : x = 0 ∨ x = 1 ∨ x = 2 ∨ x = 3 ∨ x = 4 ∨ x = 5 := by
  have a := h.1
  have b := h.2
  rw [i32_le] at a b
  have e5 : (5 : Int32).toInt = 5 := rfl
  rw [i0] at a
  rw [e5] at b
  rcases (by omega : x.toInt = 0 ∨ x.toInt = 1 ∨ x.toInt = 2 ∨ x.toInt = 3 ∨ x.toInt = 4 ∨ x.toInt = 5) with z | z | z | z | z | z
  · exact Or.inl (Int32.toInt_inj.mp z)
  · exact Or.inr (Or.inl (Int32.toInt_inj.mp z))
  · exact Or.inr (Or.inr (Or.inl (Int32.toInt_inj.mp z)))
  · exact Or.inr (Or.inr (Or.inr (Or.inl (Int32.toInt_inj.mp z))))
  · exact Or.inr (Or.inr (Or.inr (Or.inr (Or.inl (Int32.toInt_inj.mp z)))))
  · exact Or.inr (Or.inr (Or.inr (Or.inr (Or.inr (Int32.toInt_inj.mp z)))))
theorem o_put (l : Launch) (dC : Nat → ClassId) (dI : Nat → Nat → Nat) (h0 : Nat) (v : Nat → Nat) (cI cZ : ClassId) (u : mS) (p0 p1 p2 p3 p4 : Int32) {es : List hE} {c : cfg} (hu : uI u es c) (hkd : ∀ i, i < (u.1 3).toNatClampNeg → 0 ≤ u.2 4 i ∧ u.2 4 i ≤ 5) (sz : Nat) : Met l yX12_put wsX12_put ({ frames := 4, cells := 0, slots := 0, locals := 106 }) (va_Pc [.ref h0, .int p0, .int p1, .int p2, .int p3, .int p4] (fun U => U.heap.size = sz ∧ PW dC dI (mW h0 v cI cZ u) [(cI, .int), (cZ, .boolean)] U ∧ va_D (fun _ => True) (mW h0 v cI cZ u))) (va_Qi (fun (r : Int32) (u9 : mS) => puX u p0 p1 p2 p3 p4 r u9) (fun u9 t => va_P (dC, dI) vwCl (mW h0 v cI cZ u9) t.heap ∧ va_D (va_A (mW h0 v cI cZ u) sz) (mW h0 v cI cZ u9)) (va_A (mW h0 v cI cZ u) sz)) 0 0 (va_A (mW h0 v cI cZ u) sz) := by
  have hn := n80 hu.1
  have hpc := inv_pc (uI_M hu)
  by_cases hit : bw p0 0 (u.1 3 - 1) = true
  · obtain ⟨i, ei, hi, -⟩ := itN hu.1 hit
    have eC : p0.toNatClampNeg = i := by rw [ei, nI_clamp (by omega)]
    have uniq : ∀ j, p0 = nI j → j < (u.1 3).toNatClampNeg → j = i := fun j ej hj => (nI_inj (by omega) (by omega)).mp (ej.symm.trans ei)
    have uniq2 : ∀ j, p0 = nI j → p0.toNatClampNeg = i := fun _ _ => eC
    rcases kind6 (hkd i hi) with k0 | k0 | k0 | k0 | k0 | k0
    · refine mq (n_put0 l dC dI h0 v cI cZ u p0 p1 p2 p3 p4 hu.1.1 hu.1.2.2.1 hu.1.2.1 (inv_ha (uI_M hu)) (inv_pc (uI_M hu)) hu.1.2.2.2.2.1 hu.1.2.2.2.2.2.1 (fun hi P X Y N hP hX hN hY h6 hG => put_hfr (uI_M hu) hi P X Y N hP hX hN hY h6 hG) (fun _ => by rw [eC]; exact k0) sz) (fun r u9 he => ⟨1, p4, okP0 u p0 p1 p2 p3 p4, fun o => o.1, fun j ej hj => ?_, fun j ej hj9 o => ?_, he⟩)
      · rw [uniq j ej hj, ei]; exact ok0 hu.1 hi (hpc i (by omega)) k0
      · have hj : j = i := uniq j ej hj9
        have kj : u.2 4 j = 0 := by rw [hj]; exact k0
        have cj : p0.toNatClampNeg = j := by rw [hj]; exact eC
        exact ⟨(cpW_0 (Or.inl kj)).symm, by rw [cpH_0 kj, if_pos o.2.2.2.2.2.1.2.2.1]⟩
    · refine mq (o_put1 l dC dI h0 v cI cZ u p0 p1 p2 p3 p4 hu.1.1 hu.1.2.2.1 hu.1.2.1 (inv_ha (uI_M hu)) (inv_pc (uI_M hu)) hu.1.2.2.2.2.1 hu.1.2.2.2.2.2.1 (fun hi P X Y N hP hX hN hY h6 hG => put_hfr (uI_M hu) hi P X Y N hP hX hN hY h6 hG) (fun _ => by rw [eC]; exact k0) sz) (fun r u9 he => ⟨(u.2 7 p0.toNatClampNeg), (u.2 8 p0.toNatClampNeg), okP1 u p0 p1 p2 p3 p4, fun o => o.1, fun j ej hj => ?_, fun j ej hj9 o => ?_, he⟩)
      · rw [uniq j ej hj, ei]; exact ok1 hu.1 hi (hpc i (by omega)) k0
      · have hj : j = i := uniq j ej hj9
        have kj : u.2 4 j = 1 := by rw [hj]; exact k0
        have cj : p0.toNatClampNeg = j := by rw [hj]; exact eC
        exact ⟨by rw [cpW_1 (Or.inl kj), if_pos o.2.2.1, cj], by rw [cpH_1 (Or.inl kj), if_pos o.2.2.1, cj]⟩
    · refine mq (o_put2 l dC dI h0 v cI cZ u p0 p1 p2 p3 p4 hu.1.1 hu.1.2.2.1 hu.1.2.1 (inv_ha (uI_M hu)) (inv_pc (uI_M hu)) hu.1.2.2.2.2.1 hu.1.2.2.2.2.2.1 (fun hi P X Y N hP hX hN hY h6 hG => put_hfr (uI_M hu) hi P X Y N hP hX hN hY h6 hG) (fun _ => by rw [eC]; exact k0) sz) (fun r u9 he => ⟨(u.2 18 (4 * p0 + p4).toNatClampNeg), (u.2 19 (4 * p0 + p4).toNatClampNeg), okP2 u p0 p1 p2 p3 p4, fun o => o.1, fun j ej hj => ?_, fun j ej hj9 o => ?_, he⟩)
      · rw [uniq j ej hj, ei]; exact ok2 hu.1 hi (hpc i (by omega)) k0
      · have hj : j = i := uniq j ej hj9
        have kj : u.2 4 j = 2 := by rw [hj]; exact k0
        have cj : p0.toNatClampNeg = j := by rw [hj]; exact eC
        have oj : bw p4 0 (u.2 17 j - 1) = true := by have z := o.2.2.1; rw [cj] at z; exact z
        exact ⟨by rw [cpW_2 kj, if_pos oj, ej, i4k hu.1 (by omega) oj], by rw [cpH_2 kj, if_pos oj, ej, i4k hu.1 (by omega) oj]⟩
    · refine mq (o_put3 l dC dI h0 v cI cZ u p0 p1 p2 p3 p4 hu.1.1 hu.1.2.2.1 hu.1.2.1 (inv_ha (uI_M hu)) (inv_pc (uI_M hu)) hu.1.2.2.2.2.1 hu.1.2.2.2.2.2.1 (fun hi P X Y N hP hX hN hY h6 hG => put_hfr (uI_M hu) hi P X Y N hP hX hN hY h6 hG) (fun _ => by rw [eC]; exact k0) sz) (fun r u9 he => ⟨(u.2 7 p0.toNatClampNeg), (u.2 8 p0.toNatClampNeg), okP3 u p0 p1 p2 p3 p4, fun o => o.1, fun j ej hj => ?_, fun j ej hj9 o => ?_, he⟩)
      · rw [uniq j ej hj, ei]; exact ok3 hu.1 hi (hpc i (by omega)) k0
      · have hj : j = i := uniq j ej hj9
        have kj : u.2 4 j = 3 := by rw [hj]; exact k0
        have cj : p0.toNatClampNeg = j := by rw [hj]; exact eC
        exact ⟨by rw [cpW_1 (Or.inr kj), if_pos o.2.2.1, cj], by rw [cpH_1 (Or.inr (Or.inl kj)), if_pos o.2.2.1, cj]⟩
    · refine mq (o_put4 l dC dI h0 v cI cZ u p0 p1 p2 p3 p4 hu.1.1 hu.1.2.2.1 hu.1.2.1 (inv_ha (uI_M hu)) (inv_pc (uI_M hu)) hu.1.2.2.2.2.1 hu.1.2.2.2.2.2.1 (fun hi P X Y N hP hX hN hY h6 hG => put_hfr (uI_M hu) hi P X Y N hP hX hN hY h6 hG) (fun _ => by rw [eC]; exact k0) sz) (fun r u9 he => ⟨1, p4, okP4 u p0 p1 p2 p3 p4, fun o => o.1, fun j ej hj => ?_, fun j ej hj9 o => ?_, he⟩)
      · rw [uniq j ej hj, ei]; exact ok4 hu.1 hi (hpc i (by omega)) k0
      · have hj : j = i := uniq j ej hj9
        have kj : u.2 4 j = 4 := by rw [hj]; exact k0
        have cj : p0.toNatClampNeg = j := by rw [hj]; exact eC
        exact ⟨(cpW_0 (Or.inr (Or.inl kj))).symm, by rw [cpH_4 kj, if_pos (by have z := o.2.2.2.2.2.2; rw [cj] at z; exact z)]⟩
    · refine mq (o_put5 l dC dI h0 v cI cZ u p0 p1 p2 p3 p4 hu.1.1 hu.1.2.2.1 hu.1.2.1 (inv_ha (uI_M hu)) (inv_pc (uI_M hu)) hu.1.2.2.2.2.1 hu.1.2.2.2.2.2.1 (fun hi P X Y N hP hX hN hY h6 hG => put_hfr (uI_M hu) hi P X Y N hP hX hN hY h6 hG) (fun _ => by rw [eC]; exact k0) sz) (fun r u9 he => ⟨1, (u.2 8 p0.toNatClampNeg), okP5 u p0 p1 p2 p3 p4, fun o => o.1, fun j ej hj => ?_, fun j ej hj9 o => ?_, he⟩)
      · rw [uniq j ej hj, ei]; exact ok5 hu.1 hi (hpc i (by omega)) k0
      · have hj : j = i := uniq j ej hj9
        have kj : u.2 4 j = 5 := by rw [hj]; exact k0
        have cj : p0.toNatClampNeg = j := by rw [hj]; exact eC
        exact ⟨(cpW_0 (Or.inr (Or.inr kj))).symm, by rw [cpH_1 (Or.inr (Or.inr kj)), if_pos o.2.2.1, cj]⟩
  · refine mq (n_put0 l dC dI h0 v cI cZ u p0 p1 p2 p3 p4 hu.1.1 hu.1.2.2.1 hu.1.2.1 (inv_ha (uI_M hu)) (inv_pc (uI_M hu)) hu.1.2.2.2.2.1 hu.1.2.2.2.2.2.1 (fun hi P X Y N hP hX hN hY h6 hG => put_hfr (uI_M hu) hi P X Y N hP hX hN hY h6 hG) (fun q => absurd q hit) sz) (fun r u9 he => ⟨1, p4, okP0 u p0 p1 p2 p3 p4, fun o => o.1, fun j ej hj => absurd (by rw [ej]; exact itI hu.1 hj) hit, fun j ej hj9 o => absurd o.1 hit, he⟩)
theorem lf_u {u : mS} {p0 : Int32} {P X Y D N P2 X2 Y2 D2 N2 : Nat} (h : lfA u p0 P X Y D N) (h2 : lfA u p0 P2 X2 Y2 D2 N2) : mLift u p0 P X Y D N = mLift u p0 P2 X2 Y2 D2 N2 := by
  by_cases hc : bw p0 0 (u.1 3 - 1) = true ∧ ¬ u.2 22 p0.toNatClampNeg = 0
  · obtain ⟨a1, a2, a3, a4, a5, a6⟩ := h hc.1 hc.2
    obtain ⟨b1, b2, b3, b4, b5, b6⟩ := h2 hc.1 hc.2
    obtain ⟨c1, c2, c3, c4, c5, -⟩ := a1
    obtain ⟨e1, e2, e3, e4, e5, -⟩ := b1
    have q1 : P = P2 := (nI_inj (by omega) (by omega)).mp (a2.symm.trans b2)
    have q2 : X = X2 := (nI_inj (by omega) (by omega)).mp (a3.symm.trans b3)
    have q3 : Y = Y2 := (nI_inj (by omega) (by omega)).mp (a4.symm.trans b4)
    have q4 : D = D2 := (nI_inj (by omega) (by omega)).mp (a5.symm.trans b5)
    have q5 : N = N2 := (nI_inj (by omega) (by omega)).mp (a6.symm.trans b6)
    rw [q1, q2, q3, q4, q5]
  · unfold mLift
    by_cases a : bw p0 0 (u.1 3 - 1) = true
    · rw [if_pos a, if_pos a]
      by_cases b : u.2 22 p0.toNatClampNeg = 0
      · rw [if_pos b, if_pos b]
      · exact absurd ⟨a, b⟩ hc
    · rw [if_neg a, if_neg a]
theorem o_lift (l9 : Launch) (dC : Nat → ClassId) (dI : Nat → Nat → Nat) (h0 : Nat) (v : Nat → Nat) (cI cZ : ClassId) (u : mS) (p0 : Int32) {es : List hE} {c : cfg} (hu : uI u es c) (sz : Nat) : Met l9 yX12_lift wsX12_lift ({ frames := 3, cells := 0, slots := 0, locals := 72 }) (va_Pc [.ref h0, .int p0] (fun U => U.heap.size = sz ∧ PW dC dI (mW h0 v cI cZ u) [(cI, .int), (cZ, .boolean)] U ∧ va_D (fun _ => True) (mW h0 v cI cZ u))) (va_Qi (fun (r : Int32) (u9 : mS) => ∃ P X Y D N, lfA u p0 P X Y D N ∧ (r, u9) = mLift u p0 P X Y D N) (fun u9 t => va_P (dC, dI) vwCl (mW h0 v cI cZ u9) t.heap ∧ va_D (va_A (mW h0 v cI cZ u) sz) (mW h0 v cI cZ u9)) (va_A (mW h0 v cI cZ u) sz)) 0 0 (va_A (mW h0 v cI cZ u) sz) := by
  have hn := n80 hu.1
  by_cases hc : bw p0 0 (u.1 3 - 1) = true ∧ ¬ u.2 22 p0.toNatClampNeg = 0
  · obtain ⟨a, ea, ha, -⟩ := itN hu.1 hc.1
    have eC : p0.toNatClampNeg = a := by rw [ea, nI_clamp (by omega)]
    have g := uI_g hu
    have h6 := g.2.2.2.2.2 a
    have ec := cnt_e g (i := a) (by omega)
    have e22 := (g.2.2.2.1 a (by omega)).1
    have hpos : 0 < (c a).length := Nat.pos_of_ne_zero (fun z => hc.2 (by rw [eC, e22, z]; rfl))
    obtain ⟨P, X, Y, D, N, hin, f1, f2, f3, f4, f5⟩ := uI_pc hu a ha ((c a).length - 1) (by omega)
    have ei : (6 * p0 + (u.2 22 p0.toNatClampNeg - 1)).toNatClampNeg = 6 * a + ((c a).length - 1) := by rw [eC, e22, dn_e hpos, ea, ix6, nI_clamp (by omega)]
    have l : lfA u p0 P X Y D N := fun _ _ => ⟨hin, by rw [ei]; exact f1, by rw [ei]; exact f2, by rw [ei]; exact f3, by rw [ei]; exact f4, by rw [ei]; exact f5⟩
    obtain ⟨l1, l2, l3, l4, l5, l6⟩ := l hc.1 hc.2
    refine mq (m_lift l9 dC dI h0 v cI cZ u p0 P X Y D N hin.1 hin.2.1 hin.2.2.2.1 hu.1.1 (inv_ha (uI_M hu)) ?_ l2 l3 l4 l5 l6 sz) (fun r u9 he => ⟨P, X, Y, D, N, l, he⟩)
    rw [eC, e22, dn_e hpos]
    exact bwN (by have h5 : (5 : Int32).toInt = 5 := rfl; rw [h5]; omega) (by omega)
  · refine mq (n_liftN l9 dC dI h0 v cI cZ u p0 hu.1.1 (fun b => Classical.byContradiction (fun q => hc ⟨b, q⟩)) sz) (fun r u9 he => ⟨0, 0, 0, 0, 0, fun b q => absurd ⟨b, q⟩ hc, ?_⟩)
    rw [he.1, he.2]
    unfold mLift
    by_cases a : bw p0 0 (u.1 3 - 1) = true
    · rw [if_pos a]
      by_cases b : u.2 22 p0.toNatClampNeg = 0
      · rw [if_pos b]
      · exact absurd ⟨a, b⟩ hc
    · rw [if_neg a]
/-- undo: what the reference answers -/
def unX (u : mS) (es : List hE) (r : Int32) (u9 : mS) : Prop := (es = [] ∧ r = (-1) ∧ u9 = u) ∨ ∃ e es', es = e :: es' ∧ r = u.1 28 - 1 ∧ u9 = refU u e
theorem o_undo (l : Launch) (dC : Nat → ClassId) (dI : Nat → Nat → Nat) (h0 : Nat) (v : Nat → Nat) (cI cZ : ClassId) (u : mS) {es : List hE} {c : cfg} (hu : uI u es c) (sz : Nat) : Met l yX12_undo wsX12_undo ({ frames := 3, cells := 0, slots := 0, locals := 77 }) (va_Pc [.ref h0] (fun U => U.heap.size = sz ∧ PW dC dI (mW h0 v cI cZ u) [(cI, .int), (cZ, .boolean)] U ∧ va_D (fun _ => True) (mW h0 v cI cZ u))) (va_Qi (fun (r : Int32) (u9 : mS) => unX u es r u9) (fun u9 t => va_P (dC, dI) vwCl (mW h0 v cI cZ u9) t.heap ∧ va_D (va_A (mW h0 v cI cZ u) sz) (mW h0 v cI cZ u9)) (va_A (mW h0 v cI cZ u) sz)) 0 0 (va_A (mW h0 v cI cZ u) sz) := by
  cases es with
  | nil => exact mq (n_undoN l dC dI h0 v cI cZ u hu.2.2.1.2.1 sz) (fun r u9 he => Or.inl ⟨rfl, he.1, he.2⟩)
  | cons e es => exact mq (n_undoH l dC dI h0 v cI cZ u e es c hu.1 hu.2.2.1 hu.2.2.2.1 sz) (fun r u9 he => Or.inr ⟨e, es, rfl, he.1, he.2⟩)
/-- the parts of the latest act -/
def bkT (es : List hE) : List bS := match es with
  | [] => []
  | e :: _ => bkL e
theorem un_pre {q : Nat → ClassId} {d : Nat → Nat} {k : Nat → Int32} {z : gS} {u : mS} {es : List hE} {c : cfg} {g : Nat → Option Nat} (hk1 : k 1 = u.1 28) (hu : uI u es c) (hL : acL z d g es) : ¬ k 1 = 0 → ∃ a9, g (k 1 - 1).toNatClampNeg = some a9 ∧ tg z a9 23 ∧ bkS z d (some a9) (bkT es) ∧ bkK (mBack u) (bkT es) := by
  intro hk
  cases es with
  | nil => exact absurd (by rw [hk1, hu.2.2.1.2.1]; rfl) hk
  | cons e es =>
    obtain ⟨⟨a, a1, a2⟩, -⟩ := hL
    have l3 := hu.2.2.1.1
    rw [List.length_cons] at l3
    have e1 : (k 1 - 1).toNatClampNeg = es.length := by
      rw [hk1, hu.2.2.1.2.1, List.length_cons, dn_e (by omega), Nat.add_sub_cancel, nI_clamp (by omega)]
    exact ⟨a, by rw [e1]; exact a1, acE_tg a2, acE_bkS a2, (undo_all hu.1 hu.2.2.1 hu.2.2.2.1).1⟩
theorem step_undo {q : Nat → ClassId} {h0 : Nat} {d : Nat → Nat} {k : Nat → Int32} {z : gS} {f : xF} {u : mS} {w : xU} {r r2 : Int32} {u9 : mS} {es : List hE} {c : cfg} {g : Nat → Option Nat} (hI : xI q h0 d k z f) (hrp : rep q d u z f) (hk : k 0 = u.1 3 ∧ k 1 = u.1 28 ∧ k 2 = u.1 38 ∧ k 3 = u.1 39) (hz : (z.2 h0).2.1 = 0) (hu : uI u es c) (hg : f (d 3) = aR (q 4) 300 g) (hL : acL z d g es) (hx : unP q h0 d k z f u (bkT es) g r w) (hm : unX u es r2 u9) : r = r2 ∧ RR q h0 d w.1 w.2.1 w.2.2 u9 := by
  cases es with
  | nil =>
    have h28 : u.1 28 = 0 := hu.2.2.1.2.1
    rcases hx with ⟨-, x2, x3⟩ | ⟨x1, -⟩
    · rcases hm with ⟨-, m2, m3⟩ | ⟨e, es', m1, -⟩
      · rw [x2, m2, x3, m3]
        exact ⟨rfl, hI, hrp, hk, hz, [], c, g, hu, hg, hL⟩
      · exact absurd m1 (by simp)
    · exact absurd (by rw [hk.2.1]; exact h28) x1
  | cons e es =>
    have l3 := hu.2.2.1.1
    rw [List.length_cons] at l3
    have e28 : u.1 28 = nI (es.length + 1) := hu.2.2.1.2.1
    have hk0 : ¬ k 1 = 0 := fun z => by
      rw [hk.2.1, e28] at z
      have z2 := congrArg Int32.toInt z
      rw [nI_toInt (by omega), i0] at z2
      omega
    rcases hx with ⟨x1, -⟩ | ⟨-, x2, x3, x4, x5, x6, x7⟩
    · exact absurd x1 hk0
    · rcases hm with ⟨m1, -⟩ | ⟨e2, es2, m1, m2, m3⟩
      · exact absurd m1 (by simp)
      · obtain ⟨m4, m5⟩ := List.cons.inj m1
        subst m4 m5
        obtain ⟨-, a2, a3, c1, a4, a5, a6, a7, a8⟩ := undo_all hu.1 hu.2.2.1 hu.2.2.2.1
        have e1 : (k 1 - 1).toNatClampNeg = es.length := by rw [hk.2.1, e28, dn_e (by omega), Nat.add_sub_cancel, nI_clamp (by omega)]
        have hu9 : uI u9 es c1 := by
          obtain ⟨b1, b2, b3, b4, b5, b6, b7, b8, b9, b10, b11⟩ := hu
          rw [m3]
          have k3 := a6 3 (by decide) (by decide)
          refine ⟨a3, kB_c b2 (a8 4 (by decide) (by decide)) (a8 10 (by decide) (by decide)), a4, a5, nwI_e b5 k3 (fun r r1 => a8 r (by omega) (by omega)), plI_c b6 (fun r r1 r2 => a8 r (by omega) (by omega)), ?_, ?_, ?_, rvI_c b10 (a8 20 (by decide) (by decide)), by rw [a6 39 (by decide) (by decide)]; exact b11⟩
          · unfold sdI at b7 ⊢
            rw [a8 40 (by decide) (by decide), a8 4 (by decide) (by decide), a8 45 (by decide) (by decide), a8 11 (by decide) (by decide)]; exact b7
          · unfold plZ at b8 ⊢
            rw [k3, a8 40 (by decide) (by decide), a8 45 (by decide) (by decide)]; exact b8
          · unfold foI at b9 ⊢
            rw [a6 38 (by decide) (by decide), a8 47 (by decide) (by decide), a8 48 (by decide) (by decide)]; exact b9
        refine ⟨by rw [x2, m2, hk.2.1], by rw [x4]; exact x5, by rw [x4, m3]; exact a2 q d z w.2.2 x6, ?_, by rw [x4]; exact hz, es, c1, _, hu9, x7, ?_⟩
        · rw [x3, m3, a6 3 (by decide) (by decide), a6 38 (by decide) (by decide), a6 39 (by decide) (by decide), a7]
          refine ⟨hk.1, ?_, hk.2.2.1, hk.2.2.2⟩
          rw [← hk.2.1]; rfl
        · rw [x4, e1]
          exact acL_m (zE_rf z) (n := (u.1 3).toNatClampNeg) (fun _ _ => rfl) (fun t ht => if_neg (by omega)) (gH_it hu.2.2.2.1).2 hL.2
