/-- an item's own fields written anew -/
theorem x_upR {q h0 d k z f} (h : xI q h0 d k z f) {a : Nat} (ha : itm z a) {nu kd cn : Int32} {pa fa : Nat} {rest rest2 : List Value} (hf : f a = .inr (ciT (z.2 a).1, itF nu kd pa cn fa rest)) (hr : rsT z (z.2 a).1 rest2) : xI q h0 d k z (va_up f a (.inr (ciT (z.2 a).1, itF nu kd pa cn fa rest2))) := by
  obtain ⟨h1, h2, h3, ⟨g1, gi, g2i, g3⟩, h5⟩ := h
  obtain ⟨nu2, kd2, cn3, pa2, fa2, rest3, e1, e2, e3, e4, e5⟩ := (h3 a ha.1).2.2.2.2.2.2.2.2.1 ha.2.1 ha.2.2
  obtain ⟨i1_, i2, i3, i4, i5, i6⟩ := itF_inj (hf.symm.trans e1)
  subst i3 i5 i6
  have hne : a ≠ pa := fun e => by have := ha.2; rw [e, e2.2] at this; omega
  have ha1 : a ≠ h0 := fun e => by have := ha.2; rw [e, h2.1.2] at this; omega
  have ha4 : a ≠ d 2 := fun e => by have := ha.2; rw [e, h2.2.2.2.1.2] at this; omega
  refine ⟨h1, h2, up_loc h3 (cO_I ha ⟨nu, kd, cn, pa, fa, rest2, rfl, e2, e3, e4, hr⟩), ⟨?_, gi, ?_, g3⟩, ?_⟩
  · rw [up_o (fun e => ha1 e.symm)]; exact g1
  · rw [up_o (fun e => ha4 e.symm)]; exact g2i
  · intro b hb mu md mn ma mf ms hm
    by_cases eb : b = a
    · subst eb
      rw [up_s] at hm
      obtain ⟨o1, o2, o3, o4, o5, o6⟩ := itF_inj hm
      subst o3 o4
      obtain ⟨n5, g5, r1, r2⟩ := h5 b hb nu kd cn pa fa _ hf
      exact ⟨n5, g5, by rw [up_o (fun e => hne e.symm)]; exact r1, r2⟩
    · rw [up_o eb] at hm
      obtain ⟨n5, g5, r1, r2⟩ := h5 b hb mu md mn ma mf ms hm
      obtain ⟨nu7, kd7, cn7, pa7, fa7, rest7, t1, t2, t3, -⟩ := (h3 b hb.1).2.2.2.2.2.2.2.2.1 hb.2.1 hb.2.2
      obtain ⟨-, -, u3, -⟩ := itF_inj (hm.symm.trans t1)
      rw [← u3] at t2
      have hma2 : ma ≠ a := fun e => by have := ha.2; rw [← e, t2.2] at this; omega
      exact ⟨n5, g5, by rw [up_o hma2]; exact r1, r2⟩
theorem x_upStory {q h0 d k z f} (h : xI q h0 d k z f) {a : Nat} (ha : tg z a 15) {nu kd cn l co co2 : Int32} {pa fa wd nm : Nat} (hf : f a = .inr (9, [.int nu, .int kd, .ref pa, .int cn, .ref fa, .int l, .ref wd, .int co, .ref nm])) (hw : tg z wd 18) (hn : tg z nm 19) (hc : bw co2 0 80 = true) : xI q h0 d k z (va_up f a (.inr (9, [.int nu, .int kd, .ref pa, .int cn, .ref fa, .int l, .ref wd, .int co2, .ref nm]))) := by
  have e : ciT (z.2 a).1 = 9 := by rw [ha.2]; rfl
  have h1 := x_upR (rest2 := [.int l, .ref wd, .int co2, .ref nm]) h (tg_itm ha (by decide)) (nu := nu) (kd := kd) (pa := pa) (cn := cn) (fa := fa) (rest := [.int l, .ref wd, .int co, .ref nm]) (by rw [e]; exact hf) (by rw [ha.2]; exact ⟨fun x => absurd x (by decide), fun x => absurd x (by decide), fun x => absurd x (by decide), fun x => absurd x (by decide), fun x => absurd x (by decide), fun _ => ⟨l, co2, wd, nm, rfl, hw, hc, hn⟩⟩)
  rw [e] at h1
  exact h1
theorem x_upPict {q h0 d k z f} (h : xI q h0 d k z f) {a : Nat} (ha : tg z a 14) {nu kd cn sz sz2 : Int32} {pa fa ww hh : Nat} (hf : f a = .inr (6, [.int nu, .int kd, .ref pa, .int cn, .ref fa, .ref ww, .ref hh, .int sz])) (hw : tg z ww 20) (hn : tg z hh 20) (hc : bw sz2 0 4 = true) : xI q h0 d k z (va_up f a (.inr (6, [.int nu, .int kd, .ref pa, .int cn, .ref fa, .ref ww, .ref hh, .int sz2]))) := by
  have e : ciT (z.2 a).1 = 6 := by rw [ha.2]; rfl
  have h1 := x_upR (rest2 := [.ref ww, .ref hh, .int sz2]) h (tg_itm ha (by decide)) (nu := nu) (kd := kd) (pa := pa) (cn := cn) (fa := fa) (rest := [.ref ww, .ref hh, .int sz]) (by rw [e]; exact hf) (by rw [ha.2]; exact ⟨fun x => absurd x (by decide), fun x => absurd x (by decide), fun x => absurd x (by decide), fun x => absurd x (by decide), fun _ => ⟨ww, hh, sz2, rfl, hw, hn, hc⟩, fun x => absurd x (by decide)⟩)
  rw [e] at h1
  exact h1
theorem vlt80 {co hi : Int32} (h : bw co 0 hi = true) (h2 : co < hi) (hh : hi.toInt < 1000) : vp_in co hi.toInt.toNat ∧ bw (co + 1) 0 hi = true := by
  have h1 := bw_iff.mp h
  rw [i0] at h1
  rw [i32_lt] at h2
  refine ⟨by rw [vp_in_iff]; omega, ?_⟩
  rw [bw_iff, i0, addI (by rw [i1]; omega) (by rw [i1]; omega), i1]; omega
theorem vkn {p cn : Int32} {n : Nat} (hn : n ≤ 6) (hc : bw cn 0 (nI n) = true) (hp : bw p 0 (cn - 1) = true) : vp_in p n ∧ p.toNatClampNeg < cn.toNatClampNeg := by
  obtain ⟨j, j1, -, e⟩ := exN hc (by decide)
  rw [nI_toInt (by omega)] at j1
  subst e
  obtain ⟨m, m1, -, e⟩ := exN hp (by decide)
  subst e
  have h0 : 0 < j := by
    rcases Nat.eq_zero_or_pos j with z | z
    · subst z
      exfalso
      have e0 : (nI 0 - 1).toInt = -1 := rfl
      rw [e0] at m1; omega
    · exact z
  rw [dn_e h0, nI_toInt (by omega)] at m1
  rw [nI_clamp (by omega), nI_clamp (by omega)]
  exact ⟨vp_in_nI (by omega) (by omega), by omega⟩
theorem vknm {p cn : Int32} {n : Nat} (hn : n ≤ 6) (hc : bw cn 0 (nI n) = true) (hp : bw p 0 (cn - 1) = true) (h0 : ¬ p ≤ 0) : vp_in (p - 1) n ∧ (p - 1).toNatClampNeg < cn.toNatClampNeg := by
  have hb := vkn hn hc hp
  have h1 := vp_in_iff.mp hb.1
  rw [i32_le, i0] at h0
  obtain ⟨m, m1, e⟩ := nI_of (x := p) (fun q => by rw [i32_lt, i0] at q; omega)
  subst e
  rw [nI_toInt m1] at h0 h1
  have hl := hb.2
  rw [nI_clamp m1] at hl
  rw [dn_e (by omega), nI_clamp (by omega)]
  exact ⟨vp_in_nI (by omega) (by omega), by omega⟩
theorem vknp {p cn : Int32} {n : Nat} (hn : n ≤ 6) (hc : bw cn 0 (nI n) = true) (hp : bw p 0 (cn - 1) = true) (h0 : ¬ cn ≤ p + 1) : vp_in (p + 1) n ∧ (p + 1).toNatClampNeg < cn.toNatClampNeg := by
  have hb := vkn hn hc hp
  have h1 := vp_in_iff.mp hb.1
  obtain ⟨j, j1, -, e⟩ := exN hc (by decide)
  rw [nI_toInt (by omega)] at j1
  subst e
  obtain ⟨m, m1, e⟩ := nI_of (x := p) (fun q => by rw [i32_lt, i0] at q; omega)
  subst e
  rw [nI_toInt m1] at h1
  rw [nI_1] at h0 ⊢
  have h2 := nInle (by omega) (by omega) h0
  rw [nI_clamp (by omega), nI_clamp (by omega)]
  exact ⟨vp_in_nI (by omega) (by omega), h2⟩
theorem ct_b {co a n : Int32} (hc : bw co 0 80 = true) (h1 : ¬ a < 0) (h2 : ¬ n < 1) (h3 : n ≤ co - a) : ∃ A T : Nat, a = nI A ∧ n = nI T ∧ A + T ≤ 80 := by
  have e80 : (80 : Int32).toInt = 80 := rfl
  have c1 := bw_iff.mp hc
  rw [i0, e80] at c1
  obtain ⟨A, hA, eA⟩ := nI_of h1
  have hn0 : ¬ n < 0 := fun q => by rw [i32_lt, i0] at q; rw [i32_lt, i1] at h2; omega
  obtain ⟨T, hT, eT⟩ := nI_of hn0
  subst eA eT
  rw [i32_le, nI_toInt hT, subI (by rw [nI_toInt hA]; omega) (by rw [nI_toInt hA]; omega), nI_toInt hA] at h3
  exact ⟨A, T, rfl, rfl, by omega⟩
theorem vsz {p sz : Int32} (hs : bw sz 0 4 = true) (hp : bw p 0 (sz - 1) = true) : vp_in p 4 := by
  have e4 : (4 : Int32).toInt = 4 := rfl
  have h1 := bw_iff.mp hs
  have h2 := bw_iff.mp hp
  rw [i0, e4] at h1
  rw [i0, subI (by rw [i1]; omega) (by rw [i1]; omega), i1] at h2
  rw [vp_in_iff]; omega
