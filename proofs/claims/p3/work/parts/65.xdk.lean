theorem kup_s (k : Nat → Int32) (j : Nat) (x : Int32) : kup k j x j = x := if_pos rfl
theorem kup_o {k : Nat → Int32} {i j : Nat} {x : Int32} (h : i ≠ j) : kup k j x i = k i := if_neg h
/-- the items' row -/
theorem x_upI {q h0 d k z f} (h : xI q h0 d k z f) {g : Nat → Option Nat} (hn : ∀ j, j < (k 0).toNatClampNeg → ∃ b, g j = some b) (hg : ∀ j, j < 80 → ∀ b, g j = some b → itm z b) : xI q h0 d k z (va_up f (d 2) (aR (q 3) 80 g)) := by
  obtain ⟨h1, h2, h3, ⟨g1, gi, g2i, g3⟩, h5⟩ := h
  have h4 := h2.2.2.2.1
  refine ⟨h1, h2, up_loc h3 (cO_4 h4.2 ⟨g, rfl, hg⟩), ⟨by rw [up_o (tg_ne h2.1 h4 (by decide))]; exact g1, g, up_s, hn⟩, ?_⟩
  intro b hb nu kd cn pa fa rest hf
  have hne : b ≠ d 2 := fun e => by have := hb.2; rw [e, h4.2] at this; omega
  rw [up_o hne] at hf
  obtain ⟨n, g, r1, r2⟩ := h5 b hb nu kd cn pa fa rest hf
  obtain ⟨nu2, kd2, cn2, pa2, fa2, rest2, e1, e2, -⟩ := (h3 b hb.1).2.2.2.2.2.2.2.2.1 hb.2.1 hb.2.2
  obtain ⟨-, -, e3, -⟩ := itF_inj (hf.symm.trans e1)
  rw [← e3] at e2
  exact ⟨n, g, by rw [up_o (tg_ne e2 h4 (by decide))]; exact r1, r2⟩
/-- one item more -/
theorem x_dkI {q h0 d k z f} (h : xI q h0 d k z f) {k2 : Nat → Int32} (hk : kOK k2) {g : Nat → Option Nat} (hg : f (d 2) = aR (q 3) 80 g) (hn : ∀ j, j < (k2 0).toNatClampNeg → ∃ b, g j = some b) : xI q h0 d k2 z (va_up f h0 (.inr (10, dkF d k2))) := by
  obtain ⟨h1, h2, h3, ⟨g1, gi, g2i, g3⟩, h5⟩ := h
  refine ⟨hk, h2, up_loc h3 (cO_1 h2.1.2), ⟨up_s, g, by rw [up_o (tg_ne h2.2.2.2.1 h2.1 (by decide))]; exact hg, hn⟩, ?_⟩
  intro b hb nu kd cn pa fa rest hf
  have hne : b ≠ h0 := fun e => by have := hb.2; rw [e, h2.1.2] at this; omega
  rw [up_o hne] at hf
  obtain ⟨n, g, r1, r2⟩ := h5 b hb nu kd cn pa fa rest hf
  obtain ⟨nu2, kd2, cn2, pa2, fa2, rest2, e1, e2, -⟩ := (h3 b hb.1).2.2.2.2.2.2.2.2.1 hb.2.1 hb.2.2
  obtain ⟨-, -, e3, -⟩ := itF_inj (hf.symm.trans e1)
  rw [← e3] at e2
  exact ⟨n, g, by rw [up_o (tg_ne e2 h2.1 (by decide))]; exact r1, r2⟩
theorem vAc {n : Int32} (h : bw n 0 300 = true) (h2 : ¬ 300 ≤ n) : vp_in n 300 ∧ bw (n + 1) 0 300 = true := by
  have e3 : (300 : Int32).toInt = 300 := rfl
  have h1 := bw_iff.mp h
  rw [i0, e3] at h1
  rw [i32_le, e3] at h2
  refine ⟨by rw [vp_in_iff]; omega, ?_⟩
  rw [bw_iff, i0, e3, addI (by rw [i1]; omega) (by rw [i1]; omega), i1]; omega
theorem vAm {n x : Int32} (h : bw n 0 300 = true) (h2 : ¬ n = 0) (hx : x = n - 1) : vp_in x 300 ∧ bw x 0 300 = true := by
  have e3 : (300 : Int32).toInt = 300 := rfl
  have h1 := bw_iff.mp h
  rw [i0, e3] at h1
  have h3 : ¬ n.toInt = 0 := fun e => h2 (sw_in e.symm i0)
  rw [hx, vp_in_iff, bw_iff, i0, e3, subI (by rw [i1]; omega) (by rw [i1]; omega), i1]
  omega
theorem vIn8 {n : Int32} (h : bw n 0 80 = true) (h2 : n < 80) : vp_in n 80 ∧ bw (n + 1) 0 80 = true ∧ (n + 1).toNatClampNeg = n.toNatClampNeg + 1 := by
  have e3 : (80 : Int32).toInt = 80 := rfl
  have h1 := bw_iff.mp h
  rw [i0, e3] at h1
  rw [i32_lt, e3] at h2
  obtain ⟨j, j1, -, e⟩ := exN h (by decide)
  subst e
  rw [nI_toInt (by omega)] at h2
  rw [nI_1, nI_clamp (by omega), nI_clamp (by omega)]
  exact ⟨vp_in_nI (by omega) (by decide), bwN (by rw [e3]; omega) (by omega), rfl⟩
/-- a page's plate stays where nothing is written into the plates' row -/
theorem xPl_up {q d z f} {p : Int32} (h : xPl q d z f p) {a : Nat} {e : va_E} (hne : d 1 ≠ a) : xPl q d z (va_up f a e) p := by
  obtain ⟨h1, g, b, h2, h3⟩ := h
  exact ⟨h1, g, b, by rw [up_o hne]; exact h2, h3⟩
theorem xPl_eq {q d z} {f f2 : xF} {p : Int32} (h : xPl q d z f p) (he : f2 (d 1) = f (d 1)) : xPl q d z f2 p := by
  obtain ⟨h1, g, b, h2, h3⟩ := h
  exact ⟨h1, g, b, by rw [he]; exact h2, h3⟩
theorem vTd {t : Int32} (h : bw t 0 399 = true) : vp_in t 400 := vin h (by decide)
