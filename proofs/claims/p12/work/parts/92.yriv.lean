/-- the tags stay, and all that is told of a cell but of the rivals' row -/
def zM (z w : gS) : Prop := ∀ a, a ∈ z.1 → a ∈ w.1 ∧ (w.2 a).1 = (z.2 a).1 ∧ ((z.2 a).1 ≠ 6 → w.2 a = z.2 a)
theorem zM_tg {z w : gS} (h : zM z w) {a t : Nat} (ha : tg z a t) : tg w a t := ⟨(h a ha.1).1, by rw [(h a ha.1).2.1]; exact ha.2⟩
theorem zM_itm {z w : gS} (h : zM z w) {a : Nat} (ha : itm z a) : itm w a := ⟨(h a ha.1).1, by rw [(h a ha.1).2.1]; exact ha.2⟩
theorem zM_o {z w : gS} (h : zM z w) {a t : Nat} (ha : tg z a t) (ht : t ≠ 6) : w.2 a = z.2 a := (h a ha.1).2.2 (by rw [ha.2]; exact ht)
theorem zM_pc {z w : gS} (h : zM z w) {a : Nat} {it : Option Nat} {P X Y D N : Int32} (ha : pcS z a it P X Y D N) : pcS w a it P X Y D N := ⟨zM_tg h ha.1, by rw [zM_o h ha.1 (by decide)]; exact ha.2⟩
theorem zM_lg {z w : gS} (h : zM z w) {a : Nat} (ha : lgP z a) : lgP w a := by
  obtain ⟨it, P, X, Y, D, N, h1, h2⟩ := ha
  exact ⟨it, P, X, Y, D, N, zM_pc h h1, h2⟩
theorem rsT_mono6 {z w : gS} (h : zM z w) {t : Nat} {rest : List Value} (hr : rsT z t rest) : rsT w t rest := by
  obtain ⟨a1, a2, a3, a4, a5, a6⟩ := hr
  refine ⟨a1, fun e => ?_, fun e => ?_, fun e => ?_, fun e => ?_, fun e => ?_⟩
  · obtain ⟨o, x, y, b1, b2⟩ := a2 e
    exact ⟨o, x, y, b1, zM_tg h b2⟩
  · obtain ⟨o, y, b1, b2⟩ := a3 e
    exact ⟨o, y, b1, zM_itm h b2⟩
  · obtain ⟨b, pr, sp, dy, b1, b2, b3, b4⟩ := a4 e
    exact ⟨b, pr, sp, dy, b1, b2, zM_lg h b3, zM_tg h b4⟩
  · obtain ⟨ww, hh, sz, b1, b2, b3, b4⟩ := a5 e
    exact ⟨ww, hh, sz, b1, zM_tg h b2, zM_tg h b3, b4⟩
  · obtain ⟨l, co, wd, nm, b1, b2, b3, b4⟩ := a6 e
    exact ⟨l, co, wd, nm, b1, zM_tg h b2, b3, zM_tg h b4⟩
theorem cO_mono6 {q : Nat → ClassId} {z w : gS} (h : zM z w) {a : Nat} (ha : a ∈ z.1) (h6 : (z.2 a).1 ≠ 6) {e : va_E} (hc : cO q z a e) : cO q w a e := by
  have ea := (h a ha).2.2 h6
  obtain ⟨c2, c3, c4, c5, c6, c7, c8, c9, cI, c16, c17, c18, c19, c20, c21, c22, c23⟩ := hc
  unfold cO
  rw [ea]
  refine ⟨fun x => ?_, fun x => wR_mono (fun b hb => zM_tg h hb) (c3 x), fun x => wR_mono (fun b hb => zM_itm h hb) (c4 x), fun x => wR_mono (fun b hb => zM_tg h hb) (c5 x), fun x => absurd x h6, fun x => ?_, c8, c9, fun x y => ?_, fun x => ?_, c17, c18, c19, c20, c21, fun x => ?_, fun x => ?_⟩
  · obtain ⟨g, e1, e2⟩ := c2 x
    exact ⟨g, e1, fun j hj => by obtain ⟨b, b1, b2⟩ := e2 j hj; exact ⟨b, b1, zM_tg h b2⟩⟩
  · obtain ⟨la, ca, m, d, i, e1, e2, e3⟩ := c7 x
    exact ⟨la, ca, m, d, i, e1, zM_tg h e2, zM_tg h e3⟩
  · obtain ⟨nu, kd, cn, pa, fa, rest, e1, e2, e3, e4, e5⟩ := cI x y
    exact ⟨nu, kd, cn, pa, fa, rest, by rw [ea]; exact e1, zM_tg h e2, by rw [zM_o h e2 (by decide)]; exact e3, zM_tg h e4, by rw [ea]; exact rsT_mono6 h e5⟩
  · obtain ⟨n, n1, n6, hr⟩ := c16 x
    exact ⟨n, n1, n6, wR_mono (fun b hb => zM_lg h hb) hr⟩
  · obtain ⟨e0, it, P, X, Y, D, N, e1, e2, e3⟩ := c22 x
    exact ⟨by rw [ea]; exact e0, it, P, X, Y, D, N, by rw [ea]; exact e1, e2, fun b hb => zM_itm h (e3 b hb)⟩
  · obtain ⟨e0, p, l, n, ah, e1, e2, e3⟩ := c23 x
    exact ⟨by rw [ea]; exact e0, p, l, n, ah, by rw [ea]; exact e1, zM_lg h e2, fun b hb => by obtain ⟨q1, q2⟩ := e3 b hb; exact ⟨zM_tg h q1, by rw [ea, zM_o h q1 (by decide)]; exact q2⟩⟩
/-- the rivals' row told anew -/
def zr (z : gS) (a : Nat) (g : Nat → Int32) : gS := (z.1, fun b => if b = a then (6, 0, vs g) else z.2 b)
theorem zr_s (z : gS) (a : Nat) (g : Nat → Int32) : (zr z a g).2 a = (6, 0, vs g) := if_pos rfl
theorem zr_o {z : gS} {a b : Nat} {g : Nat → Int32} (h : b ≠ a) : (zr z a g).2 b = z.2 b := if_neg h
theorem zr_M {z : gS} {a : Nat} {g : Nat → Int32} (ha : tg z a 6) : zM z (zr z a g) := fun b hb => by
  by_cases e : b = a
  · subst e
    exact ⟨hb, by rw [zr_s, ha.2], fun h => absurd ha.2 h⟩
  · exact ⟨hb, by rw [zr_o e], fun _ => zr_o e⟩
theorem x_upRv {q h0 d k z f} (h : xI q h0 d k z f) {g : Nat → Int32} (hg : ∀ j, g j = 0 ∨ g j = 1) : xI q h0 d k (zr z (d 4) g) (va_up f (d 4) (aI (q 1) 100 g)) := by
  obtain ⟨h1, h2, h3, ⟨g1, gi, g2i, g3⟩, h5⟩ := h
  have h6 := h2.2.2.2.2.2
  have hM : zM z (zr z (d 4) g) := zr_M h6
  have hmem : ∀ b, b ∈ (zr z (d 4) g).1 → b ∈ z.1 := fun b hb => hb
  refine ⟨h1, ⟨zM_tg hM h2.1, zM_tg hM h2.2.1, zM_tg hM h2.2.2.1, zM_tg hM h2.2.2.2.1, zM_tg hM h2.2.2.2.2.1, zM_tg hM h6⟩, fun b hb => ?_, ⟨by rw [up_o (tg_ne h2.1 h6 (by decide))]; exact g1, gi, by rw [up_o (tg_ne h2.2.2.2.1 h6 (by decide))]; exact g2i, g3⟩, ?_⟩
  · by_cases e : b = d 4
    · rw [e, up_s]; exact cO_6 (by rw [zr_s]) ⟨g, rfl, hg, by rw [zr_s]⟩
    · rw [up_o e]
      by_cases e6 : (z.2 b).1 = 6
      · obtain ⟨g', r1, r2, r3⟩ := (h3 b (hmem b hb)).2.2.2.2.1 e6
        exact cO_6 (by rw [zr_o e]; exact e6) ⟨g', r1, r2, by rw [zr_o e]; exact r3⟩
      · exact cO_mono6 hM (hmem b hb) e6 (h3 b (hmem b hb))
  · intro b hb nu kd cn pa fa rest hf
    have hb2 := hb.2
    rw [(hM b (hmem b hb.1)).2.1] at hb2
    have hbi : itm z b := ⟨hmem b hb.1, hb2⟩
    have hne : b ≠ d 4 := fun e => by have := hb2; rw [e, h6.2] at this; omega
    rw [up_o hne, zr_o hne] at hf
    obtain ⟨n, g5, r1, r2⟩ := h5 b hbi nu kd cn pa fa rest hf
    obtain ⟨nu2, kd2, cn2, pa2, fa2, rest2, e1, e2, -⟩ := (h3 b hbi.1).2.2.2.2.2.2.2.2.1 hbi.2.1 hbi.2.2
    obtain ⟨-, -, e3, -⟩ := itF_inj (hf.symm.trans e1)
    rw [← e3] at e2
    exact ⟨n, g5, by rw [up_o (tg_ne e2 h6 (by decide))]; exact r1, r2⟩
/-- what rival answers, and the row behind it -/
def xRiv (g : Nat → Int32) (a b : Int32) : Int32 × (Nat → Int32) := if bw a 0 9 = true then (if bw b 0 9 = true then (if a = b then (0, g) else if g (a * 10 + b).toNatClampNeg = 0 then (1, upd (upd g (a * 10 + b).toNatClampNeg (vp_nar .boolean 1)) (b * 10 + a).toNatClampNeg (vp_nar .boolean 1)) else (0, g)) else (0, g)) else (0, g)
set_option maxHeartbeats 4000000 in
set_option maxRecDepth 100000 in
theorem x_areRivals2 (l : Launch) (dC : Nat → ClassId) (dI : Nat → Nat → Nat) (q : Nat → ClassId) (h0 : Nat) (d : Nat → Nat) (k : Nat → Int32) (z : gS) (f : xF) (hI : xI q h0 d k z f) (p0 p1 : Int32) (ha : bw p0 0 9 = true) (hb9 : bw p1 0 9 = true) (g : Nat → Int32) (hg6 : f (d 4) = aI (q 1) 100 g) (hz6 : ∀ j, g j = 0 ∨ g j = 1) : Met l yX11_areRivals wsX11_areRivals ({ frames := 0, cells := 0, slots := 0, locals := 0 }) (va_Pc [.ref h0, .int p0, .int p1] (PX dC dI (va_pl z.1 f) (xT q))) (vp_Si (fun r => r = g (p0 * 10 + p1 : Int32).toNatClampNeg)) 0 0 (fun _ => False) := by
  refine Met.ofW (cc := cX11_areRivals) (maxL := 3) (ret := (some .boolean)) (by decide) rfl ?_
  intro p e s m args below meth c s₁ B hml hv
  obtain ⟨rfl, ⟨hP, hK, hN⟩, hXN⟩ := hv
  have hx := B.exec
  have hb := B.bytes
  have hr := B.returns
  have hts := atoms_spec (ws := wsX11_areRivals) B.pre
  have hown : s.vm.findClass RX11 = some m.cls := findClass_of_methodNamed B.named
  have hlocks := B.notSynchronized
  have hl := lv_entry ([.ref h0, .int p0, .int p1]) (n := 3) (Nat.le_of_ble_eq_true rfl)
  rw [lg_entry_eq]
  generalize (lg_sl ([.ref h0, .int p0, .int p1]) ++ List.replicate (3 - (lg_sl ([.ref h0, .int p0, .int p1])).length) Slot.unset).toArray = ls at hl ⊢
  have hl : lv_has ls 3 [(0, .ref h0), (1, .int p0), (2, .int p1)] := hl
  refine lv_aload_n hx hb dX11_areRivals_0 rfl (lv_at hl 0 rfl) ?_
  obtain ⟨kk_1, hk_2⟩ := pl_at hI.2.1.1.1 hI.2.2.2.1.1
  refine va_get (D := (dC, dI)) (ci := 10) (v := .ref (d 4)) (C := RX11) (T := TX11) (N := 9) hx hb hts (by decide +kernel) hown hK hP kk_1 hk_2 rfl 6 (by decide) (hts (.fieldLink RX11 37 "PageOne" "rivals" "[Z") (by decide +kernel)) (fun _ h9 => h9) rfl dX11_areRivals_1 ?_
  refine lv_iload_n hx hb dX11_areRivals_4 rfl (lv_at hl 1 rfl) ?_
  refine lv_bipush (v := 10) hx hb dX11_areRivals_5 (by decide) ?_
  refine lv_imul hx hb dX11_areRivals_7 ?_
  refine lv_iload_n hx hb dX11_areRivals_8 rfl (lv_at hl 2 rfl) ?_
  refine lv_iadd hx hb dX11_areRivals_9 ?_
  obtain ⟨kk_3, hk_4⟩ := pl_at hI.2.1.2.2.2.2.2.1 hg6
  refine va_zald hx hb hK hP kk_3 1 hk_4 rfl (vin2 ha hb9) dX11_areRivals_10 ?_
  exact W.zret (v := (g (((p0 * 10) + p1) : Int32).toNatClampNeg)) hx hb hr (by rcases hz6 ((p0 * 10 + p1 : Int32).toNatClampNeg) with h | h <;> rw [h] <;> decide) (fun t ht hW => ⟨_, rfl, rfl, ht⟩) (fun q h => absurd h List.not_mem_nil) dX11_areRivals_11
set_option maxHeartbeats 4000000 in
set_option maxRecDepth 100000 in
theorem x_rival2 (l : Launch) (dC : Nat → ClassId) (dI : Nat → Nat → Nat) (q : Nat → ClassId) (h0 : Nat) (d : Nat → Nat) (k : Nat → Int32) (z : gS) (f : xF) (hI : xI q h0 d k z f) (p0 p1 : Int32) (g : Nat → Int32) (hg6 : f (d 4) = aI (q 1) 100 g) (hz6 : ∀ j, g j = 0 ∨ g j = 1) (hv6 : (z.2 (d 4)).2.2 = vs g) (sz : Nat) : Met l yX11_rival wsX11_rival ({ frames := 2, cells := 0, slots := 0, locals := 42 }) (va_Pc [.ref h0, .int p0, .int p1] (fun U => U.heap.size = sz ∧ PX dC dI (va_pl z.1 f) (xT q) U ∧ va_D (fun _ => True) (va_pl z.1 f))) (va_Qi (fun (r : Int32) (w : xU) => w.1 = k ∧ xI q h0 d k w.2.1 w.2.2 ∧ ∃ g9, (r, g9) = xRiv g p0 p1 ∧ (w.2.1.2 (d 4)).2.2 = vs g9) (fun (w : xU) t => va_P (dC, dI) vwCl (va_pl w.2.1.1 w.2.2) t.heap ∧ va_D (va_A (va_pl z.1 f) sz) (va_pl w.2.1.1 w.2.2)) (va_A (va_pl z.1 f) sz)) 0 0 (va_A (va_pl z.1 f) sz) := by
  refine Met.ofW (cc := cX11_rival) (maxL := 3) (ret := (some .boolean)) (by decide) rfl ?_
  intro p e s m args below meth c s₁ B hml hv
  obtain ⟨rfl, hsz, ⟨⟨hP, hK, hN⟩, hXN⟩, hD0⟩ := hv
  have hx := B.exec
  have hb := B.bytes
  have hr := B.returns
  have hts := atoms_spec (ws := wsX11_rival) B.pre
  have hown : s.vm.findClass RX11 = some m.cls := findClass_of_methodNamed B.named
  have hlocks := B.notSynchronized
  subst hsz
  have hD := hD0.self (sz := s.heap.size)
  generalize hAe : va_A (va_pl z.1 f) s.heap.size = A at hD ⊢
  have hA : ∀ q : Nat, s.heap.size ≤ q → A q := fun q h => by rw [← hAe]; exact Or.inr h
  have hS : va_S A s.heap s.heap [] := va_S.rf
  have hl := lv_entry ([.ref h0, .int p0, .int p1]) (n := 3) (Nat.le_of_ble_eq_true rfl)
  rw [lg_entry_eq]
  generalize (lg_sl ([.ref h0, .int p0, .int p1]) ++ List.replicate (3 - (lg_sl ([.ref h0, .int p0, .int p1])).length) Slot.unset).toArray = ls at hl ⊢
  have hl : lv_has ls 3 [(0, .ref h0), (1, .int p0), (2, .int p1)] := hl
  refine lv_iload_n hx hb dX11_rival_0 rfl (lv_at hl 1 rfl) ?_
  refine vp_callSi (va_runS (As := [.int p0]) (rest := []) ⟨hx, hb, hml, hown, hts⟩ (x_isBuyer l dC dI p0) (va_cwS 1 hts gX11_rival_X11_isBuyer rfl rfl rfl (by decide +kernel) ⟨Nat.le_of_ble_eq_true rfl, Nat.le_of_ble_eq_true rfl⟩) ⟨pw_fb, fun U hU hW => ⟨rfl, pw_to hU hW (hP.sub (ws' := []) [] rfl) (hK.sub (tys' := []) [] rfl) hN⟩⟩ rfl rfl hl.1 rfl (lv_room (Nat.le_of_ble_eq_true rfl)) dX11_rival_1 ⟨Nat.le_of_ble_eq_true rfl, Nat.le_of_ble_eq_true rfl⟩).run (fun r hw => ?_)
  rcases Bool.eq_false_or_eq_true (bw p0 0 9) with b_1 | b_1
  ·
    obtain rfl : r = 1 := b_t hw b_1
    refine lv_if_eq (tgt := 28) hx hb dX11_rival_4 (by decide) (fun c_2 => absurd c_2 (by decide)) (fun c_2 => ?_)
    refine lv_iload_n hx hb dX11_rival_7 rfl (lv_at hl 2 rfl) ?_
    refine vp_callSi (va_runS (As := [.int p1]) (rest := []) ⟨hx, hb, hml, hown, hts⟩ (x_isBuyer l dC dI p1) (va_cwS 1 hts gX11_rival_X11_isBuyer rfl rfl rfl (by decide +kernel) ⟨Nat.le_of_ble_eq_true rfl, Nat.le_of_ble_eq_true rfl⟩) ⟨pw_fb, fun U hU hW => ⟨rfl, pw_to hU hW (hP.sub (ws' := []) [] rfl) (hK.sub (tys' := []) [] rfl) hN⟩⟩ rfl rfl hl.1 rfl (lv_room (Nat.le_of_ble_eq_true rfl)) dX11_rival_8 ⟨Nat.le_of_ble_eq_true rfl, Nat.le_of_ble_eq_true rfl⟩).run (fun r hw => ?_)
    rcases Bool.eq_false_or_eq_true (bw p1 0 9) with b_3 | b_3
    ·
      obtain rfl : r = 1 := b_t hw b_3
      refine lv_if_eq (tgt := 28) hx hb dX11_rival_11 (by decide) (fun c_4 => absurd c_4 (by decide)) (fun c_4 => ?_)
      refine lv_iload_n hx hb dX11_rival_14 rfl (lv_at hl 1 rfl) ?_
      refine lv_iload_n hx hb dX11_rival_15 rfl (lv_at hl 2 rfl) ?_
      refine lv_icmp_eq (tgt := 28) hx hb dX11_rival_16 (by decide) (fun c_5 => ?_) (fun c_5 => ?_)
      ·
        refine lv_iconst (v := 0) hx hb dX11_rival_28 (by decide) ?_
        exact W.zret (v := 0) hx hb hr (by decide) (fun t ht hW => ⟨⟨0, (k, z, f), rfl, ⟨rfl, hI, g, by unfold xRiv; simp [b_1, b_3, c_5], hv6⟩, by rw [ht]; exact hP, hD⟩, hS.F ht⟩) hS.2.2 dX11_rival_29
      ·
        refine lv_aload_n hx hb dX11_rival_19 rfl (lv_at hl 0 rfl) ?_
        refine lv_iload_n hx hb dX11_rival_20 rfl (lv_at hl 1 rfl) ?_
        refine lv_iload_n hx hb dX11_rival_21 rfl (lv_at hl 2 rfl) ?_
        obtain ⟨kk_6, hk_7⟩ := pl_at hI.2.1.1.1 hI.2.2.2.1.1
        refine vp_callSi (va_runV (As := [.int p0, .int p1]) (rest := []) ⟨hx, hb, hml, hown, hts⟩ (x_areRivals2 l dC dI q h0 d k z f hI p0 p1 b_1 b_3 g hg6 hz6) (cwV 2 hts gX11_rival_X11_areRivals rfl rfl rfl (by decide +kernel) ⟨Nat.le_of_ble_eq_true rfl, Nat.le_of_ble_eq_true rfl⟩) ⟨px_fb, va_recv hK hP (ci := 10) (q0 := kk_6) rfl hk_7, fun U hU hW => ⟨rfl, px_to hU hW hP hK hN hXN⟩⟩ rfl rfl hl.1 rfl (lv_room (Nat.le_of_ble_eq_true rfl)) dX11_rival_22 ⟨Nat.le_of_ble_eq_true rfl, Nat.le_of_ble_eq_true rfl⟩).run (fun r hw => ?_)
        obtain rfl : r = g (p0 * 10 + p1 : Int32).toNatClampNeg := hw
        refine lv_if_eq (tgt := 30) hx hb dX11_rival_25 (by decide) (fun c_8 => ?_) (fun c_8 => ?_)
        ·
          refine lv_aload_n hx hb dX11_rival_30 rfl (lv_at hl 0 rfl) ?_
          obtain ⟨kk_9, hk_10⟩ := pl_at hI.2.1.1.1 hI.2.2.2.1.1
          refine va_get (D := (dC, dI)) (ci := 10) (v := .ref (d 4)) (C := RX11) (T := TX11) (N := 9) hx hb hts (by decide +kernel) hown hK hP kk_9 hk_10 rfl 6 (by decide) (hts (.fieldLink RX11 37 "PageOne" "rivals" "[Z") (by decide +kernel)) (fun _ h9 => h9) rfl dX11_rival_31 ?_
          refine lv_iload_n hx hb dX11_rival_34 rfl (lv_at hl 1 rfl) ?_
          refine lv_bipush (v := 10) hx hb dX11_rival_35 (by decide) ?_
          refine lv_imul hx hb dX11_rival_37 ?_
          refine lv_iload_n hx hb dX11_rival_38 rfl (lv_at hl 2 rfl) ?_
          refine lv_iadd hx hb dX11_rival_39 ?_
          refine lv_iconst (v := 1) hx hb dX11_rival_40 (by decide) ?_
          obtain ⟨kk_11, hk_12⟩ := pl_at hI.2.1.2.2.2.2.2.1 hg6
          have hD0 := hD
          refine va_zast hx hb hK hP hD hS kk_11 1 hk_12 rfl (vin2 b_1 b_3) dX11_rival_41 (fun H locs hP hD hS => ?_)
          rw [pl_set hD0 hI.2.1.2.2.2.2.2.1 hg6 hk_12] at hP hD
          have hz_15 : ∀ j, (upd g (((p0 * 10) + p1) : Int32).toNatClampNeg (vp_nar .boolean 1)) j = 0 ∨ (upd g (((p0 * 10) + p1) : Int32).toNatClampNeg (vp_nar .boolean 1)) j = 1 := z_up hz6
          obtain ⟨z_13, ez_13⟩ : ∃ y : gS, y = zr z (d 4) (upd g (((p0 * 10) + p1) : Int32).toNatClampNeg (vp_nar .boolean 1)) := ⟨_, rfl⟩
          obtain ⟨f_14, ef_14⟩ : ∃ y : xF, y = va_up f (d 4) (aI (q 1) 100 (upd g (((p0 * 10) + p1) : Int32).toNatClampNeg (vp_nar .boolean 1))) := ⟨_, rfl⟩
          have hI : xI q h0 d k z_13 f_14 := by rw [ez_13, ef_14]; exact x_upRv hI hz_15
          have hP : va_P (dC, dI) vwCl (va_pl z_13.1 f_14) H := by rw [ez_13, ef_14]; exact hP
          have hD : va_D A (va_pl z_13.1 f_14) := by rw [ez_13, ef_14]; exact hD
          have hs_16 : f_14 (d 4) = aI (q 1) 100 (upd g (((p0 * 10) + p1) : Int32).toNatClampNeg (vp_nar .boolean 1)) := by rw [ef_14]; exact up_s
          refine lv_aload_n hx hb dX11_rival_42 rfl (lv_at hl 0 rfl) ?_
          obtain ⟨kk_17, hk_18⟩ := pl_at hI.2.1.1.1 hI.2.2.2.1.1
          refine va_get (D := (dC, dI)) (ci := 10) (v := .ref (d 4)) (C := RX11) (T := TX11) (N := 9) hx hb hts (by decide +kernel) hown hK hP kk_17 hk_18 rfl 6 (by decide) (hts (.fieldLink RX11 37 "PageOne" "rivals" "[Z") (by decide +kernel)) (fun _ h9 => h9) rfl dX11_rival_43 ?_
          refine lv_iload_n hx hb dX11_rival_46 rfl (lv_at hl 2 rfl) ?_
          refine lv_bipush (v := 10) hx hb dX11_rival_47 (by decide) ?_
          refine lv_imul hx hb dX11_rival_49 ?_
          refine lv_iload_n hx hb dX11_rival_50 rfl (lv_at hl 1 rfl) ?_
          refine lv_iadd hx hb dX11_rival_51 ?_
          refine lv_iconst (v := 1) hx hb dX11_rival_52 (by decide) ?_
          obtain ⟨kk_19, hk_20⟩ := pl_at hI.2.1.2.2.2.2.2.1 hs_16
          have hD0 := hD
          refine va_zast hx hb hK hP hD hS kk_19 1 hk_20 rfl (vin2 b_3 b_1) dX11_rival_53 (fun H locs hP hD hS => ?_)
          rw [pl_set hD0 hI.2.1.2.2.2.2.2.1 hs_16 hk_20] at hP hD
          have hz_23 : ∀ j, (upd (upd g (((p0 * 10) + p1) : Int32).toNatClampNeg (vp_nar .boolean 1)) (((p1 * 10) + p0) : Int32).toNatClampNeg (vp_nar .boolean 1)) j = 0 ∨ (upd (upd g (((p0 * 10) + p1) : Int32).toNatClampNeg (vp_nar .boolean 1)) (((p1 * 10) + p0) : Int32).toNatClampNeg (vp_nar .boolean 1)) j = 1 := z_up hz_15
          obtain ⟨z_21, ez_21⟩ : ∃ y : gS, y = zr z_13 (d 4) (upd (upd g (((p0 * 10) + p1) : Int32).toNatClampNeg (vp_nar .boolean 1)) (((p1 * 10) + p0) : Int32).toNatClampNeg (vp_nar .boolean 1)) := ⟨_, rfl⟩
          obtain ⟨f_22, ef_22⟩ : ∃ y : xF, y = va_up f_14 (d 4) (aI (q 1) 100 (upd (upd g (((p0 * 10) + p1) : Int32).toNatClampNeg (vp_nar .boolean 1)) (((p1 * 10) + p0) : Int32).toNatClampNeg (vp_nar .boolean 1))) := ⟨_, rfl⟩
          have hI : xI q h0 d k z_21 f_22 := by rw [ez_21, ef_22]; exact x_upRv hI hz_23
          have hP : va_P (dC, dI) vwCl (va_pl z_21.1 f_22) H := by rw [ez_21, ef_22]; exact hP
          have hD : va_D A (va_pl z_21.1 f_22) := by rw [ez_21, ef_22]; exact hD
          have hs_24 : f_22 (d 4) = aI (q 1) 100 (upd (upd g (((p0 * 10) + p1) : Int32).toNatClampNeg (vp_nar .boolean 1)) (((p1 * 10) + p0) : Int32).toNatClampNeg (vp_nar .boolean 1)) := by rw [ef_22]; exact up_s
          refine lv_iconst (v := 1) hx hb dX11_rival_54 (by decide) ?_
          exact W.zret (v := 1) hx hb hr (by decide) (fun t ht hW => ⟨⟨1, (k, z_21, f_22), rfl, ⟨rfl, hI, (upd (upd g (((p0 * 10) + p1) : Int32).toNatClampNeg (vp_nar .boolean 1)) (((p1 * 10) + p0) : Int32).toNatClampNeg (vp_nar .boolean 1)), by unfold xRiv; simp [b_1, b_3, c_5, c_8], by show (z_21.2 (d 4)).2.2 = _; rw [ez_21, zr_s]⟩, by rw [ht]; exact hP, hD⟩, hS.F ht⟩) hS.2.2 dX11_rival_55
        ·
          refine lv_iconst (v := 0) hx hb dX11_rival_28 (by decide) ?_
          exact W.zret (v := 0) hx hb hr (by decide) (fun t ht hW => ⟨⟨0, (k, z, f), rfl, ⟨rfl, hI, g, by unfold xRiv; simp [b_1, b_3, c_5, c_8], hv6⟩, by rw [ht]; exact hP, hD⟩, hS.F ht⟩) hS.2.2 dX11_rival_29
    ·
      obtain rfl : r = 0 := b_f hw b_3
      refine lv_if_eq (tgt := 28) hx hb dX11_rival_11 (by decide) (fun c_25 => ?_) (fun c_25 => absurd (by decide) c_25)
      refine lv_iconst (v := 0) hx hb dX11_rival_28 (by decide) ?_
      exact W.zret (v := 0) hx hb hr (by decide) (fun t ht hW => ⟨⟨0, (k, z, f), rfl, ⟨rfl, hI, g, by unfold xRiv; simp [b_1, b_3], hv6⟩, by rw [ht]; exact hP, hD⟩, hS.F ht⟩) hS.2.2 dX11_rival_29
  ·
    obtain rfl : r = 0 := b_f hw b_1
    refine lv_if_eq (tgt := 28) hx hb dX11_rival_4 (by decide) (fun c_26 => ?_) (fun c_26 => absurd (by decide) c_26)
    refine lv_iconst (v := 0) hx hb dX11_rival_28 (by decide) ?_
    exact W.zret (v := 0) hx hb hr (by decide) (fun t ht hW => ⟨⟨0, (k, z, f), rfl, ⟨rfl, hI, g, by unfold xRiv; simp [b_1], hv6⟩, by rw [ht]; exact hP, hD⟩, hS.F ht⟩) hS.2.2 dX11_rival_29
