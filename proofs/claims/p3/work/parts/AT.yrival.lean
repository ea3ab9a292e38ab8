theorem sI_all {u w : mS} (hr : ∀ r, 4 ≤ r → r ≤ 48 → r ≠ 20 → w.2 r = u.2 r) (j : Nat) : sI u w j :=
  ⟨fun r r1 r2 _ _ _ r3 _ => by rw [hr r r1 (by omega) r3], fun r r1 r2 t _ => by rw [hr r (by omega) (by omega) (by omega)], fun t _ => by rw [hr 47 (by omega) (by omega) (by omega)], fun t _ => by rw [hr 16 (by omega) (by omega) (by omega)], fun t _ => by rw [hr 18 (by omega) (by omega) (by omega), hr 19 (by omega) (by omega) (by omega)]; exact ⟨rfl, rfl⟩, fun t _ => by rw [hr 21 (by omega) (by omega) (by omega)], fun t _ => by rw [hr 48 (by omega) (by omega) (by omega)]⟩
/-- the items, kept by a write elsewhere -/
theorem rIs_out {q d u w z f f2} {X : Nat → Prop} (h : rIs q d u z f) (hf : fK d z f f2 X) (hX : ∀ x, 2000 ≤ x ∨ x = 2 → ¬ X x) (n2 : nO d z 2 4) (h1 : w.1 3 = u.1 3) (hr : ∀ r, 4 ≤ r → r ≤ 48 → r ≠ 20 → w.2 r = u.2 r) : rIs q d w z f2 := by
  obtain ⟨⟨g, a1, a2⟩, a3⟩ := h
  refine ⟨⟨g, by rw [hf.1 2 _ n2 (hX 2 (by omega))]; exact a1, fun j hj => a2 j (by rw [← h1]; exact hj)⟩, fun j hj => ?_⟩
  rw [h1] at hj
  exact rIt_fr (a3 j hj) (zE_rf z) ⟨rfl, rfl, rfl, rfl, rfl⟩ hf ⟨hX _ (by omega), hX _ (by omega), hX _ (by omega), hX _ (by omega), hX _ (by omega)⟩ (sI_all hr j) (by rw [h1]; exact Nat.le_refl _) (fun o _ => ⟨rfl, by rw [hr 4 (by omega) (by omega) (by omega)]⟩)
/-- a write at the rivals -/
theorem rep_rv {q d u w z f} {g2 : Nat → Int32} (h : rep q d u z f) (h1 : w.1 = u.1) (hr : ∀ r, r ≠ 20 → w.2 r = u.2 r) (he : eqR 100 g2 (w.2 20) 0) : rep q d w z (va_up f (d 4) (aI (q 1) 100 g2)) := by
  obtain ⟨h1g, h1l, h1i, h1v, n0, n1, n2, n3, n4⟩ := h
  have hf : fK d z f (va_up f (d 4) (aI (q 1) 100 g2)) (fun x => x = 4) := fK_up (fK_rf d z f _) n4 (by decide) rfl
  exact ⟨rPg_fr h1g (zE_rf z) (fun _ _ => rfl) hf (fun x _ _ _ _ h4 => h4) n0 (hr 0 (by omega)) (hr 1 (by omega)) (hr 2 (by omega)), rPl_fr h1l (zE_rf z) rfl (fun _ _ _ => rfl) hf (by omega) (fun x x1 x2 => by omega) n1 (fun r r1 r2 => hr r (by omega)), rIs_out h1i hf (fun x hx => by omega) n2 (by rw [h1]) (fun r _ _ r3 => hr r r3), ⟨g2, up_s, he⟩, n0, n1, n2, n3, n4⟩
theorem rival_a {u : mS} {a b : Int32} (h : ¬ bw a 0 9 = true) : mRival u a b = (0, u) := by unfold mRival; rw [if_neg h]
theorem rival_b {u : mS} {a b : Int32} (h : ¬ bw b 0 9 = true) : mRival u a b = (0, u) := by unfold mRival; rw [if_neg h]; split <;> rfl
theorem rival_e {u : mS} {a b : Int32} (h : a = b) : mRival u a b = (0, u) := by unfold mRival; rw [if_pos h]; split <;> (try split) <;> rfl
theorem rival_y {q d u z f} {a b : Int32} {g : Nat → Int32} (h : rep q d u z f) (ha : bw a 0 9 = true) (hb : bw b 0 9 = true) (hab : ¬ a = b) (hg : f (d 4) = aI (q 1) 100 g) : (¬ g (a * 10 + b).toNatClampNeg = 0 → 0 = (mRival u a b).1 ∧ rep q d (mRival u a b).2 z f) ∧ (g (a * 10 + b).toNatClampNeg = 0 → ∀ (f1 : xF) (g1 : Nat → Int32) (f2 : xF), f1 = va_up f (d 4) (aI (q 1) 100 (upd g (a * 10 + b).toNatClampNeg (vp_nar .boolean 1))) → f1 (d 4) = aI (q 1) 100 g1 → f2 = va_up f1 (d 4) (aI (q 1) 100 (upd g1 (b * 10 + a).toNatClampNeg (vp_nar .boolean 1))) → 1 = (mRival u a b).1 ∧ rep q d (mRival u a b).2 z f2) := by
  obtain ⟨g9, a1, he⟩ := h.2.2.2.1
  obtain rfl := (aI_inj (hg.symm.trans a1)).2
  have hA : vp_in (a * 10 + b) 100 := vin2 ha hb
  have hB : vp_in (b * 10 + a) 100 := vin2 hb ha
  have eA : (10 : Int32) * a + b = a * 10 + b := by rw [Int32.mul_comm]
  have eB : (10 : Int32) * b + a = b * 10 + a := by rw [Int32.mul_comm]
  have e0 : ∀ j, j < 100 → g j = u.2 20 j := fun j hj => by have := he j hj; rw [Nat.zero_add] at this; exact this
  unfold mRival
  rw [if_pos ha, if_pos hb, if_neg hab, eA, eB, ← e0 _ (vlt hA)]
  refine ⟨fun e => ?_, fun e f1 g1 f2 e1 e2 e3 => ?_⟩
  · rw [if_neg e]; exact ⟨rfl, h⟩
  · rw [if_pos e]
    refine ⟨rfl, ?_⟩
    rw [e1, up_s] at e2
    obtain rfl := (aI_inj e2).2
    rw [e3, e1, up_up]
    refine rep_rv h rfl (fun r hr => by rw [mst_other hr, mst_other hr]) (fun j hj => ?_)
    rw [Nat.zero_add, mst_at, mst_at]
    unfold upd
    by_cases c1 : j = (b * 10 + a).toNatClampNeg
    · rw [if_pos c1, if_pos c1]
    · rw [if_neg c1, if_neg c1]
      by_cases c2 : j = (a * 10 + b).toNatClampNeg
      · rw [if_pos c2, if_pos c2]
      · rw [if_neg c2, if_neg c2]; exact e0 j hj
set_option maxHeartbeats 4000000 in
set_option maxRecDepth 100000 in
theorem y_areRivals (l : Launch) (dC : Nat → ClassId) (dI : Nat → Nat → Nat) (q : Nat → ClassId) (h0 : Nat) (d : Nat → Nat) (k : Nat → Int32) (z : gS) (f : xF) (hI : xI q h0 d k z f) (p0 p1 : Int32) (ha : bw p0 0 9 = true) (hb9 : bw p1 0 9 = true) (g : Nat → Int32) (hg6 : f (d 4) = aI (q 1) 100 g) (hz6 : ∀ j, g j = 0 ∨ g j = 1) : Met l yX11_areRivals wsX11_areRivals ({ frames := 0, cells := 0, slots := 0, locals := 0 }) (va_Pc [.ref h0, .int p0, .int p1] (PX dC dI (va_pl z.1 f) (xT q))) (vp_Si (fun r => r = g (p0 * 10 + p1 : Int32).toNatClampNeg)) 0 0 (fun _ => False) := by
  refine Met.ofW (cc := cX11_areRivals) (maxL := 3) (ret := (some .boolean)) (by decide) rfl ?_
  intro p e s m args below meth c s₁ B hml hv
  obtain ⟨rfl, ⟨hP, hK, hN⟩, hXN⟩ := hv
  have hx := B.exec
  have hb := B.bytes
  have hr := B.returns
  have hts := atoms_spec (ws := wsX11_areRivals) B.pre
  have hown : s.vm.findClass RX11 = some m.cls := findClass_of_methodNamed B.named
  have hlocks := B.notSynchronized
  have hl := lv_entry ([.ref h0, .int p0, .int p1]) (n := 3) (Nat.le_of_ble_eq_true rfl)
  rw [lg_entry_eq]
  generalize (lg_sl ([.ref h0, .int p0, .int p1]) ++ List.replicate (3 - (lg_sl ([.ref h0, .int p0, .int p1])).length) Slot.unset).toArray = ls at hl ⊢
  have hl : lv_has ls 3 [(0, .ref h0), (1, .int p0), (2, .int p1)] := hl
  refine lv_aload_n hx hb dX11_areRivals_0 rfl (lv_at hl 0 rfl) ?_
  obtain ⟨kk_1, hk_2⟩ := pl_at hI.2.1.1.1 hI.2.2.2.1.1
  refine va_get (D := (dC, dI)) (ci := 10) (v := .ref (d 4)) (C := RX11) (T := TX11) (N := 9) hx hb hts (by decide +kernel) hown hK hP kk_1 hk_2 rfl 6 (by decide) (hts (.fieldLink RX11 37 "PageOne" "rivals" "[Z") (by decide +kernel)) (fun _ h9 => h9) rfl dX11_areRivals_1 ?_
  refine lv_iload_n hx hb dX11_areRivals_4 rfl (lv_at hl 1 rfl) ?_
  refine lv_bipush (v := 10) hx hb dX11_areRivals_5 (by decide) ?_
  refine lv_imul hx hb dX11_areRivals_7 ?_
  refine lv_iload_n hx hb dX11_areRivals_8 rfl (lv_at hl 2 rfl) ?_
  refine lv_iadd hx hb dX11_areRivals_9 ?_
  obtain ⟨kk_3, hk_4⟩ := pl_at hI.2.1.2.2.2.2.2.1 hg6
  refine va_zald hx hb hK hP kk_3 1 hk_4 rfl (vin2 ha hb9) dX11_areRivals_10 ?_
  exact W.zret (v := (g (((p0 * 10) + p1) : Int32).toNatClampNeg)) hx hb hr (by rcases hz6 ((p0 * 10 + p1 : Int32).toNatClampNeg) with h | h <;> rw [h] <;> decide) (fun t ht hW => ⟨_, rfl, rfl, ht⟩) (fun q h => absurd h List.not_mem_nil) dX11_areRivals_11
set_option maxHeartbeats 4000000 in
set_option maxRecDepth 100000 in
theorem y_rival (l : Launch) (dC : Nat → ClassId) (dI : Nat → Nat → Nat) (q : Nat → ClassId) (h0 : Nat) (d : Nat → Nat) (k : Nat → Int32) (z : gS) (f : xF) (hI : xI q h0 d k z f) (p0 p1 : Int32) (u : mS) (hrp : rep q d u z f) (hk0 : k 0 = u.1 3) (hk1 : k 1 = u.1 28) (hk2 : k 2 = u.1 38) (hk3 : k 3 = u.1 39) (hu : rI u) (g : Nat → Int32) (hg6 : f (d 4) = aI (q 1) 100 g) (hz6 : ∀ j, g j = 0 ∨ g j = 1) (sz : Nat) : Met l yX11_rival wsX11_rival ({ frames := 2, cells := 0, slots := 0, locals := 42 }) (va_Pc [.ref h0, .int p0, .int p1] (fun U => U.heap.size = sz ∧ PX dC dI (va_pl z.1 f) (xT q) U ∧ va_D (fun _ => True) (va_pl z.1 f))) (va_Qi (fun (r : Int32) (w : xU) => w.1 = k ∧ w.2.1 = z ∧ xI q h0 d k z w.2.2 ∧ r = (mRival u p0 p1).1 ∧ rep q d (mRival u p0 p1).2 z w.2.2) (fun (w : xU) t => va_P (dC, dI) vwCl (va_pl w.2.1.1 w.2.2) t.heap ∧ va_D (va_A (va_pl z.1 f) sz) (va_pl w.2.1.1 w.2.2)) (va_A (va_pl z.1 f) sz)) 0 0 (va_A (va_pl z.1 f) sz) := by
  refine Met.ofW (cc := cX11_rival) (maxL := 3) (ret := (some .boolean)) (by decide) rfl ?_
  intro p e s m args below meth c s₁ B hml hv
  obtain ⟨rfl, hsz, ⟨⟨hP, hK, hN⟩, hXN⟩, hD0⟩ := hv
  have hx := B.exec
  have hb := B.bytes
  have hr := B.returns
  have hts := atoms_spec (ws := wsX11_rival) B.pre
  have hown : s.vm.findClass RX11 = some m.cls := findClass_of_methodNamed B.named
  have hlocks := B.notSynchronized
  subst hsz
  have hD := hD0.self (sz := s.heap.size)
  generalize hAe : va_A (va_pl z.1 f) s.heap.size = A at hD ⊢
  have hA : ∀ q : Nat, s.heap.size ≤ q → A q := fun q h => by rw [← hAe]; exact Or.inr h
  have hS : va_S A s.heap s.heap [] := va_S.rf
  have hl := lv_entry ([.ref h0, .int p0, .int p1]) (n := 3) (Nat.le_of_ble_eq_true rfl)
  rw [lg_entry_eq]
  generalize (lg_sl ([.ref h0, .int p0, .int p1]) ++ List.replicate (3 - (lg_sl ([.ref h0, .int p0, .int p1])).length) Slot.unset).toArray = ls at hl ⊢
  have hl : lv_has ls 3 [(0, .ref h0), (1, .int p0), (2, .int p1)] := hl
  refine lv_iload_n hx hb dX11_rival_0 rfl (lv_at hl 1 rfl) ?_
  refine vp_callSi (va_runS (As := [.int p0]) (rest := []) ⟨hx, hb, hml, hown, hts⟩ (x_isBuyer l dC dI p0) (va_cwS 1 hts gX11_rival_X11_isBuyer rfl rfl rfl (by decide +kernel) ⟨Nat.le_of_ble_eq_true rfl, Nat.le_of_ble_eq_true rfl⟩) ⟨pw_fb, fun U hU hW => ⟨rfl, pw_to hU hW (hP.sub (ws' := []) [] rfl) (hK.sub (tys' := []) [] rfl) hN⟩⟩ rfl rfl hl.1 rfl (lv_room (Nat.le_of_ble_eq_true rfl)) dX11_rival_1 ⟨Nat.le_of_ble_eq_true rfl, Nat.le_of_ble_eq_true rfl⟩).run (fun r hw => ?_)
  rcases Bool.eq_false_or_eq_true (bw p0 0 9) with b_1 | b_1
  ·
    obtain rfl : r = 1 := b_t hw b_1
    refine lv_if_eq (tgt := 28) hx hb dX11_rival_4 (by decide) (fun c_2 => absurd c_2 (by decide)) (fun c_2 => ?_)
    refine lv_iload_n hx hb dX11_rival_7 rfl (lv_at hl 2 rfl) ?_
    refine vp_callSi (va_runS (As := [.int p1]) (rest := []) ⟨hx, hb, hml, hown, hts⟩ (x_isBuyer l dC dI p1) (va_cwS 1 hts gX11_rival_X11_isBuyer rfl rfl rfl (by decide +kernel) ⟨Nat.le_of_ble_eq_true rfl, Nat.le_of_ble_eq_true rfl⟩) ⟨pw_fb, fun U hU hW => ⟨rfl, pw_to hU hW (hP.sub (ws' := []) [] rfl) (hK.sub (tys' := []) [] rfl) hN⟩⟩ rfl rfl hl.1 rfl (lv_room (Nat.le_of_ble_eq_true rfl)) dX11_rival_8 ⟨Nat.le_of_ble_eq_true rfl, Nat.le_of_ble_eq_true rfl⟩).run (fun r hw => ?_)
    rcases Bool.eq_false_or_eq_true (bw p1 0 9) with b_3 | b_3
    ·
      obtain rfl : r = 1 := b_t hw b_3
      refine lv_if_eq (tgt := 28) hx hb dX11_rival_11 (by decide) (fun c_4 => absurd c_4 (by decide)) (fun c_4 => ?_)
      refine lv_iload_n hx hb dX11_rival_14 rfl (lv_at hl 1 rfl) ?_
      refine lv_iload_n hx hb dX11_rival_15 rfl (lv_at hl 2 rfl) ?_
      refine lv_icmp_eq (tgt := 28) hx hb dX11_rival_16 (by decide) (fun c_5 => ?_) (fun c_5 => ?_)
      ·
        refine lv_iconst (v := 0) hx hb dX11_rival_28 (by decide) ?_
        exact W.zret (v := 0) hx hb hr (by decide) (fun t ht hW => ⟨⟨0, (k, z, f), rfl, ⟨rfl, rfl, hI, by rw [(rival_e c_5)], by rw [(rival_e c_5)]; exact hrp⟩, by rw [ht]; exact hP, hD⟩, hS.F ht⟩) hS.2.2 dX11_rival_29
      ·
        refine lv_aload_n hx hb dX11_rival_19 rfl (lv_at hl 0 rfl) ?_
        refine lv_iload_n hx hb dX11_rival_20 rfl (lv_at hl 1 rfl) ?_
        refine lv_iload_n hx hb dX11_rival_21 rfl (lv_at hl 2 rfl) ?_
        obtain ⟨kk_6, hk_7⟩ := pl_at hI.2.1.1.1 hI.2.2.2.1.1
        refine vp_callSi (va_runV (As := [.int p0, .int p1]) (rest := []) ⟨hx, hb, hml, hown, hts⟩ (y_areRivals l dC dI q h0 d k z f hI p0 p1 b_1 b_3 g hg6 hz6) (cwV 2 hts gX11_rival_X11_areRivals rfl rfl rfl (by decide +kernel) ⟨Nat.le_of_ble_eq_true rfl, Nat.le_of_ble_eq_true rfl⟩) ⟨px_fb, va_recv hK hP (ci := 10) (q0 := kk_6) rfl hk_7, fun U hU hW => ⟨rfl, px_to hU hW hP hK hN hXN⟩⟩ rfl rfl hl.1 rfl (lv_room (Nat.le_of_ble_eq_true rfl)) dX11_rival_22 ⟨Nat.le_of_ble_eq_true rfl, Nat.le_of_ble_eq_true rfl⟩).run (fun r hw => ?_)
        obtain rfl : r = g (p0 * 10 + p1 : Int32).toNatClampNeg := hw
        refine lv_if_eq (tgt := 30) hx hb dX11_rival_25 (by decide) (fun c_8 => ?_) (fun c_8 => ?_)
        ·
          refine lv_aload_n hx hb dX11_rival_30 rfl (lv_at hl 0 rfl) ?_
          obtain ⟨kk_9, hk_10⟩ := pl_at hI.2.1.1.1 hI.2.2.2.1.1
          refine va_get (D := (dC, dI)) (ci := 10) (v := .ref (d 4)) (C := RX11) (T := TX11) (N := 9) hx hb hts (by decide +kernel) hown hK hP kk_9 hk_10 rfl 6 (by decide) (hts (.fieldLink RX11 37 "PageOne" "rivals" "[Z") (by decide +kernel)) (fun _ h9 => h9) rfl dX11_rival_31 ?_
          refine lv_iload_n hx hb dX11_rival_34 rfl (lv_at hl 1 rfl) ?_
          refine lv_bipush (v := 10) hx hb dX11_rival_35 (by decide) ?_
          refine lv_imul hx hb dX11_rival_37 ?_
          refine lv_iload_n hx hb dX11_rival_38 rfl (lv_at hl 2 rfl) ?_
          refine lv_iadd hx hb dX11_rival_39 ?_
          refine lv_iconst (v := 1) hx hb dX11_rival_40 (by decide) ?_
          obtain ⟨kk_11, hk_12⟩ := pl_at hI.2.1.2.2.2.2.2.1 hg6
          have hD0 := hD
          refine va_zast hx hb hK hP hD hS kk_11 1 hk_12 rfl (vin2 b_1 b_3) dX11_rival_41 (fun H locs hP hD hS => ?_)
          rw [pl_set hD0 hI.2.1.2.2.2.2.2.1 hg6 hk_12] at hP hD
          obtain ⟨f_13, ef_13⟩ : ∃ y : xF, y = va_up f (d 4) (aI (q 1) 100 (upd g (((p0 * 10) + p1) : Int32).toNatClampNeg (vp_nar .boolean 1))) := ⟨_, rfl⟩
          have hI : xI q h0 d k z f_13 := by rw [ef_13]; exact x_up hI hI.2.1.2.2.2.2.2 (by decide) (cO_6 hI.2.1.2.2.2.2.2.2 ⟨_, rfl, z_up hz6⟩)
          have hP : va_P (dC, dI) vwCl (va_pl z.1 f_13) H := by rw [ef_13]; exact hP
          have hD : va_D A (va_pl z.1 f_13) := by rw [ef_13]; exact hD
          refine lv_aload_n hx hb dX11_rival_42 rfl (lv_at hl 0 rfl) ?_
          obtain ⟨kk_14, hk_15⟩ := pl_at hI.2.1.1.1 hI.2.2.2.1.1
          refine va_get (D := (dC, dI)) (ci := 10) (v := .ref (d 4)) (C := RX11) (T := TX11) (N := 9) hx hb hts (by decide +kernel) hown hK hP kk_14 hk_15 rfl 6 (by decide) (hts (.fieldLink RX11 37 "PageOne" "rivals" "[Z") (by decide +kernel)) (fun _ h9 => h9) rfl dX11_rival_43 ?_
          refine lv_iload_n hx hb dX11_rival_46 rfl (lv_at hl 2 rfl) ?_
          refine lv_bipush (v := 10) hx hb dX11_rival_47 (by decide) ?_
          refine lv_imul hx hb dX11_rival_49 ?_
          refine lv_iload_n hx hb dX11_rival_50 rfl (lv_at hl 1 rfl) ?_
          refine lv_iadd hx hb dX11_rival_51 ?_
          refine lv_iconst (v := 1) hx hb dX11_rival_52 (by decide) ?_
          obtain ⟨g_16, hs_17, hz_18⟩ := x_ri hI hI.2.1.2.2.2.2.2
          obtain ⟨kk_19, hk_20⟩ := pl_at hI.2.1.2.2.2.2.2.1 hs_17
          have hD0 := hD
          refine va_zast hx hb hK hP hD hS kk_19 1 hk_20 rfl (vin2 b_3 b_1) dX11_rival_53 (fun H locs hP hD hS => ?_)
          rw [pl_set hD0 hI.2.1.2.2.2.2.2.1 hs_17 hk_20] at hP hD
          obtain ⟨f_21, ef_21⟩ : ∃ y : xF, y = va_up f_13 (d 4) (aI (q 1) 100 (upd g_16 (((p1 * 10) + p0) : Int32).toNatClampNeg (vp_nar .boolean 1))) := ⟨_, rfl⟩
          have hI : xI q h0 d k z f_21 := by rw [ef_21]; exact x_up hI hI.2.1.2.2.2.2.2 (by decide) (cO_6 hI.2.1.2.2.2.2.2.2 ⟨_, rfl, z_up hz_18⟩)
          have hP : va_P (dC, dI) vwCl (va_pl z.1 f_21) H := by rw [ef_21]; exact hP
          have hD : va_D A (va_pl z.1 f_21) := by rw [ef_21]; exact hD
          refine lv_iconst (v := 1) hx hb dX11_rival_54 (by decide) ?_
          exact W.zret (v := 1) hx hb hr (by decide) (fun t ht hW => ⟨⟨1, (k, z, f_21), rfl, ⟨rfl, rfl, hI, (rival_y hrp b_1 b_3 c_5 hg6).2 c_8 _ _ _ ef_13 hs_17 ef_21⟩, by rw [ht]; exact hP, hD⟩, hS.F ht⟩) hS.2.2 dX11_rival_55
        ·
          refine lv_iconst (v := 0) hx hb dX11_rival_28 (by decide) ?_
          exact W.zret (v := 0) hx hb hr (by decide) (fun t ht hW => ⟨⟨0, (k, z, f), rfl, ⟨rfl, rfl, hI, (rival_y hrp b_1 b_3 c_5 hg6).1 c_8⟩, by rw [ht]; exact hP, hD⟩, hS.F ht⟩) hS.2.2 dX11_rival_29
    ·
      obtain rfl : r = 0 := b_f hw b_3
      refine lv_if_eq (tgt := 28) hx hb dX11_rival_11 (by decide) (fun c_22 => ?_) (fun c_22 => absurd (by decide) c_22)
      refine lv_iconst (v := 0) hx hb dX11_rival_28 (by decide) ?_
      exact W.zret (v := 0) hx hb hr (by decide) (fun t ht hW => ⟨⟨0, (k, z, f), rfl, ⟨rfl, rfl, hI, by rw [(rival_b (bne b_3))], by rw [(rival_b (bne b_3))]; exact hrp⟩, by rw [ht]; exact hP, hD⟩, hS.F ht⟩) hS.2.2 dX11_rival_29
  ·
    obtain rfl : r = 0 := b_f hw b_1
    refine lv_if_eq (tgt := 28) hx hb dX11_rival_4 (by decide) (fun c_23 => ?_) (fun c_23 => absurd (by decide) c_23)
    refine lv_iconst (v := 0) hx hb dX11_rival_28 (by decide) ?_
    exact W.zret (v := 0) hx hb hr (by decide) (fun t ht hW => ⟨⟨0, (k, z, f), rfl, ⟨rfl, rfl, hI, by rw [(rival_a (bne b_1))], by rw [(rival_a (bne b_1))]; exact hrp⟩, by rw [ht]; exact hP, hD⟩, hS.F ht⟩) hS.2.2 dX11_rival_29
