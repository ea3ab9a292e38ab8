set_option maxHeartbeats 4000000 in
set_option maxRecDepth 100000 in
theorem x_enter (l : Launch) (dC : Nat → ClassId) (dI : Nat → Nat → Nat) (q : Nat → ClassId) (h0 : Nat) (d : Nat → Nat) (k : Nat → Int32) (z : gS) (f : xF) (hI : xI q h0 d k z f) (c0 : Nat) (hc0 : itm z c0) (sz : Nat) : Met l yX11_enter wsX11_enter ({ frames := 0, cells := 0, slots := 0, locals := 0 }) (va_Pc [.ref h0, .ref c0] (fun U => U.heap.size = sz ∧ PX dC dI (va_pl z.1 f) (xT q) U ∧ va_D (fun _ => True) (va_pl z.1 f))) (va_Qi (fun (r : Int32) (w : xU) => (∀ j, j ≠ 0 → w.1 j = k j) ∧ w.2.1 = z ∧ xI q h0 d w.1 z w.2.2) (fun (w : xU) t => va_P (dC, dI) vwCl (va_pl w.2.1.1 w.2.2) t.heap ∧ va_D (va_A (va_pl z.1 f) sz) (va_pl w.2.1.1 w.2.2)) (va_A (va_pl z.1 f) sz)) 0 0 (va_A (va_pl z.1 f) sz) := by
  refine Met.ofW (cc := cX11_enter) (maxL := 2) (ret := (some .int)) (by decide) rfl ?_
  intro p e s m args below meth c s₁ B hml hv
  obtain ⟨rfl, hsz, ⟨⟨hP, hK, hN⟩, hXN⟩, hD0⟩ := hv
  have hx := B.exec
  have hb := B.bytes
  have hr := B.returns
  have hts := atoms_spec (ws := wsX11_enter) B.pre
  have hown : s.vm.findClass RX11 = some m.cls := findClass_of_methodNamed B.named
  have hlocks := B.notSynchronized
  subst hsz
  have hD := hD0.self (sz := s.heap.size)
  generalize hAe : va_A (va_pl z.1 f) s.heap.size = A at hD ⊢
  have hA : ∀ q : Nat, s.heap.size ≤ q → A q := fun q h => by rw [← hAe]; exact Or.inr h
  have hS : va_S A s.heap s.heap [] := va_S.rf
  have hl := lv_entry ([.ref h0, .ref c0]) (n := 2) (Nat.le_of_ble_eq_true rfl)
  rw [lg_entry_eq]
  generalize (lg_sl ([.ref h0, .ref c0]) ++ List.replicate (2 - (lg_sl ([.ref h0, .ref c0])).length) Slot.unset).toArray = ls at hl ⊢
  have hl : lv_has ls 2 [(0, .ref h0), (1, .ref c0)] := hl
  refine lv_aload_n hx hb dX11_enter_0 rfl (lv_at hl 0 rfl) ?_
  obtain ⟨kk_1, hk_2⟩ := pl_at hI.2.1.1.1 hI.2.2.2.1.1
  refine va_get (D := (dC, dI)) (ci := 10) (v := .int (k 0)) (C := RX11) (T := TX11) (N := 9) hx hb hts (by decide +kernel) hown hK hP kk_1 hk_2 rfl 3 (by decide) (hts (.fieldLink RX11 24 "PageOne" "itemCount" "I") (by decide +kernel)) (fun _ h9 => h9) rfl dX11_enter_1 ?_
  refine lv_bipush (v := 80) hx hb dX11_enter_4 (by decide) ?_
  refine lv_icmp_lt (tgt := 11) hx hb dX11_enter_6 (by decide) (fun c_3 => ?_) (fun c_3 => ?_)
  ·
    refine lv_aload_n hx hb dX11_enter_11 rfl (lv_at hl 0 rfl) ?_
    obtain ⟨kk_4, hk_5⟩ := pl_at hI.2.1.1.1 hI.2.2.2.1.1
    refine va_get (D := (dC, dI)) (ci := 10) (v := .ref (d 2)) (C := RX11) (T := TX11) (N := 9) hx hb hts (by decide +kernel) hown hK hP kk_4 hk_5 rfl 2 (by decide) (hts (.fieldLink RX11 20 "PageOne" "items" "[LPageOne$Item;") (by decide +kernel)) (fun _ h9 => h9) rfl dX11_enter_12 ?_
    refine lv_aload_n hx hb dX11_enter_15 rfl (lv_at hl 0 rfl) ?_
    obtain ⟨kk_6, hk_7⟩ := pl_at hI.2.1.1.1 hI.2.2.2.1.1
    refine va_get (D := (dC, dI)) (ci := 10) (v := .int (k 0)) (C := RX11) (T := TX11) (N := 9) hx hb hts (by decide +kernel) hown hK hP kk_6 hk_7 rfl 3 (by decide) (hts (.fieldLink RX11 24 "PageOne" "itemCount" "I") (by decide +kernel)) (fun _ h9 => h9) rfl dX11_enter_16 ?_
    refine lv_aload_n hx hb dX11_enter_19 rfl (lv_at hl 1 rfl) ?_
    obtain ⟨g_8, hs_9, hn_10, hg_11⟩ := x_itm hI
    obtain ⟨kk_12, hk_13⟩ := pl_at hI.2.1.2.2.2.1.1 hs_9
    obtain ⟨nu_14, kd_15, cn_16, pa_17, fa_18, rs_19, hs_20, hs_21, hs_22, hs_23, hs_24⟩ := x_im hI hc0
    obtain ⟨kk_25, hk_26⟩ := pl_at hc0.1 hs_20
    have hD0 := hD
    refine w_cut (X := fun R cells slots Q args => ∀ (H : Heap) (locs : List Loc), va_P (dC, dI) vwCl ((va_pl z.1 f).set kk_12 ((d 2), aR (q 3) 80 (va_up g_8 ((k 0) : Int32).toNatClampNeg (some c0)))) H → va_D A ((va_pl z.1 f).set kk_12 ((d 2), aR (q 3) 80 (va_up g_8 ((k 0) : Int32).toNatClampNeg (some c0)))) → va_S A s.heap H locs → W p l e R s m args below meth c H locs cells slots Q (F0 m 21 ls [])) ?_ (fun kC => ?_)
    ·
      intro H locs hP hD hS
      rw [pl_set hD0 hI.2.1.2.2.2.1.1 hs_9 hk_13] at hP hD
      obtain ⟨f_27, ef_27⟩ : ∃ y : xF, y = va_up f (d 2) (aR (q 3) 80 (va_up g_8 ((k 0) : Int32).toNatClampNeg (some c0))) := ⟨_, rfl⟩
      have hI : xI q h0 d k z f_27 := by rw [ef_27]; exact x_upI hI (nn_up hn_10 (Nat.le_refl _)) (ty_up hg_11 (ty_s hc0))
      have hP : va_P (dC, dI) vwCl (va_pl z.1 f_27) H := by rw [ef_27]; exact hP
      have hD : va_D A (va_pl z.1 f_27) := by rw [ef_27]; exact hD
      refine lv_aload_n hx hb dX11_enter_21 rfl (lv_at hl 0 rfl) ?_
      refine lv_dup hx hb dX11_enter_22 rfl ?_
      obtain ⟨kk_28, hk_29⟩ := pl_at hI.2.1.1.1 hI.2.2.2.1.1
      refine va_get (D := (dC, dI)) (ci := 10) (v := .int (k 0)) (C := RX11) (T := TX11) (N := 9) hx hb hts (by decide +kernel) hown hK hP kk_28 hk_29 rfl 3 (by decide) (hts (.fieldLink RX11 24 "PageOne" "itemCount" "I") (by decide +kernel)) (fun _ h9 => h9) rfl dX11_enter_23 ?_
      refine lv_iconst (v := 1) hx hb dX11_enter_26 (by decide) ?_
      refine lv_iadd hx hb dX11_enter_27 ?_
      refine lv_topi (fun x_30 ex_30 => ?_)
      obtain ⟨kk_31, hk_32⟩ := pl_at hI.2.1.1.1 hI.2.2.2.1.1
      have hD0 := hD
      refine va_put (D := (dC, dI)) (ci := 10) (v := .int x_30) (ty := .int) (C := RX11) (T := TX11) (N := 9) hx hb hts (by decide +kernel) tyX11 tyX11_ok nmX11 hown hK hP hD hS kk_31 hk_32 rfl 3 (by decide) (hts (.fieldLink RX11 24 "PageOne" "itemCount" "I") (by decide +kernel)) (fun _ h9 => h9) rfl (by decide +kernel) rfl rfl (Nat.le_of_ble_eq_true rfl) dX11_enter_28 (fun H locs hP hD hS => ?_)
      obtain ⟨k_33, ek_33⟩ : ∃ y : Nat → Int32, y = kup k 0 x_30 := ⟨_, rfl⟩
      rw [pl_set hD0 hI.2.1.1.1 hI.2.2.2.1.1 hk_32] at hP hD
      obtain ⟨f_34, ef_34⟩ : ∃ y : xF, y = va_up f_27 h0 (.inr (10, dkF d k_33)) := ⟨_, rfl⟩
      have hP : va_P (dC, dI) vwCl (va_pl z.1 f_34) H := by rw [ef_34, ek_33]; exact hP
      have hD : va_D A (va_pl z.1 f_34) := by rw [ef_34, ek_33]; exact hD
      have hI : xI q h0 d k_33 z f_34 := by rw [ef_34]; exact x_dkI hI (by rw [ek_33]; exact ⟨by rw [kup_s, ex_30]; exact (vIn8 hI.1.1 c_3).2.1, hI.1.2.1, hI.1.2.2⟩) (by rw [ef_27]; exact up_s) (by rw [ek_33, kup_s, ex_30, (vIn8 hI.1.1 c_3).2.2]; exact nn_up1 hn_10)
      refine lv_aload_n hx hb dX11_enter_31 rfl (lv_at hl 1 rfl) ?_
      obtain ⟨nu_35, kd_36, cn_37, pa_38, fa_39, rs_40, hs_41, hs_42, hs_43, hs_44, hs_45⟩ := x_im hI hc0
      obtain ⟨kk_46, hk_47⟩ := pl_at hc0.1 hs_41
      refine w_then (F0 m 35 ls [.int nu_35]) (fun hgo => ?_) ?_
      ·
        rcases x_tag hc0 with ht9 | ht9 | ht9 | ht9 | ht9 | ht9
        ·
          rw [ht9.2] at hk_47
          exact va_get (D := (dC, dI)) (ci := 2) (v := .int nu_35) (C := RX2) (T := TX2) (N := 7) hx hb hts (by decide +kernel) hown hK hP kk_46 hk_47 rfl 0 (by decide) (hts (.fieldLink RX11 285 "PageOne$Item" "number" "I") (by decide +kernel)) (fun _ h9 => h9) rfl dX11_enter_32 hgo
        ·
          rw [ht9.2] at hk_47
          exact va_get (D := (dC, dI)) (ci := 3) (v := .int nu_35) (C := RX3) (T := TX3) (N := 8) hx hb hts (by decide +kernel) hown hK hP kk_46 hk_47 rfl 0 (by decide) (hts (.fieldLink RX11 285 "PageOne$Item" "number" "I") (by decide +kernel)) (fun _ h9 => h9) rfl dX11_enter_32 hgo
        ·
          rw [ht9.2] at hk_47
          exact va_get (D := (dC, dI)) (ci := 4) (v := .int nu_35) (C := RX5) (T := TX5) (N := 7) hx hb hts (by decide +kernel) hown hK hP kk_46 hk_47 rfl 0 (by decide) (hts (.fieldLink RX11 285 "PageOne$Item" "number" "I") (by decide +kernel)) (fun _ h9 => h9) rfl dX11_enter_32 hgo
        ·
          rw [ht9.2] at hk_47
          exact va_get (D := (dC, dI)) (ci := 5) (v := .int nu_35) (C := RX6) (T := TX6) (N := 9) hx hb hts (by decide +kernel) hown hK hP kk_46 hk_47 rfl 0 (by decide) (hts (.fieldLink RX11 285 "PageOne$Item" "number" "I") (by decide +kernel)) (fun _ h9 => h9) rfl dX11_enter_32 hgo
        ·
          rw [ht9.2] at hk_47
          exact va_get (D := (dC, dI)) (ci := 6) (v := .int nu_35) (C := RX7) (T := TX7) (N := 8) hx hb hts (by decide +kernel) hown hK hP kk_46 hk_47 rfl 0 (by decide) (hts (.fieldLink RX11 285 "PageOne$Item" "number" "I") (by decide +kernel)) (fun _ h9 => h9) rfl dX11_enter_32 hgo
        ·
          rw [ht9.2] at hk_47
          exact va_get (D := (dC, dI)) (ci := 9) (v := .int nu_35) (C := RX10) (T := TX10) (N := 9) hx hb hts (by decide +kernel) hown hK hP kk_46 hk_47 rfl 0 (by decide) (hts (.fieldLink RX11 285 "PageOne$Item" "number" "I") (by decide +kernel)) (fun _ h9 => h9) rfl dX11_enter_32 hgo
      ·
        exact W.iret (v := nu_35) hx hb hr (fun t ht hW => ⟨⟨nu_35, (k_33, z, f_34), rfl, ⟨fun j hj => by rw [ek_33]; exact kup_o hj, rfl, hI⟩, by rw [ht]; exact hP, hD⟩, hS.F ht⟩) hS.2.2 dX11_enter_35
    ·
      rcases x_tag hc0 with ht9 | ht9 | ht9 | ht9 | ht9 | ht9
      ·
        rw [ht9.2] at hk_26
        exact va_astqO (r := (RX2, TX2, 7)) (E := "PageOne$Item") hx hb hK hP hD hS kk_12 3 kk_25 2 hk_13 rfl hN.cast_X2 hk_26 rfl (vIn8 hI.1.1 c_3).1 dX11_enter_20 (fun H locs hP hD hS => kC H locs hP hD hS)
      ·
        rw [ht9.2] at hk_26
        exact va_astqO (r := (RX3, TX3, 8)) (E := "PageOne$Item") hx hb hK hP hD hS kk_12 3 kk_25 3 hk_13 rfl hN.cast_X3 hk_26 rfl (vIn8 hI.1.1 c_3).1 dX11_enter_20 (fun H locs hP hD hS => kC H locs hP hD hS)
      ·
        rw [ht9.2] at hk_26
        exact va_astqO (r := (RX5, TX5, 7)) (E := "PageOne$Item") hx hb hK hP hD hS kk_12 3 kk_25 4 hk_13 rfl hN.cast_X5 hk_26 rfl (vIn8 hI.1.1 c_3).1 dX11_enter_20 (fun H locs hP hD hS => kC H locs hP hD hS)
      ·
        rw [ht9.2] at hk_26
        exact va_astqO (r := (RX6, TX6, 9)) (E := "PageOne$Item") hx hb hK hP hD hS kk_12 3 kk_25 5 hk_13 rfl hN.cast_X6 hk_26 rfl (vIn8 hI.1.1 c_3).1 dX11_enter_20 (fun H locs hP hD hS => kC H locs hP hD hS)
      ·
        rw [ht9.2] at hk_26
        exact va_astqO (r := (RX7, TX7, 8)) (E := "PageOne$Item") hx hb hK hP hD hS kk_12 3 kk_25 6 hk_13 rfl hN.cast_X7 hk_26 rfl (vIn8 hI.1.1 c_3).1 dX11_enter_20 (fun H locs hP hD hS => kC H locs hP hD hS)
      ·
        rw [ht9.2] at hk_26
        exact va_astqO (r := (RX10, TX10, 9)) (E := "PageOne$Item") hx hb hK hP hD hS kk_12 3 kk_25 9 hk_13 rfl hN.cast_X10 hk_26 rfl (vIn8 hI.1.1 c_3).1 dX11_enter_20 (fun H locs hP hD hS => kC H locs hP hD hS)
  ·
    refine lv_iconst (v := (-1)) hx hb dX11_enter_9 (by decide) ?_
    exact W.iret (v := (-1)) hx hb hr (fun t ht hW => ⟨⟨(-1), (k, z, f), rfl, ⟨fun j hj => rfl, rfl, hI⟩, by rw [ht]; exact hP, hD⟩, hS.F ht⟩) hS.2.2 dX11_enter_10
