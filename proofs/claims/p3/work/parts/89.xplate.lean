set_option maxHeartbeats 4000000 in
set_option maxRecDepth 100000 in
theorem x_copyFrom2 (l : Launch) (dC : Nat → ClassId) (dI : Nat → Nat → Nat) (q : Nat → ClassId) (h0 : Nat) (d : Nat → Nat) (k : Nat → Int32) (z : gS) (f : xF) (hI : xI q h0 d k z f) (a0 b0 : Nat) (ha0 : tg z a0 7) (hb0 : tg z b0 7) (sz : Nat) : Met l yX9_copyFrom wsX9_copyFrom ({ frames := 1, cells := 0, slots := 0, locals := 40 }) (va_Pc [.ref a0, .ref b0] (fun U => U.heap.size = sz ∧ PX dC dI (va_pl z.1 f) (xT q) U ∧ va_D (fun _ => True) (va_pl z.1 f))) (va_Qv (fun (w : xU) => w.1 = k ∧ w.2.1 = z ∧ xI q h0 d k z w.2.2 ∧ w.2.2 (d 1) = f (d 1)) (fun (w : xU) t => va_P (dC, dI) vwCl (va_pl w.2.1.1 w.2.2) t.heap ∧ va_D (va_A (va_pl z.1 f) sz) (va_pl w.2.1.1 w.2.2)) (va_A (va_pl z.1 f) sz)) 0 0 (va_A (va_pl z.1 f) sz) := by
  refine Met.ofW (cc := cX9_copyFrom) (maxL := 2) (ret := none) (by decide) rfl ?_
  intro p e s m args below meth c s₁ B hml hv
  obtain ⟨rfl, hsz, ⟨⟨hP, hK, hN⟩, hXN⟩, hD0⟩ := hv
  have hx := B.exec
  have hb := B.bytes
  have hr := B.returns
  have hts := atoms_spec (ws := wsX9_copyFrom) B.pre
  have hown : s.vm.findClass RX9 = some m.cls := findClass_of_methodNamed B.named
  have hlocks := B.notSynchronized
  subst hsz
  have hD := hD0.self (sz := s.heap.size)
  generalize hAe : va_A (va_pl z.1 f) s.heap.size = A at hD ⊢
  have hA : ∀ q : Nat, s.heap.size ≤ q → A q := fun q h => by rw [← hAe]; exact Or.inr h
  have hS : va_S A s.heap s.heap [] := va_S.rf
  have hl := lv_entry ([.ref a0, .ref b0]) (n := 2) (Nat.le_of_ble_eq_true rfl)
  rw [lg_entry_eq]
  generalize (lg_sl ([.ref a0, .ref b0]) ++ List.replicate (2 - (lg_sl ([.ref a0, .ref b0])).length) Slot.unset).toArray = ls at hl ⊢
  have hl : lv_has ls 2 [(0, .ref a0), (1, .ref b0)] := hl
  refine lv_aload_n hx hb dX9_copyFrom_0 rfl (lv_at hl 1 rfl) ?_
  obtain ⟨la_1, ca_2, m_3, dd_4, ii_5, hs_6, ht_7, ht_8⟩ := x_sh hI hb0
  obtain ⟨kk_9, hk_10⟩ := pl_at hb0.1 hs_6
  refine va_get (D := (dC, dI)) (ci := 8) (v := .ref la_1) (C := RX9) (T := TX9) (N := 5) hx hb hts (by decide +kernel) hown hK hP kk_9 hk_10 rfl 0 (by decide) (hts (.fieldLink RX9 9 "PageOne$Sheet" "lines" "[I") (by decide +kernel)) (fun _ h9 => h9) rfl dX9_copyFrom_1 ?_
  refine lv_iconst (v := 0) hx hb dX9_copyFrom_4 (by decide) ?_
  refine lv_aload_n hx hb dX9_copyFrom_5 rfl (lv_at hl 0 rfl) ?_
  obtain ⟨la_11, ca_12, m_13, dd_14, ii_15, hs_16, ht_17, ht_18⟩ := x_sh hI ha0
  obtain ⟨kk_19, hk_20⟩ := pl_at ha0.1 hs_16
  refine va_get (D := (dC, dI)) (ci := 8) (v := .ref la_11) (C := RX9) (T := TX9) (N := 5) hx hb hts (by decide +kernel) hown hK hP kk_19 hk_20 rfl 0 (by decide) (hts (.fieldLink RX9 9 "PageOne$Sheet" "lines" "[I") (by decide +kernel)) (fun _ h9 => h9) rfl dX9_copyFrom_6 ?_
  refine lv_iconst (v := 0) hx hb dX9_copyFrom_9 (by decide) ?_
  refine lv_bipush (v := 8) hx hb dX9_copyFrom_10 (by decide) ?_
  obtain ⟨g_21, hs_22, hg_23⟩ := x_ln hI ht_7
  obtain ⟨g_24, hs_25, hg_26⟩ := x_ln hI ht_17
  obtain ⟨kk_27, hk_28⟩ := pl_at ht_7.1 hs_22
  obtain ⟨kk_29, hk_30⟩ := pl_at ht_17.1 hs_25
  have hD0 := hD
  refine va_copyi hx hb (by rw [hml]; exact hl.1.symm) hown (hts (.methodLink RX9 68 arraycopyName) (by decide +kernel)) (hts (.native arraycopyName) (by decide +kernel)) (hts (.static arraycopyName) (by decide +kernel)) (hts (.initialized "java/lang/System") (by decide +kernel)) hK hP hD hS kk_27 kk_29 0 0 hk_28 hk_30 rfl rfl rfl (sp := 0) (dp := 0) (n := 8) (by decide) (by decide) (by decide) (by decide) (by decide) (fun _ _ => rfl) (Nat.le_of_ble_eq_true rfl) (Nat.le_of_ble_eq_true rfl) dX9_copyFrom_12 (fun H locs hP hD hS => ?_)
  rw [pl_set hD0 ht_17.1 hs_25 hk_30] at hP hD
  obtain ⟨f_31, ef_31⟩ : ∃ y : xF, y = va_up f la_11 (aI (q 0) 8 (va_cpy g_21 g_24 (0 : Int32).toNatClampNeg (0 : Int32).toNatClampNeg (8 : Int32).toNatClampNeg)) := ⟨_, rfl⟩
  have hI : xI q h0 d k z f_31 := by rw [ef_31]; exact x_up hI ht_17 (by decide) (cO_8 ht_17.2 ⟨_, rfl, cpy_b hg_23 hg_26⟩)
  have hP : va_P (dC, dI) vwCl (va_pl z.1 f_31) H := by rw [ef_31]; exact hP
  have hD : va_D A (va_pl z.1 f_31) := by rw [ef_31]; exact hD
  have hq_32 : f_31 (d 1) = f (d 1) := by rw [ef_31]; exact (up_o (tg_ne hI.2.1.2.2.1 ht_17 (by decide))).trans (rfl)
  refine lv_aload_n hx hb dX9_copyFrom_15 rfl (lv_at hl 1 rfl) ?_
  obtain ⟨la_33, ca_34, m_35, dd_36, ii_37, hs_38, ht_39, ht_40⟩ := x_sh hI hb0
  obtain ⟨kk_41, hk_42⟩ := pl_at hb0.1 hs_38
  refine va_get (D := (dC, dI)) (ci := 8) (v := .ref ca_34) (C := RX9) (T := TX9) (N := 5) hx hb hts (by decide +kernel) hown hK hP kk_41 hk_42 rfl 1 (by decide) (hts (.fieldLink RX9 15 "PageOne$Sheet" "cells" "[I") (by decide +kernel)) (fun _ h9 => h9) rfl dX9_copyFrom_16 ?_
  refine lv_iconst (v := 0) hx hb dX9_copyFrom_19 (by decide) ?_
  refine lv_aload_n hx hb dX9_copyFrom_20 rfl (lv_at hl 0 rfl) ?_
  obtain ⟨la_43, ca_44, m_45, dd_46, ii_47, hs_48, ht_49, ht_50⟩ := x_sh hI ha0
  obtain ⟨kk_51, hk_52⟩ := pl_at ha0.1 hs_48
  refine va_get (D := (dC, dI)) (ci := 8) (v := .ref ca_44) (C := RX9) (T := TX9) (N := 5) hx hb hts (by decide +kernel) hown hK hP kk_51 hk_52 rfl 1 (by decide) (hts (.fieldLink RX9 15 "PageOne$Sheet" "cells" "[I") (by decide +kernel)) (fun _ h9 => h9) rfl dX9_copyFrom_21 ?_
  refine lv_iconst (v := 0) hx hb dX9_copyFrom_24 (by decide) ?_
  refine lv_sipush (v := 480) hx hb dX9_copyFrom_25 (by decide) ?_
  obtain ⟨g_53, hs_54⟩ := x_ce hI ht_40
  obtain ⟨g_55, hs_56⟩ := x_ce hI ht_50
  obtain ⟨kk_57, hk_58⟩ := pl_at ht_40.1 hs_54
  obtain ⟨kk_59, hk_60⟩ := pl_at ht_50.1 hs_56
  have hD0 := hD
  refine va_copyi hx hb (by rw [hml]; exact hl.1.symm) hown (hts (.methodLink RX9 68 arraycopyName) (by decide +kernel)) (hts (.native arraycopyName) (by decide +kernel)) (hts (.static arraycopyName) (by decide +kernel)) (hts (.initialized "java/lang/System") (by decide +kernel)) hK hP hD hS kk_57 kk_59 0 0 hk_58 hk_60 rfl rfl rfl (sp := 0) (dp := 0) (n := 480) (by decide) (by decide) (by decide) (by decide) (by decide) (fun _ _ => rfl) (Nat.le_of_ble_eq_true rfl) (Nat.le_of_ble_eq_true rfl) dX9_copyFrom_28 (fun H locs hP hD hS => ?_)
  rw [pl_set hD0 ht_50.1 hs_56 hk_60] at hP hD
  obtain ⟨f_61, ef_61⟩ : ∃ y : xF, y = va_up f_31 ca_44 (aI (q 0) 480 (va_cpy g_53 g_55 (0 : Int32).toNatClampNeg (0 : Int32).toNatClampNeg (480 : Int32).toNatClampNeg)) := ⟨_, rfl⟩
  have hI : xI q h0 d k z f_61 := by rw [ef_61]; exact x_up hI ht_50 (by decide) (cO_9 ht_50.2 ⟨_, rfl⟩)
  have hP : va_P (dC, dI) vwCl (va_pl z.1 f_61) H := by rw [ef_61]; exact hP
  have hD : va_D A (va_pl z.1 f_61) := by rw [ef_61]; exact hD
  have hq_62 : f_61 (d 1) = f (d 1) := by rw [ef_61]; exact (up_o (tg_ne hI.2.1.2.2.1 ht_50 (by decide))).trans (hq_32)
  exact W.vret hx hb hr (fun t ht hW => ⟨⟨(k, z, f_61), rfl, ⟨rfl, rfl, hI, hq_62⟩, by rw [ht]; exact hP, hD⟩, hS.F ht⟩) hS.2.2 dX9_copyFrom_31
theorem b00 : bw 0 0 60 = true := by decide
set_option maxHeartbeats 4000000 in
set_option maxRecDepth 100000 in
theorem x_plate (l : Launch) (dC : Nat → ClassId) (dI : Nat → Nat → Nat) (q : Nat → ClassId) (h0 : Nat) (d : Nat → Nat) (k : Nat → Int32) (z : gS) (f : xF) (hI : xI q h0 d k z f) (p0 : Int32) (sz : Nat) : Met l yX11_plate wsX11_plate ({ frames := 6, cells := 7, slots := 505, locals := 133 }) (va_Pc [.ref h0, .int p0] (fun U => U.heap.size = sz ∧ PX dC dI (va_pl z.1 f) (xT q) U ∧ va_D (fun _ => True) (va_pl z.1 f))) (va_Qi (fun (r : Int32) (w : xU) => w.1 = k ∧ zE z w.2.1 ∧ xI q h0 d k w.2.1 w.2.2) (fun (w : xU) t => va_P (dC, dI) vwCl (va_pl w.2.1.1 w.2.2) t.heap ∧ va_D (va_A (va_pl z.1 f) sz) (va_pl w.2.1.1 w.2.2)) (va_A (va_pl z.1 f) sz)) 7 505 (va_A (va_pl z.1 f) sz) := by
  refine Met.ofW (cc := cX11_plate) (maxL := 4) (ret := (some .int)) (by decide) rfl ?_
  intro p e s m args below meth c s₁ B hml hv
  obtain ⟨rfl, hsz, ⟨⟨hP, hK, hN⟩, hXN⟩, hD0⟩ := hv
  have hx := B.exec
  have hb := B.bytes
  have hr := B.returns
  have hts := atoms_spec (ws := wsX11_plate) B.pre
  have hown : s.vm.findClass RX11 = some m.cls := findClass_of_methodNamed B.named
  have hlocks := B.notSynchronized
  subst hsz
  have hD := hD0.self (sz := s.heap.size)
  generalize hAe : va_A (va_pl z.1 f) s.heap.size = A at hD ⊢
  have hA : ∀ q : Nat, s.heap.size ≤ q → A q := fun q h => by rw [← hAe]; exact Or.inr h
  have hS : va_S A s.heap s.heap [] := va_S.rf
  have hl := lv_entry ([.ref h0, .int p0]) (n := 4) (Nat.le_of_ble_eq_true rfl)
  rw [lg_entry_eq]
  generalize (lg_sl ([.ref h0, .int p0]) ++ List.replicate (4 - (lg_sl ([.ref h0, .int p0])).length) Slot.unset).toArray = ls at hl ⊢
  have hl : lv_has ls 4 [(0, .ref h0), (1, .int p0)] := hl
  refine lv_iload_n hx hb dX11_plate_0 rfl (lv_at hl 1 rfl) ?_
  refine vp_callSi (va_runS (As := [.int p0]) (rest := []) ⟨hx, hb, hml, hown, hts⟩ (x_isPage l dC dI p0) (va_cwS 1 hts gX11_plate_X11_isPage rfl rfl rfl (by decide +kernel) ⟨Nat.le_of_ble_eq_true rfl, Nat.le_of_ble_eq_true rfl⟩) ⟨pw_fb, fun U hU hW => ⟨rfl, pw_to hU hW (hP.sub (ws' := []) [] rfl) (hK.sub (tys' := []) [] rfl) hN⟩⟩ rfl rfl hl.1 rfl (lv_room (Nat.le_of_ble_eq_true rfl)) dX11_plate_1 ⟨Nat.le_of_ble_eq_true rfl, Nat.le_of_ble_eq_true rfl⟩).run (fun r hw => ?_)
  rcases Bool.eq_false_or_eq_true (bw p0 0 11) with b_1 | b_1
  ·
    obtain rfl : r = 1 := b_t hw b_1
    refine lv_if_ne (tgt := 9) hx hb dX11_plate_4 (by decide) (fun c_2 => ?_) (fun c_2 => absurd c_2 (by decide))
    refine lv_aload_n hx hb dX11_plate_9 rfl (lv_at hl 0 rfl) ?_
    obtain ⟨kk_3, hk_4⟩ := pl_at hI.2.1.1.1 hI.2.2.2.1.1
    refine va_get (D := (dC, dI)) (ci := 10) (v := .ref (d 0)) (C := RX11) (T := TX11) (N := 9) hx hb hts (by decide +kernel) hown hK hP kk_3 hk_4 rfl 0 (by decide) (hts (.fieldLink RX11 11 "PageOne" "pages" "[LPageOne$Sheet;") (by decide +kernel)) (fun _ h9 => h9) rfl dX11_plate_10 ?_
    refine lv_iload_n hx hb dX11_plate_13 rfl (lv_at hl 1 rfl) ?_
    obtain ⟨g_5, hs_6, hg_7⟩ := x_pg hI hI.2.1.2.1
    obtain ⟨kk_8, hk_9⟩ := pl_at hI.2.1.2.1.1 hs_6
    refine va_aldq hx hb hK hP kk_8 2 hk_9 rfl (vin b_1 (by decide)) dX11_plate_14 ?_
    obtain ⟨b_10, hg_11, ht_12⟩ := hg_7 _ (vlt (vin b_1 (by decide)))
    rw [hg_11]
    refine W.eq (g2 := F0 m 15 ls [.ref b_10]) rfl ?_
    refine lv_astore_n (lv' := [(2, .ref b_10), (0, .ref h0), (1, .int p0)]) hx hb dX11_plate_15 rfl hl (by decide) rfl (fun ls hl => ?_)
    refine lv_aload_n hx hb dX11_plate_16 rfl (lv_at hl 0 rfl) ?_
    obtain ⟨la_13, ca_14, m_15, dd_16, ii_17, hs_18, ht_19, ht_20⟩ := x_sh hI ht_12
    obtain ⟨kk_21, hk_22⟩ := pl_at ht_12.1 hs_18
    refine vp_callSi (va_runV (As := []) (rest := []) ⟨hx, hb, hml, hown, hts⟩ (x_cellCount l dC dI q h0 d k z f hI b_10 ht_12) (cwV 0 hts gX11_plate_X9_cellCount rfl rfl rfl (by decide +kernel) ⟨Nat.le_of_ble_eq_true rfl, Nat.le_of_ble_eq_true rfl⟩) ⟨px_fb, va_recv hK hP (ci := 8) (q0 := kk_21) rfl hk_22, fun U hU hW => ⟨rfl, px_to hU hW hP hK hN hXN⟩⟩ rfl rfl hl.1 rfl (lv_room (Nat.le_of_ble_eq_true rfl)) dX11_plate_17 ⟨Nat.le_of_ble_eq_true rfl, Nat.le_of_ble_eq_true rfl⟩).run (fun r hw => ?_)
    generalize r = zr_23 at hw ⊢
    have hzr_23 := hw
    refine lv_istore_n (lv' := [(3, .int zr_23), (2, .ref b_10), (0, .ref h0), (1, .int p0)]) hx hb dX11_plate_20 rfl hl (by decide) rfl (fun ls hl => ?_)
    refine lv_iload_n hx hb dX11_plate_21 rfl (lv_at hl 0 rfl) ?_
    refine lv_if_eq (tgt := 43) hx hb dX11_plate_22 (by decide) (fun c_24 => ?_) (fun c_24 => ?_)
    ·
      refine lv_iconst (v := (-1)) hx hb dX11_plate_43 (by decide) ?_
      refine W.widen (k := 7) (n := 505) (Nat.le_of_ble_eq_true rfl) (Nat.le_of_ble_eq_true rfl) ?_
      exact W.iret (v := (-1)) hx hb hr (fun t ht hW => ⟨⟨(-1), (k, z, f), rfl, ⟨rfl, zE_rf z, hI⟩, by rw [ht]; exact hP, hD⟩, hS.F ht⟩) hS.2.2 dX11_plate_44
    ·
      refine lv_aload_n hx hb dX11_plate_25 rfl (lv_at hl 1 rfl) ?_
      obtain ⟨kk_25, hk_26⟩ := pl_at ht_12.1 hs_18
      refine vp_callSi (va_runV (As := []) (rest := []) ⟨hx, hb, hml, hown, hts⟩ (x_emptyCount l dC dI q h0 d k z f hI b_10 ht_12) (cwV 0 hts gX11_plate_X9_emptyCount rfl rfl rfl (by decide +kernel) ⟨Nat.le_of_ble_eq_true rfl, Nat.le_of_ble_eq_true rfl⟩) ⟨px_fb, va_recv hK hP (ci := 8) (q0 := kk_25) rfl hk_26, fun U hU hW => ⟨rfl, px_to hU hW hP hK hN hXN⟩⟩ rfl rfl hl.1 rfl (lv_room (Nat.le_of_ble_eq_true rfl)) dX11_plate_26 ⟨Nat.le_of_ble_eq_true rfl, Nat.le_of_ble_eq_true rfl⟩).run (fun r hw => ?_)
      generalize r = zr_27 at hw ⊢
      have hzr_27 := hw
      refine lv_if_gt (tgt := 43) hx hb dX11_plate_29 (by decide) (fun c_28 => ?_) (fun c_28 => ?_)
      ·
        refine lv_iconst (v := (-1)) hx hb dX11_plate_43 (by decide) ?_
        refine W.widen (k := 7) (n := 505) (Nat.le_of_ble_eq_true rfl) (Nat.le_of_ble_eq_true rfl) ?_
        exact W.iret (v := (-1)) hx hb hr (fun t ht hW => ⟨⟨(-1), (k, z, f), rfl, ⟨rfl, zE_rf z, hI⟩, by rw [ht]; exact hP, hD⟩, hS.F ht⟩) hS.2.2 dX11_plate_44
      ·
        refine lv_aload_n hx hb dX11_plate_32 rfl (lv_at hl 2 rfl) ?_
        refine lv_iload_n hx hb dX11_plate_33 rfl (lv_at hl 3 rfl) ?_
        obtain ⟨kk_29, hk_30⟩ := pl_at hI.2.1.1.1 hI.2.2.2.1.1
        have hFc := fr_all hD hS hA
        refine va_callq (va_runV (As := [.int p0]) (rest := []) ⟨hx, hb, hml, hown, hts⟩ (x_breachOn l dC dI q h0 d k z f hI p0 s.heap.size) (cwV 1 hts gX11_plate_X11_breachOn rfl rfl rfl (by decide +kernel) ⟨Nat.le_of_ble_eq_true rfl, Nat.le_of_ble_eq_true rfl⟩) ⟨gx_fb, va_recv hK hP (ci := 10) (q0 := kk_29) rfl hk_30, fun U hU hW => ⟨rfl, by rw [hU], px_to hU hW hP hK hN hXN, hD.weaken (fun _ _ _ _ => trivial)⟩⟩ rfl rfl hl.1 rfl (lv_room (Nat.le_of_ble_eq_true rfl)) dX11_plate_34 ⟨Nat.le_of_ble_eq_true rfl, Nat.le_of_ble_eq_true rfl⟩) hS (fun q _ h => hFc q h) hFc (fun r w_31 t H1 locs ht hvm hw hB hz1 hk1 hS => ?_)
        obtain ⟨hP, hD1⟩ := hB
        rw [ht] at hP
        have hD := hD1.weaken (fun _ q _ h => hFc q.1 h)
        generalize H1 = H at hP hS ⊢
        refine W.widen (k := 4) (n := 12) (Nat.le_of_ble_eq_true rfl) (Nat.le_of_ble_eq_true rfl) ?_
        obtain ⟨-, hw2, hw3, b_32, hr9, hv_36, bx_33, bx_34, bx_35, hv_37⟩ := hw
        subst hr9
        obtain ⟨k_42, z_40, f_41⟩ := w_31
        have hP : va_P (dC, dI) vwCl (va_pl z_40.1 f_41) H := hP
        have hD : va_D A (va_pl z_40.1 f_41) := hD
        have hE_43 : zE z z_40 := hw2
        have hI : xI q h0 d k z_40 f_41 := hw3
        have ht_12 := zE_tg hE_43 ht_12
        have ht_19 := zE_tg hE_43 ht_19
        have ht_20 := zE_tg hE_43 ht_20
        have hEz : zE z z_40 := zE_tr (zE_rf z) hE_43
        have ht_39 : tg z_40 b_32 24 := hv_36
        have hbc_38 : f_41 b_32 = .inr (1, [.int bx_33, .int bx_34, .int bx_35]) := hv_37
        refine W.eq (g2 := F0 m 37 ls [.ref b_32]) rfl ?_
        obtain ⟨kk_44, hk_45⟩ := pl_at ht_39.1 hbc_38
        refine va_get (D := (dC, dI)) (ci := 1) (v := .int bx_33) (C := RX1) (T := TX1) (N := 3) hx hb hts (by decide +kernel) hown hK hP kk_44 hk_45 rfl 0 (by decide) (hts (.fieldLink RX11 201 "PageOne$Breach" "kind" "I") (by decide +kernel)) (fun _ h9 => h9) rfl dX11_plate_37 ?_
        refine lv_if_eq (tgt := 45) hx hb dX11_plate_40 (by decide) (fun c_46 => ?_) (fun c_46 => ?_)
        ·
          refine lv_aload_n hx hb dX11_plate_45 rfl (lv_at hl 2 rfl) ?_
          obtain ⟨kk_47, hk_48⟩ := pl_at hI.2.1.1.1 hI.2.2.2.1.1
          refine va_get (D := (dC, dI)) (ci := 10) (v := .ref (d 1)) (C := RX11) (T := TX11) (N := 9) hx hb hts (by decide +kernel) hown hK hP kk_47 hk_48 rfl 1 (by decide) (hts (.fieldLink RX11 15 "PageOne" "plates" "[LPageOne$Sheet;") (by decide +kernel)) (fun _ h9 => h9) rfl dX11_plate_46 ?_
          refine lv_iload_n hx hb dX11_plate_49 rfl (lv_at hl 3 rfl) ?_
          obtain ⟨g_49, hs_50, hg_51⟩ := x_pl hI hI.2.1.2.2.1
          obtain ⟨kk_52, hk_53⟩ := pl_at hI.2.1.2.2.1.1 hs_50
          refine va_aldq hx hb hK hP kk_52 2 hk_53 rfl (vin b_1 (by decide)) dX11_plate_50 ?_
          rcases hg_55 : (g_49 (p0 : Int32).toNatClampNeg) with _ | b_54
          ·
            refine W.eq (g2 := F0 m 51 ls [.null]) rfl ?_
            refine lv_ifnonnullN hx hb dX11_plate_51 ?_
            refine lv_aload_n hx hb dX11_plate_54 rfl (lv_at hl 2 rfl) ?_
            obtain ⟨kk_57, hk_58⟩ := pl_at hI.2.1.1.1 hI.2.2.2.1.1
            refine va_get (D := (dC, dI)) (ci := 10) (v := .ref (d 1)) (C := RX11) (T := TX11) (N := 9) hx hb hts (by decide +kernel) hown hK hP kk_57 hk_58 rfl 1 (by decide) (hts (.fieldLink RX11 15 "PageOne" "plates" "[LPageOne$Sheet;") (by decide +kernel)) (fun _ h9 => h9) rfl dX11_plate_55 ?_
            refine lv_iload_n hx hb dX11_plate_58 rfl (lv_at hl 3 rfl) ?_
            refine va_new (ci := 8) (fs := [.null, .null, .int 0, .int 0, .int 0]) (C := RX9) (T := TX9) (N := 5) hx hb hts (by decide +kernel) tyX9 tyX9_ok hown (hts (.classLink RX11 9 RX9) (by decide +kernel)) (hts (.instantiable RX9 5) (by decide +kernel)) (hts (.initialized RX9) (by decide +kernel)) hK hP hD hS hA rfl nwX9 (Nat.le_of_ble_eq_true rfl) (Nat.le_of_ble_eq_true rfl) dX11_plate_59 (fun q_59 H hPn hDn hS => ?_)
            have hP := vaP_l hPn
            refine W.widen (k := 5) (n := 17) (Nat.le_of_ble_eq_true rfl) (Nat.le_of_ble_eq_true rfl) ?_
            refine lv_dup hx hb dX11_plate_62 rfl ?_
            have hPc := vaP_r hPn
            have hDc := vaD_r hDn
            have hFc := fr_part hDn hS hA
            refine va_callv (va_runI (As := []) (rest := [.ref q_59, .int p0, .ref (d 1)]) ⟨hx, hb, hml, hown, hts⟩ (xn_Sheet l dC dI q_59 (q 0) H.size) (cwI 0 hts gX11_plate_X9_init rfl rfl rfl (hts (.initialized RX9) (by decide +kernel)) (hts (.methodLink RX11 47 yX9_init) (by decide +kernel)) (hts (.instanceMethod yX9_init) (by decide +kernel)) rfl (by decide +kernel) ⟨Nat.le_of_ble_eq_true rfl, Nat.le_of_ble_eq_true rfl⟩) ⟨gw_fb, fun U hU hW => ⟨rfl, by rw [hU], pw_to hU hW hPc (hK.sub (tys' := [(q 0, .int)]) [0] rfl) hN, hDc.weaken (fun _ _ _ _ => trivial)⟩⟩ rfl rfl hl.1 rfl (lv_room (Nat.le_of_ble_eq_true rfl)) dX11_plate_63 ⟨Nat.le_of_ble_eq_true rfl, Nat.le_of_ble_eq_true rfl⟩) hS (fun q _ h => hFc q h) hFc (fun u t H1 locs ht hvm hw hB hz1 hk1 hS => ?_)
            obtain ⟨qa_60, qa_61, hP1, hD1⟩ := hB
            rw [ht] at hP1
            obtain ⟨hP, hD⟩ := va_joinQ (X := [(q_59, .inr (8, [.null, .null, .int 0, .int 0, .int 0]))]) (cx := [(q_59, .inr (8, [.null, .null, .int 0, .int 0, .int 0]))]) (wr := []) (w1 := [(qa_60, aI (q 0) 8 (fun _ => 0)), (qa_61, aI (q 0) 480 (fun _ => (-2))), (q_59, .inr (8, [.ref qa_60, .ref qa_61, .int 100, .int (-1), .int (-1)]))]) (pl := va_pl z_40.1 f_41) (vaP_swap hPn) (vaD_rotR hDn) [0] [] rfl rfl rfl (fun i hi => absurd hi List.not_mem_nil) hk1 hFc hP1 hD1
            generalize H1 = H at hP hS ⊢
            obtain ⟨hnm_62, hP, hD⟩ := pushC hP hD
            obtain ⟨z_63, ez_63⟩ : ∃ y : gS, y = pz z_40 qa_60 (8, 0, []) := ⟨_, rfl⟩
            obtain ⟨f_64, ef_64⟩ : ∃ y : xF, y = va_up f_41 qa_60 (aI (q 0) 8 (fun _ => 0)) := ⟨_, rfl⟩
            have hE_65 : zE z_40 z_63 := by rw [ez_63]; exact pz_E hnm_62 _
            have hI : xI q h0 d k z_63 f_64 := by rw [ez_63, ef_64]; exact x_push hI hnm_62 (Or.inl (by decide : (8 : Nat) < 10)) (cO_8 (by rw [pz_s]) ⟨_, rfl, fun _ _ => b00⟩)
            rw [show z_40.1 ++ [qa_60] = z_63.1 from by rw [ez_63]; rfl, ← ef_64] at hP hD
            have ht_12 := zE_tg hE_65 ht_12
            have ht_19 := zE_tg hE_65 ht_19
            have ht_20 := zE_tg hE_65 ht_20
            have ht_39 := zE_tg hE_65 ht_39
            have ht_66 : tg z_63 qa_60 8 := by rw [ez_63]; exact pz_t _ _ _
            have hEz : zE z z_63 := zE_tr hEz hE_65
            obtain ⟨hnm_67, hP, hD⟩ := pushC hP hD
            obtain ⟨z_68, ez_68⟩ : ∃ y : gS, y = pz z_63 qa_61 (9, 0, []) := ⟨_, rfl⟩
            obtain ⟨f_69, ef_69⟩ : ∃ y : xF, y = va_up f_64 qa_61 (aI (q 0) 480 (fun _ => (-2))) := ⟨_, rfl⟩
            have hE_70 : zE z_63 z_68 := by rw [ez_68]; exact pz_E hnm_67 _
            have hI : xI q h0 d k z_68 f_69 := by rw [ez_68, ef_69]; exact x_push hI hnm_67 (Or.inl (by decide : (9 : Nat) < 10)) (cO_9 (by rw [pz_s]) ⟨_, rfl⟩)
            rw [show z_63.1 ++ [qa_61] = z_68.1 from by rw [ez_68]; rfl, ← ef_69] at hP hD
            have ht_12 := zE_tg hE_70 ht_12
            have ht_19 := zE_tg hE_70 ht_19
            have ht_20 := zE_tg hE_70 ht_20
            have ht_39 := zE_tg hE_70 ht_39
            have ht_66 := zE_tg hE_70 ht_66
            have ht_71 : tg z_68 qa_61 9 := by rw [ez_68]; exact pz_t _ _ _
            have hEz : zE z z_68 := zE_tr hEz hE_70
            obtain ⟨hnm_72, hP, hD⟩ := pushC hP hD
            obtain ⟨z_73, ez_73⟩ : ∃ y : gS, y = pz z_68 q_59 (7, 0, []) := ⟨_, rfl⟩
            obtain ⟨f_74, ef_74⟩ : ∃ y : xF, y = va_up f_69 q_59 (.inr (8, [.ref qa_60, .ref qa_61, .int 100, .int (-1), .int (-1)])) := ⟨_, rfl⟩
            have hE_75 : zE z_68 z_73 := by rw [ez_73]; exact pz_E hnm_72 _
            have hI : xI q h0 d k z_73 f_74 := by rw [ez_73, ef_74]; exact x_push hI hnm_72 (Or.inl (by decide : (7 : Nat) < 10)) (cO_7 (by rw [pz_s]) ⟨_, _, _, _, _, rfl, zE_tg (pz_E hnm_72 _) ht_66, zE_tg (pz_E hnm_72 _) ht_71⟩)
            rw [show z_68.1 ++ [q_59] = z_73.1 from by rw [ez_73]; rfl, ← ef_74] at hP hD
            have ht_12 := zE_tg hE_75 ht_12
            have ht_19 := zE_tg hE_75 ht_19
            have ht_20 := zE_tg hE_75 ht_20
            have ht_39 := zE_tg hE_75 ht_39
            have ht_66 := zE_tg hE_75 ht_66
            have ht_71 := zE_tg hE_75 ht_71
            have ht_76 : tg z_73 q_59 7 := by rw [ez_73]; exact pz_t _ _ _
            have hEz : zE z z_73 := zE_tr hEz hE_75
            refine W.widen (k := 7) (n := 505) (Nat.le_of_ble_eq_true rfl) (Nat.le_of_ble_eq_true rfl) ?_
            refine W.eq (g2 := F0 m 66 ls [.ref q_59, .int p0, .ref (d 1)]) rfl ?_
            have hP : va_P (dC, dI) vwCl (va_pl z_73.1 f_74) H := hP
            have hD : va_D A (va_pl z_73.1 f_74) := hD
            obtain ⟨g_77, hs_78, hg_79⟩ := x_pl hI hI.2.1.2.2.1
            obtain ⟨kk_80, hk_81⟩ := pl_at hI.2.1.2.2.1.1 hs_78
            obtain ⟨la_82, ca_83, m_84, dd_85, ii_86, hs_87, ht_88, ht_89⟩ := x_sh hI ht_76
            obtain ⟨kk_90, hk_91⟩ := pl_at ht_76.1 hs_87
            have hD0 := hD
            refine va_astq hx hb hK hP hD hS kk_80 2 kk_90 8 hk_81 rfl hk_91 rfl (vin b_1 (by decide)) dX11_plate_66 (fun H locs hP hD hS => ?_)
            rw [pl_set hD0 hI.2.1.2.2.1.1 hs_78 hk_81] at hP hD
            obtain ⟨f_92, ef_92⟩ : ∃ y : xF, y = va_up f_74 (d 1) (aR (q 2) 12 (va_up g_77 (p0 : Int32).toNatClampNeg (some q_59))) := ⟨_, rfl⟩
            have hI : xI q h0 d k z_73 f_92 := by rw [ef_92]; exact x_up hI hI.2.1.2.2.1 (by decide) (cO_3 hI.2.1.2.2.1.2 ⟨_, rfl, ty_up hg_79 (ty_s ht_76)⟩)
            have hP : va_P (dC, dI) vwCl (va_pl z_73.1 f_92) H := by rw [ef_92]; exact hP
            have hD : va_D A (va_pl z_73.1 f_92) := by rw [ef_92]; exact hD
            have hp_93 : f_92 (d 1) = aR (q 2) 12 (va_up g_77 (p0 : Int32).toNatClampNeg (some q_59)) := by rw [ef_92]; exact up_s
            have hp_94 : (va_up g_77 (p0 : Int32).toNatClampNeg (some q_59)) (p0 : Int32).toNatClampNeg = some q_59 := if_pos rfl
            refine lv_aload_n hx hb dX11_plate_67 rfl (lv_at hl 2 rfl) ?_
            obtain ⟨kk_95, hk_96⟩ := pl_at hI.2.1.1.1 hI.2.2.2.1.1
            refine va_get (D := (dC, dI)) (ci := 10) (v := .ref (d 1)) (C := RX11) (T := TX11) (N := 9) hx hb hts (by decide +kernel) hown hK hP kk_95 hk_96 rfl 1 (by decide) (hts (.fieldLink RX11 15 "PageOne" "plates" "[LPageOne$Sheet;") (by decide +kernel)) (fun _ h9 => h9) rfl dX11_plate_68 ?_
            refine lv_iload_n hx hb dX11_plate_71 rfl (lv_at hl 3 rfl) ?_
            obtain ⟨kk_97, hk_98⟩ := pl_at hI.2.1.2.2.1.1 hp_93
            refine va_aldq hx hb hK hP kk_97 2 hk_98 rfl (vin b_1 (by decide)) dX11_plate_72 ?_
            rw [hp_94]
            refine W.eq (g2 := F0 m 73 ls [.ref q_59]) rfl ?_
            refine lv_aload_n hx hb dX11_plate_73 rfl (lv_at hl 1 rfl) ?_
            obtain ⟨la_99, ca_100, m_101, dd_102, ii_103, hs_104, ht_105, ht_106⟩ := x_sh hI ht_76
            obtain ⟨kk_107, hk_108⟩ := pl_at ht_76.1 hs_104
            have hFc := fr_all hD hS hA
            refine va_callv (va_runV (As := [.ref b_10]) (rest := []) ⟨hx, hb, hml, hown, hts⟩ (x_copyFrom2 l dC dI q h0 d k z_73 f_92 hI q_59 b_10 ht_76 ht_12 H.size) (cwV 1 hts gX11_plate_X9_copyFrom rfl rfl rfl (by decide +kernel) ⟨Nat.le_of_ble_eq_true rfl, Nat.le_of_ble_eq_true rfl⟩) ⟨gx_fb, va_recv hK hP (ci := 8) (q0 := kk_107) rfl hk_108, fun U hU hW => ⟨rfl, by rw [hU], px_to hU hW hP hK hN hXN, hD.weaken (fun _ _ _ _ => trivial)⟩⟩ rfl rfl hl.1 rfl (lv_room (Nat.le_of_ble_eq_true rfl)) dX11_plate_74 ⟨Nat.le_of_ble_eq_true rfl, Nat.le_of_ble_eq_true rfl⟩) hS (fun q _ h => hFc q h) hFc (fun w_109 t H1 locs ht hvm hw hB hz1 hk1 hS => ?_)
            obtain ⟨hP, hD1⟩ := hB
            rw [ht] at hP
            rw [hw.2.1] at hP hD1
            have hD := hD1.weaken (fun _ q _ h => hFc q.1 h)
            have hI := hw.2.2.1
            have hw0 := hw
            generalize w_109.2.2 = f_110 at hP hD hI hw0
            generalize H1 = H at hP hS ⊢
            have hp_111 : f_110 (d 1) = aR (q 2) 12 (va_up g_77 (p0 : Int32).toNatClampNeg (some q_59)) := hw0.2.2.2.trans hp_93
            refine lv_aload_n hx hb dX11_plate_77 rfl (lv_at hl 2 rfl) ?_
            obtain ⟨kk_112, hk_113⟩ := pl_at hI.2.1.1.1 hI.2.2.2.1.1
            refine va_get (D := (dC, dI)) (ci := 10) (v := .ref (d 1)) (C := RX11) (T := TX11) (N := 9) hx hb hts (by decide +kernel) hown hK hP kk_112 hk_113 rfl 1 (by decide) (hts (.fieldLink RX11 15 "PageOne" "plates" "[LPageOne$Sheet;") (by decide +kernel)) (fun _ h9 => h9) rfl dX11_plate_78 ?_
            refine lv_iload_n hx hb dX11_plate_81 rfl (lv_at hl 3 rfl) ?_
            obtain ⟨kk_114, hk_115⟩ := pl_at hI.2.1.2.2.1.1 hp_111
            refine va_aldq hx hb hK hP kk_114 2 hk_115 rfl (vin b_1 (by decide)) dX11_plate_82 ?_
            rw [hp_94]
            refine W.eq (g2 := F0 m 83 ls [.ref q_59]) rfl ?_
            refine lv_aload_n hx hb dX11_plate_83 rfl (lv_at hl 2 rfl) ?_
            obtain ⟨kk_116, hk_117⟩ := pl_at hI.2.1.1.1 hI.2.2.2.1.1
            refine va_get (D := (dC, dI)) (ci := 10) (v := .int (k 2)) (C := RX11) (T := TX11) (N := 9) hx hb hts (by decide +kernel) hown hK hP kk_116 hk_117 rfl 7 (by decide) (hts (.fieldLink RX11 41 "PageOne" "today" "I") (by decide +kernel)) (fun _ h9 => h9) rfl dX11_plate_84 ?_
            refine lv_topi (fun x_118 ex_118 => ?_)
            obtain ⟨la_119, ca_120, m_121, dd_122, ii_123, hs_124, ht_125, ht_126⟩ := x_sh hI ht_76
            obtain ⟨kk_127, hk_128⟩ := pl_at ht_76.1 hs_124
            have hD0 := hD
            refine va_put (D := (dC, dI)) (ci := 8) (v := .int x_118) (ty := .int) (C := RX9) (T := TX9) (N := 5) hx hb hts (by decide +kernel) tyX9 tyX9_ok nmX9 hown hK hP hD hS kk_127 hk_128 rfl 3 (by decide) (hts (.fieldLink RX11 210 "PageOne$Sheet" "day" "I") (by decide +kernel)) (fun _ h9 => h9) rfl (by decide +kernel) rfl rfl (Nat.le_of_ble_eq_true rfl) dX11_plate_87 (fun H locs hP hD hS => ?_)
            rw [pl_set hD0 ht_76.1 hs_124 hk_128] at hP hD
            obtain ⟨f_129, ef_129⟩ : ∃ y : xF, y = va_up f_110 q_59 (.inr (8, [.ref la_119, .ref ca_120, .int m_121, .int x_118, .int ii_123])) := ⟨_, rfl⟩
            have hI : xI q h0 d k z_73 f_129 := by rw [ef_129]; exact x_up hI ht_76 (by decide) (cO_7 ht_76.2 ⟨_, _, _, _, _, rfl, ht_125, ht_126⟩)
            have hP : va_P (dC, dI) vwCl (va_pl z_73.1 f_129) H := by rw [ef_129]; exact hP
            have hD : va_D A (va_pl z_73.1 f_129) := by rw [ef_129]; exact hD
            have hp_130 : f_129 (d 1) = aR (q 2) 12 (va_up g_77 (p0 : Int32).toNatClampNeg (some q_59)) := by rw [ef_129, up_o (tg_ne hI.2.1.2.2.1 ht_76 (by decide))]; exact hp_111
            refine lv_aload_n hx hb dX11_plate_90 rfl (lv_at hl 2 rfl) ?_
            obtain ⟨kk_131, hk_132⟩ := pl_at hI.2.1.1.1 hI.2.2.2.1.1
            refine va_get (D := (dC, dI)) (ci := 10) (v := .ref (d 1)) (C := RX11) (T := TX11) (N := 9) hx hb hts (by decide +kernel) hown hK hP kk_131 hk_132 rfl 1 (by decide) (hts (.fieldLink RX11 15 "PageOne" "plates" "[LPageOne$Sheet;") (by decide +kernel)) (fun _ h9 => h9) rfl dX11_plate_91 ?_
            refine lv_iload_n hx hb dX11_plate_94 rfl (lv_at hl 3 rfl) ?_
            obtain ⟨kk_133, hk_134⟩ := pl_at hI.2.1.2.2.1.1 hp_130
            refine va_aldq hx hb hK hP kk_133 2 hk_134 rfl (vin b_1 (by decide)) dX11_plate_95 ?_
            rw [hp_94]
            refine W.eq (g2 := F0 m 96 ls [.ref q_59]) rfl ?_
            refine lv_aload_n hx hb dX11_plate_96 rfl (lv_at hl 2 rfl) ?_
            obtain ⟨kk_135, hk_136⟩ := pl_at hI.2.1.1.1 hI.2.2.2.1.1
            refine va_get (D := (dC, dI)) (ci := 10) (v := .int (k 3)) (C := RX11) (T := TX11) (N := 9) hx hb hts (by decide +kernel) hown hK hP kk_135 hk_136 rfl 8 (by decide) (hts (.fieldLink RX11 44 "PageOne" "editionNow" "I") (by decide +kernel)) (fun _ h9 => h9) rfl dX11_plate_97 ?_
            refine lv_topi (fun x_137 ex_137 => ?_)
            obtain ⟨la_138, ca_139, m_140, dd_141, ii_142, hs_143, ht_144, ht_145⟩ := x_sh hI ht_76
            obtain ⟨kk_146, hk_147⟩ := pl_at ht_76.1 hs_143
            have hD0 := hD
            refine va_put (D := (dC, dI)) (ci := 8) (v := .int x_137) (ty := .int) (C := RX9) (T := TX9) (N := 5) hx hb hts (by decide +kernel) tyX9 tyX9_ok nmX9 hown hK hP hD hS kk_146 hk_147 rfl 4 (by decide) (hts (.fieldLink RX11 213 "PageOne$Sheet" "edition" "I") (by decide +kernel)) (fun _ h9 => h9) rfl (by decide +kernel) rfl rfl (Nat.le_of_ble_eq_true rfl) dX11_plate_100 (fun H locs hP hD hS => ?_)
            rw [pl_set hD0 ht_76.1 hs_143 hk_147] at hP hD
            obtain ⟨f_148, ef_148⟩ : ∃ y : xF, y = va_up f_129 q_59 (.inr (8, [.ref la_138, .ref ca_139, .int m_140, .int dd_141, .int x_137])) := ⟨_, rfl⟩
            have hI : xI q h0 d k z_73 f_148 := by rw [ef_148]; exact x_up hI ht_76 (by decide) (cO_7 ht_76.2 ⟨_, _, _, _, _, rfl, ht_144, ht_145⟩)
            have hP : va_P (dC, dI) vwCl (va_pl z_73.1 f_148) H := by rw [ef_148]; exact hP
            have hD : va_D A (va_pl z_73.1 f_148) := by rw [ef_148]; exact hD
            have hp_149 : f_148 (d 1) = aR (q 2) 12 (va_up g_77 (p0 : Int32).toNatClampNeg (some q_59)) := by rw [ef_148, up_o (tg_ne hI.2.1.2.2.1 ht_76 (by decide))]; exact hp_130
            refine lv_iload_n hx hb dX11_plate_103 rfl (lv_at hl 0 rfl) ?_
            exact W.iret (v := zr_23) hx hb hr (fun t ht hW => ⟨⟨zr_23, (k, z_73, f_148), rfl, ⟨rfl, hEz, hI⟩, by rw [ht]; exact hP, hD⟩, hS.F ht⟩) hS.2.2 dX11_plate_104
          ·
            have ht_56 := hg_51 (p0 : Int32).toNatClampNeg (vlt (vin b_1 (by decide))) b_54 hg_55
            refine W.eq (g2 := F0 m 51 ls [.ref b_54]) rfl ?_
            refine lv_ifnonnull (tgt := 67) hx hb dX11_plate_51 (by decide) ?_
            refine lv_aload_n hx hb dX11_plate_67 rfl (lv_at hl 2 rfl) ?_
            obtain ⟨kk_150, hk_151⟩ := pl_at hI.2.1.1.1 hI.2.2.2.1.1
            refine va_get (D := (dC, dI)) (ci := 10) (v := .ref (d 1)) (C := RX11) (T := TX11) (N := 9) hx hb hts (by decide +kernel) hown hK hP kk_150 hk_151 rfl 1 (by decide) (hts (.fieldLink RX11 15 "PageOne" "plates" "[LPageOne$Sheet;") (by decide +kernel)) (fun _ h9 => h9) rfl dX11_plate_68 ?_
            refine lv_iload_n hx hb dX11_plate_71 rfl (lv_at hl 3 rfl) ?_
            obtain ⟨kk_152, hk_153⟩ := pl_at hI.2.1.2.2.1.1 hs_50
            refine va_aldq hx hb hK hP kk_152 2 hk_153 rfl (vin b_1 (by decide)) dX11_plate_72 ?_
            rw [hg_55]
            refine W.eq (g2 := F0 m 73 ls [.ref b_54]) rfl ?_
            refine lv_aload_n hx hb dX11_plate_73 rfl (lv_at hl 1 rfl) ?_
            obtain ⟨la_154, ca_155, m_156, dd_157, ii_158, hs_159, ht_160, ht_161⟩ := x_sh hI ht_56
            obtain ⟨kk_162, hk_163⟩ := pl_at ht_56.1 hs_159
            have hFc := fr_all hD hS hA
            refine va_callv (va_runV (As := [.ref b_10]) (rest := []) ⟨hx, hb, hml, hown, hts⟩ (x_copyFrom2 l dC dI q h0 d k z_40 f_41 hI b_54 b_10 ht_56 ht_12 H.size) (cwV 1 hts gX11_plate_X9_copyFrom rfl rfl rfl (by decide +kernel) ⟨Nat.le_of_ble_eq_true rfl, Nat.le_of_ble_eq_true rfl⟩) ⟨gx_fb, va_recv hK hP (ci := 8) (q0 := kk_162) rfl hk_163, fun U hU hW => ⟨rfl, by rw [hU], px_to hU hW hP hK hN hXN, hD.weaken (fun _ _ _ _ => trivial)⟩⟩ rfl rfl hl.1 rfl (lv_room (Nat.le_of_ble_eq_true rfl)) dX11_plate_74 ⟨Nat.le_of_ble_eq_true rfl, Nat.le_of_ble_eq_true rfl⟩) hS (fun q _ h => hFc q h) hFc (fun w_164 t H1 locs ht hvm hw hB hz1 hk1 hS => ?_)
            obtain ⟨hP, hD1⟩ := hB
            rw [ht] at hP
            rw [hw.2.1] at hP hD1
            have hD := hD1.weaken (fun _ q _ h => hFc q.1 h)
            have hI := hw.2.2.1
            have hw0 := hw
            generalize w_164.2.2 = f_165 at hP hD hI hw0
            generalize H1 = H at hP hS ⊢
            have hp_166 : f_165 (d 1) = aR (q 2) 12 g_49 := hw0.2.2.2.trans hs_50
            refine lv_aload_n hx hb dX11_plate_77 rfl (lv_at hl 2 rfl) ?_
            obtain ⟨kk_167, hk_168⟩ := pl_at hI.2.1.1.1 hI.2.2.2.1.1
            refine va_get (D := (dC, dI)) (ci := 10) (v := .ref (d 1)) (C := RX11) (T := TX11) (N := 9) hx hb hts (by decide +kernel) hown hK hP kk_167 hk_168 rfl 1 (by decide) (hts (.fieldLink RX11 15 "PageOne" "plates" "[LPageOne$Sheet;") (by decide +kernel)) (fun _ h9 => h9) rfl dX11_plate_78 ?_
            refine lv_iload_n hx hb dX11_plate_81 rfl (lv_at hl 3 rfl) ?_
            obtain ⟨kk_169, hk_170⟩ := pl_at hI.2.1.2.2.1.1 hp_166
            refine va_aldq hx hb hK hP kk_169 2 hk_170 rfl (vin b_1 (by decide)) dX11_plate_82 ?_
            rw [hg_55]
            refine W.eq (g2 := F0 m 83 ls [.ref b_54]) rfl ?_
            refine lv_aload_n hx hb dX11_plate_83 rfl (lv_at hl 2 rfl) ?_
            obtain ⟨kk_171, hk_172⟩ := pl_at hI.2.1.1.1 hI.2.2.2.1.1
            refine va_get (D := (dC, dI)) (ci := 10) (v := .int (k 2)) (C := RX11) (T := TX11) (N := 9) hx hb hts (by decide +kernel) hown hK hP kk_171 hk_172 rfl 7 (by decide) (hts (.fieldLink RX11 41 "PageOne" "today" "I") (by decide +kernel)) (fun _ h9 => h9) rfl dX11_plate_84 ?_
            refine lv_topi (fun x_173 ex_173 => ?_)
            obtain ⟨la_174, ca_175, m_176, dd_177, ii_178, hs_179, ht_180, ht_181⟩ := x_sh hI ht_56
            obtain ⟨kk_182, hk_183⟩ := pl_at ht_56.1 hs_179
            have hD0 := hD
            refine va_put (D := (dC, dI)) (ci := 8) (v := .int x_173) (ty := .int) (C := RX9) (T := TX9) (N := 5) hx hb hts (by decide +kernel) tyX9 tyX9_ok nmX9 hown hK hP hD hS kk_182 hk_183 rfl 3 (by decide) (hts (.fieldLink RX11 210 "PageOne$Sheet" "day" "I") (by decide +kernel)) (fun _ h9 => h9) rfl (by decide +kernel) rfl rfl (Nat.le_of_ble_eq_true rfl) dX11_plate_87 (fun H locs hP hD hS => ?_)
            rw [pl_set hD0 ht_56.1 hs_179 hk_183] at hP hD
            obtain ⟨f_184, ef_184⟩ : ∃ y : xF, y = va_up f_165 b_54 (.inr (8, [.ref la_174, .ref ca_175, .int m_176, .int x_173, .int ii_178])) := ⟨_, rfl⟩
            have hI : xI q h0 d k z_40 f_184 := by rw [ef_184]; exact x_up hI ht_56 (by decide) (cO_7 ht_56.2 ⟨_, _, _, _, _, rfl, ht_180, ht_181⟩)
            have hP : va_P (dC, dI) vwCl (va_pl z_40.1 f_184) H := by rw [ef_184]; exact hP
            have hD : va_D A (va_pl z_40.1 f_184) := by rw [ef_184]; exact hD
            have hp_185 : f_184 (d 1) = aR (q 2) 12 g_49 := by rw [ef_184, up_o (tg_ne hI.2.1.2.2.1 ht_56 (by decide))]; exact hp_166
            refine lv_aload_n hx hb dX11_plate_90 rfl (lv_at hl 2 rfl) ?_
            obtain ⟨kk_186, hk_187⟩ := pl_at hI.2.1.1.1 hI.2.2.2.1.1
            refine va_get (D := (dC, dI)) (ci := 10) (v := .ref (d 1)) (C := RX11) (T := TX11) (N := 9) hx hb hts (by decide +kernel) hown hK hP kk_186 hk_187 rfl 1 (by decide) (hts (.fieldLink RX11 15 "PageOne" "plates" "[LPageOne$Sheet;") (by decide +kernel)) (fun _ h9 => h9) rfl dX11_plate_91 ?_
            refine lv_iload_n hx hb dX11_plate_94 rfl (lv_at hl 3 rfl) ?_
            obtain ⟨kk_188, hk_189⟩ := pl_at hI.2.1.2.2.1.1 hp_185
            refine va_aldq hx hb hK hP kk_188 2 hk_189 rfl (vin b_1 (by decide)) dX11_plate_95 ?_
            rw [hg_55]
            refine W.eq (g2 := F0 m 96 ls [.ref b_54]) rfl ?_
            refine lv_aload_n hx hb dX11_plate_96 rfl (lv_at hl 2 rfl) ?_
            obtain ⟨kk_190, hk_191⟩ := pl_at hI.2.1.1.1 hI.2.2.2.1.1
            refine va_get (D := (dC, dI)) (ci := 10) (v := .int (k 3)) (C := RX11) (T := TX11) (N := 9) hx hb hts (by decide +kernel) hown hK hP kk_190 hk_191 rfl 8 (by decide) (hts (.fieldLink RX11 44 "PageOne" "editionNow" "I") (by decide +kernel)) (fun _ h9 => h9) rfl dX11_plate_97 ?_
            refine lv_topi (fun x_192 ex_192 => ?_)
            obtain ⟨la_193, ca_194, m_195, dd_196, ii_197, hs_198, ht_199, ht_200⟩ := x_sh hI ht_56
            obtain ⟨kk_201, hk_202⟩ := pl_at ht_56.1 hs_198
            have hD0 := hD
            refine va_put (D := (dC, dI)) (ci := 8) (v := .int x_192) (ty := .int) (C := RX9) (T := TX9) (N := 5) hx hb hts (by decide +kernel) tyX9 tyX9_ok nmX9 hown hK hP hD hS kk_201 hk_202 rfl 4 (by decide) (hts (.fieldLink RX11 213 "PageOne$Sheet" "edition" "I") (by decide +kernel)) (fun _ h9 => h9) rfl (by decide +kernel) rfl rfl (Nat.le_of_ble_eq_true rfl) dX11_plate_100 (fun H locs hP hD hS => ?_)
            rw [pl_set hD0 ht_56.1 hs_198 hk_202] at hP hD
            obtain ⟨f_203, ef_203⟩ : ∃ y : xF, y = va_up f_184 b_54 (.inr (8, [.ref la_193, .ref ca_194, .int m_195, .int dd_196, .int x_192])) := ⟨_, rfl⟩
            have hI : xI q h0 d k z_40 f_203 := by rw [ef_203]; exact x_up hI ht_56 (by decide) (cO_7 ht_56.2 ⟨_, _, _, _, _, rfl, ht_199, ht_200⟩)
            have hP : va_P (dC, dI) vwCl (va_pl z_40.1 f_203) H := by rw [ef_203]; exact hP
            have hD : va_D A (va_pl z_40.1 f_203) := by rw [ef_203]; exact hD
            have hp_204 : f_203 (d 1) = aR (q 2) 12 g_49 := by rw [ef_203, up_o (tg_ne hI.2.1.2.2.1 ht_56 (by decide))]; exact hp_185
            refine lv_iload_n hx hb dX11_plate_103 rfl (lv_at hl 0 rfl) ?_
            refine W.widen (k := 7) (n := 505) (Nat.le_of_ble_eq_true rfl) (Nat.le_of_ble_eq_true rfl) ?_
            exact W.iret (v := zr_23) hx hb hr (fun t ht hW => ⟨⟨zr_23, (k, z_40, f_203), rfl, ⟨rfl, hEz, hI⟩, by rw [ht]; exact hP, hD⟩, hS.F ht⟩) hS.2.2 dX11_plate_104
        ·
          refine lv_iconst (v := (-1)) hx hb dX11_plate_43 (by decide) ?_
          refine W.widen (k := 7) (n := 505) (Nat.le_of_ble_eq_true rfl) (Nat.le_of_ble_eq_true rfl) ?_
          exact W.iret (v := (-1)) hx hb hr (fun t ht hW => ⟨⟨(-1), (k, z_40, f_41), rfl, ⟨rfl, hEz, hI⟩, by rw [ht]; exact hP, hD⟩, hS.F ht⟩) hS.2.2 dX11_plate_44
  ·
    obtain rfl : r = 0 := b_f hw b_1
    refine lv_if_ne (tgt := 9) hx hb dX11_plate_4 (by decide) (fun c_205 => absurd (by decide) c_205) (fun c_205 => ?_)
    refine lv_iconst (v := (-1)) hx hb dX11_plate_7 (by decide) ?_
    refine W.widen (k := 7) (n := 505) (Nat.le_of_ble_eq_true rfl) (Nat.le_of_ble_eq_true rfl) ?_
    exact W.iret (v := (-1)) hx hb hr (fun t ht hW => ⟨⟨(-1), (k, z, f), rfl, ⟨rfl, zE_rf z, hI⟩, by rw [ht]; exact hP, hD⟩, hS.F ht⟩) hS.2.2 dX11_plate_8
