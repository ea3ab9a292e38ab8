theorem vltn {co hi : Int32} {n : Nat} (h : bw co 0 hi = true) (h2 : co < hi) (hn : hi.toInt = (n : Int)) (hh : n < 1000) : vp_in co n ∧ bw (co + 1) 0 hi = true := by
  have h1 := bw_iff.mp h
  rw [i0] at h1
  rw [i32_lt] at h2
  refine ⟨by rw [vp_in_iff]; omega, ?_⟩
  rw [bw_iff, i0, addI (by rw [i1]; omega) (by rw [i1]; omega), i1]; omega
set_option maxHeartbeats 4000000 in
set_option maxRecDepth 100000 in
theorem x_takeIn (l : Launch) (dC : Nat → ClassId) (dI : Nat → Nat → Nat) (q : Nat → ClassId) (h0 : Nat) (d : Nat → Nat) (k : Nat → Int32) (z : gS) (f : xF) (hI : xI q h0 d k z f) (a0 : Nat) (p0 : Int32) (ha0 : tg z a0 15) (sz : Nat) : Met l yX10_takeIn wsX10_takeIn ({ frames := 0, cells := 0, slots := 0, locals := 0 }) (va_Pc [.ref a0, .int p0] (fun U => U.heap.size = sz ∧ PX dC dI (va_pl z.1 f) (xT q) U ∧ va_D (fun _ => True) (va_pl z.1 f))) (va_Qi (fun (r : Int32) (w : xU) => w.1 = k ∧ w.2.1 = z ∧ xI q h0 d k z w.2.2) (fun (w : xU) t => va_P (dC, dI) vwCl (va_pl w.2.1.1 w.2.2) t.heap ∧ va_D (va_A (va_pl z.1 f) sz) (va_pl w.2.1.1 w.2.2)) (va_A (va_pl z.1 f) sz)) 0 0 (va_A (va_pl z.1 f) sz) := by
  refine Met.ofW (cc := cX10_takeIn) (maxL := 2) (ret := (some .int)) (by decide) rfl ?_
  intro p e s m args below meth c s₁ B hml hv
  obtain ⟨rfl, hsz, ⟨⟨hP, hK, hN⟩, hXN⟩, hD0⟩ := hv
  have hx := B.exec
  have hb := B.bytes
  have hr := B.returns
  have hts := atoms_spec (ws := wsX10_takeIn) B.pre
  have hown : s.vm.findClass RX10 = some m.cls := findClass_of_methodNamed B.named
  have hlocks := B.notSynchronized
  subst hsz
  have hD := hD0.self (sz := s.heap.size)
  generalize hAe : va_A (va_pl z.1 f) s.heap.size = A at hD ⊢
  have hA : ∀ q : Nat, s.heap.size ≤ q → A q := fun q h => by rw [← hAe]; exact Or.inr h
  have hS : va_S A s.heap s.heap [] := va_S.rf
  have hl := lv_entry ([.ref a0, .int p0]) (n := 2) (Nat.le_of_ble_eq_true rfl)
  rw [lg_entry_eq]
  generalize (lg_sl ([.ref a0, .int p0]) ++ List.replicate (2 - (lg_sl ([.ref a0, .int p0])).length) Slot.unset).toArray = ls at hl ⊢
  have hl : lv_has ls 2 [(0, .ref a0), (1, .int p0)] := hl
  refine lv_aload_n hx hb dX10_takeIn_0 rfl (lv_at hl 0 rfl) ?_
  obtain ⟨nu_1, kd_2, cn_3, pa_4, fa_5, l_6, co_7, wd_8, nm_9, hs_10, hs_11, hs_12, hs_13, hq_14, hq_15, hq_16⟩ := x_ist hI ha0
  obtain ⟨kk_17, hk_18⟩ := pl_at ha0.1 hs_10
  refine va_get (D := (dC, dI)) (ci := 9) (v := .int co_7) (C := RX10) (T := TX10) (N := 9) hx hb hts (by decide +kernel) hown hK hP kk_17 hk_18 rfl 7 (by decide) (hts (.fieldLink RX10 15 "PageOne$Story" "come" "I") (by decide +kernel)) (fun _ h9 => h9) rfl dX10_takeIn_1 ?_
  refine lv_bipush (v := 80) hx hb dX10_takeIn_4 (by decide) ?_
  refine lv_icmp_lt (tgt := 11) hx hb dX10_takeIn_6 (by decide) (fun c_19 => ?_) (fun c_19 => ?_)
  ·
    refine lv_aload_n hx hb dX10_takeIn_11 rfl (lv_at hl 0 rfl) ?_
    obtain ⟨kk_20, hk_21⟩ := pl_at ha0.1 hs_10
    refine va_get (D := (dC, dI)) (ci := 9) (v := .ref wd_8) (C := RX10) (T := TX10) (N := 9) hx hb hts (by decide +kernel) hown hK hP kk_20 hk_21 rfl 6 (by decide) (hts (.fieldLink RX10 9 "PageOne$Story" "widths" "[I") (by decide +kernel)) (fun _ h9 => h9) rfl dX10_takeIn_12 ?_
    refine lv_aload_n hx hb dX10_takeIn_15 rfl (lv_at hl 0 rfl) ?_
    obtain ⟨kk_22, hk_23⟩ := pl_at ha0.1 hs_10
    refine va_get (D := (dC, dI)) (ci := 9) (v := .int co_7) (C := RX10) (T := TX10) (N := 9) hx hb hts (by decide +kernel) hown hK hP kk_22 hk_23 rfl 7 (by decide) (hts (.fieldLink RX10 15 "PageOne$Story" "come" "I") (by decide +kernel)) (fun _ h9 => h9) rfl dX10_takeIn_16 ?_
    refine lv_iload_n hx hb dX10_takeIn_19 rfl (lv_at hl 1 rfl) ?_
    obtain ⟨g_24, hs_25⟩ := x_18 hI hq_14
    obtain ⟨kk_26, hk_27⟩ := pl_at hq_14.1 hs_25
    have hD0 := hD
    refine va_iast hx hb hK hP hD hS kk_26 0 hk_27 rfl (vltn (n := 80) hq_15 c_19 rfl (by decide)).1 dX10_takeIn_20 (fun H locs hP hD hS => ?_)
    rw [pl_set hD0 hq_14.1 hs_25 hk_27] at hP hD
    obtain ⟨f_28, ef_28⟩ : ∃ y : xF, y = va_up f wd_8 (aI (q 0) 80 (upd g_24 (co_7 : Int32).toNatClampNeg p0)) := ⟨_, rfl⟩
    have hI : xI q h0 d k z f_28 := by rw [ef_28]; exact x_up hI hq_14 (by decide) (cO_18 hq_14.2 ⟨_, rfl⟩)
    have hP : va_P (dC, dI) vwCl (va_pl z.1 f_28) H := by rw [ef_28]; exact hP
    have hD : va_D A (va_pl z.1 f_28) := by rw [ef_28]; exact hD
    have hs_29 : f_28 a0 = .inr (9, [.int nu_1, .int kd_2, .ref pa_4, .int cn_3, .ref fa_5, .int l_6, .ref wd_8, .int co_7, .ref nm_9]) := by rw [ef_28, up_o (tg_ne ha0 hq_14 (by decide))]; exact hs_10
    refine lv_aload_n hx hb dX10_takeIn_21 rfl (lv_at hl 0 rfl) ?_
    refine lv_dup hx hb dX10_takeIn_22 rfl ?_
    obtain ⟨kk_30, hk_31⟩ := pl_at ha0.1 hs_29
    refine va_get (D := (dC, dI)) (ci := 9) (v := .int co_7) (C := RX10) (T := TX10) (N := 9) hx hb hts (by decide +kernel) hown hK hP kk_30 hk_31 rfl 7 (by decide) (hts (.fieldLink RX10 15 "PageOne$Story" "come" "I") (by decide +kernel)) (fun _ h9 => h9) rfl dX10_takeIn_23 ?_
    refine lv_iconst (v := 1) hx hb dX10_takeIn_26 (by decide) ?_
    refine lv_iadd hx hb dX10_takeIn_27 ?_
    refine lv_topi (fun x_32 ex_32 => ?_)
    obtain ⟨kk_33, hk_34⟩ := pl_at ha0.1 hs_29
    have hD0 := hD
    refine va_put (D := (dC, dI)) (ci := 9) (v := .int x_32) (ty := .int) (C := RX10) (T := TX10) (N := 9) hx hb hts (by decide +kernel) tyX10 tyX10_ok nmX10 hown hK hP hD hS kk_33 hk_34 rfl 7 (by decide) (hts (.fieldLink RX10 15 "PageOne$Story" "come" "I") (by decide +kernel)) (fun _ h9 => h9) rfl (by decide +kernel) rfl rfl (Nat.le_of_ble_eq_true rfl) dX10_takeIn_28 (fun H locs hP hD hS => ?_)
    rw [pl_set hD0 ha0.1 hs_29 hk_34] at hP hD
    obtain ⟨f_35, ef_35⟩ : ∃ y : xF, y = va_up f_28 a0 (.inr (9, [.int nu_1, .int kd_2, .ref pa_4, .int cn_3, .ref fa_5, .int l_6, .ref wd_8, .int x_32, .ref nm_9])) := ⟨_, rfl⟩
    have hI : xI q h0 d k z f_35 := by rw [ef_35]; exact x_upStory hI ha0 hs_29 hq_14 hq_16 (by rw [ex_32]; exact (vltn (n := 80) hq_15 c_19 rfl (by decide)).2)
    have hP : va_P (dC, dI) vwCl (va_pl z.1 f_35) H := by rw [ef_35]; exact hP
    have hD : va_D A (va_pl z.1 f_35) := by rw [ef_35]; exact hD
    refine lv_aload_n hx hb dX10_takeIn_31 rfl (lv_at hl 0 rfl) ?_
    obtain ⟨nu_36, kd_37, cn_38, pa_39, fa_40, l_41, co_42, wd_43, nm_44, hs_45, hs_46, hs_47, hs_48, hq_49, hq_50, hq_51⟩ := x_ist hI ha0
    obtain ⟨kk_52, hk_53⟩ := pl_at ha0.1 hs_45
    refine va_get (D := (dC, dI)) (ci := 9) (v := .int co_42) (C := RX10) (T := TX10) (N := 9) hx hb hts (by decide +kernel) hown hK hP kk_52 hk_53 rfl 7 (by decide) (hts (.fieldLink RX10 15 "PageOne$Story" "come" "I") (by decide +kernel)) (fun _ h9 => h9) rfl dX10_takeIn_32 ?_
    exact W.iret (v := co_42) hx hb hr (fun t ht hW => ⟨⟨co_42, (k, z, f_35), rfl, ⟨rfl, rfl, hI⟩, by rw [ht]; exact hP, hD⟩, hS.F ht⟩) hS.2.2 dX10_takeIn_35
  ·
    refine lv_iconst (v := (-1)) hx hb dX10_takeIn_9 (by decide) ?_
    exact W.iret (v := (-1)) hx hb hr (fun t ht hW => ⟨⟨(-1), (k, z, f), rfl, ⟨rfl, rfl, hI⟩, by rw [ht]; exact hP, hD⟩, hS.F ht⟩) hS.2.2 dX10_takeIn_10
set_option maxHeartbeats 4000000 in
set_option maxRecDepth 100000 in
theorem x_takeSize (l : Launch) (dC : Nat → ClassId) (dI : Nat → Nat → Nat) (q : Nat → ClassId) (h0 : Nat) (d : Nat → Nat) (k : Nat → Int32) (z : gS) (f : xF) (hI : xI q h0 d k z f) (a0 : Nat) (p0 p1 : Int32) (ha0 : tg z a0 14) (sz : Nat) : Met l yX7_takeSize wsX7_takeSize ({ frames := 0, cells := 0, slots := 0, locals := 0 }) (va_Pc [.ref a0, .int p0, .int p1] (fun U => U.heap.size = sz ∧ PX dC dI (va_pl z.1 f) (xT q) U ∧ va_D (fun _ => True) (va_pl z.1 f))) (va_Qi (fun (r : Int32) (w : xU) => w.1 = k ∧ w.2.1 = z ∧ xI q h0 d k z w.2.2) (fun (w : xU) t => va_P (dC, dI) vwCl (va_pl w.2.1.1 w.2.2) t.heap ∧ va_D (va_A (va_pl z.1 f) sz) (va_pl w.2.1.1 w.2.2)) (va_A (va_pl z.1 f) sz)) 0 0 (va_A (va_pl z.1 f) sz) := by
  refine Met.ofW (cc := cX7_takeSize) (maxL := 3) (ret := (some .int)) (by decide) rfl ?_
  intro p e s m args below meth c s₁ B hml hv
  obtain ⟨rfl, hsz, ⟨⟨hP, hK, hN⟩, hXN⟩, hD0⟩ := hv
  have hx := B.exec
  have hb := B.bytes
  have hr := B.returns
  have hts := atoms_spec (ws := wsX7_takeSize) B.pre
  have hown : s.vm.findClass RX7 = some m.cls := findClass_of_methodNamed B.named
  have hlocks := B.notSynchronized
  subst hsz
  have hD := hD0.self (sz := s.heap.size)
  generalize hAe : va_A (va_pl z.1 f) s.heap.size = A at hD ⊢
  have hA : ∀ q : Nat, s.heap.size ≤ q → A q := fun q h => by rw [← hAe]; exact Or.inr h
  have hS : va_S A s.heap s.heap [] := va_S.rf
  have hl := lv_entry ([.ref a0, .int p0, .int p1]) (n := 3) (Nat.le_of_ble_eq_true rfl)
  rw [lg_entry_eq]
  generalize (lg_sl ([.ref a0, .int p0, .int p1]) ++ List.replicate (3 - (lg_sl ([.ref a0, .int p0, .int p1])).length) Slot.unset).toArray = ls at hl ⊢
  have hl : lv_has ls 3 [(0, .ref a0), (1, .int p0), (2, .int p1)] := hl
  refine lv_aload_n hx hb dX7_takeSize_0 rfl (lv_at hl 0 rfl) ?_
  obtain ⟨nu_1, kd_2, cn_3, pa_4, fa_5, ww_6, hh_7, sz_8, hs_9, hs_10, hs_11, hs_12, hq_13, hq_14, hq_15⟩ := x_ipi hI ha0
  obtain ⟨kk_16, hk_17⟩ := pl_at ha0.1 hs_9
  refine va_get (D := (dC, dI)) (ci := 6) (v := .int sz_8) (C := RX7) (T := TX7) (N := 8) hx hb hts (by decide +kernel) hown hK hP kk_16 hk_17 rfl 7 (by decide) (hts (.fieldLink RX7 18 "PageOne$Picture" "sizes" "I") (by decide +kernel)) (fun _ h9 => h9) rfl dX7_takeSize_1 ?_
  refine lv_iconst (v := 4) hx hb dX7_takeSize_4 (by decide) ?_
  refine lv_icmp_lt (tgt := 10) hx hb dX7_takeSize_5 (by decide) (fun c_18 => ?_) (fun c_18 => ?_)
  ·
    refine lv_aload_n hx hb dX7_takeSize_10 rfl (lv_at hl 0 rfl) ?_
    obtain ⟨kk_19, hk_20⟩ := pl_at ha0.1 hs_9
    refine va_get (D := (dC, dI)) (ci := 6) (v := .ref ww_6) (C := RX7) (T := TX7) (N := 8) hx hb hts (by decide +kernel) hown hK hP kk_19 hk_20 rfl 5 (by decide) (hts (.fieldLink RX7 9 "PageOne$Picture" "widths" "[I") (by decide +kernel)) (fun _ h9 => h9) rfl dX7_takeSize_11 ?_
    refine lv_aload_n hx hb dX7_takeSize_14 rfl (lv_at hl 0 rfl) ?_
    obtain ⟨kk_21, hk_22⟩ := pl_at ha0.1 hs_9
    refine va_get (D := (dC, dI)) (ci := 6) (v := .int sz_8) (C := RX7) (T := TX7) (N := 8) hx hb hts (by decide +kernel) hown hK hP kk_21 hk_22 rfl 7 (by decide) (hts (.fieldLink RX7 18 "PageOne$Picture" "sizes" "I") (by decide +kernel)) (fun _ h9 => h9) rfl dX7_takeSize_15 ?_
    refine lv_iload_n hx hb dX7_takeSize_18 rfl (lv_at hl 1 rfl) ?_
    obtain ⟨g_23, hs_24⟩ := x_20 hI hq_13
    obtain ⟨kk_25, hk_26⟩ := pl_at hq_13.1 hs_24
    have hD0 := hD
    refine va_iast hx hb hK hP hD hS kk_25 0 hk_26 rfl (vltn (n := 4) hq_15 c_18 rfl (by decide)).1 dX7_takeSize_19 (fun H locs hP hD hS => ?_)
    rw [pl_set hD0 hq_13.1 hs_24 hk_26] at hP hD
    obtain ⟨f_27, ef_27⟩ : ∃ y : xF, y = va_up f ww_6 (aI (q 0) 4 (upd g_23 (sz_8 : Int32).toNatClampNeg p0)) := ⟨_, rfl⟩
    have hI : xI q h0 d k z f_27 := by rw [ef_27]; exact x_up hI hq_13 (by decide) (cO_20 hq_13.2 ⟨_, rfl⟩)
    have hP : va_P (dC, dI) vwCl (va_pl z.1 f_27) H := by rw [ef_27]; exact hP
    have hD : va_D A (va_pl z.1 f_27) := by rw [ef_27]; exact hD
    have hs_28 : f_27 a0 = .inr (6, [.int nu_1, .int kd_2, .ref pa_4, .int cn_3, .ref fa_5, .ref ww_6, .ref hh_7, .int sz_8]) := by rw [ef_27, up_o (tg_ne ha0 hq_13 (by decide))]; exact hs_9
    refine lv_aload_n hx hb dX7_takeSize_20 rfl (lv_at hl 0 rfl) ?_
    obtain ⟨kk_29, hk_30⟩ := pl_at ha0.1 hs_28
    refine va_get (D := (dC, dI)) (ci := 6) (v := .ref hh_7) (C := RX7) (T := TX7) (N := 8) hx hb hts (by decide +kernel) hown hK hP kk_29 hk_30 rfl 6 (by decide) (hts (.fieldLink RX7 15 "PageOne$Picture" "heights" "[I") (by decide +kernel)) (fun _ h9 => h9) rfl dX7_takeSize_21 ?_
    refine lv_aload_n hx hb dX7_takeSize_24 rfl (lv_at hl 0 rfl) ?_
    obtain ⟨kk_31, hk_32⟩ := pl_at ha0.1 hs_28
    refine va_get (D := (dC, dI)) (ci := 6) (v := .int sz_8) (C := RX7) (T := TX7) (N := 8) hx hb hts (by decide +kernel) hown hK hP kk_31 hk_32 rfl 7 (by decide) (hts (.fieldLink RX7 18 "PageOne$Picture" "sizes" "I") (by decide +kernel)) (fun _ h9 => h9) rfl dX7_takeSize_25 ?_
    refine lv_iload_n hx hb dX7_takeSize_28 rfl (lv_at hl 2 rfl) ?_
    obtain ⟨g_33, hs_34⟩ := x_20 hI hq_14
    obtain ⟨kk_35, hk_36⟩ := pl_at hq_14.1 hs_34
    have hD0 := hD
    refine va_iast hx hb hK hP hD hS kk_35 0 hk_36 rfl (vltn (n := 4) hq_15 c_18 rfl (by decide)).1 dX7_takeSize_29 (fun H locs hP hD hS => ?_)
    rw [pl_set hD0 hq_14.1 hs_34 hk_36] at hP hD
    obtain ⟨f_37, ef_37⟩ : ∃ y : xF, y = va_up f_27 hh_7 (aI (q 0) 4 (upd g_33 (sz_8 : Int32).toNatClampNeg p1)) := ⟨_, rfl⟩
    have hI : xI q h0 d k z f_37 := by rw [ef_37]; exact x_up hI hq_14 (by decide) (cO_20 hq_14.2 ⟨_, rfl⟩)
    have hP : va_P (dC, dI) vwCl (va_pl z.1 f_37) H := by rw [ef_37]; exact hP
    have hD : va_D A (va_pl z.1 f_37) := by rw [ef_37]; exact hD
    have hs_38 : f_37 a0 = .inr (6, [.int nu_1, .int kd_2, .ref pa_4, .int cn_3, .ref fa_5, .ref ww_6, .ref hh_7, .int sz_8]) := by rw [ef_37, up_o (tg_ne ha0 hq_14 (by decide))]; exact hs_28
    refine lv_aload_n hx hb dX7_takeSize_30 rfl (lv_at hl 0 rfl) ?_
    refine lv_dup hx hb dX7_takeSize_31 rfl ?_
    obtain ⟨kk_39, hk_40⟩ := pl_at ha0.1 hs_38
    refine va_get (D := (dC, dI)) (ci := 6) (v := .int sz_8) (C := RX7) (T := TX7) (N := 8) hx hb hts (by decide +kernel) hown hK hP kk_39 hk_40 rfl 7 (by decide) (hts (.fieldLink RX7 18 "PageOne$Picture" "sizes" "I") (by decide +kernel)) (fun _ h9 => h9) rfl dX7_takeSize_32 ?_
    refine lv_iconst (v := 1) hx hb dX7_takeSize_35 (by decide) ?_
    refine lv_iadd hx hb dX7_takeSize_36 ?_
    refine lv_topi (fun x_41 ex_41 => ?_)
    obtain ⟨kk_42, hk_43⟩ := pl_at ha0.1 hs_38
    have hD0 := hD
    refine va_put (D := (dC, dI)) (ci := 6) (v := .int x_41) (ty := .int) (C := RX7) (T := TX7) (N := 8) hx hb hts (by decide +kernel) tyX7 tyX7_ok nmX7 hown hK hP hD hS kk_42 hk_43 rfl 7 (by decide) (hts (.fieldLink RX7 18 "PageOne$Picture" "sizes" "I") (by decide +kernel)) (fun _ h9 => h9) rfl (by decide +kernel) rfl rfl (Nat.le_of_ble_eq_true rfl) dX7_takeSize_37 (fun H locs hP hD hS => ?_)
    rw [pl_set hD0 ha0.1 hs_38 hk_43] at hP hD
    obtain ⟨f_44, ef_44⟩ : ∃ y : xF, y = va_up f_37 a0 (.inr (6, [.int nu_1, .int kd_2, .ref pa_4, .int cn_3, .ref fa_5, .ref ww_6, .ref hh_7, .int x_41])) := ⟨_, rfl⟩
    have hI : xI q h0 d k z f_44 := by rw [ef_44]; exact x_upPict hI ha0 hs_38 hq_13 hq_14 (by rw [ex_41]; exact (vltn (n := 4) hq_15 c_18 rfl (by decide)).2)
    have hP : va_P (dC, dI) vwCl (va_pl z.1 f_44) H := by rw [ef_44]; exact hP
    have hD : va_D A (va_pl z.1 f_44) := by rw [ef_44]; exact hD
    refine lv_aload_n hx hb dX7_takeSize_40 rfl (lv_at hl 0 rfl) ?_
    obtain ⟨nu_45, kd_46, cn_47, pa_48, fa_49, ww_50, hh_51, sz_52, hs_53, hs_54, hs_55, hs_56, hq_57, hq_58, hq_59⟩ := x_ipi hI ha0
    obtain ⟨kk_60, hk_61⟩ := pl_at ha0.1 hs_53
    refine va_get (D := (dC, dI)) (ci := 6) (v := .int sz_52) (C := RX7) (T := TX7) (N := 8) hx hb hts (by decide +kernel) hown hK hP kk_60 hk_61 rfl 7 (by decide) (hts (.fieldLink RX7 18 "PageOne$Picture" "sizes" "I") (by decide +kernel)) (fun _ h9 => h9) rfl dX7_takeSize_41 ?_
    exact W.iret (v := sz_52) hx hb hr (fun t ht hW => ⟨⟨sz_52, (k, z, f_44), rfl, ⟨rfl, rfl, hI⟩, by rw [ht]; exact hP, hD⟩, hS.F ht⟩) hS.2.2 dX7_takeSize_44
  ·
    refine lv_iconst (v := (-1)) hx hb dX7_takeSize_8 (by decide) ?_
    exact W.iret (v := (-1)) hx hb hr (fun t ht hW => ⟨⟨(-1), (k, z, f), rfl, ⟨rfl, rfl, hI⟩, by rw [ht]; exact hP, hD⟩, hS.F ht⟩) hS.2.2 dX7_takeSize_9
