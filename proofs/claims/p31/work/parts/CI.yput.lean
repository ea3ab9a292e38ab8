set_option maxHeartbeats 4000000 in
set_option maxRecDepth 100000 in
theorem y_cols1 (l : Launch) (dC : Nat → ClassId) (dI : Nat → Nat → Nat) (q : Nat → ClassId) (h0 : Nat) (d : Nat → Nat) (k : Nat → Int32) (z : gS) (f : xF) (hI : xI q h0 d k z f) (a0 : Nat) (p0 : Int32) (ha0 : itm z a0) : Met l yX4_columnsBy wsX4_columnsBy ({ frames := 0, cells := 0, slots := 0, locals := 0 }) (va_Pc [.ref a0, .int p0] (PX dC dI (va_pl z.1 f) (xT q))) (vp_Si (fun r => r = 1)) 0 0 (fun _ => False) := by
  refine Met.ofW (cc := cX4_columnsBy) (maxL := 2) (ret := (some .int)) (by decide) rfl ?_
  intro p e s m args below meth c s₁ B hml hv
  obtain ⟨rfl, ⟨hP, hK, hN⟩, hXN⟩ := hv
  have hx := B.exec
  have hb := B.bytes
  have hr := B.returns
  have hts := atoms_spec (ws := wsX4_columnsBy) B.pre
  have hown : s.vm.findClass RX4 = some m.cls := findClass_of_methodNamed B.named
  have hlocks := B.notSynchronized
  have hl := lv_entry ([.ref a0, .int p0]) (n := 2) (Nat.le_of_ble_eq_true rfl)
  rw [lg_entry_eq]
  generalize (lg_sl ([.ref a0, .int p0]) ++ List.replicate (2 - (lg_sl ([.ref a0, .int p0])).length) Slot.unset).toArray = ls at hl ⊢
  have hl : lv_has ls 2 [(0, .ref a0), (1, .int p0)] := hl
  refine lv_iconst (v := 1) hx hb dX4_columnsBy_0 (by decide) ?_
  exact W.iret (v := 1) hx hb hr (fun t ht hW => ⟨_, rfl, rfl, ht⟩) (fun q h => absurd h List.not_mem_nil) dX4_columnsBy_1
set_option maxHeartbeats 4000000 in
set_option maxRecDepth 100000 in
theorem y_sit1 (l : Launch) (dC : Nat → ClassId) (dI : Nat → Nat → Nat) (q : Nat → ClassId) (h0 : Nat) (d : Nat → Nat) (k : Nat → Int32) (z : gS) (f : xF) (hI : xI q h0 d k z f) (a0 b0 : Nat) (p0 p1 : Int32) (ha0 : itm z a0) : Met l yX4_maySit wsX4_maySit ({ frames := 0, cells := 0, slots := 0, locals := 0 }) (va_Pc [.ref a0, .ref b0, .int p0, .int p1] (PX dC dI (va_pl z.1 f) (xT q))) (vp_Si (fun r => r = 1)) 0 0 (fun _ => False) := by
  refine Met.ofW (cc := cX4_maySit) (maxL := 4) (ret := (some .boolean)) (by decide) rfl ?_
  intro p e s m args below meth c s₁ B hml hv
  obtain ⟨rfl, ⟨hP, hK, hN⟩, hXN⟩ := hv
  have hx := B.exec
  have hb := B.bytes
  have hr := B.returns
  have hts := atoms_spec (ws := wsX4_maySit) B.pre
  have hown : s.vm.findClass RX4 = some m.cls := findClass_of_methodNamed B.named
  have hlocks := B.notSynchronized
  have hl := lv_entry ([.ref a0, .ref b0, .int p0, .int p1]) (n := 4) (Nat.le_of_ble_eq_true rfl)
  rw [lg_entry_eq]
  generalize (lg_sl ([.ref a0, .ref b0, .int p0, .int p1]) ++ List.replicate (4 - (lg_sl ([.ref a0, .ref b0, .int p0, .int p1])).length) Slot.unset).toArray = ls at hl ⊢
  have hl : lv_has ls 4 [(0, .ref a0), (1, .ref b0), (2, .int p0), (3, .int p1)] := hl
  refine lv_iconst (v := 1) hx hb dX4_maySit_0 (by decide) ?_
  exact W.zret (v := 1) hx hb hr (by decide) (fun t ht hW => ⟨_, rfl, rfl, ht⟩) (fun q h => absurd h List.not_mem_nil) dX4_maySit_1
theorem fr_iff2 {gl gc : Nat → Int32} {u : mS} {p c l w h : Int32} (b : bw p 0 11 = true) (el : eqR 8 gl (u.2 0) (8 * p.toNatClampNeg)) (ec : eqR 480 gc (u.2 2) (480 * p.toNatClampNeg)) (hgb : ∀ j, j < 8 → bw (gl j) 0 60 = true) : shFr gl gc c l w h ↔ mFreeP u p c l w h := by
  have h9 := fr_iff (c := c) (l := l) (w := w) (h := h) (clp b) el ec hgb
  rw [← (nI_of_bw b).1] at h9
  exact h9
theorem ltN {c : Int32} {n m : Nat} (h6 : n ≤ 6) (h : bw c 0 (nI n) = true) (e : n = m) (hc : c < nI n) : c.toNatClampNeg < m := by
  obtain ⟨e1, e2⟩ := cnN h6 h
  rw [i32_lt, e1, nI_toInt (by omega), nI_toInt (by omega)] at hc
  omega
theorem noN {c : Int32} {n m : Nat} (h6 : n ≤ 6) (h : bw c 0 (nI n) = true) (e : n = m) (hc : ¬ c < nI n) : ¬ c.toNatClampNeg < m := fun q => hc (hrmL h6 h e q)
theorem i47 {g r : Nat → Int32} {o : Nat} {x s : Int32} (h : eqR 4 g r o) (hx : bw x 0 (s - 1) = true) (hs : bw s 0 4 = true) : g x.toNatClampNeg = r (o + x.toNatClampNeg) := h _ (by
  have h4 : (4 : Int32).toInt = 4 := rfl
  have a := bw_iff.mp hs
  rw [i0, h4] at a
  have b := bw_iff.mp hx
  rw [i0, subI (by rw [i1]; omega) (by rw [i1]; omega), i1] at b
  obtain ⟨c1, c2, c3⟩ := nI_of_bw hx
  omega)
set_option maxHeartbeats 4000000 in
set_option maxRecDepth 100000 in
theorem y_put (l : Launch) (dC : Nat → ClassId) (dI : Nat → Nat → Nat) (q : Nat → ClassId) (h0 : Nat) (d : Nat → Nat) (k : Nat → Int32) (z : gS) (f : xF) (hI : xI q h0 d k z f) (p0 p1 p2 p3 p4 : Int32) (u : mS) (hrp : rep q d u z f) (hk0 : k 0 = u.1 3) (hk1 : k 1 = u.1 28) (hk2 : k 2 = u.1 38) (hk3 : k 3 = u.1 39) (hu : rI u) (hz0 : (z.2 h0).2.1 = 0) (hne : ∀ j, j < 5760 → ¬ u.2 2 j = (-1)) (sz : Nat) : Met l yX11_put wsX11_put ({ frames := 5, cells := 2, slots := 10, locals := 112 }) (va_Pc [.ref h0, .int p0, .int p1, .int p2, .int p3, .int p4] (fun U => U.heap.size = sz ∧ PX dC dI (va_pl z.1 f) (xT q) U ∧ va_D (fun _ => True) (va_pl z.1 f))) (va_Qi (fun (r : Int32) (w : xU) => putP q h0 d k z f u p0 p1 p2 p3 p4 r w) (fun (w : xU) t => va_P (dC, dI) vwCl (va_pl w.2.1.1 w.2.2) t.heap ∧ va_D (va_A (va_pl z.1 f) sz) (va_pl w.2.1.1 w.2.2)) (va_A (va_pl z.1 f) sz)) 2 10 (va_A (va_pl z.1 f) sz) := by
  refine Met.ofW (cc := cX11_put) (maxL := 8) (ret := (some .int)) (by decide) rfl ?_
  intro p e s m args below meth c s₁ B hml hv
  obtain ⟨rfl, hsz, ⟨⟨hP, hK, hN⟩, hXN⟩, hD0⟩ := hv
  have hx := B.exec
  have hb := B.bytes
  have hr := B.returns
  have hts := atoms_spec (ws := wsX11_put) B.pre
  have hown : s.vm.findClass RX11 = some m.cls := findClass_of_methodNamed B.named
  have hlocks := B.notSynchronized
  subst hsz
  have hD := hD0.self (sz := s.heap.size)
  generalize hAe : va_A (va_pl z.1 f) s.heap.size = A at hD ⊢
  have hA : ∀ q : Nat, s.heap.size ≤ q → A q := fun q h => by rw [← hAe]; exact Or.inr h
  have hS : va_S A s.heap s.heap [] := va_S.rf
  have hl := lv_entry ([.ref h0, .int p0, .int p1, .int p2, .int p3, .int p4]) (n := 8) (Nat.le_of_ble_eq_true rfl)
  rw [lg_entry_eq]
  generalize (lg_sl ([.ref h0, .int p0, .int p1, .int p2, .int p3, .int p4]) ++ List.replicate (8 - (lg_sl ([.ref h0, .int p0, .int p1, .int p2, .int p3, .int p4])).length) Slot.unset).toArray = ls at hl ⊢
  have hl : lv_has ls 8 [(0, .ref h0), (1, .int p0), (2, .int p1), (3, .int p2), (4, .int p3), (5, .int p4)] := hl
  have hIo := hI
  have hk1o := hk1
  have h3m : f (d 3) = f (d 3) := rfl
  refine lv_aload_n hx hb dX11_put_0 rfl (lv_at hl 0 rfl) ?_
  refine lv_iload_n hx hb dX11_put_1 rfl (lv_at hl 1 rfl) ?_
  obtain ⟨kk_1, hk_2⟩ := pl_at hI.2.1.1.1 hI.2.2.2.1.1
  refine va_csq (va_runV (As := [.int p0]) (rest := []) ⟨hx, hb, hml, hown, hts⟩ (y_itemOf l dC dI q h0 d k z f hI p0 u hrp hk0 hk1 hk2 hk3) (cwV 1 hts gX11_put_X11_itemOf rfl rfl rfl zh_X11_itemOf_49 ⟨Nat.le_of_ble_eq_true rfl, Nat.le_of_ble_eq_true rfl⟩) ⟨px_fb, va_recv hK hP (ci := 10) (q0 := kk_1) rfl hk_2, fun U hU hW => ⟨rfl, px_to hU hW hP hK hN hXN⟩⟩ rfl rfl hl.1 rfl (lv_room (Nat.le_of_ble_eq_true rfl)) dX11_put_2 ⟨Nat.le_of_ble_eq_true rfl, Nat.le_of_ble_eq_true rfl⟩).run (fun r hw => ?_)
  rcases hw with ⟨hr9, hn9⟩ | ⟨i_3, hi_4, ep_5, hr9⟩
  ·
    subst hr9
    have hno_25 := hn9
    refine W.eq (g2 := F0 m 5 ls [.null]) rfl ?_
    refine lv_astoreN (lv' := [(6, .null), (0, .ref h0), (1, .int p0), (2, .int p1), (3, .int p2), (4, .int p3), (5, .int p4)]) hx hb dX11_put_5 hl (by decide) rfl (fun ls hl => ?_)
    refine lv_aloadN hx hb dX11_put_7 (lv_at hl 0 rfl) ?_
    refine lv_ifnullN (tgt := 26) hx hb dX11_put_9 (by decide) ?_
    refine lv_iconst (v := (-1)) hx hb dX11_put_26 (by decide) ?_
    refine W.widen (k := 2) (n := 10) (Nat.le_of_ble_eq_true rfl) (Nat.le_of_ble_eq_true rfl) ?_
    exact W.iret (v := (-1)) hx hb hr (fun t ht hW => ⟨⟨(-1), (k, z, f), rfl, (Or.inl ⟨Or.inl hno_25, actP_0 hI hrp hk1o rfl⟩), by rw [ht]; exact hP, hD⟩, hS.F ht⟩) hS.2.2 dX11_put_27
  ·
    subst hr9
    obtain ⟨rs_6, n_7, g_8, fg_9, hit_10, hs_11, hpa_12, hps_13, h1_14, h6_15, hcb_16, hpl_17, hlg_18, hnn_19, hfa_20, hfs_21, hfe_22, hrs_23, hkt_24⟩ := it_all hI hrp.2.2.1 hi_4
    refine W.eq (g2 := F0 m 5 ls [.ref (d (2000 + i_3))]) rfl ?_
    refine lv_astore (lv' := [(6, .ref (d (2000 + i_3))), (0, .ref h0), (1, .int p0), (2, .int p1), (3, .int p2), (4, .int p3), (5, .int p4)]) hx hb dX11_put_5 hl (by decide) rfl (fun ls hl => ?_)
    refine lv_aload hx hb dX11_put_7 (lv_at hl 0 rfl) ?_
    refine lv_ifnull hx hb dX11_put_9 ?_
    refine lv_iload_n hx hb dX11_put_12 rfl (lv_at hl 3 rfl) ?_
    refine vp_callSi (va_runS (As := [.int p1]) (rest := []) ⟨hx, hb, hml, hown, hts⟩ (x_isPage l dC dI p1) (va_cwS 1 hts gX11_put_X11_isPage rfl rfl rfl zh_X11_isPage_44 ⟨Nat.le_of_ble_eq_true rfl, Nat.le_of_ble_eq_true rfl⟩) ⟨pw_fb, fun U hU hW => ⟨rfl, pw_to hU hW (hP.sub (ws' := []) [] rfl) (hK.sub (tys' := []) [] rfl) hN⟩⟩ rfl rfl hl.1 rfl (lv_room (Nat.le_of_ble_eq_true rfl)) dX11_put_13 ⟨Nat.le_of_ble_eq_true rfl, Nat.le_of_ble_eq_true rfl⟩).run (fun r hw => ?_)
    rcases Bool.eq_false_or_eq_true (bw p1 0 11) with b_26 | b_26
    ·
      obtain rfl : r = 1 := b_t hw b_26
      refine lv_if_eq (tgt := 26) hx hb dX11_put_16 (by decide) (fun c_27 => absurd c_27 (by decide)) (fun c_27 => ?_)
      refine lv_aload_n hx hb dX11_put_19 rfl (lv_at hl 1 rfl) ?_
      obtain ⟨kk_28, hk_29⟩ := pl_at hI.2.1.1.1 hI.2.2.2.1.1
      refine vp_callSi (va_runV (As := []) (rest := []) ⟨hx, hb, hml, hown, hts⟩ (y_canAct l dC dI q h0 d k z f hI) (cwV 0 hts gX11_put_X11_canAct rfl rfl rfl zh_X11_canAct_60 ⟨Nat.le_of_ble_eq_true rfl, Nat.le_of_ble_eq_true rfl⟩) ⟨px_fb, va_recv hK hP (ci := 10) (q0 := kk_28) rfl hk_29, fun U hU hW => ⟨rfl, px_to hU hW hP hK hN hXN⟩⟩ rfl rfl hl.1 rfl (lv_room (Nat.le_of_ble_eq_true rfl)) dX11_put_20 ⟨Nat.le_of_ble_eq_true rfl, Nat.le_of_ble_eq_true rfl⟩).run (fun r hw => ?_)
      rcases hw with ⟨hw, hca_30⟩ | ⟨hw, hca_30⟩
      ·
        subst hw
        refine lv_if_ne (tgt := 28) hx hb dX11_put_23 (by decide) (fun c_31 => absurd (by decide) c_31) (fun c_31 => ?_)
        refine lv_iconst (v := (-1)) hx hb dX11_put_26 (by decide) ?_
        refine W.widen (k := 2) (n := 10) (Nat.le_of_ble_eq_true rfl) (Nat.le_of_ble_eq_true rfl) ?_
        exact W.iret (v := (-1)) hx hb hr (fun t ht hW => ⟨⟨(-1), (k, z, f), rfl, (Or.inl ⟨Or.inr (Or.inr (Or.inl (by rw [← hk1o]; exact (n300 hI.1.2.1).1 hca_30))), actP_0 hI hrp hk1o rfl⟩), by rw [ht]; exact hP, hD⟩, hS.F ht⟩) hS.2.2 dX11_put_27
      ·
        subst hw
        refine lv_if_ne (tgt := 28) hx hb dX11_put_23 (by decide) (fun c_32 => ?_) (fun c_32 => absurd c_32 (by decide))
        have hi8 : i_3 < 80 := by have := w80i hI.1.1 hk0; have := hi_4; omega
        rcases kd6 (kd_05 hrp.2.2.1 hi_4).1 (kd_05 hrp.2.2.1 hi_4).2 with hkd | hkd | hkd | hkd | hkd | hkd
        ·
          have ht_33 : tg z (d (2000 + i_3)) 15 := ⟨hit_10.1, by rw [hkt_24, hkd]; rfl⟩
          obtain ⟨hx_35, hx_36, hx_37, ⟨hx_38, hx_39, hx_40⟩, hx_41, hx_42, hx_43⟩ := hrs_23.1 hkd
          have hs_34 : f (d (2000 + i_3)) = .inr (9, [.int (nI i_3), .int (u.2 4 i_3), .ref (d (3000 + i_3)), .int (u.2 22 i_3), .ref (d (4000 + i_3)), .int (u.2 5 i_3), .ref (d (5000 + i_3)), .int (u.2 15 i_3), .ref (d (6000 + i_3))]) := by rw [hs_11, ht_33.2, hx_35]; rfl
          refine va_new (ci := 7) (fs := [.null, .int 0, .int 0, .int 0, .int 0, .int 0]) (C := RX8) (T := TX8) (N := 6) hx hb hts zl_X11_put_X8 tyX8 tyX8_ok hown (hts (.classLink RX11 106 RX8) (zat q_wsX11_put k_wsX11_put 309 rfl (by decide +kernel))) (hts (.instantiable RX8 6) (zat q_wsX11_put k_wsX11_put 310 rfl (by decide +kernel))) (hts (.initialized RX8) (zat q_wsX11_put k_wsX11_put 62 rfl (by decide +kernel))) hK hP hD hS hA rfl nwX8 (Nat.le_of_ble_eq_true rfl) (Nat.le_of_ble_eq_true rfl) dX11_put_28 (fun q_44 H hPn hDn hS => ?_)
          have hP := vaP_l hPn
          refine W.widen (k := 1) (n := 6) (Nat.le_of_ble_eq_true rfl) (Nat.le_of_ble_eq_true rfl) ?_
          refine lv_dup hx hb dX11_put_31 rfl ?_
          refine lv_aload hx hb dX11_put_32 (lv_at hl 0 rfl) ?_
          refine lv_iload_n hx hb dX11_put_34 rfl (lv_at hl 3 rfl) ?_
          refine lv_iload_n hx hb dX11_put_35 rfl (lv_at hl 4 rfl) ?_
          refine lv_iload hx hb dX11_put_36 (lv_at hl 5 rfl) ?_
          refine lv_aload hx hb dX11_put_38 (lv_at hl 0 rfl) ?_
          refine lv_iload hx hb dX11_put_40 (lv_at hl 6 rfl) ?_
          obtain ⟨kk_45, hk_46⟩ := pl_at ht_33.1 hs_34
          refine vp_callSi (va_runU (As := [.int p4]) (rest := [.int p3, .int p2, .int p1, .ref (d (2000 + i_3)), .ref q_44, .ref q_44]) ⟨hx, hb, hml, hown, hts⟩ (y_cols1 l dC dI q h0 d k z f hI (d (2000 + i_3)) p4 hit_10) (va_cwU 1 hts gX11_put_X4_columnsBy_u142X10 rfl rfl rfl rfl zu_85 ⟨Nat.le_of_ble_eq_true rfl, Nat.le_of_ble_eq_true rfl⟩) ⟨px_fb, va_recv hK hP (ci := 9) (q0 := kk_45) rfl hk_46, fun U hU hW => ⟨rfl, px_to hU hW hP hK hN hXN⟩⟩ rfl rfl hl.1 rfl (lv_room (Nat.le_of_ble_eq_true rfl)) dX11_put_42 ⟨Nat.le_of_ble_eq_true rfl, Nat.le_of_ble_eq_true rfl⟩).run (fun r hw => ?_)
          obtain ⟨zr_47, ezr_47⟩ : ∃ y : Int32, y = (1 : Int32) := ⟨_, rfl⟩
          have hr9 : zr_47 = r := ezr_47.trans hw.symm
          subst hr9
          refine lv_aload hx hb dX11_put_45 (lv_at hl 0 rfl) ?_
          refine lv_iload hx hb dX11_put_47 (lv_at hl 6 rfl) ?_
          obtain ⟨kk_48, hk_49⟩ := pl_at ht_33.1 hs_34
          refine vp_callSi (va_runU (As := [.int p4]) (rest := [.int zr_47, .int p3, .int p2, .int p1, .ref (d (2000 + i_3)), .ref q_44, .ref q_44]) ⟨hx, hb, hml, hown, hts⟩ (y_X10_linesBy l dC dI q h0 d k z f hI (d (2000 + i_3)) (d (3000 + i_3)) (d (4000 + i_3)) (d (5000 + i_3)) (d (6000 + i_3)) (nI i_3) (u.2 4 i_3) (u.2 22 i_3) (u.2 5 i_3) (u.2 15 i_3) ht_33 hs_34 p4) (va_cwA 1 hts gX11_put_X10_linesBy_u145X10 rfl rfl rfl hXN.1 (by decide +kernel) ⟨Nat.le_of_ble_eq_true rfl, Nat.le_of_ble_eq_true rfl⟩) ⟨px_fb, va_recv hK hP (ci := 9) (q0 := kk_48) rfl hk_49, fun U hU hW => ⟨rfl, px_to hU hW hP hK hN hXN⟩⟩ rfl rfl hl.1 rfl (lv_room (Nat.le_of_ble_eq_true rfl)) dX11_put_49 ⟨Nat.le_of_ble_eq_true rfl, Nat.le_of_ble_eq_true rfl⟩).run (fun r hw => ?_)
          obtain ⟨zr_50, ezr_50⟩ : ∃ y : Int32, y = s_linesS p4 := ⟨_, rfl⟩
          have hr9 : zr_50 = r := ezr_50.trans hw.symm
          subst hr9
          have hPc := vaP_r hPn
          have hDc := vaD_r hDn
          have hFc := fr_part hDn hS hA
          refine va_callv (va_runI (As := [.ref (d (2000 + i_3)), .int p1, .int p2, .int p3, .int zr_47, .int zr_50]) (rest := [.ref q_44]) ⟨hx, hb, hml, hown, hts⟩ (x_PieceI l dC dI q_44 (d (2000 + i_3)) p1 p2 p3 zr_47 zr_50 H.size) (cwI 6 hts gX11_put_X8_init rfl rfl rfl (hts (.initialized RX8) (zat q_wsX11_put k_wsX11_put 62 rfl (by decide +kernel))) (hts (.methodLink RX11 108 yX8_init) (zat q_wsX11_put k_wsX11_put 311 rfl (by decide +kernel))) (hts (.instanceMethod yX8_init) (zat q_wsX11_put k_wsX11_put 312 rfl (by decide +kernel))) rfl zh_X8_init_83 ⟨Nat.le_of_ble_eq_true rfl, Nat.le_of_ble_eq_true rfl⟩) ⟨gw_fb, fun U hU hW => ⟨rfl, by rw [hU], pw_to hU hW hPc (hK.sub (tys' := []) [] rfl) hN, hDc.weaken (fun _ _ _ _ => trivial)⟩⟩ rfl rfl hl.1 rfl (lv_room (Nat.le_of_ble_eq_true rfl)) dX11_put_52 ⟨Nat.le_of_ble_eq_true rfl, Nat.le_of_ble_eq_true rfl⟩) hS (fun q _ h => hFc q h) hFc (fun u9 t H1 locs ht hvm hw hB hz1 hk1 hS => ?_)
          obtain ⟨hP1, hD1⟩ := hB
          rw [ht] at hP1
          obtain ⟨hP, hD⟩ := va_joinQ (X := [(q_44, .inr (7, [.null, .int 0, .int 0, .int 0, .int 0, .int 0]))]) (cx := [(q_44, .inr (7, [.null, .int 0, .int 0, .int 0, .int 0, .int 0]))]) (wr := []) (w1 := [(q_44, .inr (7, [va_rf (some (d (2000 + i_3))), .int p1, .int p2, .int p3, .int zr_47, .int zr_50]))]) (pl := va_pl z.1 f) (vaP_swap hPn) (vaD_rotR hDn) [0] [] rfl rfl rfl (fun i hi => absurd hi List.not_mem_nil) hk1 hFc hP1 hD1
          generalize H1 = H at hP hS ⊢
          obtain ⟨hnm_51, hP, hD⟩ := pushC hP hD
          obtain ⟨z_52, ez_52⟩ : ∃ y : gS, y = pz z q_44 (22, 0, [va_rf (some (d (2000 + i_3))), .int p1, .int p2, .int p3, .int zr_47, .int zr_50]) := ⟨_, rfl⟩
          obtain ⟨f_53, ef_53⟩ : ∃ y : xF, y = va_up f q_44 (.inr (7, [va_rf (some (d (2000 + i_3))), .int p1, .int p2, .int p3, .int zr_47, .int zr_50])) := ⟨_, rfl⟩
          have hE_54 : zE z z_52 := by rw [ez_52]; exact pz_E hnm_51 _
          have hI : xI q h0 d k z_52 f_53 := by rw [ez_52, ef_53]; exact x_push hI hnm_51 (Or.inr (by decide : (15 : Nat) < 22)) (cO_pc b_26 (ty_s (tg_itm ht_33 (by decide))) hnm_51)
          rw [show z.1 ++ [q_44] = z_52.1 from by rw [ez_52]; rfl, ← ef_53] at hP hD
          have ht_33 := zE_tg hE_54 ht_33
          have hpa_12 := zE_tg hE_54 hpa_12
          have hfa_20 := zE_tg hE_54 hfa_20
          have ht_55 : tg z_52 q_44 22 := by rw [ez_52]; exact pz_t _ _ _
          have hEz : zE z z_52 := zE_tr (zE_rf z) hE_54
          have h3m : f_53 (d 3) = f (d 3) := by rw [ef_53]; exact (up_o (fun e9 => hnm_51 (by rw [← e9]; exact hrp.2.2.2.2.2.2.2.1.1.1))).trans h3m
          have hrp_56 : rep q d u z_52 f_53 := by rw [ez_52, ef_53]; exact rep_grow hrp (pz_E hnm_51 _) (oK_push (fun _ _ => rfl) (zE_rf _) hnm_51)
          obtain ⟨rs_57, n_58, g_59, fg_60, hit_61, hs_62, hpa_63, hps_64, h1_65, h6_66, hcb_67, hpl_68, hlg_69, hnn_70, hfa_71, hfs_72, hfe_73, hrs_74, hkt_75⟩ := it_all hI hrp_56.2.2.1 hi_4
          have ht_76 : tg z_52 (d (2000 + i_3)) 15 := ⟨hit_61.1, by rw [hkt_75, hkd]; rfl⟩
          obtain ⟨hx_78, hx_79, hx_80, ⟨hx_81, hx_82, hx_83⟩, hx_84, hx_85, hx_86⟩ := hrs_74.1 hkd
          have hs_77 : f_53 (d (2000 + i_3)) = .inr (9, [.int (nI i_3), .int (u.2 4 i_3), .ref (d (3000 + i_3)), .int (u.2 22 i_3), .ref (d (4000 + i_3)), .int (u.2 5 i_3), .ref (d (5000 + i_3)), .int (u.2 15 i_3), .ref (d (6000 + i_3))]) := by rw [hs_62, ht_76.2, hx_78]; rfl
          refine W.eq (g2 := F0 m 55 ls [.ref q_44]) rfl ?_
          have hp_87 : pcS z_52 q_44 (some (d (2000 + i_3))) p1 p2 p3 zr_47 zr_50 := ⟨ht_55, by rw [ez_52, pz_s]⟩
          refine lv_astore (lv' := [(7, .ref q_44), (6, .ref (d (2000 + i_3))), (0, .ref h0), (1, .int p0), (2, .int p1), (3, .int p2), (4, .int p3), (5, .int p4)]) hx hb dX11_put_55 hl (by decide) rfl (fun ls hl => ?_)
          refine lv_aload hx hb dX11_put_57 (lv_at hl 1 rfl) ?_
          obtain ⟨kk_88, hk_89⟩ := pl_at ht_76.1 hs_77
          refine vp_callSi (va_runU (As := []) (rest := []) ⟨hx, hb, hml, hown, hts⟩ (y_hasRoom l dC dI q h0 d k z_52 f_53 hI (d (2000 + i_3)) hit_61 (nI i_3) (u.2 4 i_3) (u.2 22 i_3) (d (3000 + i_3)) (d (4000 + i_3)) rs_57 hs_62 n_58 g_59 hps_64 hpa_63) (va_cwU 0 hts gX11_put_X4_hasRoom_u148X10 rfl rfl rfl rfl zu_33 ⟨Nat.le_of_ble_eq_true rfl, Nat.le_of_ble_eq_true rfl⟩) ⟨px_fb, va_recv hK hP (ci := 9) (q0 := kk_88) rfl hk_89, fun U hU hW => ⟨rfl, px_to hU hW hP hK hN hXN⟩⟩ rfl rfl hl.1 rfl (lv_room (Nat.le_of_ble_eq_true rfl)) dX11_put_59 ⟨Nat.le_of_ble_eq_true rfl, Nat.le_of_ble_eq_true rfl⟩).run (fun r hw => ?_)
          obtain rfl : r = (bP ((u.2 22 i_3) < nI n_58)) := hw
          refine lv_if_eq (tgt := 102) hx hb dX11_put_62 (by decide) (fun c_90 => ?_) (fun c_90 => ?_)
          ·
            refine lv_iconst (v := (-1)) hx hb dX11_put_102 (by decide) ?_
            refine W.widen (k := 2) (n := 10) (Nat.le_of_ble_eq_true rfl) (Nat.le_of_ble_eq_true rfl) ?_
            exact W.iret (v := (-1)) hx hb hr (fun t ht hW => ⟨⟨(-1), (k, z_52, f_53), rfl, (Or.inl ⟨Or.inr (Or.inr (Or.inr ⟨i_3, ep_5, hi_4, Or.inl (noN h6_66 hcb_67 hnn_70 (bP_0 c_90))⟩)), ⟨hEz, hI, rfl, hrp_56, fun _ _ => rfl, hk1o, Or.inl ⟨h3m, rfl⟩⟩⟩), by rw [ht]; exact hP, hD⟩, hS.F ht⟩) hS.2.2 dX11_put_103
          ·
            refine lv_aload_n hx hb dX11_put_65 rfl (lv_at hl 2 rfl) ?_
            obtain ⟨kk_91, hk_92⟩ := pl_at hI.2.1.1.1 hI.2.2.2.1.1
            refine va_get (D := (dC, dI)) (ci := 10) (v := .ref (d 0)) (C := RX11) (T := TX11) (N := 9) hx hb hts zl_X11_put_X11 hown hK hP kk_91 hk_92 rfl 0 (by decide) (hts (.fieldLink RX11 11 "PageOne" "pages" "[LPageOne$Sheet;") (zat q_wsX11_put k_wsX11_put 112 rfl (by decide +kernel))) (fun _ h9 => h9) rfl dX11_put_66 ?_
            refine lv_iload_n hx hb dX11_put_69 rfl (lv_at hl 4 rfl) ?_
            obtain ⟨g_93, hs_94, hg_95⟩ := x_pg hI hI.2.1.2.1
            obtain ⟨kk_96, hk_97⟩ := pl_at hI.2.1.2.1.1 hs_94
            refine va_aldq hx hb hK hP kk_96 2 hk_97 rfl (vin b_26 (by decide)) dX11_put_70 ?_
            obtain ⟨b_98, hg_99, ht_100⟩ := hg_95 _ (vlt (vin b_26 (by decide)))
            rw [hg_99]
            refine W.eq (g2 := F0 m 71 ls [.ref b_98]) rfl ?_
            have hb_101 := pg_at hrp_56.1 hs_94 (clp b_26) hg_99
            subst hb_101
            obtain ⟨dd_102, ii_103, gl_104, gc_105, ht_106, ht_107, ht_108, hs_109, hg_110, hgb_111, hc_112, el_113, ec_114⟩ := pg_all hI hrp_56.1 (clp b_26)
            refine lv_aload hx hb dX11_put_71 (lv_at hl 0 rfl) ?_
            obtain ⟨kk_115, hk_116⟩ := pl_at ht_106.1 hs_109
            refine vp_callSi (va_runV (As := [.ref q_44]) (rest := []) ⟨hx, hb, hml, hown, hts⟩ (y_isFree l dC dI q h0 d k z_52 f_53 hI (d (10 + p1.toNatClampNeg)) (d (30 + p1.toNatClampNeg)) (d (50 + p1.toNatClampNeg)) (u.2 1 p1.toNatClampNeg) dd_102 ii_103 gl_104 gc_105 ht_106 hs_109 ht_107 ht_108 hg_110 hgb_111 hc_112 q_44 (some (d (2000 + i_3))) p1 p2 p3 zr_47 zr_50 hp_87) (cwV 1 hts gX11_put_X9_isFree rfl rfl rfl zh_X9_isFree_82 ⟨Nat.le_of_ble_eq_true rfl, Nat.le_of_ble_eq_true rfl⟩) ⟨px_fb, va_recv hK hP (ci := 8) (q0 := kk_115) rfl hk_116, fun U hU hW => ⟨rfl, px_to hU hW hP hK hN hXN⟩⟩ rfl rfl hl.1 rfl (lv_room (Nat.le_of_ble_eq_true rfl)) dX11_put_73 ⟨Nat.le_of_ble_eq_true rfl, Nat.le_of_ble_eq_true rfl⟩).run (fun r hw => ?_)
            rcases hw with ⟨hw, hfr_117⟩ | ⟨hw, hfr_117⟩
            ·
              subst hw
              refine lv_if_eq (tgt := 102) hx hb dX11_put_76 (by decide) (fun c_118 => absurd c_118 (by decide)) (fun c_118 => ?_)
              refine lv_aload hx hb dX11_put_79 (lv_at hl 1 rfl) ?_
              refine lv_aload hx hb dX11_put_81 (lv_at hl 0 rfl) ?_
              refine lv_aload_n hx hb dX11_put_83 rfl (lv_at hl 2 rfl) ?_
              obtain ⟨kk_119, hk_120⟩ := pl_at hI.2.1.1.1 hI.2.2.2.1.1
              refine va_get (D := (dC, dI)) (ci := 10) (v := .ref (d 0)) (C := RX11) (T := TX11) (N := 9) hx hb hts zl_X11_put_X11 hown hK hP kk_119 hk_120 rfl 0 (by decide) (hts (.fieldLink RX11 11 "PageOne" "pages" "[LPageOne$Sheet;") (zat q_wsX11_put k_wsX11_put 112 rfl (by decide +kernel))) (fun _ h9 => h9) rfl dX11_put_84 ?_
              refine lv_iload_n hx hb dX11_put_87 rfl (lv_at hl 4 rfl) ?_
              obtain ⟨kk_121, hk_122⟩ := pl_at hI.2.1.2.1.1 hs_94
              refine va_aldq hx hb hK hP kk_121 2 hk_122 rfl (vin b_26 (by decide)) dX11_put_88 ?_
              obtain ⟨b_123, hg_124, ht_125⟩ := hg_95 _ (vlt (vin b_26 (by decide)))
              rw [hg_124]
              refine W.eq (g2 := F0 m 89 ls [.ref b_123, .ref q_44, .ref (d (2000 + i_3))]) rfl ?_
              have hb_126 := pg_at hrp_56.1 hs_94 (clp b_26) hg_124
              subst hb_126
              obtain ⟨dd_127, ii_128, gl_129, gc_130, ht_131, ht_132, ht_133, hs_134, hg_135, hgb_136, hc_137, el_138, ec_139⟩ := pg_all hI hrp_56.1 (clp b_26)
              obtain ⟨kk_140, hk_141⟩ := pl_at ht_131.1 hs_134
              refine va_get (D := (dC, dI)) (ci := 8) (v := .int (u.2 1 p1.toNatClampNeg)) (C := RX9) (T := TX9) (N := 5) hx hb hts zl_X11_put_X9 hown hK hP kk_140 hk_141 rfl 2 (by decide) (hts (.fieldLink RX11 63 "PageOne$Sheet" "measure" "I") (zat q_wsX11_put k_wsX11_put 94 rfl (by decide +kernel))) (fun _ h9 => h9) rfl dX11_put_89 ?_
              refine lv_aload_n hx hb dX11_put_92 rfl (lv_at hl 2 rfl) ?_
              obtain ⟨kk_142, hk_143⟩ := pl_at hI.2.1.1.1 hI.2.2.2.1.1
              refine va_get (D := (dC, dI)) (ci := 10) (v := .int (k 2)) (C := RX11) (T := TX11) (N := 9) hx hb hts zl_X11_put_X11 hown hK hP kk_142 hk_143 rfl 7 (by decide) (hts (.fieldLink RX11 41 "PageOne" "today" "I") (zat q_wsX11_put k_wsX11_put 119 rfl (by decide +kernel))) (fun _ h9 => h9) rfl dX11_put_93 ?_
              obtain ⟨kk_144, hk_145⟩ := pl_at ht_76.1 hs_77
              refine vp_callSi (va_runU (As := [.ref q_44, .int (u.2 1 p1.toNatClampNeg), .int (k 2)]) (rest := []) ⟨hx, hb, hml, hown, hts⟩ (y_X10_maySit l dC dI q h0 d k z_52 f_53 hI (d (2000 + i_3)) (d (3000 + i_3)) (d (4000 + i_3)) (d (5000 + i_3)) (d (6000 + i_3)) (nI i_3) (u.2 4 i_3) (u.2 22 i_3) (u.2 5 i_3) (u.2 15 i_3) ht_76 hs_77 (u.2 1 p1.toNatClampNeg) (k 2) q_44 (some (d (2000 + i_3))) p1 p2 p3 zr_47 zr_50 hp_87 n_58 g_59 (pR u i_3) hpa_63 hps_64 h1_65 h6_66 hcb_67 hpl_68 hx_81 hx_79.1 hx_82 (hu.2.2.2.2.1 i_3 hi8)) (va_cwO (b0 := cX4_maySit) (m0 := 4) (r0 := (some .boolean)) 3 hts gX11_put_X10_maySit_u155X10 rfl rfl rfl (by decide +kernel) (by decide +kernel) ⟨Nat.le_of_ble_eq_true rfl, Nat.le_of_ble_eq_true rfl⟩) ⟨px_fb, va_recv hK hP (ci := 9) (q0 := kk_144) rfl hk_145, fun U hU hW => ⟨rfl, px_to hU hW hP hK hN hXN⟩⟩ rfl rfl hl.1 rfl (lv_room (Nat.le_of_ble_eq_true rfl)) dX11_put_96 ⟨Nat.le_of_ble_eq_true rfl, Nat.le_of_ble_eq_true rfl⟩).run (fun r hw => ?_)
              obtain ⟨zr_146, ezr_146⟩ : ∃ y : Int32, y = s_sitS p1 p2 p3 zr_47 zr_50 (u.2 1 p1.toNatClampNeg) (u.2 22 i_3) (u.2 15 i_3) (pR u i_3) hx_81 := ⟨_, rfl⟩
              have hr9 : zr_146 = r := ezr_146.trans hw.symm
              subst hr9
              refine lv_if_ne (tgt := 104) hx hb dX11_put_99 (by decide) (fun c_147 => ?_) (fun c_147 => ?_)
              ·
                have hmF := (fr_iff (clp b_26) el_113 ec_114 hgb_111).mp hfr_117
                obtain ⟨P, eP⟩ : ∃ y, y = p1.toNatClampNeg := ⟨_, rfl⟩
                have eP1 : p1 = nI P := by rw [eP]; exact (nI_of_bw b_26).1
                obtain ⟨X, Y, D, N, eX, eY, eD, eN, hrx, hemp⟩ := fr_rIn (clp b_26) (fun a ha => by rw [← el_113 a ha]; exact hgb_111 a ha) hmF
                rw [← eP] at hrx hemp hmF
                have hrx9 := hrx
                obtain ⟨hP9, hX, hD1, hY, hN1, hin⟩ := hrx9
                have hpcx : pcS z_52 q_44 (some (d (2000 + i_3))) (nI P) (nI X) (nI Y) (nI D) (nI N) := by rw [← eP1, ← eX, ← eY, ← eD, ← eN]; exact hp_87
                have hlg_148 := lg_of hpcx ⟨b7n (by omega), b60n (by omega), bwN (by have e8 : (8 : Int32).toInt = 8 := rfl; rw [e8]; omega) (by omega), b60n (by omega)⟩
                have hrm9 : (u.2 22 i_3).toNatClampNeg < (if u.2 4 i_3 = 0 then 6 else 1) := ltN h6_66 hcb_67 hnn_70 (bP_n c_90)
                refine lv_aload_n hx hb dX11_put_104 rfl (lv_at hl 2 rfl) ?_
                refine lv_aload hx hb dX11_put_105 (lv_at hl 0 rfl) ?_
                obtain ⟨kk_149, hk_150⟩ := pl_at hI.2.1.1.1 hI.2.2.2.1.1
                have hFc := fr_all hD hS hA
                refine va_callv (va_runV (As := [.ref q_44]) (rest := []) ⟨hx, hb, hml, hown, hts⟩ (y_standI l dC dI q h0 d k z_52 f_53 hI q_44 P X Y D N u hrp_56 hk0 hk1o hk2 hk3 hP9 hX hD1 hY hin hne i_3 hi_4 hpcx hrm9 H.size) (cwV 1 hts gX11_put_X11_stand rfl rfl rfl zh_X11_stand_62 ⟨Nat.le_of_ble_eq_true rfl, Nat.le_of_ble_eq_true rfl⟩) ⟨gx_fb, va_recv hK hP (ci := 10) (q0 := kk_149) rfl hk_150, fun U hU hW => ⟨rfl, by rw [hU], px_to hU hW hP hK hN hXN, hD.weaken (fun _ _ _ _ => trivial)⟩⟩ rfl rfl hl.1 rfl (lv_room (Nat.le_of_ble_eq_true rfl)) dX11_put_107 ⟨Nat.le_of_ble_eq_true rfl, Nat.le_of_ble_eq_true rfl⟩) hS (fun q _ h => hFc q h) hFc (fun w_151 t H1 locs ht hvm hw hB hz1 hk1 hS => ?_)
                obtain ⟨hP, hD1⟩ := hB
                rw [ht] at hP
                rw [hw.2.1] at hP hD1
                have hD := hD1.weaken (fun _ q _ h => hFc q.1 h)
                have hI := hw.2.2.1
                have hw0 := hw
                generalize w_151.2.2 = f_152 at hP hD hI hw0
                generalize H1 = H at hP hS ⊢
                obtain ⟨u2, eu2⟩ : ∃ y : mS, y = mStand u (nI i_3) P X Y D N := ⟨_, rfl⟩
                have hrp2 : rep q d u2 z_52 f_152 := by rw [eu2]; exact hw0.2.2.2.1
                have h3m : f_152 (d 3) = f (d 3) := hw0.2.2.2.2.trans h3m
                refine lv_aload_n hx hb dX11_put_110 rfl (lv_at hl 2 rfl) ?_
                refine va_new (ci := 0) (fs := [.null, .int 0, .null, .int 0]) (C := RX0) (T := TX0) (N := 4) hx hb hts zl_X11_put_X0 tyX0 tyX0_ok hown (hts (.classLink RX11 28 RX0) (zat q_wsX11_put k_wsX11_put 80 rfl (by decide +kernel))) (hts (.instantiable RX0 4) (zat q_wsX11_put k_wsX11_put 598 rfl (by decide +kernel))) (hts (.initialized RX0) (zat q_wsX11_put k_wsX11_put 65 rfl (by decide +kernel))) hK hP hD hS hA rfl nwX0 (Nat.le_of_ble_eq_true rfl) (Nat.le_of_ble_eq_true rfl) dX11_put_111 (fun q_153 H hPn hDn hS => ?_)
                have hP := vaP_l hPn
                refine W.widen (k := 2) (n := 10) (Nat.le_of_ble_eq_true rfl) (Nat.le_of_ble_eq_true rfl) ?_
                refine lv_dup hx hb dX11_put_114 rfl ?_
                refine lv_aload hx hb dX11_put_115 (lv_at hl 0 rfl) ?_
                refine lv_iconst (v := 0) hx hb dX11_put_117 (by decide) ?_
                refine lv_null hx hb dX11_put_118 ?_
                have hPc := vaP_r hPn
                have hDc := vaD_r hDn
                have hFc := fr_part hDn hS hA
                refine va_callv (va_runI (As := [.ref q_44, .int 0, .null]) (rest := [.ref q_153, .ref h0]) ⟨hx, hb, hml, hown, hts⟩ (x_ActP l dC dI q_153 q_44 H.size) (cwI 3 hts gX11_put_X0_init rfl rfl rfl (hts (.initialized RX0) (zat q_wsX11_put k_wsX11_put 65 rfl (by decide +kernel))) (hts (.methodLink RX11 163 yX0_init) (zat q_wsX11_put k_wsX11_put 599 rfl (by decide +kernel))) (hts (.instanceMethod yX0_init) (zat q_wsX11_put k_wsX11_put 600 rfl (by decide +kernel))) rfl zh_X0_init_81 ⟨Nat.le_of_ble_eq_true rfl, Nat.le_of_ble_eq_true rfl⟩) ⟨gw_fb, fun U hU hW => ⟨rfl, by rw [hU], pw_to hU hW hPc (hK.sub (tys' := []) [] rfl) hN, hDc.weaken (fun _ _ _ _ => trivial)⟩⟩ rfl rfl hl.1 rfl (lv_room (Nat.le_of_ble_eq_true rfl)) dX11_put_119 ⟨Nat.le_of_ble_eq_true rfl, Nat.le_of_ble_eq_true rfl⟩) hS (fun q _ h => hFc q h) hFc (fun u9 t H1 locs ht hvm hw hB hz1 hk1 hS => ?_)
                obtain ⟨hP1, hD1⟩ := hB
                rw [ht] at hP1
                obtain ⟨hP, hD⟩ := va_joinQ (X := [(q_153, .inr (0, [.null, .int 0, .null, .int 0]))]) (cx := [(q_153, .inr (0, [.null, .int 0, .null, .int 0]))]) (wr := []) (w1 := [(q_153, .inr (0, [.ref q_44, .int 0, va_rf none, .int 1]))]) (pl := va_pl z_52.1 f_152) (vaP_swap hPn) (vaD_rotR hDn) [0] [] rfl rfl rfl (fun i hi => absurd hi List.not_mem_nil) hk1 hFc hP1 hD1
                generalize H1 = H at hP hS ⊢
                obtain ⟨hnm_154, hP, hD⟩ := pushC hP hD
                obtain ⟨z_155, ez_155⟩ : ∃ y : gS, y = pz z_52 q_153 (23, 0, [.ref q_44, .int 0, va_rf none, .int 1]) := ⟨_, rfl⟩
                obtain ⟨f_156, ef_156⟩ : ∃ y : xF, y = va_up f_152 q_153 (.inr (0, [.ref q_44, .int 0, va_rf none, .int 1])) := ⟨_, rfl⟩
                have hE_157 : zE z_52 z_155 := by rw [ez_155]; exact pz_E hnm_154 _
                have hI : xI q h0 d k z_155 f_156 := by rw [ez_155, ef_156]; exact x_push hI hnm_154 (Or.inr (by decide : (15 : Nat) < 23)) (cO_ac hlg_148 hnm_154)
                rw [show z_52.1 ++ [q_153] = z_155.1 from by rw [ez_155]; rfl, ← ef_156] at hP hD
                have ht_76 := zE_tg hE_157 ht_76
                have hpa_63 := zE_tg hE_157 hpa_63
                have hfa_71 := zE_tg hE_157 hfa_71
                have hlg_148 := zE_lg hE_157 hlg_148
                have ht_131 := zE_tg hE_157 ht_131
                have ht_132 := zE_tg hE_157 ht_132
                have ht_133 := zE_tg hE_157 ht_133
                have hp_87 := zE_pc hE_157 hp_87
                have hpcx := zE_pc hE_157 hpcx
                have ht_158 : tg z_155 q_153 23 := by rw [ez_155]; exact pz_t _ _ _
                have hEz : zE z z_155 := zE_tr hEz hE_157
                have h3m : f_156 (d 3) = f (d 3) := by rw [ef_156]; exact (up_o (fun e9 => hnm_154 (by rw [← e9]; exact hrp2.2.2.2.2.2.2.2.1.1.1))).trans h3m
                have hrp_159 : rep q d u2 z_155 f_156 := by rw [ez_155, ef_156]; exact rep_grow hrp2 (pz_E hnm_154 _) (oK_push (fun _ _ => rfl) (zE_rf _) hnm_154)
                refine W.eq (g2 := F0 m 122 ls [.ref q_153, .ref h0]) rfl ?_
                have hIb := hI
                have hcx : ¬ 300 ≤ k 1 := hca_30
                obtain ⟨kk_160, hk_161⟩ := pl_at hI.2.1.1.1 hI.2.2.2.1.1
                have hFc := fr_all hD hS hA
                refine va_callv (va_runV (As := [.ref q_153]) (rest := []) ⟨hx, hb, hml, hown, hts⟩ (y_keep l dC dI q h0 d k z_155 f_156 hI q_153 ht_158 hcx H.size) (cwV 1 hts gX11_put_X11_keep rfl rfl rfl zh_X11_keep_79 ⟨Nat.le_of_ble_eq_true rfl, Nat.le_of_ble_eq_true rfl⟩) ⟨gx_fb, va_recv hK hP (ci := 10) (q0 := kk_160) rfl hk_161, fun U hU hW => ⟨rfl, by rw [hU], px_to hU hW hP hK hN hXN, hD.weaken (fun _ _ _ _ => trivial)⟩⟩ rfl rfl hl.1 rfl (lv_room (Nat.le_of_ble_eq_true rfl)) dX11_put_122 ⟨Nat.le_of_ble_eq_true rfl, Nat.le_of_ble_eq_true rfl⟩) hS (fun q _ h => hFc q h) hFc (fun w_162 t H1 locs ht hvm hw hB hz1 hk1 hS => ?_)
                obtain ⟨hP, hD1⟩ := hB
                rw [ht] at hP
                rw [hw.1] at hP hD1
                have hD := hD1.weaken (fun _ q _ h => hFc q.1 h)
                have hI := hw.2.1
                have hw0 := hw
                generalize w_162.1 = k_164 at hI hw0
                generalize w_162.2.2 = f_163 at hP hD hI hw0
                generalize H1 = H at hP hS ⊢
                have hkp := hw0.2.2
                have hrp_165 : rep q d u2 z_155 f_163 := rep_kp hrp_159 hIb (by rw [zE_o hEz hIo.2.1.1.1]; exact hz0) hkp
                have hi3 : i_3 < (u2.1 3).toNatClampNeg := by rw [eu2]; exact hi_4
                obtain ⟨rs_166, n_167, g_168, fg_169, hit_170, hs_171, hpa_172, hps_173, h1_174, h6_175, hcb_176, hpl_177, hlg_178, hnn_179, hfa_180, hfs_181, hfe_182, hrs_183, hkt_184⟩ := it_all hI hrp_165.2.2.1 hi3
                refine lv_aload hx hb dX11_put_125 (lv_at hl 1 rfl) ?_
                obtain ⟨kk_185, hk_186⟩ := pl_at hit_170.1 hs_171
                refine w_then (F0 m 130 ls [.int (u2.2 22 i_3)]) (fun hgo => ?_) ?_
                ·
                  rcases x_tag hit_170 with ht9 | ht9 | ht9 | ht9 | ht9 | ht9
                  ·
                    rw [ht9.2] at hk_186
                    exact va_get (D := (dC, dI)) (ci := 2) (v := .int (u2.2 22 i_3)) (C := RX2) (T := TX2) (N := 7) hx hb hts zl_X11_put_X2 hown hK hP kk_185 hk_186 rfl 3 (by decide) (hts (.fieldLink RX11 170 "PageOne$Item" "count" "I") (zat q_wsX11_put k_wsX11_put 197 rfl (by decide +kernel))) (fun _ h9 => h9) rfl dX11_put_127 hgo
                  ·
                    rw [ht9.2] at hk_186
                    exact va_get (D := (dC, dI)) (ci := 3) (v := .int (u2.2 22 i_3)) (C := RX3) (T := TX3) (N := 8) hx hb hts zl_X11_put_X3 hown hK hP kk_185 hk_186 rfl 3 (by decide) (hts (.fieldLink RX11 170 "PageOne$Item" "count" "I") (zat q_wsX11_put k_wsX11_put 197 rfl (by decide +kernel))) (fun _ h9 => h9) rfl dX11_put_127 hgo
                  ·
                    rw [ht9.2] at hk_186
                    exact va_get (D := (dC, dI)) (ci := 4) (v := .int (u2.2 22 i_3)) (C := RX5) (T := TX5) (N := 7) hx hb hts zl_X11_put_X5 hown hK hP kk_185 hk_186 rfl 3 (by decide) (hts (.fieldLink RX11 170 "PageOne$Item" "count" "I") (zat q_wsX11_put k_wsX11_put 197 rfl (by decide +kernel))) (fun _ h9 => h9) rfl dX11_put_127 hgo
                  ·
                    rw [ht9.2] at hk_186
                    exact va_get (D := (dC, dI)) (ci := 5) (v := .int (u2.2 22 i_3)) (C := RX6) (T := TX6) (N := 9) hx hb hts zl_X11_put_X6 hown hK hP kk_185 hk_186 rfl 3 (by decide) (hts (.fieldLink RX11 170 "PageOne$Item" "count" "I") (zat q_wsX11_put k_wsX11_put 197 rfl (by decide +kernel))) (fun _ h9 => h9) rfl dX11_put_127 hgo
                  ·
                    rw [ht9.2] at hk_186
                    exact va_get (D := (dC, dI)) (ci := 6) (v := .int (u2.2 22 i_3)) (C := RX7) (T := TX7) (N := 8) hx hb hts zl_X11_put_X7 hown hK hP kk_185 hk_186 rfl 3 (by decide) (hts (.fieldLink RX11 170 "PageOne$Item" "count" "I") (zat q_wsX11_put k_wsX11_put 197 rfl (by decide +kernel))) (fun _ h9 => h9) rfl dX11_put_127 hgo
                  ·
                    rw [ht9.2] at hk_186
                    exact va_get (D := (dC, dI)) (ci := 9) (v := .int (u2.2 22 i_3)) (C := RX10) (T := TX10) (N := 9) hx hb hts zl_X11_put_X10 hown hK hP kk_185 hk_186 rfl 3 (by decide) (hts (.fieldLink RX11 170 "PageOne$Item" "count" "I") (zat q_wsX11_put k_wsX11_put 197 rfl (by decide +kernel))) (fun _ h9 => h9) rfl dX11_put_127 hgo
                ·
                  exact W.iret (v := (u2.2 22 i_3)) hx hb hr (fun t ht hW => ⟨⟨(u2.2 22 i_3), (k_164, z_155, f_163), rfl, (Or.inr ⟨i_3, P, X, Y, D, N, ⟨ep_5, hi_4, eP1, eX, eY, ((show cpW u i_3 p4 = zr_47 by unfold cpW; rw [if_neg (by rw [hkd]; decide), if_neg (by rw [hkd]; decide), ezr_47])).trans eD, ((show cpH u i_3 p4 = zr_50 by unfold cpH; rw [if_pos hkd, ezr_50]; rfl)).trans eN, (by rw [← hk1o]; exact (n300 hIo.1.2.1).2 hcx), hrx, hrm9, by rw [← eP1] at hmF; rw [(show cpW u i_3 p4 = zr_47 by unfold cpW; rw [if_neg (by rw [hkd]; decide), if_neg (by rw [hkd]; decide), ezr_47]), (show cpH u i_3 p4 = zr_50 by unfold cpH; rw [if_pos hkd, ezr_50]; rfl)]; exact hmF, ⟨zr_146, c_147, by rw [(show cpW u i_3 p4 = zr_47 by unfold cpW; rw [if_neg (by rw [hkd]; decide), if_neg (by rw [hkd]; decide), ezr_47]), (show cpH u i_3 p4 = zr_50 by unfold cpH; rw [if_pos hkd, ezr_50]; rfl)]; exact ⟨(fun _ => ⟨_, hx_83, ezr_146⟩), (fun h9 => absurd (hkd.symm.trans h9) (by decide)), (fun h9 => absurd (hkd.symm.trans h9) (by decide)), (fun h9 => by rcases h9 with h8 | h8 | h8 <;> exact absurd (hkd.symm.trans h8) (by decide))⟩⟩, hemp⟩, by rw [show (u2.2 22 i_3) = (mStand u (nI i_3) P X Y D N).2 22 i_3 from by rw [eu2]]; exact put_fin hk1o hi8 hEz hI (by rw [← eu2]; exact hrp_165) h3m hkp.1 (kp_3 hrp_159 hIb hkp) ⟨ht_158, by rw [ez_155, pz_s]⟩ hpcx⟩), by rw [ht]; exact hP, hD⟩, hS.F ht⟩) hS.2.2 dX11_put_130
              ·
                refine lv_iconst (v := (-1)) hx hb dX11_put_102 (by decide) ?_
                refine W.widen (k := 2) (n := 10) (Nat.le_of_ble_eq_true rfl) (Nat.le_of_ble_eq_true rfl) ?_
                exact W.iret (v := (-1)) hx hb hr (fun t ht hW => ⟨⟨(-1), (k, z_52, f_53), rfl, (Or.inl ⟨Or.inr (Or.inr (Or.inr ⟨i_3, ep_5, hi_4, Or.inr (Or.inr (by rw [(show cpW u i_3 p4 = zr_47 by unfold cpW; rw [if_neg (by rw [hkd]; decide), if_neg (by rw [hkd]; decide), ezr_47]), (show cpH u i_3 p4 = zr_50 by unfold cpH; rw [if_pos hkd, ezr_50]; rfl)]; exact ⟨(fun _ => ⟨_, hx_83, (c_147.symm.trans ezr_146)⟩), (fun h9 => absurd (hkd.symm.trans h9) (by decide)), (fun h9 => absurd (hkd.symm.trans h9) (by decide)), (fun h9 => by rcases h9 with h8 | h8 | h8 <;> exact absurd (hkd.symm.trans h8) (by decide))⟩))⟩)), ⟨hEz, hI, rfl, hrp_56, fun _ _ => rfl, hk1o, Or.inl ⟨h3m, rfl⟩⟩⟩), by rw [ht]; exact hP, hD⟩, hS.F ht⟩) hS.2.2 dX11_put_103
            ·
              subst hw
              refine lv_if_eq (tgt := 102) hx hb dX11_put_76 (by decide) (fun c_187 => ?_) (fun c_187 => absurd (by decide) c_187)
              refine lv_iconst (v := (-1)) hx hb dX11_put_102 (by decide) ?_
              refine W.widen (k := 2) (n := 10) (Nat.le_of_ble_eq_true rfl) (Nat.le_of_ble_eq_true rfl) ?_
              exact W.iret (v := (-1)) hx hb hr (fun t ht hW => ⟨⟨(-1), (k, z_52, f_53), rfl, (Or.inl ⟨Or.inr (Or.inr (Or.inr ⟨i_3, ep_5, hi_4, Or.inr (Or.inl (fun h9 => hfr_117 ((fr_iff2 b_26 el_113 ec_114 hgb_111).mpr (by rw [(show cpW u i_3 p4 = zr_47 by unfold cpW; rw [if_neg (by rw [hkd]; decide), if_neg (by rw [hkd]; decide), ezr_47]), (show cpH u i_3 p4 = zr_50 by unfold cpH; rw [if_pos hkd, ezr_50]; rfl)] at h9; exact h9))))⟩)), ⟨hEz, hI, rfl, hrp_56, fun _ _ => rfl, hk1o, Or.inl ⟨h3m, rfl⟩⟩⟩), by rw [ht]; exact hP, hD⟩, hS.F ht⟩) hS.2.2 dX11_put_103
        ·
          have ht_188 : tg z (d (2000 + i_3)) 11 := ⟨hit_10.1, by rw [hkt_24, hkd]; rfl⟩
          obtain ⟨o9, hx_190, hx_191, hx_192, hx_193⟩ := hrs_23.2.1 hkd
          have hs_189 : f (d (2000 + i_3)) = .inr (3, [.int (nI i_3), .int (u.2 4 i_3), .ref (d (3000 + i_3)), .int (u.2 22 i_3), .ref (d (4000 + i_3)), .ref (d (2000 + o9)), .int (u.2 7 i_3), .int (u.2 8 i_3)]) := by rw [hs_11, ht_188.2, hx_193]; rfl
          refine va_new (ci := 7) (fs := [.null, .int 0, .int 0, .int 0, .int 0, .int 0]) (C := RX8) (T := TX8) (N := 6) hx hb hts zl_X11_put_X8 tyX8 tyX8_ok hown (hts (.classLink RX11 106 RX8) (zat q_wsX11_put k_wsX11_put 309 rfl (by decide +kernel))) (hts (.instantiable RX8 6) (zat q_wsX11_put k_wsX11_put 310 rfl (by decide +kernel))) (hts (.initialized RX8) (zat q_wsX11_put k_wsX11_put 62 rfl (by decide +kernel))) hK hP hD hS hA rfl nwX8 (Nat.le_of_ble_eq_true rfl) (Nat.le_of_ble_eq_true rfl) dX11_put_28 (fun q_199 H hPn hDn hS => ?_)
          have hP := vaP_l hPn
          refine W.widen (k := 1) (n := 6) (Nat.le_of_ble_eq_true rfl) (Nat.le_of_ble_eq_true rfl) ?_
          refine lv_dup hx hb dX11_put_31 rfl ?_
          refine lv_aload hx hb dX11_put_32 (lv_at hl 0 rfl) ?_
          refine lv_iload_n hx hb dX11_put_34 rfl (lv_at hl 3 rfl) ?_
          refine lv_iload_n hx hb dX11_put_35 rfl (lv_at hl 4 rfl) ?_
          refine lv_iload hx hb dX11_put_36 (lv_at hl 5 rfl) ?_
          refine lv_aload hx hb dX11_put_38 (lv_at hl 0 rfl) ?_
          refine lv_iload hx hb dX11_put_40 (lv_at hl 6 rfl) ?_
          obtain ⟨kk_200, hk_201⟩ := pl_at ht_188.1 hs_189
          refine vp_callSi (va_runU (As := [.int p4]) (rest := [.int p3, .int p2, .int p1, .ref (d (2000 + i_3)), .ref q_199, .ref q_199]) ⟨hx, hb, hml, hown, hts⟩ (y_X3_columnsBy l dC dI q h0 d k z f hI (d (2000 + i_3)) (d (3000 + i_3)) (d (4000 + i_3)) (d (2000 + o9)) (nI i_3) (u.2 4 i_3) (u.2 22 i_3) (u.2 7 i_3) (u.2 8 i_3) ht_188 hs_189 p4) (va_cwO (b0 := cX4_columnsBy) (m0 := 2) (r0 := (some .int)) 1 hts gX11_put_X3_columnsBy_u142X3 rfl rfl rfl (by decide +kernel) (by decide +kernel) ⟨Nat.le_of_ble_eq_true rfl, Nat.le_of_ble_eq_true rfl⟩) ⟨px_fb, va_recv hK hP (ci := 3) (q0 := kk_200) rfl hk_201, fun U hU hW => ⟨rfl, px_to hU hW hP hK hN hXN⟩⟩ rfl rfl hl.1 rfl (lv_room (Nat.le_of_ble_eq_true rfl)) dX11_put_42 ⟨Nat.le_of_ble_eq_true rfl, Nat.le_of_ble_eq_true rfl⟩).run (fun r hw => ?_)
          obtain ⟨zr_202, ezr_202⟩ : ∃ y : Int32, y = s_colsH p4 (u.2 7 i_3) := ⟨_, rfl⟩
          have hr9 : zr_202 = r := ezr_202.trans hw.symm
          subst hr9
          refine lv_aload hx hb dX11_put_45 (lv_at hl 0 rfl) ?_
          refine lv_iload hx hb dX11_put_47 (lv_at hl 6 rfl) ?_
          obtain ⟨kk_203, hk_204⟩ := pl_at ht_188.1 hs_189
          refine vp_callSi (va_runU (As := [.int p4]) (rest := [.int zr_202, .int p3, .int p2, .int p1, .ref (d (2000 + i_3)), .ref q_199, .ref q_199]) ⟨hx, hb, hml, hown, hts⟩ (y_X3_linesBy l dC dI q h0 d k z f hI (d (2000 + i_3)) (d (3000 + i_3)) (d (4000 + i_3)) (d (2000 + o9)) (nI i_3) (u.2 4 i_3) (u.2 22 i_3) (u.2 7 i_3) (u.2 8 i_3) ht_188 hs_189 p4) (va_cwA 1 hts gX11_put_X3_linesBy_u145X3 rfl rfl rfl hXN.1 (by decide +kernel) ⟨Nat.le_of_ble_eq_true rfl, Nat.le_of_ble_eq_true rfl⟩) ⟨px_fb, va_recv hK hP (ci := 3) (q0 := kk_203) rfl hk_204, fun U hU hW => ⟨rfl, px_to hU hW hP hK hN hXN⟩⟩ rfl rfl hl.1 rfl (lv_room (Nat.le_of_ble_eq_true rfl)) dX11_put_49 ⟨Nat.le_of_ble_eq_true rfl, Nat.le_of_ble_eq_true rfl⟩).run (fun r hw => ?_)
          obtain ⟨zr_205, ezr_205⟩ : ∃ y : Int32, y = s_linesH p4 (u.2 8 i_3) := ⟨_, rfl⟩
          have hr9 : zr_205 = r := ezr_205.trans hw.symm
          subst hr9
          have hPc := vaP_r hPn
          have hDc := vaD_r hDn
          have hFc := fr_part hDn hS hA
          refine va_callv (va_runI (As := [.ref (d (2000 + i_3)), .int p1, .int p2, .int p3, .int zr_202, .int zr_205]) (rest := [.ref q_199]) ⟨hx, hb, hml, hown, hts⟩ (x_PieceI l dC dI q_199 (d (2000 + i_3)) p1 p2 p3 zr_202 zr_205 H.size) (cwI 6 hts gX11_put_X8_init rfl rfl rfl (hts (.initialized RX8) (zat q_wsX11_put k_wsX11_put 62 rfl (by decide +kernel))) (hts (.methodLink RX11 108 yX8_init) (zat q_wsX11_put k_wsX11_put 311 rfl (by decide +kernel))) (hts (.instanceMethod yX8_init) (zat q_wsX11_put k_wsX11_put 312 rfl (by decide +kernel))) rfl zh_X8_init_83 ⟨Nat.le_of_ble_eq_true rfl, Nat.le_of_ble_eq_true rfl⟩) ⟨gw_fb, fun U hU hW => ⟨rfl, by rw [hU], pw_to hU hW hPc (hK.sub (tys' := []) [] rfl) hN, hDc.weaken (fun _ _ _ _ => trivial)⟩⟩ rfl rfl hl.1 rfl (lv_room (Nat.le_of_ble_eq_true rfl)) dX11_put_52 ⟨Nat.le_of_ble_eq_true rfl, Nat.le_of_ble_eq_true rfl⟩) hS (fun q _ h => hFc q h) hFc (fun u9 t H1 locs ht hvm hw hB hz1 hk1 hS => ?_)
          obtain ⟨hP1, hD1⟩ := hB
          rw [ht] at hP1
          obtain ⟨hP, hD⟩ := va_joinQ (X := [(q_199, .inr (7, [.null, .int 0, .int 0, .int 0, .int 0, .int 0]))]) (cx := [(q_199, .inr (7, [.null, .int 0, .int 0, .int 0, .int 0, .int 0]))]) (wr := []) (w1 := [(q_199, .inr (7, [va_rf (some (d (2000 + i_3))), .int p1, .int p2, .int p3, .int zr_202, .int zr_205]))]) (pl := va_pl z.1 f) (vaP_swap hPn) (vaD_rotR hDn) [0] [] rfl rfl rfl (fun i hi => absurd hi List.not_mem_nil) hk1 hFc hP1 hD1
          generalize H1 = H at hP hS ⊢
          obtain ⟨hnm_206, hP, hD⟩ := pushC hP hD
          obtain ⟨z_207, ez_207⟩ : ∃ y : gS, y = pz z q_199 (22, 0, [va_rf (some (d (2000 + i_3))), .int p1, .int p2, .int p3, .int zr_202, .int zr_205]) := ⟨_, rfl⟩
          obtain ⟨f_208, ef_208⟩ : ∃ y : xF, y = va_up f q_199 (.inr (7, [va_rf (some (d (2000 + i_3))), .int p1, .int p2, .int p3, .int zr_202, .int zr_205])) := ⟨_, rfl⟩
          have hE_209 : zE z z_207 := by rw [ez_207]; exact pz_E hnm_206 _
          have hI : xI q h0 d k z_207 f_208 := by rw [ez_207, ef_208]; exact x_push hI hnm_206 (Or.inr (by decide : (15 : Nat) < 22)) (cO_pc b_26 (ty_s (tg_itm ht_188 (by decide))) hnm_206)
          rw [show z.1 ++ [q_199] = z_207.1 from by rw [ez_207]; rfl, ← ef_208] at hP hD
          have ht_188 := zE_tg hE_209 ht_188
          have hpa_12 := zE_tg hE_209 hpa_12
          have hfa_20 := zE_tg hE_209 hfa_20
          have ht_210 : tg z_207 q_199 22 := by rw [ez_207]; exact pz_t _ _ _
          have hEz : zE z z_207 := zE_tr (zE_rf z) hE_209
          have h3m : f_208 (d 3) = f (d 3) := by rw [ef_208]; exact (up_o (fun e9 => hnm_206 (by rw [← e9]; exact hrp.2.2.2.2.2.2.2.1.1.1))).trans h3m
          have hrp_211 : rep q d u z_207 f_208 := by rw [ez_207, ef_208]; exact rep_grow hrp (pz_E hnm_206 _) (oK_push (fun _ _ => rfl) (zE_rf _) hnm_206)
          obtain ⟨rs_212, n_213, g_214, fg_215, hit_216, hs_217, hpa_218, hps_219, h1_220, h6_221, hcb_222, hpl_223, hlg_224, hnn_225, hfa_226, hfs_227, hfe_228, hrs_229, hkt_230⟩ := it_all hI hrp_211.2.2.1 hi_4
          have ht_231 : tg z_207 (d (2000 + i_3)) 11 := ⟨hit_216.1, by rw [hkt_230, hkd]; rfl⟩
          obtain ⟨o9, hx_233, hx_234, hx_235, hx_236⟩ := hrs_229.2.1 hkd
          have hs_232 : f_208 (d (2000 + i_3)) = .inr (3, [.int (nI i_3), .int (u.2 4 i_3), .ref (d (3000 + i_3)), .int (u.2 22 i_3), .ref (d (4000 + i_3)), .ref (d (2000 + o9)), .int (u.2 7 i_3), .int (u.2 8 i_3)]) := by rw [hs_217, ht_231.2, hx_236]; rfl
          refine W.eq (g2 := F0 m 55 ls [.ref q_199]) rfl ?_
          have hp_242 : pcS z_207 q_199 (some (d (2000 + i_3))) p1 p2 p3 zr_202 zr_205 := ⟨ht_210, by rw [ez_207, pz_s]⟩
          refine lv_astore (lv' := [(7, .ref q_199), (6, .ref (d (2000 + i_3))), (0, .ref h0), (1, .int p0), (2, .int p1), (3, .int p2), (4, .int p3), (5, .int p4)]) hx hb dX11_put_55 hl (by decide) rfl (fun ls hl => ?_)
          refine lv_aload hx hb dX11_put_57 (lv_at hl 1 rfl) ?_
          obtain ⟨kk_243, hk_244⟩ := pl_at ht_231.1 hs_232
          refine vp_callSi (va_runU (As := []) (rest := []) ⟨hx, hb, hml, hown, hts⟩ (y_hasRoom l dC dI q h0 d k z_207 f_208 hI (d (2000 + i_3)) hit_216 (nI i_3) (u.2 4 i_3) (u.2 22 i_3) (d (3000 + i_3)) (d (4000 + i_3)) rs_212 hs_217 n_213 g_214 hps_219 hpa_218) (va_cwU 0 hts gX11_put_X4_hasRoom_u148X3 rfl rfl rfl rfl zu_33 ⟨Nat.le_of_ble_eq_true rfl, Nat.le_of_ble_eq_true rfl⟩) ⟨px_fb, va_recv hK hP (ci := 3) (q0 := kk_243) rfl hk_244, fun U hU hW => ⟨rfl, px_to hU hW hP hK hN hXN⟩⟩ rfl rfl hl.1 rfl (lv_room (Nat.le_of_ble_eq_true rfl)) dX11_put_59 ⟨Nat.le_of_ble_eq_true rfl, Nat.le_of_ble_eq_true rfl⟩).run (fun r hw => ?_)
          obtain rfl : r = (bP ((u.2 22 i_3) < nI n_213)) := hw
          refine lv_if_eq (tgt := 102) hx hb dX11_put_62 (by decide) (fun c_245 => ?_) (fun c_245 => ?_)
          ·
            refine lv_iconst (v := (-1)) hx hb dX11_put_102 (by decide) ?_
            refine W.widen (k := 2) (n := 10) (Nat.le_of_ble_eq_true rfl) (Nat.le_of_ble_eq_true rfl) ?_
            exact W.iret (v := (-1)) hx hb hr (fun t ht hW => ⟨⟨(-1), (k, z_207, f_208), rfl, (Or.inl ⟨Or.inr (Or.inr (Or.inr ⟨i_3, ep_5, hi_4, Or.inl (noN h6_221 hcb_222 hnn_225 (bP_0 c_245))⟩)), ⟨hEz, hI, rfl, hrp_211, fun _ _ => rfl, hk1o, Or.inl ⟨h3m, rfl⟩⟩⟩), by rw [ht]; exact hP, hD⟩, hS.F ht⟩) hS.2.2 dX11_put_103
          ·
            refine lv_aload_n hx hb dX11_put_65 rfl (lv_at hl 2 rfl) ?_
            obtain ⟨kk_246, hk_247⟩ := pl_at hI.2.1.1.1 hI.2.2.2.1.1
            refine va_get (D := (dC, dI)) (ci := 10) (v := .ref (d 0)) (C := RX11) (T := TX11) (N := 9) hx hb hts zl_X11_put_X11 hown hK hP kk_246 hk_247 rfl 0 (by decide) (hts (.fieldLink RX11 11 "PageOne" "pages" "[LPageOne$Sheet;") (zat q_wsX11_put k_wsX11_put 112 rfl (by decide +kernel))) (fun _ h9 => h9) rfl dX11_put_66 ?_
            refine lv_iload_n hx hb dX11_put_69 rfl (lv_at hl 4 rfl) ?_
            obtain ⟨g_248, hs_249, hg_250⟩ := x_pg hI hI.2.1.2.1
            obtain ⟨kk_251, hk_252⟩ := pl_at hI.2.1.2.1.1 hs_249
            refine va_aldq hx hb hK hP kk_251 2 hk_252 rfl (vin b_26 (by decide)) dX11_put_70 ?_
            obtain ⟨b_253, hg_254, ht_255⟩ := hg_250 _ (vlt (vin b_26 (by decide)))
            rw [hg_254]
            refine W.eq (g2 := F0 m 71 ls [.ref b_253]) rfl ?_
            have hb_256 := pg_at hrp_211.1 hs_249 (clp b_26) hg_254
            subst hb_256
            obtain ⟨dd_257, ii_258, gl_259, gc_260, ht_261, ht_262, ht_263, hs_264, hg_265, hgb_266, hc_267, el_268, ec_269⟩ := pg_all hI hrp_211.1 (clp b_26)
            refine lv_aload hx hb dX11_put_71 (lv_at hl 0 rfl) ?_
            obtain ⟨kk_270, hk_271⟩ := pl_at ht_261.1 hs_264
            refine vp_callSi (va_runV (As := [.ref q_199]) (rest := []) ⟨hx, hb, hml, hown, hts⟩ (y_isFree l dC dI q h0 d k z_207 f_208 hI (d (10 + p1.toNatClampNeg)) (d (30 + p1.toNatClampNeg)) (d (50 + p1.toNatClampNeg)) (u.2 1 p1.toNatClampNeg) dd_257 ii_258 gl_259 gc_260 ht_261 hs_264 ht_262 ht_263 hg_265 hgb_266 hc_267 q_199 (some (d (2000 + i_3))) p1 p2 p3 zr_202 zr_205 hp_242) (cwV 1 hts gX11_put_X9_isFree rfl rfl rfl zh_X9_isFree_82 ⟨Nat.le_of_ble_eq_true rfl, Nat.le_of_ble_eq_true rfl⟩) ⟨px_fb, va_recv hK hP (ci := 8) (q0 := kk_270) rfl hk_271, fun U hU hW => ⟨rfl, px_to hU hW hP hK hN hXN⟩⟩ rfl rfl hl.1 rfl (lv_room (Nat.le_of_ble_eq_true rfl)) dX11_put_73 ⟨Nat.le_of_ble_eq_true rfl, Nat.le_of_ble_eq_true rfl⟩).run (fun r hw => ?_)
            rcases hw with ⟨hw, hfr_272⟩ | ⟨hw, hfr_272⟩
            ·
              subst hw
              refine lv_if_eq (tgt := 102) hx hb dX11_put_76 (by decide) (fun c_273 => absurd c_273 (by decide)) (fun c_273 => ?_)
              refine lv_aload hx hb dX11_put_79 (lv_at hl 1 rfl) ?_
              refine lv_aload hx hb dX11_put_81 (lv_at hl 0 rfl) ?_
              refine lv_aload_n hx hb dX11_put_83 rfl (lv_at hl 2 rfl) ?_
              obtain ⟨kk_274, hk_275⟩ := pl_at hI.2.1.1.1 hI.2.2.2.1.1
              refine va_get (D := (dC, dI)) (ci := 10) (v := .ref (d 0)) (C := RX11) (T := TX11) (N := 9) hx hb hts zl_X11_put_X11 hown hK hP kk_274 hk_275 rfl 0 (by decide) (hts (.fieldLink RX11 11 "PageOne" "pages" "[LPageOne$Sheet;") (zat q_wsX11_put k_wsX11_put 112 rfl (by decide +kernel))) (fun _ h9 => h9) rfl dX11_put_84 ?_
              refine lv_iload_n hx hb dX11_put_87 rfl (lv_at hl 4 rfl) ?_
              obtain ⟨kk_276, hk_277⟩ := pl_at hI.2.1.2.1.1 hs_249
              refine va_aldq hx hb hK hP kk_276 2 hk_277 rfl (vin b_26 (by decide)) dX11_put_88 ?_
              obtain ⟨b_278, hg_279, ht_280⟩ := hg_250 _ (vlt (vin b_26 (by decide)))
              rw [hg_279]
              refine W.eq (g2 := F0 m 89 ls [.ref b_278, .ref q_199, .ref (d (2000 + i_3))]) rfl ?_
              have hb_281 := pg_at hrp_211.1 hs_249 (clp b_26) hg_279
              subst hb_281
              obtain ⟨dd_282, ii_283, gl_284, gc_285, ht_286, ht_287, ht_288, hs_289, hg_290, hgb_291, hc_292, el_293, ec_294⟩ := pg_all hI hrp_211.1 (clp b_26)
              obtain ⟨kk_295, hk_296⟩ := pl_at ht_286.1 hs_289
              refine va_get (D := (dC, dI)) (ci := 8) (v := .int (u.2 1 p1.toNatClampNeg)) (C := RX9) (T := TX9) (N := 5) hx hb hts zl_X11_put_X9 hown hK hP kk_295 hk_296 rfl 2 (by decide) (hts (.fieldLink RX11 63 "PageOne$Sheet" "measure" "I") (zat q_wsX11_put k_wsX11_put 94 rfl (by decide +kernel))) (fun _ h9 => h9) rfl dX11_put_89 ?_
              refine lv_aload_n hx hb dX11_put_92 rfl (lv_at hl 2 rfl) ?_
              obtain ⟨kk_297, hk_298⟩ := pl_at hI.2.1.1.1 hI.2.2.2.1.1
              refine va_get (D := (dC, dI)) (ci := 10) (v := .int (k 2)) (C := RX11) (T := TX11) (N := 9) hx hb hts zl_X11_put_X11 hown hK hP kk_297 hk_298 rfl 7 (by decide) (hts (.fieldLink RX11 41 "PageOne" "today" "I") (zat q_wsX11_put k_wsX11_put 119 rfl (by decide +kernel))) (fun _ h9 => h9) rfl dX11_put_93 ?_
              obtain ⟨kk_299, hk_300⟩ := pl_at ht_231.1 hs_232
              refine vp_callSi (va_runU (As := [.ref q_199, .int (u.2 1 p1.toNatClampNeg), .int (k 2)]) (rest := []) ⟨hx, hb, hml, hown, hts⟩ (y_sit1 l dC dI q h0 d k z_207 f_208 hI (d (2000 + i_3)) q_199 (u.2 1 p1.toNatClampNeg) (k 2) hit_216) (va_cwU 3 hts gX11_put_X4_maySit_u155X3 rfl rfl rfl rfl zu_84 ⟨Nat.le_of_ble_eq_true rfl, Nat.le_of_ble_eq_true rfl⟩) ⟨px_fb, va_recv hK hP (ci := 3) (q0 := kk_299) rfl hk_300, fun U hU hW => ⟨rfl, px_to hU hW hP hK hN hXN⟩⟩ rfl rfl hl.1 rfl (lv_room (Nat.le_of_ble_eq_true rfl)) dX11_put_96 ⟨Nat.le_of_ble_eq_true rfl, Nat.le_of_ble_eq_true rfl⟩).run (fun r hw => ?_)
              obtain ⟨zr_301, ezr_301⟩ : ∃ y : Int32, y = (1 : Int32) := ⟨_, rfl⟩
              have hr9 : zr_301 = r := ezr_301.trans hw.symm
              subst hr9
              refine lv_if_ne (tgt := 104) hx hb dX11_put_99 (by decide) (fun c_302 => ?_) (fun c_302 => ?_)
              ·
                have hmF := (fr_iff (clp b_26) el_268 ec_269 hgb_266).mp hfr_272
                obtain ⟨P, eP⟩ : ∃ y, y = p1.toNatClampNeg := ⟨_, rfl⟩
                have eP1 : p1 = nI P := by rw [eP]; exact (nI_of_bw b_26).1
                obtain ⟨X, Y, D, N, eX, eY, eD, eN, hrx, hemp⟩ := fr_rIn (clp b_26) (fun a ha => by rw [← el_268 a ha]; exact hgb_266 a ha) hmF
                rw [← eP] at hrx hemp hmF
                have hrx9 := hrx
                obtain ⟨hP9, hX, hD1, hY, hN1, hin⟩ := hrx9
                have hpcx : pcS z_207 q_199 (some (d (2000 + i_3))) (nI P) (nI X) (nI Y) (nI D) (nI N) := by rw [← eP1, ← eX, ← eY, ← eD, ← eN]; exact hp_242
                have hlg_303 := lg_of hpcx ⟨b7n (by omega), b60n (by omega), bwN (by have e8 : (8 : Int32).toInt = 8 := rfl; rw [e8]; omega) (by omega), b60n (by omega)⟩
                have hrm9 : (u.2 22 i_3).toNatClampNeg < (if u.2 4 i_3 = 0 then 6 else 1) := ltN h6_221 hcb_222 hnn_225 (bP_n c_245)
                refine lv_aload_n hx hb dX11_put_104 rfl (lv_at hl 2 rfl) ?_
                refine lv_aload hx hb dX11_put_105 (lv_at hl 0 rfl) ?_
                obtain ⟨kk_304, hk_305⟩ := pl_at hI.2.1.1.1 hI.2.2.2.1.1
                have hFc := fr_all hD hS hA
                refine va_callv (va_runV (As := [.ref q_199]) (rest := []) ⟨hx, hb, hml, hown, hts⟩ (y_standI l dC dI q h0 d k z_207 f_208 hI q_199 P X Y D N u hrp_211 hk0 hk1o hk2 hk3 hP9 hX hD1 hY hin hne i_3 hi_4 hpcx hrm9 H.size) (cwV 1 hts gX11_put_X11_stand rfl rfl rfl zh_X11_stand_62 ⟨Nat.le_of_ble_eq_true rfl, Nat.le_of_ble_eq_true rfl⟩) ⟨gx_fb, va_recv hK hP (ci := 10) (q0 := kk_304) rfl hk_305, fun U hU hW => ⟨rfl, by rw [hU], px_to hU hW hP hK hN hXN, hD.weaken (fun _ _ _ _ => trivial)⟩⟩ rfl rfl hl.1 rfl (lv_room (Nat.le_of_ble_eq_true rfl)) dX11_put_107 ⟨Nat.le_of_ble_eq_true rfl, Nat.le_of_ble_eq_true rfl⟩) hS (fun q _ h => hFc q h) hFc (fun w_306 t H1 locs ht hvm hw hB hz1 hk1 hS => ?_)
                obtain ⟨hP, hD1⟩ := hB
                rw [ht] at hP
                rw [hw.2.1] at hP hD1
                have hD := hD1.weaken (fun _ q _ h => hFc q.1 h)
                have hI := hw.2.2.1
                have hw0 := hw
                generalize w_306.2.2 = f_307 at hP hD hI hw0
                generalize H1 = H at hP hS ⊢
                obtain ⟨u2, eu2⟩ : ∃ y : mS, y = mStand u (nI i_3) P X Y D N := ⟨_, rfl⟩
                have hrp2 : rep q d u2 z_207 f_307 := by rw [eu2]; exact hw0.2.2.2.1
                have h3m : f_307 (d 3) = f (d 3) := hw0.2.2.2.2.trans h3m
                refine lv_aload_n hx hb dX11_put_110 rfl (lv_at hl 2 rfl) ?_
                refine va_new (ci := 0) (fs := [.null, .int 0, .null, .int 0]) (C := RX0) (T := TX0) (N := 4) hx hb hts zl_X11_put_X0 tyX0 tyX0_ok hown (hts (.classLink RX11 28 RX0) (zat q_wsX11_put k_wsX11_put 80 rfl (by decide +kernel))) (hts (.instantiable RX0 4) (zat q_wsX11_put k_wsX11_put 598 rfl (by decide +kernel))) (hts (.initialized RX0) (zat q_wsX11_put k_wsX11_put 65 rfl (by decide +kernel))) hK hP hD hS hA rfl nwX0 (Nat.le_of_ble_eq_true rfl) (Nat.le_of_ble_eq_true rfl) dX11_put_111 (fun q_308 H hPn hDn hS => ?_)
                have hP := vaP_l hPn
                refine W.widen (k := 2) (n := 10) (Nat.le_of_ble_eq_true rfl) (Nat.le_of_ble_eq_true rfl) ?_
                refine lv_dup hx hb dX11_put_114 rfl ?_
                refine lv_aload hx hb dX11_put_115 (lv_at hl 0 rfl) ?_
                refine lv_iconst (v := 0) hx hb dX11_put_117 (by decide) ?_
                refine lv_null hx hb dX11_put_118 ?_
                have hPc := vaP_r hPn
                have hDc := vaD_r hDn
                have hFc := fr_part hDn hS hA
                refine va_callv (va_runI (As := [.ref q_199, .int 0, .null]) (rest := [.ref q_308, .ref h0]) ⟨hx, hb, hml, hown, hts⟩ (x_ActP l dC dI q_308 q_199 H.size) (cwI 3 hts gX11_put_X0_init rfl rfl rfl (hts (.initialized RX0) (zat q_wsX11_put k_wsX11_put 65 rfl (by decide +kernel))) (hts (.methodLink RX11 163 yX0_init) (zat q_wsX11_put k_wsX11_put 599 rfl (by decide +kernel))) (hts (.instanceMethod yX0_init) (zat q_wsX11_put k_wsX11_put 600 rfl (by decide +kernel))) rfl zh_X0_init_81 ⟨Nat.le_of_ble_eq_true rfl, Nat.le_of_ble_eq_true rfl⟩) ⟨gw_fb, fun U hU hW => ⟨rfl, by rw [hU], pw_to hU hW hPc (hK.sub (tys' := []) [] rfl) hN, hDc.weaken (fun _ _ _ _ => trivial)⟩⟩ rfl rfl hl.1 rfl (lv_room (Nat.le_of_ble_eq_true rfl)) dX11_put_119 ⟨Nat.le_of_ble_eq_true rfl, Nat.le_of_ble_eq_true rfl⟩) hS (fun q _ h => hFc q h) hFc (fun u9 t H1 locs ht hvm hw hB hz1 hk1 hS => ?_)
                obtain ⟨hP1, hD1⟩ := hB
                rw [ht] at hP1
                obtain ⟨hP, hD⟩ := va_joinQ (X := [(q_308, .inr (0, [.null, .int 0, .null, .int 0]))]) (cx := [(q_308, .inr (0, [.null, .int 0, .null, .int 0]))]) (wr := []) (w1 := [(q_308, .inr (0, [.ref q_199, .int 0, va_rf none, .int 1]))]) (pl := va_pl z_207.1 f_307) (vaP_swap hPn) (vaD_rotR hDn) [0] [] rfl rfl rfl (fun i hi => absurd hi List.not_mem_nil) hk1 hFc hP1 hD1
                generalize H1 = H at hP hS ⊢
                obtain ⟨hnm_309, hP, hD⟩ := pushC hP hD
                obtain ⟨z_310, ez_310⟩ : ∃ y : gS, y = pz z_207 q_308 (23, 0, [.ref q_199, .int 0, va_rf none, .int 1]) := ⟨_, rfl⟩
                obtain ⟨f_311, ef_311⟩ : ∃ y : xF, y = va_up f_307 q_308 (.inr (0, [.ref q_199, .int 0, va_rf none, .int 1])) := ⟨_, rfl⟩
                have hE_312 : zE z_207 z_310 := by rw [ez_310]; exact pz_E hnm_309 _
                have hI : xI q h0 d k z_310 f_311 := by rw [ez_310, ef_311]; exact x_push hI hnm_309 (Or.inr (by decide : (15 : Nat) < 23)) (cO_ac hlg_303 hnm_309)
                rw [show z_207.1 ++ [q_308] = z_310.1 from by rw [ez_310]; rfl, ← ef_311] at hP hD
                have ht_231 := zE_tg hE_312 ht_231
                have hpa_218 := zE_tg hE_312 hpa_218
                have hfa_226 := zE_tg hE_312 hfa_226
                have hlg_303 := zE_lg hE_312 hlg_303
                have ht_286 := zE_tg hE_312 ht_286
                have ht_287 := zE_tg hE_312 ht_287
                have ht_288 := zE_tg hE_312 ht_288
                have hp_242 := zE_pc hE_312 hp_242
                have hpcx := zE_pc hE_312 hpcx
                have ht_313 : tg z_310 q_308 23 := by rw [ez_310]; exact pz_t _ _ _
                have hEz : zE z z_310 := zE_tr hEz hE_312
                have h3m : f_311 (d 3) = f (d 3) := by rw [ef_311]; exact (up_o (fun e9 => hnm_309 (by rw [← e9]; exact hrp2.2.2.2.2.2.2.2.1.1.1))).trans h3m
                have hrp_314 : rep q d u2 z_310 f_311 := by rw [ez_310, ef_311]; exact rep_grow hrp2 (pz_E hnm_309 _) (oK_push (fun _ _ => rfl) (zE_rf _) hnm_309)
                refine W.eq (g2 := F0 m 122 ls [.ref q_308, .ref h0]) rfl ?_
                have hIb := hI
                have hcx : ¬ 300 ≤ k 1 := hca_30
                obtain ⟨kk_315, hk_316⟩ := pl_at hI.2.1.1.1 hI.2.2.2.1.1
                have hFc := fr_all hD hS hA
                refine va_callv (va_runV (As := [.ref q_308]) (rest := []) ⟨hx, hb, hml, hown, hts⟩ (y_keep l dC dI q h0 d k z_310 f_311 hI q_308 ht_313 hcx H.size) (cwV 1 hts gX11_put_X11_keep rfl rfl rfl zh_X11_keep_79 ⟨Nat.le_of_ble_eq_true rfl, Nat.le_of_ble_eq_true rfl⟩) ⟨gx_fb, va_recv hK hP (ci := 10) (q0 := kk_315) rfl hk_316, fun U hU hW => ⟨rfl, by rw [hU], px_to hU hW hP hK hN hXN, hD.weaken (fun _ _ _ _ => trivial)⟩⟩ rfl rfl hl.1 rfl (lv_room (Nat.le_of_ble_eq_true rfl)) dX11_put_122 ⟨Nat.le_of_ble_eq_true rfl, Nat.le_of_ble_eq_true rfl⟩) hS (fun q _ h => hFc q h) hFc (fun w_317 t H1 locs ht hvm hw hB hz1 hk1 hS => ?_)
                obtain ⟨hP, hD1⟩ := hB
                rw [ht] at hP
                rw [hw.1] at hP hD1
                have hD := hD1.weaken (fun _ q _ h => hFc q.1 h)
                have hI := hw.2.1
                have hw0 := hw
                generalize w_317.1 = k_319 at hI hw0
                generalize w_317.2.2 = f_318 at hP hD hI hw0
                generalize H1 = H at hP hS ⊢
                have hkp := hw0.2.2
                have hrp_320 : rep q d u2 z_310 f_318 := rep_kp hrp_314 hIb (by rw [zE_o hEz hIo.2.1.1.1]; exact hz0) hkp
                have hi3 : i_3 < (u2.1 3).toNatClampNeg := by rw [eu2]; exact hi_4
                obtain ⟨rs_321, n_322, g_323, fg_324, hit_325, hs_326, hpa_327, hps_328, h1_329, h6_330, hcb_331, hpl_332, hlg_333, hnn_334, hfa_335, hfs_336, hfe_337, hrs_338, hkt_339⟩ := it_all hI hrp_320.2.2.1 hi3
                refine lv_aload hx hb dX11_put_125 (lv_at hl 1 rfl) ?_
                obtain ⟨kk_340, hk_341⟩ := pl_at hit_325.1 hs_326
                refine w_then (F0 m 130 ls [.int (u2.2 22 i_3)]) (fun hgo => ?_) ?_
                ·
                  rcases x_tag hit_325 with ht9 | ht9 | ht9 | ht9 | ht9 | ht9
                  ·
                    rw [ht9.2] at hk_341
                    exact va_get (D := (dC, dI)) (ci := 2) (v := .int (u2.2 22 i_3)) (C := RX2) (T := TX2) (N := 7) hx hb hts zl_X11_put_X2 hown hK hP kk_340 hk_341 rfl 3 (by decide) (hts (.fieldLink RX11 170 "PageOne$Item" "count" "I") (zat q_wsX11_put k_wsX11_put 197 rfl (by decide +kernel))) (fun _ h9 => h9) rfl dX11_put_127 hgo
                  ·
                    rw [ht9.2] at hk_341
                    exact va_get (D := (dC, dI)) (ci := 3) (v := .int (u2.2 22 i_3)) (C := RX3) (T := TX3) (N := 8) hx hb hts zl_X11_put_X3 hown hK hP kk_340 hk_341 rfl 3 (by decide) (hts (.fieldLink RX11 170 "PageOne$Item" "count" "I") (zat q_wsX11_put k_wsX11_put 197 rfl (by decide +kernel))) (fun _ h9 => h9) rfl dX11_put_127 hgo
                  ·
                    rw [ht9.2] at hk_341
                    exact va_get (D := (dC, dI)) (ci := 4) (v := .int (u2.2 22 i_3)) (C := RX5) (T := TX5) (N := 7) hx hb hts zl_X11_put_X5 hown hK hP kk_340 hk_341 rfl 3 (by decide) (hts (.fieldLink RX11 170 "PageOne$Item" "count" "I") (zat q_wsX11_put k_wsX11_put 197 rfl (by decide +kernel))) (fun _ h9 => h9) rfl dX11_put_127 hgo
                  ·
                    rw [ht9.2] at hk_341
                    exact va_get (D := (dC, dI)) (ci := 5) (v := .int (u2.2 22 i_3)) (C := RX6) (T := TX6) (N := 9) hx hb hts zl_X11_put_X6 hown hK hP kk_340 hk_341 rfl 3 (by decide) (hts (.fieldLink RX11 170 "PageOne$Item" "count" "I") (zat q_wsX11_put k_wsX11_put 197 rfl (by decide +kernel))) (fun _ h9 => h9) rfl dX11_put_127 hgo
                  ·
                    rw [ht9.2] at hk_341
                    exact va_get (D := (dC, dI)) (ci := 6) (v := .int (u2.2 22 i_3)) (C := RX7) (T := TX7) (N := 8) hx hb hts zl_X11_put_X7 hown hK hP kk_340 hk_341 rfl 3 (by decide) (hts (.fieldLink RX11 170 "PageOne$Item" "count" "I") (zat q_wsX11_put k_wsX11_put 197 rfl (by decide +kernel))) (fun _ h9 => h9) rfl dX11_put_127 hgo
                  ·
                    rw [ht9.2] at hk_341
                    exact va_get (D := (dC, dI)) (ci := 9) (v := .int (u2.2 22 i_3)) (C := RX10) (T := TX10) (N := 9) hx hb hts zl_X11_put_X10 hown hK hP kk_340 hk_341 rfl 3 (by decide) (hts (.fieldLink RX11 170 "PageOne$Item" "count" "I") (zat q_wsX11_put k_wsX11_put 197 rfl (by decide +kernel))) (fun _ h9 => h9) rfl dX11_put_127 hgo
                ·
                  exact W.iret (v := (u2.2 22 i_3)) hx hb hr (fun t ht hW => ⟨⟨(u2.2 22 i_3), (k_319, z_310, f_318), rfl, (Or.inr ⟨i_3, P, X, Y, D, N, ⟨ep_5, hi_4, eP1, eX, eY, ((show cpW u i_3 p4 = zr_202 by unfold cpW; rw [if_pos (by rw [hkd]; decide), ezr_202]; rfl)).trans eD, ((show cpH u i_3 p4 = zr_205 by unfold cpH; rw [if_neg (by rw [hkd]; decide), if_neg (by rw [hkd]; decide), if_neg (by rw [hkd]; decide), ezr_205]; rfl)).trans eN, (by rw [← hk1o]; exact (n300 hIo.1.2.1).2 hcx), hrx, hrm9, by rw [← eP1] at hmF; rw [(show cpW u i_3 p4 = zr_202 by unfold cpW; rw [if_pos (by rw [hkd]; decide), ezr_202]; rfl), (show cpH u i_3 p4 = zr_205 by unfold cpH; rw [if_neg (by rw [hkd]; decide), if_neg (by rw [hkd]; decide), if_neg (by rw [hkd]; decide), ezr_205]; rfl)]; exact hmF, ⟨zr_301, c_302, by rw [(show cpW u i_3 p4 = zr_202 by unfold cpW; rw [if_pos (by rw [hkd]; decide), ezr_202]; rfl), (show cpH u i_3 p4 = zr_205 by unfold cpH; rw [if_neg (by rw [hkd]; decide), if_neg (by rw [hkd]; decide), if_neg (by rw [hkd]; decide), ezr_205]; rfl)]; exact ⟨(fun h9 => absurd (hkd.symm.trans h9) (by decide)), (fun h9 => absurd (hkd.symm.trans h9) (by decide)), (fun h9 => absurd (hkd.symm.trans h9) (by decide)), (fun _ => ezr_301)⟩⟩, hemp⟩, by rw [show (u2.2 22 i_3) = (mStand u (nI i_3) P X Y D N).2 22 i_3 from by rw [eu2]]; exact put_fin hk1o hi8 hEz hI (by rw [← eu2]; exact hrp_320) h3m hkp.1 (kp_3 hrp_314 hIb hkp) ⟨ht_313, by rw [ez_310, pz_s]⟩ hpcx⟩), by rw [ht]; exact hP, hD⟩, hS.F ht⟩) hS.2.2 dX11_put_130
              ·
                refine lv_iconst (v := (-1)) hx hb dX11_put_102 (by decide) ?_
                refine W.widen (k := 2) (n := 10) (Nat.le_of_ble_eq_true rfl) (Nat.le_of_ble_eq_true rfl) ?_
                exact W.iret (v := (-1)) hx hb hr (fun t ht hW => ⟨⟨(-1), (k, z_207, f_208), rfl, (Or.inl ⟨Or.inr (Or.inr (Or.inr ⟨i_3, ep_5, hi_4, Or.inr (Or.inr (by rw [(show cpW u i_3 p4 = zr_202 by unfold cpW; rw [if_pos (by rw [hkd]; decide), ezr_202]; rfl), (show cpH u i_3 p4 = zr_205 by unfold cpH; rw [if_neg (by rw [hkd]; decide), if_neg (by rw [hkd]; decide), if_neg (by rw [hkd]; decide), ezr_205]; rfl)]; exact ⟨(fun h9 => absurd (hkd.symm.trans h9) (by decide)), (fun h9 => absurd (hkd.symm.trans h9) (by decide)), (fun h9 => absurd (hkd.symm.trans h9) (by decide)), (fun _ => (c_302.symm.trans ezr_301))⟩))⟩)), ⟨hEz, hI, rfl, hrp_211, fun _ _ => rfl, hk1o, Or.inl ⟨h3m, rfl⟩⟩⟩), by rw [ht]; exact hP, hD⟩, hS.F ht⟩) hS.2.2 dX11_put_103
            ·
              subst hw
              refine lv_if_eq (tgt := 102) hx hb dX11_put_76 (by decide) (fun c_342 => ?_) (fun c_342 => absurd (by decide) c_342)
              refine lv_iconst (v := (-1)) hx hb dX11_put_102 (by decide) ?_
              refine W.widen (k := 2) (n := 10) (Nat.le_of_ble_eq_true rfl) (Nat.le_of_ble_eq_true rfl) ?_
              exact W.iret (v := (-1)) hx hb hr (fun t ht hW => ⟨⟨(-1), (k, z_207, f_208), rfl, (Or.inl ⟨Or.inr (Or.inr (Or.inr ⟨i_3, ep_5, hi_4, Or.inr (Or.inl (fun h9 => hfr_272 ((fr_iff2 b_26 el_268 ec_269 hgb_266).mpr (by rw [(show cpW u i_3 p4 = zr_202 by unfold cpW; rw [if_pos (by rw [hkd]; decide), ezr_202]; rfl), (show cpH u i_3 p4 = zr_205 by unfold cpH; rw [if_neg (by rw [hkd]; decide), if_neg (by rw [hkd]; decide), if_neg (by rw [hkd]; decide), ezr_205]; rfl)] at h9; exact h9))))⟩)), ⟨hEz, hI, rfl, hrp_211, fun _ _ => rfl, hk1o, Or.inl ⟨h3m, rfl⟩⟩⟩), by rw [ht]; exact hP, hD⟩, hS.F ht⟩) hS.2.2 dX11_put_103
        ·
          have ht_343 : tg z (d (2000 + i_3)) 14 := ⟨hit_10.1, by rw [hkt_24, hkd]; rfl⟩
          obtain ⟨hx_345, hx_346, hx_347, ⟨hx_348, hx_349, hx_350⟩, hx_351, hx_352, hx_353⟩ := hrs_23.2.2.1 hkd
          have hs_344 : f (d (2000 + i_3)) = .inr (6, [.int (nI i_3), .int (u.2 4 i_3), .ref (d (3000 + i_3)), .int (u.2 22 i_3), .ref (d (4000 + i_3)), .ref (d (5000 + i_3)), .ref (d (6000 + i_3)), .int (u.2 17 i_3)]) := by rw [hs_11, ht_343.2, hx_345]; rfl
          refine va_new (ci := 7) (fs := [.null, .int 0, .int 0, .int 0, .int 0, .int 0]) (C := RX8) (T := TX8) (N := 6) hx hb hts zl_X11_put_X8 tyX8 tyX8_ok hown (hts (.classLink RX11 106 RX8) (zat q_wsX11_put k_wsX11_put 309 rfl (by decide +kernel))) (hts (.instantiable RX8 6) (zat q_wsX11_put k_wsX11_put 310 rfl (by decide +kernel))) (hts (.initialized RX8) (zat q_wsX11_put k_wsX11_put 62 rfl (by decide +kernel))) hK hP hD hS hA rfl nwX8 (Nat.le_of_ble_eq_true rfl) (Nat.le_of_ble_eq_true rfl) dX11_put_28 (fun q_354 H hPn hDn hS => ?_)
          have hP := vaP_l hPn
          refine W.widen (k := 1) (n := 6) (Nat.le_of_ble_eq_true rfl) (Nat.le_of_ble_eq_true rfl) ?_
          refine lv_dup hx hb dX11_put_31 rfl ?_
          refine lv_aload hx hb dX11_put_32 (lv_at hl 0 rfl) ?_
          refine lv_iload_n hx hb dX11_put_34 rfl (lv_at hl 3 rfl) ?_
          refine lv_iload_n hx hb dX11_put_35 rfl (lv_at hl 4 rfl) ?_
          refine lv_iload hx hb dX11_put_36 (lv_at hl 5 rfl) ?_
          refine lv_aload hx hb dX11_put_38 (lv_at hl 0 rfl) ?_
          refine lv_iload hx hb dX11_put_40 (lv_at hl 6 rfl) ?_
          obtain ⟨kk_355, hk_356⟩ := pl_at ht_343.1 hs_344
          refine vp_callSi (va_runU (As := [.int p4]) (rest := [.int p3, .int p2, .int p1, .ref (d (2000 + i_3)), .ref q_354, .ref q_354]) ⟨hx, hb, hml, hown, hts⟩ (y_X7_columnsBy l dC dI q h0 d k z f hI (d (2000 + i_3)) (d (3000 + i_3)) (d (4000 + i_3)) (d (5000 + i_3)) (d (6000 + i_3)) (nI i_3) (u.2 4 i_3) (u.2 22 i_3) (u.2 17 i_3) ht_343 hs_344 p4 hx_348 hx_346.1 hx_349 (hu.2.2.2.2.2.1 i_3 hi8)) (va_cwO (b0 := cX4_columnsBy) (m0 := 2) (r0 := (some .int)) 1 hts gX11_put_X7_columnsBy_u142X7 rfl rfl rfl (by decide +kernel) (by decide +kernel) ⟨Nat.le_of_ble_eq_true rfl, Nat.le_of_ble_eq_true rfl⟩) ⟨px_fb, va_recv hK hP (ci := 6) (q0 := kk_355) rfl hk_356, fun U hU hW => ⟨rfl, px_to hU hW hP hK hN hXN⟩⟩ rfl rfl hl.1 rfl (lv_room (Nat.le_of_ble_eq_true rfl)) dX11_put_42 ⟨Nat.le_of_ble_eq_true rfl, Nat.le_of_ble_eq_true rfl⟩).run (fun r hw => ?_)
          obtain ⟨zr_357, ezr_357⟩ : ∃ y : Int32, y = s_colsI p4 (u.2 17 i_3) hx_348 := ⟨_, rfl⟩
          have hr9 : zr_357 = r := ezr_357.trans hw.symm
          subst hr9
          refine lv_aload hx hb dX11_put_45 (lv_at hl 0 rfl) ?_
          refine lv_iload hx hb dX11_put_47 (lv_at hl 6 rfl) ?_
          obtain ⟨kk_358, hk_359⟩ := pl_at ht_343.1 hs_344
          refine vp_callSi (va_runU (As := [.int p4]) (rest := [.int zr_357, .int p3, .int p2, .int p1, .ref (d (2000 + i_3)), .ref q_354, .ref q_354]) ⟨hx, hb, hml, hown, hts⟩ (y_X7_linesBy l dC dI q h0 d k z f hI (d (2000 + i_3)) (d (3000 + i_3)) (d (4000 + i_3)) (d (5000 + i_3)) (d (6000 + i_3)) (nI i_3) (u.2 4 i_3) (u.2 22 i_3) (u.2 17 i_3) ht_343 hs_344 p4 hx_351 hx_347.1 hx_352 (hu.2.2.2.2.2.1 i_3 hi8)) (va_cwA 1 hts gX11_put_X7_linesBy_u145X7 rfl rfl rfl hXN.1 (by decide +kernel) ⟨Nat.le_of_ble_eq_true rfl, Nat.le_of_ble_eq_true rfl⟩) ⟨px_fb, va_recv hK hP (ci := 6) (q0 := kk_358) rfl hk_359, fun U hU hW => ⟨rfl, px_to hU hW hP hK hN hXN⟩⟩ rfl rfl hl.1 rfl (lv_room (Nat.le_of_ble_eq_true rfl)) dX11_put_49 ⟨Nat.le_of_ble_eq_true rfl, Nat.le_of_ble_eq_true rfl⟩).run (fun r hw => ?_)
          obtain ⟨zr_360, ezr_360⟩ : ∃ y : Int32, y = s_linesI p4 (u.2 17 i_3) hx_351 := ⟨_, rfl⟩
          have hr9 : zr_360 = r := ezr_360.trans hw.symm
          subst hr9
          have hPc := vaP_r hPn
          have hDc := vaD_r hDn
          have hFc := fr_part hDn hS hA
          refine va_callv (va_runI (As := [.ref (d (2000 + i_3)), .int p1, .int p2, .int p3, .int zr_357, .int zr_360]) (rest := [.ref q_354]) ⟨hx, hb, hml, hown, hts⟩ (x_PieceI l dC dI q_354 (d (2000 + i_3)) p1 p2 p3 zr_357 zr_360 H.size) (cwI 6 hts gX11_put_X8_init rfl rfl rfl (hts (.initialized RX8) (zat q_wsX11_put k_wsX11_put 62 rfl (by decide +kernel))) (hts (.methodLink RX11 108 yX8_init) (zat q_wsX11_put k_wsX11_put 311 rfl (by decide +kernel))) (hts (.instanceMethod yX8_init) (zat q_wsX11_put k_wsX11_put 312 rfl (by decide +kernel))) rfl zh_X8_init_83 ⟨Nat.le_of_ble_eq_true rfl, Nat.le_of_ble_eq_true rfl⟩) ⟨gw_fb, fun U hU hW => ⟨rfl, by rw [hU], pw_to hU hW hPc (hK.sub (tys' := []) [] rfl) hN, hDc.weaken (fun _ _ _ _ => trivial)⟩⟩ rfl rfl hl.1 rfl (lv_room (Nat.le_of_ble_eq_true rfl)) dX11_put_52 ⟨Nat.le_of_ble_eq_true rfl, Nat.le_of_ble_eq_true rfl⟩) hS (fun q _ h => hFc q h) hFc (fun u9 t H1 locs ht hvm hw hB hz1 hk1 hS => ?_)
          obtain ⟨hP1, hD1⟩ := hB
          rw [ht] at hP1
          obtain ⟨hP, hD⟩ := va_joinQ (X := [(q_354, .inr (7, [.null, .int 0, .int 0, .int 0, .int 0, .int 0]))]) (cx := [(q_354, .inr (7, [.null, .int 0, .int 0, .int 0, .int 0, .int 0]))]) (wr := []) (w1 := [(q_354, .inr (7, [va_rf (some (d (2000 + i_3))), .int p1, .int p2, .int p3, .int zr_357, .int zr_360]))]) (pl := va_pl z.1 f) (vaP_swap hPn) (vaD_rotR hDn) [0] [] rfl rfl rfl (fun i hi => absurd hi List.not_mem_nil) hk1 hFc hP1 hD1
          generalize H1 = H at hP hS ⊢
          obtain ⟨hnm_361, hP, hD⟩ := pushC hP hD
          obtain ⟨z_362, ez_362⟩ : ∃ y : gS, y = pz z q_354 (22, 0, [va_rf (some (d (2000 + i_3))), .int p1, .int p2, .int p3, .int zr_357, .int zr_360]) := ⟨_, rfl⟩
          obtain ⟨f_363, ef_363⟩ : ∃ y : xF, y = va_up f q_354 (.inr (7, [va_rf (some (d (2000 + i_3))), .int p1, .int p2, .int p3, .int zr_357, .int zr_360])) := ⟨_, rfl⟩
          have hE_364 : zE z z_362 := by rw [ez_362]; exact pz_E hnm_361 _
          have hI : xI q h0 d k z_362 f_363 := by rw [ez_362, ef_363]; exact x_push hI hnm_361 (Or.inr (by decide : (15 : Nat) < 22)) (cO_pc b_26 (ty_s (tg_itm ht_343 (by decide))) hnm_361)
          rw [show z.1 ++ [q_354] = z_362.1 from by rw [ez_362]; rfl, ← ef_363] at hP hD
          have ht_343 := zE_tg hE_364 ht_343
          have hpa_12 := zE_tg hE_364 hpa_12
          have hfa_20 := zE_tg hE_364 hfa_20
          have ht_365 : tg z_362 q_354 22 := by rw [ez_362]; exact pz_t _ _ _
          have hEz : zE z z_362 := zE_tr (zE_rf z) hE_364
          have h3m : f_363 (d 3) = f (d 3) := by rw [ef_363]; exact (up_o (fun e9 => hnm_361 (by rw [← e9]; exact hrp.2.2.2.2.2.2.2.1.1.1))).trans h3m
          have hrp_366 : rep q d u z_362 f_363 := by rw [ez_362, ef_363]; exact rep_grow hrp (pz_E hnm_361 _) (oK_push (fun _ _ => rfl) (zE_rf _) hnm_361)
          obtain ⟨rs_367, n_368, g_369, fg_370, hit_371, hs_372, hpa_373, hps_374, h1_375, h6_376, hcb_377, hpl_378, hlg_379, hnn_380, hfa_381, hfs_382, hfe_383, hrs_384, hkt_385⟩ := it_all hI hrp_366.2.2.1 hi_4
          have ht_386 : tg z_362 (d (2000 + i_3)) 14 := ⟨hit_371.1, by rw [hkt_385, hkd]; rfl⟩
          obtain ⟨hx_388, hx_389, hx_390, ⟨hx_391, hx_392, hx_393⟩, hx_394, hx_395, hx_396⟩ := hrs_384.2.2.1 hkd
          have hs_387 : f_363 (d (2000 + i_3)) = .inr (6, [.int (nI i_3), .int (u.2 4 i_3), .ref (d (3000 + i_3)), .int (u.2 22 i_3), .ref (d (4000 + i_3)), .ref (d (5000 + i_3)), .ref (d (6000 + i_3)), .int (u.2 17 i_3)]) := by rw [hs_372, ht_386.2, hx_388]; rfl
          refine W.eq (g2 := F0 m 55 ls [.ref q_354]) rfl ?_
          have hp_397 : pcS z_362 q_354 (some (d (2000 + i_3))) p1 p2 p3 zr_357 zr_360 := ⟨ht_365, by rw [ez_362, pz_s]⟩
          refine lv_astore (lv' := [(7, .ref q_354), (6, .ref (d (2000 + i_3))), (0, .ref h0), (1, .int p0), (2, .int p1), (3, .int p2), (4, .int p3), (5, .int p4)]) hx hb dX11_put_55 hl (by decide) rfl (fun ls hl => ?_)
          refine lv_aload hx hb dX11_put_57 (lv_at hl 1 rfl) ?_
          obtain ⟨kk_398, hk_399⟩ := pl_at ht_386.1 hs_387
          refine vp_callSi (va_runU (As := []) (rest := []) ⟨hx, hb, hml, hown, hts⟩ (y_hasRoom l dC dI q h0 d k z_362 f_363 hI (d (2000 + i_3)) hit_371 (nI i_3) (u.2 4 i_3) (u.2 22 i_3) (d (3000 + i_3)) (d (4000 + i_3)) rs_367 hs_372 n_368 g_369 hps_374 hpa_373) (va_cwU 0 hts gX11_put_X4_hasRoom_u148X7 rfl rfl rfl rfl zu_33 ⟨Nat.le_of_ble_eq_true rfl, Nat.le_of_ble_eq_true rfl⟩) ⟨px_fb, va_recv hK hP (ci := 6) (q0 := kk_398) rfl hk_399, fun U hU hW => ⟨rfl, px_to hU hW hP hK hN hXN⟩⟩ rfl rfl hl.1 rfl (lv_room (Nat.le_of_ble_eq_true rfl)) dX11_put_59 ⟨Nat.le_of_ble_eq_true rfl, Nat.le_of_ble_eq_true rfl⟩).run (fun r hw => ?_)
          obtain rfl : r = (bP ((u.2 22 i_3) < nI n_368)) := hw
          refine lv_if_eq (tgt := 102) hx hb dX11_put_62 (by decide) (fun c_400 => ?_) (fun c_400 => ?_)
          ·
            refine lv_iconst (v := (-1)) hx hb dX11_put_102 (by decide) ?_
            refine W.widen (k := 2) (n := 10) (Nat.le_of_ble_eq_true rfl) (Nat.le_of_ble_eq_true rfl) ?_
            exact W.iret (v := (-1)) hx hb hr (fun t ht hW => ⟨⟨(-1), (k, z_362, f_363), rfl, (Or.inl ⟨Or.inr (Or.inr (Or.inr ⟨i_3, ep_5, hi_4, Or.inl (noN h6_376 hcb_377 hnn_380 (bP_0 c_400))⟩)), ⟨hEz, hI, rfl, hrp_366, fun _ _ => rfl, hk1o, Or.inl ⟨h3m, rfl⟩⟩⟩), by rw [ht]; exact hP, hD⟩, hS.F ht⟩) hS.2.2 dX11_put_103
          ·
            refine lv_aload_n hx hb dX11_put_65 rfl (lv_at hl 2 rfl) ?_
            obtain ⟨kk_401, hk_402⟩ := pl_at hI.2.1.1.1 hI.2.2.2.1.1
            refine va_get (D := (dC, dI)) (ci := 10) (v := .ref (d 0)) (C := RX11) (T := TX11) (N := 9) hx hb hts zl_X11_put_X11 hown hK hP kk_401 hk_402 rfl 0 (by decide) (hts (.fieldLink RX11 11 "PageOne" "pages" "[LPageOne$Sheet;") (zat q_wsX11_put k_wsX11_put 112 rfl (by decide +kernel))) (fun _ h9 => h9) rfl dX11_put_66 ?_
            refine lv_iload_n hx hb dX11_put_69 rfl (lv_at hl 4 rfl) ?_
            obtain ⟨g_403, hs_404, hg_405⟩ := x_pg hI hI.2.1.2.1
            obtain ⟨kk_406, hk_407⟩ := pl_at hI.2.1.2.1.1 hs_404
            refine va_aldq hx hb hK hP kk_406 2 hk_407 rfl (vin b_26 (by decide)) dX11_put_70 ?_
            obtain ⟨b_408, hg_409, ht_410⟩ := hg_405 _ (vlt (vin b_26 (by decide)))
            rw [hg_409]
            refine W.eq (g2 := F0 m 71 ls [.ref b_408]) rfl ?_
            have hb_411 := pg_at hrp_366.1 hs_404 (clp b_26) hg_409
            subst hb_411
            obtain ⟨dd_412, ii_413, gl_414, gc_415, ht_416, ht_417, ht_418, hs_419, hg_420, hgb_421, hc_422, el_423, ec_424⟩ := pg_all hI hrp_366.1 (clp b_26)
            refine lv_aload hx hb dX11_put_71 (lv_at hl 0 rfl) ?_
            obtain ⟨kk_425, hk_426⟩ := pl_at ht_416.1 hs_419
            refine vp_callSi (va_runV (As := [.ref q_354]) (rest := []) ⟨hx, hb, hml, hown, hts⟩ (y_isFree l dC dI q h0 d k z_362 f_363 hI (d (10 + p1.toNatClampNeg)) (d (30 + p1.toNatClampNeg)) (d (50 + p1.toNatClampNeg)) (u.2 1 p1.toNatClampNeg) dd_412 ii_413 gl_414 gc_415 ht_416 hs_419 ht_417 ht_418 hg_420 hgb_421 hc_422 q_354 (some (d (2000 + i_3))) p1 p2 p3 zr_357 zr_360 hp_397) (cwV 1 hts gX11_put_X9_isFree rfl rfl rfl zh_X9_isFree_82 ⟨Nat.le_of_ble_eq_true rfl, Nat.le_of_ble_eq_true rfl⟩) ⟨px_fb, va_recv hK hP (ci := 8) (q0 := kk_425) rfl hk_426, fun U hU hW => ⟨rfl, px_to hU hW hP hK hN hXN⟩⟩ rfl rfl hl.1 rfl (lv_room (Nat.le_of_ble_eq_true rfl)) dX11_put_73 ⟨Nat.le_of_ble_eq_true rfl, Nat.le_of_ble_eq_true rfl⟩).run (fun r hw => ?_)
            rcases hw with ⟨hw, hfr_427⟩ | ⟨hw, hfr_427⟩
            ·
              subst hw
              refine lv_if_eq (tgt := 102) hx hb dX11_put_76 (by decide) (fun c_428 => absurd c_428 (by decide)) (fun c_428 => ?_)
              refine lv_aload hx hb dX11_put_79 (lv_at hl 1 rfl) ?_
              refine lv_aload hx hb dX11_put_81 (lv_at hl 0 rfl) ?_
              refine lv_aload_n hx hb dX11_put_83 rfl (lv_at hl 2 rfl) ?_
              obtain ⟨kk_429, hk_430⟩ := pl_at hI.2.1.1.1 hI.2.2.2.1.1
              refine va_get (D := (dC, dI)) (ci := 10) (v := .ref (d 0)) (C := RX11) (T := TX11) (N := 9) hx hb hts zl_X11_put_X11 hown hK hP kk_429 hk_430 rfl 0 (by decide) (hts (.fieldLink RX11 11 "PageOne" "pages" "[LPageOne$Sheet;") (zat q_wsX11_put k_wsX11_put 112 rfl (by decide +kernel))) (fun _ h9 => h9) rfl dX11_put_84 ?_
              refine lv_iload_n hx hb dX11_put_87 rfl (lv_at hl 4 rfl) ?_
              obtain ⟨kk_431, hk_432⟩ := pl_at hI.2.1.2.1.1 hs_404
              refine va_aldq hx hb hK hP kk_431 2 hk_432 rfl (vin b_26 (by decide)) dX11_put_88 ?_
              obtain ⟨b_433, hg_434, ht_435⟩ := hg_405 _ (vlt (vin b_26 (by decide)))
              rw [hg_434]
              refine W.eq (g2 := F0 m 89 ls [.ref b_433, .ref q_354, .ref (d (2000 + i_3))]) rfl ?_
              have hb_436 := pg_at hrp_366.1 hs_404 (clp b_26) hg_434
              subst hb_436
              obtain ⟨dd_437, ii_438, gl_439, gc_440, ht_441, ht_442, ht_443, hs_444, hg_445, hgb_446, hc_447, el_448, ec_449⟩ := pg_all hI hrp_366.1 (clp b_26)
              obtain ⟨kk_450, hk_451⟩ := pl_at ht_441.1 hs_444
              refine va_get (D := (dC, dI)) (ci := 8) (v := .int (u.2 1 p1.toNatClampNeg)) (C := RX9) (T := TX9) (N := 5) hx hb hts zl_X11_put_X9 hown hK hP kk_450 hk_451 rfl 2 (by decide) (hts (.fieldLink RX11 63 "PageOne$Sheet" "measure" "I") (zat q_wsX11_put k_wsX11_put 94 rfl (by decide +kernel))) (fun _ h9 => h9) rfl dX11_put_89 ?_
              refine lv_aload_n hx hb dX11_put_92 rfl (lv_at hl 2 rfl) ?_
              obtain ⟨kk_452, hk_453⟩ := pl_at hI.2.1.1.1 hI.2.2.2.1.1
              refine va_get (D := (dC, dI)) (ci := 10) (v := .int (k 2)) (C := RX11) (T := TX11) (N := 9) hx hb hts zl_X11_put_X11 hown hK hP kk_452 hk_453 rfl 7 (by decide) (hts (.fieldLink RX11 41 "PageOne" "today" "I") (zat q_wsX11_put k_wsX11_put 119 rfl (by decide +kernel))) (fun _ h9 => h9) rfl dX11_put_93 ?_
              obtain ⟨kk_454, hk_455⟩ := pl_at ht_386.1 hs_387
              refine vp_callSi (va_runU (As := [.ref q_354, .int (u.2 1 p1.toNatClampNeg), .int (k 2)]) (rest := []) ⟨hx, hb, hml, hown, hts⟩ (y_sit1 l dC dI q h0 d k z_362 f_363 hI (d (2000 + i_3)) q_354 (u.2 1 p1.toNatClampNeg) (k 2) hit_371) (va_cwU 3 hts gX11_put_X4_maySit_u155X7 rfl rfl rfl rfl zu_84 ⟨Nat.le_of_ble_eq_true rfl, Nat.le_of_ble_eq_true rfl⟩) ⟨px_fb, va_recv hK hP (ci := 6) (q0 := kk_454) rfl hk_455, fun U hU hW => ⟨rfl, px_to hU hW hP hK hN hXN⟩⟩ rfl rfl hl.1 rfl (lv_room (Nat.le_of_ble_eq_true rfl)) dX11_put_96 ⟨Nat.le_of_ble_eq_true rfl, Nat.le_of_ble_eq_true rfl⟩).run (fun r hw => ?_)
              obtain ⟨zr_456, ezr_456⟩ : ∃ y : Int32, y = (1 : Int32) := ⟨_, rfl⟩
              have hr9 : zr_456 = r := ezr_456.trans hw.symm
              subst hr9
              refine lv_if_ne (tgt := 104) hx hb dX11_put_99 (by decide) (fun c_457 => ?_) (fun c_457 => ?_)
              ·
                have hmF := (fr_iff (clp b_26) el_423 ec_424 hgb_421).mp hfr_427
                obtain ⟨P, eP⟩ : ∃ y, y = p1.toNatClampNeg := ⟨_, rfl⟩
                have eP1 : p1 = nI P := by rw [eP]; exact (nI_of_bw b_26).1
                obtain ⟨X, Y, D, N, eX, eY, eD, eN, hrx, hemp⟩ := fr_rIn (clp b_26) (fun a ha => by rw [← el_423 a ha]; exact hgb_421 a ha) hmF
                rw [← eP] at hrx hemp hmF
                have hrx9 := hrx
                obtain ⟨hP9, hX, hD1, hY, hN1, hin⟩ := hrx9
                have hpcx : pcS z_362 q_354 (some (d (2000 + i_3))) (nI P) (nI X) (nI Y) (nI D) (nI N) := by rw [← eP1, ← eX, ← eY, ← eD, ← eN]; exact hp_397
                have hlg_458 := lg_of hpcx ⟨b7n (by omega), b60n (by omega), bwN (by have e8 : (8 : Int32).toInt = 8 := rfl; rw [e8]; omega) (by omega), b60n (by omega)⟩
                have hrm9 : (u.2 22 i_3).toNatClampNeg < (if u.2 4 i_3 = 0 then 6 else 1) := ltN h6_376 hcb_377 hnn_380 (bP_n c_400)
                refine lv_aload_n hx hb dX11_put_104 rfl (lv_at hl 2 rfl) ?_
                refine lv_aload hx hb dX11_put_105 (lv_at hl 0 rfl) ?_
                obtain ⟨kk_459, hk_460⟩ := pl_at hI.2.1.1.1 hI.2.2.2.1.1
                have hFc := fr_all hD hS hA
                refine va_callv (va_runV (As := [.ref q_354]) (rest := []) ⟨hx, hb, hml, hown, hts⟩ (y_standI l dC dI q h0 d k z_362 f_363 hI q_354 P X Y D N u hrp_366 hk0 hk1o hk2 hk3 hP9 hX hD1 hY hin hne i_3 hi_4 hpcx hrm9 H.size) (cwV 1 hts gX11_put_X11_stand rfl rfl rfl zh_X11_stand_62 ⟨Nat.le_of_ble_eq_true rfl, Nat.le_of_ble_eq_true rfl⟩) ⟨gx_fb, va_recv hK hP (ci := 10) (q0 := kk_459) rfl hk_460, fun U hU hW => ⟨rfl, by rw [hU], px_to hU hW hP hK hN hXN, hD.weaken (fun _ _ _ _ => trivial)⟩⟩ rfl rfl hl.1 rfl (lv_room (Nat.le_of_ble_eq_true rfl)) dX11_put_107 ⟨Nat.le_of_ble_eq_true rfl, Nat.le_of_ble_eq_true rfl⟩) hS (fun q _ h => hFc q h) hFc (fun w_461 t H1 locs ht hvm hw hB hz1 hk1 hS => ?_)
                obtain ⟨hP, hD1⟩ := hB
                rw [ht] at hP
                rw [hw.2.1] at hP hD1
                have hD := hD1.weaken (fun _ q _ h => hFc q.1 h)
                have hI := hw.2.2.1
                have hw0 := hw
                generalize w_461.2.2 = f_462 at hP hD hI hw0
                generalize H1 = H at hP hS ⊢
                obtain ⟨u2, eu2⟩ : ∃ y : mS, y = mStand u (nI i_3) P X Y D N := ⟨_, rfl⟩
                have hrp2 : rep q d u2 z_362 f_462 := by rw [eu2]; exact hw0.2.2.2.1
                have h3m : f_462 (d 3) = f (d 3) := hw0.2.2.2.2.trans h3m
                refine lv_aload_n hx hb dX11_put_110 rfl (lv_at hl 2 rfl) ?_
                refine va_new (ci := 0) (fs := [.null, .int 0, .null, .int 0]) (C := RX0) (T := TX0) (N := 4) hx hb hts zl_X11_put_X0 tyX0 tyX0_ok hown (hts (.classLink RX11 28 RX0) (zat q_wsX11_put k_wsX11_put 80 rfl (by decide +kernel))) (hts (.instantiable RX0 4) (zat q_wsX11_put k_wsX11_put 598 rfl (by decide +kernel))) (hts (.initialized RX0) (zat q_wsX11_put k_wsX11_put 65 rfl (by decide +kernel))) hK hP hD hS hA rfl nwX0 (Nat.le_of_ble_eq_true rfl) (Nat.le_of_ble_eq_true rfl) dX11_put_111 (fun q_463 H hPn hDn hS => ?_)
                have hP := vaP_l hPn
                refine W.widen (k := 2) (n := 10) (Nat.le_of_ble_eq_true rfl) (Nat.le_of_ble_eq_true rfl) ?_
                refine lv_dup hx hb dX11_put_114 rfl ?_
                refine lv_aload hx hb dX11_put_115 (lv_at hl 0 rfl) ?_
                refine lv_iconst (v := 0) hx hb dX11_put_117 (by decide) ?_
                refine lv_null hx hb dX11_put_118 ?_
                have hPc := vaP_r hPn
                have hDc := vaD_r hDn
                have hFc := fr_part hDn hS hA
                refine va_callv (va_runI (As := [.ref q_354, .int 0, .null]) (rest := [.ref q_463, .ref h0]) ⟨hx, hb, hml, hown, hts⟩ (x_ActP l dC dI q_463 q_354 H.size) (cwI 3 hts gX11_put_X0_init rfl rfl rfl (hts (.initialized RX0) (zat q_wsX11_put k_wsX11_put 65 rfl (by decide +kernel))) (hts (.methodLink RX11 163 yX0_init) (zat q_wsX11_put k_wsX11_put 599 rfl (by decide +kernel))) (hts (.instanceMethod yX0_init) (zat q_wsX11_put k_wsX11_put 600 rfl (by decide +kernel))) rfl zh_X0_init_81 ⟨Nat.le_of_ble_eq_true rfl, Nat.le_of_ble_eq_true rfl⟩) ⟨gw_fb, fun U hU hW => ⟨rfl, by rw [hU], pw_to hU hW hPc (hK.sub (tys' := []) [] rfl) hN, hDc.weaken (fun _ _ _ _ => trivial)⟩⟩ rfl rfl hl.1 rfl (lv_room (Nat.le_of_ble_eq_true rfl)) dX11_put_119 ⟨Nat.le_of_ble_eq_true rfl, Nat.le_of_ble_eq_true rfl⟩) hS (fun q _ h => hFc q h) hFc (fun u9 t H1 locs ht hvm hw hB hz1 hk1 hS => ?_)
                obtain ⟨hP1, hD1⟩ := hB
                rw [ht] at hP1
                obtain ⟨hP, hD⟩ := va_joinQ (X := [(q_463, .inr (0, [.null, .int 0, .null, .int 0]))]) (cx := [(q_463, .inr (0, [.null, .int 0, .null, .int 0]))]) (wr := []) (w1 := [(q_463, .inr (0, [.ref q_354, .int 0, va_rf none, .int 1]))]) (pl := va_pl z_362.1 f_462) (vaP_swap hPn) (vaD_rotR hDn) [0] [] rfl rfl rfl (fun i hi => absurd hi List.not_mem_nil) hk1 hFc hP1 hD1
                generalize H1 = H at hP hS ⊢
                obtain ⟨hnm_464, hP, hD⟩ := pushC hP hD
                obtain ⟨z_465, ez_465⟩ : ∃ y : gS, y = pz z_362 q_463 (23, 0, [.ref q_354, .int 0, va_rf none, .int 1]) := ⟨_, rfl⟩
                obtain ⟨f_466, ef_466⟩ : ∃ y : xF, y = va_up f_462 q_463 (.inr (0, [.ref q_354, .int 0, va_rf none, .int 1])) := ⟨_, rfl⟩
                have hE_467 : zE z_362 z_465 := by rw [ez_465]; exact pz_E hnm_464 _
                have hI : xI q h0 d k z_465 f_466 := by rw [ez_465, ef_466]; exact x_push hI hnm_464 (Or.inr (by decide : (15 : Nat) < 23)) (cO_ac hlg_458 hnm_464)
                rw [show z_362.1 ++ [q_463] = z_465.1 from by rw [ez_465]; rfl, ← ef_466] at hP hD
                have ht_386 := zE_tg hE_467 ht_386
                have hpa_373 := zE_tg hE_467 hpa_373
                have hfa_381 := zE_tg hE_467 hfa_381
                have hlg_458 := zE_lg hE_467 hlg_458
                have ht_441 := zE_tg hE_467 ht_441
                have ht_442 := zE_tg hE_467 ht_442
                have ht_443 := zE_tg hE_467 ht_443
                have hp_397 := zE_pc hE_467 hp_397
                have hpcx := zE_pc hE_467 hpcx
                have ht_468 : tg z_465 q_463 23 := by rw [ez_465]; exact pz_t _ _ _
                have hEz : zE z z_465 := zE_tr hEz hE_467
                have h3m : f_466 (d 3) = f (d 3) := by rw [ef_466]; exact (up_o (fun e9 => hnm_464 (by rw [← e9]; exact hrp2.2.2.2.2.2.2.2.1.1.1))).trans h3m
                have hrp_469 : rep q d u2 z_465 f_466 := by rw [ez_465, ef_466]; exact rep_grow hrp2 (pz_E hnm_464 _) (oK_push (fun _ _ => rfl) (zE_rf _) hnm_464)
                refine W.eq (g2 := F0 m 122 ls [.ref q_463, .ref h0]) rfl ?_
                have hIb := hI
                have hcx : ¬ 300 ≤ k 1 := hca_30
                obtain ⟨kk_470, hk_471⟩ := pl_at hI.2.1.1.1 hI.2.2.2.1.1
                have hFc := fr_all hD hS hA
                refine va_callv (va_runV (As := [.ref q_463]) (rest := []) ⟨hx, hb, hml, hown, hts⟩ (y_keep l dC dI q h0 d k z_465 f_466 hI q_463 ht_468 hcx H.size) (cwV 1 hts gX11_put_X11_keep rfl rfl rfl zh_X11_keep_79 ⟨Nat.le_of_ble_eq_true rfl, Nat.le_of_ble_eq_true rfl⟩) ⟨gx_fb, va_recv hK hP (ci := 10) (q0 := kk_470) rfl hk_471, fun U hU hW => ⟨rfl, by rw [hU], px_to hU hW hP hK hN hXN, hD.weaken (fun _ _ _ _ => trivial)⟩⟩ rfl rfl hl.1 rfl (lv_room (Nat.le_of_ble_eq_true rfl)) dX11_put_122 ⟨Nat.le_of_ble_eq_true rfl, Nat.le_of_ble_eq_true rfl⟩) hS (fun q _ h => hFc q h) hFc (fun w_472 t H1 locs ht hvm hw hB hz1 hk1 hS => ?_)
                obtain ⟨hP, hD1⟩ := hB
                rw [ht] at hP
                rw [hw.1] at hP hD1
                have hD := hD1.weaken (fun _ q _ h => hFc q.1 h)
                have hI := hw.2.1
                have hw0 := hw
                generalize w_472.1 = k_474 at hI hw0
                generalize w_472.2.2 = f_473 at hP hD hI hw0
                generalize H1 = H at hP hS ⊢
                have hkp := hw0.2.2
                have hrp_475 : rep q d u2 z_465 f_473 := rep_kp hrp_469 hIb (by rw [zE_o hEz hIo.2.1.1.1]; exact hz0) hkp
                have hi3 : i_3 < (u2.1 3).toNatClampNeg := by rw [eu2]; exact hi_4
                obtain ⟨rs_476, n_477, g_478, fg_479, hit_480, hs_481, hpa_482, hps_483, h1_484, h6_485, hcb_486, hpl_487, hlg_488, hnn_489, hfa_490, hfs_491, hfe_492, hrs_493, hkt_494⟩ := it_all hI hrp_475.2.2.1 hi3
                refine lv_aload hx hb dX11_put_125 (lv_at hl 1 rfl) ?_
                obtain ⟨kk_495, hk_496⟩ := pl_at hit_480.1 hs_481
                refine w_then (F0 m 130 ls [.int (u2.2 22 i_3)]) (fun hgo => ?_) ?_
                ·
                  rcases x_tag hit_480 with ht9 | ht9 | ht9 | ht9 | ht9 | ht9
                  ·
                    rw [ht9.2] at hk_496
                    exact va_get (D := (dC, dI)) (ci := 2) (v := .int (u2.2 22 i_3)) (C := RX2) (T := TX2) (N := 7) hx hb hts zl_X11_put_X2 hown hK hP kk_495 hk_496 rfl 3 (by decide) (hts (.fieldLink RX11 170 "PageOne$Item" "count" "I") (zat q_wsX11_put k_wsX11_put 197 rfl (by decide +kernel))) (fun _ h9 => h9) rfl dX11_put_127 hgo
                  ·
                    rw [ht9.2] at hk_496
                    exact va_get (D := (dC, dI)) (ci := 3) (v := .int (u2.2 22 i_3)) (C := RX3) (T := TX3) (N := 8) hx hb hts zl_X11_put_X3 hown hK hP kk_495 hk_496 rfl 3 (by decide) (hts (.fieldLink RX11 170 "PageOne$Item" "count" "I") (zat q_wsX11_put k_wsX11_put 197 rfl (by decide +kernel))) (fun _ h9 => h9) rfl dX11_put_127 hgo
                  ·
                    rw [ht9.2] at hk_496
                    exact va_get (D := (dC, dI)) (ci := 4) (v := .int (u2.2 22 i_3)) (C := RX5) (T := TX5) (N := 7) hx hb hts zl_X11_put_X5 hown hK hP kk_495 hk_496 rfl 3 (by decide) (hts (.fieldLink RX11 170 "PageOne$Item" "count" "I") (zat q_wsX11_put k_wsX11_put 197 rfl (by decide +kernel))) (fun _ h9 => h9) rfl dX11_put_127 hgo
                  ·
                    rw [ht9.2] at hk_496
                    exact va_get (D := (dC, dI)) (ci := 5) (v := .int (u2.2 22 i_3)) (C := RX6) (T := TX6) (N := 9) hx hb hts zl_X11_put_X6 hown hK hP kk_495 hk_496 rfl 3 (by decide) (hts (.fieldLink RX11 170 "PageOne$Item" "count" "I") (zat q_wsX11_put k_wsX11_put 197 rfl (by decide +kernel))) (fun _ h9 => h9) rfl dX11_put_127 hgo
                  ·
                    rw [ht9.2] at hk_496
                    exact va_get (D := (dC, dI)) (ci := 6) (v := .int (u2.2 22 i_3)) (C := RX7) (T := TX7) (N := 8) hx hb hts zl_X11_put_X7 hown hK hP kk_495 hk_496 rfl 3 (by decide) (hts (.fieldLink RX11 170 "PageOne$Item" "count" "I") (zat q_wsX11_put k_wsX11_put 197 rfl (by decide +kernel))) (fun _ h9 => h9) rfl dX11_put_127 hgo
                  ·
                    rw [ht9.2] at hk_496
                    exact va_get (D := (dC, dI)) (ci := 9) (v := .int (u2.2 22 i_3)) (C := RX10) (T := TX10) (N := 9) hx hb hts zl_X11_put_X10 hown hK hP kk_495 hk_496 rfl 3 (by decide) (hts (.fieldLink RX11 170 "PageOne$Item" "count" "I") (zat q_wsX11_put k_wsX11_put 197 rfl (by decide +kernel))) (fun _ h9 => h9) rfl dX11_put_127 hgo
                ·
                  exact W.iret (v := (u2.2 22 i_3)) hx hb hr (fun t ht hW => ⟨⟨(u2.2 22 i_3), (k_474, z_465, f_473), rfl, (Or.inr ⟨i_3, P, X, Y, D, N, ⟨ep_5, hi_4, eP1, eX, eY, ((show cpW u i_3 p4 = zr_357 by unfold cpW; rw [if_neg (by rw [hkd]; decide), if_pos hkd, ezr_357]; unfold s_colsI; split <;> first | rw [i47 hx_350 (by assumption) (hu.2.2.2.2.2.1 i_3 hi8)] | rfl)).trans eD, ((show cpH u i_3 p4 = zr_360 by unfold cpH; rw [if_neg (by rw [hkd]; decide), if_pos hkd, ezr_360]; unfold s_linesI; split <;> first | rw [i47 hx_353 (by assumption) (hu.2.2.2.2.2.1 i_3 hi8)] | rfl)).trans eN, (by rw [← hk1o]; exact (n300 hIo.1.2.1).2 hcx), hrx, hrm9, by rw [← eP1] at hmF; rw [(show cpW u i_3 p4 = zr_357 by unfold cpW; rw [if_neg (by rw [hkd]; decide), if_pos hkd, ezr_357]; unfold s_colsI; split <;> first | rw [i47 hx_350 (by assumption) (hu.2.2.2.2.2.1 i_3 hi8)] | rfl), (show cpH u i_3 p4 = zr_360 by unfold cpH; rw [if_neg (by rw [hkd]; decide), if_pos hkd, ezr_360]; unfold s_linesI; split <;> first | rw [i47 hx_353 (by assumption) (hu.2.2.2.2.2.1 i_3 hi8)] | rfl)]; exact hmF, ⟨zr_456, c_457, by rw [(show cpW u i_3 p4 = zr_357 by unfold cpW; rw [if_neg (by rw [hkd]; decide), if_pos hkd, ezr_357]; unfold s_colsI; split <;> first | rw [i47 hx_350 (by assumption) (hu.2.2.2.2.2.1 i_3 hi8)] | rfl), (show cpH u i_3 p4 = zr_360 by unfold cpH; rw [if_neg (by rw [hkd]; decide), if_pos hkd, ezr_360]; unfold s_linesI; split <;> first | rw [i47 hx_353 (by assumption) (hu.2.2.2.2.2.1 i_3 hi8)] | rfl)]; exact ⟨(fun h9 => absurd (hkd.symm.trans h9) (by decide)), (fun h9 => absurd (hkd.symm.trans h9) (by decide)), (fun h9 => absurd (hkd.symm.trans h9) (by decide)), (fun _ => ezr_456)⟩⟩, hemp⟩, by rw [show (u2.2 22 i_3) = (mStand u (nI i_3) P X Y D N).2 22 i_3 from by rw [eu2]]; exact put_fin hk1o hi8 hEz hI (by rw [← eu2]; exact hrp_475) h3m hkp.1 (kp_3 hrp_469 hIb hkp) ⟨ht_468, by rw [ez_465, pz_s]⟩ hpcx⟩), by rw [ht]; exact hP, hD⟩, hS.F ht⟩) hS.2.2 dX11_put_130
              ·
                refine lv_iconst (v := (-1)) hx hb dX11_put_102 (by decide) ?_
                refine W.widen (k := 2) (n := 10) (Nat.le_of_ble_eq_true rfl) (Nat.le_of_ble_eq_true rfl) ?_
                exact W.iret (v := (-1)) hx hb hr (fun t ht hW => ⟨⟨(-1), (k, z_362, f_363), rfl, (Or.inl ⟨Or.inr (Or.inr (Or.inr ⟨i_3, ep_5, hi_4, Or.inr (Or.inr (by rw [(show cpW u i_3 p4 = zr_357 by unfold cpW; rw [if_neg (by rw [hkd]; decide), if_pos hkd, ezr_357]; unfold s_colsI; split <;> first | rw [i47 hx_350 (by assumption) (hu.2.2.2.2.2.1 i_3 hi8)] | rfl), (show cpH u i_3 p4 = zr_360 by unfold cpH; rw [if_neg (by rw [hkd]; decide), if_pos hkd, ezr_360]; unfold s_linesI; split <;> first | rw [i47 hx_353 (by assumption) (hu.2.2.2.2.2.1 i_3 hi8)] | rfl)]; exact ⟨(fun h9 => absurd (hkd.symm.trans h9) (by decide)), (fun h9 => absurd (hkd.symm.trans h9) (by decide)), (fun h9 => absurd (hkd.symm.trans h9) (by decide)), (fun _ => (c_457.symm.trans ezr_456))⟩))⟩)), ⟨hEz, hI, rfl, hrp_366, fun _ _ => rfl, hk1o, Or.inl ⟨h3m, rfl⟩⟩⟩), by rw [ht]; exact hP, hD⟩, hS.F ht⟩) hS.2.2 dX11_put_103
            ·
              subst hw
              refine lv_if_eq (tgt := 102) hx hb dX11_put_76 (by decide) (fun c_497 => ?_) (fun c_497 => absurd (by decide) c_497)
              refine lv_iconst (v := (-1)) hx hb dX11_put_102 (by decide) ?_
              refine W.widen (k := 2) (n := 10) (Nat.le_of_ble_eq_true rfl) (Nat.le_of_ble_eq_true rfl) ?_
              exact W.iret (v := (-1)) hx hb hr (fun t ht hW => ⟨⟨(-1), (k, z_362, f_363), rfl, (Or.inl ⟨Or.inr (Or.inr (Or.inr ⟨i_3, ep_5, hi_4, Or.inr (Or.inl (fun h9 => hfr_427 ((fr_iff2 b_26 el_423 ec_424 hgb_421).mpr (by rw [(show cpW u i_3 p4 = zr_357 by unfold cpW; rw [if_neg (by rw [hkd]; decide), if_pos hkd, ezr_357]; unfold s_colsI; split <;> first | rw [i47 hx_350 (by assumption) (hu.2.2.2.2.2.1 i_3 hi8)] | rfl), (show cpH u i_3 p4 = zr_360 by unfold cpH; rw [if_neg (by rw [hkd]; decide), if_pos hkd, ezr_360]; unfold s_linesI; split <;> first | rw [i47 hx_353 (by assumption) (hu.2.2.2.2.2.1 i_3 hi8)] | rfl)] at h9; exact h9))))⟩)), ⟨hEz, hI, rfl, hrp_366, fun _ _ => rfl, hk1o, Or.inl ⟨h3m, rfl⟩⟩⟩), by rw [ht]; exact hP, hD⟩, hS.F ht⟩) hS.2.2 dX11_put_103
        ·
          have ht_498 : tg z (d (2000 + i_3)) 13 := ⟨hit_10.1, by rw [hkt_24, hkd]; rfl⟩
          obtain ⟨hx_500, hx_501, hx_502, hx_503, hx_504, hx_505⟩ := hrs_23.2.2.2.1 hkd
          have hs_499 : f (d (2000 + i_3)) = .inr (5, [.int (nI i_3), .int (u.2 4 i_3), .ref (d (3000 + i_3)), .int (u.2 22 i_3), .ref (d (4000 + i_3)), .int (u.2 10 i_3), .int (u.2 14 i_3), .ref (d (5000 + i_3)), .ref (d (6000 + i_3))]) := by rw [hs_11, ht_498.2, hx_500]; rfl
          refine va_new (ci := 7) (fs := [.null, .int 0, .int 0, .int 0, .int 0, .int 0]) (C := RX8) (T := TX8) (N := 6) hx hb hts zl_X11_put_X8 tyX8 tyX8_ok hown (hts (.classLink RX11 106 RX8) (zat q_wsX11_put k_wsX11_put 309 rfl (by decide +kernel))) (hts (.instantiable RX8 6) (zat q_wsX11_put k_wsX11_put 310 rfl (by decide +kernel))) (hts (.initialized RX8) (zat q_wsX11_put k_wsX11_put 62 rfl (by decide +kernel))) hK hP hD hS hA rfl nwX8 (Nat.le_of_ble_eq_true rfl) (Nat.le_of_ble_eq_true rfl) dX11_put_28 (fun q_509 H hPn hDn hS => ?_)
          have hP := vaP_l hPn
          refine W.widen (k := 1) (n := 6) (Nat.le_of_ble_eq_true rfl) (Nat.le_of_ble_eq_true rfl) ?_
          refine lv_dup hx hb dX11_put_31 rfl ?_
          refine lv_aload hx hb dX11_put_32 (lv_at hl 0 rfl) ?_
          refine lv_iload_n hx hb dX11_put_34 rfl (lv_at hl 3 rfl) ?_
          refine lv_iload_n hx hb dX11_put_35 rfl (lv_at hl 4 rfl) ?_
          refine lv_iload hx hb dX11_put_36 (lv_at hl 5 rfl) ?_
          refine lv_aload hx hb dX11_put_38 (lv_at hl 0 rfl) ?_
          refine lv_iload hx hb dX11_put_40 (lv_at hl 6 rfl) ?_
          obtain ⟨kk_510, hk_511⟩ := pl_at ht_498.1 hs_499
          refine vp_callSi (va_runU (As := [.int p4]) (rest := [.int p3, .int p2, .int p1, .ref (d (2000 + i_3)), .ref q_509, .ref q_509]) ⟨hx, hb, hml, hown, hts⟩ (y_X6_columnsBy l dC dI q h0 d k z f hI (d (2000 + i_3)) (d (3000 + i_3)) (d (4000 + i_3)) (d (5000 + i_3)) (d (6000 + i_3)) (nI i_3) (u.2 4 i_3) (u.2 22 i_3) (u.2 10 i_3) (u.2 14 i_3) ht_498 hs_499 p4 none (u.2 11 i_3) (u.2 12 i_3) (u.2 13 i_3) (u.2 7 i_3) (u.2 8 i_3) hx_501) (va_cwO (b0 := cX4_columnsBy) (m0 := 2) (r0 := (some .int)) 1 hts gX11_put_X6_columnsBy_u142X6 rfl rfl rfl (by decide +kernel) (by decide +kernel) ⟨Nat.le_of_ble_eq_true rfl, Nat.le_of_ble_eq_true rfl⟩) ⟨px_fb, va_recv hK hP (ci := 5) (q0 := kk_510) rfl hk_511, fun U hU hW => ⟨rfl, px_to hU hW hP hK hN hXN⟩⟩ rfl rfl hl.1 rfl (lv_room (Nat.le_of_ble_eq_true rfl)) dX11_put_42 ⟨Nat.le_of_ble_eq_true rfl, Nat.le_of_ble_eq_true rfl⟩).run (fun r hw => ?_)
          obtain ⟨zr_512, ezr_512⟩ : ∃ y : Int32, y = s_colsP p4 (u.2 7 i_3) := ⟨_, rfl⟩
          have hr9 : zr_512 = r := ezr_512.trans hw.symm
          subst hr9
          refine lv_aload hx hb dX11_put_45 (lv_at hl 0 rfl) ?_
          refine lv_iload hx hb dX11_put_47 (lv_at hl 6 rfl) ?_
          obtain ⟨kk_513, hk_514⟩ := pl_at ht_498.1 hs_499
          refine vp_callSi (va_runU (As := [.int p4]) (rest := [.int zr_512, .int p3, .int p2, .int p1, .ref (d (2000 + i_3)), .ref q_509, .ref q_509]) ⟨hx, hb, hml, hown, hts⟩ (y_X6_linesBy l dC dI q h0 d k z f hI (d (2000 + i_3)) (d (3000 + i_3)) (d (4000 + i_3)) (d (5000 + i_3)) (d (6000 + i_3)) (nI i_3) (u.2 4 i_3) (u.2 22 i_3) (u.2 10 i_3) (u.2 14 i_3) ht_498 hs_499 p4 none (u.2 11 i_3) (u.2 12 i_3) (u.2 13 i_3) (u.2 7 i_3) (u.2 8 i_3) hx_501) (va_cwA 1 hts gX11_put_X6_linesBy_u145X6 rfl rfl rfl hXN.1 (by decide +kernel) ⟨Nat.le_of_ble_eq_true rfl, Nat.le_of_ble_eq_true rfl⟩) ⟨px_fb, va_recv hK hP (ci := 5) (q0 := kk_513) rfl hk_514, fun U hU hW => ⟨rfl, px_to hU hW hP hK hN hXN⟩⟩ rfl rfl hl.1 rfl (lv_room (Nat.le_of_ble_eq_true rfl)) dX11_put_49 ⟨Nat.le_of_ble_eq_true rfl, Nat.le_of_ble_eq_true rfl⟩).run (fun r hw => ?_)
          obtain ⟨zr_515, ezr_515⟩ : ∃ y : Int32, y = s_linesP p4 (u.2 8 i_3) := ⟨_, rfl⟩
          have hr9 : zr_515 = r := ezr_515.trans hw.symm
          subst hr9
          have hPc := vaP_r hPn
          have hDc := vaD_r hDn
          have hFc := fr_part hDn hS hA
          refine va_callv (va_runI (As := [.ref (d (2000 + i_3)), .int p1, .int p2, .int p3, .int zr_512, .int zr_515]) (rest := [.ref q_509]) ⟨hx, hb, hml, hown, hts⟩ (x_PieceI l dC dI q_509 (d (2000 + i_3)) p1 p2 p3 zr_512 zr_515 H.size) (cwI 6 hts gX11_put_X8_init rfl rfl rfl (hts (.initialized RX8) (zat q_wsX11_put k_wsX11_put 62 rfl (by decide +kernel))) (hts (.methodLink RX11 108 yX8_init) (zat q_wsX11_put k_wsX11_put 311 rfl (by decide +kernel))) (hts (.instanceMethod yX8_init) (zat q_wsX11_put k_wsX11_put 312 rfl (by decide +kernel))) rfl zh_X8_init_83 ⟨Nat.le_of_ble_eq_true rfl, Nat.le_of_ble_eq_true rfl⟩) ⟨gw_fb, fun U hU hW => ⟨rfl, by rw [hU], pw_to hU hW hPc (hK.sub (tys' := []) [] rfl) hN, hDc.weaken (fun _ _ _ _ => trivial)⟩⟩ rfl rfl hl.1 rfl (lv_room (Nat.le_of_ble_eq_true rfl)) dX11_put_52 ⟨Nat.le_of_ble_eq_true rfl, Nat.le_of_ble_eq_true rfl⟩) hS (fun q _ h => hFc q h) hFc (fun u9 t H1 locs ht hvm hw hB hz1 hk1 hS => ?_)
          obtain ⟨hP1, hD1⟩ := hB
          rw [ht] at hP1
          obtain ⟨hP, hD⟩ := va_joinQ (X := [(q_509, .inr (7, [.null, .int 0, .int 0, .int 0, .int 0, .int 0]))]) (cx := [(q_509, .inr (7, [.null, .int 0, .int 0, .int 0, .int 0, .int 0]))]) (wr := []) (w1 := [(q_509, .inr (7, [va_rf (some (d (2000 + i_3))), .int p1, .int p2, .int p3, .int zr_512, .int zr_515]))]) (pl := va_pl z.1 f) (vaP_swap hPn) (vaD_rotR hDn) [0] [] rfl rfl rfl (fun i hi => absurd hi List.not_mem_nil) hk1 hFc hP1 hD1
          generalize H1 = H at hP hS ⊢
          obtain ⟨hnm_516, hP, hD⟩ := pushC hP hD
          obtain ⟨z_517, ez_517⟩ : ∃ y : gS, y = pz z q_509 (22, 0, [va_rf (some (d (2000 + i_3))), .int p1, .int p2, .int p3, .int zr_512, .int zr_515]) := ⟨_, rfl⟩
          obtain ⟨f_518, ef_518⟩ : ∃ y : xF, y = va_up f q_509 (.inr (7, [va_rf (some (d (2000 + i_3))), .int p1, .int p2, .int p3, .int zr_512, .int zr_515])) := ⟨_, rfl⟩
          have hE_519 : zE z z_517 := by rw [ez_517]; exact pz_E hnm_516 _
          have hI : xI q h0 d k z_517 f_518 := by rw [ez_517, ef_518]; exact x_push hI hnm_516 (Or.inr (by decide : (15 : Nat) < 22)) (cO_pc b_26 (ty_s (tg_itm ht_498 (by decide))) hnm_516)
          rw [show z.1 ++ [q_509] = z_517.1 from by rw [ez_517]; rfl, ← ef_518] at hP hD
          have ht_498 := zE_tg hE_519 ht_498
          have hpa_12 := zE_tg hE_519 hpa_12
          have hfa_20 := zE_tg hE_519 hfa_20
          have hx_501 := zE_pc hE_519 hx_501
          have ht_520 : tg z_517 q_509 22 := by rw [ez_517]; exact pz_t _ _ _
          have hEz : zE z z_517 := zE_tr (zE_rf z) hE_519
          have h3m : f_518 (d 3) = f (d 3) := by rw [ef_518]; exact (up_o (fun e9 => hnm_516 (by rw [← e9]; exact hrp.2.2.2.2.2.2.2.1.1.1))).trans h3m
          have hrp_521 : rep q d u z_517 f_518 := by rw [ez_517, ef_518]; exact rep_grow hrp (pz_E hnm_516 _) (oK_push (fun _ _ => rfl) (zE_rf _) hnm_516)
          obtain ⟨rs_522, n_523, g_524, fg_525, hit_526, hs_527, hpa_528, hps_529, h1_530, h6_531, hcb_532, hpl_533, hlg_534, hnn_535, hfa_536, hfs_537, hfe_538, hrs_539, hkt_540⟩ := it_all hI hrp_521.2.2.1 hi_4
          have ht_541 : tg z_517 (d (2000 + i_3)) 13 := ⟨hit_526.1, by rw [hkt_540, hkd]; rfl⟩
          obtain ⟨hx_543, hx_544, hx_545, hx_546, hx_547, hx_548⟩ := hrs_539.2.2.2.1 hkd
          have hs_542 : f_518 (d (2000 + i_3)) = .inr (5, [.int (nI i_3), .int (u.2 4 i_3), .ref (d (3000 + i_3)), .int (u.2 22 i_3), .ref (d (4000 + i_3)), .int (u.2 10 i_3), .int (u.2 14 i_3), .ref (d (5000 + i_3)), .ref (d (6000 + i_3))]) := by rw [hs_527, ht_541.2, hx_543]; rfl
          refine W.eq (g2 := F0 m 55 ls [.ref q_509]) rfl ?_
          have hp_552 : pcS z_517 q_509 (some (d (2000 + i_3))) p1 p2 p3 zr_512 zr_515 := ⟨ht_520, by rw [ez_517, pz_s]⟩
          refine lv_astore (lv' := [(7, .ref q_509), (6, .ref (d (2000 + i_3))), (0, .ref h0), (1, .int p0), (2, .int p1), (3, .int p2), (4, .int p3), (5, .int p4)]) hx hb dX11_put_55 hl (by decide) rfl (fun ls hl => ?_)
          refine lv_aload hx hb dX11_put_57 (lv_at hl 1 rfl) ?_
          obtain ⟨kk_553, hk_554⟩ := pl_at ht_541.1 hs_542
          refine vp_callSi (va_runU (As := []) (rest := []) ⟨hx, hb, hml, hown, hts⟩ (y_hasRoom l dC dI q h0 d k z_517 f_518 hI (d (2000 + i_3)) hit_526 (nI i_3) (u.2 4 i_3) (u.2 22 i_3) (d (3000 + i_3)) (d (4000 + i_3)) rs_522 hs_527 n_523 g_524 hps_529 hpa_528) (va_cwU 0 hts gX11_put_X4_hasRoom_u148X6 rfl rfl rfl rfl zu_33 ⟨Nat.le_of_ble_eq_true rfl, Nat.le_of_ble_eq_true rfl⟩) ⟨px_fb, va_recv hK hP (ci := 5) (q0 := kk_553) rfl hk_554, fun U hU hW => ⟨rfl, px_to hU hW hP hK hN hXN⟩⟩ rfl rfl hl.1 rfl (lv_room (Nat.le_of_ble_eq_true rfl)) dX11_put_59 ⟨Nat.le_of_ble_eq_true rfl, Nat.le_of_ble_eq_true rfl⟩).run (fun r hw => ?_)
          obtain rfl : r = (bP ((u.2 22 i_3) < nI n_523)) := hw
          refine lv_if_eq (tgt := 102) hx hb dX11_put_62 (by decide) (fun c_555 => ?_) (fun c_555 => ?_)
          ·
            refine lv_iconst (v := (-1)) hx hb dX11_put_102 (by decide) ?_
            refine W.widen (k := 2) (n := 10) (Nat.le_of_ble_eq_true rfl) (Nat.le_of_ble_eq_true rfl) ?_
            exact W.iret (v := (-1)) hx hb hr (fun t ht hW => ⟨⟨(-1), (k, z_517, f_518), rfl, (Or.inl ⟨Or.inr (Or.inr (Or.inr ⟨i_3, ep_5, hi_4, Or.inl (noN h6_531 hcb_532 hnn_535 (bP_0 c_555))⟩)), ⟨hEz, hI, rfl, hrp_521, fun _ _ => rfl, hk1o, Or.inl ⟨h3m, rfl⟩⟩⟩), by rw [ht]; exact hP, hD⟩, hS.F ht⟩) hS.2.2 dX11_put_103
          ·
            refine lv_aload_n hx hb dX11_put_65 rfl (lv_at hl 2 rfl) ?_
            obtain ⟨kk_556, hk_557⟩ := pl_at hI.2.1.1.1 hI.2.2.2.1.1
            refine va_get (D := (dC, dI)) (ci := 10) (v := .ref (d 0)) (C := RX11) (T := TX11) (N := 9) hx hb hts zl_X11_put_X11 hown hK hP kk_556 hk_557 rfl 0 (by decide) (hts (.fieldLink RX11 11 "PageOne" "pages" "[LPageOne$Sheet;") (zat q_wsX11_put k_wsX11_put 112 rfl (by decide +kernel))) (fun _ h9 => h9) rfl dX11_put_66 ?_
            refine lv_iload_n hx hb dX11_put_69 rfl (lv_at hl 4 rfl) ?_
            obtain ⟨g_558, hs_559, hg_560⟩ := x_pg hI hI.2.1.2.1
            obtain ⟨kk_561, hk_562⟩ := pl_at hI.2.1.2.1.1 hs_559
            refine va_aldq hx hb hK hP kk_561 2 hk_562 rfl (vin b_26 (by decide)) dX11_put_70 ?_
            obtain ⟨b_563, hg_564, ht_565⟩ := hg_560 _ (vlt (vin b_26 (by decide)))
            rw [hg_564]
            refine W.eq (g2 := F0 m 71 ls [.ref b_563]) rfl ?_
            have hb_566 := pg_at hrp_521.1 hs_559 (clp b_26) hg_564
            subst hb_566
            obtain ⟨dd_567, ii_568, gl_569, gc_570, ht_571, ht_572, ht_573, hs_574, hg_575, hgb_576, hc_577, el_578, ec_579⟩ := pg_all hI hrp_521.1 (clp b_26)
            refine lv_aload hx hb dX11_put_71 (lv_at hl 0 rfl) ?_
            obtain ⟨kk_580, hk_581⟩ := pl_at ht_571.1 hs_574
            refine vp_callSi (va_runV (As := [.ref q_509]) (rest := []) ⟨hx, hb, hml, hown, hts⟩ (y_isFree l dC dI q h0 d k z_517 f_518 hI (d (10 + p1.toNatClampNeg)) (d (30 + p1.toNatClampNeg)) (d (50 + p1.toNatClampNeg)) (u.2 1 p1.toNatClampNeg) dd_567 ii_568 gl_569 gc_570 ht_571 hs_574 ht_572 ht_573 hg_575 hgb_576 hc_577 q_509 (some (d (2000 + i_3))) p1 p2 p3 zr_512 zr_515 hp_552) (cwV 1 hts gX11_put_X9_isFree rfl rfl rfl zh_X9_isFree_82 ⟨Nat.le_of_ble_eq_true rfl, Nat.le_of_ble_eq_true rfl⟩) ⟨px_fb, va_recv hK hP (ci := 8) (q0 := kk_580) rfl hk_581, fun U hU hW => ⟨rfl, px_to hU hW hP hK hN hXN⟩⟩ rfl rfl hl.1 rfl (lv_room (Nat.le_of_ble_eq_true rfl)) dX11_put_73 ⟨Nat.le_of_ble_eq_true rfl, Nat.le_of_ble_eq_true rfl⟩).run (fun r hw => ?_)
            rcases hw with ⟨hw, hfr_582⟩ | ⟨hw, hfr_582⟩
            ·
              subst hw
              refine lv_if_eq (tgt := 102) hx hb dX11_put_76 (by decide) (fun c_583 => absurd c_583 (by decide)) (fun c_583 => ?_)
              refine lv_aload hx hb dX11_put_79 (lv_at hl 1 rfl) ?_
              refine lv_aload hx hb dX11_put_81 (lv_at hl 0 rfl) ?_
              refine lv_aload_n hx hb dX11_put_83 rfl (lv_at hl 2 rfl) ?_
              obtain ⟨kk_584, hk_585⟩ := pl_at hI.2.1.1.1 hI.2.2.2.1.1
              refine va_get (D := (dC, dI)) (ci := 10) (v := .ref (d 0)) (C := RX11) (T := TX11) (N := 9) hx hb hts zl_X11_put_X11 hown hK hP kk_584 hk_585 rfl 0 (by decide) (hts (.fieldLink RX11 11 "PageOne" "pages" "[LPageOne$Sheet;") (zat q_wsX11_put k_wsX11_put 112 rfl (by decide +kernel))) (fun _ h9 => h9) rfl dX11_put_84 ?_
              refine lv_iload_n hx hb dX11_put_87 rfl (lv_at hl 4 rfl) ?_
              obtain ⟨kk_586, hk_587⟩ := pl_at hI.2.1.2.1.1 hs_559
              refine va_aldq hx hb hK hP kk_586 2 hk_587 rfl (vin b_26 (by decide)) dX11_put_88 ?_
              obtain ⟨b_588, hg_589, ht_590⟩ := hg_560 _ (vlt (vin b_26 (by decide)))
              rw [hg_589]
              refine W.eq (g2 := F0 m 89 ls [.ref b_588, .ref q_509, .ref (d (2000 + i_3))]) rfl ?_
              have hb_591 := pg_at hrp_521.1 hs_559 (clp b_26) hg_589
              subst hb_591
              obtain ⟨dd_592, ii_593, gl_594, gc_595, ht_596, ht_597, ht_598, hs_599, hg_600, hgb_601, hc_602, el_603, ec_604⟩ := pg_all hI hrp_521.1 (clp b_26)
              obtain ⟨kk_605, hk_606⟩ := pl_at ht_596.1 hs_599
              refine va_get (D := (dC, dI)) (ci := 8) (v := .int (u.2 1 p1.toNatClampNeg)) (C := RX9) (T := TX9) (N := 5) hx hb hts zl_X11_put_X9 hown hK hP kk_605 hk_606 rfl 2 (by decide) (hts (.fieldLink RX11 63 "PageOne$Sheet" "measure" "I") (zat q_wsX11_put k_wsX11_put 94 rfl (by decide +kernel))) (fun _ h9 => h9) rfl dX11_put_89 ?_
              refine lv_aload_n hx hb dX11_put_92 rfl (lv_at hl 2 rfl) ?_
              obtain ⟨kk_607, hk_608⟩ := pl_at hI.2.1.1.1 hI.2.2.2.1.1
              refine va_get (D := (dC, dI)) (ci := 10) (v := .int (k 2)) (C := RX11) (T := TX11) (N := 9) hx hb hts zl_X11_put_X11 hown hK hP kk_607 hk_608 rfl 7 (by decide) (hts (.fieldLink RX11 41 "PageOne" "today" "I") (zat q_wsX11_put k_wsX11_put 119 rfl (by decide +kernel))) (fun _ h9 => h9) rfl dX11_put_93 ?_
              obtain ⟨kk_609, hk_610⟩ := pl_at ht_541.1 hs_542
              refine vp_callSi (va_runU (As := [.ref q_509, .int (u.2 1 p1.toNatClampNeg), .int (k 2)]) (rest := []) ⟨hx, hb, hml, hown, hts⟩ (y_X6_maySit l dC dI q h0 d k z_517 f_518 hI (d (2000 + i_3)) (d (3000 + i_3)) (d (4000 + i_3)) (d (5000 + i_3)) (d (6000 + i_3)) (nI i_3) (u.2 4 i_3) (u.2 22 i_3) (u.2 10 i_3) (u.2 14 i_3) ht_541 hs_542 (u.2 1 p1.toNatClampNeg) (k 2) none (u.2 11 i_3) (u.2 12 i_3) (u.2 13 i_3) (u.2 7 i_3) (u.2 8 i_3) hx_544 q_509 (some (d (2000 + i_3))) p1 p2 p3 zr_512 zr_515 hp_552) (va_cwO (b0 := cX4_maySit) (m0 := 4) (r0 := (some .boolean)) 3 hts gX11_put_X6_maySit_u155X6 rfl rfl rfl (by decide +kernel) (by decide +kernel) ⟨Nat.le_of_ble_eq_true rfl, Nat.le_of_ble_eq_true rfl⟩) ⟨px_fb, va_recv hK hP (ci := 5) (q0 := kk_609) rfl hk_610, fun U hU hW => ⟨rfl, px_to hU hW hP hK hN hXN⟩⟩ rfl rfl hl.1 rfl (lv_room (Nat.le_of_ble_eq_true rfl)) dX11_put_96 ⟨Nat.le_of_ble_eq_true rfl, Nat.le_of_ble_eq_true rfl⟩).run (fun r hw => ?_)
              obtain ⟨zr_611, ezr_611⟩ : ∃ y : Int32, y = s_sitP p1 p2 p3 zr_512 zr_515 (u.2 11 i_3) (u.2 12 i_3) (u.2 13 i_3) (u.2 7 i_3) (u.2 8 i_3) := ⟨_, rfl⟩
              have hr9 : zr_611 = r := ezr_611.trans hw.symm
              subst hr9
              refine lv_if_ne (tgt := 104) hx hb dX11_put_99 (by decide) (fun c_612 => ?_) (fun c_612 => ?_)
              ·
                have hmF := (fr_iff (clp b_26) el_578 ec_579 hgb_576).mp hfr_582
                obtain ⟨P, eP⟩ : ∃ y, y = p1.toNatClampNeg := ⟨_, rfl⟩
                have eP1 : p1 = nI P := by rw [eP]; exact (nI_of_bw b_26).1
                obtain ⟨X, Y, D, N, eX, eY, eD, eN, hrx, hemp⟩ := fr_rIn (clp b_26) (fun a ha => by rw [← el_578 a ha]; exact hgb_576 a ha) hmF
                rw [← eP] at hrx hemp hmF
                have hrx9 := hrx
                obtain ⟨hP9, hX, hD1, hY, hN1, hin⟩ := hrx9
                have hpcx : pcS z_517 q_509 (some (d (2000 + i_3))) (nI P) (nI X) (nI Y) (nI D) (nI N) := by rw [← eP1, ← eX, ← eY, ← eD, ← eN]; exact hp_552
                have hlg_613 := lg_of hpcx ⟨b7n (by omega), b60n (by omega), bwN (by have e8 : (8 : Int32).toInt = 8 := rfl; rw [e8]; omega) (by omega), b60n (by omega)⟩
                have hrm9 : (u.2 22 i_3).toNatClampNeg < (if u.2 4 i_3 = 0 then 6 else 1) := ltN h6_531 hcb_532 hnn_535 (bP_n c_555)
                refine lv_aload_n hx hb dX11_put_104 rfl (lv_at hl 2 rfl) ?_
                refine lv_aload hx hb dX11_put_105 (lv_at hl 0 rfl) ?_
                obtain ⟨kk_614, hk_615⟩ := pl_at hI.2.1.1.1 hI.2.2.2.1.1
                have hFc := fr_all hD hS hA
                refine va_callv (va_runV (As := [.ref q_509]) (rest := []) ⟨hx, hb, hml, hown, hts⟩ (y_standI l dC dI q h0 d k z_517 f_518 hI q_509 P X Y D N u hrp_521 hk0 hk1o hk2 hk3 hP9 hX hD1 hY hin hne i_3 hi_4 hpcx hrm9 H.size) (cwV 1 hts gX11_put_X11_stand rfl rfl rfl zh_X11_stand_62 ⟨Nat.le_of_ble_eq_true rfl, Nat.le_of_ble_eq_true rfl⟩) ⟨gx_fb, va_recv hK hP (ci := 10) (q0 := kk_614) rfl hk_615, fun U hU hW => ⟨rfl, by rw [hU], px_to hU hW hP hK hN hXN, hD.weaken (fun _ _ _ _ => trivial)⟩⟩ rfl rfl hl.1 rfl (lv_room (Nat.le_of_ble_eq_true rfl)) dX11_put_107 ⟨Nat.le_of_ble_eq_true rfl, Nat.le_of_ble_eq_true rfl⟩) hS (fun q _ h => hFc q h) hFc (fun w_616 t H1 locs ht hvm hw hB hz1 hk1 hS => ?_)
                obtain ⟨hP, hD1⟩ := hB
                rw [ht] at hP
                rw [hw.2.1] at hP hD1
                have hD := hD1.weaken (fun _ q _ h => hFc q.1 h)
                have hI := hw.2.2.1
                have hw0 := hw
                generalize w_616.2.2 = f_617 at hP hD hI hw0
                generalize H1 = H at hP hS ⊢
                obtain ⟨u2, eu2⟩ : ∃ y : mS, y = mStand u (nI i_3) P X Y D N := ⟨_, rfl⟩
                have hrp2 : rep q d u2 z_517 f_617 := by rw [eu2]; exact hw0.2.2.2.1
                have h3m : f_617 (d 3) = f (d 3) := hw0.2.2.2.2.trans h3m
                refine lv_aload_n hx hb dX11_put_110 rfl (lv_at hl 2 rfl) ?_
                refine va_new (ci := 0) (fs := [.null, .int 0, .null, .int 0]) (C := RX0) (T := TX0) (N := 4) hx hb hts zl_X11_put_X0 tyX0 tyX0_ok hown (hts (.classLink RX11 28 RX0) (zat q_wsX11_put k_wsX11_put 80 rfl (by decide +kernel))) (hts (.instantiable RX0 4) (zat q_wsX11_put k_wsX11_put 598 rfl (by decide +kernel))) (hts (.initialized RX0) (zat q_wsX11_put k_wsX11_put 65 rfl (by decide +kernel))) hK hP hD hS hA rfl nwX0 (Nat.le_of_ble_eq_true rfl) (Nat.le_of_ble_eq_true rfl) dX11_put_111 (fun q_618 H hPn hDn hS => ?_)
                have hP := vaP_l hPn
                refine W.widen (k := 2) (n := 10) (Nat.le_of_ble_eq_true rfl) (Nat.le_of_ble_eq_true rfl) ?_
                refine lv_dup hx hb dX11_put_114 rfl ?_
                refine lv_aload hx hb dX11_put_115 (lv_at hl 0 rfl) ?_
                refine lv_iconst (v := 0) hx hb dX11_put_117 (by decide) ?_
                refine lv_null hx hb dX11_put_118 ?_
                have hPc := vaP_r hPn
                have hDc := vaD_r hDn
                have hFc := fr_part hDn hS hA
                refine va_callv (va_runI (As := [.ref q_509, .int 0, .null]) (rest := [.ref q_618, .ref h0]) ⟨hx, hb, hml, hown, hts⟩ (x_ActP l dC dI q_618 q_509 H.size) (cwI 3 hts gX11_put_X0_init rfl rfl rfl (hts (.initialized RX0) (zat q_wsX11_put k_wsX11_put 65 rfl (by decide +kernel))) (hts (.methodLink RX11 163 yX0_init) (zat q_wsX11_put k_wsX11_put 599 rfl (by decide +kernel))) (hts (.instanceMethod yX0_init) (zat q_wsX11_put k_wsX11_put 600 rfl (by decide +kernel))) rfl zh_X0_init_81 ⟨Nat.le_of_ble_eq_true rfl, Nat.le_of_ble_eq_true rfl⟩) ⟨gw_fb, fun U hU hW => ⟨rfl, by rw [hU], pw_to hU hW hPc (hK.sub (tys' := []) [] rfl) hN, hDc.weaken (fun _ _ _ _ => trivial)⟩⟩ rfl rfl hl.1 rfl (lv_room (Nat.le_of_ble_eq_true rfl)) dX11_put_119 ⟨Nat.le_of_ble_eq_true rfl, Nat.le_of_ble_eq_true rfl⟩) hS (fun q _ h => hFc q h) hFc (fun u9 t H1 locs ht hvm hw hB hz1 hk1 hS => ?_)
                obtain ⟨hP1, hD1⟩ := hB
                rw [ht] at hP1
                obtain ⟨hP, hD⟩ := va_joinQ (X := [(q_618, .inr (0, [.null, .int 0, .null, .int 0]))]) (cx := [(q_618, .inr (0, [.null, .int 0, .null, .int 0]))]) (wr := []) (w1 := [(q_618, .inr (0, [.ref q_509, .int 0, va_rf none, .int 1]))]) (pl := va_pl z_517.1 f_617) (vaP_swap hPn) (vaD_rotR hDn) [0] [] rfl rfl rfl (fun i hi => absurd hi List.not_mem_nil) hk1 hFc hP1 hD1
                generalize H1 = H at hP hS ⊢
                obtain ⟨hnm_619, hP, hD⟩ := pushC hP hD
                obtain ⟨z_620, ez_620⟩ : ∃ y : gS, y = pz z_517 q_618 (23, 0, [.ref q_509, .int 0, va_rf none, .int 1]) := ⟨_, rfl⟩
                obtain ⟨f_621, ef_621⟩ : ∃ y : xF, y = va_up f_617 q_618 (.inr (0, [.ref q_509, .int 0, va_rf none, .int 1])) := ⟨_, rfl⟩
                have hE_622 : zE z_517 z_620 := by rw [ez_620]; exact pz_E hnm_619 _
                have hI : xI q h0 d k z_620 f_621 := by rw [ez_620, ef_621]; exact x_push hI hnm_619 (Or.inr (by decide : (15 : Nat) < 23)) (cO_ac hlg_613 hnm_619)
                rw [show z_517.1 ++ [q_618] = z_620.1 from by rw [ez_620]; rfl, ← ef_621] at hP hD
                have ht_541 := zE_tg hE_622 ht_541
                have hpa_528 := zE_tg hE_622 hpa_528
                have hfa_536 := zE_tg hE_622 hfa_536
                have hlg_613 := zE_lg hE_622 hlg_613
                have ht_596 := zE_tg hE_622 ht_596
                have ht_597 := zE_tg hE_622 ht_597
                have ht_598 := zE_tg hE_622 ht_598
                have hx_544 := zE_pc hE_622 hx_544
                have hp_552 := zE_pc hE_622 hp_552
                have hpcx := zE_pc hE_622 hpcx
                have ht_623 : tg z_620 q_618 23 := by rw [ez_620]; exact pz_t _ _ _
                have hEz : zE z z_620 := zE_tr hEz hE_622
                have h3m : f_621 (d 3) = f (d 3) := by rw [ef_621]; exact (up_o (fun e9 => hnm_619 (by rw [← e9]; exact hrp2.2.2.2.2.2.2.2.1.1.1))).trans h3m
                have hrp_624 : rep q d u2 z_620 f_621 := by rw [ez_620, ef_621]; exact rep_grow hrp2 (pz_E hnm_619 _) (oK_push (fun _ _ => rfl) (zE_rf _) hnm_619)
                refine W.eq (g2 := F0 m 122 ls [.ref q_618, .ref h0]) rfl ?_
                have hIb := hI
                have hcx : ¬ 300 ≤ k 1 := hca_30
                obtain ⟨kk_625, hk_626⟩ := pl_at hI.2.1.1.1 hI.2.2.2.1.1
                have hFc := fr_all hD hS hA
                refine va_callv (va_runV (As := [.ref q_618]) (rest := []) ⟨hx, hb, hml, hown, hts⟩ (y_keep l dC dI q h0 d k z_620 f_621 hI q_618 ht_623 hcx H.size) (cwV 1 hts gX11_put_X11_keep rfl rfl rfl zh_X11_keep_79 ⟨Nat.le_of_ble_eq_true rfl, Nat.le_of_ble_eq_true rfl⟩) ⟨gx_fb, va_recv hK hP (ci := 10) (q0 := kk_625) rfl hk_626, fun U hU hW => ⟨rfl, by rw [hU], px_to hU hW hP hK hN hXN, hD.weaken (fun _ _ _ _ => trivial)⟩⟩ rfl rfl hl.1 rfl (lv_room (Nat.le_of_ble_eq_true rfl)) dX11_put_122 ⟨Nat.le_of_ble_eq_true rfl, Nat.le_of_ble_eq_true rfl⟩) hS (fun q _ h => hFc q h) hFc (fun w_627 t H1 locs ht hvm hw hB hz1 hk1 hS => ?_)
                obtain ⟨hP, hD1⟩ := hB
                rw [ht] at hP
                rw [hw.1] at hP hD1
                have hD := hD1.weaken (fun _ q _ h => hFc q.1 h)
                have hI := hw.2.1
                have hw0 := hw
                generalize w_627.1 = k_629 at hI hw0
                generalize w_627.2.2 = f_628 at hP hD hI hw0
                generalize H1 = H at hP hS ⊢
                have hkp := hw0.2.2
                have hrp_630 : rep q d u2 z_620 f_628 := rep_kp hrp_624 hIb (by rw [zE_o hEz hIo.2.1.1.1]; exact hz0) hkp
                have hi3 : i_3 < (u2.1 3).toNatClampNeg := by rw [eu2]; exact hi_4
                obtain ⟨rs_631, n_632, g_633, fg_634, hit_635, hs_636, hpa_637, hps_638, h1_639, h6_640, hcb_641, hpl_642, hlg_643, hnn_644, hfa_645, hfs_646, hfe_647, hrs_648, hkt_649⟩ := it_all hI hrp_630.2.2.1 hi3
                refine lv_aload hx hb dX11_put_125 (lv_at hl 1 rfl) ?_
                obtain ⟨kk_650, hk_651⟩ := pl_at hit_635.1 hs_636
                refine w_then (F0 m 130 ls [.int (u2.2 22 i_3)]) (fun hgo => ?_) ?_
                ·
                  rcases x_tag hit_635 with ht9 | ht9 | ht9 | ht9 | ht9 | ht9
                  ·
                    rw [ht9.2] at hk_651
                    exact va_get (D := (dC, dI)) (ci := 2) (v := .int (u2.2 22 i_3)) (C := RX2) (T := TX2) (N := 7) hx hb hts zl_X11_put_X2 hown hK hP kk_650 hk_651 rfl 3 (by decide) (hts (.fieldLink RX11 170 "PageOne$Item" "count" "I") (zat q_wsX11_put k_wsX11_put 197 rfl (by decide +kernel))) (fun _ h9 => h9) rfl dX11_put_127 hgo
                  ·
                    rw [ht9.2] at hk_651
                    exact va_get (D := (dC, dI)) (ci := 3) (v := .int (u2.2 22 i_3)) (C := RX3) (T := TX3) (N := 8) hx hb hts zl_X11_put_X3 hown hK hP kk_650 hk_651 rfl 3 (by decide) (hts (.fieldLink RX11 170 "PageOne$Item" "count" "I") (zat q_wsX11_put k_wsX11_put 197 rfl (by decide +kernel))) (fun _ h9 => h9) rfl dX11_put_127 hgo
                  ·
                    rw [ht9.2] at hk_651
                    exact va_get (D := (dC, dI)) (ci := 4) (v := .int (u2.2 22 i_3)) (C := RX5) (T := TX5) (N := 7) hx hb hts zl_X11_put_X5 hown hK hP kk_650 hk_651 rfl 3 (by decide) (hts (.fieldLink RX11 170 "PageOne$Item" "count" "I") (zat q_wsX11_put k_wsX11_put 197 rfl (by decide +kernel))) (fun _ h9 => h9) rfl dX11_put_127 hgo
                  ·
                    rw [ht9.2] at hk_651
                    exact va_get (D := (dC, dI)) (ci := 5) (v := .int (u2.2 22 i_3)) (C := RX6) (T := TX6) (N := 9) hx hb hts zl_X11_put_X6 hown hK hP kk_650 hk_651 rfl 3 (by decide) (hts (.fieldLink RX11 170 "PageOne$Item" "count" "I") (zat q_wsX11_put k_wsX11_put 197 rfl (by decide +kernel))) (fun _ h9 => h9) rfl dX11_put_127 hgo
                  ·
                    rw [ht9.2] at hk_651
                    exact va_get (D := (dC, dI)) (ci := 6) (v := .int (u2.2 22 i_3)) (C := RX7) (T := TX7) (N := 8) hx hb hts zl_X11_put_X7 hown hK hP kk_650 hk_651 rfl 3 (by decide) (hts (.fieldLink RX11 170 "PageOne$Item" "count" "I") (zat q_wsX11_put k_wsX11_put 197 rfl (by decide +kernel))) (fun _ h9 => h9) rfl dX11_put_127 hgo
                  ·
                    rw [ht9.2] at hk_651
                    exact va_get (D := (dC, dI)) (ci := 9) (v := .int (u2.2 22 i_3)) (C := RX10) (T := TX10) (N := 9) hx hb hts zl_X11_put_X10 hown hK hP kk_650 hk_651 rfl 3 (by decide) (hts (.fieldLink RX11 170 "PageOne$Item" "count" "I") (zat q_wsX11_put k_wsX11_put 197 rfl (by decide +kernel))) (fun _ h9 => h9) rfl dX11_put_127 hgo
                ·
                  exact W.iret (v := (u2.2 22 i_3)) hx hb hr (fun t ht hW => ⟨⟨(u2.2 22 i_3), (k_629, z_620, f_628), rfl, (Or.inr ⟨i_3, P, X, Y, D, N, ⟨ep_5, hi_4, eP1, eX, eY, ((show cpW u i_3 p4 = zr_512 by unfold cpW; rw [if_pos (by rw [hkd]; decide), ezr_512]; rfl)).trans eD, ((show cpH u i_3 p4 = zr_515 by unfold cpH; rw [if_neg (by rw [hkd]; decide), if_neg (by rw [hkd]; decide), if_neg (by rw [hkd]; decide), ezr_515]; rfl)).trans eN, (by rw [← hk1o]; exact (n300 hIo.1.2.1).2 hcx), hrx, hrm9, by rw [← eP1] at hmF; rw [(show cpW u i_3 p4 = zr_512 by unfold cpW; rw [if_pos (by rw [hkd]; decide), ezr_512]; rfl), (show cpH u i_3 p4 = zr_515 by unfold cpH; rw [if_neg (by rw [hkd]; decide), if_neg (by rw [hkd]; decide), if_neg (by rw [hkd]; decide), ezr_515]; rfl)]; exact hmF, ⟨zr_611, c_612, by rw [(show cpW u i_3 p4 = zr_512 by unfold cpW; rw [if_pos (by rw [hkd]; decide), ezr_512]; rfl), (show cpH u i_3 p4 = zr_515 by unfold cpH; rw [if_neg (by rw [hkd]; decide), if_neg (by rw [hkd]; decide), if_neg (by rw [hkd]; decide), ezr_515]; rfl)]; exact ⟨(fun h9 => absurd (hkd.symm.trans h9) (by decide)), (fun _ => ezr_611), (fun h9 => absurd (hkd.symm.trans h9) (by decide)), (fun h9 => by rcases h9 with h8 | h8 | h8 <;> exact absurd (hkd.symm.trans h8) (by decide))⟩⟩, hemp⟩, by rw [show (u2.2 22 i_3) = (mStand u (nI i_3) P X Y D N).2 22 i_3 from by rw [eu2]]; exact put_fin hk1o hi8 hEz hI (by rw [← eu2]; exact hrp_630) h3m hkp.1 (kp_3 hrp_624 hIb hkp) ⟨ht_623, by rw [ez_620, pz_s]⟩ hpcx⟩), by rw [ht]; exact hP, hD⟩, hS.F ht⟩) hS.2.2 dX11_put_130
              ·
                refine lv_iconst (v := (-1)) hx hb dX11_put_102 (by decide) ?_
                refine W.widen (k := 2) (n := 10) (Nat.le_of_ble_eq_true rfl) (Nat.le_of_ble_eq_true rfl) ?_
                exact W.iret (v := (-1)) hx hb hr (fun t ht hW => ⟨⟨(-1), (k, z_517, f_518), rfl, (Or.inl ⟨Or.inr (Or.inr (Or.inr ⟨i_3, ep_5, hi_4, Or.inr (Or.inr (by rw [(show cpW u i_3 p4 = zr_512 by unfold cpW; rw [if_pos (by rw [hkd]; decide), ezr_512]; rfl), (show cpH u i_3 p4 = zr_515 by unfold cpH; rw [if_neg (by rw [hkd]; decide), if_neg (by rw [hkd]; decide), if_neg (by rw [hkd]; decide), ezr_515]; rfl)]; exact ⟨(fun h9 => absurd (hkd.symm.trans h9) (by decide)), (fun _ => (c_612.symm.trans ezr_611)), (fun h9 => absurd (hkd.symm.trans h9) (by decide)), (fun h9 => by rcases h9 with h8 | h8 | h8 <;> exact absurd (hkd.symm.trans h8) (by decide))⟩))⟩)), ⟨hEz, hI, rfl, hrp_521, fun _ _ => rfl, hk1o, Or.inl ⟨h3m, rfl⟩⟩⟩), by rw [ht]; exact hP, hD⟩, hS.F ht⟩) hS.2.2 dX11_put_103
            ·
              subst hw
              refine lv_if_eq (tgt := 102) hx hb dX11_put_76 (by decide) (fun c_652 => ?_) (fun c_652 => absurd (by decide) c_652)
              refine lv_iconst (v := (-1)) hx hb dX11_put_102 (by decide) ?_
              refine W.widen (k := 2) (n := 10) (Nat.le_of_ble_eq_true rfl) (Nat.le_of_ble_eq_true rfl) ?_
              exact W.iret (v := (-1)) hx hb hr (fun t ht hW => ⟨⟨(-1), (k, z_517, f_518), rfl, (Or.inl ⟨Or.inr (Or.inr (Or.inr ⟨i_3, ep_5, hi_4, Or.inr (Or.inl (fun h9 => hfr_582 ((fr_iff2 b_26 el_578 ec_579 hgb_576).mpr (by rw [(show cpW u i_3 p4 = zr_512 by unfold cpW; rw [if_pos (by rw [hkd]; decide), ezr_512]; rfl), (show cpH u i_3 p4 = zr_515 by unfold cpH; rw [if_neg (by rw [hkd]; decide), if_neg (by rw [hkd]; decide), if_neg (by rw [hkd]; decide), ezr_515]; rfl)] at h9; exact h9))))⟩)), ⟨hEz, hI, rfl, hrp_521, fun _ _ => rfl, hk1o, Or.inl ⟨h3m, rfl⟩⟩⟩), by rw [ht]; exact hP, hD⟩, hS.F ht⟩) hS.2.2 dX11_put_103
        ·
          have ht_653 : tg z (d (2000 + i_3)) 10 := ⟨hit_10.1, by rw [hkt_24, hkd]; rfl⟩
          have hs_654 : f (d (2000 + i_3)) = .inr (2, [.int (nI i_3), .int (u.2 4 i_3), .ref (d (3000 + i_3)), .int (u.2 22 i_3), .ref (d (4000 + i_3)), .int (u.2 5 i_3), .int (u.2 6 i_3)]) := by rw [hs_11, ht_653.2, hrs_23.2.2.2.2.1 hkd]; rfl
          refine va_new (ci := 7) (fs := [.null, .int 0, .int 0, .int 0, .int 0, .int 0]) (C := RX8) (T := TX8) (N := 6) hx hb hts zl_X11_put_X8 tyX8 tyX8_ok hown (hts (.classLink RX11 106 RX8) (zat q_wsX11_put k_wsX11_put 309 rfl (by decide +kernel))) (hts (.instantiable RX8 6) (zat q_wsX11_put k_wsX11_put 310 rfl (by decide +kernel))) (hts (.initialized RX8) (zat q_wsX11_put k_wsX11_put 62 rfl (by decide +kernel))) hK hP hD hS hA rfl nwX8 (Nat.le_of_ble_eq_true rfl) (Nat.le_of_ble_eq_true rfl) dX11_put_28 (fun q_664 H hPn hDn hS => ?_)
          have hP := vaP_l hPn
          refine W.widen (k := 1) (n := 6) (Nat.le_of_ble_eq_true rfl) (Nat.le_of_ble_eq_true rfl) ?_
          refine lv_dup hx hb dX11_put_31 rfl ?_
          refine lv_aload hx hb dX11_put_32 (lv_at hl 0 rfl) ?_
          refine lv_iload_n hx hb dX11_put_34 rfl (lv_at hl 3 rfl) ?_
          refine lv_iload_n hx hb dX11_put_35 rfl (lv_at hl 4 rfl) ?_
          refine lv_iload hx hb dX11_put_36 (lv_at hl 5 rfl) ?_
          refine lv_aload hx hb dX11_put_38 (lv_at hl 0 rfl) ?_
          refine lv_iload hx hb dX11_put_40 (lv_at hl 6 rfl) ?_
          obtain ⟨kk_665, hk_666⟩ := pl_at ht_653.1 hs_654
          refine vp_callSi (va_runU (As := [.int p4]) (rest := [.int p3, .int p2, .int p1, .ref (d (2000 + i_3)), .ref q_664, .ref q_664]) ⟨hx, hb, hml, hown, hts⟩ (y_cols1 l dC dI q h0 d k z f hI (d (2000 + i_3)) p4 hit_10) (va_cwU 1 hts gX11_put_X4_columnsBy_u142X2 rfl rfl rfl rfl zu_85 ⟨Nat.le_of_ble_eq_true rfl, Nat.le_of_ble_eq_true rfl⟩) ⟨px_fb, va_recv hK hP (ci := 2) (q0 := kk_665) rfl hk_666, fun U hU hW => ⟨rfl, px_to hU hW hP hK hN hXN⟩⟩ rfl rfl hl.1 rfl (lv_room (Nat.le_of_ble_eq_true rfl)) dX11_put_42 ⟨Nat.le_of_ble_eq_true rfl, Nat.le_of_ble_eq_true rfl⟩).run (fun r hw => ?_)
          obtain ⟨zr_667, ezr_667⟩ : ∃ y : Int32, y = (1 : Int32) := ⟨_, rfl⟩
          have hr9 : zr_667 = r := ezr_667.trans hw.symm
          subst hr9
          refine lv_aload hx hb dX11_put_45 (lv_at hl 0 rfl) ?_
          refine lv_iload hx hb dX11_put_47 (lv_at hl 6 rfl) ?_
          obtain ⟨kk_668, hk_669⟩ := pl_at ht_653.1 hs_654
          refine vp_callSi (va_runU (As := [.int p4]) (rest := [.int zr_667, .int p3, .int p2, .int p1, .ref (d (2000 + i_3)), .ref q_664, .ref q_664]) ⟨hx, hb, hml, hown, hts⟩ (y_X2_linesBy l dC dI q h0 d k z f hI (d (2000 + i_3)) (d (3000 + i_3)) (d (4000 + i_3)) (nI i_3) (u.2 4 i_3) (u.2 22 i_3) (u.2 5 i_3) (u.2 6 i_3) ht_653 hs_654 p4) (va_cwA 1 hts gX11_put_X2_linesBy_u145X2 rfl rfl rfl hXN.1 (by decide +kernel) ⟨Nat.le_of_ble_eq_true rfl, Nat.le_of_ble_eq_true rfl⟩) ⟨px_fb, va_recv hK hP (ci := 2) (q0 := kk_668) rfl hk_669, fun U hU hW => ⟨rfl, px_to hU hW hP hK hN hXN⟩⟩ rfl rfl hl.1 rfl (lv_room (Nat.le_of_ble_eq_true rfl)) dX11_put_49 ⟨Nat.le_of_ble_eq_true rfl, Nat.le_of_ble_eq_true rfl⟩).run (fun r hw => ?_)
          obtain ⟨zr_670, ezr_670⟩ : ∃ y : Int32, y = s_linesF p4 (u.2 5 i_3) (u.2 6 i_3) := ⟨_, rfl⟩
          have hr9 : zr_670 = r := ezr_670.trans hw.symm
          subst hr9
          have hPc := vaP_r hPn
          have hDc := vaD_r hDn
          have hFc := fr_part hDn hS hA
          refine va_callv (va_runI (As := [.ref (d (2000 + i_3)), .int p1, .int p2, .int p3, .int zr_667, .int zr_670]) (rest := [.ref q_664]) ⟨hx, hb, hml, hown, hts⟩ (x_PieceI l dC dI q_664 (d (2000 + i_3)) p1 p2 p3 zr_667 zr_670 H.size) (cwI 6 hts gX11_put_X8_init rfl rfl rfl (hts (.initialized RX8) (zat q_wsX11_put k_wsX11_put 62 rfl (by decide +kernel))) (hts (.methodLink RX11 108 yX8_init) (zat q_wsX11_put k_wsX11_put 311 rfl (by decide +kernel))) (hts (.instanceMethod yX8_init) (zat q_wsX11_put k_wsX11_put 312 rfl (by decide +kernel))) rfl zh_X8_init_83 ⟨Nat.le_of_ble_eq_true rfl, Nat.le_of_ble_eq_true rfl⟩) ⟨gw_fb, fun U hU hW => ⟨rfl, by rw [hU], pw_to hU hW hPc (hK.sub (tys' := []) [] rfl) hN, hDc.weaken (fun _ _ _ _ => trivial)⟩⟩ rfl rfl hl.1 rfl (lv_room (Nat.le_of_ble_eq_true rfl)) dX11_put_52 ⟨Nat.le_of_ble_eq_true rfl, Nat.le_of_ble_eq_true rfl⟩) hS (fun q _ h => hFc q h) hFc (fun u9 t H1 locs ht hvm hw hB hz1 hk1 hS => ?_)
          obtain ⟨hP1, hD1⟩ := hB
          rw [ht] at hP1
          obtain ⟨hP, hD⟩ := va_joinQ (X := [(q_664, .inr (7, [.null, .int 0, .int 0, .int 0, .int 0, .int 0]))]) (cx := [(q_664, .inr (7, [.null, .int 0, .int 0, .int 0, .int 0, .int 0]))]) (wr := []) (w1 := [(q_664, .inr (7, [va_rf (some (d (2000 + i_3))), .int p1, .int p2, .int p3, .int zr_667, .int zr_670]))]) (pl := va_pl z.1 f) (vaP_swap hPn) (vaD_rotR hDn) [0] [] rfl rfl rfl (fun i hi => absurd hi List.not_mem_nil) hk1 hFc hP1 hD1
          generalize H1 = H at hP hS ⊢
          obtain ⟨hnm_671, hP, hD⟩ := pushC hP hD
          obtain ⟨z_672, ez_672⟩ : ∃ y : gS, y = pz z q_664 (22, 0, [va_rf (some (d (2000 + i_3))), .int p1, .int p2, .int p3, .int zr_667, .int zr_670]) := ⟨_, rfl⟩
          obtain ⟨f_673, ef_673⟩ : ∃ y : xF, y = va_up f q_664 (.inr (7, [va_rf (some (d (2000 + i_3))), .int p1, .int p2, .int p3, .int zr_667, .int zr_670])) := ⟨_, rfl⟩
          have hE_674 : zE z z_672 := by rw [ez_672]; exact pz_E hnm_671 _
          have hI : xI q h0 d k z_672 f_673 := by rw [ez_672, ef_673]; exact x_push hI hnm_671 (Or.inr (by decide : (15 : Nat) < 22)) (cO_pc b_26 (ty_s (tg_itm ht_653 (by decide))) hnm_671)
          rw [show z.1 ++ [q_664] = z_672.1 from by rw [ez_672]; rfl, ← ef_673] at hP hD
          have ht_653 := zE_tg hE_674 ht_653
          have hpa_12 := zE_tg hE_674 hpa_12
          have hfa_20 := zE_tg hE_674 hfa_20
          have ht_675 : tg z_672 q_664 22 := by rw [ez_672]; exact pz_t _ _ _
          have hEz : zE z z_672 := zE_tr (zE_rf z) hE_674
          have h3m : f_673 (d 3) = f (d 3) := by rw [ef_673]; exact (up_o (fun e9 => hnm_671 (by rw [← e9]; exact hrp.2.2.2.2.2.2.2.1.1.1))).trans h3m
          have hrp_676 : rep q d u z_672 f_673 := by rw [ez_672, ef_673]; exact rep_grow hrp (pz_E hnm_671 _) (oK_push (fun _ _ => rfl) (zE_rf _) hnm_671)
          obtain ⟨rs_677, n_678, g_679, fg_680, hit_681, hs_682, hpa_683, hps_684, h1_685, h6_686, hcb_687, hpl_688, hlg_689, hnn_690, hfa_691, hfs_692, hfe_693, hrs_694, hkt_695⟩ := it_all hI hrp_676.2.2.1 hi_4
          have ht_696 : tg z_672 (d (2000 + i_3)) 10 := ⟨hit_681.1, by rw [hkt_695, hkd]; rfl⟩
          have hs_697 : f_673 (d (2000 + i_3)) = .inr (2, [.int (nI i_3), .int (u.2 4 i_3), .ref (d (3000 + i_3)), .int (u.2 22 i_3), .ref (d (4000 + i_3)), .int (u.2 5 i_3), .int (u.2 6 i_3)]) := by rw [hs_682, ht_696.2, hrs_694.2.2.2.2.1 hkd]; rfl
          refine W.eq (g2 := F0 m 55 ls [.ref q_664]) rfl ?_
          have hp_707 : pcS z_672 q_664 (some (d (2000 + i_3))) p1 p2 p3 zr_667 zr_670 := ⟨ht_675, by rw [ez_672, pz_s]⟩
          refine lv_astore (lv' := [(7, .ref q_664), (6, .ref (d (2000 + i_3))), (0, .ref h0), (1, .int p0), (2, .int p1), (3, .int p2), (4, .int p3), (5, .int p4)]) hx hb dX11_put_55 hl (by decide) rfl (fun ls hl => ?_)
          refine lv_aload hx hb dX11_put_57 (lv_at hl 1 rfl) ?_
          obtain ⟨kk_708, hk_709⟩ := pl_at ht_696.1 hs_697
          refine vp_callSi (va_runU (As := []) (rest := []) ⟨hx, hb, hml, hown, hts⟩ (y_hasRoom l dC dI q h0 d k z_672 f_673 hI (d (2000 + i_3)) hit_681 (nI i_3) (u.2 4 i_3) (u.2 22 i_3) (d (3000 + i_3)) (d (4000 + i_3)) rs_677 hs_682 n_678 g_679 hps_684 hpa_683) (va_cwU 0 hts gX11_put_X4_hasRoom_u148X2 rfl rfl rfl rfl zu_33 ⟨Nat.le_of_ble_eq_true rfl, Nat.le_of_ble_eq_true rfl⟩) ⟨px_fb, va_recv hK hP (ci := 2) (q0 := kk_708) rfl hk_709, fun U hU hW => ⟨rfl, px_to hU hW hP hK hN hXN⟩⟩ rfl rfl hl.1 rfl (lv_room (Nat.le_of_ble_eq_true rfl)) dX11_put_59 ⟨Nat.le_of_ble_eq_true rfl, Nat.le_of_ble_eq_true rfl⟩).run (fun r hw => ?_)
          obtain rfl : r = (bP ((u.2 22 i_3) < nI n_678)) := hw
          refine lv_if_eq (tgt := 102) hx hb dX11_put_62 (by decide) (fun c_710 => ?_) (fun c_710 => ?_)
          ·
            refine lv_iconst (v := (-1)) hx hb dX11_put_102 (by decide) ?_
            refine W.widen (k := 2) (n := 10) (Nat.le_of_ble_eq_true rfl) (Nat.le_of_ble_eq_true rfl) ?_
            exact W.iret (v := (-1)) hx hb hr (fun t ht hW => ⟨⟨(-1), (k, z_672, f_673), rfl, (Or.inl ⟨Or.inr (Or.inr (Or.inr ⟨i_3, ep_5, hi_4, Or.inl (noN h6_686 hcb_687 hnn_690 (bP_0 c_710))⟩)), ⟨hEz, hI, rfl, hrp_676, fun _ _ => rfl, hk1o, Or.inl ⟨h3m, rfl⟩⟩⟩), by rw [ht]; exact hP, hD⟩, hS.F ht⟩) hS.2.2 dX11_put_103
          ·
            refine lv_aload_n hx hb dX11_put_65 rfl (lv_at hl 2 rfl) ?_
            obtain ⟨kk_711, hk_712⟩ := pl_at hI.2.1.1.1 hI.2.2.2.1.1
            refine va_get (D := (dC, dI)) (ci := 10) (v := .ref (d 0)) (C := RX11) (T := TX11) (N := 9) hx hb hts zl_X11_put_X11 hown hK hP kk_711 hk_712 rfl 0 (by decide) (hts (.fieldLink RX11 11 "PageOne" "pages" "[LPageOne$Sheet;") (zat q_wsX11_put k_wsX11_put 112 rfl (by decide +kernel))) (fun _ h9 => h9) rfl dX11_put_66 ?_
            refine lv_iload_n hx hb dX11_put_69 rfl (lv_at hl 4 rfl) ?_
            obtain ⟨g_713, hs_714, hg_715⟩ := x_pg hI hI.2.1.2.1
            obtain ⟨kk_716, hk_717⟩ := pl_at hI.2.1.2.1.1 hs_714
            refine va_aldq hx hb hK hP kk_716 2 hk_717 rfl (vin b_26 (by decide)) dX11_put_70 ?_
            obtain ⟨b_718, hg_719, ht_720⟩ := hg_715 _ (vlt (vin b_26 (by decide)))
            rw [hg_719]
            refine W.eq (g2 := F0 m 71 ls [.ref b_718]) rfl ?_
            have hb_721 := pg_at hrp_676.1 hs_714 (clp b_26) hg_719
            subst hb_721
            obtain ⟨dd_722, ii_723, gl_724, gc_725, ht_726, ht_727, ht_728, hs_729, hg_730, hgb_731, hc_732, el_733, ec_734⟩ := pg_all hI hrp_676.1 (clp b_26)
            refine lv_aload hx hb dX11_put_71 (lv_at hl 0 rfl) ?_
            obtain ⟨kk_735, hk_736⟩ := pl_at ht_726.1 hs_729
            refine vp_callSi (va_runV (As := [.ref q_664]) (rest := []) ⟨hx, hb, hml, hown, hts⟩ (y_isFree l dC dI q h0 d k z_672 f_673 hI (d (10 + p1.toNatClampNeg)) (d (30 + p1.toNatClampNeg)) (d (50 + p1.toNatClampNeg)) (u.2 1 p1.toNatClampNeg) dd_722 ii_723 gl_724 gc_725 ht_726 hs_729 ht_727 ht_728 hg_730 hgb_731 hc_732 q_664 (some (d (2000 + i_3))) p1 p2 p3 zr_667 zr_670 hp_707) (cwV 1 hts gX11_put_X9_isFree rfl rfl rfl zh_X9_isFree_82 ⟨Nat.le_of_ble_eq_true rfl, Nat.le_of_ble_eq_true rfl⟩) ⟨px_fb, va_recv hK hP (ci := 8) (q0 := kk_735) rfl hk_736, fun U hU hW => ⟨rfl, px_to hU hW hP hK hN hXN⟩⟩ rfl rfl hl.1 rfl (lv_room (Nat.le_of_ble_eq_true rfl)) dX11_put_73 ⟨Nat.le_of_ble_eq_true rfl, Nat.le_of_ble_eq_true rfl⟩).run (fun r hw => ?_)
            rcases hw with ⟨hw, hfr_737⟩ | ⟨hw, hfr_737⟩
            ·
              subst hw
              refine lv_if_eq (tgt := 102) hx hb dX11_put_76 (by decide) (fun c_738 => absurd c_738 (by decide)) (fun c_738 => ?_)
              refine lv_aload hx hb dX11_put_79 (lv_at hl 1 rfl) ?_
              refine lv_aload hx hb dX11_put_81 (lv_at hl 0 rfl) ?_
              refine lv_aload_n hx hb dX11_put_83 rfl (lv_at hl 2 rfl) ?_
              obtain ⟨kk_739, hk_740⟩ := pl_at hI.2.1.1.1 hI.2.2.2.1.1
              refine va_get (D := (dC, dI)) (ci := 10) (v := .ref (d 0)) (C := RX11) (T := TX11) (N := 9) hx hb hts zl_X11_put_X11 hown hK hP kk_739 hk_740 rfl 0 (by decide) (hts (.fieldLink RX11 11 "PageOne" "pages" "[LPageOne$Sheet;") (zat q_wsX11_put k_wsX11_put 112 rfl (by decide +kernel))) (fun _ h9 => h9) rfl dX11_put_84 ?_
              refine lv_iload_n hx hb dX11_put_87 rfl (lv_at hl 4 rfl) ?_
              obtain ⟨kk_741, hk_742⟩ := pl_at hI.2.1.2.1.1 hs_714
              refine va_aldq hx hb hK hP kk_741 2 hk_742 rfl (vin b_26 (by decide)) dX11_put_88 ?_
              obtain ⟨b_743, hg_744, ht_745⟩ := hg_715 _ (vlt (vin b_26 (by decide)))
              rw [hg_744]
              refine W.eq (g2 := F0 m 89 ls [.ref b_743, .ref q_664, .ref (d (2000 + i_3))]) rfl ?_
              have hb_746 := pg_at hrp_676.1 hs_714 (clp b_26) hg_744
              subst hb_746
              obtain ⟨dd_747, ii_748, gl_749, gc_750, ht_751, ht_752, ht_753, hs_754, hg_755, hgb_756, hc_757, el_758, ec_759⟩ := pg_all hI hrp_676.1 (clp b_26)
              obtain ⟨kk_760, hk_761⟩ := pl_at ht_751.1 hs_754
              refine va_get (D := (dC, dI)) (ci := 8) (v := .int (u.2 1 p1.toNatClampNeg)) (C := RX9) (T := TX9) (N := 5) hx hb hts zl_X11_put_X9 hown hK hP kk_760 hk_761 rfl 2 (by decide) (hts (.fieldLink RX11 63 "PageOne$Sheet" "measure" "I") (zat q_wsX11_put k_wsX11_put 94 rfl (by decide +kernel))) (fun _ h9 => h9) rfl dX11_put_89 ?_
              refine lv_aload_n hx hb dX11_put_92 rfl (lv_at hl 2 rfl) ?_
              obtain ⟨kk_762, hk_763⟩ := pl_at hI.2.1.1.1 hI.2.2.2.1.1
              refine va_get (D := (dC, dI)) (ci := 10) (v := .int (k 2)) (C := RX11) (T := TX11) (N := 9) hx hb hts zl_X11_put_X11 hown hK hP kk_762 hk_763 rfl 7 (by decide) (hts (.fieldLink RX11 41 "PageOne" "today" "I") (zat q_wsX11_put k_wsX11_put 119 rfl (by decide +kernel))) (fun _ h9 => h9) rfl dX11_put_93 ?_
              obtain ⟨kk_764, hk_765⟩ := pl_at ht_696.1 hs_697
              refine vp_callSi (va_runU (As := [.ref q_664, .int (u.2 1 p1.toNatClampNeg), .int (k 2)]) (rest := []) ⟨hx, hb, hml, hown, hts⟩ (y_sit1 l dC dI q h0 d k z_672 f_673 hI (d (2000 + i_3)) q_664 (u.2 1 p1.toNatClampNeg) (k 2) hit_681) (va_cwU 3 hts gX11_put_X4_maySit_u155X2 rfl rfl rfl rfl zu_84 ⟨Nat.le_of_ble_eq_true rfl, Nat.le_of_ble_eq_true rfl⟩) ⟨px_fb, va_recv hK hP (ci := 2) (q0 := kk_764) rfl hk_765, fun U hU hW => ⟨rfl, px_to hU hW hP hK hN hXN⟩⟩ rfl rfl hl.1 rfl (lv_room (Nat.le_of_ble_eq_true rfl)) dX11_put_96 ⟨Nat.le_of_ble_eq_true rfl, Nat.le_of_ble_eq_true rfl⟩).run (fun r hw => ?_)
              obtain ⟨zr_766, ezr_766⟩ : ∃ y : Int32, y = (1 : Int32) := ⟨_, rfl⟩
              have hr9 : zr_766 = r := ezr_766.trans hw.symm
              subst hr9
              refine lv_if_ne (tgt := 104) hx hb dX11_put_99 (by decide) (fun c_767 => ?_) (fun c_767 => ?_)
              ·
                have hmF := (fr_iff (clp b_26) el_733 ec_734 hgb_731).mp hfr_737
                obtain ⟨P, eP⟩ : ∃ y, y = p1.toNatClampNeg := ⟨_, rfl⟩
                have eP1 : p1 = nI P := by rw [eP]; exact (nI_of_bw b_26).1
                obtain ⟨X, Y, D, N, eX, eY, eD, eN, hrx, hemp⟩ := fr_rIn (clp b_26) (fun a ha => by rw [← el_733 a ha]; exact hgb_731 a ha) hmF
                rw [← eP] at hrx hemp hmF
                have hrx9 := hrx
                obtain ⟨hP9, hX, hD1, hY, hN1, hin⟩ := hrx9
                have hpcx : pcS z_672 q_664 (some (d (2000 + i_3))) (nI P) (nI X) (nI Y) (nI D) (nI N) := by rw [← eP1, ← eX, ← eY, ← eD, ← eN]; exact hp_707
                have hlg_768 := lg_of hpcx ⟨b7n (by omega), b60n (by omega), bwN (by have e8 : (8 : Int32).toInt = 8 := rfl; rw [e8]; omega) (by omega), b60n (by omega)⟩
                have hrm9 : (u.2 22 i_3).toNatClampNeg < (if u.2 4 i_3 = 0 then 6 else 1) := ltN h6_686 hcb_687 hnn_690 (bP_n c_710)
                refine lv_aload_n hx hb dX11_put_104 rfl (lv_at hl 2 rfl) ?_
                refine lv_aload hx hb dX11_put_105 (lv_at hl 0 rfl) ?_
                obtain ⟨kk_769, hk_770⟩ := pl_at hI.2.1.1.1 hI.2.2.2.1.1
                have hFc := fr_all hD hS hA
                refine va_callv (va_runV (As := [.ref q_664]) (rest := []) ⟨hx, hb, hml, hown, hts⟩ (y_standI l dC dI q h0 d k z_672 f_673 hI q_664 P X Y D N u hrp_676 hk0 hk1o hk2 hk3 hP9 hX hD1 hY hin hne i_3 hi_4 hpcx hrm9 H.size) (cwV 1 hts gX11_put_X11_stand rfl rfl rfl zh_X11_stand_62 ⟨Nat.le_of_ble_eq_true rfl, Nat.le_of_ble_eq_true rfl⟩) ⟨gx_fb, va_recv hK hP (ci := 10) (q0 := kk_769) rfl hk_770, fun U hU hW => ⟨rfl, by rw [hU], px_to hU hW hP hK hN hXN, hD.weaken (fun _ _ _ _ => trivial)⟩⟩ rfl rfl hl.1 rfl (lv_room (Nat.le_of_ble_eq_true rfl)) dX11_put_107 ⟨Nat.le_of_ble_eq_true rfl, Nat.le_of_ble_eq_true rfl⟩) hS (fun q _ h => hFc q h) hFc (fun w_771 t H1 locs ht hvm hw hB hz1 hk1 hS => ?_)
                obtain ⟨hP, hD1⟩ := hB
                rw [ht] at hP
                rw [hw.2.1] at hP hD1
                have hD := hD1.weaken (fun _ q _ h => hFc q.1 h)
                have hI := hw.2.2.1
                have hw0 := hw
                generalize w_771.2.2 = f_772 at hP hD hI hw0
                generalize H1 = H at hP hS ⊢
                obtain ⟨u2, eu2⟩ : ∃ y : mS, y = mStand u (nI i_3) P X Y D N := ⟨_, rfl⟩
                have hrp2 : rep q d u2 z_672 f_772 := by rw [eu2]; exact hw0.2.2.2.1
                have h3m : f_772 (d 3) = f (d 3) := hw0.2.2.2.2.trans h3m
                refine lv_aload_n hx hb dX11_put_110 rfl (lv_at hl 2 rfl) ?_
                refine va_new (ci := 0) (fs := [.null, .int 0, .null, .int 0]) (C := RX0) (T := TX0) (N := 4) hx hb hts zl_X11_put_X0 tyX0 tyX0_ok hown (hts (.classLink RX11 28 RX0) (zat q_wsX11_put k_wsX11_put 80 rfl (by decide +kernel))) (hts (.instantiable RX0 4) (zat q_wsX11_put k_wsX11_put 598 rfl (by decide +kernel))) (hts (.initialized RX0) (zat q_wsX11_put k_wsX11_put 65 rfl (by decide +kernel))) hK hP hD hS hA rfl nwX0 (Nat.le_of_ble_eq_true rfl) (Nat.le_of_ble_eq_true rfl) dX11_put_111 (fun q_773 H hPn hDn hS => ?_)
                have hP := vaP_l hPn
                refine W.widen (k := 2) (n := 10) (Nat.le_of_ble_eq_true rfl) (Nat.le_of_ble_eq_true rfl) ?_
                refine lv_dup hx hb dX11_put_114 rfl ?_
                refine lv_aload hx hb dX11_put_115 (lv_at hl 0 rfl) ?_
                refine lv_iconst (v := 0) hx hb dX11_put_117 (by decide) ?_
                refine lv_null hx hb dX11_put_118 ?_
                have hPc := vaP_r hPn
                have hDc := vaD_r hDn
                have hFc := fr_part hDn hS hA
                refine va_callv (va_runI (As := [.ref q_664, .int 0, .null]) (rest := [.ref q_773, .ref h0]) ⟨hx, hb, hml, hown, hts⟩ (x_ActP l dC dI q_773 q_664 H.size) (cwI 3 hts gX11_put_X0_init rfl rfl rfl (hts (.initialized RX0) (zat q_wsX11_put k_wsX11_put 65 rfl (by decide +kernel))) (hts (.methodLink RX11 163 yX0_init) (zat q_wsX11_put k_wsX11_put 599 rfl (by decide +kernel))) (hts (.instanceMethod yX0_init) (zat q_wsX11_put k_wsX11_put 600 rfl (by decide +kernel))) rfl zh_X0_init_81 ⟨Nat.le_of_ble_eq_true rfl, Nat.le_of_ble_eq_true rfl⟩) ⟨gw_fb, fun U hU hW => ⟨rfl, by rw [hU], pw_to hU hW hPc (hK.sub (tys' := []) [] rfl) hN, hDc.weaken (fun _ _ _ _ => trivial)⟩⟩ rfl rfl hl.1 rfl (lv_room (Nat.le_of_ble_eq_true rfl)) dX11_put_119 ⟨Nat.le_of_ble_eq_true rfl, Nat.le_of_ble_eq_true rfl⟩) hS (fun q _ h => hFc q h) hFc (fun u9 t H1 locs ht hvm hw hB hz1 hk1 hS => ?_)
                obtain ⟨hP1, hD1⟩ := hB
                rw [ht] at hP1
                obtain ⟨hP, hD⟩ := va_joinQ (X := [(q_773, .inr (0, [.null, .int 0, .null, .int 0]))]) (cx := [(q_773, .inr (0, [.null, .int 0, .null, .int 0]))]) (wr := []) (w1 := [(q_773, .inr (0, [.ref q_664, .int 0, va_rf none, .int 1]))]) (pl := va_pl z_672.1 f_772) (vaP_swap hPn) (vaD_rotR hDn) [0] [] rfl rfl rfl (fun i hi => absurd hi List.not_mem_nil) hk1 hFc hP1 hD1
                generalize H1 = H at hP hS ⊢
                obtain ⟨hnm_774, hP, hD⟩ := pushC hP hD
                obtain ⟨z_775, ez_775⟩ : ∃ y : gS, y = pz z_672 q_773 (23, 0, [.ref q_664, .int 0, va_rf none, .int 1]) := ⟨_, rfl⟩
                obtain ⟨f_776, ef_776⟩ : ∃ y : xF, y = va_up f_772 q_773 (.inr (0, [.ref q_664, .int 0, va_rf none, .int 1])) := ⟨_, rfl⟩
                have hE_777 : zE z_672 z_775 := by rw [ez_775]; exact pz_E hnm_774 _
                have hI : xI q h0 d k z_775 f_776 := by rw [ez_775, ef_776]; exact x_push hI hnm_774 (Or.inr (by decide : (15 : Nat) < 23)) (cO_ac hlg_768 hnm_774)
                rw [show z_672.1 ++ [q_773] = z_775.1 from by rw [ez_775]; rfl, ← ef_776] at hP hD
                have ht_696 := zE_tg hE_777 ht_696
                have hpa_683 := zE_tg hE_777 hpa_683
                have hfa_691 := zE_tg hE_777 hfa_691
                have hlg_768 := zE_lg hE_777 hlg_768
                have ht_751 := zE_tg hE_777 ht_751
                have ht_752 := zE_tg hE_777 ht_752
                have ht_753 := zE_tg hE_777 ht_753
                have hp_707 := zE_pc hE_777 hp_707
                have hpcx := zE_pc hE_777 hpcx
                have ht_778 : tg z_775 q_773 23 := by rw [ez_775]; exact pz_t _ _ _
                have hEz : zE z z_775 := zE_tr hEz hE_777
                have h3m : f_776 (d 3) = f (d 3) := by rw [ef_776]; exact (up_o (fun e9 => hnm_774 (by rw [← e9]; exact hrp2.2.2.2.2.2.2.2.1.1.1))).trans h3m
                have hrp_779 : rep q d u2 z_775 f_776 := by rw [ez_775, ef_776]; exact rep_grow hrp2 (pz_E hnm_774 _) (oK_push (fun _ _ => rfl) (zE_rf _) hnm_774)
                refine W.eq (g2 := F0 m 122 ls [.ref q_773, .ref h0]) rfl ?_
                have hIb := hI
                have hcx : ¬ 300 ≤ k 1 := hca_30
                obtain ⟨kk_780, hk_781⟩ := pl_at hI.2.1.1.1 hI.2.2.2.1.1
                have hFc := fr_all hD hS hA
                refine va_callv (va_runV (As := [.ref q_773]) (rest := []) ⟨hx, hb, hml, hown, hts⟩ (y_keep l dC dI q h0 d k z_775 f_776 hI q_773 ht_778 hcx H.size) (cwV 1 hts gX11_put_X11_keep rfl rfl rfl zh_X11_keep_79 ⟨Nat.le_of_ble_eq_true rfl, Nat.le_of_ble_eq_true rfl⟩) ⟨gx_fb, va_recv hK hP (ci := 10) (q0 := kk_780) rfl hk_781, fun U hU hW => ⟨rfl, by rw [hU], px_to hU hW hP hK hN hXN, hD.weaken (fun _ _ _ _ => trivial)⟩⟩ rfl rfl hl.1 rfl (lv_room (Nat.le_of_ble_eq_true rfl)) dX11_put_122 ⟨Nat.le_of_ble_eq_true rfl, Nat.le_of_ble_eq_true rfl⟩) hS (fun q _ h => hFc q h) hFc (fun w_782 t H1 locs ht hvm hw hB hz1 hk1 hS => ?_)
                obtain ⟨hP, hD1⟩ := hB
                rw [ht] at hP
                rw [hw.1] at hP hD1
                have hD := hD1.weaken (fun _ q _ h => hFc q.1 h)
                have hI := hw.2.1
                have hw0 := hw
                generalize w_782.1 = k_784 at hI hw0
                generalize w_782.2.2 = f_783 at hP hD hI hw0
                generalize H1 = H at hP hS ⊢
                have hkp := hw0.2.2
                have hrp_785 : rep q d u2 z_775 f_783 := rep_kp hrp_779 hIb (by rw [zE_o hEz hIo.2.1.1.1]; exact hz0) hkp
                have hi3 : i_3 < (u2.1 3).toNatClampNeg := by rw [eu2]; exact hi_4
                obtain ⟨rs_786, n_787, g_788, fg_789, hit_790, hs_791, hpa_792, hps_793, h1_794, h6_795, hcb_796, hpl_797, hlg_798, hnn_799, hfa_800, hfs_801, hfe_802, hrs_803, hkt_804⟩ := it_all hI hrp_785.2.2.1 hi3
                refine lv_aload hx hb dX11_put_125 (lv_at hl 1 rfl) ?_
                obtain ⟨kk_805, hk_806⟩ := pl_at hit_790.1 hs_791
                refine w_then (F0 m 130 ls [.int (u2.2 22 i_3)]) (fun hgo => ?_) ?_
                ·
                  rcases x_tag hit_790 with ht9 | ht9 | ht9 | ht9 | ht9 | ht9
                  ·
                    rw [ht9.2] at hk_806
                    exact va_get (D := (dC, dI)) (ci := 2) (v := .int (u2.2 22 i_3)) (C := RX2) (T := TX2) (N := 7) hx hb hts zl_X11_put_X2 hown hK hP kk_805 hk_806 rfl 3 (by decide) (hts (.fieldLink RX11 170 "PageOne$Item" "count" "I") (zat q_wsX11_put k_wsX11_put 197 rfl (by decide +kernel))) (fun _ h9 => h9) rfl dX11_put_127 hgo
                  ·
                    rw [ht9.2] at hk_806
                    exact va_get (D := (dC, dI)) (ci := 3) (v := .int (u2.2 22 i_3)) (C := RX3) (T := TX3) (N := 8) hx hb hts zl_X11_put_X3 hown hK hP kk_805 hk_806 rfl 3 (by decide) (hts (.fieldLink RX11 170 "PageOne$Item" "count" "I") (zat q_wsX11_put k_wsX11_put 197 rfl (by decide +kernel))) (fun _ h9 => h9) rfl dX11_put_127 hgo
                  ·
                    rw [ht9.2] at hk_806
                    exact va_get (D := (dC, dI)) (ci := 4) (v := .int (u2.2 22 i_3)) (C := RX5) (T := TX5) (N := 7) hx hb hts zl_X11_put_X5 hown hK hP kk_805 hk_806 rfl 3 (by decide) (hts (.fieldLink RX11 170 "PageOne$Item" "count" "I") (zat q_wsX11_put k_wsX11_put 197 rfl (by decide +kernel))) (fun _ h9 => h9) rfl dX11_put_127 hgo
                  ·
                    rw [ht9.2] at hk_806
                    exact va_get (D := (dC, dI)) (ci := 5) (v := .int (u2.2 22 i_3)) (C := RX6) (T := TX6) (N := 9) hx hb hts zl_X11_put_X6 hown hK hP kk_805 hk_806 rfl 3 (by decide) (hts (.fieldLink RX11 170 "PageOne$Item" "count" "I") (zat q_wsX11_put k_wsX11_put 197 rfl (by decide +kernel))) (fun _ h9 => h9) rfl dX11_put_127 hgo
                  ·
                    rw [ht9.2] at hk_806
                    exact va_get (D := (dC, dI)) (ci := 6) (v := .int (u2.2 22 i_3)) (C := RX7) (T := TX7) (N := 8) hx hb hts zl_X11_put_X7 hown hK hP kk_805 hk_806 rfl 3 (by decide) (hts (.fieldLink RX11 170 "PageOne$Item" "count" "I") (zat q_wsX11_put k_wsX11_put 197 rfl (by decide +kernel))) (fun _ h9 => h9) rfl dX11_put_127 hgo
                  ·
                    rw [ht9.2] at hk_806
                    exact va_get (D := (dC, dI)) (ci := 9) (v := .int (u2.2 22 i_3)) (C := RX10) (T := TX10) (N := 9) hx hb hts zl_X11_put_X10 hown hK hP kk_805 hk_806 rfl 3 (by decide) (hts (.fieldLink RX11 170 "PageOne$Item" "count" "I") (zat q_wsX11_put k_wsX11_put 197 rfl (by decide +kernel))) (fun _ h9 => h9) rfl dX11_put_127 hgo
                ·
                  exact W.iret (v := (u2.2 22 i_3)) hx hb hr (fun t ht hW => ⟨⟨(u2.2 22 i_3), (k_784, z_775, f_783), rfl, (Or.inr ⟨i_3, P, X, Y, D, N, ⟨ep_5, hi_4, eP1, eX, eY, ((show cpW u i_3 p4 = zr_667 by unfold cpW; rw [if_neg (by rw [hkd]; decide), if_neg (by rw [hkd]; decide), ezr_667])).trans eD, ((show cpH u i_3 p4 = zr_670 by unfold cpH; rw [if_neg (by rw [hkd]; decide), if_neg (by rw [hkd]; decide), if_pos hkd, ezr_670]; rfl)).trans eN, (by rw [← hk1o]; exact (n300 hIo.1.2.1).2 hcx), hrx, hrm9, by rw [← eP1] at hmF; rw [(show cpW u i_3 p4 = zr_667 by unfold cpW; rw [if_neg (by rw [hkd]; decide), if_neg (by rw [hkd]; decide), ezr_667]), (show cpH u i_3 p4 = zr_670 by unfold cpH; rw [if_neg (by rw [hkd]; decide), if_neg (by rw [hkd]; decide), if_pos hkd, ezr_670]; rfl)]; exact hmF, ⟨zr_766, c_767, by rw [(show cpW u i_3 p4 = zr_667 by unfold cpW; rw [if_neg (by rw [hkd]; decide), if_neg (by rw [hkd]; decide), ezr_667]), (show cpH u i_3 p4 = zr_670 by unfold cpH; rw [if_neg (by rw [hkd]; decide), if_neg (by rw [hkd]; decide), if_pos hkd, ezr_670]; rfl)]; exact ⟨(fun h9 => absurd (hkd.symm.trans h9) (by decide)), (fun h9 => absurd (hkd.symm.trans h9) (by decide)), (fun h9 => absurd (hkd.symm.trans h9) (by decide)), (fun _ => ezr_766)⟩⟩, hemp⟩, by rw [show (u2.2 22 i_3) = (mStand u (nI i_3) P X Y D N).2 22 i_3 from by rw [eu2]]; exact put_fin hk1o hi8 hEz hI (by rw [← eu2]; exact hrp_785) h3m hkp.1 (kp_3 hrp_779 hIb hkp) ⟨ht_778, by rw [ez_775, pz_s]⟩ hpcx⟩), by rw [ht]; exact hP, hD⟩, hS.F ht⟩) hS.2.2 dX11_put_130
              ·
                refine lv_iconst (v := (-1)) hx hb dX11_put_102 (by decide) ?_
                refine W.widen (k := 2) (n := 10) (Nat.le_of_ble_eq_true rfl) (Nat.le_of_ble_eq_true rfl) ?_
                exact W.iret (v := (-1)) hx hb hr (fun t ht hW => ⟨⟨(-1), (k, z_672, f_673), rfl, (Or.inl ⟨Or.inr (Or.inr (Or.inr ⟨i_3, ep_5, hi_4, Or.inr (Or.inr (by rw [(show cpW u i_3 p4 = zr_667 by unfold cpW; rw [if_neg (by rw [hkd]; decide), if_neg (by rw [hkd]; decide), ezr_667]), (show cpH u i_3 p4 = zr_670 by unfold cpH; rw [if_neg (by rw [hkd]; decide), if_neg (by rw [hkd]; decide), if_pos hkd, ezr_670]; rfl)]; exact ⟨(fun h9 => absurd (hkd.symm.trans h9) (by decide)), (fun h9 => absurd (hkd.symm.trans h9) (by decide)), (fun h9 => absurd (hkd.symm.trans h9) (by decide)), (fun _ => (c_767.symm.trans ezr_766))⟩))⟩)), ⟨hEz, hI, rfl, hrp_676, fun _ _ => rfl, hk1o, Or.inl ⟨h3m, rfl⟩⟩⟩), by rw [ht]; exact hP, hD⟩, hS.F ht⟩) hS.2.2 dX11_put_103
            ·
              subst hw
              refine lv_if_eq (tgt := 102) hx hb dX11_put_76 (by decide) (fun c_807 => ?_) (fun c_807 => absurd (by decide) c_807)
              refine lv_iconst (v := (-1)) hx hb dX11_put_102 (by decide) ?_
              refine W.widen (k := 2) (n := 10) (Nat.le_of_ble_eq_true rfl) (Nat.le_of_ble_eq_true rfl) ?_
              exact W.iret (v := (-1)) hx hb hr (fun t ht hW => ⟨⟨(-1), (k, z_672, f_673), rfl, (Or.inl ⟨Or.inr (Or.inr (Or.inr ⟨i_3, ep_5, hi_4, Or.inr (Or.inl (fun h9 => hfr_737 ((fr_iff2 b_26 el_733 ec_734 hgb_731).mpr (by rw [(show cpW u i_3 p4 = zr_667 by unfold cpW; rw [if_neg (by rw [hkd]; decide), if_neg (by rw [hkd]; decide), ezr_667]), (show cpH u i_3 p4 = zr_670 by unfold cpH; rw [if_neg (by rw [hkd]; decide), if_neg (by rw [hkd]; decide), if_pos hkd, ezr_670]; rfl)] at h9; exact h9))))⟩)), ⟨hEz, hI, rfl, hrp_676, fun _ _ => rfl, hk1o, Or.inl ⟨h3m, rfl⟩⟩⟩), by rw [ht]; exact hP, hD⟩, hS.F ht⟩) hS.2.2 dX11_put_103
        ·
          have ht_808 : tg z (d (2000 + i_3)) 12 := ⟨hit_10.1, by rw [hkt_24, hkd]; rfl⟩
          obtain ⟨o9, hx_810, hx_811, hx_812⟩ := hrs_23.2.2.2.2.2 hkd
          have hs_809 : f (d (2000 + i_3)) = .inr (4, [.int (nI i_3), .int (u.2 4 i_3), .ref (d (3000 + i_3)), .int (u.2 22 i_3), .ref (d (4000 + i_3)), .ref (d (2000 + o9)), .int (u.2 8 i_3)]) := by rw [hs_11, ht_808.2, hx_812]; rfl
          refine va_new (ci := 7) (fs := [.null, .int 0, .int 0, .int 0, .int 0, .int 0]) (C := RX8) (T := TX8) (N := 6) hx hb hts zl_X11_put_X8 tyX8 tyX8_ok hown (hts (.classLink RX11 106 RX8) (zat q_wsX11_put k_wsX11_put 309 rfl (by decide +kernel))) (hts (.instantiable RX8 6) (zat q_wsX11_put k_wsX11_put 310 rfl (by decide +kernel))) (hts (.initialized RX8) (zat q_wsX11_put k_wsX11_put 62 rfl (by decide +kernel))) hK hP hD hS hA rfl nwX8 (Nat.le_of_ble_eq_true rfl) (Nat.le_of_ble_eq_true rfl) dX11_put_28 (fun q_819 H hPn hDn hS => ?_)
          have hP := vaP_l hPn
          refine W.widen (k := 1) (n := 6) (Nat.le_of_ble_eq_true rfl) (Nat.le_of_ble_eq_true rfl) ?_
          refine lv_dup hx hb dX11_put_31 rfl ?_
          refine lv_aload hx hb dX11_put_32 (lv_at hl 0 rfl) ?_
          refine lv_iload_n hx hb dX11_put_34 rfl (lv_at hl 3 rfl) ?_
          refine lv_iload_n hx hb dX11_put_35 rfl (lv_at hl 4 rfl) ?_
          refine lv_iload hx hb dX11_put_36 (lv_at hl 5 rfl) ?_
          refine lv_aload hx hb dX11_put_38 (lv_at hl 0 rfl) ?_
          refine lv_iload hx hb dX11_put_40 (lv_at hl 6 rfl) ?_
          obtain ⟨kk_820, hk_821⟩ := pl_at ht_808.1 hs_809
          refine vp_callSi (va_runU (As := [.int p4]) (rest := [.int p3, .int p2, .int p1, .ref (d (2000 + i_3)), .ref q_819, .ref q_819]) ⟨hx, hb, hml, hown, hts⟩ (y_cols1 l dC dI q h0 d k z f hI (d (2000 + i_3)) p4 hit_10) (va_cwU 1 hts gX11_put_X4_columnsBy_u142X5 rfl rfl rfl rfl zu_85 ⟨Nat.le_of_ble_eq_true rfl, Nat.le_of_ble_eq_true rfl⟩) ⟨px_fb, va_recv hK hP (ci := 4) (q0 := kk_820) rfl hk_821, fun U hU hW => ⟨rfl, px_to hU hW hP hK hN hXN⟩⟩ rfl rfl hl.1 rfl (lv_room (Nat.le_of_ble_eq_true rfl)) dX11_put_42 ⟨Nat.le_of_ble_eq_true rfl, Nat.le_of_ble_eq_true rfl⟩).run (fun r hw => ?_)
          obtain ⟨zr_822, ezr_822⟩ : ∃ y : Int32, y = (1 : Int32) := ⟨_, rfl⟩
          have hr9 : zr_822 = r := ezr_822.trans hw.symm
          subst hr9
          refine lv_aload hx hb dX11_put_45 (lv_at hl 0 rfl) ?_
          refine lv_iload hx hb dX11_put_47 (lv_at hl 6 rfl) ?_
          obtain ⟨kk_823, hk_824⟩ := pl_at ht_808.1 hs_809
          refine vp_callSi (va_runU (As := [.int p4]) (rest := [.int zr_822, .int p3, .int p2, .int p1, .ref (d (2000 + i_3)), .ref q_819, .ref q_819]) ⟨hx, hb, hml, hown, hts⟩ (y_X5_linesBy l dC dI q h0 d k z f hI (d (2000 + i_3)) (d (3000 + i_3)) (d (4000 + i_3)) (d (2000 + o9)) (nI i_3) (u.2 4 i_3) (u.2 22 i_3) (u.2 8 i_3) ht_808 hs_809 p4) (va_cwA 1 hts gX11_put_X5_linesBy_u145X5 rfl rfl rfl hXN.1 (by decide +kernel) ⟨Nat.le_of_ble_eq_true rfl, Nat.le_of_ble_eq_true rfl⟩) ⟨px_fb, va_recv hK hP (ci := 4) (q0 := kk_823) rfl hk_824, fun U hU hW => ⟨rfl, px_to hU hW hP hK hN hXN⟩⟩ rfl rfl hl.1 rfl (lv_room (Nat.le_of_ble_eq_true rfl)) dX11_put_49 ⟨Nat.le_of_ble_eq_true rfl, Nat.le_of_ble_eq_true rfl⟩).run (fun r hw => ?_)
          obtain ⟨zr_825, ezr_825⟩ : ∃ y : Int32, y = s_linesN p4 (u.2 8 i_3) := ⟨_, rfl⟩
          have hr9 : zr_825 = r := ezr_825.trans hw.symm
          subst hr9
          have hPc := vaP_r hPn
          have hDc := vaD_r hDn
          have hFc := fr_part hDn hS hA
          refine va_callv (va_runI (As := [.ref (d (2000 + i_3)), .int p1, .int p2, .int p3, .int zr_822, .int zr_825]) (rest := [.ref q_819]) ⟨hx, hb, hml, hown, hts⟩ (x_PieceI l dC dI q_819 (d (2000 + i_3)) p1 p2 p3 zr_822 zr_825 H.size) (cwI 6 hts gX11_put_X8_init rfl rfl rfl (hts (.initialized RX8) (zat q_wsX11_put k_wsX11_put 62 rfl (by decide +kernel))) (hts (.methodLink RX11 108 yX8_init) (zat q_wsX11_put k_wsX11_put 311 rfl (by decide +kernel))) (hts (.instanceMethod yX8_init) (zat q_wsX11_put k_wsX11_put 312 rfl (by decide +kernel))) rfl zh_X8_init_83 ⟨Nat.le_of_ble_eq_true rfl, Nat.le_of_ble_eq_true rfl⟩) ⟨gw_fb, fun U hU hW => ⟨rfl, by rw [hU], pw_to hU hW hPc (hK.sub (tys' := []) [] rfl) hN, hDc.weaken (fun _ _ _ _ => trivial)⟩⟩ rfl rfl hl.1 rfl (lv_room (Nat.le_of_ble_eq_true rfl)) dX11_put_52 ⟨Nat.le_of_ble_eq_true rfl, Nat.le_of_ble_eq_true rfl⟩) hS (fun q _ h => hFc q h) hFc (fun u9 t H1 locs ht hvm hw hB hz1 hk1 hS => ?_)
          obtain ⟨hP1, hD1⟩ := hB
          rw [ht] at hP1
          obtain ⟨hP, hD⟩ := va_joinQ (X := [(q_819, .inr (7, [.null, .int 0, .int 0, .int 0, .int 0, .int 0]))]) (cx := [(q_819, .inr (7, [.null, .int 0, .int 0, .int 0, .int 0, .int 0]))]) (wr := []) (w1 := [(q_819, .inr (7, [va_rf (some (d (2000 + i_3))), .int p1, .int p2, .int p3, .int zr_822, .int zr_825]))]) (pl := va_pl z.1 f) (vaP_swap hPn) (vaD_rotR hDn) [0] [] rfl rfl rfl (fun i hi => absurd hi List.not_mem_nil) hk1 hFc hP1 hD1
          generalize H1 = H at hP hS ⊢
          obtain ⟨hnm_826, hP, hD⟩ := pushC hP hD
          obtain ⟨z_827, ez_827⟩ : ∃ y : gS, y = pz z q_819 (22, 0, [va_rf (some (d (2000 + i_3))), .int p1, .int p2, .int p3, .int zr_822, .int zr_825]) := ⟨_, rfl⟩
          obtain ⟨f_828, ef_828⟩ : ∃ y : xF, y = va_up f q_819 (.inr (7, [va_rf (some (d (2000 + i_3))), .int p1, .int p2, .int p3, .int zr_822, .int zr_825])) := ⟨_, rfl⟩
          have hE_829 : zE z z_827 := by rw [ez_827]; exact pz_E hnm_826 _
          have hI : xI q h0 d k z_827 f_828 := by rw [ez_827, ef_828]; exact x_push hI hnm_826 (Or.inr (by decide : (15 : Nat) < 22)) (cO_pc b_26 (ty_s (tg_itm ht_808 (by decide))) hnm_826)
          rw [show z.1 ++ [q_819] = z_827.1 from by rw [ez_827]; rfl, ← ef_828] at hP hD
          have ht_808 := zE_tg hE_829 ht_808
          have hpa_12 := zE_tg hE_829 hpa_12
          have hfa_20 := zE_tg hE_829 hfa_20
          have ht_830 : tg z_827 q_819 22 := by rw [ez_827]; exact pz_t _ _ _
          have hEz : zE z z_827 := zE_tr (zE_rf z) hE_829
          have h3m : f_828 (d 3) = f (d 3) := by rw [ef_828]; exact (up_o (fun e9 => hnm_826 (by rw [← e9]; exact hrp.2.2.2.2.2.2.2.1.1.1))).trans h3m
          have hrp_831 : rep q d u z_827 f_828 := by rw [ez_827, ef_828]; exact rep_grow hrp (pz_E hnm_826 _) (oK_push (fun _ _ => rfl) (zE_rf _) hnm_826)
          obtain ⟨rs_832, n_833, g_834, fg_835, hit_836, hs_837, hpa_838, hps_839, h1_840, h6_841, hcb_842, hpl_843, hlg_844, hnn_845, hfa_846, hfs_847, hfe_848, hrs_849, hkt_850⟩ := it_all hI hrp_831.2.2.1 hi_4
          have ht_851 : tg z_827 (d (2000 + i_3)) 12 := ⟨hit_836.1, by rw [hkt_850, hkd]; rfl⟩
          obtain ⟨o9, hx_853, hx_854, hx_855⟩ := hrs_849.2.2.2.2.2 hkd
          have hs_852 : f_828 (d (2000 + i_3)) = .inr (4, [.int (nI i_3), .int (u.2 4 i_3), .ref (d (3000 + i_3)), .int (u.2 22 i_3), .ref (d (4000 + i_3)), .ref (d (2000 + o9)), .int (u.2 8 i_3)]) := by rw [hs_837, ht_851.2, hx_855]; rfl
          refine W.eq (g2 := F0 m 55 ls [.ref q_819]) rfl ?_
          have hp_862 : pcS z_827 q_819 (some (d (2000 + i_3))) p1 p2 p3 zr_822 zr_825 := ⟨ht_830, by rw [ez_827, pz_s]⟩
          refine lv_astore (lv' := [(7, .ref q_819), (6, .ref (d (2000 + i_3))), (0, .ref h0), (1, .int p0), (2, .int p1), (3, .int p2), (4, .int p3), (5, .int p4)]) hx hb dX11_put_55 hl (by decide) rfl (fun ls hl => ?_)
          refine lv_aload hx hb dX11_put_57 (lv_at hl 1 rfl) ?_
          obtain ⟨kk_863, hk_864⟩ := pl_at ht_851.1 hs_852
          refine vp_callSi (va_runU (As := []) (rest := []) ⟨hx, hb, hml, hown, hts⟩ (y_hasRoom l dC dI q h0 d k z_827 f_828 hI (d (2000 + i_3)) hit_836 (nI i_3) (u.2 4 i_3) (u.2 22 i_3) (d (3000 + i_3)) (d (4000 + i_3)) rs_832 hs_837 n_833 g_834 hps_839 hpa_838) (va_cwU 0 hts gX11_put_X4_hasRoom_u148X5 rfl rfl rfl rfl zu_33 ⟨Nat.le_of_ble_eq_true rfl, Nat.le_of_ble_eq_true rfl⟩) ⟨px_fb, va_recv hK hP (ci := 4) (q0 := kk_863) rfl hk_864, fun U hU hW => ⟨rfl, px_to hU hW hP hK hN hXN⟩⟩ rfl rfl hl.1 rfl (lv_room (Nat.le_of_ble_eq_true rfl)) dX11_put_59 ⟨Nat.le_of_ble_eq_true rfl, Nat.le_of_ble_eq_true rfl⟩).run (fun r hw => ?_)
          obtain rfl : r = (bP ((u.2 22 i_3) < nI n_833)) := hw
          refine lv_if_eq (tgt := 102) hx hb dX11_put_62 (by decide) (fun c_865 => ?_) (fun c_865 => ?_)
          ·
            refine lv_iconst (v := (-1)) hx hb dX11_put_102 (by decide) ?_
            refine W.widen (k := 2) (n := 10) (Nat.le_of_ble_eq_true rfl) (Nat.le_of_ble_eq_true rfl) ?_
            exact W.iret (v := (-1)) hx hb hr (fun t ht hW => ⟨⟨(-1), (k, z_827, f_828), rfl, (Or.inl ⟨Or.inr (Or.inr (Or.inr ⟨i_3, ep_5, hi_4, Or.inl (noN h6_841 hcb_842 hnn_845 (bP_0 c_865))⟩)), ⟨hEz, hI, rfl, hrp_831, fun _ _ => rfl, hk1o, Or.inl ⟨h3m, rfl⟩⟩⟩), by rw [ht]; exact hP, hD⟩, hS.F ht⟩) hS.2.2 dX11_put_103
          ·
            refine lv_aload_n hx hb dX11_put_65 rfl (lv_at hl 2 rfl) ?_
            obtain ⟨kk_866, hk_867⟩ := pl_at hI.2.1.1.1 hI.2.2.2.1.1
            refine va_get (D := (dC, dI)) (ci := 10) (v := .ref (d 0)) (C := RX11) (T := TX11) (N := 9) hx hb hts zl_X11_put_X11 hown hK hP kk_866 hk_867 rfl 0 (by decide) (hts (.fieldLink RX11 11 "PageOne" "pages" "[LPageOne$Sheet;") (zat q_wsX11_put k_wsX11_put 112 rfl (by decide +kernel))) (fun _ h9 => h9) rfl dX11_put_66 ?_
            refine lv_iload_n hx hb dX11_put_69 rfl (lv_at hl 4 rfl) ?_
            obtain ⟨g_868, hs_869, hg_870⟩ := x_pg hI hI.2.1.2.1
            obtain ⟨kk_871, hk_872⟩ := pl_at hI.2.1.2.1.1 hs_869
            refine va_aldq hx hb hK hP kk_871 2 hk_872 rfl (vin b_26 (by decide)) dX11_put_70 ?_
            obtain ⟨b_873, hg_874, ht_875⟩ := hg_870 _ (vlt (vin b_26 (by decide)))
            rw [hg_874]
            refine W.eq (g2 := F0 m 71 ls [.ref b_873]) rfl ?_
            have hb_876 := pg_at hrp_831.1 hs_869 (clp b_26) hg_874
            subst hb_876
            obtain ⟨dd_877, ii_878, gl_879, gc_880, ht_881, ht_882, ht_883, hs_884, hg_885, hgb_886, hc_887, el_888, ec_889⟩ := pg_all hI hrp_831.1 (clp b_26)
            refine lv_aload hx hb dX11_put_71 (lv_at hl 0 rfl) ?_
            obtain ⟨kk_890, hk_891⟩ := pl_at ht_881.1 hs_884
            refine vp_callSi (va_runV (As := [.ref q_819]) (rest := []) ⟨hx, hb, hml, hown, hts⟩ (y_isFree l dC dI q h0 d k z_827 f_828 hI (d (10 + p1.toNatClampNeg)) (d (30 + p1.toNatClampNeg)) (d (50 + p1.toNatClampNeg)) (u.2 1 p1.toNatClampNeg) dd_877 ii_878 gl_879 gc_880 ht_881 hs_884 ht_882 ht_883 hg_885 hgb_886 hc_887 q_819 (some (d (2000 + i_3))) p1 p2 p3 zr_822 zr_825 hp_862) (cwV 1 hts gX11_put_X9_isFree rfl rfl rfl zh_X9_isFree_82 ⟨Nat.le_of_ble_eq_true rfl, Nat.le_of_ble_eq_true rfl⟩) ⟨px_fb, va_recv hK hP (ci := 8) (q0 := kk_890) rfl hk_891, fun U hU hW => ⟨rfl, px_to hU hW hP hK hN hXN⟩⟩ rfl rfl hl.1 rfl (lv_room (Nat.le_of_ble_eq_true rfl)) dX11_put_73 ⟨Nat.le_of_ble_eq_true rfl, Nat.le_of_ble_eq_true rfl⟩).run (fun r hw => ?_)
            rcases hw with ⟨hw, hfr_892⟩ | ⟨hw, hfr_892⟩
            ·
              subst hw
              refine lv_if_eq (tgt := 102) hx hb dX11_put_76 (by decide) (fun c_893 => absurd c_893 (by decide)) (fun c_893 => ?_)
              refine lv_aload hx hb dX11_put_79 (lv_at hl 1 rfl) ?_
              refine lv_aload hx hb dX11_put_81 (lv_at hl 0 rfl) ?_
              refine lv_aload_n hx hb dX11_put_83 rfl (lv_at hl 2 rfl) ?_
              obtain ⟨kk_894, hk_895⟩ := pl_at hI.2.1.1.1 hI.2.2.2.1.1
              refine va_get (D := (dC, dI)) (ci := 10) (v := .ref (d 0)) (C := RX11) (T := TX11) (N := 9) hx hb hts zl_X11_put_X11 hown hK hP kk_894 hk_895 rfl 0 (by decide) (hts (.fieldLink RX11 11 "PageOne" "pages" "[LPageOne$Sheet;") (zat q_wsX11_put k_wsX11_put 112 rfl (by decide +kernel))) (fun _ h9 => h9) rfl dX11_put_84 ?_
              refine lv_iload_n hx hb dX11_put_87 rfl (lv_at hl 4 rfl) ?_
              obtain ⟨kk_896, hk_897⟩ := pl_at hI.2.1.2.1.1 hs_869
              refine va_aldq hx hb hK hP kk_896 2 hk_897 rfl (vin b_26 (by decide)) dX11_put_88 ?_
              obtain ⟨b_898, hg_899, ht_900⟩ := hg_870 _ (vlt (vin b_26 (by decide)))
              rw [hg_899]
              refine W.eq (g2 := F0 m 89 ls [.ref b_898, .ref q_819, .ref (d (2000 + i_3))]) rfl ?_
              have hb_901 := pg_at hrp_831.1 hs_869 (clp b_26) hg_899
              subst hb_901
              obtain ⟨dd_902, ii_903, gl_904, gc_905, ht_906, ht_907, ht_908, hs_909, hg_910, hgb_911, hc_912, el_913, ec_914⟩ := pg_all hI hrp_831.1 (clp b_26)
              obtain ⟨kk_915, hk_916⟩ := pl_at ht_906.1 hs_909
              refine va_get (D := (dC, dI)) (ci := 8) (v := .int (u.2 1 p1.toNatClampNeg)) (C := RX9) (T := TX9) (N := 5) hx hb hts zl_X11_put_X9 hown hK hP kk_915 hk_916 rfl 2 (by decide) (hts (.fieldLink RX11 63 "PageOne$Sheet" "measure" "I") (zat q_wsX11_put k_wsX11_put 94 rfl (by decide +kernel))) (fun _ h9 => h9) rfl dX11_put_89 ?_
              refine lv_aload_n hx hb dX11_put_92 rfl (lv_at hl 2 rfl) ?_
              obtain ⟨kk_917, hk_918⟩ := pl_at hI.2.1.1.1 hI.2.2.2.1.1
              refine va_get (D := (dC, dI)) (ci := 10) (v := .int (k 2)) (C := RX11) (T := TX11) (N := 9) hx hb hts zl_X11_put_X11 hown hK hP kk_917 hk_918 rfl 7 (by decide) (hts (.fieldLink RX11 41 "PageOne" "today" "I") (zat q_wsX11_put k_wsX11_put 119 rfl (by decide +kernel))) (fun _ h9 => h9) rfl dX11_put_93 ?_
              obtain ⟨rs_919, n_920, g_921, fg_922, hit_923, hs_924, hpa_925, hps_926, h1_927, h6_928, hcb_929, hpl_930, hlg_931, hnn_932, hfa_933, hfs_934, hfe_935, hrs_936, hkt_937⟩ := it_all hI hrp_831.2.2.1 hx_853
              obtain ⟨kk_938, hk_939⟩ := pl_at ht_851.1 hs_852
              refine vp_callSi (va_runU (As := [.ref q_819, .int (u.2 1 p1.toNatClampNeg), .int (k 2)]) (rest := []) ⟨hx, hb, hml, hown, hts⟩ (y_X5_maySit l dC dI q h0 d k z_827 f_828 hI (d (2000 + i_3)) (d (3000 + i_3)) (d (4000 + i_3)) (d (2000 + o9)) (nI i_3) (u.2 4 i_3) (u.2 22 i_3) (u.2 8 i_3) ht_851 hs_852 (u.2 1 p1.toNatClampNeg) (k 2) q_819 (some (d (2000 + i_3))) p1 p2 p3 zr_822 zr_825 hp_862 fg_835 fg_922 hfa_846 hfs_847 (nI o9) (u.2 4 o9) (u.2 22 o9) (d (3000 + o9)) (d (4000 + o9)) rs_919 hit_923 hs_924 hfa_933 hfs_934 ) (va_cwO (b0 := cX4_maySit) (m0 := 4) (r0 := (some .boolean)) 3 hts gX11_put_X5_maySit_u155X5 rfl rfl rfl (by decide +kernel) (by decide +kernel) ⟨Nat.le_of_ble_eq_true rfl, Nat.le_of_ble_eq_true rfl⟩) ⟨px_fb, va_recv hK hP (ci := 4) (q0 := kk_938) rfl hk_939, fun U hU hW => ⟨rfl, px_to hU hW hP hK hN hXN⟩⟩ rfl rfl hl.1 rfl (lv_room (Nat.le_of_ble_eq_true rfl)) dX11_put_96 ⟨Nat.le_of_ble_eq_true rfl, Nat.le_of_ble_eq_true rfl⟩).run (fun r hw => ?_)
              obtain ⟨zr_940, ezr_940⟩ : ∃ y : Int32, y = s_sitN p1 p2 (k 2) fg_835 fg_922 := ⟨_, rfl⟩
              have hr9 : zr_940 = r := ezr_940.trans hw.symm
              subst hr9
              refine lv_if_ne (tgt := 104) hx hb dX11_put_99 (by decide) (fun c_941 => ?_) (fun c_941 => ?_)
              ·
                have hmF := (fr_iff (clp b_26) el_888 ec_889 hgb_886).mp hfr_892
                obtain ⟨P, eP⟩ : ∃ y, y = p1.toNatClampNeg := ⟨_, rfl⟩
                have eP1 : p1 = nI P := by rw [eP]; exact (nI_of_bw b_26).1
                obtain ⟨X, Y, D, N, eX, eY, eD, eN, hrx, hemp⟩ := fr_rIn (clp b_26) (fun a ha => by rw [← el_888 a ha]; exact hgb_886 a ha) hmF
                rw [← eP] at hrx hemp hmF
                have hrx9 := hrx
                obtain ⟨hP9, hX, hD1, hY, hN1, hin⟩ := hrx9
                have hpcx : pcS z_827 q_819 (some (d (2000 + i_3))) (nI P) (nI X) (nI Y) (nI D) (nI N) := by rw [← eP1, ← eX, ← eY, ← eD, ← eN]; exact hp_862
                have hlg_942 := lg_of hpcx ⟨b7n (by omega), b60n (by omega), bwN (by have e8 : (8 : Int32).toInt = 8 := rfl; rw [e8]; omega) (by omega), b60n (by omega)⟩
                have hrm9 : (u.2 22 i_3).toNatClampNeg < (if u.2 4 i_3 = 0 then 6 else 1) := ltN h6_841 hcb_842 hnn_845 (bP_n c_865)
                refine lv_aload_n hx hb dX11_put_104 rfl (lv_at hl 2 rfl) ?_
                refine lv_aload hx hb dX11_put_105 (lv_at hl 0 rfl) ?_
                obtain ⟨kk_943, hk_944⟩ := pl_at hI.2.1.1.1 hI.2.2.2.1.1
                have hFc := fr_all hD hS hA
                refine va_callv (va_runV (As := [.ref q_819]) (rest := []) ⟨hx, hb, hml, hown, hts⟩ (y_standI l dC dI q h0 d k z_827 f_828 hI q_819 P X Y D N u hrp_831 hk0 hk1o hk2 hk3 hP9 hX hD1 hY hin hne i_3 hi_4 hpcx hrm9 H.size) (cwV 1 hts gX11_put_X11_stand rfl rfl rfl zh_X11_stand_62 ⟨Nat.le_of_ble_eq_true rfl, Nat.le_of_ble_eq_true rfl⟩) ⟨gx_fb, va_recv hK hP (ci := 10) (q0 := kk_943) rfl hk_944, fun U hU hW => ⟨rfl, by rw [hU], px_to hU hW hP hK hN hXN, hD.weaken (fun _ _ _ _ => trivial)⟩⟩ rfl rfl hl.1 rfl (lv_room (Nat.le_of_ble_eq_true rfl)) dX11_put_107 ⟨Nat.le_of_ble_eq_true rfl, Nat.le_of_ble_eq_true rfl⟩) hS (fun q _ h => hFc q h) hFc (fun w_945 t H1 locs ht hvm hw hB hz1 hk1 hS => ?_)
                obtain ⟨hP, hD1⟩ := hB
                rw [ht] at hP
                rw [hw.2.1] at hP hD1
                have hD := hD1.weaken (fun _ q _ h => hFc q.1 h)
                have hI := hw.2.2.1
                have hw0 := hw
                generalize w_945.2.2 = f_946 at hP hD hI hw0
                generalize H1 = H at hP hS ⊢
                obtain ⟨u2, eu2⟩ : ∃ y : mS, y = mStand u (nI i_3) P X Y D N := ⟨_, rfl⟩
                have hrp2 : rep q d u2 z_827 f_946 := by rw [eu2]; exact hw0.2.2.2.1
                have h3m : f_946 (d 3) = f (d 3) := hw0.2.2.2.2.trans h3m
                refine lv_aload_n hx hb dX11_put_110 rfl (lv_at hl 2 rfl) ?_
                refine va_new (ci := 0) (fs := [.null, .int 0, .null, .int 0]) (C := RX0) (T := TX0) (N := 4) hx hb hts zl_X11_put_X0 tyX0 tyX0_ok hown (hts (.classLink RX11 28 RX0) (zat q_wsX11_put k_wsX11_put 80 rfl (by decide +kernel))) (hts (.instantiable RX0 4) (zat q_wsX11_put k_wsX11_put 598 rfl (by decide +kernel))) (hts (.initialized RX0) (zat q_wsX11_put k_wsX11_put 65 rfl (by decide +kernel))) hK hP hD hS hA rfl nwX0 (Nat.le_of_ble_eq_true rfl) (Nat.le_of_ble_eq_true rfl) dX11_put_111 (fun q_947 H hPn hDn hS => ?_)
                have hP := vaP_l hPn
                refine W.widen (k := 2) (n := 10) (Nat.le_of_ble_eq_true rfl) (Nat.le_of_ble_eq_true rfl) ?_
                refine lv_dup hx hb dX11_put_114 rfl ?_
                refine lv_aload hx hb dX11_put_115 (lv_at hl 0 rfl) ?_
                refine lv_iconst (v := 0) hx hb dX11_put_117 (by decide) ?_
                refine lv_null hx hb dX11_put_118 ?_
                have hPc := vaP_r hPn
                have hDc := vaD_r hDn
                have hFc := fr_part hDn hS hA
                refine va_callv (va_runI (As := [.ref q_819, .int 0, .null]) (rest := [.ref q_947, .ref h0]) ⟨hx, hb, hml, hown, hts⟩ (x_ActP l dC dI q_947 q_819 H.size) (cwI 3 hts gX11_put_X0_init rfl rfl rfl (hts (.initialized RX0) (zat q_wsX11_put k_wsX11_put 65 rfl (by decide +kernel))) (hts (.methodLink RX11 163 yX0_init) (zat q_wsX11_put k_wsX11_put 599 rfl (by decide +kernel))) (hts (.instanceMethod yX0_init) (zat q_wsX11_put k_wsX11_put 600 rfl (by decide +kernel))) rfl zh_X0_init_81 ⟨Nat.le_of_ble_eq_true rfl, Nat.le_of_ble_eq_true rfl⟩) ⟨gw_fb, fun U hU hW => ⟨rfl, by rw [hU], pw_to hU hW hPc (hK.sub (tys' := []) [] rfl) hN, hDc.weaken (fun _ _ _ _ => trivial)⟩⟩ rfl rfl hl.1 rfl (lv_room (Nat.le_of_ble_eq_true rfl)) dX11_put_119 ⟨Nat.le_of_ble_eq_true rfl, Nat.le_of_ble_eq_true rfl⟩) hS (fun q _ h => hFc q h) hFc (fun u9 t H1 locs ht hvm hw hB hz1 hk1 hS => ?_)
                obtain ⟨hP1, hD1⟩ := hB
                rw [ht] at hP1
                obtain ⟨hP, hD⟩ := va_joinQ (X := [(q_947, .inr (0, [.null, .int 0, .null, .int 0]))]) (cx := [(q_947, .inr (0, [.null, .int 0, .null, .int 0]))]) (wr := []) (w1 := [(q_947, .inr (0, [.ref q_819, .int 0, va_rf none, .int 1]))]) (pl := va_pl z_827.1 f_946) (vaP_swap hPn) (vaD_rotR hDn) [0] [] rfl rfl rfl (fun i hi => absurd hi List.not_mem_nil) hk1 hFc hP1 hD1
                generalize H1 = H at hP hS ⊢
                obtain ⟨hnm_948, hP, hD⟩ := pushC hP hD
                obtain ⟨z_949, ez_949⟩ : ∃ y : gS, y = pz z_827 q_947 (23, 0, [.ref q_819, .int 0, va_rf none, .int 1]) := ⟨_, rfl⟩
                obtain ⟨f_950, ef_950⟩ : ∃ y : xF, y = va_up f_946 q_947 (.inr (0, [.ref q_819, .int 0, va_rf none, .int 1])) := ⟨_, rfl⟩
                have hE_951 : zE z_827 z_949 := by rw [ez_949]; exact pz_E hnm_948 _
                have hI : xI q h0 d k z_949 f_950 := by rw [ez_949, ef_950]; exact x_push hI hnm_948 (Or.inr (by decide : (15 : Nat) < 23)) (cO_ac hlg_942 hnm_948)
                rw [show z_827.1 ++ [q_947] = z_949.1 from by rw [ez_949]; rfl, ← ef_950] at hP hD
                have ht_851 := zE_tg hE_951 ht_851
                have hpa_838 := zE_tg hE_951 hpa_838
                have hfa_846 := zE_tg hE_951 hfa_846
                have hlg_942 := zE_lg hE_951 hlg_942
                have ht_906 := zE_tg hE_951 ht_906
                have ht_907 := zE_tg hE_951 ht_907
                have ht_908 := zE_tg hE_951 ht_908
                have hit_923 := zE_itm hE_951 hit_923
                have hpa_925 := zE_tg hE_951 hpa_925
                have hfa_933 := zE_tg hE_951 hfa_933
                have hp_862 := zE_pc hE_951 hp_862
                have hpcx := zE_pc hE_951 hpcx
                have ht_952 : tg z_949 q_947 23 := by rw [ez_949]; exact pz_t _ _ _
                have hEz : zE z z_949 := zE_tr hEz hE_951
                have h3m : f_950 (d 3) = f (d 3) := by rw [ef_950]; exact (up_o (fun e9 => hnm_948 (by rw [← e9]; exact hrp2.2.2.2.2.2.2.2.1.1.1))).trans h3m
                have hrp_953 : rep q d u2 z_949 f_950 := by rw [ez_949, ef_950]; exact rep_grow hrp2 (pz_E hnm_948 _) (oK_push (fun _ _ => rfl) (zE_rf _) hnm_948)
                refine W.eq (g2 := F0 m 122 ls [.ref q_947, .ref h0]) rfl ?_
                have hIb := hI
                have hcx : ¬ 300 ≤ k 1 := hca_30
                obtain ⟨kk_954, hk_955⟩ := pl_at hI.2.1.1.1 hI.2.2.2.1.1
                have hFc := fr_all hD hS hA
                refine va_callv (va_runV (As := [.ref q_947]) (rest := []) ⟨hx, hb, hml, hown, hts⟩ (y_keep l dC dI q h0 d k z_949 f_950 hI q_947 ht_952 hcx H.size) (cwV 1 hts gX11_put_X11_keep rfl rfl rfl zh_X11_keep_79 ⟨Nat.le_of_ble_eq_true rfl, Nat.le_of_ble_eq_true rfl⟩) ⟨gx_fb, va_recv hK hP (ci := 10) (q0 := kk_954) rfl hk_955, fun U hU hW => ⟨rfl, by rw [hU], px_to hU hW hP hK hN hXN, hD.weaken (fun _ _ _ _ => trivial)⟩⟩ rfl rfl hl.1 rfl (lv_room (Nat.le_of_ble_eq_true rfl)) dX11_put_122 ⟨Nat.le_of_ble_eq_true rfl, Nat.le_of_ble_eq_true rfl⟩) hS (fun q _ h => hFc q h) hFc (fun w_956 t H1 locs ht hvm hw hB hz1 hk1 hS => ?_)
                obtain ⟨hP, hD1⟩ := hB
                rw [ht] at hP
                rw [hw.1] at hP hD1
                have hD := hD1.weaken (fun _ q _ h => hFc q.1 h)
                have hI := hw.2.1
                have hw0 := hw
                generalize w_956.1 = k_958 at hI hw0
                generalize w_956.2.2 = f_957 at hP hD hI hw0
                generalize H1 = H at hP hS ⊢
                have hkp := hw0.2.2
                have hrp_959 : rep q d u2 z_949 f_957 := rep_kp hrp_953 hIb (by rw [zE_o hEz hIo.2.1.1.1]; exact hz0) hkp
                have hi3 : i_3 < (u2.1 3).toNatClampNeg := by rw [eu2]; exact hi_4
                obtain ⟨rs_960, n_961, g_962, fg_963, hit_964, hs_965, hpa_966, hps_967, h1_968, h6_969, hcb_970, hpl_971, hlg_972, hnn_973, hfa_974, hfs_975, hfe_976, hrs_977, hkt_978⟩ := it_all hI hrp_959.2.2.1 hi3
                refine lv_aload hx hb dX11_put_125 (lv_at hl 1 rfl) ?_
                obtain ⟨kk_979, hk_980⟩ := pl_at hit_964.1 hs_965
                refine w_then (F0 m 130 ls [.int (u2.2 22 i_3)]) (fun hgo => ?_) ?_
                ·
                  rcases x_tag hit_964 with ht9 | ht9 | ht9 | ht9 | ht9 | ht9
                  ·
                    rw [ht9.2] at hk_980
                    exact va_get (D := (dC, dI)) (ci := 2) (v := .int (u2.2 22 i_3)) (C := RX2) (T := TX2) (N := 7) hx hb hts zl_X11_put_X2 hown hK hP kk_979 hk_980 rfl 3 (by decide) (hts (.fieldLink RX11 170 "PageOne$Item" "count" "I") (zat q_wsX11_put k_wsX11_put 197 rfl (by decide +kernel))) (fun _ h9 => h9) rfl dX11_put_127 hgo
                  ·
                    rw [ht9.2] at hk_980
                    exact va_get (D := (dC, dI)) (ci := 3) (v := .int (u2.2 22 i_3)) (C := RX3) (T := TX3) (N := 8) hx hb hts zl_X11_put_X3 hown hK hP kk_979 hk_980 rfl 3 (by decide) (hts (.fieldLink RX11 170 "PageOne$Item" "count" "I") (zat q_wsX11_put k_wsX11_put 197 rfl (by decide +kernel))) (fun _ h9 => h9) rfl dX11_put_127 hgo
                  ·
                    rw [ht9.2] at hk_980
                    exact va_get (D := (dC, dI)) (ci := 4) (v := .int (u2.2 22 i_3)) (C := RX5) (T := TX5) (N := 7) hx hb hts zl_X11_put_X5 hown hK hP kk_979 hk_980 rfl 3 (by decide) (hts (.fieldLink RX11 170 "PageOne$Item" "count" "I") (zat q_wsX11_put k_wsX11_put 197 rfl (by decide +kernel))) (fun _ h9 => h9) rfl dX11_put_127 hgo
                  ·
                    rw [ht9.2] at hk_980
                    exact va_get (D := (dC, dI)) (ci := 5) (v := .int (u2.2 22 i_3)) (C := RX6) (T := TX6) (N := 9) hx hb hts zl_X11_put_X6 hown hK hP kk_979 hk_980 rfl 3 (by decide) (hts (.fieldLink RX11 170 "PageOne$Item" "count" "I") (zat q_wsX11_put k_wsX11_put 197 rfl (by decide +kernel))) (fun _ h9 => h9) rfl dX11_put_127 hgo
                  ·
                    rw [ht9.2] at hk_980
                    exact va_get (D := (dC, dI)) (ci := 6) (v := .int (u2.2 22 i_3)) (C := RX7) (T := TX7) (N := 8) hx hb hts zl_X11_put_X7 hown hK hP kk_979 hk_980 rfl 3 (by decide) (hts (.fieldLink RX11 170 "PageOne$Item" "count" "I") (zat q_wsX11_put k_wsX11_put 197 rfl (by decide +kernel))) (fun _ h9 => h9) rfl dX11_put_127 hgo
                  ·
                    rw [ht9.2] at hk_980
                    exact va_get (D := (dC, dI)) (ci := 9) (v := .int (u2.2 22 i_3)) (C := RX10) (T := TX10) (N := 9) hx hb hts zl_X11_put_X10 hown hK hP kk_979 hk_980 rfl 3 (by decide) (hts (.fieldLink RX11 170 "PageOne$Item" "count" "I") (zat q_wsX11_put k_wsX11_put 197 rfl (by decide +kernel))) (fun _ h9 => h9) rfl dX11_put_127 hgo
                ·
                  exact W.iret (v := (u2.2 22 i_3)) hx hb hr (fun t ht hW => ⟨⟨(u2.2 22 i_3), (k_958, z_949, f_957), rfl, (Or.inr ⟨i_3, P, X, Y, D, N, ⟨ep_5, hi_4, eP1, eX, eY, ((show cpW u i_3 p4 = zr_822 by unfold cpW; rw [if_neg (by rw [hkd]; decide), if_neg (by rw [hkd]; decide), ezr_822])).trans eD, ((show cpH u i_3 p4 = zr_825 by unfold cpH; rw [if_neg (by rw [hkd]; decide), if_neg (by rw [hkd]; decide), if_neg (by rw [hkd]; decide), ezr_825]; rfl)).trans eN, (by rw [← hk1o]; exact (n300 hIo.1.2.1).2 hcx), hrx, hrm9, by rw [← eP1] at hmF; rw [(show cpW u i_3 p4 = zr_822 by unfold cpW; rw [if_neg (by rw [hkd]; decide), if_neg (by rw [hkd]; decide), ezr_822]), (show cpH u i_3 p4 = zr_825 by unfold cpH; rw [if_neg (by rw [hkd]; decide), if_neg (by rw [hkd]; decide), if_neg (by rw [hkd]; decide), ezr_825]; rfl)]; exact hmF, ⟨zr_940, c_941, by rw [(show cpW u i_3 p4 = zr_822 by unfold cpW; rw [if_neg (by rw [hkd]; decide), if_neg (by rw [hkd]; decide), ezr_822]), (show cpH u i_3 p4 = zr_825 by unfold cpH; rw [if_neg (by rw [hkd]; decide), if_neg (by rw [hkd]; decide), if_neg (by rw [hkd]; decide), ezr_825]; rfl)]; exact ⟨(fun h9 => absurd (hkd.symm.trans h9) (by decide)), (fun h9 => absurd (hkd.symm.trans h9) (by decide)), (fun _ => ⟨o9, _, _, hx_853, hx_854, hfe_848, hfe_935, by rw [← hk2]; exact ezr_940⟩), (fun h9 => by rcases h9 with h8 | h8 | h8 <;> exact absurd (hkd.symm.trans h8) (by decide))⟩⟩, hemp⟩, by rw [show (u2.2 22 i_3) = (mStand u (nI i_3) P X Y D N).2 22 i_3 from by rw [eu2]]; exact put_fin hk1o hi8 hEz hI (by rw [← eu2]; exact hrp_959) h3m hkp.1 (kp_3 hrp_953 hIb hkp) ⟨ht_952, by rw [ez_949, pz_s]⟩ hpcx⟩), by rw [ht]; exact hP, hD⟩, hS.F ht⟩) hS.2.2 dX11_put_130
              ·
                refine lv_iconst (v := (-1)) hx hb dX11_put_102 (by decide) ?_
                refine W.widen (k := 2) (n := 10) (Nat.le_of_ble_eq_true rfl) (Nat.le_of_ble_eq_true rfl) ?_
                exact W.iret (v := (-1)) hx hb hr (fun t ht hW => ⟨⟨(-1), (k, z_827, f_828), rfl, (Or.inl ⟨Or.inr (Or.inr (Or.inr ⟨i_3, ep_5, hi_4, Or.inr (Or.inr (by rw [(show cpW u i_3 p4 = zr_822 by unfold cpW; rw [if_neg (by rw [hkd]; decide), if_neg (by rw [hkd]; decide), ezr_822]), (show cpH u i_3 p4 = zr_825 by unfold cpH; rw [if_neg (by rw [hkd]; decide), if_neg (by rw [hkd]; decide), if_neg (by rw [hkd]; decide), ezr_825]; rfl)]; exact ⟨(fun h9 => absurd (hkd.symm.trans h9) (by decide)), (fun h9 => absurd (hkd.symm.trans h9) (by decide)), (fun _ => ⟨o9, _, _, hx_853, hx_854, hfe_848, hfe_935, by rw [← hk2]; exact (c_941.symm.trans ezr_940)⟩), (fun h9 => by rcases h9 with h8 | h8 | h8 <;> exact absurd (hkd.symm.trans h8) (by decide))⟩))⟩)), ⟨hEz, hI, rfl, hrp_831, fun _ _ => rfl, hk1o, Or.inl ⟨h3m, rfl⟩⟩⟩), by rw [ht]; exact hP, hD⟩, hS.F ht⟩) hS.2.2 dX11_put_103
            ·
              subst hw
              refine lv_if_eq (tgt := 102) hx hb dX11_put_76 (by decide) (fun c_981 => ?_) (fun c_981 => absurd (by decide) c_981)
              refine lv_iconst (v := (-1)) hx hb dX11_put_102 (by decide) ?_
              refine W.widen (k := 2) (n := 10) (Nat.le_of_ble_eq_true rfl) (Nat.le_of_ble_eq_true rfl) ?_
              exact W.iret (v := (-1)) hx hb hr (fun t ht hW => ⟨⟨(-1), (k, z_827, f_828), rfl, (Or.inl ⟨Or.inr (Or.inr (Or.inr ⟨i_3, ep_5, hi_4, Or.inr (Or.inl (fun h9 => hfr_892 ((fr_iff2 b_26 el_888 ec_889 hgb_886).mpr (by rw [(show cpW u i_3 p4 = zr_822 by unfold cpW; rw [if_neg (by rw [hkd]; decide), if_neg (by rw [hkd]; decide), ezr_822]), (show cpH u i_3 p4 = zr_825 by unfold cpH; rw [if_neg (by rw [hkd]; decide), if_neg (by rw [hkd]; decide), if_neg (by rw [hkd]; decide), ezr_825]; rfl)] at h9; exact h9))))⟩)), ⟨hEz, hI, rfl, hrp_831, fun _ _ => rfl, hk1o, Or.inl ⟨h3m, rfl⟩⟩⟩), by rw [ht]; exact hP, hD⟩, hS.F ht⟩) hS.2.2 dX11_put_103
    ·
      obtain rfl : r = 0 := b_f hw b_26
      refine lv_if_eq (tgt := 26) hx hb dX11_put_16 (by decide) (fun c_982 => ?_) (fun c_982 => absurd (by decide) c_982)
      refine lv_iconst (v := (-1)) hx hb dX11_put_26 (by decide) ?_
      refine W.widen (k := 2) (n := 10) (Nat.le_of_ble_eq_true rfl) (Nat.le_of_ble_eq_true rfl) ?_
      exact W.iret (v := (-1)) hx hb hr (fun t ht hW => ⟨⟨(-1), (k, z, f), rfl, (Or.inl ⟨Or.inr (Or.inl (bne b_26)), actP_0 hI hrp hk1o rfl⟩), by rw [ht]; exact hP, hD⟩, hS.F ht⟩) hS.2.2 dX11_put_27
set_option maxHeartbeats 4000000 in
set_option maxRecDepth 100000 in
theorem y_ActA (l : Launch) (dC : Nat → ClassId) (dI : Nat → Nat → Nat) (q : Nat → ClassId) (h0 : Nat) (d : Nat → Nat) (k : Nat → Int32) (z : gS) (f : xF) (hI : xI q h0 d k z f) (a0 po ah : Nat) (ha0 : tg z a0 24) (hraw : f a0 = .inr (0, [.null, .int 0, .null, .int 0])) (hah : tg z ah 23) (pp : Nat) (ll nn : Int32) (aa : Option Nat) (hac : acS z ah pp ll nn aa) (sz : Nat) : Met l yX0_init wsX0_init ({ frames := 1, cells := 0, slots := 0, locals := 12 }) (va_Pc [.ref a0, .ref po, .int 0, .ref ah] (fun U => U.heap.size = sz ∧ PX dC dI (va_pl z.1 f) (xT q) U ∧ va_D (fun _ => True) (va_pl z.1 f))) (va_Qv (fun (w : xU) => w.2.1 = z ∧ w.2.2 = va_up f a0 (.inr (0, [.ref po, .int 0, .ref ah, .int (nn + 1)]))) (fun (w : xU) t => va_P (dC, dI) vwCl (va_pl w.2.1.1 w.2.2) t.heap ∧ va_D (va_A (va_pl z.1 f) sz) (va_pl w.2.1.1 w.2.2)) (va_A (va_pl z.1 f) sz)) 0 0 (va_A (va_pl z.1 f) sz) := by
  refine Met.ofW (cc := cX0_init) (maxL := 4) (ret := none) (by decide) rfl ?_
  intro p e s m args below meth c s₁ B hml hv
  obtain ⟨rfl, hsz, ⟨⟨hP, hK, hN⟩, hXN⟩, hD0⟩ := hv
  have hx := B.exec
  have hb := B.bytes
  have hr := B.returns
  have hts := atoms_spec (ws := wsX0_init) B.pre
  have hown : s.vm.findClass RX0 = some m.cls := findClass_of_methodNamed B.named
  have hlocks := B.notSynchronized
  subst hsz
  have hD := hD0.self (sz := s.heap.size)
  generalize hAe : va_A (va_pl z.1 f) s.heap.size = A at hD ⊢
  have hA : ∀ q : Nat, s.heap.size ≤ q → A q := fun q h => by rw [← hAe]; exact Or.inr h
  have hS : va_S A s.heap s.heap [] := va_S.rf
  have hl := lv_entry ([.ref a0, .ref po, .int 0, .ref ah]) (n := 4) (Nat.le_of_ble_eq_true rfl)
  rw [lg_entry_eq]
  generalize (lg_sl ([.ref a0, .ref po, .int 0, .ref ah]) ++ List.replicate (4 - (lg_sl ([.ref a0, .ref po, .int 0, .ref ah])).length) Slot.unset).toArray = ls at hl ⊢
  have hl : lv_has ls 4 [(0, .ref a0), (1, .ref po), (2, .int 0), (3, .ref ah)] := hl
  have hin : meth.name = "<init>" := (name_of_methodNamed B.named B.method).1
  refine lv_aload_n hx hb dX0_init_0 rfl (lv_at hl 0 rfl) ?_
  refine W.objInit hx hb hown (hts (.methodLink RX0 1 objectInit) (zat q_wsX0_init k_wsX0_init 602 rfl (by decide +kernel))) (hts (.instanceMethod objectInit) (zat q_wsX0_init k_wsX0_init 74 rfl (by decide +kernel))) (hts (.code objectInit ⟨#[0xb1]⟩ 1 none) (zat q_wsX0_init k_wsX0_init 75 rfl (by decide +kernel))) rfl (by rw [hml]; exact hl.1) rfl dX0_init_1 (Nat.le_of_ble_eq_true rfl) (Nat.le_of_ble_eq_true rfl) ?_
  refine W.eq (g2 := F0 m 4 ls []) rfl ?_
  refine lv_aload_n hx hb dX0_init_4 rfl (lv_at hl 0 rfl) ?_
  refine lv_aload_n hx hb dX0_init_5 rfl (lv_at hl 1 rfl) ?_
  obtain ⟨kk_1, hk_2⟩ := pl_at ha0.1 hraw
  have hD0 := hD
  refine va_putF (D := (dC, dI)) (ci := 0) (v := .ref po) (ty := .object "PageOne$Piece") (C := RX0) (T := TX0) (N := 4) hx hb hts zl_X0_init_X0 tyX0 tyX0_ok nmX0 hown hK hP hD hS kk_1 hk_2 rfl 0 (by decide) (hts (.fieldLink RX0 7 "PageOne$Act" "piece" "LPageOne$Piece;") (zat q_wsX0_init k_wsX0_init 603 rfl (by decide +kernel))) (fun _ h9 => h9) rfl hin rfl (tyX0_ok 0 (by decide)) rfl rfl (Nat.le_of_ble_eq_true rfl) dX0_init_6 (fun H locs hP hD hS => ?_)
  rw [pl_set hD0 ha0.1 hraw hk_2] at hP hD
  obtain ⟨f_3, ef_3⟩ : ∃ y : xF, y = va_up f a0 (.inr (0, [.ref po, .int 0, .null, .int 0])) := ⟨_, rfl⟩
  have hI : xI q h0 d k z f_3 := by rw [ef_3]; exact x_up hI ha0 (by decide) (cO_24 ha0.2)
  have hP : va_P (dC, dI) vwCl (va_pl z.1 f_3) H := by rw [ef_3]; exact hP
  have hD : va_D A (va_pl z.1 f_3) := by rw [ef_3]; exact hD
  have hc_4 : f_3 a0 = .inr (0, [.ref po, .int 0, .null, .int 0]) := by rw [ef_3]; exact up_s
  refine lv_aload_n hx hb dX0_init_9 rfl (lv_at hl 0 rfl) ?_
  refine lv_iload_n hx hb dX0_init_10 rfl (lv_at hl 2 rfl) ?_
  obtain ⟨kk_5, hk_6⟩ := pl_at ha0.1 hc_4
  have hD0 := hD
  refine va_putF (D := (dC, dI)) (ci := 0) (v := .int 0) (ty := .boolean) (C := RX0) (T := TX0) (N := 4) hx hb hts zl_X0_init_X0 tyX0 tyX0_ok nmX0 hown hK hP hD hS kk_5 hk_6 rfl 1 (by decide) (hts (.fieldLink RX0 13 "PageOne$Act" "lifted" "Z") (zat q_wsX0_init k_wsX0_init 605 rfl (by decide +kernel))) (fun _ h9 => h9) rfl hin rfl (tyX0_ok 1 (by decide)) rfl rfl (Nat.le_of_ble_eq_true rfl) dX0_init_11 (fun H locs hP hD hS => ?_)
  rw [pl_set hD0 ha0.1 hc_4 hk_6] at hP hD
  obtain ⟨f_7, ef_7⟩ : ∃ y : xF, y = va_up f_3 a0 (.inr (0, [.ref po, .int 0, .null, .int 0])) := ⟨_, rfl⟩
  have hI : xI q h0 d k z f_7 := by rw [ef_7]; exact x_up hI ha0 (by decide) (cO_24 ha0.2)
  have hP : va_P (dC, dI) vwCl (va_pl z.1 f_7) H := by rw [ef_7]; exact hP
  have hD : va_D A (va_pl z.1 f_7) := by rw [ef_7]; exact hD
  have hc_8 : f_7 a0 = .inr (0, [.ref po, .int 0, .null, .int 0]) := by rw [ef_7]; exact up_s
  refine lv_aload_n hx hb dX0_init_14 rfl (lv_at hl 0 rfl) ?_
  refine lv_aload_n hx hb dX0_init_15 rfl (lv_at hl 3 rfl) ?_
  obtain ⟨kk_9, hk_10⟩ := pl_at ha0.1 hc_8
  have hD0 := hD
  refine va_putF (D := (dC, dI)) (ci := 0) (v := .ref ah) (ty := .object "PageOne$Act") (C := RX0) (T := TX0) (N := 4) hx hb hts zl_X0_init_X0 tyX0 tyX0_ok nmX0 hown hK hP hD hS kk_9 hk_10 rfl 2 (by decide) (hts (.fieldLink RX0 17 "PageOne$Act" "ahead" "LPageOne$Act;") (zat q_wsX0_init k_wsX0_init 607 rfl (by decide +kernel))) (fun _ h9 => h9) rfl hin rfl (tyX0_ok 2 (by decide)) rfl rfl (Nat.le_of_ble_eq_true rfl) dX0_init_16 (fun H locs hP hD hS => ?_)
  rw [pl_set hD0 ha0.1 hc_8 hk_10] at hP hD
  obtain ⟨f_11, ef_11⟩ : ∃ y : xF, y = va_up f_7 a0 (.inr (0, [.ref po, .int 0, .ref ah, .int 0])) := ⟨_, rfl⟩
  have hI : xI q h0 d k z f_11 := by rw [ef_11]; exact x_up hI ha0 (by decide) (cO_24 ha0.2)
  have hP : va_P (dC, dI) vwCl (va_pl z.1 f_11) H := by rw [ef_11]; exact hP
  have hD : va_D A (va_pl z.1 f_11) := by rw [ef_11]; exact hD
  have hc_12 : f_11 a0 = .inr (0, [.ref po, .int 0, .ref ah, .int 0]) := by rw [ef_11]; exact up_s
  refine lv_aload_n hx hb dX0_init_19 rfl (lv_at hl 0 rfl) ?_
  refine lv_aload_n hx hb dX0_init_20 rfl (lv_at hl 3 rfl) ?_
  refine lv_ifnonnull (tgt := 28) hx hb dX0_init_21 (by decide) ?_
  refine lv_aload_n hx hb dX0_init_28 rfl (lv_at hl 3 rfl) ?_
  have hs_13 := ac_eq hI hac
  obtain ⟨kk_14, hk_15⟩ := pl_at hac.1.1 hs_13
  refine va_get (D := (dC, dI)) (ci := 0) (v := .int nn) (C := RX0) (T := TX0) (N := 4) hx hb hts zl_X0_init_X0 hown hK hP kk_14 hk_15 rfl 3 (by decide) (hts (.fieldLink RX0 21 "PageOne$Act" "parts" "I") (zat q_wsX0_init k_wsX0_init 609 rfl (by decide +kernel))) (fun _ h9 => h9) rfl dX0_init_29 ?_
  refine lv_iconst (v := 1) hx hb dX0_init_32 (by decide) ?_
  refine lv_iadd hx hb dX0_init_33 ?_
  refine lv_topi (fun x_16 ex_16 => ?_)
  obtain ⟨kk_17, hk_18⟩ := pl_at ha0.1 hc_12
  have hD0 := hD
  refine va_putF (D := (dC, dI)) (ci := 0) (v := .int x_16) (ty := .int) (C := RX0) (T := TX0) (N := 4) hx hb hts zl_X0_init_X0 tyX0 tyX0_ok nmX0 hown hK hP hD hS kk_17 hk_18 rfl 3 (by decide) (hts (.fieldLink RX0 21 "PageOne$Act" "parts" "I") (zat q_wsX0_init k_wsX0_init 609 rfl (by decide +kernel))) (fun _ h9 => h9) rfl hin rfl (tyX0_ok 3 (by decide)) rfl rfl (Nat.le_of_ble_eq_true rfl) dX0_init_34 (fun H locs hP hD hS => ?_)
  rw [pl_set hD0 ha0.1 hc_12 hk_18] at hP hD
  obtain ⟨f_19, ef_19⟩ : ∃ y : xF, y = va_up f_11 a0 (.inr (0, [.ref po, .int 0, .ref ah, .int x_16])) := ⟨_, rfl⟩
  have hI : xI q h0 d k z f_19 := by rw [ef_19]; exact x_up hI ha0 (by decide) (cO_24 ha0.2)
  have hP : va_P (dC, dI) vwCl (va_pl z.1 f_19) H := by rw [ef_19]; exact hP
  have hD : va_D A (va_pl z.1 f_19) := by rw [ef_19]; exact hD
  have hc_20 : f_19 a0 = .inr (0, [.ref po, .int 0, .ref ah, .int x_16]) := by rw [ef_19]; exact up_s
  exact W.vret hx hb hr (fun t ht hW => ⟨⟨(k, z, f_19), rfl, ⟨rfl, by show f_19 = _; rw [ef_19, ef_11, ef_7, ef_3, up_up, up_up, up_up, ex_16]⟩, by rw [ht]; exact hP, hD⟩, hS.F ht⟩) hS.2.2 dX0_init_37
theorem acF_E {z w : gS} {d : Nat → Nat} (hE : zE z w) : ∀ {xs : List fX} {o : Option Nat}, acF z d o xs → acF w d o xs
  | [], _, h => h
  | x :: xs, _, ⟨a, pp, ah, h1, h2, h3, h4⟩ => ⟨a, pp, ah, h1, ⟨zE_tg hE h2.1, by rw [zE_o hE h2.1.1]; exact h2.2⟩, zE_pc hE h3, acF_E hE h4⟩
/-- one line of a column that is filled: state, fillers (the latest first), row of empty cells -/
noncomputable def fcT (P c t : Nat) (s : mS × List fX × Nat) : mS × List fX × Nat := if mCellAt s.1 (nI P) (nI c) (nI t) = (-2) then (s.1, s.2.1, s.2.2 + 1) else if 0 < s.2.2 ∧ 0 ≤ mFFr s.1 (nI s.2.2) (s.1.1 3).toNatClampNeg (s.1.1 3).toNatClampNeg then (mStand s.1 (mFFr s.1 (nI s.2.2) (s.1.1 3).toNatClampNeg (s.1.1 3).toNatClampNeg) P c (t - s.2.2) 1 s.2.2, ((mFFr s.1 (nI s.2.2) (s.1.1 3).toNatClampNeg (s.1.1 3).toNatClampNeg).toNatClampNeg, P, c, t - s.2.2, s.2.2) :: s.2.1, 0) else (s.1, s.2.1, 0)
noncomputable def fcN (u : mS) (xs : List fX) (P c : Nat) : Nat → mS × List fX × Nat
  | 0 => (u, xs, 0)
  | t + 1 => fcT P c t (fcN u xs P c t)
theorem fc_e {u0 u : mS} {xs0 xs : List fX} {P c t r : Nat} (h : fcN u0 xs0 P c t = (u, xs, r)) (hc : mCellAt u (nI P) (nI c) (nI t) = (-2)) : fcN u0 xs0 P c (t + 1) = (u, xs, r + 1) := by
  show fcT P c t (fcN u0 xs0 P c t) = _
  rw [h]; unfold fcT; rw [if_pos hc]
theorem fc_0 {u0 u : mS} {xs0 xs : List fX} {P c t r : Nat} (h : fcN u0 xs0 P c t = (u, xs, r)) (hc : ¬ mCellAt u (nI P) (nI c) (nI t) = (-2)) (hn : r = 0 ∨ ∀ j, j < (u.1 3).toNatClampNeg → ¬ ffC u (nI r) j) (h80 : (u.1 3).toNatClampNeg ≤ 80) : fcN u0 xs0 P c (t + 1) = (u, xs, 0) := by
  show fcT P c t (fcN u0 xs0 P c t) = _
  rw [h]; unfold fcT; rw [if_neg hc, if_neg ?_]
  rintro ⟨h1, h2⟩
  rcases hn with hn | hn
  · have h3 : 0 < r := h1
    omega
  · have e := mFF_n h80 (u.1 3).toNatClampNeg (Nat.le_refl _) (fun i _ hi => hn i hi)
    rw [e] at h2
    exact absurd h2 (by decide)
theorem fc_1 {u0 u : mS} {xs0 xs : List fX} {P c t r i : Nat} (h : fcN u0 xs0 P c t = (u, xs, r)) (hc : ¬ mCellAt u (nI P) (nI c) (nI t) = (-2)) (hr : 0 < r) (hi : i < (u.1 3).toNatClampNeg) (hf : ffC u (nI r) i) (hno : ∀ j, j < i → ¬ ffC u (nI r) j) (h80 : (u.1 3).toNatClampNeg ≤ 80) : fcN u0 xs0 P c (t + 1) = (mStand u (nI i) P c (t - r) 1 r, (i, P, c, t - r, r) :: xs, 0) := by
  show fcT P c t (fcN u0 xs0 P c t) = _
  have e := mFF_s h80 hi hf hno (u.1 3).toNatClampNeg (Nat.le_refl _) (by omega)
  rw [h]; unfold fcT; rw [if_neg hc, if_pos ⟨hr, by show 0 ≤ mFFr u (nI r) _ _; rw [e, i32_le, i0, nI_toInt (by omega)]; omega⟩]
  dsimp only
  rw [e, nI_clamp (by omega)]
/-- the row of empty cells that ends here is a place -/
theorem fc_in {u : mS} {P c t r : Nat} (hP : P < 12) (hc : c < 8) (hl : ∀ a, a < 8 → bw (u.2 0 (8 * P + a)) 0 60 = true) (hr : 0 < r) (hrt : r ≤ t) (ht : t ≤ 61) (hrun : ∀ b, b < r → mCellAt u (nI P) (nI c) (nI (t - r + b)) = (-2)) : rIn u P c (t - r) 1 r := by
  have q := (mC_iff hP (by omega) (by omega) (fun h => hl _ h)).mp (mCA (hrun (r - 1) (by omega))).1
  obtain ⟨l1, l2, l3⟩ := nI_of_bw (hl c hc)
  have e60 : (60 : Int32).toInt = 60 := rfl
  refine ⟨hP, by omega, by omega, by omega, by omega, fun a ha => ?_⟩
  have ea : a = 0 := by omega
  subst ea
  have := q.2
  show t - r + r ≤ (u.2 0 (8 * P + c)).toNatClampNeg
  omega
set_option maxHeartbeats 4000000 in
set_option maxRecDepth 100000 in
theorem y_fc_l {p : Program} {l : Launch} {e : Env} {R : Room} {s : State} {m : MethodId} {args : Array Value} {below : List Frame} {meth : Method} {c : Code} {Q : State → Prop} {cells slots : Nat} {dC : Nat → ClassId} {dI : Nat → Nat → Nat} {q : Nat → ClassId} {h0 : Nat} {d : Nat → Nat} {k : Nat → Int32} {z0 : gS} {f0 : xF} {u0 : mS} {xs0 : List fX} {P c9 L9 : Nat} (hP9 : P < 12) (hc8 : c9 < 8) (eL : u0.2 0 (8 * P + c9) = nI L9) (hL60 : L9 ≤ 60) {A : Nat → Prop} {H0 : Heap} (hx : p.tables.exec = Jvm.exec) (hb : c.code = cX11_fillColumn) (hml : c.maxLocals = 10) (hts : ∀ w ∈ wsX11_fillColumn, w.before args s = true) (hown : s.vm.findClass RX11 = some m.cls) (hN : NN s) (hXN : XN s) (hK : va_K (dC, dI) vwCl (xT q) s) (hRf : 5 ≤ R.frames) (hRl : 109 ≤ R.locals) (hRc : cells + 122 ≤ R.cells) (hRs : slots + 610 ≤ R.slots) (hA : ∀ q : Nat, H0.size ≤ q → A q) (kx120 : ∀ (z : gS) (f : xF) (H : Heap) (locs : List Loc) (r : Option Nat) (u : mS) (xs : List fX) (r9 : Nat) (ls : Array Slot), fcN u0 xs0 P c9 (L9 + 1) = (u, xs, r9) → rep q d u z f → neI u → u.2 0 = u0.2 0 → k 0 = u.1 3 → k 1 = u.1 28 → k 2 = u.1 38 → k 3 = u.1 39 → acF z d r xs → f (d 3) = f0 (d 3) → zE z0 z → xI q h0 d k z f → va_P (dC, dI) vwCl (va_pl z.1 f) H → va_D A (va_pl z.1 f) → va_S A H0 H locs → lv_has ls 10 [(5, va_rf r)] → W p l e R s m args below meth c H locs (cells + 122) (slots + 610) Q (F0 m 120 ls [])) : ∀ (n i : Nat) (z : gS) (f : xF) (H : Heap) (locs : List Loc) (r : Option Nat) (r9 : Nat) (u : mS) (xs : List fX) (ls : Array Slot), i ≤ L9 + 1 → 61 - i < n → r9 ≤ i → fcN u0 xs0 P c9 i = (u, xs, r9) → (∀ b, b < r9 → mCellAt u (nI P) (nI c9) (nI (i - r9 + b)) = (-2)) → rep q d u z f → neI u → u.2 0 = u0.2 0 → k 0 = u.1 3 → k 1 = u.1 28 → k 2 = u.1 38 → k 3 = u.1 39 → acF z d r xs → f (d 3) = f0 (d 3) → zE z0 z → xI q h0 d k z f → va_P (dC, dI) vwCl (va_pl z.1 f) H → va_D A (va_pl z.1 f) → va_S A H0 H locs → lv_has ls 10 [(7, .int (nI i)), (6, .int (nI r9)), (5, va_rf r), (4, .ref (d (10 + P))), (0, .ref h0), (1, .int (nI P)), (2, .int (nI c9))] → W p l e R s m args below meth c H locs (cells + 2 * i) (slots + 10 * i) Q (F0 m 17 ls []) := by
  intro n
  induction n with
  | zero => intro i z f H locs r r9 u xs ls h1 h2; exact absurd h2 (Nat.not_lt_zero _)
  | succ n ih =>
    intro i z f H locs r r9 u xs ls hi1 hn hr9 hfN hrun hrp hne hu0 hk0 hk1 hk2 hk3 hacF h3m hEz hI hP hD hS hl
    have hk1o := hk1
    have hi : i ≤ 61 := by omega
    have h80n := w80i hI.1.1 hk0
    rcases r with _ | b9
    ·
      have hl : lv_has ls 10 [(7, .int (nI i)), (6, .int (nI r9)), (5, .null), (4, .ref (d (10 + P))), (0, .ref h0), (1, .int (nI P)), (2, .int (nI c9))] := hl
      rcases xs with _ | ⟨x9, xs9⟩
      ·
        obtain ⟨dd_1, ii_2, gl_3, gc_4, ht_5, ht_6, ht_7, hs_8, hg_9, hgb_10, hc_11, el_12, ec_13⟩ := pg_all hI hrp.1 hP9
        have hbl : ∀ a, a < 8 → bw (u.2 0 (8 * P + a)) 0 60 = true := fun a ha => by rw [← el_12 a ha]; exact hgb_10 a ha
        refine lv_iload hx hb dX11_fillColumn_17 (lv_at hl 0 rfl) ?_
        refine lv_aload hx hb dX11_fillColumn_19 (lv_at hl 3 rfl) ?_
        obtain ⟨kk_14, hk_15⟩ := pl_at ht_5.1 hs_8
        refine va_get (D := (dC, dI)) (ci := 8) (v := .ref (d (30 + P))) (C := RX9) (T := TX9) (N := 5) hx hb hts zl_X11_fillColumn_X9 hown hK hP kk_14 hk_15 rfl 0 (by decide) (hts (.fieldLink RX11 59 "PageOne$Sheet" "lines" "[I") (zat q_wsX11_fillColumn k_wsX11_fillColumn 91 rfl (by decide +kernel))) (fun _ h9 => h9) rfl dX11_fillColumn_21 ?_
        refine lv_iload_n hx hb dX11_fillColumn_24 rfl (lv_at hl 6 rfl) ?_
        obtain ⟨kk_16, hk_17⟩ := pl_at ht_6.1 hg_9
        refine va_iald hx hb hK hP kk_16 0 hk_17 rfl (vp_in_nI hc8 (by decide)) dX11_fillColumn_25 ?_
        refine lv_topi (fun y_18 ey_18 => ?_)
        obtain rfl : y_18 = (nI L9) := ey_18.trans ((by rw [nI_clamp (by omega), el_12 c9 hc8, hu0, eL]))
        refine lv_icmp_gt (tgt := 120) hx hb dX11_fillColumn_26 (by decide) (fun c_19 => ?_) (fun c_19 => ?_)
        ·
          have hie : i = L9 + 1 := by have h9 := c_19; rw [i32_lt, nI_toInt (by omega), nI_toInt (by omega)] at h9; omega
          refine W.widen (k := cells + 122) (n := slots + 610) (by omega) (by omega) ?_
          exact kx120 _ _ _ _ none u [] r9 ls (by rw [← hie]; exact hfN) hrp hne hu0 hk0 hk1o hk2 hk3 hacF h3m hEz hI hP hD hS (lv_sub hl [2] rfl)
        ·
          have hiL : i ≤ L9 := by have h9 := c_19; rw [i32_lt, nI_toInt (by omega), nI_toInt (by omega)] at h9; omega
          refine lv_aload hx hb dX11_fillColumn_29 (lv_at hl 3 rfl) ?_
          refine lv_iload_n hx hb dX11_fillColumn_31 rfl (lv_at hl 6 rfl) ?_
          refine lv_iload hx hb dX11_fillColumn_32 (lv_at hl 0 rfl) ?_
          obtain ⟨kk_20, hk_21⟩ := pl_at ht_5.1 hs_8
          refine vp_callSi (va_runV (As := [.int (nI c9), .int (nI i)]) (rest := []) ⟨hx, hb, hml, hown, hts⟩ (y_at l dC dI q h0 d k z f hI (d (10 + P)) (d (30 + P)) (d (50 + P)) (u.2 1 P) dd_1 ii_2 gl_3 gc_4 ht_5 hs_8 ht_6 ht_7 hg_9 hgb_10 hc_11 (nI c9) (nI i)) (cwV 2 hts gX11_fillColumn_X9_at rfl rfl rfl zh_X9_at_31 ⟨Nat.le_trans (Nat.le_of_ble_eq_true rfl) hRf, Nat.le_trans (Nat.le_of_ble_eq_true rfl) hRl⟩) ⟨px_fb, va_recv hK hP (ci := 8) (q0 := kk_20) rfl hk_21, fun U hU hW => ⟨rfl, px_to hU hW hP hK hN hXN⟩⟩ rfl rfl hl.1 rfl (lv_room (Nat.le_of_ble_eq_true rfl)) dX11_fillColumn_34 ⟨by omega, by omega⟩).run (fun r hw => ?_)
          generalize r = zr_22 at hw ⊢
          have hzr_22 := hw
          refine lv_bipush (v := (-2)) hx hb dX11_fillColumn_37 (by decide) ?_
          refine lv_icmp_ne (tgt := 48) hx hb dX11_fillColumn_39 (by decide) (fun c_23 => ?_) (fun c_23 => ?_)
          ·
            refine lv_iload hx hb dX11_fillColumn_48 (lv_at hl 1 rfl) ?_
            refine lv_if_le (tgt := 62) hx hb dX11_fillColumn_50 (by decide) (fun c_24 => ?_) (fun c_24 => ?_)
            ·
              refine lv_null hx hb dX11_fillColumn_62 ?_
              refine lv_astoreN (lv' := [(8, .null), (7, .int (nI i)), (6, .int (nI r9)), (5, .null), (4, .ref (d (10 + P))), (0, .ref h0), (1, .int (nI P)), (2, .int (nI c9))]) hx hb dX11_fillColumn_63 hl (by decide) rfl (fun ls hl => ?_)
              refine lv_aloadN hx hb dX11_fillColumn_65 (lv_at hl 0 rfl) ?_
              refine lv_ifnullN (tgt := 111) hx hb dX11_fillColumn_67 (by decide) ?_
              refine lv_iconst (v := 0) hx hb dX11_fillColumn_111 (by decide) ?_
              refine lv_istore (lv' := [(6, .int 0), (8, .null), (7, .int (nI i)), (5, .null), (4, .ref (d (10 + P))), (0, .ref h0), (1, .int (nI P)), (2, .int (nI c9))]) hx hb dX11_fillColumn_112 hl (by decide) rfl (fun ls hl => ?_)
              refine lv_iinc (v := (nI (i + 1))) (lv' := [(7, .int (nI (i + 1))), (6, .int 0), (8, .null), (5, .null), (4, .ref (d (10 + P))), (0, .ref h0), (1, .int (nI P)), (2, .int (nI c9))]) hx hb dX11_fillColumn_114 hl (k := 2) rfl (nI_1 i) (by decide) rfl (fun ls hl => ?_)
              refine lv_goto (tgt := 17) hx hb dX11_fillColumn_117 (by decide) ?_
              refine W.widen (k := cells + 2 * (i + 1)) (n := slots + 10 * (i + 1)) (by omega) (by omega) ?_
              exact ih (i + 1) _ _ _ _ none 0 u [] ls (by omega) (by omega) (Nat.zero_le _) (fc_0 hfN (fun e9 => c_23 (hzr_22.trans ((shAt_eq hP9 el_12 ec_13 hgb_10 _ _).trans e9))) (Or.inl (by have h9 := c_24; rw [i32_le, nI_toInt (by omega), i0] at h9; omega)) h80n) (fun b hb => absurd hb (Nat.not_lt_zero _)) hrp hne hu0 hk0 hk1o hk2 hk3 hacF h3m hEz hI hP hD hS (lv_sub hl [0, 1, 3, 4, 5, 6, 7] rfl)
            ·
              have hr0 : 0 < r9 := by have h9 := c_24; rw [i32_le, nI_toInt (by omega), i0] at h9; omega
              refine lv_aload_n hx hb dX11_fillColumn_53 rfl (lv_at hl 4 rfl) ?_
              refine lv_iload hx hb dX11_fillColumn_54 (lv_at hl 1 rfl) ?_
              obtain ⟨kk_25, hk_26⟩ := pl_at hI.2.1.1.1 hI.2.2.2.1.1
              refine va_csq (va_runV (As := [.int (nI r9)]) (rest := []) ⟨hx, hb, hml, hown, hts⟩ (y_fillerFor l dC dI q h0 d k z f hI (nI r9) u hrp hk0 hk1 hk2 hk3) (cwV 1 hts gX11_fillColumn_X11_fillerFor rfl rfl rfl zh_X11_fillerFor_107 ⟨Nat.le_trans (Nat.le_of_ble_eq_true rfl) hRf, Nat.le_trans (Nat.le_of_ble_eq_true rfl) hRl⟩) ⟨px_fb, va_recv hK hP (ci := 10) (q0 := kk_25) rfl hk_26, fun U hU hW => ⟨rfl, px_to hU hW hP hK hN hXN⟩⟩ rfl rfl hl.1 rfl (lv_room (Nat.le_of_ble_eq_true rfl)) dX11_fillColumn_56 ⟨by omega, by omega⟩).run (fun r hw => ?_)
              rcases hw with ⟨hr9x, hno⟩ | ⟨j9, hj9, hr9x, hfc, hno⟩
              ·
                subst hr9x
                refine W.eq (g2 := F0 m 59 ls [.null]) rfl ?_
                refine lv_goto (tgt := 63) hx hb dX11_fillColumn_59 (by decide) ?_
                refine lv_astoreN (lv' := [(8, .null), (7, .int (nI i)), (6, .int (nI r9)), (5, .null), (4, .ref (d (10 + P))), (0, .ref h0), (1, .int (nI P)), (2, .int (nI c9))]) hx hb dX11_fillColumn_63 hl (by decide) rfl (fun ls hl => ?_)
                refine lv_aloadN hx hb dX11_fillColumn_65 (lv_at hl 0 rfl) ?_
                refine lv_ifnullN (tgt := 111) hx hb dX11_fillColumn_67 (by decide) ?_
                refine lv_iconst (v := 0) hx hb dX11_fillColumn_111 (by decide) ?_
                refine lv_istore (lv' := [(6, .int 0), (8, .null), (7, .int (nI i)), (5, .null), (4, .ref (d (10 + P))), (0, .ref h0), (1, .int (nI P)), (2, .int (nI c9))]) hx hb dX11_fillColumn_112 hl (by decide) rfl (fun ls hl => ?_)
                refine lv_iinc (v := (nI (i + 1))) (lv' := [(7, .int (nI (i + 1))), (6, .int 0), (8, .null), (5, .null), (4, .ref (d (10 + P))), (0, .ref h0), (1, .int (nI P)), (2, .int (nI c9))]) hx hb dX11_fillColumn_114 hl (k := 2) rfl (nI_1 i) (by decide) rfl (fun ls hl => ?_)
                refine lv_goto (tgt := 17) hx hb dX11_fillColumn_117 (by decide) ?_
                refine W.widen (k := cells + 2 * (i + 1)) (n := slots + 10 * (i + 1)) (by omega) (by omega) ?_
                exact ih (i + 1) _ _ _ _ none 0 u [] ls (by omega) (by omega) (Nat.zero_le _) (fc_0 hfN (fun e9 => c_23 (hzr_22.trans ((shAt_eq hP9 el_12 ec_13 hgb_10 _ _).trans e9))) (Or.inr hno) h80n) (fun b hb => absurd hb (Nat.not_lt_zero _)) hrp hne hu0 hk0 hk1o hk2 hk3 hacF h3m hEz hI hP hD hS (lv_sub hl [0, 1, 3, 4, 5, 6, 7] rfl)
              ·
                subst hr9x
                have hitj := rI_itm hrp.2.2.1 hj9
                refine W.eq (g2 := F0 m 59 ls [.ref (d (2000 + j9))]) rfl ?_
                refine lv_goto (tgt := 63) hx hb dX11_fillColumn_59 (by decide) ?_
                refine lv_astore (lv' := [(8, .ref (d (2000 + j9))), (7, .int (nI i)), (6, .int (nI r9)), (5, .null), (4, .ref (d (10 + P))), (0, .ref h0), (1, .int (nI P)), (2, .int (nI c9))]) hx hb dX11_fillColumn_63 hl (by decide) rfl (fun ls hl => ?_)
                refine lv_aload hx hb dX11_fillColumn_65 (lv_at hl 0 rfl) ?_
                refine lv_ifnull hx hb dX11_fillColumn_67 ?_
                refine va_new (ci := 7) (fs := [.null, .int 0, .int 0, .int 0, .int 0, .int 0]) (C := RX8) (T := TX8) (N := 6) hx hb hts zl_X11_fillColumn_X8 tyX8 tyX8_ok hown (hts (.classLink RX11 106 RX8) (zat q_wsX11_fillColumn k_wsX11_fillColumn 309 rfl (by decide +kernel))) (hts (.instantiable RX8 6) (zat q_wsX11_fillColumn k_wsX11_fillColumn 310 rfl (by decide +kernel))) (hts (.initialized RX8) (zat q_wsX11_fillColumn k_wsX11_fillColumn 62 rfl (by decide +kernel))) hK hP hD hS hA rfl nwX8 (by omega) (by omega) dX11_fillColumn_70 (fun q_27 H hPn hDn hS => ?_)
                have hP := vaP_l hPn
                refine W.widen (k := cells + 2 * i + 1) (n := slots + 10 * i + 6) (by omega) (by omega) ?_
                refine lv_dup hx hb dX11_fillColumn_73 rfl ?_
                refine lv_aload hx hb dX11_fillColumn_74 (lv_at hl 0 rfl) ?_
                refine lv_iload_n hx hb dX11_fillColumn_76 rfl (lv_at hl 6 rfl) ?_
                refine lv_iload_n hx hb dX11_fillColumn_77 rfl (lv_at hl 7 rfl) ?_
                refine lv_iload hx hb dX11_fillColumn_78 (lv_at hl 1 rfl) ?_
                refine lv_iload hx hb dX11_fillColumn_80 (lv_at hl 2 rfl) ?_
                refine lv_isub hx hb dX11_fillColumn_82 ?_
                refine lv_topi (fun y_28 ey_28 => ?_)
                obtain rfl : y_28 = (nI (i - r9)) := ey_28.trans (nI_sb hr9 (by omega))
                refine lv_iconst (v := 1) hx hb dX11_fillColumn_83 (by decide) ?_
                refine lv_iload hx hb dX11_fillColumn_84 (lv_at hl 2 rfl) ?_
                have hPc := vaP_r hPn
                have hDc := vaD_r hDn
                have hFc := fr_part hDn hS hA
                refine va_callv (va_runI (As := [.ref (d (2000 + j9)), .int (nI P), .int (nI c9), .int (nI (i - r9)), .int 1, .int (nI r9)]) (rest := [.ref q_27]) ⟨hx, hb, hml, hown, hts⟩ (x_PieceI l dC dI q_27 (d (2000 + j9)) (nI P) (nI c9) (nI (i - r9)) 1 (nI r9) H.size) (cwI 6 hts gX11_fillColumn_X8_init rfl rfl rfl (hts (.initialized RX8) (zat q_wsX11_fillColumn k_wsX11_fillColumn 62 rfl (by decide +kernel))) (hts (.methodLink RX11 108 yX8_init) (zat q_wsX11_fillColumn k_wsX11_fillColumn 311 rfl (by decide +kernel))) (hts (.instanceMethod yX8_init) (zat q_wsX11_fillColumn k_wsX11_fillColumn 312 rfl (by decide +kernel))) rfl zh_X8_init_83 ⟨Nat.le_trans (Nat.le_of_ble_eq_true rfl) hRf, Nat.le_trans (Nat.le_of_ble_eq_true rfl) hRl⟩) ⟨gw_fb, fun U hU hW => ⟨rfl, by rw [hU], pw_to hU hW hPc (hK.sub (tys' := []) [] rfl) hN, hDc.weaken (fun _ _ _ _ => trivial)⟩⟩ rfl rfl hl.1 rfl (lv_room (Nat.le_of_ble_eq_true rfl)) dX11_fillColumn_86 ⟨by omega, by omega⟩) hS (fun q _ h => hFc q h) hFc (fun u9 t H1 locs ht hvm hw hB hz1 hk1 hS => ?_)
                obtain ⟨hP1, hD1⟩ := hB
                rw [ht] at hP1
                obtain ⟨hP, hD⟩ := va_joinQ (X := [(q_27, .inr (7, [.null, .int 0, .int 0, .int 0, .int 0, .int 0]))]) (cx := [(q_27, .inr (7, [.null, .int 0, .int 0, .int 0, .int 0, .int 0]))]) (wr := []) (w1 := [(q_27, .inr (7, [va_rf (some (d (2000 + j9))), .int (nI P), .int (nI c9), .int (nI (i - r9)), .int 1, .int (nI r9)]))]) (pl := va_pl z.1 f) (vaP_swap hPn) (vaD_rotR hDn) [0] [] rfl rfl rfl (fun i hi => absurd hi List.not_mem_nil) hk1 hFc hP1 hD1
                generalize H1 = H at hP hS ⊢
                obtain ⟨hnm_29, hP, hD⟩ := pushC hP hD
                obtain ⟨z_30, ez_30⟩ : ∃ y : gS, y = pz z q_27 (22, 0, [va_rf (some (d (2000 + j9))), .int (nI P), .int (nI c9), .int (nI (i - r9)), .int 1, .int (nI r9)]) := ⟨_, rfl⟩
                obtain ⟨f_31, ef_31⟩ : ∃ y : xF, y = va_up f q_27 (.inr (7, [va_rf (some (d (2000 + j9))), .int (nI P), .int (nI c9), .int (nI (i - r9)), .int 1, .int (nI r9)])) := ⟨_, rfl⟩
                have hE_32 : zE z z_30 := by rw [ez_30]; exact pz_E hnm_29 _
                have hI : xI q h0 d k z_30 f_31 := by rw [ez_30, ef_31]; exact x_push hI hnm_29 (Or.inr (by decide : (15 : Nat) < 22)) (cO_pc (bw11 hP9) (ty_s hitj) hnm_29)
                rw [show z.1 ++ [q_27] = z_30.1 from by rw [ez_30]; rfl, ← ef_31] at hP hD
                have ht_5 := zE_tg hE_32 ht_5
                have ht_6 := zE_tg hE_32 ht_6
                have ht_7 := zE_tg hE_32 ht_7
                have hitj := zE_itm hE_32 hitj
                have ht_33 : tg z_30 q_27 22 := by rw [ez_30]; exact pz_t _ _ _
                have hEz : zE z0 z_30 := zE_tr hEz hE_32
                have h3m : f_31 (d 3) = f0 (d 3) := by rw [ef_31]; exact (up_o (fun e9 => hnm_29 (by rw [← e9]; exact hrp.2.2.2.2.2.2.2.1.1.1))).trans h3m
                have hrp_34 : rep q d u z_30 f_31 := by rw [ez_30, ef_31]; exact rep_grow hrp (pz_E hnm_29 _) (oK_push (fun _ _ => rfl) (zE_rf _) hnm_29)
                have hacF := acF_E hE_32 hacF
                refine W.eq (g2 := F0 m 89 ls [.ref q_27]) rfl ?_
                have hp_35 : pcS z_30 q_27 (some (d (2000 + j9))) (nI P) (nI c9) (nI (i - r9)) 1 (nI r9) := ⟨ht_33, by rw [ez_30, pz_s]⟩
                have hb_37 : bw (nI c9) 0 7 = true := bw7 hc8
                have hb_38 : bw (nI (i - r9)) 0 60 = true := b60n (by omega)
                have hb_39 : bw 1 0 8 = true := by decide
                have hb_40 : bw (nI r9) 0 60 = true := b60n (by omega)
                have hlg_36 := lg_of hp_35 ⟨hb_37, hb_38, hb_39, hb_40⟩
                refine lv_astore (lv' := [(9, .ref q_27), (8, .ref (d (2000 + j9))), (7, .int (nI i)), (6, .int (nI r9)), (5, .null), (4, .ref (d (10 + P))), (0, .ref h0), (1, .int (nI P)), (2, .int (nI c9))]) hx hb dX11_fillColumn_89 hl (by decide) rfl (fun ls hl => ?_)
                refine lv_aload_n hx hb dX11_fillColumn_91 rfl (lv_at hl 6 rfl) ?_
                refine lv_aload hx hb dX11_fillColumn_92 (lv_at hl 0 rfl) ?_
                have hrx := fc_in hP9 hc8 hbl hr0 hr9 hi hrun
                obtain ⟨-, hX, hD1, hY, hN1, hin⟩ := hrx
                have hpcx : pcS z_30 q_27 (some (d (2000 + j9))) (nI P) (nI c9) (nI (i - r9)) (nI 1) (nI r9) := hp_35
                obtain ⟨kk_41, hk_42⟩ := pl_at hI.2.1.1.1 hI.2.2.2.1.1
                have hFc := fr_all hD hS hA
                refine va_callv (va_runV (As := [.ref q_27]) (rest := []) ⟨hx, hb, hml, hown, hts⟩ (y_standI l dC dI q h0 d k z_30 f_31 hI q_27 P c9 (i - r9) 1 r9 u hrp_34 hk0 hk1o hk2 hk3 hP9 hX hD1 hY hin hne j9 hj9 hpcx (by rw [hfc.1, hfc.2.1]; decide) H.size) (cwV 1 hts gX11_fillColumn_X11_stand rfl rfl rfl zh_X11_stand_62 ⟨Nat.le_trans (Nat.le_of_ble_eq_true rfl) hRf, Nat.le_trans (Nat.le_of_ble_eq_true rfl) hRl⟩) ⟨gx_fb, va_recv hK hP (ci := 10) (q0 := kk_41) rfl hk_42, fun U hU hW => ⟨rfl, by rw [hU], px_to hU hW hP hK hN hXN, hD.weaken (fun _ _ _ _ => trivial)⟩⟩ rfl rfl hl.1 rfl (lv_room (Nat.le_of_ble_eq_true rfl)) dX11_fillColumn_94 ⟨by omega, by omega⟩) hS (fun q _ h => hFc q h) hFc (fun w_43 t H1 locs ht hvm hw hB hz1 hk1 hS => ?_)
                obtain ⟨hP, hD1⟩ := hB
                rw [ht] at hP
                rw [hw.2.1] at hP hD1
                have hD := hD1.weaken (fun _ q _ h => hFc q.1 h)
                have hI := hw.2.2.1
                have hw0 := hw
                generalize w_43.2.2 = f_44 at hP hD hI hw0
                generalize H1 = H at hP hS ⊢
                obtain ⟨u2, eu2⟩ : ∃ y : mS, y = mStand u (nI j9) P c9 (i - r9) 1 r9 := ⟨_, rfl⟩
                have hrp2 : rep q d u2 z_30 f_44 := by rw [eu2]; exact hw0.2.2.2.1
                have h3m : f_44 (d 3) = f0 (d 3) := hw0.2.2.2.2.trans h3m
                refine va_new (ci := 0) (fs := [.null, .int 0, .null, .int 0]) (C := RX0) (T := TX0) (N := 4) hx hb hts zl_X11_fillColumn_X0 tyX0 tyX0_ok hown (hts (.classLink RX11 28 RX0) (zat q_wsX11_fillColumn k_wsX11_fillColumn 80 rfl (by decide +kernel))) (hts (.instantiable RX0 4) (zat q_wsX11_fillColumn k_wsX11_fillColumn 598 rfl (by decide +kernel))) (hts (.initialized RX0) (zat q_wsX11_fillColumn k_wsX11_fillColumn 65 rfl (by decide +kernel))) hK hP hD hS hA rfl nwX0 (by omega) (by omega) dX11_fillColumn_97 (fun q_45 H hPn hDn hS => ?_)
                have hP := vaP_l hPn
                refine W.widen (k := cells + 2 * i + 2) (n := slots + 10 * i + 10) (by omega) (by omega) ?_
                refine lv_dup hx hb dX11_fillColumn_100 rfl ?_
                refine lv_aload hx hb dX11_fillColumn_101 (lv_at hl 0 rfl) ?_
                refine lv_iconst (v := 0) hx hb dX11_fillColumn_103 (by decide) ?_
                refine lv_aloadN hx hb dX11_fillColumn_104 (lv_at hl 4 rfl) ?_
                have hPc := vaP_r hPn
                have hDc := vaD_r hDn
                have hFc := fr_part hDn hS hA
                refine va_callv (va_runI (As := [.ref q_27, .int 0, .null]) (rest := [.ref q_45]) ⟨hx, hb, hml, hown, hts⟩ (x_ActP l dC dI q_45 q_27 H.size) (cwI 3 hts gX11_fillColumn_X0_init rfl rfl rfl (hts (.initialized RX0) (zat q_wsX11_fillColumn k_wsX11_fillColumn 65 rfl (by decide +kernel))) (hts (.methodLink RX11 163 yX0_init) (zat q_wsX11_fillColumn k_wsX11_fillColumn 599 rfl (by decide +kernel))) (hts (.instanceMethod yX0_init) (zat q_wsX11_fillColumn k_wsX11_fillColumn 600 rfl (by decide +kernel))) rfl zh_X0_init_81 ⟨Nat.le_trans (Nat.le_of_ble_eq_true rfl) hRf, Nat.le_trans (Nat.le_of_ble_eq_true rfl) hRl⟩) ⟨gw_fb, fun U hU hW => ⟨rfl, by rw [hU], pw_to hU hW hPc (hK.sub (tys' := []) [] rfl) hN, hDc.weaken (fun _ _ _ _ => trivial)⟩⟩ rfl rfl hl.1 rfl (lv_room (Nat.le_of_ble_eq_true rfl)) dX11_fillColumn_106 ⟨by omega, by omega⟩) hS (fun q _ h => hFc q h) hFc (fun u9 t H1 locs ht hvm hw hB hz1 hk1 hS => ?_)
                obtain ⟨hP1, hD1⟩ := hB
                rw [ht] at hP1
                obtain ⟨hP, hD⟩ := va_joinQ (X := [(q_45, .inr (0, [.null, .int 0, .null, .int 0]))]) (cx := [(q_45, .inr (0, [.null, .int 0, .null, .int 0]))]) (wr := []) (w1 := [(q_45, .inr (0, [.ref q_27, .int 0, va_rf none, .int 1]))]) (pl := va_pl z_30.1 f_44) (vaP_swap hPn) (vaD_rotR hDn) [0] [] rfl rfl rfl (fun i hi => absurd hi List.not_mem_nil) hk1 hFc hP1 hD1
                generalize H1 = H at hP hS ⊢
                obtain ⟨hnm_46, hP, hD⟩ := pushC hP hD
                obtain ⟨z_47, ez_47⟩ : ∃ y : gS, y = pz z_30 q_45 (23, 0, [.ref q_27, .int 0, va_rf none, .int 1]) := ⟨_, rfl⟩
                obtain ⟨f_48, ef_48⟩ : ∃ y : xF, y = va_up f_44 q_45 (.inr (0, [.ref q_27, .int 0, va_rf none, .int 1])) := ⟨_, rfl⟩
                have hE_49 : zE z_30 z_47 := by rw [ez_47]; exact pz_E hnm_46 _
                have hI : xI q h0 d k z_47 f_48 := by rw [ez_47, ef_48]; exact x_push hI hnm_46 (Or.inr (by decide : (15 : Nat) < 23)) (cO_ac hlg_36 hnm_46)
                rw [show z_30.1 ++ [q_45] = z_47.1 from by rw [ez_47]; rfl, ← ef_48] at hP hD
                have ht_5 := zE_tg hE_49 ht_5
                have ht_6 := zE_tg hE_49 ht_6
                have ht_7 := zE_tg hE_49 ht_7
                have hitj := zE_itm hE_49 hitj
                have hlg_36 := zE_lg hE_49 hlg_36
                have hp_35 := zE_pc hE_49 hp_35
                have hpcx := zE_pc hE_49 hpcx
                have ht_50 : tg z_47 q_45 23 := by rw [ez_47]; exact pz_t _ _ _
                have hEz : zE z0 z_47 := zE_tr hEz hE_49
                have h3m : f_48 (d 3) = f0 (d 3) := by rw [ef_48]; exact (up_o (fun e9 => hnm_46 (by rw [← e9]; exact hrp2.2.2.2.2.2.2.2.1.1.1))).trans h3m
                have hrp_51 : rep q d u2 z_47 f_48 := by rw [ez_47, ef_48]; exact rep_grow hrp2 (pz_E hnm_46 _) (oK_push (fun _ _ => rfl) (zE_rf _) hnm_46)
                have hacF := acF_E hE_49 hacF
                refine W.eq (g2 := F0 m 109 ls [.ref q_45]) rfl ?_
                refine lv_astore (lv' := [(5, .ref q_45), (9, .ref q_27), (8, .ref (d (2000 + j9))), (7, .int (nI i)), (6, .int (nI r9)), (4, .ref (d (10 + P))), (0, .ref h0), (1, .int (nI P)), (2, .int (nI c9))]) hx hb dX11_fillColumn_109 hl (by decide) rfl (fun ls hl => ?_)
                refine lv_iconst (v := 0) hx hb dX11_fillColumn_111 (by decide) ?_
                refine lv_istore (lv' := [(6, .int 0), (5, .ref q_45), (9, .ref q_27), (8, .ref (d (2000 + j9))), (7, .int (nI i)), (4, .ref (d (10 + P))), (0, .ref h0), (1, .int (nI P)), (2, .int (nI c9))]) hx hb dX11_fillColumn_112 hl (by decide) rfl (fun ls hl => ?_)
                refine lv_iinc (v := (nI (i + 1))) (lv' := [(7, .int (nI (i + 1))), (6, .int 0), (5, .ref q_45), (9, .ref q_27), (8, .ref (d (2000 + j9))), (4, .ref (d (10 + P))), (0, .ref h0), (1, .int (nI P)), (2, .int (nI c9))]) hx hb dX11_fillColumn_114 hl (k := 4) rfl (nI_1 i) (by decide) rfl (fun ls hl => ?_)
                refine lv_goto (tgt := 17) hx hb dX11_fillColumn_117 (by decide) ?_
                refine W.widen (k := cells + 2 * (i + 1)) (n := slots + 10 * (i + 1)) (by omega) (by omega) ?_
                exact ih (i + 1) _ _ _ _ (some q_45) 0 u2 ((j9, P, c9, i - r9, r9) :: []) ls (by omega) (by omega) (Nat.zero_le _) (by rw [eu2]; exact fc_1 hfN (fun e9 => c_23 (hzr_22.trans ((shAt_eq hP9 el_12 ec_13 hgb_10 _ _).trans e9))) hr0 hj9 hfc hno h80n) (fun b hb => absurd hb (Nat.not_lt_zero _)) hrp_51 (by rw [eu2]; exact neI_set hne (nIm1 (by omega)) (mStand_2 _ _ _ _ _ _ _)) (by rw [eu2, mStand_k _ _ _ _ _ _ _ (nR rfl)]; exact hu0) (by rw [eu2]; exact hk0) (by rw [eu2]; exact hk1o) (by rw [eu2]; exact hk2) (by rw [eu2]; exact hk3) ⟨q_45, q_27, _, rfl, ⟨ht_50, by rw [ez_47, pz_s]; rfl⟩, hpcx, hacF⟩ h3m hEz hI hP hD hS (lv_sub hl [0, 1, 2, 5, 6, 7, 8] rfl)
          ·
            refine lv_iinc (v := (nI (r9 + 1))) (lv' := [(6, .int (nI (r9 + 1))), (7, .int (nI i)), (5, .null), (4, .ref (d (10 + P))), (0, .ref h0), (1, .int (nI P)), (2, .int (nI c9))]) hx hb dX11_fillColumn_42 hl (k := 1) rfl (nI_1 r9) (by decide) rfl (fun ls hl => ?_)
            refine lv_goto (tgt := 114) hx hb dX11_fillColumn_45 (by decide) ?_
            refine lv_iinc (v := (nI (i + 1))) (lv' := [(7, .int (nI (i + 1))), (6, .int (nI (r9 + 1))), (5, .null), (4, .ref (d (10 + P))), (0, .ref h0), (1, .int (nI P)), (2, .int (nI c9))]) hx hb dX11_fillColumn_114 hl (k := 1) rfl (nI_1 i) (by decide) rfl (fun ls hl => ?_)
            refine lv_goto (tgt := 17) hx hb dX11_fillColumn_117 (by decide) ?_
            refine W.widen (k := cells + 2 * (i + 1)) (n := slots + 10 * (i + 1)) (by omega) (by omega) ?_
            exact ih (i + 1) _ _ _ _ none (r9 + 1) u [] ls (by omega) (by omega) (by omega) (fc_e hfN ((shAt_eq hP9 el_12 ec_13 hgb_10 _ _).symm.trans (hzr_22.symm.trans c_23))) (fun b hb => by by_cases e9 : b = r9; rw [e9, show i + 1 - (r9 + 1) + r9 = i by omega]; exact ((shAt_eq hP9 el_12 ec_13 hgb_10 _ _).symm.trans (hzr_22.symm.trans c_23)); rw [show i + 1 - (r9 + 1) + b = i - r9 + b by omega]; exact hrun b (by omega)) hrp hne hu0 hk0 hk1o hk2 hk3 hacF h3m hEz hI hP hD hS (lv_sub hl [0, 1, 2, 3, 4, 5, 6] rfl)
      · obtain ⟨b8, pp9, ah9, eb8, -⟩ := hacF
        cases eb8
    ·
      have hl : lv_has ls 10 [(7, .int (nI i)), (6, .int (nI r9)), (5, .ref b9), (4, .ref (d (10 + P))), (0, .ref h0), (1, .int (nI P)), (2, .int (nI c9))] := hl
      rcases xs with _ | ⟨x9, xs9⟩
      · exact absurd hacF (fun h => by cases h)
      ·
        have hacS := hacF
        obtain ⟨b8, pp9, ah9, eb8, hac9, hpc9, hac8⟩ := hacS
        obtain rfl := Option.some.inj eb8
        have hb9 := hac9.1
        obtain ⟨dd_52, ii_53, gl_54, gc_55, ht_56, ht_57, ht_58, hs_59, hg_60, hgb_61, hc_62, el_63, ec_64⟩ := pg_all hI hrp.1 hP9
        have hbl : ∀ a, a < 8 → bw (u.2 0 (8 * P + a)) 0 60 = true := fun a ha => by rw [← el_63 a ha]; exact hgb_61 a ha
        refine lv_iload hx hb dX11_fillColumn_17 (lv_at hl 0 rfl) ?_
        refine lv_aload hx hb dX11_fillColumn_19 (lv_at hl 3 rfl) ?_
        obtain ⟨kk_65, hk_66⟩ := pl_at ht_56.1 hs_59
        refine va_get (D := (dC, dI)) (ci := 8) (v := .ref (d (30 + P))) (C := RX9) (T := TX9) (N := 5) hx hb hts zl_X11_fillColumn_X9 hown hK hP kk_65 hk_66 rfl 0 (by decide) (hts (.fieldLink RX11 59 "PageOne$Sheet" "lines" "[I") (zat q_wsX11_fillColumn k_wsX11_fillColumn 91 rfl (by decide +kernel))) (fun _ h9 => h9) rfl dX11_fillColumn_21 ?_
        refine lv_iload_n hx hb dX11_fillColumn_24 rfl (lv_at hl 6 rfl) ?_
        obtain ⟨kk_67, hk_68⟩ := pl_at ht_57.1 hg_60
        refine va_iald hx hb hK hP kk_67 0 hk_68 rfl (vp_in_nI hc8 (by decide)) dX11_fillColumn_25 ?_
        refine lv_topi (fun y_69 ey_69 => ?_)
        obtain rfl : y_69 = (nI L9) := ey_69.trans ((by rw [nI_clamp (by omega), el_63 c9 hc8, hu0, eL]))
        refine lv_icmp_gt (tgt := 120) hx hb dX11_fillColumn_26 (by decide) (fun c_70 => ?_) (fun c_70 => ?_)
        ·
          have hie : i = L9 + 1 := by have h9 := c_70; rw [i32_lt, nI_toInt (by omega), nI_toInt (by omega)] at h9; omega
          refine W.widen (k := cells + 122) (n := slots + 610) (by omega) (by omega) ?_
          exact kx120 _ _ _ _ (some b9) u (x9 :: xs9) r9 ls (by rw [← hie]; exact hfN) hrp hne hu0 hk0 hk1o hk2 hk3 hacF h3m hEz hI hP hD hS (lv_sub hl [2] rfl)
        ·
          have hiL : i ≤ L9 := by have h9 := c_70; rw [i32_lt, nI_toInt (by omega), nI_toInt (by omega)] at h9; omega
          refine lv_aload hx hb dX11_fillColumn_29 (lv_at hl 3 rfl) ?_
          refine lv_iload_n hx hb dX11_fillColumn_31 rfl (lv_at hl 6 rfl) ?_
          refine lv_iload hx hb dX11_fillColumn_32 (lv_at hl 0 rfl) ?_
          obtain ⟨kk_71, hk_72⟩ := pl_at ht_56.1 hs_59
          refine vp_callSi (va_runV (As := [.int (nI c9), .int (nI i)]) (rest := []) ⟨hx, hb, hml, hown, hts⟩ (y_at l dC dI q h0 d k z f hI (d (10 + P)) (d (30 + P)) (d (50 + P)) (u.2 1 P) dd_52 ii_53 gl_54 gc_55 ht_56 hs_59 ht_57 ht_58 hg_60 hgb_61 hc_62 (nI c9) (nI i)) (cwV 2 hts gX11_fillColumn_X9_at rfl rfl rfl zh_X9_at_31 ⟨Nat.le_trans (Nat.le_of_ble_eq_true rfl) hRf, Nat.le_trans (Nat.le_of_ble_eq_true rfl) hRl⟩) ⟨px_fb, va_recv hK hP (ci := 8) (q0 := kk_71) rfl hk_72, fun U hU hW => ⟨rfl, px_to hU hW hP hK hN hXN⟩⟩ rfl rfl hl.1 rfl (lv_room (Nat.le_of_ble_eq_true rfl)) dX11_fillColumn_34 ⟨by omega, by omega⟩).run (fun r hw => ?_)
          generalize r = zr_73 at hw ⊢
          have hzr_73 := hw
          refine lv_bipush (v := (-2)) hx hb dX11_fillColumn_37 (by decide) ?_
          refine lv_icmp_ne (tgt := 48) hx hb dX11_fillColumn_39 (by decide) (fun c_74 => ?_) (fun c_74 => ?_)
          ·
            refine lv_iload hx hb dX11_fillColumn_48 (lv_at hl 1 rfl) ?_
            refine lv_if_le (tgt := 62) hx hb dX11_fillColumn_50 (by decide) (fun c_75 => ?_) (fun c_75 => ?_)
            ·
              refine lv_null hx hb dX11_fillColumn_62 ?_
              refine lv_astoreN (lv' := [(8, .null), (7, .int (nI i)), (6, .int (nI r9)), (5, .ref b9), (4, .ref (d (10 + P))), (0, .ref h0), (1, .int (nI P)), (2, .int (nI c9))]) hx hb dX11_fillColumn_63 hl (by decide) rfl (fun ls hl => ?_)
              refine lv_aloadN hx hb dX11_fillColumn_65 (lv_at hl 0 rfl) ?_
              refine lv_ifnullN (tgt := 111) hx hb dX11_fillColumn_67 (by decide) ?_
              refine lv_iconst (v := 0) hx hb dX11_fillColumn_111 (by decide) ?_
              refine lv_istore (lv' := [(6, .int 0), (8, .null), (7, .int (nI i)), (5, .ref b9), (4, .ref (d (10 + P))), (0, .ref h0), (1, .int (nI P)), (2, .int (nI c9))]) hx hb dX11_fillColumn_112 hl (by decide) rfl (fun ls hl => ?_)
              refine lv_iinc (v := (nI (i + 1))) (lv' := [(7, .int (nI (i + 1))), (6, .int 0), (8, .null), (5, .ref b9), (4, .ref (d (10 + P))), (0, .ref h0), (1, .int (nI P)), (2, .int (nI c9))]) hx hb dX11_fillColumn_114 hl (k := 2) rfl (nI_1 i) (by decide) rfl (fun ls hl => ?_)
              refine lv_goto (tgt := 17) hx hb dX11_fillColumn_117 (by decide) ?_
              refine W.widen (k := cells + 2 * (i + 1)) (n := slots + 10 * (i + 1)) (by omega) (by omega) ?_
              exact ih (i + 1) _ _ _ _ (some b9) 0 u (x9 :: xs9) ls (by omega) (by omega) (Nat.zero_le _) (fc_0 hfN (fun e9 => c_74 (hzr_73.trans ((shAt_eq hP9 el_63 ec_64 hgb_61 _ _).trans e9))) (Or.inl (by have h9 := c_75; rw [i32_le, nI_toInt (by omega), i0] at h9; omega)) h80n) (fun b hb => absurd hb (Nat.not_lt_zero _)) hrp hne hu0 hk0 hk1o hk2 hk3 hacF h3m hEz hI hP hD hS (lv_sub hl [0, 1, 3, 4, 5, 6, 7] rfl)
            ·
              have hr0 : 0 < r9 := by have h9 := c_75; rw [i32_le, nI_toInt (by omega), i0] at h9; omega
              refine lv_aload_n hx hb dX11_fillColumn_53 rfl (lv_at hl 4 rfl) ?_
              refine lv_iload hx hb dX11_fillColumn_54 (lv_at hl 1 rfl) ?_
              obtain ⟨kk_76, hk_77⟩ := pl_at hI.2.1.1.1 hI.2.2.2.1.1
              refine va_csq (va_runV (As := [.int (nI r9)]) (rest := []) ⟨hx, hb, hml, hown, hts⟩ (y_fillerFor l dC dI q h0 d k z f hI (nI r9) u hrp hk0 hk1 hk2 hk3) (cwV 1 hts gX11_fillColumn_X11_fillerFor rfl rfl rfl zh_X11_fillerFor_107 ⟨Nat.le_trans (Nat.le_of_ble_eq_true rfl) hRf, Nat.le_trans (Nat.le_of_ble_eq_true rfl) hRl⟩) ⟨px_fb, va_recv hK hP (ci := 10) (q0 := kk_76) rfl hk_77, fun U hU hW => ⟨rfl, px_to hU hW hP hK hN hXN⟩⟩ rfl rfl hl.1 rfl (lv_room (Nat.le_of_ble_eq_true rfl)) dX11_fillColumn_56 ⟨by omega, by omega⟩).run (fun r hw => ?_)
              rcases hw with ⟨hr9x, hno⟩ | ⟨j9, hj9, hr9x, hfc, hno⟩
              ·
                subst hr9x
                refine W.eq (g2 := F0 m 59 ls [.null]) rfl ?_
                refine lv_goto (tgt := 63) hx hb dX11_fillColumn_59 (by decide) ?_
                refine lv_astoreN (lv' := [(8, .null), (7, .int (nI i)), (6, .int (nI r9)), (5, .ref b9), (4, .ref (d (10 + P))), (0, .ref h0), (1, .int (nI P)), (2, .int (nI c9))]) hx hb dX11_fillColumn_63 hl (by decide) rfl (fun ls hl => ?_)
                refine lv_aloadN hx hb dX11_fillColumn_65 (lv_at hl 0 rfl) ?_
                refine lv_ifnullN (tgt := 111) hx hb dX11_fillColumn_67 (by decide) ?_
                refine lv_iconst (v := 0) hx hb dX11_fillColumn_111 (by decide) ?_
                refine lv_istore (lv' := [(6, .int 0), (8, .null), (7, .int (nI i)), (5, .ref b9), (4, .ref (d (10 + P))), (0, .ref h0), (1, .int (nI P)), (2, .int (nI c9))]) hx hb dX11_fillColumn_112 hl (by decide) rfl (fun ls hl => ?_)
                refine lv_iinc (v := (nI (i + 1))) (lv' := [(7, .int (nI (i + 1))), (6, .int 0), (8, .null), (5, .ref b9), (4, .ref (d (10 + P))), (0, .ref h0), (1, .int (nI P)), (2, .int (nI c9))]) hx hb dX11_fillColumn_114 hl (k := 2) rfl (nI_1 i) (by decide) rfl (fun ls hl => ?_)
                refine lv_goto (tgt := 17) hx hb dX11_fillColumn_117 (by decide) ?_
                refine W.widen (k := cells + 2 * (i + 1)) (n := slots + 10 * (i + 1)) (by omega) (by omega) ?_
                exact ih (i + 1) _ _ _ _ (some b9) 0 u (x9 :: xs9) ls (by omega) (by omega) (Nat.zero_le _) (fc_0 hfN (fun e9 => c_74 (hzr_73.trans ((shAt_eq hP9 el_63 ec_64 hgb_61 _ _).trans e9))) (Or.inr hno) h80n) (fun b hb => absurd hb (Nat.not_lt_zero _)) hrp hne hu0 hk0 hk1o hk2 hk3 hacF h3m hEz hI hP hD hS (lv_sub hl [0, 1, 3, 4, 5, 6, 7] rfl)
              ·
                subst hr9x
                have hitj := rI_itm hrp.2.2.1 hj9
                refine W.eq (g2 := F0 m 59 ls [.ref (d (2000 + j9))]) rfl ?_
                refine lv_goto (tgt := 63) hx hb dX11_fillColumn_59 (by decide) ?_
                refine lv_astore (lv' := [(8, .ref (d (2000 + j9))), (7, .int (nI i)), (6, .int (nI r9)), (5, .ref b9), (4, .ref (d (10 + P))), (0, .ref h0), (1, .int (nI P)), (2, .int (nI c9))]) hx hb dX11_fillColumn_63 hl (by decide) rfl (fun ls hl => ?_)
                refine lv_aload hx hb dX11_fillColumn_65 (lv_at hl 0 rfl) ?_
                refine lv_ifnull hx hb dX11_fillColumn_67 ?_
                refine va_new (ci := 7) (fs := [.null, .int 0, .int 0, .int 0, .int 0, .int 0]) (C := RX8) (T := TX8) (N := 6) hx hb hts zl_X11_fillColumn_X8 tyX8 tyX8_ok hown (hts (.classLink RX11 106 RX8) (zat q_wsX11_fillColumn k_wsX11_fillColumn 309 rfl (by decide +kernel))) (hts (.instantiable RX8 6) (zat q_wsX11_fillColumn k_wsX11_fillColumn 310 rfl (by decide +kernel))) (hts (.initialized RX8) (zat q_wsX11_fillColumn k_wsX11_fillColumn 62 rfl (by decide +kernel))) hK hP hD hS hA rfl nwX8 (by omega) (by omega) dX11_fillColumn_70 (fun q_78 H hPn hDn hS => ?_)
                have hP := vaP_l hPn
                refine W.widen (k := cells + 2 * i + 1) (n := slots + 10 * i + 6) (by omega) (by omega) ?_
                refine lv_dup hx hb dX11_fillColumn_73 rfl ?_
                refine lv_aload hx hb dX11_fillColumn_74 (lv_at hl 0 rfl) ?_
                refine lv_iload_n hx hb dX11_fillColumn_76 rfl (lv_at hl 6 rfl) ?_
                refine lv_iload_n hx hb dX11_fillColumn_77 rfl (lv_at hl 7 rfl) ?_
                refine lv_iload hx hb dX11_fillColumn_78 (lv_at hl 1 rfl) ?_
                refine lv_iload hx hb dX11_fillColumn_80 (lv_at hl 2 rfl) ?_
                refine lv_isub hx hb dX11_fillColumn_82 ?_
                refine lv_topi (fun y_79 ey_79 => ?_)
                obtain rfl : y_79 = (nI (i - r9)) := ey_79.trans (nI_sb hr9 (by omega))
                refine lv_iconst (v := 1) hx hb dX11_fillColumn_83 (by decide) ?_
                refine lv_iload hx hb dX11_fillColumn_84 (lv_at hl 2 rfl) ?_
                have hPc := vaP_r hPn
                have hDc := vaD_r hDn
                have hFc := fr_part hDn hS hA
                refine va_callv (va_runI (As := [.ref (d (2000 + j9)), .int (nI P), .int (nI c9), .int (nI (i - r9)), .int 1, .int (nI r9)]) (rest := [.ref q_78]) ⟨hx, hb, hml, hown, hts⟩ (x_PieceI l dC dI q_78 (d (2000 + j9)) (nI P) (nI c9) (nI (i - r9)) 1 (nI r9) H.size) (cwI 6 hts gX11_fillColumn_X8_init rfl rfl rfl (hts (.initialized RX8) (zat q_wsX11_fillColumn k_wsX11_fillColumn 62 rfl (by decide +kernel))) (hts (.methodLink RX11 108 yX8_init) (zat q_wsX11_fillColumn k_wsX11_fillColumn 311 rfl (by decide +kernel))) (hts (.instanceMethod yX8_init) (zat q_wsX11_fillColumn k_wsX11_fillColumn 312 rfl (by decide +kernel))) rfl zh_X8_init_83 ⟨Nat.le_trans (Nat.le_of_ble_eq_true rfl) hRf, Nat.le_trans (Nat.le_of_ble_eq_true rfl) hRl⟩) ⟨gw_fb, fun U hU hW => ⟨rfl, by rw [hU], pw_to hU hW hPc (hK.sub (tys' := []) [] rfl) hN, hDc.weaken (fun _ _ _ _ => trivial)⟩⟩ rfl rfl hl.1 rfl (lv_room (Nat.le_of_ble_eq_true rfl)) dX11_fillColumn_86 ⟨by omega, by omega⟩) hS (fun q _ h => hFc q h) hFc (fun u9 t H1 locs ht hvm hw hB hz1 hk1 hS => ?_)
                obtain ⟨hP1, hD1⟩ := hB
                rw [ht] at hP1
                obtain ⟨hP, hD⟩ := va_joinQ (X := [(q_78, .inr (7, [.null, .int 0, .int 0, .int 0, .int 0, .int 0]))]) (cx := [(q_78, .inr (7, [.null, .int 0, .int 0, .int 0, .int 0, .int 0]))]) (wr := []) (w1 := [(q_78, .inr (7, [va_rf (some (d (2000 + j9))), .int (nI P), .int (nI c9), .int (nI (i - r9)), .int 1, .int (nI r9)]))]) (pl := va_pl z.1 f) (vaP_swap hPn) (vaD_rotR hDn) [0] [] rfl rfl rfl (fun i hi => absurd hi List.not_mem_nil) hk1 hFc hP1 hD1
                generalize H1 = H at hP hS ⊢
                obtain ⟨hnm_80, hP, hD⟩ := pushC hP hD
                obtain ⟨z_81, ez_81⟩ : ∃ y : gS, y = pz z q_78 (22, 0, [va_rf (some (d (2000 + j9))), .int (nI P), .int (nI c9), .int (nI (i - r9)), .int 1, .int (nI r9)]) := ⟨_, rfl⟩
                obtain ⟨f_82, ef_82⟩ : ∃ y : xF, y = va_up f q_78 (.inr (7, [va_rf (some (d (2000 + j9))), .int (nI P), .int (nI c9), .int (nI (i - r9)), .int 1, .int (nI r9)])) := ⟨_, rfl⟩
                have hE_83 : zE z z_81 := by rw [ez_81]; exact pz_E hnm_80 _
                have hI : xI q h0 d k z_81 f_82 := by rw [ez_81, ef_82]; exact x_push hI hnm_80 (Or.inr (by decide : (15 : Nat) < 22)) (cO_pc (bw11 hP9) (ty_s hitj) hnm_80)
                rw [show z.1 ++ [q_78] = z_81.1 from by rw [ez_81]; rfl, ← ef_82] at hP hD
                have hb9 := zE_tg hE_83 hb9
                have ht_56 := zE_tg hE_83 ht_56
                have ht_57 := zE_tg hE_83 ht_57
                have ht_58 := zE_tg hE_83 ht_58
                have hitj := zE_itm hE_83 hitj
                have ht_84 : tg z_81 q_78 22 := by rw [ez_81]; exact pz_t _ _ _
                have hEz : zE z0 z_81 := zE_tr hEz hE_83
                have h3m : f_82 (d 3) = f0 (d 3) := by rw [ef_82]; exact (up_o (fun e9 => hnm_80 (by rw [← e9]; exact hrp.2.2.2.2.2.2.2.1.1.1))).trans h3m
                have hrp_85 : rep q d u z_81 f_82 := by rw [ez_81, ef_82]; exact rep_grow hrp (pz_E hnm_80 _) (oK_push (fun _ _ => rfl) (zE_rf _) hnm_80)
                have hac9 : acS z_81 b9 pp9 0 (nI (xs9.length + 1)) ah9 := ⟨zE_tg hE_83 hac9.1, by rw [zE_o hE_83 hac9.1.1]; exact hac9.2⟩
                have hacF := acF_E hE_83 hacF
                refine W.eq (g2 := F0 m 89 ls [.ref q_78]) rfl ?_
                have hp_86 : pcS z_81 q_78 (some (d (2000 + j9))) (nI P) (nI c9) (nI (i - r9)) 1 (nI r9) := ⟨ht_84, by rw [ez_81, pz_s]⟩
                have hb_88 : bw (nI c9) 0 7 = true := bw7 hc8
                have hb_89 : bw (nI (i - r9)) 0 60 = true := b60n (by omega)
                have hb_90 : bw 1 0 8 = true := by decide
                have hb_91 : bw (nI r9) 0 60 = true := b60n (by omega)
                have hlg_87 := lg_of hp_86 ⟨hb_88, hb_89, hb_90, hb_91⟩
                refine lv_astore (lv' := [(9, .ref q_78), (8, .ref (d (2000 + j9))), (7, .int (nI i)), (6, .int (nI r9)), (5, .ref b9), (4, .ref (d (10 + P))), (0, .ref h0), (1, .int (nI P)), (2, .int (nI c9))]) hx hb dX11_fillColumn_89 hl (by decide) rfl (fun ls hl => ?_)
                refine lv_aload_n hx hb dX11_fillColumn_91 rfl (lv_at hl 6 rfl) ?_
                refine lv_aload hx hb dX11_fillColumn_92 (lv_at hl 0 rfl) ?_
                have hrx := fc_in hP9 hc8 hbl hr0 hr9 hi hrun
                obtain ⟨-, hX, hD1, hY, hN1, hin⟩ := hrx
                have hpcx : pcS z_81 q_78 (some (d (2000 + j9))) (nI P) (nI c9) (nI (i - r9)) (nI 1) (nI r9) := hp_86
                obtain ⟨kk_92, hk_93⟩ := pl_at hI.2.1.1.1 hI.2.2.2.1.1
                have hFc := fr_all hD hS hA
                refine va_callv (va_runV (As := [.ref q_78]) (rest := []) ⟨hx, hb, hml, hown, hts⟩ (y_standI l dC dI q h0 d k z_81 f_82 hI q_78 P c9 (i - r9) 1 r9 u hrp_85 hk0 hk1o hk2 hk3 hP9 hX hD1 hY hin hne j9 hj9 hpcx (by rw [hfc.1, hfc.2.1]; decide) H.size) (cwV 1 hts gX11_fillColumn_X11_stand rfl rfl rfl zh_X11_stand_62 ⟨Nat.le_trans (Nat.le_of_ble_eq_true rfl) hRf, Nat.le_trans (Nat.le_of_ble_eq_true rfl) hRl⟩) ⟨gx_fb, va_recv hK hP (ci := 10) (q0 := kk_92) rfl hk_93, fun U hU hW => ⟨rfl, by rw [hU], px_to hU hW hP hK hN hXN, hD.weaken (fun _ _ _ _ => trivial)⟩⟩ rfl rfl hl.1 rfl (lv_room (Nat.le_of_ble_eq_true rfl)) dX11_fillColumn_94 ⟨by omega, by omega⟩) hS (fun q _ h => hFc q h) hFc (fun w_94 t H1 locs ht hvm hw hB hz1 hk1 hS => ?_)
                obtain ⟨hP, hD1⟩ := hB
                rw [ht] at hP
                rw [hw.2.1] at hP hD1
                have hD := hD1.weaken (fun _ q _ h => hFc q.1 h)
                have hI := hw.2.2.1
                have hw0 := hw
                generalize w_94.2.2 = f_95 at hP hD hI hw0
                generalize H1 = H at hP hS ⊢
                obtain ⟨u2, eu2⟩ : ∃ y : mS, y = mStand u (nI j9) P c9 (i - r9) 1 r9 := ⟨_, rfl⟩
                have hrp2 : rep q d u2 z_81 f_95 := by rw [eu2]; exact hw0.2.2.2.1
                have h3m : f_95 (d 3) = f0 (d 3) := hw0.2.2.2.2.trans h3m
                refine va_new (ci := 0) (fs := [.null, .int 0, .null, .int 0]) (C := RX0) (T := TX0) (N := 4) hx hb hts zl_X11_fillColumn_X0 tyX0 tyX0_ok hown (hts (.classLink RX11 28 RX0) (zat q_wsX11_fillColumn k_wsX11_fillColumn 80 rfl (by decide +kernel))) (hts (.instantiable RX0 4) (zat q_wsX11_fillColumn k_wsX11_fillColumn 598 rfl (by decide +kernel))) (hts (.initialized RX0) (zat q_wsX11_fillColumn k_wsX11_fillColumn 65 rfl (by decide +kernel))) hK hP hD hS hA rfl nwX0 (by omega) (by omega) dX11_fillColumn_97 (fun q_96 H hPn hDn hS => ?_)
                have hP := vaP_l hPn
                refine W.widen (k := cells + 2 * i + 2) (n := slots + 10 * i + 10) (by omega) (by omega) ?_
                refine lv_dup hx hb dX11_fillColumn_100 rfl ?_
                refine lv_aload hx hb dX11_fillColumn_101 (lv_at hl 0 rfl) ?_
                refine lv_iconst (v := 0) hx hb dX11_fillColumn_103 (by decide) ?_
                refine lv_aload hx hb dX11_fillColumn_104 (lv_at hl 4 rfl) ?_
                obtain ⟨hnm_97, hP, hD⟩ := pushC (cs := []) (vaP_swap hPn) (vaD_rotR hDn)
                obtain ⟨z_98, ez_98⟩ : ∃ y : gS, y = pz z_81 q_96 (24, 0, []) := ⟨_, rfl⟩
                obtain ⟨f_99, ef_99⟩ : ∃ y : xF, y = va_up f_95 q_96 (.inr (0, [.null, .int 0, .null, .int 0])) := ⟨_, rfl⟩
                have hE_100 : zE z_81 z_98 := by rw [ez_98]; exact pz_E hnm_97 _
                have hI4 : xI q h0 d k z_98 f_99 := by rw [ez_98, ef_99]; exact x_push hI hnm_97 (Or.inr (by decide : (15 : Nat) < 24)) (cO_24 (by rw [pz_s]))
                have hP : va_P (dC, dI) vwCl (va_pl z_98.1 f_99) H := by rw [ez_98, ef_99]; exact hP
                have hD : va_D A (va_pl z_98.1 f_99) := by rw [ez_98, ef_99]; exact hD
                have hFc := fr_all hD hS hA
                refine va_callv (va_runI (As := [.ref q_78, .int 0, .ref b9]) (rest := [.ref q_96]) ⟨hx, hb, hml, hown, hts⟩ (y_ActA l dC dI q h0 d k z_98 f_99 hI4 q_96 q_78 b9 (by rw [ez_98]; exact pz_t _ _ _) (by rw [ef_99]; exact up_s) (zE_tg hE_100 hb9) pp9 0 (nI (xs9.length + 1)) ah9 ⟨zE_tg hE_100 hac9.1, by rw [zE_o hE_100 hac9.1.1]; exact hac9.2⟩ H.size) (cwI 3 hts gX11_fillColumn_X0_init rfl rfl rfl (hts (.initialized RX0) (zat q_wsX11_fillColumn k_wsX11_fillColumn 65 rfl (by decide +kernel))) (hts (.methodLink RX11 163 yX0_init) (zat q_wsX11_fillColumn k_wsX11_fillColumn 599 rfl (by decide +kernel))) (hts (.instanceMethod yX0_init) (zat q_wsX11_fillColumn k_wsX11_fillColumn 600 rfl (by decide +kernel))) rfl zh_X0_init_81 ⟨Nat.le_trans (Nat.le_of_ble_eq_true rfl) hRf, Nat.le_trans (Nat.le_of_ble_eq_true rfl) hRl⟩) ⟨gx_fb, fun U hU hW => ⟨rfl, by rw [hU], px_to hU hW hP hK hN hXN, hD.weaken (fun _ _ _ _ => trivial)⟩⟩ rfl rfl hl.1 rfl (lv_room (Nat.le_of_ble_eq_true rfl)) dX11_fillColumn_106 ⟨by omega, by omega⟩) hS (fun q _ h => hFc q h) hFc (fun w_101 t H1 locs ht hvm hw hB hz1 hk1 hS => ?_)
                obtain ⟨hP, hD1⟩ := hB
                rw [ht] at hP
                have hD := hD1.weaken (fun _ q _ h => hFc q.1 h)
                generalize H1 = H at hP hS ⊢
                obtain ⟨hw2, hw3⟩ := hw
                rw [hw2, hw3] at hP hD
                obtain ⟨z_103, ez_103⟩ : ∃ y : gS, y = pz z_81 q_96 (23, (z_81.2 b9).2.1 + 1, [.ref q_78, .int 0, .ref b9, .int ((nI (xs9.length + 1)) + 1)]) := ⟨_, rfl⟩
                obtain ⟨f_104, ef_104⟩ : ∃ y : xF, y = va_up f_95 q_96 (.inr (0, [.ref q_78, .int 0, .ref b9, .int ((nI (xs9.length + 1)) + 1)])) := ⟨_, rfl⟩
                have hE_105 : zE z_81 z_103 := by rw [ez_103]; exact pz_E hnm_97 _
                have hI : xI q h0 d k z_103 f_104 := by rw [ez_103, ef_104]; exact x_push hI hnm_97 (Or.inr (by decide : (15 : Nat) < 23)) (cO_acA hlg_87 hb9 hnm_97)
                rw [show z_98.1 = z_103.1 from by rw [ez_98, ez_103]; rfl, ef_99, up_up, ← ef_104] at hP hD
                have hb9 := zE_tg hE_105 hb9
                have ht_56 := zE_tg hE_105 ht_56
                have ht_57 := zE_tg hE_105 ht_57
                have ht_58 := zE_tg hE_105 ht_58
                have hitj := zE_itm hE_105 hitj
                have hlg_87 := zE_lg hE_105 hlg_87
                have hp_86 := zE_pc hE_105 hp_86
                have hpcx := zE_pc hE_105 hpcx
                have ht_106 : tg z_103 q_96 23 := by rw [ez_103]; exact pz_t _ _ _
                have hEz : zE z0 z_103 := zE_tr hEz hE_105
                refine W.eq (g2 := F0 m 109 ls [.ref q_96]) rfl ?_
                have h3m : f_104 (d 3) = f0 (d 3) := by rw [ef_104]; exact (up_o (fun e9 => hnm_97 (by rw [← e9]; exact hrp2.2.2.2.2.2.2.2.1.1.1))).trans h3m
                have hrp_107 : rep q d u2 z_103 f_104 := by rw [ez_103, ef_104]; exact rep_grow hrp2 (pz_E hnm_97 _) (oK_push (fun _ _ => rfl) (zE_rf _) hnm_97)
                have hac9 : acS z_103 b9 pp9 0 (nI (xs9.length + 1)) ah9 := ⟨zE_tg hE_105 hac9.1, by rw [zE_o hE_105 hac9.1.1]; exact hac9.2⟩
                have hacF := acF_E hE_105 hacF
                refine lv_astore (lv' := [(5, .ref q_96), (9, .ref q_78), (8, .ref (d (2000 + j9))), (7, .int (nI i)), (6, .int (nI r9)), (4, .ref (d (10 + P))), (0, .ref h0), (1, .int (nI P)), (2, .int (nI c9))]) hx hb dX11_fillColumn_109 hl (by decide) rfl (fun ls hl => ?_)
                refine lv_iconst (v := 0) hx hb dX11_fillColumn_111 (by decide) ?_
                refine lv_istore (lv' := [(6, .int 0), (5, .ref q_96), (9, .ref q_78), (8, .ref (d (2000 + j9))), (7, .int (nI i)), (4, .ref (d (10 + P))), (0, .ref h0), (1, .int (nI P)), (2, .int (nI c9))]) hx hb dX11_fillColumn_112 hl (by decide) rfl (fun ls hl => ?_)
                refine lv_iinc (v := (nI (i + 1))) (lv' := [(7, .int (nI (i + 1))), (6, .int 0), (5, .ref q_96), (9, .ref q_78), (8, .ref (d (2000 + j9))), (4, .ref (d (10 + P))), (0, .ref h0), (1, .int (nI P)), (2, .int (nI c9))]) hx hb dX11_fillColumn_114 hl (k := 4) rfl (nI_1 i) (by decide) rfl (fun ls hl => ?_)
                refine lv_goto (tgt := 17) hx hb dX11_fillColumn_117 (by decide) ?_
                refine W.widen (k := cells + 2 * (i + 1)) (n := slots + 10 * (i + 1)) (by omega) (by omega) ?_
                exact ih (i + 1) _ _ _ _ (some q_96) 0 u2 ((j9, P, c9, i - r9, r9) :: (x9 :: xs9)) ls (by omega) (by omega) (Nat.zero_le _) (by rw [eu2]; exact fc_1 hfN (fun e9 => c_74 (hzr_73.trans ((shAt_eq hP9 el_63 ec_64 hgb_61 _ _).trans e9))) hr0 hj9 hfc hno h80n) (fun b hb => absurd hb (Nat.not_lt_zero _)) hrp_107 (by rw [eu2]; exact neI_set hne (nIm1 (by omega)) (mStand_2 _ _ _ _ _ _ _)) (by rw [eu2, mStand_k _ _ _ _ _ _ _ (nR rfl)]; exact hu0) (by rw [eu2]; exact hk0) (by rw [eu2]; exact hk1o) (by rw [eu2]; exact hk2) (by rw [eu2]; exact hk3) ⟨q_96, q_78, _, rfl, ⟨ht_106, by rw [ez_103, pz_s]; rw [nI_1]; rfl⟩, hpcx, hacF⟩ h3m hEz hI hP hD hS (lv_sub hl [0, 1, 2, 5, 6, 7, 8] rfl)
          ·
            refine lv_iinc (v := (nI (r9 + 1))) (lv' := [(6, .int (nI (r9 + 1))), (7, .int (nI i)), (5, .ref b9), (4, .ref (d (10 + P))), (0, .ref h0), (1, .int (nI P)), (2, .int (nI c9))]) hx hb dX11_fillColumn_42 hl (k := 1) rfl (nI_1 r9) (by decide) rfl (fun ls hl => ?_)
            refine lv_goto (tgt := 114) hx hb dX11_fillColumn_45 (by decide) ?_
            refine lv_iinc (v := (nI (i + 1))) (lv' := [(7, .int (nI (i + 1))), (6, .int (nI (r9 + 1))), (5, .ref b9), (4, .ref (d (10 + P))), (0, .ref h0), (1, .int (nI P)), (2, .int (nI c9))]) hx hb dX11_fillColumn_114 hl (k := 1) rfl (nI_1 i) (by decide) rfl (fun ls hl => ?_)
            refine lv_goto (tgt := 17) hx hb dX11_fillColumn_117 (by decide) ?_
            refine W.widen (k := cells + 2 * (i + 1)) (n := slots + 10 * (i + 1)) (by omega) (by omega) ?_
            exact ih (i + 1) _ _ _ _ (some b9) (r9 + 1) u (x9 :: xs9) ls (by omega) (by omega) (by omega) (fc_e hfN ((shAt_eq hP9 el_63 ec_64 hgb_61 _ _).symm.trans (hzr_73.symm.trans c_74))) (fun b hb => by by_cases e9 : b = r9; rw [e9, show i + 1 - (r9 + 1) + r9 = i by omega]; exact ((shAt_eq hP9 el_63 ec_64 hgb_61 _ _).symm.trans (hzr_73.symm.trans c_74)); rw [show i + 1 - (r9 + 1) + b = i - r9 + b by omega]; exact hrun b (by omega)) hrp hne hu0 hk0 hk1o hk2 hk3 hacF h3m hEz hI hP hD hS (lv_sub hl [0, 1, 2, 3, 4, 5, 6] rfl)
/-- what fillColumn leaves -/
def fcP (q : Nat → ClassId) (h0 : Nat) (d : Nat → Nat) (k : Nat → Int32) (z : gS) (f : xF) (u : mS) (xs : List fX) (P c L : Nat) (r : Option Nat) (w : xU) : Prop := ∃ u' xs' r9, fcN u xs P c (L + 1) = (u', xs', r9) ∧ w.1 = k ∧ zE z w.2.1 ∧ xI q h0 d k w.2.1 w.2.2 ∧ rep q d u' w.2.1 w.2.2 ∧ neI u' ∧ u'.2 0 = u.2 0 ∧ (k 0 = u'.1 3 ∧ k 1 = u'.1 28 ∧ k 2 = u'.1 38 ∧ k 3 = u'.1 39) ∧ acF w.2.1 d r xs' ∧ w.2.2 (d 3) = f (d 3)
/-- a page's columns, one after the other -/
noncomputable def flN (u : mS) (P : Nat) : Nat → mS × List fX
  | 0 => (u, [])
  | c + 1 => ((fcN (flN u P c).1 (flN u P c).2 P c (((flN u P c).1.2 0 (8 * P + c)).toNatClampNeg + 1)).1, (fcN (flN u P c).1 (flN u P c).2 P c (((flN u P c).1.2 0 (8 * P + c)).toNatClampNeg + 1)).2.1)
theorem flN_s {u u1 u2 : mS} {P c r9 L : Nat} {xs xs2 : List fX} (h : flN u P c = (u1, xs)) (h2 : fcN u1 xs P c (L + 1) = (u2, xs2, r9)) (hL : u1.2 0 (8 * P + c) = nI L) (h60 : L ≤ 60) : flN u P (c + 1) = (u2, xs2) := by
  show ((fcN (flN u P c).1 (flN u P c).2 P c (((flN u P c).1.2 0 (8 * P + c)).toNatClampNeg + 1)).1, (fcN (flN u P c).1 (flN u P c).2 P c (((flN u P c).1.2 0 (8 * P + c)).toNatClampNeg + 1)).2.1) = _
  rw [h]
  show ((fcN u1 xs P c ((u1.2 0 (8 * P + c)).toNatClampNeg + 1)).1, (fcN u1 xs P c ((u1.2 0 (8 * P + c)).toNatClampNeg + 1)).2.1) = _
  rw [hL, nI_clamp (by omega), h2]
theorem ln_L {q h0 d k z f u} (hI : xI q h0 d k z f) (h : rep q d u z f) {P c : Nat} (hP : P < 12) (hc : c < 8) : ∃ L, u.2 0 (8 * P + c) = nI L ∧ L ≤ 60 := by
  obtain ⟨dd, ii, gl, gc, -, -, -, -, -, hgb, -, el, -⟩ := pg_all hI h.1 hP
  obtain ⟨l1, l2, l3⟩ := nI_of_bw (hgb c hc)
  have e60 : (60 : Int32).toInt = 60 := rfl
  rw [el c hc] at l1 l2 l3
  exact ⟨_, l1, by omega⟩
set_option maxHeartbeats 4000000 in
set_option maxRecDepth 100000 in
theorem y_fillColN (l : Launch) (dC : Nat → ClassId) (dI : Nat → Nat → Nat) (q : Nat → ClassId) (h0 : Nat) (d : Nat → Nat) (k : Nat → Int32) (z : gS) (f : xF) (hI : xI q h0 d k z f) (P c9 L9 : Nat) (hP9 : P < 12) (hc8 : c9 < 8) (u : mS) (hrp : rep q d u z f) (hk0 : k 0 = u.1 3) (hk1 : k 1 = u.1 28) (hk2 : k 2 = u.1 38) (hk3 : k 3 = u.1 39) (eL : u.2 0 (8 * P + c9) = nI L9) (hL60 : L9 ≤ 60) (hne : neI u) (xs : List fX) (hacF : acF z d none xs) (sz : Nat) : Met l yX11_fillColumn wsX11_fillColumn ({ frames := 5, cells := 122, slots := 610, locals := 109 }) (va_Pc [.ref h0, .int (nI P), .int (nI c9), .null] (fun U => U.heap.size = sz ∧ PX dC dI (va_pl z.1 f) (xT q) U ∧ va_D (fun _ => True) (va_pl z.1 f))) (va_Qq (fun (r : Option Nat) (w : xU) => fcP q h0 d k z f u xs P c9 L9 r w) (fun (w : xU) t => va_P (dC, dI) vwCl (va_pl w.2.1.1 w.2.2) t.heap ∧ va_D (va_A (va_pl z.1 f) sz) (va_pl w.2.1.1 w.2.2)) (va_A (va_pl z.1 f) sz)) 122 610 (va_A (va_pl z.1 f) sz) := by
  refine Met.ofW (cc := cX11_fillColumn) (maxL := 10) (ret := (some (.object "PageOne$Act"))) (by decide) rfl ?_
  intro p e s m args below meth c s₁ B hml hv
  obtain ⟨rfl, hsz, ⟨⟨hP, hK, hN⟩, hXN⟩, hD0⟩ := hv
  have hx := B.exec
  have hb := B.bytes
  have hr := B.returns
  have hts := atoms_spec (ws := wsX11_fillColumn) B.pre
  have hown : s.vm.findClass RX11 = some m.cls := findClass_of_methodNamed B.named
  have hlocks := B.notSynchronized
  subst hsz
  have hD := hD0.self (sz := s.heap.size)
  generalize hAe : va_A (va_pl z.1 f) s.heap.size = A at hD ⊢
  have hA : ∀ q : Nat, s.heap.size ≤ q → A q := fun q h => by rw [← hAe]; exact Or.inr h
  have hS : va_S A s.heap s.heap [] := va_S.rf
  have hl := lv_entry ([.ref h0, .int (nI P), .int (nI c9), .null]) (n := 10) (Nat.le_of_ble_eq_true rfl)
  rw [lg_entry_eq]
  generalize (lg_sl ([.ref h0, .int (nI P), .int (nI c9), .null]) ++ List.replicate (10 - (lg_sl ([.ref h0, .int (nI P), .int (nI c9), .null])).length) Slot.unset).toArray = ls at hl ⊢
  have hl : lv_has ls 10 [(0, .ref h0), (1, .int (nI P)), (2, .int (nI c9)), (3, .null)] := hl
  refine lv_aload_n hx hb dX11_fillColumn_0 rfl (lv_at hl 0 rfl) ?_
  obtain ⟨kk_1, hk_2⟩ := pl_at hI.2.1.1.1 hI.2.2.2.1.1
  refine va_get (D := (dC, dI)) (ci := 10) (v := .ref (d 0)) (C := RX11) (T := TX11) (N := 9) hx hb hts zl_X11_fillColumn_X11 hown hK hP kk_1 hk_2 rfl 0 (by decide) (hts (.fieldLink RX11 11 "PageOne" "pages" "[LPageOne$Sheet;") (zat q_wsX11_fillColumn k_wsX11_fillColumn 112 rfl (by decide +kernel))) (fun _ h9 => h9) rfl dX11_fillColumn_1 ?_
  refine lv_iload_n hx hb dX11_fillColumn_4 rfl (lv_at hl 1 rfl) ?_
  obtain ⟨g_3, hs_4, hg_5⟩ := x_pg hI hI.2.1.2.1
  obtain ⟨kk_6, hk_7⟩ := pl_at hI.2.1.2.1.1 hs_4
  refine va_aldq hx hb hK hP kk_6 2 hk_7 rfl (vp_in_nI hP9 (by decide)) dX11_fillColumn_5 ?_
  obtain ⟨b_8, hg_9, ht_10⟩ := hg_5 _ (vlt (vp_in_nI hP9 (by decide)))
  rw [hg_9]
  refine W.eq (g2 := F0 m 6 ls [.ref b_8]) rfl ?_
  have hb_11 := pg_at hrp.1 hs_4 hP9 (by rw [nI_clamp (by omega)] at hg_9; exact hg_9)
  subst hb_11
  obtain ⟨dd_12, ii_13, gl_14, gc_15, ht_16, ht_17, ht_18, hs_19, hg_20, hgb_21, hc_22, el_23, ec_24⟩ := pg_all hI hrp.1 hP9
  refine lv_astore (lv' := [(4, .ref (d (10 + P))), (0, .ref h0), (1, .int (nI P)), (2, .int (nI c9)), (3, .null)]) hx hb dX11_fillColumn_6 hl (by decide) rfl (fun ls hl => ?_)
  refine lv_aload_nN hx hb dX11_fillColumn_8 rfl (lv_at hl 4 rfl) ?_
  refine lv_astoreN (lv' := [(5, .null), (4, .ref (d (10 + P))), (0, .ref h0), (1, .int (nI P)), (2, .int (nI c9)), (3, .null)]) hx hb dX11_fillColumn_9 hl (by decide) rfl (fun ls hl => ?_)
  refine lv_iconst (v := 0) hx hb dX11_fillColumn_11 (by decide) ?_
  refine lv_istore (lv' := [(6, .int 0), (5, .null), (4, .ref (d (10 + P))), (0, .ref h0), (1, .int (nI P)), (2, .int (nI c9)), (3, .null)]) hx hb dX11_fillColumn_12 hl (by decide) rfl (fun ls hl => ?_)
  refine lv_iconst (v := 0) hx hb dX11_fillColumn_14 (by decide) ?_
  refine lv_istore (lv' := [(7, .int 0), (6, .int 0), (5, .null), (4, .ref (d (10 + P))), (0, .ref h0), (1, .int (nI P)), (2, .int (nI c9)), (3, .null)]) hx hb dX11_fillColumn_15 hl (by decide) rfl (fun ls hl => ?_)
  refine y_fc_l (cells := 0) (slots := 0) (z0 := z) (f0 := f) (u0 := u) (xs0 := xs) (P := P) (c9 := c9) (L9 := L9) hP9 hc8 eL hL60 hx hb hml hts hown hN hXN hK (Nat.le_of_ble_eq_true rfl) (Nat.le_of_ble_eq_true rfl) (Nat.le_of_ble_eq_true rfl) (Nat.le_of_ble_eq_true rfl) hA (fun z2 f2 H locs r u2 xs2 r9 ls hfN hrp2 hne2 hu2 hk0 hk1 hk2 hk3 hacF2 h3m hE2 hI hP hD hS hl => ?_) 62 0 z f _ _ none 0 u xs ls (Nat.zero_le _) (by decide) (Nat.le_refl _) rfl (fun b hb => absurd hb (Nat.not_lt_zero _)) hrp hne rfl hk0 hk1 hk2 hk3 hacF rfl (zE_rf z) hI hP hD hS (lv_sub hl [0, 1, 2, 3, 4, 5, 6] rfl)
  rcases r with _ | b8
  all_goals refine W.widen (k := 122) (n := 610) (Nat.le_of_ble_eq_true rfl) (Nat.le_of_ble_eq_true rfl) ?_
  ·
    have hl : lv_has ls 10 [(5, .null)] := hl
    refine lv_aloadN hx hb dX11_fillColumn_120 (lv_at hl 0 rfl) ?_
    exact W.aret (v := .null) hx hb hr (Or.inl ⟨_, rfl⟩) (Or.inl rfl) (fun t ht hW => ⟨⟨none, (k, z2, f2), rfl, ⟨u2, xs2, r9, hfN, rfl, hE2, hI, hrp2, hne2, hu2, ⟨hk0, hk1, hk2, hk3⟩, hacF2, h3m⟩, by rw [ht]; exact hP, hD⟩, hS.F ht⟩) hS.2.2 dX11_fillColumn_122
  ·
    have hl : lv_has ls 10 [(5, .ref b8)] := hl
    refine lv_aload hx hb dX11_fillColumn_120 (lv_at hl 0 rfl) ?_
    exact W.aret (v := .ref b8) hx hb hr (Or.inl ⟨_, rfl⟩) (Or.inr ⟨_, rfl⟩) (fun t ht hW => ⟨⟨(some b8), (k, z2, f2), rfl, ⟨u2, xs2, r9, hfN, rfl, hE2, hI, hrp2, hne2, hu2, ⟨hk0, hk1, hk2, hk3⟩, hacF2, h3m⟩, by rw [ht]; exact hP, hD⟩, hS.F ht⟩) hS.2.2 dX11_fillColumn_122
set_option maxHeartbeats 4000000 in
set_option maxRecDepth 100000 in
theorem y_fillColS (l : Launch) (dC : Nat → ClassId) (dI : Nat → Nat → Nat) (q : Nat → ClassId) (h0 : Nat) (d : Nat → Nat) (k : Nat → Int32) (z : gS) (f : xF) (hI : xI q h0 d k z f) (b9 : Nat) (hb9 : tg z b9 23) (P c9 L9 : Nat) (hP9 : P < 12) (hc8 : c9 < 8) (u : mS) (hrp : rep q d u z f) (hk0 : k 0 = u.1 3) (hk1 : k 1 = u.1 28) (hk2 : k 2 = u.1 38) (hk3 : k 3 = u.1 39) (eL : u.2 0 (8 * P + c9) = nI L9) (hL60 : L9 ≤ 60) (hne : neI u) (xs : List fX) (hacF : acF z d (some b9) xs) (sz : Nat) : Met l yX11_fillColumn wsX11_fillColumn ({ frames := 5, cells := 122, slots := 610, locals := 109 }) (va_Pc [.ref h0, .int (nI P), .int (nI c9), .ref b9] (fun U => U.heap.size = sz ∧ PX dC dI (va_pl z.1 f) (xT q) U ∧ va_D (fun _ => True) (va_pl z.1 f))) (va_Qq (fun (r : Option Nat) (w : xU) => fcP q h0 d k z f u xs P c9 L9 r w) (fun (w : xU) t => va_P (dC, dI) vwCl (va_pl w.2.1.1 w.2.2) t.heap ∧ va_D (va_A (va_pl z.1 f) sz) (va_pl w.2.1.1 w.2.2)) (va_A (va_pl z.1 f) sz)) 122 610 (va_A (va_pl z.1 f) sz) := by
  refine Met.ofW (cc := cX11_fillColumn) (maxL := 10) (ret := (some (.object "PageOne$Act"))) (by decide) rfl ?_
  intro p e s m args below meth c s₁ B hml hv
  obtain ⟨rfl, hsz, ⟨⟨hP, hK, hN⟩, hXN⟩, hD0⟩ := hv
  have hx := B.exec
  have hb := B.bytes
  have hr := B.returns
  have hts := atoms_spec (ws := wsX11_fillColumn) B.pre
  have hown : s.vm.findClass RX11 = some m.cls := findClass_of_methodNamed B.named
  have hlocks := B.notSynchronized
  subst hsz
  have hD := hD0.self (sz := s.heap.size)
  generalize hAe : va_A (va_pl z.1 f) s.heap.size = A at hD ⊢
  have hA : ∀ q : Nat, s.heap.size ≤ q → A q := fun q h => by rw [← hAe]; exact Or.inr h
  have hS : va_S A s.heap s.heap [] := va_S.rf
  have hl := lv_entry ([.ref h0, .int (nI P), .int (nI c9), .ref b9]) (n := 10) (Nat.le_of_ble_eq_true rfl)
  rw [lg_entry_eq]
  generalize (lg_sl ([.ref h0, .int (nI P), .int (nI c9), .ref b9]) ++ List.replicate (10 - (lg_sl ([.ref h0, .int (nI P), .int (nI c9), .ref b9])).length) Slot.unset).toArray = ls at hl ⊢
  have hl : lv_has ls 10 [(0, .ref h0), (1, .int (nI P)), (2, .int (nI c9)), (3, .ref b9)] := hl
  refine lv_aload_n hx hb dX11_fillColumn_0 rfl (lv_at hl 0 rfl) ?_
  obtain ⟨kk_1, hk_2⟩ := pl_at hI.2.1.1.1 hI.2.2.2.1.1
  refine va_get (D := (dC, dI)) (ci := 10) (v := .ref (d 0)) (C := RX11) (T := TX11) (N := 9) hx hb hts zl_X11_fillColumn_X11 hown hK hP kk_1 hk_2 rfl 0 (by decide) (hts (.fieldLink RX11 11 "PageOne" "pages" "[LPageOne$Sheet;") (zat q_wsX11_fillColumn k_wsX11_fillColumn 112 rfl (by decide +kernel))) (fun _ h9 => h9) rfl dX11_fillColumn_1 ?_
  refine lv_iload_n hx hb dX11_fillColumn_4 rfl (lv_at hl 1 rfl) ?_
  obtain ⟨g_3, hs_4, hg_5⟩ := x_pg hI hI.2.1.2.1
  obtain ⟨kk_6, hk_7⟩ := pl_at hI.2.1.2.1.1 hs_4
  refine va_aldq hx hb hK hP kk_6 2 hk_7 rfl (vp_in_nI hP9 (by decide)) dX11_fillColumn_5 ?_
  obtain ⟨b_8, hg_9, ht_10⟩ := hg_5 _ (vlt (vp_in_nI hP9 (by decide)))
  rw [hg_9]
  refine W.eq (g2 := F0 m 6 ls [.ref b_8]) rfl ?_
  have hb_11 := pg_at hrp.1 hs_4 hP9 (by rw [nI_clamp (by omega)] at hg_9; exact hg_9)
  subst hb_11
  obtain ⟨dd_12, ii_13, gl_14, gc_15, ht_16, ht_17, ht_18, hs_19, hg_20, hgb_21, hc_22, el_23, ec_24⟩ := pg_all hI hrp.1 hP9
  refine lv_astore (lv' := [(4, .ref (d (10 + P))), (0, .ref h0), (1, .int (nI P)), (2, .int (nI c9)), (3, .ref b9)]) hx hb dX11_fillColumn_6 hl (by decide) rfl (fun ls hl => ?_)
  refine lv_aload_n hx hb dX11_fillColumn_8 rfl (lv_at hl 4 rfl) ?_
  refine lv_astore (lv' := [(5, .ref b9), (4, .ref (d (10 + P))), (0, .ref h0), (1, .int (nI P)), (2, .int (nI c9)), (3, .ref b9)]) hx hb dX11_fillColumn_9 hl (by decide) rfl (fun ls hl => ?_)
  refine lv_iconst (v := 0) hx hb dX11_fillColumn_11 (by decide) ?_
  refine lv_istore (lv' := [(6, .int 0), (5, .ref b9), (4, .ref (d (10 + P))), (0, .ref h0), (1, .int (nI P)), (2, .int (nI c9)), (3, .ref b9)]) hx hb dX11_fillColumn_12 hl (by decide) rfl (fun ls hl => ?_)
  refine lv_iconst (v := 0) hx hb dX11_fillColumn_14 (by decide) ?_
  refine lv_istore (lv' := [(7, .int 0), (6, .int 0), (5, .ref b9), (4, .ref (d (10 + P))), (0, .ref h0), (1, .int (nI P)), (2, .int (nI c9)), (3, .ref b9)]) hx hb dX11_fillColumn_15 hl (by decide) rfl (fun ls hl => ?_)
  refine y_fc_l (cells := 0) (slots := 0) (z0 := z) (f0 := f) (u0 := u) (xs0 := xs) (P := P) (c9 := c9) (L9 := L9) hP9 hc8 eL hL60 hx hb hml hts hown hN hXN hK (Nat.le_of_ble_eq_true rfl) (Nat.le_of_ble_eq_true rfl) (Nat.le_of_ble_eq_true rfl) (Nat.le_of_ble_eq_true rfl) hA (fun z2 f2 H locs r u2 xs2 r9 ls hfN hrp2 hne2 hu2 hk0 hk1 hk2 hk3 hacF2 h3m hE2 hI hP hD hS hl => ?_) 62 0 z f _ _ (some b9) 0 u xs ls (Nat.zero_le _) (by decide) (Nat.le_refl _) rfl (fun b hb => absurd hb (Nat.not_lt_zero _)) hrp hne rfl hk0 hk1 hk2 hk3 hacF rfl (zE_rf z) hI hP hD hS (lv_sub hl [0, 1, 2, 3, 4, 5, 6] rfl)
  rcases r with _ | b8
  all_goals refine W.widen (k := 122) (n := 610) (Nat.le_of_ble_eq_true rfl) (Nat.le_of_ble_eq_true rfl) ?_
  ·
    have hl : lv_has ls 10 [(5, .null)] := hl
    refine lv_aloadN hx hb dX11_fillColumn_120 (lv_at hl 0 rfl) ?_
    exact W.aret (v := .null) hx hb hr (Or.inl ⟨_, rfl⟩) (Or.inl rfl) (fun t ht hW => ⟨⟨none, (k, z2, f2), rfl, ⟨u2, xs2, r9, hfN, rfl, hE2, hI, hrp2, hne2, hu2, ⟨hk0, hk1, hk2, hk3⟩, hacF2, h3m⟩, by rw [ht]; exact hP, hD⟩, hS.F ht⟩) hS.2.2 dX11_fillColumn_122
  ·
    have hl : lv_has ls 10 [(5, .ref b8)] := hl
    refine lv_aload hx hb dX11_fillColumn_120 (lv_at hl 0 rfl) ?_
    exact W.aret (v := .ref b8) hx hb hr (Or.inl ⟨_, rfl⟩) (Or.inr ⟨_, rfl⟩) (fun t ht hW => ⟨⟨(some b8), (k, z2, f2), rfl, ⟨u2, xs2, r9, hfN, rfl, hE2, hI, hrp2, hne2, hu2, ⟨hk0, hk1, hk2, hk3⟩, hacF2, h3m⟩, by rw [ht]; exact hP, hD⟩, hS.F ht⟩) hS.2.2 dX11_fillColumn_122
theorem acF_t {z : gS} {d : Nat → Nat} {b : Nat} {xs : List fX} (h : acF z d (some b) xs) : tg z b 23 := by
  cases xs with
  | nil => exact absurd h (fun e => by cases e)
  | cons x xs =>
    obtain ⟨a, pp, ah, e, h2, -⟩ := h
    obtain rfl := Option.some.inj e
    exact h2.1
set_option maxHeartbeats 4000000 in
set_option maxRecDepth 100000 in
theorem y_fill_l {p : Program} {l : Launch} {e : Env} {R : Room} {s : State} {m : MethodId} {args : Array Value} {below : List Frame} {meth : Method} {c : Code} {Q : State → Prop} {cells slots : Nat} {dC : Nat → ClassId} {dI : Nat → Nat → Nat} {q : Nat → ClassId} {h0 : Nat} {d : Nat → Nat} {k : Nat → Int32} {z0 : gS} {f0 : xF} {u0 : mS} {P : Nat} (hP9 : P < 12) {A : Nat → Prop} {H0 : Heap} (hx : p.tables.exec = Jvm.exec) (hb : c.code = cX11_fill) (hml : c.maxLocals = 4) (hts : ∀ w ∈ wsX11_fill, w.before args s = true) (hown : s.vm.findClass RX11 = some m.cls) (hN : NN s) (hXN : XN s) (hK : va_K (dC, dI) vwCl (xT q) s) (hRf : 6 ≤ R.frames) (hRl : 138 ≤ R.locals) (hRc : cells + 976 ≤ R.cells) (hRs : slots + 4880 ≤ R.slots) (hA : ∀ q : Nat, H0.size ≤ q → A q) (kx40 : ∀ (z : gS) (f : xF) (H : Heap) (locs : List Loc) (r : Option Nat) (u : mS) (xs : List fX) (ls : Array Slot), flN u0 P 8 = (u, xs) → rep q d u z f → neI u → k 0 = u.1 3 → k 1 = u.1 28 → k 2 = u.1 38 → k 3 = u.1 39 → acF z d r xs → f (d 3) = f0 (d 3) → zE z0 z → xI q h0 d k z f → va_P (dC, dI) vwCl (va_pl z.1 f) H → va_D A (va_pl z.1 f) → va_S A H0 H locs → lv_has ls 4 [(2, va_rf r), (0, .ref h0)] → W p l e R s m args below meth c H locs (cells + 976) (slots + 4880) Q (F0 m 40 ls [])) : ∀ (n i : Nat) (z : gS) (f : xF) (H : Heap) (locs : List Loc) (r : Option Nat) (u : mS) (xs : List fX) (ls : Array Slot), i ≤ 8 → 8 - i < n → flN u0 P i = (u, xs) → rep q d u z f → neI u → k 0 = u.1 3 → k 1 = u.1 28 → k 2 = u.1 38 → k 3 = u.1 39 → acF z d r xs → f (d 3) = f0 (d 3) → zE z0 z → xI q h0 d k z f → va_P (dC, dI) vwCl (va_pl z.1 f) H → va_D A (va_pl z.1 f) → va_S A H0 H locs → lv_has ls 4 [(3, .int (nI i)), (2, va_rf r), (0, .ref h0), (1, .int (nI P))] → W p l e R s m args below meth c H locs (cells + 122 * i) (slots + 610 * i) Q (F0 m 20 ls []) := by
  intro n
  induction n with
  | zero => intro i z f H locs r u xs ls h1 h2; exact absurd h2 (Nat.not_lt_zero _)
  | succ n ih =>
    intro i z f H locs r u xs ls hi hn hfl hrp hne hk0 hk1 hk2 hk3 hacF h3m hEz hI hP hD hS hl
    rcases r with _ | b9
    ·
      have hl : lv_has ls 4 [(3, .int (nI i)), (2, .null), (0, .ref h0), (1, .int (nI P))] := hl
      refine lv_iload_n hx hb dX11_fill_20 rfl (lv_at hl 0 rfl) ?_
      refine lv_bipush (v := 8) hx hb dX11_fill_21 (by decide) ?_
      refine lv_icmp_ge (tgt := 40) hx hb dX11_fill_23 (by decide) (fun c_1 => ?_) (fun c_1 => ?_)
      ·
        have hie : i = 8 := lp_eq rfl (by decide) hi c_1
        refine W.widen (k := cells + 976) (n := slots + 4880) (by omega) (by omega) ?_
        exact kx40 _ _ _ _ none u xs ls (by rw [← hie]; exact hfl) hrp hne hk0 hk1 hk2 hk3 hacF h3m hEz hI hP hD hS (lv_sub hl [1, 2] rfl)
      ·
        have hlt : i < 8 := lp_lt rfl (by decide) hi c_1
        refine lv_aload_n hx hb dX11_fill_26 rfl (lv_at hl 2 rfl) ?_
        refine lv_iload_n hx hb dX11_fill_27 rfl (lv_at hl 3 rfl) ?_
        refine lv_iload_n hx hb dX11_fill_28 rfl (lv_at hl 0 rfl) ?_
        refine lv_aload_nN hx hb dX11_fill_29 rfl (lv_at hl 1 rfl) ?_
        obtain ⟨L9, eL, hL60⟩ := ln_L hI hrp hP9 hlt
        obtain ⟨kk_2, hk_3⟩ := pl_at hI.2.1.1.1 hI.2.2.2.1.1
        have hFc := fr_all hD hS hA
        refine va_callq (va_runV (As := [.int (nI P), .int (nI i), .null]) (rest := []) ⟨hx, hb, hml, hown, hts⟩ (y_fillColN l dC dI q h0 d k z f hI P i L9 hP9 hlt u hrp hk0 hk1 hk2 hk3 eL hL60 hne xs hacF H.size) (cwV 3 hts gX11_fill_X11_fillColumn rfl rfl rfl zh_X11_fillColumn_108 ⟨Nat.le_trans (Nat.le_of_ble_eq_true rfl) hRf, Nat.le_trans (Nat.le_of_ble_eq_true rfl) hRl⟩) ⟨gx_fb, va_recv hK hP (ci := 10) (q0 := kk_2) rfl hk_3, fun U hU hW => ⟨rfl, by rw [hU], px_to hU hW hP hK hN hXN, hD.weaken (fun _ _ _ _ => trivial)⟩⟩ rfl rfl hl.1 rfl (lv_room (Nat.le_of_ble_eq_true rfl)) dX11_fill_30 ⟨by omega, by omega⟩) hS (fun q _ h => hFc q h) hFc (fun r w_4 t H1 locs ht hvm hw hB hz1 hk1 hS => ?_)
        obtain ⟨hP, hD1⟩ := hB
        rw [ht] at hP
        have hD := hD1.weaken (fun _ q _ h => hFc q.1 h)
        generalize H1 = H at hP hS ⊢
        refine W.widen (k := cells + 122 * i + 122) (n := slots + 610 * i + 610) (by omega) (by omega) ?_
        obtain ⟨u2, xs2, r9, hfN, hwk, hE2, hI, hrp2, hne2, hu2, ⟨hq0, hq1, hq2, hq3⟩, hacF2, h3n⟩ := hw
        generalize w_4.2.1 = z_6 at hE2 hI hrp2 hacF2 hP hD
        generalize w_4.2.2 = f_7 at hI hrp2 h3n hP hD
        have hEz := zE_tr hEz hE2
        rcases r with _ | b_5
        ·
          refine W.eq (g2 := F0 m 33 ls [.null]) rfl ?_
          refine lv_astore_nN (lv' := [(2, .null), (3, .int (nI i)), (0, .ref h0), (1, .int (nI P))]) hx hb dX11_fill_33 rfl hl (by decide) rfl (fun ls hl => ?_)
          refine lv_iinc (v := (nI (i + 1))) (lv' := [(3, .int (nI (i + 1))), (2, .null), (0, .ref h0), (1, .int (nI P))]) hx hb dX11_fill_34 hl (k := 1) rfl (nI_1 i) (by decide) rfl (fun ls hl => ?_)
          refine lv_goto (tgt := 20) hx hb dX11_fill_37 (by decide) ?_
          refine W.widen (k := cells + 122 * (i + 1)) (n := slots + 610 * (i + 1)) (by omega) (by omega) ?_
          exact ih (i + 1) _ _ _ _ none u2 xs2 ls (by omega) (by omega) (flN_s hfl hfN eL hL60) hrp2 hne2 hq0 hq1 hq2 hq3 hacF2 (h3n.trans h3m) hEz hI hP hD hS (lv_sub hl [0, 1, 2, 3] rfl)
        ·
          refine W.eq (g2 := F0 m 33 ls [.ref b_5]) rfl ?_
          refine lv_astore_n (lv' := [(2, .ref b_5), (3, .int (nI i)), (0, .ref h0), (1, .int (nI P))]) hx hb dX11_fill_33 rfl hl (by decide) rfl (fun ls hl => ?_)
          refine lv_iinc (v := (nI (i + 1))) (lv' := [(3, .int (nI (i + 1))), (2, .ref b_5), (0, .ref h0), (1, .int (nI P))]) hx hb dX11_fill_34 hl (k := 1) rfl (nI_1 i) (by decide) rfl (fun ls hl => ?_)
          refine lv_goto (tgt := 20) hx hb dX11_fill_37 (by decide) ?_
          refine W.widen (k := cells + 122 * (i + 1)) (n := slots + 610 * (i + 1)) (by omega) (by omega) ?_
          exact ih (i + 1) _ _ _ _ (some b_5) u2 xs2 ls (by omega) (by omega) (flN_s hfl hfN eL hL60) hrp2 hne2 hq0 hq1 hq2 hq3 hacF2 (h3n.trans h3m) hEz hI hP hD hS (lv_sub hl [0, 1, 2, 3] rfl)
    ·
      have hl : lv_has ls 4 [(3, .int (nI i)), (2, .ref b9), (0, .ref h0), (1, .int (nI P))] := hl
      refine lv_iload_n hx hb dX11_fill_20 rfl (lv_at hl 0 rfl) ?_
      refine lv_bipush (v := 8) hx hb dX11_fill_21 (by decide) ?_
      refine lv_icmp_ge (tgt := 40) hx hb dX11_fill_23 (by decide) (fun c_8 => ?_) (fun c_8 => ?_)
      ·
        have hie : i = 8 := lp_eq rfl (by decide) hi c_8
        refine W.widen (k := cells + 976) (n := slots + 4880) (by omega) (by omega) ?_
        exact kx40 _ _ _ _ (some b9) u xs ls (by rw [← hie]; exact hfl) hrp hne hk0 hk1 hk2 hk3 hacF h3m hEz hI hP hD hS (lv_sub hl [1, 2] rfl)
      ·
        have hlt : i < 8 := lp_lt rfl (by decide) hi c_8
        refine lv_aload_n hx hb dX11_fill_26 rfl (lv_at hl 2 rfl) ?_
        refine lv_iload_n hx hb dX11_fill_27 rfl (lv_at hl 3 rfl) ?_
        refine lv_iload_n hx hb dX11_fill_28 rfl (lv_at hl 0 rfl) ?_
        refine lv_aload_n hx hb dX11_fill_29 rfl (lv_at hl 1 rfl) ?_
        obtain ⟨L9, eL, hL60⟩ := ln_L hI hrp hP9 hlt
        obtain ⟨kk_9, hk_10⟩ := pl_at hI.2.1.1.1 hI.2.2.2.1.1
        have hFc := fr_all hD hS hA
        refine va_callq (va_runV (As := [.int (nI P), .int (nI i), .ref b9]) (rest := []) ⟨hx, hb, hml, hown, hts⟩ (y_fillColS l dC dI q h0 d k z f hI b9 (acF_t hacF) P i L9 hP9 hlt u hrp hk0 hk1 hk2 hk3 eL hL60 hne xs hacF H.size) (cwV 3 hts gX11_fill_X11_fillColumn rfl rfl rfl zh_X11_fillColumn_108 ⟨Nat.le_trans (Nat.le_of_ble_eq_true rfl) hRf, Nat.le_trans (Nat.le_of_ble_eq_true rfl) hRl⟩) ⟨gx_fb, va_recv hK hP (ci := 10) (q0 := kk_9) rfl hk_10, fun U hU hW => ⟨rfl, by rw [hU], px_to hU hW hP hK hN hXN, hD.weaken (fun _ _ _ _ => trivial)⟩⟩ rfl rfl hl.1 rfl (lv_room (Nat.le_of_ble_eq_true rfl)) dX11_fill_30 ⟨by omega, by omega⟩) hS (fun q _ h => hFc q h) hFc (fun r w_11 t H1 locs ht hvm hw hB hz1 hk1 hS => ?_)
        obtain ⟨hP, hD1⟩ := hB
        rw [ht] at hP
        have hD := hD1.weaken (fun _ q _ h => hFc q.1 h)
        generalize H1 = H at hP hS ⊢
        refine W.widen (k := cells + 122 * i + 122) (n := slots + 610 * i + 610) (by omega) (by omega) ?_
        obtain ⟨u2, xs2, r9, hfN, hwk, hE2, hI, hrp2, hne2, hu2, ⟨hq0, hq1, hq2, hq3⟩, hacF2, h3n⟩ := hw
        generalize w_11.2.1 = z_13 at hE2 hI hrp2 hacF2 hP hD
        generalize w_11.2.2 = f_14 at hI hrp2 h3n hP hD
        have hEz := zE_tr hEz hE2
        rcases r with _ | b_12
        ·
          refine W.eq (g2 := F0 m 33 ls [.null]) rfl ?_
          refine lv_astore_nN (lv' := [(2, .null), (3, .int (nI i)), (0, .ref h0), (1, .int (nI P))]) hx hb dX11_fill_33 rfl hl (by decide) rfl (fun ls hl => ?_)
          refine lv_iinc (v := (nI (i + 1))) (lv' := [(3, .int (nI (i + 1))), (2, .null), (0, .ref h0), (1, .int (nI P))]) hx hb dX11_fill_34 hl (k := 1) rfl (nI_1 i) (by decide) rfl (fun ls hl => ?_)
          refine lv_goto (tgt := 20) hx hb dX11_fill_37 (by decide) ?_
          refine W.widen (k := cells + 122 * (i + 1)) (n := slots + 610 * (i + 1)) (by omega) (by omega) ?_
          exact ih (i + 1) _ _ _ _ none u2 xs2 ls (by omega) (by omega) (flN_s hfl hfN eL hL60) hrp2 hne2 hq0 hq1 hq2 hq3 hacF2 (h3n.trans h3m) hEz hI hP hD hS (lv_sub hl [0, 1, 2, 3] rfl)
        ·
          refine W.eq (g2 := F0 m 33 ls [.ref b_12]) rfl ?_
          refine lv_astore_n (lv' := [(2, .ref b_12), (3, .int (nI i)), (0, .ref h0), (1, .int (nI P))]) hx hb dX11_fill_33 rfl hl (by decide) rfl (fun ls hl => ?_)
          refine lv_iinc (v := (nI (i + 1))) (lv' := [(3, .int (nI (i + 1))), (2, .ref b_12), (0, .ref h0), (1, .int (nI P))]) hx hb dX11_fill_34 hl (k := 1) rfl (nI_1 i) (by decide) rfl (fun ls hl => ?_)
          refine lv_goto (tgt := 20) hx hb dX11_fill_37 (by decide) ?_
          refine W.widen (k := cells + 122 * (i + 1)) (n := slots + 610 * (i + 1)) (by omega) (by omega) ?_
          exact ih (i + 1) _ _ _ _ (some b_12) u2 xs2 ls (by omega) (by omega) (flN_s hfl hfN eL hL60) hrp2 hne2 hq0 hq1 hq2 hq3 hacF2 (h3n.trans h3m) hEz hI hP hD hS (lv_sub hl [0, 1, 2, 3] rfl)
/-- what fill leaves -/
def flP (q : Nat → ClassId) (h0 : Nat) (d : Nat → Nat) (k : Nat → Int32) (z : gS) (f : xF) (u : mS) (p0 r : Int32) (w : xU) : Prop := ((¬ bw p0 0 11 = true ∨ u.1 28 = 300) ∧ r = (-1) ∧ w = (k, z, f)) ∨ (bw p0 0 11 = true ∧ ¬ u.1 28 = 300 ∧ ∃ u' xs, flN u p0.toNatClampNeg 8 = (u', xs) ∧ ((xs = [] ∧ actP q h0 d k z f ((0 : Int32), u') (fun _ => False) r w) ∨ (¬ xs = [] ∧ actP q h0 d k z f (nI xs.length, mActs u' 3 (nI xs.length) 0 0 0 0 0) (fun e => e = (3, 0, (0, 0, 0, 0, 0), xs)) r w)))
theorem fill_fin {q h0 d k u' z f z9 f9 k9} {a : Nat} {xs : List fX} {fc : xF} (hk1 : k 1 = u'.1 28) (hE : zE z z9) (hI9 : xI q h0 d k9 z9 f9) (hrp9 : rep q d u' z9 f9) (h3m : fc (d 3) = f (d 3)) (hkc : k9 = kup k 1 (k 1 + 1)) (hk3 : ∃ g, fc (d 3) = aR (q 4) 300 g ∧ f9 (d 3) = aR (q 4) 300 (va_up g (k 1).toNatClampNeg (some a))) (hac : acF z9 d (some a) xs) : actP q h0 d k z f (nI xs.length, mActs u' 3 (nI xs.length) 0 0 0 0 0) (fun e => e = (3, 0, (0, 0, 0, 0, 0), xs)) (nI xs.length) (k9, z9, f9) := by
  obtain ⟨g, g1, g2⟩ := hk3
  refine ⟨hE, hI9, rfl, rep_rows hrp9 rfl (fun r hr => mActs_k _ _ _ _ _ _ _ _ (by omega)), fun j hj => by rw [hkc]; exact kup_o hj, ?_, Or.inr ⟨g, a, _, by rw [← h3m]; exact g1, g2, by show k9 1 = _; rw [hkc, kup_s], ?_, rfl⟩⟩
  · show k9 1 = u'.1 28 + 1
    rw [hkc, kup_s, hk1]
  · exact Or.inr (Or.inr (Or.inr ⟨rfl, hac⟩))
set_option maxHeartbeats 4000000 in
set_option maxRecDepth 100000 in
theorem y_fill (l : Launch) (dC : Nat → ClassId) (dI : Nat → Nat → Nat) (q : Nat → ClassId) (h0 : Nat) (d : Nat → Nat) (k : Nat → Int32) (z : gS) (f : xF) (hI : xI q h0 d k z f) (p0 : Int32) (u : mS) (hrp : rep q d u z f) (hk0 : k 0 = u.1 3) (hk1 : k 1 = u.1 28) (hk2 : k 2 = u.1 38) (hk3 : k 3 = u.1 39) (hz0 : (z.2 h0).2.1 = 0) (hne : neI u) (sz : Nat) : Met l yX11_fill wsX11_fill ({ frames := 6, cells := 976, slots := 4880, locals := 138 }) (va_Pc [.ref h0, .int p0] (fun U => U.heap.size = sz ∧ PX dC dI (va_pl z.1 f) (xT q) U ∧ va_D (fun _ => True) (va_pl z.1 f))) (va_Qi (fun (r : Int32) (w : xU) => flP q h0 d k z f u p0 r w) (fun (w : xU) t => va_P (dC, dI) vwCl (va_pl w.2.1.1 w.2.2) t.heap ∧ va_D (va_A (va_pl z.1 f) sz) (va_pl w.2.1.1 w.2.2)) (va_A (va_pl z.1 f) sz)) 976 4880 (va_A (va_pl z.1 f) sz) := by
  refine Met.ofW (cc := cX11_fill) (maxL := 4) (ret := (some .int)) (by decide) rfl ?_
  intro p e s m args below meth c s₁ B hml hv
  obtain ⟨rfl, hsz, ⟨⟨hP, hK, hN⟩, hXN⟩, hD0⟩ := hv
  have hx := B.exec
  have hb := B.bytes
  have hr := B.returns
  have hts := atoms_spec (ws := wsX11_fill) B.pre
  have hown : s.vm.findClass RX11 = some m.cls := findClass_of_methodNamed B.named
  have hlocks := B.notSynchronized
  subst hsz
  have hD := hD0.self (sz := s.heap.size)
  generalize hAe : va_A (va_pl z.1 f) s.heap.size = A at hD ⊢
  have hA : ∀ q : Nat, s.heap.size ≤ q → A q := fun q h => by rw [← hAe]; exact Or.inr h
  have hS : va_S A s.heap s.heap [] := va_S.rf
  have hl := lv_entry ([.ref h0, .int p0]) (n := 4) (Nat.le_of_ble_eq_true rfl)
  rw [lg_entry_eq]
  generalize (lg_sl ([.ref h0, .int p0]) ++ List.replicate (4 - (lg_sl ([.ref h0, .int p0])).length) Slot.unset).toArray = ls at hl ⊢
  have hl : lv_has ls 4 [(0, .ref h0), (1, .int p0)] := hl
  have hIo := hI
  have hk1o := hk1
  refine lv_iload_n hx hb dX11_fill_0 rfl (lv_at hl 1 rfl) ?_
  refine vp_callSi (va_runS (As := [.int p0]) (rest := []) ⟨hx, hb, hml, hown, hts⟩ (x_isPage l dC dI p0) (va_cwS 1 hts gX11_fill_X11_isPage rfl rfl rfl zh_X11_isPage_44 ⟨Nat.le_of_ble_eq_true rfl, Nat.le_of_ble_eq_true rfl⟩) ⟨pw_fb, fun U hU hW => ⟨rfl, pw_to hU hW (hP.sub (ws' := []) [] rfl) (hK.sub (tys' := []) [] rfl) hN⟩⟩ rfl rfl hl.1 rfl (lv_room (Nat.le_of_ble_eq_true rfl)) dX11_fill_1 ⟨Nat.le_of_ble_eq_true rfl, Nat.le_of_ble_eq_true rfl⟩).run (fun r hw => ?_)
  rcases Bool.eq_false_or_eq_true (bw p0 0 11) with b_1 | b_1
  ·
    obtain rfl : r = 1 := b_t hw b_1
    refine lv_if_eq (tgt := 14) hx hb dX11_fill_4 (by decide) (fun c_2 => absurd c_2 (by decide)) (fun c_2 => ?_)
    refine lv_aload_n hx hb dX11_fill_7 rfl (lv_at hl 0 rfl) ?_
    obtain ⟨kk_3, hk_4⟩ := pl_at hI.2.1.1.1 hI.2.2.2.1.1
    refine vp_callSi (va_runV (As := []) (rest := []) ⟨hx, hb, hml, hown, hts⟩ (y_canAct l dC dI q h0 d k z f hI) (cwV 0 hts gX11_fill_X11_canAct rfl rfl rfl zh_X11_canAct_60 ⟨Nat.le_of_ble_eq_true rfl, Nat.le_of_ble_eq_true rfl⟩) ⟨px_fb, va_recv hK hP (ci := 10) (q0 := kk_3) rfl hk_4, fun U hU hW => ⟨rfl, px_to hU hW hP hK hN hXN⟩⟩ rfl rfl hl.1 rfl (lv_room (Nat.le_of_ble_eq_true rfl)) dX11_fill_8 ⟨Nat.le_of_ble_eq_true rfl, Nat.le_of_ble_eq_true rfl⟩).run (fun r hw => ?_)
    rcases hw with ⟨hw, hca_5⟩ | ⟨hw, hca_5⟩
    ·
      subst hw
      refine lv_if_ne (tgt := 16) hx hb dX11_fill_11 (by decide) (fun c_6 => absurd (by decide) c_6) (fun c_6 => ?_)
      refine lv_iconst (v := (-1)) hx hb dX11_fill_14 (by decide) ?_
      refine W.widen (k := 976) (n := 4880) (Nat.le_of_ble_eq_true rfl) (Nat.le_of_ble_eq_true rfl) ?_
      exact W.iret (v := (-1)) hx hb hr (fun t ht hW => ⟨⟨(-1), (k, z, f), rfl, (Or.inl ⟨Or.inr (by rw [← hk1o]; exact (n300 hIo.1.2.1).1 hca_5), rfl, rfl⟩), by rw [ht]; exact hP, hD⟩, hS.F ht⟩) hS.2.2 dX11_fill_15
    ·
      subst hw
      refine lv_if_ne (tgt := 16) hx hb dX11_fill_11 (by decide) (fun c_7 => ?_) (fun c_7 => absurd c_7 (by decide))
      refine lv_null hx hb dX11_fill_16 ?_
      refine lv_astore_nN (lv' := [(2, .null), (0, .ref h0), (1, .int p0)]) hx hb dX11_fill_17 rfl hl (by decide) rfl (fun ls hl => ?_)
      refine lv_iconst (v := 0) hx hb dX11_fill_18 (by decide) ?_
      refine lv_istore_n (lv' := [(3, .int 0), (2, .null), (0, .ref h0), (1, .int p0)]) hx hb dX11_fill_19 rfl hl (by decide) rfl (fun ls hl => ?_)
      obtain ⟨P, eP⟩ : ∃ y, y = p0.toNatClampNeg := ⟨_, rfl⟩
      have eP1 : p0 = nI P := by rw [eP]; exact (nI_of_bw b_1).1
      have hP9 : P < 12 := by rw [eP]; exact clp b_1
      rw [eP1] at hl
      refine y_fill_l (cells := 0) (slots := 0) (z0 := z) (f0 := f) (u0 := u) (P := P) hP9 hx hb hml hts hown hN hXN hK (Nat.le_of_ble_eq_true rfl) (Nat.le_of_ble_eq_true rfl) (Nat.le_of_ble_eq_true rfl) (Nat.le_of_ble_eq_true rfl) hA (fun z2 f2 H locs r u2 xs2 ls hfl hrp2 hne2 hq0 hq1 hq2 hq3 hacF2 h3m hE2 hI hP hD hS hl => ?_) 9 0 z f _ _ none u [] ls (by decide) (by decide) rfl hrp hne hk0 hk1 hk2 hk3 rfl rfl (zE_rf z) hI hP hD hS (lv_sub hl [0, 1, 2, 3] rfl)
      rcases r with _ | b8
      all_goals refine W.widen (k := 976) (n := 4880) (Nat.le_of_ble_eq_true rfl) (Nat.le_of_ble_eq_true rfl) ?_
      ·
        have hl : lv_has ls 4 [(2, .null), (0, .ref h0)] := hl
        have hEz := hE2
        refine lv_aload_nN hx hb dX11_fill_40 rfl (lv_at hl 0 rfl) ?_
        refine lv_ifnonnullN hx hb dX11_fill_41 ?_
        refine lv_iconst (v := 0) hx hb dX11_fill_44 (by decide) ?_
        exact W.iret (v := 0) hx hb hr (fun t ht hW => ⟨⟨0, (k, z2, f2), rfl, (Or.inr ⟨b_1, (by rw [← hk1o]; exact (n300 hIo.1.2.1).2 hca_5), u2, xs2, by rw [← eP]; exact hfl, Or.inl ⟨by cases xs2 with | nil => rfl | cons x xs => (obtain ⟨a, pp, ah, e9, -⟩ := hacF2; cases e9), hE2, hI, rfl, hrp2, fun _ _ => rfl, hq1, Or.inl ⟨h3m, rfl⟩⟩⟩), by rw [ht]; exact hP, hD⟩, hS.F ht⟩) hS.2.2 dX11_fill_45
      ·
        have hl : lv_has ls 4 [(2, .ref b8), (0, .ref h0)] := hl
        have hEz := hE2
        rcases xs2 with _ | ⟨x9, xs9⟩
        · exact absurd hacF2 (fun h => by cases h)
        ·
          have hacS := hacF2
          obtain ⟨b7, pp9, ah9, eb8, hac9, hpc9, hac8⟩ := hacS
          obtain rfl := Option.some.inj eb8
          have ht8 := hac9.1
          refine lv_aload_n hx hb dX11_fill_40 rfl (lv_at hl 0 rfl) ?_
          refine lv_ifnonnull (tgt := 46) hx hb dX11_fill_41 (by decide) ?_
          refine lv_aload_n hx hb dX11_fill_46 rfl (lv_at hl 1 rfl) ?_
          refine lv_aload_n hx hb dX11_fill_47 rfl (lv_at hl 0 rfl) ?_
          have hIb := hI
          have hcx : ¬ 300 ≤ k 1 := hca_5
          obtain ⟨kk_8, hk_9⟩ := pl_at hI.2.1.1.1 hI.2.2.2.1.1
          have hFc := fr_all hD hS hA
          refine va_callv (va_runV (As := [.ref b8]) (rest := []) ⟨hx, hb, hml, hown, hts⟩ (y_keep l dC dI q h0 d k z2 f2 hI b8 ht8 hcx H.size) (cwV 1 hts gX11_fill_X11_keep rfl rfl rfl zh_X11_keep_79 ⟨Nat.le_of_ble_eq_true rfl, Nat.le_of_ble_eq_true rfl⟩) ⟨gx_fb, va_recv hK hP (ci := 10) (q0 := kk_8) rfl hk_9, fun U hU hW => ⟨rfl, by rw [hU], px_to hU hW hP hK hN hXN, hD.weaken (fun _ _ _ _ => trivial)⟩⟩ rfl rfl hl.1 rfl (lv_room (Nat.le_of_ble_eq_true rfl)) dX11_fill_48 ⟨Nat.le_of_ble_eq_true rfl, Nat.le_of_ble_eq_true rfl⟩) hS (fun q _ h => hFc q h) hFc (fun w_10 t H1 locs ht hvm hw hB hz1 hk1 hS => ?_)
          obtain ⟨hP, hD1⟩ := hB
          rw [ht] at hP
          rw [hw.1] at hP hD1
          have hD := hD1.weaken (fun _ q _ h => hFc q.1 h)
          have hI := hw.2.1
          have hw0 := hw
          generalize w_10.1 = k_12 at hI hw0
          generalize w_10.2.2 = f_11 at hP hD hI hw0
          generalize H1 = H at hP hS ⊢
          have hkp := hw0.2.2
          have hrp_13 : rep q d u2 z2 f_11 := rep_kp hrp2 hIb (by rw [zE_o hEz hIo.2.1.1.1]; exact hz0) hkp
          refine lv_aload_n hx hb dX11_fill_51 rfl (lv_at hl 0 rfl) ?_
          have hs_14 := ac_eq hI hac9
          obtain ⟨kk_15, hk_16⟩ := pl_at hac9.1.1 hs_14
          refine va_get (D := (dC, dI)) (ci := 0) (v := .int (nI (xs9.length + 1))) (C := RX0) (T := TX0) (N := 4) hx hb hts zl_X11_fill_X0 hown hK hP kk_15 hk_16 rfl 3 (by decide) (hts (.fieldLink RX11 184 "PageOne$Act" "parts" "I") (zat q_wsX11_fill k_wsX11_fill 610 rfl (by decide +kernel))) (fun _ h9 => h9) rfl dX11_fill_52 ?_
          exact W.iret (v := (nI (xs9.length + 1))) hx hb hr (fun t ht hW => ⟨⟨(nI (xs9.length + 1)), (k_12, z2, f_11), rfl, (Or.inr ⟨b_1, (by rw [← hk1o]; exact (n300 hIo.1.2.1).2 hca_5), u2, x9 :: xs9, by rw [← eP]; exact hfl, Or.inr ⟨(fun e => by cases e), fill_fin hq1 hEz hI hrp_13 h3m hkp.1 (kp_3 hrp2 hIb hkp) hacF2⟩⟩), by rw [ht]; exact hP, hD⟩, hS.F ht⟩) hS.2.2 dX11_fill_55
  ·
    obtain rfl : r = 0 := b_f hw b_1
    refine lv_if_eq (tgt := 14) hx hb dX11_fill_4 (by decide) (fun c_17 => ?_) (fun c_17 => absurd (by decide) c_17)
    refine lv_iconst (v := (-1)) hx hb dX11_fill_14 (by decide) ?_
    refine W.widen (k := 976) (n := 4880) (Nat.le_of_ble_eq_true rfl) (Nat.le_of_ble_eq_true rfl) ?_
    exact W.iret (v := (-1)) hx hb hr (fun t ht hW => ⟨⟨(-1), (k, z, f), rfl, (Or.inl ⟨Or.inl (bne b_1), rfl, rfl⟩), by rw [ht]; exact hP, hD⟩, hS.F ht⟩) hS.2.2 dX11_fill_15
/-- first printing: a fact written keeps rep -/
theorem rep_first {q d u z f} {i t : Nat} {g : Nat → Int32} (h : rep q d u z f) (hn : bw (u.1 3) 0 80 = true) (hi : i < (u.1 3).toNatClampNeg) (ht : t < 5) (x : Int32) (hg : f (d (4000 + i)) = aI (q 0) 5 g) : rep q d (mst u 47 (nI (5 * i + t)) x) z (va_up f (d (4000 + i)) (aI (q 0) 5 (upd g t x))) := by
  have hi8 := (bw_it hn hi).2
  have hN := w80 hn
  have eA : (nI (5 * i + t)).toNatClampNeg = 5 * i + t := nI_clamp (by omega)
  obtain ⟨n1, n2, n3, hkd, rs, g9, fg, hsl, hps, hpcs, hfs, hfe, hrs⟩ := h.2.2.1.2 i hi
  obtain rfl := (aI_inj (hg.symm.trans hfs)).2
  generalize hw9 : mst u 47 (nI (5 * i + t)) x = w
  have w2 : ∀ r, r ≠ 47 → w.2 r = u.2 r := fun r r1 => by rw [← hw9, mst_other r1]
  have w47 : ∀ j, w.2 47 j = if j = 5 * i + t then x else u.2 47 j := fun j => by rw [← hw9, mst_at, eA]
  have w1 : w.1 = u.1 := by rw [← hw9]; rfl
  have hf : fK d z f (va_up f (d (4000 + i)) (aI (q 0) 5 (upd g t x))) (fun x => x = 4000 + i) := fK_up (fK_rf d z f _) n3 (by decide) rfl
  refine rep_it (i := i) h hf (fun x hx => by omega) hi8 hN (fun j hj hji => ?_) w1 (fun r hr => w2 r (by omega)) ?_
  · exact ⟨fun r r1 r2 _ _ _ _ _ => by rw [w2 r (by omega)], fun r r1 r2 t _ => by rw [w2 r (by omega)], fun t2 ht2 => by rw [w47, if_neg (by omega)], fun t _ => by rw [w2 16 (by omega)], fun t ht => by rw [w2 18 (by omega), w2 19 (by omega)]; exact ⟨rfl, rfl⟩, fun t _ => by rw [w2 21 (by omega)], fun t _ => by rw [w2 48 (by omega)]⟩
  · refine ⟨by rw [w2 4 (by omega)]; exact n1, n2, n3, by rw [w2 4 (by omega)]; exact hkd, rs, g9, _, ?_, ?_, ?_, up_s, ?_, ?_⟩
    · rw [hf.1 _ _ n1 (by omega), w2 4 (by omega), w2 22 (by omega)]; exact hsl
    · rw [hf.2 i n2 (by omega), w2 4 (by omega)]; exact hps
    · intro t2 ht2
      rw [w2 22 (by omega)] at ht2
      obtain ⟨b, b1, b2⟩ := hpcs t2 ht2
      refine ⟨b, b1, ?_⟩
      have hp : ∀ c, c < 5 → pR w i t2 c = pR u i t2 c := fun c hc => by show w.2 (23 + c) _ = u.2 (23 + c) _; rw [w2 (23 + c) (by omega)]
      rw [hp 0 (by omega), hp 1 (by omega), hp 2 (by omega), hp 3 (by omega), hp 4 (by omega)]
      exact b2
    · intro j hj
      rw [w47]
      unfold upd
      by_cases e : j = t
      · rw [if_pos e, if_pos (by omega)]
      · rw [if_neg e, if_neg (by omega)]; exact hfe j hj
    · obtain ⟨k0, k1, k2, k3, k4, k5⟩ := hrs
      unfold rRs
      rw [w2 4 (by omega), w2 5 (by omega), w2 6 (by omega), w2 7 (by omega), w2 8 (by omega), w2 9 (by omega), w2 10 (by omega), w2 11 (by omega), w2 12 (by omega), w2 13 (by omega), w2 14 (by omega), w2 15 (by omega), w2 16 (by omega), w2 17 (by omega), w2 18 (by omega), w2 19 (by omega), w2 21 (by omega), w2 48 (by omega), w1]
      refine ⟨fun e => ?_, k1, fun e => ?_, fun e => ?_, k4, k5⟩
      · obtain ⟨a1, a2, a3, ⟨g1, a4, a5⟩, g3, a6, a7⟩ := k0 e
        exact ⟨a1, a2, a3, ⟨g1, by rw [hf.1 _ _ a2 (by omega)]; exact a4, a5⟩, g3, by rw [hf.1 _ _ a3 (by omega)]; exact a6, a7⟩
      · obtain ⟨a1, a2, a3, ⟨g1, a4, a5⟩, g3, a6, a7⟩ := k2 e
        exact ⟨a1, a2, a3, ⟨g1, by rw [hf.1 _ _ a2 (by omega)]; exact a4, a5⟩, g3, by rw [hf.1 _ _ a3 (by omega)]; exact a6, a7⟩
      · obtain ⟨a1, a2, a3, g1, a4, a5⟩ := k3 e
        exact ⟨a1, a2, a3, g1, by rw [hf.1 _ _ a3 (by omega)]; exact a4, a5⟩
/-- a day on which item i was printed: written where it is a square, else nowhere -/
theorem rep_day {q d u z f f2} {i t : Nat} (h : rep q d u z f) (hn : bw (u.1 3) 0 80 = true) (hi : i < (u.1 3).toNatClampNeg) (ht : t < 400) (hf2 : (¬ u.2 4 i = 3 ∧ f2 = f) ∨ (u.2 4 i = 3 ∧ ∃ g, f (d (6000 + i)) = aI (q 1) 400 g ∧ f2 = va_up f (d (6000 + i)) (aI (q 1) 400 (upd g t (vp_nar .boolean 1))))) : rep q d (mst u 48 (nI (80 * t + i)) (vp_nar .boolean 1)) z f2 := by
  have hi8 := (bw_it hn hi).2
  have hN := w80 hn
  have eA : (nI (80 * t + i)).toNatClampNeg = 80 * t + i := nI_clamp (by omega)
  obtain ⟨n1, n2, n3, hkd, rs, g9, fg, hsl, hps, hpcs, hfs, hfe, hrs⟩ := h.2.2.1.2 i hi
  generalize hw9 : mst u 48 (nI (80 * t + i)) (vp_nar .boolean 1) = w
  have w2 : ∀ r, r ≠ 48 → w.2 r = u.2 r := fun r r1 => by rw [← hw9, mst_other r1]
  have w48 : ∀ j, w.2 48 j = if j = 80 * t + i then vp_nar .boolean 1 else u.2 48 j := fun j => by rw [← hw9, mst_at, eA]
  have w1 : w.1 = u.1 := by rw [← hw9]; rfl
  have hf : fK d z f f2 (fun x => x = 6000 + i) := by
    rcases hf2 with ⟨-, rfl⟩ | ⟨e, g, -, rfl⟩
    · exact fK_rf d z _ _
    · exact fK_up (fK_rf d z f _) (hrs.2.2.2.1 e).2.2.1 (by decide) rfl
  refine rep_it (i := i) h hf (fun x hx => by omega) hi8 hN (fun j hj hji => ?_) w1 (fun r hr => w2 r (by omega)) ?_
  · exact ⟨fun r r1 r2 _ _ _ _ _ => by rw [w2 r (by omega)], fun r r1 r2 t _ => by rw [w2 r (by omega)], fun t2 ht2 => by rw [w2 47 (by omega)], fun t _ => by rw [w2 16 (by omega)], fun t ht => by rw [w2 18 (by omega), w2 19 (by omega)]; exact ⟨rfl, rfl⟩, fun t _ => by rw [w2 21 (by omega)], fun t2 _ => by rw [w48, if_neg (by omega)]⟩
  · refine ⟨by rw [w2 4 (by omega)]; exact n1, n2, n3, by rw [w2 4 (by omega)]; exact hkd, rs, g9, fg, ?_, ?_, ?_, ?_, ?_, ?_⟩
    · rw [hf.1 _ _ n1 (by omega), w2 4 (by omega), w2 22 (by omega)]; exact hsl
    · rw [hf.2 i n2 (by omega), w2 4 (by omega)]; exact hps
    · intro t2 ht2
      rw [w2 22 (by omega)] at ht2
      obtain ⟨b, b1, b2⟩ := hpcs t2 ht2
      refine ⟨b, b1, ?_⟩
      have hp : ∀ c, c < 5 → pR w i t2 c = pR u i t2 c := fun c hc => by show w.2 (23 + c) _ = u.2 (23 + c) _; rw [w2 (23 + c) (by omega)]
      rw [hp 0 (by omega), hp 1 (by omega), hp 2 (by omega), hp 3 (by omega), hp 4 (by omega)]
      exact b2
    · rw [hf.1 _ _ n3 (by omega)]; exact hfs
    · rw [w2 47 (by omega)]; exact hfe
    · obtain ⟨k0, k1, k2, k3, k4, k5⟩ := hrs
      unfold rRs
      rw [w2 4 (by omega), w2 5 (by omega), w2 6 (by omega), w2 7 (by omega), w2 8 (by omega), w2 9 (by omega), w2 10 (by omega), w2 11 (by omega), w2 12 (by omega), w2 13 (by omega), w2 14 (by omega), w2 15 (by omega), w2 16 (by omega), w2 17 (by omega), w2 18 (by omega), w2 19 (by omega), w2 21 (by omega), w1]
      have up : ¬ u.2 4 i = 3 → f2 = f := fun e => by
        rcases hf2 with ⟨-, q⟩ | ⟨e2, -⟩
        · exact q
        · exact absurd e2 e
      refine ⟨fun e => ?_, k1, fun e => ?_, fun e => ?_, k4, k5⟩
      · rw [up (by rw [e]; decide)]; exact k0 e
      · rw [up (by rw [e]; decide)]; exact k2 e
      · obtain ⟨a1, a2, a3, g1, a4, a5⟩ := k3 e
        rcases hf2 with ⟨e2, -⟩ | ⟨-, g, hg, rfl⟩
        · exact absurd e e2
        · obtain rfl := (aI_inj (hg.symm.trans a4)).2
          refine ⟨a1, a2, a3, _, up_s, fun j hj => ?_⟩
          rw [w48]
          unfold upd
          by_cases e9 : j = t
          · rw [if_pos e9, if_pos (by omega)]
          · rw [if_neg e9, if_neg (by omega)]; exact a5 j hj
/-- the five facts, one after the other -/
def wdF (u : mS) (i : Nat) (p s : Int32) : Nat → mS
  | 0 => u
  | t + 1 => mst (wdF u i p s t) 47 (nI (5 * i + t)) (mPF u p s (nI t))
def wdU (u : mS) (i : Nat) (p s : Int32) : mS := mst (if u.2 47 (5 * i) = (-1) then wdF u i p s 5 else u) 48 (nI (80 * (u.1 38).toNatClampNeg + i)) (vp_nar .boolean 1)
theorem wdF_1 (u : mS) (i : Nat) (p s : Int32) : ∀ t, (wdF u i p s t).1 = u.1
  | 0 => rfl
  | t + 1 => wdF_1 u i p s t
theorem wdF_k (u : mS) (i : Nat) (p s : Int32) {r : Nat} (hr : r ≠ 47) : ∀ t, (wdF u i p s t).2 r = u.2 r
  | 0 => rfl
  | t + 1 => by
    show (mst (wdF u i p s t) 47 _ _).2 r = _
    rw [mst_other hr]; exact wdF_k u i p s hr t
theorem mPF_wd (u : mS) (i : Nat) (p s p2 s2 w : Int32) (t : Nat) : mPF (wdF u i p s t) p2 s2 w = mPF u p2 s2 w := by
  unfold mPF
  rw [wdF_k u i p s (by decide) t, wdF_k u i p s (by decide) t]
