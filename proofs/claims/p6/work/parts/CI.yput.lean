set_option maxHeartbeats 4000000 in
set_option maxRecDepth 100000 in
theorem y_cols1 (l : Launch) (dC : Nat → ClassId) (dI : Nat → Nat → Nat) (q : Nat → ClassId) (h0 : Nat) (d : Nat → Nat) (k : Nat → Int32) (z : gS) (f : xF) (hI : xI q h0 d k z f) (a0 : Nat) (p0 : Int32) (ha0 : itm z a0) : Met l yX4_columnsBy wsX4_columnsBy ({ frames := 0, cells := 0, slots := 0, locals := 0 }) (va_Pc [.ref a0, .int p0] (PX dC dI (va_pl z.1 f) (xT q))) (vp_Si (fun r => r = 1)) 0 0 (fun _ => False) := by
  refine Met.ofW (cc := cX4_columnsBy) (maxL := 2) (ret := (some .int)) (by decide) rfl ?_
  intro p e s m args below meth c s₁ B hml hv
  obtain ⟨rfl, ⟨hP, hK, hN⟩, hXN⟩ := hv
  have hx := B.exec
  have hb := B.bytes
  have hr := B.returns
  have hts := atoms_spec (ws := wsX4_columnsBy) B.pre
  have hown : s.vm.findClass RX4 = some m.cls := findClass_of_methodNamed B.named
  have hlocks := B.notSynchronized
  have hl := lv_entry ([.ref a0, .int p0]) (n := 2) (Nat.le_of_ble_eq_true rfl)
  rw [lg_entry_eq]
  generalize (lg_sl ([.ref a0, .int p0]) ++ List.replicate (2 - (lg_sl ([.ref a0, .int p0])).length) Slot.unset).toArray = ls at hl ⊢
  have hl : lv_has ls 2 [(0, .ref a0), (1, .int p0)] := hl
  refine lv_iconst (v := 1) hx hb dX4_columnsBy_0 (by decide) ?_
  exact W.iret (v := 1) hx hb hr (fun t ht hW => ⟨_, rfl, rfl, ht⟩) (fun q h => absurd h List.not_mem_nil) dX4_columnsBy_1
set_option maxHeartbeats 4000000 in
set_option maxRecDepth 100000 in
theorem y_sit1 (l : Launch) (dC : Nat → ClassId) (dI : Nat → Nat → Nat) (q : Nat → ClassId) (h0 : Nat) (d : Nat → Nat) (k : Nat → Int32) (z : gS) (f : xF) (hI : xI q h0 d k z f) (a0 b0 : Nat) (p0 p1 : Int32) (ha0 : itm z a0) : Met l yX4_maySit wsX4_maySit ({ frames := 0, cells := 0, slots := 0, locals := 0 }) (va_Pc [.ref a0, .ref b0, .int p0, .int p1] (PX dC dI (va_pl z.1 f) (xT q))) (vp_Si (fun r => r = 1)) 0 0 (fun _ => False) := by
  refine Met.ofW (cc := cX4_maySit) (maxL := 4) (ret := (some .boolean)) (by decide) rfl ?_
  intro p e s m args below meth c s₁ B hml hv
  obtain ⟨rfl, ⟨hP, hK, hN⟩, hXN⟩ := hv
  have hx := B.exec
  have hb := B.bytes
  have hr := B.returns
  have hts := atoms_spec (ws := wsX4_maySit) B.pre
  have hown : s.vm.findClass RX4 = some m.cls := findClass_of_methodNamed B.named
  have hlocks := B.notSynchronized
  have hl := lv_entry ([.ref a0, .ref b0, .int p0, .int p1]) (n := 4) (Nat.le_of_ble_eq_true rfl)
  rw [lg_entry_eq]
  generalize (lg_sl ([.ref a0, .ref b0, .int p0, .int p1]) ++ List.replicate (4 - (lg_sl ([.ref a0, .ref b0, .int p0, .int p1])).length) Slot.unset).toArray = ls at hl ⊢
  have hl : lv_has ls 4 [(0, .ref a0), (1, .ref b0), (2, .int p0), (3, .int p1)] := hl
  refine lv_iconst (v := 1) hx hb dX4_maySit_0 (by decide) ?_
  exact W.zret (v := 1) hx hb hr (by decide) (fun t ht hW => ⟨_, rfl, rfl, ht⟩) (fun q h => absurd h List.not_mem_nil) dX4_maySit_1
theorem fr_iff2 {gl gc : Nat → Int32} {u : mS} {p c l w h : Int32} (b : bw p 0 11 = true) (el : eqR 8 gl (u.2 0) (8 * p.toNatClampNeg)) (ec : eqR 480 gc (u.2 2) (480 * p.toNatClampNeg)) (hgb : ∀ j, j < 8 → bw (gl j) 0 60 = true) : shFr gl gc c l w h ↔ mFreeP u p c l w h := by
  have h9 := fr_iff (c := c) (l := l) (w := w) (h := h) (clp b) el ec hgb
  rw [← (nI_of_bw b).1] at h9
  exact h9
theorem ltN {c : Int32} {n m : Nat} (h6 : n ≤ 6) (h : bw c 0 (nI n) = true) (e : n = m) (hc : c < nI n) : c.toNatClampNeg < m := by
  obtain ⟨e1, e2⟩ := cnN h6 h
  rw [i32_lt, e1, nI_toInt (by omega), nI_toInt (by omega)] at hc
  omega
theorem noN {c : Int32} {n m : Nat} (h6 : n ≤ 6) (h : bw c 0 (nI n) = true) (e : n = m) (hc : ¬ c < nI n) : ¬ c.toNatClampNeg < m := fun q => hc (hrmL h6 h e q)
theorem i47 {g r : Nat → Int32} {o : Nat} {x s : Int32} (h : eqR 4 g r o) (hx : bw x 0 (s - 1) = true) (hs : bw s 0 4 = true) : g x.toNatClampNeg = r (o + x.toNatClampNeg) := h _ (by
  have h4 : (4 : Int32).toInt = 4 := rfl
  have a := bw_iff.mp hs
  rw [i0, h4] at a
  have b := bw_iff.mp hx
  rw [i0, subI (by rw [i1]; omega) (by rw [i1]; omega), i1] at b
  obtain ⟨c1, c2, c3⟩ := nI_of_bw hx
  omega)
set_option maxHeartbeats 4000000 in
set_option maxRecDepth 100000 in
theorem y_put (l : Launch) (dC : Nat → ClassId) (dI : Nat → Nat → Nat) (q : Nat → ClassId) (h0 : Nat) (d : Nat → Nat) (k : Nat → Int32) (z : gS) (f : xF) (hI : xI q h0 d k z f) (p0 p1 p2 p3 p4 : Int32) (u : mS) (hrp : rep q d u z f) (hk0 : k 0 = u.1 3) (hk1 : k 1 = u.1 28) (hk2 : k 2 = u.1 38) (hk3 : k 3 = u.1 39) (hu : rI u) (hz0 : (z.2 h0).2.1 = 0) (hne : ∀ j, j < 5760 → ¬ u.2 2 j = (-1)) (sz : Nat) : Met l yX11_put wsX11_put ({ frames := 5, cells := 2, slots := 10, locals := 112 }) (va_Pc [.ref h0, .int p0, .int p1, .int p2, .int p3, .int p4] (fun U => U.heap.size = sz ∧ PX dC dI (va_pl z.1 f) (xT q) U ∧ va_D (fun _ => True) (va_pl z.1 f))) (va_Qi (fun (r : Int32) (w : xU) => putP q h0 d k z f u p0 p1 p2 p3 p4 r w) (fun (w : xU) t => va_P (dC, dI) vwCl (va_pl w.2.1.1 w.2.2) t.heap ∧ va_D (va_A (va_pl z.1 f) sz) (va_pl w.2.1.1 w.2.2)) (va_A (va_pl z.1 f) sz)) 2 10 (va_A (va_pl z.1 f) sz) := by
  refine Met.ofW (cc := cX11_put) (maxL := 8) (ret := (some .int)) (by decide) rfl ?_
  intro p e s m args below meth c s₁ B hml hv
  obtain ⟨rfl, hsz, ⟨⟨hP, hK, hN⟩, hXN⟩, hD0⟩ := hv
  have hx := B.exec
  have hb := B.bytes
  have hr := B.returns
  have hts := atoms_spec (ws := wsX11_put) B.pre
  have hown : s.vm.findClass RX11 = some m.cls := findClass_of_methodNamed B.named
  have hlocks := B.notSynchronized
  subst hsz
  have hD := hD0.self (sz := s.heap.size)
  generalize hAe : va_A (va_pl z.1 f) s.heap.size = A at hD ⊢
  have hA : ∀ q : Nat, s.heap.size ≤ q → A q := fun q h => by rw [← hAe]; exact Or.inr h
  have hS : va_S A s.heap s.heap [] := va_S.rf
  have hl := lv_entry ([.ref h0, .int p0, .int p1, .int p2, .int p3, .int p4]) (n := 8) (Nat.le_of_ble_eq_true rfl)
  rw [lg_entry_eq]
  generalize (lg_sl ([.ref h0, .int p0, .int p1, .int p2, .int p3, .int p4]) ++ List.replicate (8 - (lg_sl ([.ref h0, .int p0, .int p1, .int p2, .int p3, .int p4])).length) Slot.unset).toArray = ls at hl ⊢
  have hl : lv_has ls 8 [(0, .ref h0), (1, .int p0), (2, .int p1), (3, .int p2), (4, .int p3), (5, .int p4)] := hl
  have hIo := hI
  have hk1o := hk1
  have h3m : f (d 3) = f (d 3) := rfl
  refine lv_aload_n hx hb dX11_put_0 rfl (lv_at hl 0 rfl) ?_
  refine lv_iload_n hx hb dX11_put_1 rfl (lv_at hl 1 rfl) ?_
  obtain ⟨kk_1, hk_2⟩ := pl_at hI.2.1.1.1 hI.2.2.2.1.1
  refine va_csq (va_runV (As := [.int p0]) (rest := []) ⟨hx, hb, hml, hown, hts⟩ (y_itemOf l dC dI q h0 d k z f hI p0 u hrp hk0 hk1 hk2 hk3) (cwV 1 hts gX11_put_X11_itemOf rfl rfl rfl (by decide +kernel) ⟨Nat.le_of_ble_eq_true rfl, Nat.le_of_ble_eq_true rfl⟩) ⟨px_fb, va_recv hK hP (ci := 10) (q0 := kk_1) rfl hk_2, fun U hU hW => ⟨rfl, px_to hU hW hP hK hN hXN⟩⟩ rfl rfl hl.1 rfl (lv_room (Nat.le_of_ble_eq_true rfl)) dX11_put_2 ⟨Nat.le_of_ble_eq_true rfl, Nat.le_of_ble_eq_true rfl⟩).run (fun r hw => ?_)
  rcases hw with ⟨hr9, hn9⟩ | ⟨i_3, hi_4, ep_5, hr9⟩
  ·
    subst hr9
    have hno_25 := hn9
    refine W.eq (g2 := F0 m 5 ls [.null]) rfl ?_
    refine lv_astoreN (lv' := [(6, .null), (0, .ref h0), (1, .int p0), (2, .int p1), (3, .int p2), (4, .int p3), (5, .int p4)]) hx hb dX11_put_5 hl (by decide) rfl (fun ls hl => ?_)
    refine lv_aloadN hx hb dX11_put_7 (lv_at hl 0 rfl) ?_
    refine lv_ifnullN (tgt := 26) hx hb dX11_put_9 (by decide) ?_
    refine lv_iconst (v := (-1)) hx hb dX11_put_26 (by decide) ?_
    refine W.widen (k := 2) (n := 10) (Nat.le_of_ble_eq_true rfl) (Nat.le_of_ble_eq_true rfl) ?_
    exact W.iret (v := (-1)) hx hb hr (fun t ht hW => ⟨⟨(-1), (k, z, f), rfl, (Or.inl ⟨Or.inl hno_25, actP_0 hI hrp hk1o rfl⟩), by rw [ht]; exact hP, hD⟩, hS.F ht⟩) hS.2.2 dX11_put_27
  ·
    subst hr9
    obtain ⟨rs_6, n_7, g_8, fg_9, hit_10, hs_11, hpa_12, hps_13, h1_14, h6_15, hcb_16, hpl_17, hlg_18, hnn_19, hfa_20, hfs_21, hfe_22, hrs_23, hkt_24⟩ := it_all hI hrp.2.2.1 hi_4
    refine W.eq (g2 := F0 m 5 ls [.ref (d (2000 + i_3))]) rfl ?_
    refine lv_astore (lv' := [(6, .ref (d (2000 + i_3))), (0, .ref h0), (1, .int p0), (2, .int p1), (3, .int p2), (4, .int p3), (5, .int p4)]) hx hb dX11_put_5 hl (by decide) rfl (fun ls hl => ?_)
    refine lv_aload hx hb dX11_put_7 (lv_at hl 0 rfl) ?_
    refine lv_ifnull hx hb dX11_put_9 ?_
    refine lv_iload_n hx hb dX11_put_12 rfl (lv_at hl 3 rfl) ?_
    refine vp_callSi (va_runS (As := [.int p1]) (rest := []) ⟨hx, hb, hml, hown, hts⟩ (x_isPage l dC dI p1) (va_cwS 1 hts gX11_put_X11_isPage rfl rfl rfl (by decide +kernel) ⟨Nat.le_of_ble_eq_true rfl, Nat.le_of_ble_eq_true rfl⟩) ⟨pw_fb, fun U hU hW => ⟨rfl, pw_to hU hW (hP.sub (ws' := []) [] rfl) (hK.sub (tys' := []) [] rfl) hN⟩⟩ rfl rfl hl.1 rfl (lv_room (Nat.le_of_ble_eq_true rfl)) dX11_put_13 ⟨Nat.le_of_ble_eq_true rfl, Nat.le_of_ble_eq_true rfl⟩).run (fun r hw => ?_)
    rcases Bool.eq_false_or_eq_true (bw p1 0 11) with b_26 | b_26
    ·
      obtain rfl : r = 1 := b_t hw b_26
      refine lv_if_eq (tgt := 26) hx hb dX11_put_16 (by decide) (fun c_27 => absurd c_27 (by decide)) (fun c_27 => ?_)
      refine lv_aload_n hx hb dX11_put_19 rfl (lv_at hl 1 rfl) ?_
      obtain ⟨kk_28, hk_29⟩ := pl_at hI.2.1.1.1 hI.2.2.2.1.1
      refine vp_callSi (va_runV (As := []) (rest := []) ⟨hx, hb, hml, hown, hts⟩ (y_canAct l dC dI q h0 d k z f hI) (cwV 0 hts gX11_put_X11_canAct rfl rfl rfl (by decide +kernel) ⟨Nat.le_of_ble_eq_true rfl, Nat.le_of_ble_eq_true rfl⟩) ⟨px_fb, va_recv hK hP (ci := 10) (q0 := kk_28) rfl hk_29, fun U hU hW => ⟨rfl, px_to hU hW hP hK hN hXN⟩⟩ rfl rfl hl.1 rfl (lv_room (Nat.le_of_ble_eq_true rfl)) dX11_put_20 ⟨Nat.le_of_ble_eq_true rfl, Nat.le_of_ble_eq_true rfl⟩).run (fun r hw => ?_)
      rcases hw with ⟨hw, hca_30⟩ | ⟨hw, hca_30⟩
      ·
        subst hw
        refine lv_if_ne (tgt := 28) hx hb dX11_put_23 (by decide) (fun c_31 => absurd (by decide) c_31) (fun c_31 => ?_)
        refine lv_iconst (v := (-1)) hx hb dX11_put_26 (by decide) ?_
        refine W.widen (k := 2) (n := 10) (Nat.le_of_ble_eq_true rfl) (Nat.le_of_ble_eq_true rfl) ?_
        exact W.iret (v := (-1)) hx hb hr (fun t ht hW => ⟨⟨(-1), (k, z, f), rfl, (Or.inl ⟨Or.inr (Or.inr (Or.inl (by rw [← hk1o]; exact (n300 hI.1.2.1).1 hca_30))), actP_0 hI hrp hk1o rfl⟩), by rw [ht]; exact hP, hD⟩, hS.F ht⟩) hS.2.2 dX11_put_27
      ·
        subst hw
        refine lv_if_ne (tgt := 28) hx hb dX11_put_23 (by decide) (fun c_32 => ?_) (fun c_32 => absurd c_32 (by decide))
        have hi8 : i_3 < 80 := by have := w80i hI.1.1 hk0; have := hi_4; omega
        rcases kd6 (kd_05 hrp.2.2.1 hi_4).1 (kd_05 hrp.2.2.1 hi_4).2 with hkd | hkd | hkd | hkd | hkd | hkd
        ·
          have ht_33 : tg z (d (2000 + i_3)) 15 := ⟨hit_10.1, by rw [hkt_24, hkd]; rfl⟩
          obtain ⟨hx_35, hx_36, hx_37, ⟨hx_38, hx_39, hx_40⟩, hx_41, hx_42, hx_43⟩ := hrs_23.1 hkd
          have hs_34 : f (d (2000 + i_3)) = .inr (9, [.int (nI i_3), .int (u.2 4 i_3), .ref (d (3000 + i_3)), .int (u.2 22 i_3), .ref (d (4000 + i_3)), .int (u.2 5 i_3), .ref (d (5000 + i_3)), .int (u.2 15 i_3), .ref (d (6000 + i_3))]) := by rw [hs_11, ht_33.2, hx_35]; rfl
          refine va_new (ci := 7) (fs := [.null, .int 0, .int 0, .int 0, .int 0, .int 0]) (C := RX8) (T := TX8) (N := 6) hx hb hts (by decide +kernel) tyX8 tyX8_ok hown (hts (.classLink RX11 106 RX8) (by decide +kernel)) (hts (.instantiable RX8 6) (by decide +kernel)) (hts (.initialized RX8) (by decide +kernel)) hK hP hD hS hA rfl nwX8 (Nat.le_of_ble_eq_true rfl) (Nat.le_of_ble_eq_true rfl) dX11_put_28 (fun q_44 H hPn hDn hS => ?_)
          have hP := vaP_l hPn
          refine W.widen (k := 1) (n := 6) (Nat.le_of_ble_eq_true rfl) (Nat.le_of_ble_eq_true rfl) ?_
          refine lv_dup hx hb dX11_put_31 rfl ?_
          refine lv_aload hx hb dX11_put_32 (lv_at hl 0 rfl) ?_
          refine lv_iload_n hx hb dX11_put_34 rfl (lv_at hl 3 rfl) ?_
          refine lv_iload_n hx hb dX11_put_35 rfl (lv_at hl 4 rfl) ?_
          refine lv_iload hx hb dX11_put_36 (lv_at hl 5 rfl) ?_
          refine lv_aload hx hb dX11_put_38 (lv_at hl 0 rfl) ?_
          refine lv_iload hx hb dX11_put_40 (lv_at hl 6 rfl) ?_
          obtain ⟨kk_45, hk_46⟩ := pl_at ht_33.1 hs_34
          refine vp_callSi (va_runU (As := [.int p4]) (rest := [.int p3, .int p2, .int p1, .ref (d (2000 + i_3)), .ref q_44, .ref q_44]) ⟨hx, hb, hml, hown, hts⟩ (y_cols1 l dC dI q h0 d k z f hI (d (2000 + i_3)) p4 hit_10) (va_cwU 1 hts gX11_put_X4_columnsBy_u142X10 rfl rfl rfl rfl (by decide +kernel) ⟨Nat.le_of_ble_eq_true rfl, Nat.le_of_ble_eq_true rfl⟩) ⟨px_fb, va_recv hK hP (ci := 9) (q0 := kk_45) rfl hk_46, fun U hU hW => ⟨rfl, px_to hU hW hP hK hN hXN⟩⟩ rfl rfl hl.1 rfl (lv_room (Nat.le_of_ble_eq_true rfl)) dX11_put_42 ⟨Nat.le_of_ble_eq_true rfl, Nat.le_of_ble_eq_true rfl⟩).run (fun r hw => ?_)
          obtain ⟨zr_47, ezr_47⟩ : ∃ y : Int32, y = (1 : Int32) := ⟨_, rfl⟩
          have hr9 : zr_47 = r := ezr_47.trans hw.symm
          subst hr9
          refine lv_aload hx hb dX11_put_45 (lv_at hl 0 rfl) ?_
          refine lv_iload hx hb dX11_put_47 (lv_at hl 6 rfl) ?_
          obtain ⟨kk_48, hk_49⟩ := pl_at ht_33.1 hs_34
          refine vp_callSi (va_runU (As := [.int p4]) (rest := [.int zr_47, .int p3, .int p2, .int p1, .ref (d (2000 + i_3)), .ref q_44, .ref q_44]) ⟨hx, hb, hml, hown, hts⟩ (y_X10_linesBy l dC dI q h0 d k z f hI (d (2000 + i_3)) (d (3000 + i_3)) (d (4000 + i_3)) (d (5000 + i_3)) (d (6000 + i_3)) (nI i_3) (u.2 4 i_3) (u.2 22 i_3) (u.2 5 i_3) (u.2 15 i_3) ht_33 hs_34 p4) (va_cwA 1 hts gX11_put_X10_linesBy_u145X10 rfl rfl rfl hXN.1 (by decide +kernel) ⟨Nat.le_of_ble_eq_true rfl, Nat.le_of_ble_eq_true rfl⟩) ⟨px_fb, va_recv hK hP (ci := 9) (q0 := kk_48) rfl hk_49, fun U hU hW => ⟨rfl, px_to hU hW hP hK hN hXN⟩⟩ rfl rfl hl.1 rfl (lv_room (Nat.le_of_ble_eq_true rfl)) dX11_put_49 ⟨Nat.le_of_ble_eq_true rfl, Nat.le_of_ble_eq_true rfl⟩).run (fun r hw => ?_)
          obtain ⟨zr_50, ezr_50⟩ : ∃ y : Int32, y = s_linesS p4 := ⟨_, rfl⟩
          have hr9 : zr_50 = r := ezr_50.trans hw.symm
          subst hr9
          have hPc := vaP_r hPn
          have hDc := vaD_r hDn
          have hFc := fr_part hDn hS hA
          refine va_callv (va_runI (As := [.ref (d (2000 + i_3)), .int p1, .int p2, .int p3, .int zr_47, .int zr_50]) (rest := [.ref q_44]) ⟨hx, hb, hml, hown, hts⟩ (x_PieceI l dC dI q_44 (d (2000 + i_3)) p1 p2 p3 zr_47 zr_50 H.size) (cwI 6 hts gX11_put_X8_init rfl rfl rfl (hts (.initialized RX8) (by decide +kernel)) (hts (.methodLink RX11 108 yX8_init) (by decide +kernel)) (hts (.instanceMethod yX8_init) (by decide +kernel)) rfl (by decide +kernel) ⟨Nat.le_of_ble_eq_true rfl, Nat.le_of_ble_eq_true rfl⟩) ⟨gw_fb, fun U hU hW => ⟨rfl, by rw [hU], pw_to hU hW hPc (hK.sub (tys' := []) [] rfl) hN, hDc.weaken (fun _ _ _ _ => trivial)⟩⟩ rfl rfl hl.1 rfl (lv_room (Nat.le_of_ble_eq_true rfl)) dX11_put_52 ⟨Nat.le_of_ble_eq_true rfl, Nat.le_of_ble_eq_true rfl⟩) hS (fun q _ h => hFc q h) hFc (fun u9 t H1 locs ht hvm hw hB hz1 hk1 hS => ?_)
          obtain ⟨hP1, hD1⟩ := hB
          rw [ht] at hP1
          obtain ⟨hP, hD⟩ := va_joinQ (X := [(q_44, .inr (7, [.null, .int 0, .int 0, .int 0, .int 0, .int 0]))]) (cx := [(q_44, .inr (7, [.null, .int 0, .int 0, .int 0, .int 0, .int 0]))]) (wr := []) (w1 := [(q_44, .inr (7, [va_rf (some (d (2000 + i_3))), .int p1, .int p2, .int p3, .int zr_47, .int zr_50]))]) (pl := va_pl z.1 f) (vaP_swap hPn) (vaD_rotR hDn) [0] [] rfl rfl rfl (fun i hi => absurd hi List.not_mem_nil) hk1 hFc hP1 hD1
          generalize H1 = H at hP hS ⊢
          obtain ⟨hnm_51, hP, hD⟩ := pushC hP hD
          obtain ⟨z_52, ez_52⟩ : ∃ y : gS, y = pz z q_44 (22, 0, [va_rf (some (d (2000 + i_3))), .int p1, .int p2, .int p3, .int zr_47, .int zr_50]) := ⟨_, rfl⟩
          obtain ⟨f_53, ef_53⟩ : ∃ y : xF, y = va_up f q_44 (.inr (7, [va_rf (some (d (2000 + i_3))), .int p1, .int p2, .int p3, .int zr_47, .int zr_50])) := ⟨_, rfl⟩
          have hE_54 : zE z z_52 := by rw [ez_52]; exact pz_E hnm_51 _
          have hI : xI q h0 d k z_52 f_53 := by rw [ez_52, ef_53]; exact x_push hI hnm_51 (Or.inr (by decide : (15 : Nat) < 22)) (cO_pc b_26 (ty_s (tg_itm ht_33 (by decide))) hnm_51)
          rw [show z.1 ++ [q_44] = z_52.1 from by rw [ez_52]; rfl, ← ef_53] at hP hD
          have ht_33 := zE_tg hE_54 ht_33
          have hpa_12 := zE_tg hE_54 hpa_12
          have hfa_20 := zE_tg hE_54 hfa_20
          have ht_55 : tg z_52 q_44 22 := by rw [ez_52]; exact pz_t _ _ _
          have hEz : zE z z_52 := zE_tr (zE_rf z) hE_54
          have h3m : f_53 (d 3) = f (d 3) := by rw [ef_53]; exact (up_o (fun e9 => hnm_51 (by rw [← e9]; exact hrp.2.2.2.2.2.2.2.1.1.1))).trans h3m
          have hrp_56 : rep q d u z_52 f_53 := by rw [ez_52, ef_53]; exact rep_grow hrp (pz_E hnm_51 _) (oK_push (fun _ _ => rfl) (zE_rf _) hnm_51)
          obtain ⟨rs_57, n_58, g_59, fg_60, hit_61, hs_62, hpa_63, hps_64, h1_65, h6_66, hcb_67, hpl_68, hlg_69, hnn_70, hfa_71, hfs_72, hfe_73, hrs_74, hkt_75⟩ := it_all hI hrp_56.2.2.1 hi_4
          have ht_76 : tg z_52 (d (2000 + i_3)) 15 := ⟨hit_61.1, by rw [hkt_75, hkd]; rfl⟩
          obtain ⟨hx_78, hx_79, hx_80, ⟨hx_81, hx_82, hx_83⟩, hx_84, hx_85, hx_86⟩ := hrs_74.1 hkd
          have hs_77 : f_53 (d (2000 + i_3)) = .inr (9, [.int (nI i_3), .int (u.2 4 i_3), .ref (d (3000 + i_3)), .int (u.2 22 i_3), .ref (d (4000 + i_3)), .int (u.2 5 i_3), .ref (d (5000 + i_3)), .int (u.2 15 i_3), .ref (d (6000 + i_3))]) := by rw [hs_62, ht_76.2, hx_78]; rfl
          refine W.eq (g2 := F0 m 55 ls [.ref q_44]) rfl ?_
          have hp_87 : pcS z_52 q_44 (some (d (2000 + i_3))) p1 p2 p3 zr_47 zr_50 := ⟨ht_55, by rw [ez_52, pz_s]⟩
          refine lv_astore (lv' := [(7, .ref q_44), (6, .ref (d (2000 + i_3))), (0, .ref h0), (1, .int p0), (2, .int p1), (3, .int p2), (4, .int p3), (5, .int p4)]) hx hb dX11_put_55 hl (by decide) rfl (fun ls hl => ?_)
          refine lv_aload hx hb dX11_put_57 (lv_at hl 1 rfl) ?_
          obtain ⟨kk_88, hk_89⟩ := pl_at ht_76.1 hs_77
          refine vp_callSi (va_runU (As := []) (rest := []) ⟨hx, hb, hml, hown, hts⟩ (y_hasRoom l dC dI q h0 d k z_52 f_53 hI (d (2000 + i_3)) hit_61 (nI i_3) (u.2 4 i_3) (u.2 22 i_3) (d (3000 + i_3)) (d (4000 + i_3)) rs_57 hs_62 n_58 g_59 hps_64 hpa_63) (va_cwU 0 hts gX11_put_X4_hasRoom_u148X10 rfl rfl rfl rfl (by decide +kernel) ⟨Nat.le_of_ble_eq_true rfl, Nat.le_of_ble_eq_true rfl⟩) ⟨px_fb, va_recv hK hP (ci := 9) (q0 := kk_88) rfl hk_89, fun U hU hW => ⟨rfl, px_to hU hW hP hK hN hXN⟩⟩ rfl rfl hl.1 rfl (lv_room (Nat.le_of_ble_eq_true rfl)) dX11_put_59 ⟨Nat.le_of_ble_eq_true rfl, Nat.le_of_ble_eq_true rfl⟩).run (fun r hw => ?_)
          obtain rfl : r = (bP ((u.2 22 i_3) < nI n_58)) := hw
          refine lv_if_eq (tgt := 102) hx hb dX11_put_62 (by decide) (fun c_90 => ?_) (fun c_90 => ?_)
          ·
            refine lv_iconst (v := (-1)) hx hb dX11_put_102 (by decide) ?_
            refine W.widen (k := 2) (n := 10) (Nat.le_of_ble_eq_true rfl) (Nat.le_of_ble_eq_true rfl) ?_
            exact W.iret (v := (-1)) hx hb hr (fun t ht hW => ⟨⟨(-1), (k, z_52, f_53), rfl, (Or.inl ⟨Or.inr (Or.inr (Or.inr ⟨i_3, ep_5, hi_4, Or.inl (noN h6_66 hcb_67 hnn_70 (bP_0 c_90))⟩)), ⟨hEz, hI, rfl, hrp_56, fun _ _ => rfl, hk1o, Or.inl ⟨h3m, rfl⟩⟩⟩), by rw [ht]; exact hP, hD⟩, hS.F ht⟩) hS.2.2 dX11_put_103
          ·
            refine lv_aload_n hx hb dX11_put_65 rfl (lv_at hl 2 rfl) ?_
            obtain ⟨kk_91, hk_92⟩ := pl_at hI.2.1.1.1 hI.2.2.2.1.1
            refine va_get (D := (dC, dI)) (ci := 10) (v := .ref (d 0)) (C := RX11) (T := TX11) (N := 9) hx hb hts (by decide +kernel) hown hK hP kk_91 hk_92 rfl 0 (by decide) (hts (.fieldLink RX11 11 "PageOne" "pages" "[LPageOne$Sheet;") (by decide +kernel)) (fun _ h9 => h9) rfl dX11_put_66 ?_
            refine lv_iload_n hx hb dX11_put_69 rfl (lv_at hl 4 rfl) ?_
            obtain ⟨g_93, hs_94, hg_95⟩ := x_pg hI hI.2.1.2.1
            obtain ⟨kk_96, hk_97⟩ := pl_at hI.2.1.2.1.1 hs_94
            refine va_aldq hx hb hK hP kk_96 2 hk_97 rfl (vin b_26 (by decide)) dX11_put_70 ?_
            obtain ⟨b_98, hg_99, ht_100⟩ := hg_95 _ (vlt (vin b_26 (by decide)))
            rw [hg_99]
            refine W.eq (g2 := F0 m 71 ls [.ref b_98]) rfl ?_
            have hb_101 := pg_at hrp_56.1 hs_94 (clp b_26) hg_99
            subst hb_101
            obtain ⟨dd_102, ii_103, gl_104, gc_105, ht_106, ht_107, ht_108, hs_109, hg_110, hgb_111, hc_112, el_113, ec_114⟩ := pg_all hI hrp_56.1 (clp b_26)
            refine lv_aload hx hb dX11_put_71 (lv_at hl 0 rfl) ?_
            obtain ⟨kk_115, hk_116⟩ := pl_at ht_106.1 hs_109
            refine vp_callSi (va_runV (As := [.ref q_44]) (rest := []) ⟨hx, hb, hml, hown, hts⟩ (y_isFree l dC dI q h0 d k z_52 f_53 hI (d (10 + p1.toNatClampNeg)) (d (30 + p1.toNatClampNeg)) (d (50 + p1.toNatClampNeg)) (u.2 1 p1.toNatClampNeg) dd_102 ii_103 gl_104 gc_105 ht_106 hs_109 ht_107 ht_108 hg_110 hgb_111 hc_112 q_44 (some (d (2000 + i_3))) p1 p2 p3 zr_47 zr_50 hp_87) (cwV 1 hts gX11_put_X9_isFree rfl rfl rfl (by decide +kernel) ⟨Nat.le_of_ble_eq_true rfl, Nat.le_of_ble_eq_true rfl⟩) ⟨px_fb, va_recv hK hP (ci := 8) (q0 := kk_115) rfl hk_116, fun U hU hW => ⟨rfl, px_to hU hW hP hK hN hXN⟩⟩ rfl rfl hl.1 rfl (lv_room (Nat.le_of_ble_eq_true rfl)) dX11_put_73 ⟨Nat.le_of_ble_eq_true rfl, Nat.le_of_ble_eq_true rfl⟩).run (fun r hw => ?_)
            rcases hw with ⟨hw, hfr_117⟩ | ⟨hw, hfr_117⟩
            ·
              subst hw
              refine lv_if_eq (tgt := 102) hx hb dX11_put_76 (by decide) (fun c_118 => absurd c_118 (by decide)) (fun c_118 => ?_)
              refine lv_aload hx hb dX11_put_79 (lv_at hl 1 rfl) ?_
              refine lv_aload hx hb dX11_put_81 (lv_at hl 0 rfl) ?_
              refine lv_aload_n hx hb dX11_put_83 rfl (lv_at hl 2 rfl) ?_
              obtain ⟨kk_119, hk_120⟩ := pl_at hI.2.1.1.1 hI.2.2.2.1.1
              refine va_get (D := (dC, dI)) (ci := 10) (v := .ref (d 0)) (C := RX11) (T := TX11) (N := 9) hx hb hts (by decide +kernel) hown hK hP kk_119 hk_120 rfl 0 (by decide) (hts (.fieldLink RX11 11 "PageOne" "pages" "[LPageOne$Sheet;") (by decide +kernel)) (fun _ h9 => h9) rfl dX11_put_84 ?_
              refine lv_iload_n hx hb dX11_put_87 rfl (lv_at hl 4 rfl) ?_
              obtain ⟨kk_121, hk_122⟩ := pl_at hI.2.1.2.1.1 hs_94
              refine va_aldq hx hb hK hP kk_121 2 hk_122 rfl (vin b_26 (by decide)) dX11_put_88 ?_
              obtain ⟨b_123, hg_124, ht_125⟩ := hg_95 _ (vlt (vin b_26 (by decide)))
              rw [hg_124]
              refine W.eq (g2 := F0 m 89 ls [.ref b_123, .ref q_44, .ref (d (2000 + i_3))]) rfl ?_
              have hb_126 := pg_at hrp_56.1 hs_94 (clp b_26) hg_124
              subst hb_126
              obtain ⟨dd_127, ii_128, gl_129, gc_130, ht_131, ht_132, ht_133, hs_134, hg_135, hgb_136, hc_137, el_138, ec_139⟩ := pg_all hI hrp_56.1 (clp b_26)
              obtain ⟨kk_140, hk_141⟩ := pl_at ht_131.1 hs_134
              refine va_get (D := (dC, dI)) (ci := 8) (v := .int (u.2 1 p1.toNatClampNeg)) (C := RX9) (T := TX9) (N := 5) hx hb hts (by decide +kernel) hown hK hP kk_140 hk_141 rfl 2 (by decide) (hts (.fieldLink RX11 63 "PageOne$Sheet" "measure" "I") (by decide +kernel)) (fun _ h9 => h9) rfl dX11_put_89 ?_
              refine lv_aload_n hx hb dX11_put_92 rfl (lv_at hl 2 rfl) ?_
              obtain ⟨kk_142, hk_143⟩ := pl_at hI.2.1.1.1 hI.2.2.2.1.1
              refine va_get (D := (dC, dI)) (ci := 10) (v := .int (k 2)) (C := RX11) (T := TX11) (N := 9) hx hb hts (by decide +kernel) hown hK hP kk_142 hk_143 rfl 7 (by decide) (hts (.fieldLink RX11 41 "PageOne" "today" "I") (by decide +kernel)) (fun _ h9 => h9) rfl dX11_put_93 ?_
              obtain ⟨kk_144, hk_145⟩ := pl_at ht_76.1 hs_77
              refine vp_callSi (va_runU (As := [.ref q_44, .int (u.2 1 p1.toNatClampNeg), .int (k 2)]) (rest := []) ⟨hx, hb, hml, hown, hts⟩ (y_X10_maySit l dC dI q h0 d k z_52 f_53 hI (d (2000 + i_3)) (d (3000 + i_3)) (d (4000 + i_3)) (d (5000 + i_3)) (d (6000 + i_3)) (nI i_3) (u.2 4 i_3) (u.2 22 i_3) (u.2 5 i_3) (u.2 15 i_3) ht_76 hs_77 (u.2 1 p1.toNatClampNeg) (k 2) q_44 (some (d (2000 + i_3))) p1 p2 p3 zr_47 zr_50 hp_87 n_58 g_59 (pR u i_3) hpa_63 hps_64 h1_65 h6_66 hcb_67 hpl_68 hx_81 hx_79.1 hx_82 (hu.2.2.2.2.1 i_3 hi8)) (va_cwO (b0 := cX4_maySit) (m0 := 4) (r0 := (some .boolean)) 3 hts gX11_put_X10_maySit_u155X10 rfl rfl rfl (by decide +kernel) (by decide +kernel) ⟨Nat.le_of_ble_eq_true rfl, Nat.le_of_ble_eq_true rfl⟩) ⟨px_fb, va_recv hK hP (ci := 9) (q0 := kk_144) rfl hk_145, fun U hU hW => ⟨rfl, px_to hU hW hP hK hN hXN⟩⟩ rfl rfl hl.1 rfl (lv_room (Nat.le_of_ble_eq_true rfl)) dX11_put_96 ⟨Nat.le_of_ble_eq_true rfl, Nat.le_of_ble_eq_true rfl⟩).run (fun r hw => ?_)
              obtain ⟨zr_146, ezr_146⟩ : ∃ y : Int32, y = s_sitS p1 p2 p3 zr_47 zr_50 (u.2 1 p1.toNatClampNeg) (u.2 22 i_3) (u.2 15 i_3) (pR u i_3) hx_81 := ⟨_, rfl⟩
              have hr9 : zr_146 = r := ezr_146.trans hw.symm
              subst hr9
              refine lv_if_ne (tgt := 104) hx hb dX11_put_99 (by decide) (fun c_147 => ?_) (fun c_147 => ?_)
              ·
                have hmF := (fr_iff (clp b_26) el_113 ec_114 hgb_111).mp hfr_117
                obtain ⟨P, eP⟩ : ∃ y, y = p1.toNatClampNeg := ⟨_, rfl⟩
                have eP1 : p1 = nI P := by rw [eP]; exact (nI_of_bw b_26).1
                obtain ⟨X, Y, D, N, eX, eY, eD, eN, hrx, hemp⟩ := fr_rIn (clp b_26) (fun a ha => by rw [← el_113 a ha]; exact hgb_111 a ha) hmF
                rw [← eP] at hrx hemp hmF
                have hrx9 := hrx
                obtain ⟨hP9, hX, hD1, hY, hN1, hin⟩ := hrx9
                have hpcx : pcS z_52 q_44 (some (d (2000 + i_3))) (nI P) (nI X) (nI Y) (nI D) (nI N) := by rw [← eP1, ← eX, ← eY, ← eD, ← eN]; exact hp_87
                have hlg_148 := lg_of hpcx ⟨b7n (by omega), b60n (by omega), bwN (by have e8 : (8 : Int32).toInt = 8 := rfl; rw [e8]; omega) (by omega), b60n (by omega)⟩
                have hrm9 : (u.2 22 i_3).toNatClampNeg < (if u.2 4 i_3 = 0 then 6 else 1) := ltN h6_66 hcb_67 hnn_70 (bP_n c_90)
                refine lv_aload_n hx hb dX11_put_104 rfl (lv_at hl 2 rfl) ?_
                refine lv_aload hx hb dX11_put_105 (lv_at hl 0 rfl) ?_
                obtain ⟨kk_149, hk_150⟩ := pl_at hI.2.1.1.1 hI.2.2.2.1.1
                have hFc := fr_all hD hS hA
                refine va_callv (va_runV (As := [.ref q_44]) (rest := []) ⟨hx, hb, hml, hown, hts⟩ (y_standI l dC dI q h0 d k z_52 f_53 hI q_44 P X Y D N u hrp_56 hk0 hk1o hk2 hk3 hP9 hX hD1 hY hin hne i_3 hi_4 hpcx hrm9 H.size) (cwV 1 hts gX11_put_X11_stand rfl rfl rfl (by decide +kernel) ⟨Nat.le_of_ble_eq_true rfl, Nat.le_of_ble_eq_true rfl⟩) ⟨gx_fb, va_recv hK hP (ci := 10) (q0 := kk_149) rfl hk_150, fun U hU hW => ⟨rfl, by rw [hU], px_to hU hW hP hK hN hXN, hD.weaken (fun _ _ _ _ => trivial)⟩⟩ rfl rfl hl.1 rfl (lv_room (Nat.le_of_ble_eq_true rfl)) dX11_put_107 ⟨Nat.le_of_ble_eq_true rfl, Nat.le_of_ble_eq_true rfl⟩) hS (fun q _ h => hFc q h) hFc (fun w_151 t H1 locs ht hvm hw hB hz1 hk1 hS => ?_)
                obtain ⟨hP, hD1⟩ := hB
                rw [ht] at hP
                rw [hw.2.1] at hP hD1
                have hD := hD1.weaken (fun _ q _ h => hFc q.1 h)
                have hI := hw.2.2.1
                have hw0 := hw
                generalize w_151.2.2 = f_152 at hP hD hI hw0
                generalize H1 = H at hP hS ⊢
                obtain ⟨u2, eu2⟩ : ∃ y : mS, y = mStand u (nI i_3) P X Y D N := ⟨_, rfl⟩
                have hrp2 : rep q d u2 z_52 f_152 := by rw [eu2]; exact hw0.2.2.2.1
                have h3m : f_152 (d 3) = f (d 3) := hw0.2.2.2.2.trans h3m
                refine lv_aload_n hx hb dX11_put_110 rfl (lv_at hl 2 rfl) ?_
                refine va_new (ci := 0) (fs := [.null, .int 0, .null, .int 0]) (C := RX0) (T := TX0) (N := 4) hx hb hts (by decide +kernel) tyX0 tyX0_ok hown (hts (.classLink RX11 28 RX0) (by decide +kernel)) (hts (.instantiable RX0 4) (by decide +kernel)) (hts (.initialized RX0) (by decide +kernel)) hK hP hD hS hA rfl nwX0 (Nat.le_of_ble_eq_true rfl) (Nat.le_of_ble_eq_true rfl) dX11_put_111 (fun q_153 H hPn hDn hS => ?_)
                have hP := vaP_l hPn
                refine W.widen (k := 2) (n := 10) (Nat.le_of_ble_eq_true rfl) (Nat.le_of_ble_eq_true rfl) ?_
                refine lv_dup hx hb dX11_put_114 rfl ?_
                refine lv_aload hx hb dX11_put_115 (lv_at hl 0 rfl) ?_
                refine lv_iconst (v := 0) hx hb dX11_put_117 (by decide) ?_
                refine lv_null hx hb dX11_put_118 ?_
                have hPc := vaP_r hPn
                have hDc := vaD_r hDn
                have hFc := fr_part hDn hS hA
                refine va_callv (va_runI (As := [.ref q_44, .int 0, .null]) (rest := [.ref q_153, .ref h0]) ⟨hx, hb, hml, hown, hts⟩ (x_ActP l dC dI q_153 q_44 H.size) (cwI 3 hts gX11_put_X0_init rfl rfl rfl (hts (.initialized RX0) (by decide +kernel)) (hts (.methodLink RX11 163 yX0_init) (by decide +kernel)) (hts (.instanceMethod yX0_init) (by decide +kernel)) rfl (by decide +kernel) ⟨Nat.le_of_ble_eq_true rfl, Nat.le_of_ble_eq_true rfl⟩) ⟨gw_fb, fun U hU hW => ⟨rfl, by rw [hU], pw_to hU hW hPc (hK.sub (tys' := []) [] rfl) hN, hDc.weaken (fun _ _ _ _ => trivial)⟩⟩ rfl rfl hl.1 rfl (lv_room (Nat.le_of_ble_eq_true rfl)) dX11_put_119 ⟨Nat.le_of_ble_eq_true rfl, Nat.le_of_ble_eq_true rfl⟩) hS (fun q _ h => hFc q h) hFc (fun u9 t H1 locs ht hvm hw hB hz1 hk1 hS => ?_)
                obtain ⟨hP1, hD1⟩ := hB
                rw [ht] at hP1
                obtain ⟨hP, hD⟩ := va_joinQ (X := [(q_153, .inr (0, [.null, .int 0, .null, .int 0]))]) (cx := [(q_153, .inr (0, [.null, .int 0, .null, .int 0]))]) (wr := []) (w1 := [(q_153, .inr (0, [.ref q_44, .int 0, va_rf none, .int 1]))]) (pl := va_pl z_52.1 f_152) (vaP_swap hPn) (vaD_rotR hDn) [0] [] rfl rfl rfl (fun i hi => absurd hi List.not_mem_nil) hk1 hFc hP1 hD1
                generalize H1 = H at hP hS ⊢
                obtain ⟨hnm_154, hP, hD⟩ := pushC hP hD
                obtain ⟨z_155, ez_155⟩ : ∃ y : gS, y = pz z_52 q_153 (23, 0, [.ref q_44, .int 0, va_rf none, .int 1]) := ⟨_, rfl⟩
                obtain ⟨f_156, ef_156⟩ : ∃ y : xF, y = va_up f_152 q_153 (.inr (0, [.ref q_44, .int 0, va_rf none, .int 1])) := ⟨_, rfl⟩
                have hE_157 : zE z_52 z_155 := by rw [ez_155]; exact pz_E hnm_154 _
                have hI : xI q h0 d k z_155 f_156 := by rw [ez_155, ef_156]; exact x_push hI hnm_154 (Or.inr (by decide : (15 : Nat) < 23)) (cO_ac hlg_148 hnm_154)
                rw [show z_52.1 ++ [q_153] = z_155.1 from by rw [ez_155]; rfl, ← ef_156] at hP hD
                have ht_76 := zE_tg hE_157 ht_76
                have hpa_63 := zE_tg hE_157 hpa_63
                have hfa_71 := zE_tg hE_157 hfa_71
                have hlg_148 := zE_lg hE_157 hlg_148
                have ht_131 := zE_tg hE_157 ht_131
                have ht_132 := zE_tg hE_157 ht_132
                have ht_133 := zE_tg hE_157 ht_133
                have hp_87 := zE_pc hE_157 hp_87
                have hpcx := zE_pc hE_157 hpcx
                have ht_158 : tg z_155 q_153 23 := by rw [ez_155]; exact pz_t _ _ _
                have hEz : zE z z_155 := zE_tr hEz hE_157
                have h3m : f_156 (d 3) = f (d 3) := by rw [ef_156]; exact (up_o (fun e9 => hnm_154 (by rw [← e9]; exact hrp2.2.2.2.2.2.2.2.1.1.1))).trans h3m
                have hrp_159 : rep q d u2 z_155 f_156 := by rw [ez_155, ef_156]; exact rep_grow hrp2 (pz_E hnm_154 _) (oK_push (fun _ _ => rfl) (zE_rf _) hnm_154)
                refine W.eq (g2 := F0 m 122 ls [.ref q_153, .ref h0]) rfl ?_
                have hIb := hI
                have hcx : ¬ 300 ≤ k 1 := hca_30
                obtain ⟨kk_160, hk_161⟩ := pl_at hI.2.1.1.1 hI.2.2.2.1.1
                have hFc := fr_all hD hS hA
                refine va_callv (va_runV (As := [.ref q_153]) (rest := []) ⟨hx, hb, hml, hown, hts⟩ (y_keep l dC dI q h0 d k z_155 f_156 hI q_153 ht_158 hcx H.size) (cwV 1 hts gX11_put_X11_keep rfl rfl rfl (by decide +kernel) ⟨Nat.le_of_ble_eq_true rfl, Nat.le_of_ble_eq_true rfl⟩) ⟨gx_fb, va_recv hK hP (ci := 10) (q0 := kk_160) rfl hk_161, fun U hU hW => ⟨rfl, by rw [hU], px_to hU hW hP hK hN hXN, hD.weaken (fun _ _ _ _ => trivial)⟩⟩ rfl rfl hl.1 rfl (lv_room (Nat.le_of_ble_eq_true rfl)) dX11_put_122 ⟨Nat.le_of_ble_eq_true rfl, Nat.le_of_ble_eq_true rfl⟩) hS (fun q _ h => hFc q h) hFc (fun w_162 t H1 locs ht hvm hw hB hz1 hk1 hS => ?_)
                obtain ⟨hP, hD1⟩ := hB
                rw [ht] at hP
                rw [hw.1] at hP hD1
                have hD := hD1.weaken (fun _ q _ h => hFc q.1 h)
                have hI := hw.2.1
                have hw0 := hw
                generalize w_162.1 = k_164 at hI hw0
                generalize w_162.2.2 = f_163 at hP hD hI hw0
                generalize H1 = H at hP hS ⊢
                have hkp := hw0.2.2
                have hrp_165 : rep q d u2 z_155 f_163 := rep_kp hrp_159 hIb (by rw [zE_o hEz hIo.2.1.1.1]; exact hz0) hkp
                have hi3 : i_3 < (u2.1 3).toNatClampNeg := by rw [eu2]; exact hi_4
                obtain ⟨rs_166, n_167, g_168, fg_169, hit_170, hs_171, hpa_172, hps_173, h1_174, h6_175, hcb_176, hpl_177, hlg_178, hnn_179, hfa_180, hfs_181, hfe_182, hrs_183, hkt_184⟩ := it_all hI hrp_165.2.2.1 hi3
                refine lv_aload hx hb dX11_put_125 (lv_at hl 1 rfl) ?_
                obtain ⟨kk_185, hk_186⟩ := pl_at hit_170.1 hs_171
                refine w_then (F0 m 130 ls [.int (u2.2 22 i_3)]) (fun hgo => ?_) ?_
                ·
                  rcases x_tag hit_170 with ht9 | ht9 | ht9 | ht9 | ht9 | ht9
                  ·
                    rw [ht9.2] at hk_186
                    exact va_get (D := (dC, dI)) (ci := 2) (v := .int (u2.2 22 i_3)) (C := RX2) (T := TX2) (N := 7) hx hb hts (by decide +kernel) hown hK hP kk_185 hk_186 rfl 3 (by decide) (hts (.fieldLink RX11 170 "PageOne$Item" "count" "I") (by decide +kernel)) (fun _ h9 => h9) rfl dX11_put_127 hgo
                  ·
                    rw [ht9.2] at hk_186
                    exact va_get (D := (dC, dI)) (ci := 3) (v := .int (u2.2 22 i_3)) (C := RX3) (T := TX3) (N := 8) hx hb hts (by decide +kernel) hown hK hP kk_185 hk_186 rfl 3 (by decide) (hts (.fieldLink RX11 170 "PageOne$Item" "count" "I") (by decide +kernel)) (fun _ h9 => h9) rfl dX11_put_127 hgo
                  ·
                    rw [ht9.2] at hk_186
                    exact va_get (D := (dC, dI)) (ci := 4) (v := .int (u2.2 22 i_3)) (C := RX5) (T := TX5) (N := 7) hx hb hts (by decide +kernel) hown hK hP kk_185 hk_186 rfl 3 (by decide) (hts (.fieldLink RX11 170 "PageOne$Item" "count" "I") (by decide +kernel)) (fun _ h9 => h9) rfl dX11_put_127 hgo
                  ·
                    rw [ht9.2] at hk_186
                    exact va_get (D := (dC, dI)) (ci := 5) (v := .int (u2.2 22 i_3)) (C := RX6) (T := TX6) (N := 9) hx hb hts (by decide +kernel) hown hK hP kk_185 hk_186 rfl 3 (by decide) (hts (.fieldLink RX11 170 "PageOne$Item" "count" "I") (by decide +kernel)) (fun _ h9 => h9) rfl dX11_put_127 hgo
                  ·
                    rw [ht9.2] at hk_186
                    exact va_get (D := (dC, dI)) (ci := 6) (v := .int (u2.2 22 i_3)) (C := RX7) (T := TX7) (N := 8) hx hb hts (by decide +kernel) hown hK hP kk_185 hk_186 rfl 3 (by decide) (hts (.fieldLink RX11 170 "PageOne$Item" "count" "I") (by decide +kernel)) (fun _ h9 => h9) rfl dX11_put_127 hgo
                  ·
                    rw [ht9.2] at hk_186
                    exact va_get (D := (dC, dI)) (ci := 9) (v := .int (u2.2 22 i_3)) (C := RX10) (T := TX10) (N := 9) hx hb hts (by decide +kernel) hown hK hP kk_185 hk_186 rfl 3 (by decide) (hts (.fieldLink RX11 170 "PageOne$Item" "count" "I") (by decide +kernel)) (fun _ h9 => h9) rfl dX11_put_127 hgo
                ·
                  exact W.iret (v := (u2.2 22 i_3)) hx hb hr (fun t ht hW => ⟨⟨(u2.2 22 i_3), (k_164, z_155, f_163), rfl, (Or.inr ⟨i_3, P, X, Y, D, N, ⟨ep_5, hi_4, eP1, eX, eY, ((show cpW u i_3 p4 = zr_47 by unfold cpW; rw [if_neg (by rw [hkd]; decide), if_neg (by rw [hkd]; decide), ezr_47])).trans eD, ((show cpH u i_3 p4 = zr_50 by unfold cpH; rw [if_pos hkd, ezr_50]; rfl)).trans eN, (by rw [← hk1o]; exact (n300 hIo.1.2.1).2 hcx), hrx, hrm9, by rw [← eP1] at hmF; rw [(show cpW u i_3 p4 = zr_47 by unfold cpW; rw [if_neg (by rw [hkd]; decide), if_neg (by rw [hkd]; decide), ezr_47]), (show cpH u i_3 p4 = zr_50 by unfold cpH; rw [if_pos hkd, ezr_50]; rfl)]; exact hmF, ⟨zr_146, c_147, by rw [(show cpW u i_3 p4 = zr_47 by unfold cpW; rw [if_neg (by rw [hkd]; decide), if_neg (by rw [hkd]; decide), ezr_47]), (show cpH u i_3 p4 = zr_50 by unfold cpH; rw [if_pos hkd, ezr_50]; rfl)]; exact ⟨(fun _ => ⟨_, hx_83, ezr_146⟩), (fun h9 => absurd (hkd.symm.trans h9) (by decide)), (fun h9 => absurd (hkd.symm.trans h9) (by decide)), (fun h9 => by rcases h9 with h8 | h8 | h8 <;> exact absurd (hkd.symm.trans h8) (by decide))⟩⟩, hemp⟩, by rw [show (u2.2 22 i_3) = (mStand u (nI i_3) P X Y D N).2 22 i_3 from by rw [eu2]]; exact put_fin hk1o hi8 hEz hI (by rw [← eu2]; exact hrp_165) h3m hkp.1 (kp_3 hrp_159 hIb hkp) ⟨ht_158, by rw [ez_155, pz_s]⟩ hpcx⟩), by rw [ht]; exact hP, hD⟩, hS.F ht⟩) hS.2.2 dX11_put_130
              ·
                refine lv_iconst (v := (-1)) hx hb dX11_put_102 (by decide) ?_
                refine W.widen (k := 2) (n := 10) (Nat.le_of_ble_eq_true rfl) (Nat.le_of_ble_eq_true rfl) ?_
                exact W.iret (v := (-1)) hx hb hr (fun t ht hW => ⟨⟨(-1), (k, z_52, f_53), rfl, (Or.inl ⟨Or.inr (Or.inr (Or.inr ⟨i_3, ep_5, hi_4, Or.inr (Or.inr (by rw [(show cpW u i_3 p4 = zr_47 by unfold cpW; rw [if_neg (by rw [hkd]; decide), if_neg (by rw [hkd]; decide), ezr_47]), (show cpH u i_3 p4 = zr_50 by unfold cpH; rw [if_pos hkd, ezr_50]; rfl)]; exact ⟨(fun _ => ⟨_, hx_83, (c_147.symm.trans ezr_146)⟩), (fun h9 => absurd (hkd.symm.trans h9) (by decide)), (fun h9 => absurd (hkd.symm.trans h9) (by decide)), (fun h9 => by rcases h9 with h8 | h8 | h8 <;> exact absurd (hkd.symm.trans h8) (by decide))⟩))⟩)), ⟨hEz, hI, rfl, hrp_56, fun _ _ => rfl, hk1o, Or.inl ⟨h3m, rfl⟩⟩⟩), by rw [ht]; exact hP, hD⟩, hS.F ht⟩) hS.2.2 dX11_put_103
            ·
              subst hw
              refine lv_if_eq (tgt := 102) hx hb dX11_put_76 (by decide) (fun c_187 => ?_) (fun c_187 => absurd (by decide) c_187)
              refine lv_iconst (v := (-1)) hx hb dX11_put_102 (by decide) ?_
              refine W.widen (k := 2) (n := 10) (Nat.le_of_ble_eq_true rfl) (Nat.le_of_ble_eq_true rfl) ?_
              exact W.iret (v := (-1)) hx hb hr (fun t ht hW => ⟨⟨(-1), (k, z_52, f_53), rfl, (Or.inl ⟨Or.inr (Or.inr (Or.inr ⟨i_3, ep_5, hi_4, Or.inr (Or.inl (fun h9 => hfr_117 ((fr_iff2 b_26 el_113 ec_114 hgb_111).mpr (by rw [(show cpW u i_3 p4 = zr_47 by unfold cpW; rw [if_neg (by rw [hkd]; decide), if_neg (by rw [hkd]; decide), ezr_47]), (show cpH u i_3 p4 = zr_50 by unfold cpH; rw [if_pos hkd, ezr_50]; rfl)] at h9; exact h9))))⟩)), ⟨hEz, hI, rfl, hrp_56, fun _ _ => rfl, hk1o, Or.inl ⟨h3m, rfl⟩⟩⟩), by rw [ht]; exact hP, hD⟩, hS.F ht⟩) hS.2.2 dX11_put_103
        ·
          have ht_188 : tg z (d (2000 + i_3)) 11 := ⟨hit_10.1, by rw [hkt_24, hkd]; rfl⟩
          obtain ⟨o9, hx_190, hx_191, hx_192, hx_193⟩ := hrs_23.2.1 hkd
          have hs_189 : f (d (2000 + i_3)) = .inr (3, [.int (nI i_3), .int (u.2 4 i_3), .ref (d (3000 + i_3)), .int (u.2 22 i_3), .ref (d (4000 + i_3)), .ref (d (2000 + o9)), .int (u.2 7 i_3), .int (u.2 8 i_3)]) := by rw [hs_11, ht_188.2, hx_193]; rfl
          refine va_new (ci := 7) (fs := [.null, .int 0, .int 0, .int 0, .int 0, .int 0]) (C := RX8) (T := TX8) (N := 6) hx hb hts (by decide +kernel) tyX8 tyX8_ok hown (hts (.classLink RX11 106 RX8) (by decide +kernel)) (hts (.instantiable RX8 6) (by decide +kernel)) (hts (.initialized RX8) (by decide +kernel)) hK hP hD hS hA rfl nwX8 (Nat.le_of_ble_eq_true rfl) (Nat.le_of_ble_eq_true rfl) dX11_put_28 (fun q_199 H hPn hDn hS => ?_)
          have hP := vaP_l hPn
          refine W.widen (k := 1) (n := 6) (Nat.le_of_ble_eq_true rfl) (Nat.le_of_ble_eq_true rfl) ?_
          refine lv_dup hx hb dX11_put_31 rfl ?_
          refine lv_aload hx hb dX11_put_32 (lv_at hl 0 rfl) ?_
          refine lv_iload_n hx hb dX11_put_34 rfl (lv_at hl 3 rfl) ?_
          refine lv_iload_n hx hb dX11_put_35 rfl (lv_at hl 4 rfl) ?_
          refine lv_iload hx hb dX11_put_36 (lv_at hl 5 rfl) ?_
          refine lv_aload hx hb dX11_put_38 (lv_at hl 0 rfl) ?_
          refine lv_iload hx hb dX11_put_40 (lv_at hl 6 rfl) ?_
          obtain ⟨kk_200, hk_201⟩ := pl_at ht_188.1 hs_189
          refine vp_callSi (va_runU (As := [.int p4]) (rest := [.int p3, .int p2, .int p1, .ref (d (2000 + i_3)), .ref q_199, .ref q_199]) ⟨hx, hb, hml, hown, hts⟩ (y_X3_columnsBy l dC dI q h0 d k z f hI (d (2000 + i_3)) (d (3000 + i_3)) (d (4000 + i_3)) (d (2000 + o9)) (nI i_3) (u.2 4 i_3) (u.2 22 i_3) (u.2 7 i_3) (u.2 8 i_3) ht_188 hs_189 p4) (va_cwO (b0 := cX4_columnsBy) (m0 := 2) (r0 := (some .int)) 1 hts gX11_put_X3_columnsBy_u142X3 rfl rfl rfl (by decide +kernel) (by decide +kernel) ⟨Nat.le_of_ble_eq_true rfl, Nat.le_of_ble_eq_true rfl⟩) ⟨px_fb, va_recv hK hP (ci := 3) (q0 := kk_200) rfl hk_201, fun U hU hW => ⟨rfl, px_to hU hW hP hK hN hXN⟩⟩ rfl rfl hl.1 rfl (lv_room (Nat.le_of_ble_eq_true rfl)) dX11_put_42 ⟨Nat.le_of_ble_eq_true rfl, Nat.le_of_ble_eq_true rfl⟩).run (fun r hw => ?_)
          obtain ⟨zr_202, ezr_202⟩ : ∃ y : Int32, y = s_colsH p4 (u.2 7 i_3) := ⟨_, rfl⟩
          have hr9 : zr_202 = r := ezr_202.trans hw.symm
          subst hr9
          refine lv_aload hx hb dX11_put_45 (lv_at hl 0 rfl) ?_
          refine lv_iload hx hb dX11_put_47 (lv_at hl 6 rfl) ?_
          obtain ⟨kk_203, hk_204⟩ := pl_at ht_188.1 hs_189
          refine vp_callSi (va_runU (As := [.int p4]) (rest := [.int zr_202, .int p3, .int p2, .int p1, .ref (d (2000 + i_3)), .ref q_199, .ref q_199]) ⟨hx, hb, hml, hown, hts⟩ (y_X3_linesBy l dC dI q h0 d k z f hI (d (2000 + i_3)) (d (3000 + i_3)) (d (4000 + i_3)) (d (2000 + o9)) (nI i_3) (u.2 4 i_3) (u.2 22 i_3) (u.2 7 i_3) (u.2 8 i_3) ht_188 hs_189 p4) (va_cwA 1 hts gX11_put_X3_linesBy_u145X3 rfl rfl rfl hXN.1 (by decide +kernel) ⟨Nat.le_of_ble_eq_true rfl, Nat.le_of_ble_eq_true rfl⟩) ⟨px_fb, va_recv hK hP (ci := 3) (q0 := kk_203) rfl hk_204, fun U hU hW => ⟨rfl, px_to hU hW hP hK hN hXN⟩⟩ rfl rfl hl.1 rfl (lv_room (Nat.le_of_ble_eq_true rfl)) dX11_put_49 ⟨Nat.le_of_ble_eq_true rfl, Nat.le_of_ble_eq_true rfl⟩).run (fun r hw => ?_)
          obtain ⟨zr_205, ezr_205⟩ : ∃ y : Int32, y = s_linesH p4 (u.2 8 i_3) := ⟨_, rfl⟩
          have hr9 : zr_205 = r := ezr_205.trans hw.symm
          subst hr9
          have hPc := vaP_r hPn
          have hDc := vaD_r hDn
          have hFc := fr_part hDn hS hA
          refine va_callv (va_runI (As := [.ref (d (2000 + i_3)), .int p1, .int p2, .int p3, .int zr_202, .int zr_205]) (rest := [.ref q_199]) ⟨hx, hb, hml, hown, hts⟩ (x_PieceI l dC dI q_199 (d (2000 + i_3)) p1 p2 p3 zr_202 zr_205 H.size) (cwI 6 hts gX11_put_X8_init rfl rfl rfl (hts (.initialized RX8) (by decide +kernel)) (hts (.methodLink RX11 108 yX8_init) (by decide +kernel)) (hts (.instanceMethod yX8_init) (by decide +kernel)) rfl (by decide +kernel) ⟨Nat.le_of_ble_eq_true rfl, Nat.le_of_ble_eq_true rfl⟩) ⟨gw_fb, fun U hU hW => ⟨rfl, by rw [hU], pw_to hU hW hPc (hK.sub (tys' := []) [] rfl) hN, hDc.weaken (fun _ _ _ _ => trivial)⟩⟩ rfl rfl hl.1 rfl (lv_room (Nat.le_of_ble_eq_true rfl)) dX11_put_52 ⟨Nat.le_of_ble_eq_true rfl, Nat.le_of_ble_eq_true rfl⟩) hS (fun q _ h => hFc q h) hFc (fun u9 t H1 locs ht hvm hw hB hz1 hk1 hS => ?_)
          obtain ⟨hP1, hD1⟩ := hB
          rw [ht] at hP1
          obtain ⟨hP, hD⟩ := va_joinQ (X := [(q_199, .inr (7, [.null, .int 0, .int 0, .int 0, .int 0, .int 0]))]) (cx := [(q_199, .inr (7, [.null, .int 0, .int 0, .int 0, .int 0, .int 0]))]) (wr := []) (w1 := [(q_199, .inr (7, [va_rf (some (d (2000 + i_3))), .int p1, .int p2, .int p3, .int zr_202, .int zr_205]))]) (pl := va_pl z.1 f) (vaP_swap hPn) (vaD_rotR hDn) [0] [] rfl rfl rfl (fun i hi => absurd hi List.not_mem_nil) hk1 hFc hP1 hD1
          generalize H1 = H at hP hS ⊢
          obtain ⟨hnm_206, hP, hD⟩ := pushC hP hD
          obtain ⟨z_207, ez_207⟩ : ∃ y : gS, y = pz z q_199 (22, 0, [va_rf (some (d (2000 + i_3))), .int p1, .int p2, .int p3, .int zr_202, .int zr_205]) := ⟨_, rfl⟩
          obtain ⟨f_208, ef_208⟩ : ∃ y : xF, y = va_up f q_199 (.inr (7, [va_rf (some (d (2000 + i_3))), .int p1, .int p2, .int p3, .int zr_202, .int zr_205])) := ⟨_, rfl⟩
          have hE_209 : zE z z_207 := by rw [ez_207]; exact pz_E hnm_206 _
          have hI : xI q h0 d k z_207 f_208 := by rw [ez_207, ef_208]; exact x_push hI hnm_206 (Or.inr (by decide : (15 : Nat) < 22)) (cO_pc b_26 (ty_s (tg_itm ht_188 (by decide))) hnm_206)
          rw [show z.1 ++ [q_199] = z_207.1 from by rw [ez_207]; rfl, ← ef_208] at hP hD
          have ht_188 := zE_tg hE_209 ht_188
          have hpa_12 := zE_tg hE_209 hpa_12
          have hfa_20 := zE_tg hE_209 hfa_20
          have ht_210 : tg z_207 q_199 22 := by rw [ez_207]; exact pz_t _ _ _
          have hEz : zE z z_207 := zE_tr (zE_rf z) hE_209
          have h3m : f_208 (d 3) = f (d 3) := by rw [ef_208]; exact (up_o (fun e9 => hnm_206 (by rw [← e9]; exact hrp.2.2.2.2.2.2.2.1.1.1))).trans h3m
          have hrp_211 : rep q d u z_207 f_208 := by rw [ez_207, ef_208]; exact rep_grow hrp (pz_E hnm_206 _) (oK_push (fun _ _ => rfl) (zE_rf _) hnm_206)
          obtain ⟨rs_212, n_213, g_214, fg_215, hit_216, hs_217, hpa_218, hps_219, h1_220, h6_221, hcb_222, hpl_223, hlg_224, hnn_225, hfa_226, hfs_227, hfe_228, hrs_229, hkt_230⟩ := it_all hI hrp_211.2.2.1 hi_4
          have ht_231 : tg z_207 (d (2000 + i_3)) 11 := ⟨hit_216.1, by rw [hkt_230, hkd]; rfl⟩
          obtain ⟨o9, hx_233, hx_234, hx_235, hx_236⟩ := hrs_229.2.1 hkd
          have hs_232 : f_208 (d (2000 + i_3)) = .inr (3, [.int (nI i_3), .int (u.2 4 i_3), .ref (d (3000 + i_3)), .int (u.2 22 i_3), .ref (d (4000 + i_3)), .ref (d (2000 + o9)), .int (u.2 7 i_3), .int (u.2 8 i_3)]) := by rw [hs_217, ht_231.2, hx_236]; rfl
          refine W.eq (g2 := F0 m 55 ls [.ref q_199]) rfl ?_
          have hp_242 : pcS z_207 q_199 (some (d (2000 + i_3))) p1 p2 p3 zr_202 zr_205 := ⟨ht_210, by rw [ez_207, pz_s]⟩
          refine lv_astore (lv' := [(7, .ref q_199), (6, .ref (d (2000 + i_3))), (0, .ref h0), (1, .int p0), (2, .int p1), (3, .int p2), (4, .int p3), (5, .int p4)]) hx hb dX11_put_55 hl (by decide) rfl (fun ls hl => ?_)
          refine lv_aload hx hb dX11_put_57 (lv_at hl 1 rfl) ?_
          obtain ⟨kk_243, hk_244⟩ := pl_at ht_231.1 hs_232
          refine vp_callSi (va_runU (As := []) (rest := []) ⟨hx, hb, hml, hown, hts⟩ (y_hasRoom l dC dI q h0 d k z_207 f_208 hI (d (2000 + i_3)) hit_216 (nI i_3) (u.2 4 i_3) (u.2 22 i_3) (d (3000 + i_3)) (d (4000 + i_3)) rs_212 hs_217 n_213 g_214 hps_219 hpa_218) (va_cwU 0 hts gX11_put_X4_hasRoom_u148X3 rfl rfl rfl rfl (by decide +kernel) ⟨Nat.le_of_ble_eq_true rfl, Nat.le_of_ble_eq_true rfl⟩) ⟨px_fb, va_recv hK hP (ci := 3) (q0 := kk_243) rfl hk_244, fun U hU hW => ⟨rfl, px_to hU hW hP hK hN hXN⟩⟩ rfl rfl hl.1 rfl (lv_room (Nat.le_of_ble_eq_true rfl)) dX11_put_59 ⟨Nat.le_of_ble_eq_true rfl, Nat.le_of_ble_eq_true rfl⟩).run (fun r hw => ?_)
          obtain rfl : r = (bP ((u.2 22 i_3) < nI n_213)) := hw
          refine lv_if_eq (tgt := 102) hx hb dX11_put_62 (by decide) (fun c_245 => ?_) (fun c_245 => ?_)
          ·
            refine lv_iconst (v := (-1)) hx hb dX11_put_102 (by decide) ?_
            refine W.widen (k := 2) (n := 10) (Nat.le_of_ble_eq_true rfl) (Nat.le_of_ble_eq_true rfl) ?_
            exact W.iret (v := (-1)) hx hb hr (fun t ht hW => ⟨⟨(-1), (k, z_207, f_208), rfl, (Or.inl ⟨Or.inr (Or.inr (Or.inr ⟨i_3, ep_5, hi_4, Or.inl (noN h6_221 hcb_222 hnn_225 (bP_0 c_245))⟩)), ⟨hEz, hI, rfl, hrp_211, fun _ _ => rfl, hk1o, Or.inl ⟨h3m, rfl⟩⟩⟩), by rw [ht]; exact hP, hD⟩, hS.F ht⟩) hS.2.2 dX11_put_103
          ·
            refine lv_aload_n hx hb dX11_put_65 rfl (lv_at hl 2 rfl) ?_
            obtain ⟨kk_246, hk_247⟩ := pl_at hI.2.1.1.1 hI.2.2.2.1.1
            refine va_get (D := (dC, dI)) (ci := 10) (v := .ref (d 0)) (C := RX11) (T := TX11) (N := 9) hx hb hts (by decide +kernel) hown hK hP kk_246 hk_247 rfl 0 (by decide) (hts (.fieldLink RX11 11 "PageOne" "pages" "[LPageOne$Sheet;") (by decide +kernel)) (fun _ h9 => h9) rfl dX11_put_66 ?_
            refine lv_iload_n hx hb dX11_put_69 rfl (lv_at hl 4 rfl) ?_
            obtain ⟨g_248, hs_249, hg_250⟩ := x_pg hI hI.2.1.2.1
            obtain ⟨kk_251, hk_252⟩ := pl_at hI.2.1.2.1.1 hs_249
            refine va_aldq hx hb hK hP kk_251 2 hk_252 rfl (vin b_26 (by decide)) dX11_put_70 ?_
            obtain ⟨b_253, hg_254, ht_255⟩ := hg_250 _ (vlt (vin b_26 (by decide)))
            rw [hg_254]
            refine W.eq (g2 := F0 m 71 ls [.ref b_253]) rfl ?_
            have hb_256 := pg_at hrp_211.1 hs_249 (clp b_26) hg_254
            subst hb_256
            obtain ⟨dd_257, ii_258, gl_259, gc_260, ht_261, ht_262, ht_263, hs_264, hg_265, hgb_266, hc_267, el_268, ec_269⟩ := pg_all hI hrp_211.1 (clp b_26)
            refine lv_aload hx hb dX11_put_71 (lv_at hl 0 rfl) ?_
            obtain ⟨kk_270, hk_271⟩ := pl_at ht_261.1 hs_264
            refine vp_callSi (va_runV (As := [.ref q_199]) (rest := []) ⟨hx, hb, hml, hown, hts⟩ (y_isFree l dC dI q h0 d k z_207 f_208 hI (d (10 + p1.toNatClampNeg)) (d (30 + p1.toNatClampNeg)) (d (50 + p1.toNatClampNeg)) (u.2 1 p1.toNatClampNeg) dd_257 ii_258 gl_259 gc_260 ht_261 hs_264 ht_262 ht_263 hg_265 hgb_266 hc_267 q_199 (some (d (2000 + i_3))) p1 p2 p3 zr_202 zr_205 hp_242) (cwV 1 hts gX11_put_X9_isFree rfl rfl rfl (by decide +kernel) ⟨Nat.le_of_ble_eq_true rfl, Nat.le_of_ble_eq_true rfl⟩) ⟨px_fb, va_recv hK hP (ci := 8) (q0 := kk_270) rfl hk_271, fun U hU hW => ⟨rfl, px_to hU hW hP hK hN hXN⟩⟩ rfl rfl hl.1 rfl (lv_room (Nat.le_of_ble_eq_true rfl)) dX11_put_73 ⟨Nat.le_of_ble_eq_true rfl, Nat.le_of_ble_eq_true rfl⟩).run (fun r hw => ?_)
            rcases hw with ⟨hw, hfr_272⟩ | ⟨hw, hfr_272⟩
            ·
              subst hw
              refine lv_if_eq (tgt := 102) hx hb dX11_put_76 (by decide) (fun c_273 => absurd c_273 (by decide)) (fun c_273 => ?_)
              refine lv_aload hx hb dX11_put_79 (lv_at hl 1 rfl) ?_
              refine lv_aload hx hb dX11_put_81 (lv_at hl 0 rfl) ?_
              refine lv_aload_n hx hb dX11_put_83 rfl (lv_at hl 2 rfl) ?_
              obtain ⟨kk_274, hk_275⟩ := pl_at hI.2.1.1.1 hI.2.2.2.1.1
              refine va_get (D := (dC, dI)) (ci := 10) (v := .ref (d 0)) (C := RX11) (T := TX11) (N := 9) hx hb hts (by decide +kernel) hown hK hP kk_274 hk_275 rfl 0 (by decide) (hts (.fieldLink RX11 11 "PageOne" "pages" "[LPageOne$Sheet;") (by decide +kernel)) (fun _ h9 => h9) rfl dX11_put_84 ?_
              refine lv_iload_n hx hb dX11_put_87 rfl (lv_at hl 4 rfl) ?_
              obtain ⟨kk_276, hk_277⟩ := pl_at hI.2.1.2.1.1 hs_249
              refine va_aldq hx hb hK hP kk_276 2 hk_277 rfl (vin b_26 (by decide)) dX11_put_88 ?_
              obtain ⟨b_278, hg_279, ht_280⟩ := hg_250 _ (vlt (vin b_26 (by decide)))
              rw [hg_279]
              refine W.eq (g2 := F0 m 89 ls [.ref b_278, .ref q_199, .ref (d (2000 + i_3))]) rfl ?_
              have hb_281 := pg_at hrp_211.1 hs_249 (clp b_26) hg_279
              subst hb_281
              obtain ⟨dd_282, ii_283, gl_284, gc_285, ht_286, ht_287, ht_288, hs_289, hg_290, hgb_291, hc_292, el_293, ec_294⟩ := pg_all hI hrp_211.1 (clp b_26)
              obtain ⟨kk_295, hk_296⟩ := pl_at ht_286.1 hs_289
              refine va_get (D := (dC, dI)) (ci := 8) (v := .int (u.2 1 p1.toNatClampNeg)) (C := RX9) (T := TX9) (N := 5) hx hb hts (by decide +kernel) hown hK hP kk_295 hk_296 rfl 2 (by decide) (hts (.fieldLink RX11 63 "PageOne$Sheet" "measure" "I") (by decide +kernel)) (fun _ h9 => h9) rfl dX11_put_89 ?_
              refine lv_aload_n hx hb dX11_put_92 rfl (lv_at hl 2 rfl) ?_
              obtain ⟨kk_297, hk_298⟩ := pl_at hI.2.1.1.1 hI.2.2.2.1.1
              refine va_get (D := (dC, dI)) (ci := 10) (v := .int (k 2)) (C := RX11) (T := TX11) (N := 9) hx hb hts (by decide +kernel) hown hK hP kk_297 hk_298 rfl 7 (by decide) (hts (.fieldLink RX11 41 "PageOne" "today" "I") (by decide +kernel)) (fun _ h9 => h9) rfl dX11_put_93 ?_
              obtain ⟨kk_299, hk_300⟩ := pl_at ht_231.1 hs_232
              refine vp_callSi (va_runU (As := [.ref q_199, .int (u.2 1 p1.toNatClampNeg), .int (k 2)]) (rest := []) ⟨hx, hb, hml, hown, hts⟩ (y_sit1 l dC dI q h0 d k z_207 f_208 hI (d (2000 + i_3)) q_199 (u.2 1 p1.toNatClampNeg) (k 2) hit_216) (va_cwU 3 hts gX11_put_X4_maySit_u155X3 rfl rfl rfl rfl (by decide +kernel) ⟨Nat.le_of_ble_eq_true rfl, Nat.le_of_ble_eq_true rfl⟩) ⟨px_fb, va_recv hK hP (ci := 3) (q0 := kk_299) rfl hk_300, fun U hU hW => ⟨rfl, px_to hU hW hP hK hN hXN⟩⟩ rfl rfl hl.1 rfl (lv_room (Nat.le_of_ble_eq_true rfl)) dX11_put_96 ⟨Nat.le_of_ble_eq_true rfl, Nat.le_of_ble_eq_true rfl⟩).run (fun r hw => ?_)
              obtain ⟨zr_301, ezr_301⟩ : ∃ y : Int32, y = (1 : Int32) := ⟨_, rfl⟩
              have hr9 : zr_301 = r := ezr_301.trans hw.symm
              subst hr9
              refine lv_if_ne (tgt := 104) hx hb dX11_put_99 (by decide) (fun c_302 => ?_) (fun c_302 => ?_)
              ·
                have hmF := (fr_iff (clp b_26) el_268 ec_269 hgb_266).mp hfr_272
                obtain ⟨P, eP⟩ : ∃ y, y = p1.toNatClampNeg := ⟨_, rfl⟩
                have eP1 : p1 = nI P := by rw [eP]; exact (nI_of_bw b_26).1
                obtain ⟨X, Y, D, N, eX, eY, eD, eN, hrx, hemp⟩ := fr_rIn (clp b_26) (fun a ha => by rw [← el_268 a ha]; exact hgb_266 a ha) hmF
                rw [← eP] at hrx hemp hmF
                have hrx9 := hrx
                obtain ⟨hP9, hX, hD1, hY, hN1, hin⟩ := hrx9
                have hpcx : pcS z_207 q_199 (some (d (2000 + i_3))) (nI P) (nI X) (nI Y) (nI D) (nI N) := by rw [← eP1, ← eX, ← eY, ← eD, ← eN]; exact hp_242
                have hlg_303 := lg_of hpcx ⟨b7n (by omega), b60n (by omega), bwN (by have e8 : (8 : Int32).toInt = 8 := rfl; rw [e8]; omega) (by omega), b60n (by omega)⟩
                have hrm9 : (u.2 22 i_3).toNatClampNeg < (if u.2 4 i_3 = 0 then 6 else 1) := ltN h6_221 hcb_222 hnn_225 (bP_n c_245)
                refine lv_aload_n hx hb dX11_put_104 rfl (lv_at hl 2 rfl) ?_
                refine lv_aload hx hb dX11_put_105 (lv_at hl 0 rfl) ?_
                obtain ⟨kk_304, hk_305⟩ := pl_at hI.2.1.1.1 hI.2.2.2.1.1
                have hFc := fr_all hD hS hA
                refine va_callv (va_runV (As := [.ref q_199]) (rest := []) ⟨hx, hb, hml, hown, hts⟩ (y_standI l dC dI q h0 d k z_207 f_208 hI q_199 P X Y D N u hrp_211 hk0 hk1o hk2 hk3 hP9 hX hD1 hY hin hne i_3 hi_4 hpcx hrm9 H.size) (cwV 1 hts gX11_put_X11_stand rfl rfl rfl (by decide +kernel) ⟨Nat.le_of_ble_eq_true rfl, Nat.le_of_ble_eq_true rfl⟩) ⟨gx_fb, va_recv hK hP (ci := 10) (q0 := kk_304) rfl hk_305, fun U hU hW => ⟨rfl, by rw [hU], px_to hU hW hP hK hN hXN, hD.weaken (fun _ _ _ _ => trivial)⟩⟩ rfl rfl hl.1 rfl (lv_room (Nat.le_of_ble_eq_true rfl)) dX11_put_107 ⟨Nat.le_of_ble_eq_true rfl, Nat.le_of_ble_eq_true rfl⟩) hS (fun q _ h => hFc q h) hFc (fun w_306 t H1 locs ht hvm hw hB hz1 hk1 hS => ?_)
                obtain ⟨hP, hD1⟩ := hB
                rw [ht] at hP
                rw [hw.2.1] at hP hD1
                have hD := hD1.weaken (fun _ q _ h => hFc q.1 h)
                have hI := hw.2.2.1
                have hw0 := hw
                generalize w_306.2.2 = f_307 at hP hD hI hw0
                generalize H1 = H at hP hS ⊢
                obtain ⟨u2, eu2⟩ : ∃ y : mS, y = mStand u (nI i_3) P X Y D N := ⟨_, rfl⟩
                have hrp2 : rep q d u2 z_207 f_307 := by rw [eu2]; exact hw0.2.2.2.1
                have h3m : f_307 (d 3) = f (d 3) := hw0.2.2.2.2.trans h3m
                refine lv_aload_n hx hb dX11_put_110 rfl (lv_at hl 2 rfl) ?_
                refine va_new (ci := 0) (fs := [.null, .int 0, .null, .int 0]) (C := RX0) (T := TX0) (N := 4) hx hb hts (by decide +kernel) tyX0 tyX0_ok hown (hts (.classLink RX11 28 RX0) (by decide +kernel)) (hts (.instantiable RX0 4) (by decide +kernel)) (hts (.initialized RX0) (by decide +kernel)) hK hP hD hS hA rfl nwX0 (Nat.le_of_ble_eq_true rfl) (Nat.le_of_ble_eq_true rfl) dX11_put_111 (fun q_308 H hPn hDn hS => ?_)
                have hP := vaP_l hPn
                refine W.widen (k := 2) (n := 10) (Nat.le_of_ble_eq_true rfl) (Nat.le_of_ble_eq_true rfl) ?_
                refine lv_dup hx hb dX11_put_114 rfl ?_
                refine lv_aload hx hb dX11_put_115 (lv_at hl 0 rfl) ?_
                refine lv_iconst (v := 0) hx hb dX11_put_117 (by decide) ?_
                refine lv_null hx hb dX11_put_118 ?_
                have hPc := vaP_r hPn
                have hDc := vaD_r hDn
                have hFc := fr_part hDn hS hA
                refine va_callv (va_runI (As := [.ref q_199, .int 0, .null]) (rest := [.ref q_308, .ref h0]) ⟨hx, hb, hml, hown, hts⟩ (x_ActP l dC dI q_308 q_199 H.size) (cwI 3 hts gX11_put_X0_init rfl rfl rfl (hts (.initialized RX0) (by decide +kernel)) (hts (.methodLink RX11 163 yX0_init) (by decide +kernel)) (hts (.instanceMethod yX0_init) (by decide +kernel)) rfl (by decide +kernel) ⟨Nat.le_of_ble_eq_true rfl, Nat.le_of_ble_eq_true rfl⟩) ⟨gw_fb, fun U hU hW => ⟨rfl, by rw [hU], pw_to hU hW hPc (hK.sub (tys' := []) [] rfl) hN, hDc.weaken (fun _ _ _ _ => trivial)⟩⟩ rfl rfl hl.1 rfl (lv_room (Nat.le_of_ble_eq_true rfl)) dX11_put_119 ⟨Nat.le_of_ble_eq_true rfl, Nat.le_of_ble_eq_true rfl⟩) hS (fun q _ h => hFc q h) hFc (fun u9 t H1 locs ht hvm hw hB hz1 hk1 hS => ?_)
                obtain ⟨hP1, hD1⟩ := hB
                rw [ht] at hP1
                obtain ⟨hP, hD⟩ := va_joinQ (X := [(q_308, .inr (0, [.null, .int 0, .null, .int 0]))]) (cx := [(q_308, .inr (0, [.null, .int 0, .null, .int 0]))]) (wr := []) (w1 := [(q_308, .inr (0, [.ref q_199, .int 0, va_rf none, .int 1]))]) (pl := va_pl z_207.1 f_307) (vaP_swap hPn) (vaD_rotR hDn) [0] [] rfl rfl rfl (fun i hi => absurd hi List.not_mem_nil) hk1 hFc hP1 hD1
                generalize H1 = H at hP hS ⊢
                obtain ⟨hnm_309, hP, hD⟩ := pushC hP hD
                obtain ⟨z_310, ez_310⟩ : ∃ y : gS, y = pz z_207 q_308 (23, 0, [.ref q_199, .int 0, va_rf none, .int 1]) := ⟨_, rfl⟩
                obtain ⟨f_311, ef_311⟩ : ∃ y : xF, y = va_up f_307 q_308 (.inr (0, [.ref q_199, .int 0, va_rf none, .int 1])) := ⟨_, rfl⟩
                have hE_312 : zE z_207 z_310 := by rw [ez_310]; exact pz_E hnm_309 _
                have hI : xI q h0 d k z_310 f_311 := by rw [ez_310, ef_311]; exact x_push hI hnm_309 (Or.inr (by decide : (15 : Nat) < 23)) (cO_ac hlg_303 hnm_309)
                rw [show z_207.1 ++ [q_308] = z_310.1 from by rw [ez_310]; rfl, ← ef_311] at hP hD
                have ht_231 := zE_tg hE_312 ht_231
                have hpa_218 := zE_tg hE_312 hpa_218
                have hfa_226 := zE_tg hE_312 hfa_226
                have hlg_303 := zE_lg hE_312 hlg_303
                have ht_286 := zE_tg hE_312 ht_286
                have ht_287 := zE_tg hE_312 ht_287
                have ht_288 := zE_tg hE_312 ht_288
                have hp_242 := zE_pc hE_312 hp_242
                have hpcx := zE_pc hE_312 hpcx
                have ht_313 : tg z_310 q_308 23 := by rw [ez_310]; exact pz_t _ _ _
                have hEz : zE z z_310 := zE_tr hEz hE_312
                have h3m : f_311 (d 3) = f (d 3) := by rw [ef_311]; exact (up_o (fun e9 => hnm_309 (by rw [← e9]; exact hrp2.2.2.2.2.2.2.2.1.1.1))).trans h3m
                have hrp_314 : rep q d u2 z_310 f_311 := by rw [ez_310, ef_311]; exact rep_grow hrp2 (pz_E hnm_309 _) (oK_push (fun _ _ => rfl) (zE_rf _) hnm_309)
                refine W.eq (g2 := F0 m 122 ls [.ref q_308, .ref h0]) rfl ?_
                have hIb := hI
                have hcx : ¬ 300 ≤ k 1 := hca_30
                obtain ⟨kk_315, hk_316⟩ := pl_at hI.2.1.1.1 hI.2.2.2.1.1
                have hFc := fr_all hD hS hA
                refine va_callv (va_runV (As := [.ref q_308]) (rest := []) ⟨hx, hb, hml, hown, hts⟩ (y_keep l dC dI q h0 d k z_310 f_311 hI q_308 ht_313 hcx H.size) (cwV 1 hts gX11_put_X11_keep rfl rfl rfl (by decide +kernel) ⟨Nat.le_of_ble_eq_true rfl, Nat.le_of_ble_eq_true rfl⟩) ⟨gx_fb, va_recv hK hP (ci := 10) (q0 := kk_315) rfl hk_316, fun U hU hW => ⟨rfl, by rw [hU], px_to hU hW hP hK hN hXN, hD.weaken (fun _ _ _ _ => trivial)⟩⟩ rfl rfl hl.1 rfl (lv_room (Nat.le_of_ble_eq_true rfl)) dX11_put_122 ⟨Nat.le_of_ble_eq_true rfl, Nat.le_of_ble_eq_true rfl⟩) hS (fun q _ h => hFc q h) hFc (fun w_317 t H1 locs ht hvm hw hB hz1 hk1 hS => ?_)
                obtain ⟨hP, hD1⟩ := hB
                rw [ht] at hP
                rw [hw.1] at hP hD1
                have hD := hD1.weaken (fun _ q _ h => hFc q.1 h)
                have hI := hw.2.1
                have hw0 := hw
                generalize w_317.1 = k_319 at hI hw0
                generalize w_317.2.2 = f_318 at hP hD hI hw0
                generalize H1 = H at hP hS ⊢
                have hkp := hw0.2.2
                have hrp_320 : rep q d u2 z_310 f_318 := rep_kp hrp_314 hIb (by rw [zE_o hEz hIo.2.1.1.1]; exact hz0) hkp
                have hi3 : i_3 < (u2.1 3).toNatClampNeg := by rw [eu2]; exact hi_4
                obtain ⟨rs_321, n_322, g_323, fg_324, hit_325, hs_326, hpa_327, hps_328, h1_329, h6_330, hcb_331, hpl_332, hlg_333, hnn_334, hfa_335, hfs_336, hfe_337, hrs_338, hkt_339⟩ := it_all hI hrp_320.2.2.1 hi3
                refine lv_aload hx hb dX11_put_125 (lv_at hl 1 rfl) ?_
                obtain ⟨kk_340, hk_341⟩ := pl_at hit_325.1 hs_326
                refine w_then (F0 m 130 ls [.int (u2.2 22 i_3)]) (fun hgo => ?_) ?_
                ·
                  rcases x_tag hit_325 with ht9 | ht9 | ht9 | ht9 | ht9 | ht9
                  ·
                    rw [ht9.2] at hk_341
                    exact va_get (D := (dC, dI)) (ci := 2) (v := .int (u2.2 22 i_3)) (C := RX2) (T := TX2) (N := 7) hx hb hts (by decide +kernel) hown hK hP kk_340 hk_341 rfl 3 (by decide) (hts (.fieldLink RX11 170 "PageOne$Item" "count" "I") (by decide +kernel)) (fun _ h9 => h9) rfl dX11_put_127 hgo
                  ·
                    rw [ht9.2] at hk_341
                    exact va_get (D := (dC, dI)) (ci := 3) (v := .int (u2.2 22 i_3)) (C := RX3) (T := TX3) (N := 8) hx hb hts (by decide +kernel) hown hK hP kk_340 hk_341 rfl 3 (by decide) (hts (.fieldLink RX11 170 "PageOne$Item" "count" "I") (by decide +kernel)) (fun _ h9 => h9) rfl dX11_put_127 hgo
                  ·
                    rw [ht9.2] at hk_341
                    exact va_get (D := (dC, dI)) (ci := 4) (v := .int (u2.2 22 i_3)) (C := RX5) (T := TX5) (N := 7) hx hb hts (by decide +kernel) hown hK hP kk_340 hk_341 rfl 3 (by decide) (hts (.fieldLink RX11 170 "PageOne$Item" "count" "I") (by decide +kernel)) (fun _ h9 => h9) rfl dX11_put_127 hgo
                  ·
                    rw [ht9.2] at hk_341
                    exact va_get (D := (dC, dI)) (ci := 5) (v := .int (u2.2 22 i_3)) (C := RX6) (T := TX6) (N := 9) hx hb hts (by decide +kernel) hown hK hP kk_340 hk_341 rfl 3 (by decide) (hts (.fieldLink RX11 170 "PageOne$Item" "count" "I") (by decide +kernel)) (fun _ h9 => h9) rfl dX11_put_127 hgo
                  ·
                    rw [ht9.2] at hk_341
                    exact va_get (D := (dC, dI)) (ci := 6) (v := .int (u2.2 22 i_3)) (C := RX7) (T := TX7) (N := 8) hx hb hts (by decide +kernel) hown hK hP kk_340 hk_341 rfl 3 (by decide) (hts (.fieldLink RX11 170 "PageOne$Item" "count" "I") (by decide +kernel)) (fun _ h9 => h9) rfl dX11_put_127 hgo
                  ·
                    rw [ht9.2] at hk_341
                    exact va_get (D := (dC, dI)) (ci := 9) (v := .int (u2.2 22 i_3)) (C := RX10) (T := TX10) (N := 9) hx hb hts (by decide +kernel) hown hK hP kk_340 hk_341 rfl 3 (by decide) (hts (.fieldLink RX11 170 "PageOne$Item" "count" "I") (by decide +kernel)) (fun _ h9 => h9) rfl dX11_put_127 hgo
                ·
                  exact W.iret (v := (u2.2 22 i_3)) hx hb hr (fun t ht hW => ⟨⟨(u2.2 22 i_3), (k_319, z_310, f_318), rfl, (Or.inr ⟨i_3, P, X, Y, D, N, ⟨ep_5, hi_4, eP1, eX, eY, ((show cpW u i_3 p4 = zr_202 by unfold cpW; rw [if_pos (by rw [hkd]; decide), ezr_202]; rfl)).trans eD, ((show cpH u i_3 p4 = zr_205 by unfold cpH; rw [if_neg (by rw [hkd]; decide), if_neg (by rw [hkd]; decide), if_neg (by rw [hkd]; decide), ezr_205]; rfl)).trans eN, (by rw [← hk1o]; exact (n300 hIo.1.2.1).2 hcx), hrx, hrm9, by rw [← eP1] at hmF; rw [(show cpW u i_3 p4 = zr_202 by unfold cpW; rw [if_pos (by rw [hkd]; decide), ezr_202]; rfl), (show cpH u i_3 p4 = zr_205 by unfold cpH; rw [if_neg (by rw [hkd]; decide), if_neg (by rw [hkd]; decide), if_neg (by rw [hkd]; decide), ezr_205]; rfl)]; exact hmF, ⟨zr_301, c_302, by rw [(show cpW u i_3 p4 = zr_202 by unfold cpW; rw [if_pos (by rw [hkd]; decide), ezr_202]; rfl), (show cpH u i_3 p4 = zr_205 by unfold cpH; rw [if_neg (by rw [hkd]; decide), if_neg (by rw [hkd]; decide), if_neg (by rw [hkd]; decide), ezr_205]; rfl)]; exact ⟨(fun h9 => absurd (hkd.symm.trans h9) (by decide)), (fun h9 => absurd (hkd.symm.trans h9) (by decide)), (fun h9 => absurd (hkd.symm.trans h9) (by decide)), (fun _ => ezr_301)⟩⟩, hemp⟩, by rw [show (u2.2 22 i_3) = (mStand u (nI i_3) P X Y D N).2 22 i_3 from by rw [eu2]]; exact put_fin hk1o hi8 hEz hI (by rw [← eu2]; exact hrp_320) h3m hkp.1 (kp_3 hrp_314 hIb hkp) ⟨ht_313, by rw [ez_310, pz_s]⟩ hpcx⟩), by rw [ht]; exact hP, hD⟩, hS.F ht⟩) hS.2.2 dX11_put_130
              ·
                refine lv_iconst (v := (-1)) hx hb dX11_put_102 (by decide) ?_
                refine W.widen (k := 2) (n := 10) (Nat.le_of_ble_eq_true rfl) (Nat.le_of_ble_eq_true rfl) ?_
                exact W.iret (v := (-1)) hx hb hr (fun t ht hW => ⟨⟨(-1), (k, z_207, f_208), rfl, (Or.inl ⟨Or.inr (Or.inr (Or.inr ⟨i_3, ep_5, hi_4, Or.inr (Or.inr (by rw [(show cpW u i_3 p4 = zr_202 by unfold cpW; rw [if_pos (by rw [hkd]; decide), ezr_202]; rfl), (show cpH u i_3 p4 = zr_205 by unfold cpH; rw [if_neg (by rw [hkd]; decide), if_neg (by rw [hkd]; decide), if_neg (by rw [hkd]; decide), ezr_205]; rfl)]; exact ⟨(fun h9 => absurd (hkd.symm.trans h9) (by decide)), (fun h9 => absurd (hkd.symm.trans h9) (by decide)), (fun h9 => absurd (hkd.symm.trans h9) (by decide)), (fun _ => (c_302.symm.trans ezr_301))⟩))⟩)), ⟨hEz, hI, rfl, hrp_211, fun _ _ => rfl, hk1o, Or.inl ⟨h3m, rfl⟩⟩⟩), by rw [ht]; exact hP, hD⟩, hS.F ht⟩) hS.2.2 dX11_put_103
            ·
              subst hw
              refine lv_if_eq (tgt := 102) hx hb dX11_put_76 (by decide) (fun c_342 => ?_) (fun c_342 => absurd (by decide) c_342)
              refine lv_iconst (v := (-1)) hx hb dX11_put_102 (by decide) ?_
              refine W.widen (k := 2) (n := 10) (Nat.le_of_ble_eq_true rfl) (Nat.le_of_ble_eq_true rfl) ?_
              exact W.iret (v := (-1)) hx hb hr (fun t ht hW => ⟨⟨(-1), (k, z_207, f_208), rfl, (Or.inl ⟨Or.inr (Or.inr (Or.inr ⟨i_3, ep_5, hi_4, Or.inr (Or.inl (fun h9 => hfr_272 ((fr_iff2 b_26 el_268 ec_269 hgb_266).mpr (by rw [(show cpW u i_3 p4 = zr_202 by unfold cpW; rw [if_pos (by rw [hkd]; decide), ezr_202]; rfl), (show cpH u i_3 p4 = zr_205 by unfold cpH; rw [if_neg (by rw [hkd]; decide), if_neg (by rw [hkd]; decide), if_neg (by rw [hkd]; decide), ezr_205]; rfl)] at h9; exact h9))))⟩)), ⟨hEz, hI, rfl, hrp_211, fun _ _ => rfl, hk1o, Or.inl ⟨h3m, rfl⟩⟩⟩), by rw [ht]; exact hP, hD⟩, hS.F ht⟩) hS.2.2 dX11_put_103
        ·
          have ht_343 : tg z (d (2000 + i_3)) 14 := ⟨hit_10.1, by rw [hkt_24, hkd]; rfl⟩
          obtain ⟨hx_345, hx_346, hx_347, ⟨hx_348, hx_349, hx_350⟩, hx_351, hx_352, hx_353⟩ := hrs_23.2.2.1 hkd
          have hs_344 : f (d (2000 + i_3)) = .inr (6, [.int (nI i_3), .int (u.2 4 i_3), .ref (d (3000 + i_3)), .int (u.2 22 i_3), .ref (d (4000 + i_3)), .ref (d (5000 + i_3)), .ref (d (6000 + i_3)), .int (u.2 17 i_3)]) := by rw [hs_11, ht_343.2, hx_345]; rfl
          refine va_new (ci := 7) (fs := [.null, .int 0, .int 0, .int 0, .int 0, .int 0]) (C := RX8) (T := TX8) (N := 6) hx hb hts (by decide +kernel) tyX8 tyX8_ok hown (hts (.classLink RX11 106 RX8) (by decide +kernel)) (hts (.instantiable RX8 6) (by decide +kernel)) (hts (.initialized RX8) (by decide +kernel)) hK hP hD hS hA rfl nwX8 (Nat.le_of_ble_eq_true rfl) (Nat.le_of_ble_eq_true rfl) dX11_put_28 (fun q_354 H hPn hDn hS => ?_)
          have hP := vaP_l hPn
          refine W.widen (k := 1) (n := 6) (Nat.le_of_ble_eq_true rfl) (Nat.le_of_ble_eq_true rfl) ?_
          refine lv_dup hx hb dX11_put_31 rfl ?_
          refine lv_aload hx hb dX11_put_32 (lv_at hl 0 rfl) ?_
          refine lv_iload_n hx hb dX11_put_34 rfl (lv_at hl 3 rfl) ?_
          refine lv_iload_n hx hb dX11_put_35 rfl (lv_at hl 4 rfl) ?_
          refine lv_iload hx hb dX11_put_36 (lv_at hl 5 rfl) ?_
          refine lv_aload hx hb dX11_put_38 (lv_at hl 0 rfl) ?_
          refine lv_iload hx hb dX11_put_40 (lv_at hl 6 rfl) ?_
          obtain ⟨kk_355, hk_356⟩ := pl_at ht_343.1 hs_344
          refine vp_callSi (va_runU (As := [.int p4]) (rest := [.int p3, .int p2, .int p1, .ref (d (2000 + i_3)), .ref q_354, .ref q_354]) ⟨hx, hb, hml, hown, hts⟩ (y_X7_columnsBy l dC dI q h0 d k z f hI (d (2000 + i_3)) (d (3000 + i_3)) (d (4000 + i_3)) (d (5000 + i_3)) (d (6000 + i_3)) (nI i_3) (u.2 4 i_3) (u.2 22 i_3) (u.2 17 i_3) ht_343 hs_344 p4 hx_348 hx_346.1 hx_349 (hu.2.2.2.2.2.1 i_3 hi8)) (va_cwO (b0 := cX4_columnsBy) (m0 := 2) (r0 := (some .int)) 1 hts gX11_put_X7_columnsBy_u142X7 rfl rfl rfl (by decide +kernel) (by decide +kernel) ⟨Nat.le_of_ble_eq_true rfl, Nat.le_of_ble_eq_true rfl⟩) ⟨px_fb, va_recv hK hP (ci := 6) (q0 := kk_355) rfl hk_356, fun U hU hW => ⟨rfl, px_to hU hW hP hK hN hXN⟩⟩ rfl rfl hl.1 rfl (lv_room (Nat.le_of_ble_eq_true rfl)) dX11_put_42 ⟨Nat.le_of_ble_eq_true rfl, Nat.le_of_ble_eq_true rfl⟩).run (fun r hw => ?_)
          obtain ⟨zr_357, ezr_357⟩ : ∃ y : Int32, y = s_colsI p4 (u.2 17 i_3) hx_348 := ⟨_, rfl⟩
          have hr9 : zr_357 = r := ezr_357.trans hw.symm
          subst hr9
          refine lv_aload hx hb dX11_put_45 (lv_at hl 0 rfl) ?_
          refine lv_iload hx hb dX11_put_47 (lv_at hl 6 rfl) ?_
          obtain ⟨kk_358, hk_359⟩ := pl_at ht_343.1 hs_344
          refine vp_callSi (va_runU (As := [.int p4]) (rest := [.int zr_357, .int p3, .int p2, .int p1, .ref (d (2000 + i_3)), .ref q_354, .ref q_354]) ⟨hx, hb, hml, hown, hts⟩ (y_X7_linesBy l dC dI q h0 d k z f hI (d (2000 + i_3)) (d (3000 + i_3)) (d (4000 + i_3)) (d (5000 + i_3)) (d (6000 + i_3)) (nI i_3) (u.2 4 i_3) (u.2 22 i_3) (u.2 17 i_3) ht_343 hs_344 p4 hx_351 hx_347.1 hx_352 (hu.2.2.2.2.2.1 i_3 hi8)) (va_cwA 1 hts gX11_put_X7_linesBy_u145X7 rfl rfl rfl hXN.1 (by decide +kernel) ⟨Nat.le_of_ble_eq_true rfl, Nat.le_of_ble_eq_true rfl⟩) ⟨px_fb, va_recv hK hP (ci := 6) (q0 := kk_358) rfl hk_359, fun U hU hW => ⟨rfl, px_to hU hW hP hK hN hXN⟩⟩ rfl rfl hl.1 rfl (lv_room (Nat.le_of_ble_eq_true rfl)) dX11_put_49 ⟨Nat.le_of_ble_eq_true rfl, Nat.le_of_ble_eq_true rfl⟩).run (fun r hw => ?_)
          obtain ⟨zr_360, ezr_360⟩ : ∃ y : Int32, y = s_linesI p4 (u.2 17 i_3) hx_351 := ⟨_, rfl⟩
          have hr9 : zr_360 = r := ezr_360.trans hw.symm
          subst hr9
          have hPc := vaP_r hPn
          have hDc := vaD_r hDn
          have hFc := fr_part hDn hS hA
          refine va_callv (va_runI (As := [.ref (d (2000 + i_3)), .int p1, .int p2, .int p3, .int zr_357, .int zr_360]) (rest := [.ref q_354]) ⟨hx, hb, hml, hown, hts⟩ (x_PieceI l dC dI q_354 (d (2000 + i_3)) p1 p2 p3 zr_357 zr_360 H.size) (cwI 6 hts gX11_put_X8_init rfl rfl rfl (hts (.initialized RX8) (by decide +kernel)) (hts (.methodLink RX11 108 yX8_init) (by decide +kernel)) (hts (.instanceMethod yX8_init) (by decide +kernel)) rfl (by decide +kernel) ⟨Nat.le_of_ble_eq_true rfl, Nat.le_of_ble_eq_true rfl⟩) ⟨gw_fb, fun U hU hW => ⟨rfl, by rw [hU], pw_to hU hW hPc (hK.sub (tys' := []) [] rfl) hN, hDc.weaken (fun _ _ _ _ => trivial)⟩⟩ rfl rfl hl.1 rfl (lv_room (Nat.le_of_ble_eq_true rfl)) dX11_put_52 ⟨Nat.le_of_ble_eq_true rfl, Nat.le_of_ble_eq_true rfl⟩) hS (fun q _ h => hFc q h) hFc (fun u9 t H1 locs ht hvm hw hB hz1 hk1 hS => ?_)
          obtain ⟨hP1, hD1⟩ := hB
          rw [ht] at hP1
          obtain ⟨hP, hD⟩ := va_joinQ (X := [(q_354, .inr (7, [.null, .int 0, .int 0, .int 0, .int 0, .int 0]))]) (cx := [(q_354, .inr (7, [.null, .int 0, .int 0, .int 0, .int 0, .int 0]))]) (wr := []) (w1 := [(q_354, .inr (7, [va_rf (some (d (2000 + i_3))), .int p1, .int p2, .int p3, .int zr_357, .int zr_360]))]) (pl := va_pl z.1 f) (vaP_swap hPn) (vaD_rotR hDn) [0] [] rfl rfl rfl (fun i hi => absurd hi List.not_mem_nil) hk1 hFc hP1 hD1
          generalize H1 = H at hP hS ⊢
          obtain ⟨hnm_361, hP, hD⟩ := pushC hP hD
          obtain ⟨z_362, ez_362⟩ : ∃ y : gS, y = pz z q_354 (22, 0, [va_rf (some (d (2000 + i_3))), .int p1, .int p2, .int p3, .int zr_357, .int zr_360]) := ⟨_, rfl⟩
          obtain ⟨f_363, ef_363⟩ : ∃ y : xF, y = va_up f q_354 (.inr (7, [va_rf (some (d (2000 + i_3))), .int p1, .int p2, .int p3, .int zr_357, .int zr_360])) := ⟨_, rfl⟩
          have hE_364 : zE z z_362 := by rw [ez_362]; exact pz_E hnm_361 _
          have hI : xI q h0 d k z_362 f_363 := by rw [ez_362, ef_363]; exact x_push hI hnm_361 (Or.inr (by decide : (15 : Nat) < 22)) (cO_pc b_26 (ty_s (tg_itm ht_343 (by decide))) hnm_361)
          rw [show z.1 ++ [q_354] = z_362.1 from by rw [ez_362]; rfl, ← ef_363] at hP hD
          have ht_343 := zE_tg hE_364 ht_343
          have hpa_12 := zE_tg hE_364 hpa_12
          have hfa_20 := zE_tg hE_364 hfa_20
          have ht_365 : tg z_362 q_354 22 := by rw [ez_362]; exact pz_t _ _ _
          have hEz : zE z z_362 := zE_tr (zE_rf z) hE_364
          have h3m : f_363 (d 3) = f (d 3) := by rw [ef_363]; exact (up_o (fun e9 => hnm_361 (by rw [← e9]; exact hrp.2.2.2.2.2.2.2.1.1.1))).trans h3m
          have hrp_366 : rep q d u z_362 f_363 := by rw [ez_362, ef_363]; exact rep_grow hrp (pz_E hnm_361 _) (oK_push (fun _ _ => rfl) (zE_rf _) hnm_361)
          obtain ⟨rs_367, n_368, g_369, fg_370, hit_371, hs_372, hpa_373, hps_374, h1_375, h6_376, hcb_377, hpl_378, hlg_379, hnn_380, hfa_381, hfs_382, hfe_383, hrs_384, hkt_385⟩ := it_all hI hrp_366.2.2.1 hi_4
          have ht_386 : tg z_362 (d (2000 + i_3)) 14 := ⟨hit_371.1, by rw [hkt_385, hkd]; rfl⟩
          obtain ⟨hx_388, hx_389, hx_390, ⟨hx_391, hx_392, hx_393⟩, hx_394, hx_395, hx_396⟩ := hrs_384.2.2.1 hkd
          have hs_387 : f_363 (d (2000 + i_3)) = .inr (6, [.int (nI i_3), .int (u.2 4 i_3), .ref (d (3000 + i_3)), .int (u.2 22 i_3), .ref (d (4000 + i_3)), .ref (d (5000 + i_3)), .ref (d (6000 + i_3)), .int (u.2 17 i_3)]) := by rw [hs_372, ht_386.2, hx_388]; rfl
          refine W.eq (g2 := F0 m 55 ls [.ref q_354]) rfl ?_
          have hp_397 : pcS z_362 q_354 (some (d (2000 + i_3))) p1 p2 p3 zr_357 zr_360 := ⟨ht_365, by rw [ez_362, pz_s]⟩
          refine lv_astore (lv' := [(7, .ref q_354), (6, .ref (d (2000 + i_3))), (0, .ref h0), (1, .int p0), (2, .int p1), (3, .int p2), (4, .int p3), (5, .int p4)]) hx hb dX11_put_55 hl (by decide) rfl (fun ls hl => ?_)
          refine lv_aload hx hb dX11_put_57 (lv_at hl 1 rfl) ?_
          obtain ⟨kk_398, hk_399⟩ := pl_at ht_386.1 hs_387
          refine vp_callSi (va_runU (As := []) (rest := []) ⟨hx, hb, hml, hown, hts⟩ (y_hasRoom l dC dI q h0 d k z_362 f_363 hI (d (2000 + i_3)) hit_371 (nI i_3) (u.2 4 i_3) (u.2 22 i_3) (d (3000 + i_3)) (d (4000 + i_3)) rs_367 hs_372 n_368 g_369 hps_374 hpa_373) (va_cwU 0 hts gX11_put_X4_hasRoom_u148X7 rfl rfl rfl rfl (by decide +kernel) ⟨Nat.le_of_ble_eq_true rfl, Nat.le_of_ble_eq_true rfl⟩) ⟨px_fb, va_recv hK hP (ci := 6) (q0 := kk_398) rfl hk_399, fun U hU hW => ⟨rfl, px_to hU hW hP hK hN hXN⟩⟩ rfl rfl hl.1 rfl (lv_room (Nat.le_of_ble_eq_true rfl)) dX11_put_59 ⟨Nat.le_of_ble_eq_true rfl, Nat.le_of_ble_eq_true rfl⟩).run (fun r hw => ?_)
          obtain rfl : r = (bP ((u.2 22 i_3) < nI n_368)) := hw
          refine lv_if_eq (tgt := 102) hx hb dX11_put_62 (by decide) (fun c_400 => ?_) (fun c_400 => ?_)
          ·
            refine lv_iconst (v := (-1)) hx hb dX11_put_102 (by decide) ?_
            refine W.widen (k := 2) (n := 10) (Nat.le_of_ble_eq_true rfl) (Nat.le_of_ble_eq_true rfl) ?_
            exact W.iret (v := (-1)) hx hb hr (fun t ht hW => ⟨⟨(-1), (k, z_362, f_363), rfl, (Or.inl ⟨Or.inr (Or.inr (Or.inr ⟨i_3, ep_5, hi_4, Or.inl (noN h6_376 hcb_377 hnn_380 (bP_0 c_400))⟩)), ⟨hEz, hI, rfl, hrp_366, fun _ _ => rfl, hk1o, Or.inl ⟨h3m, rfl⟩⟩⟩), by rw [ht]; exact hP, hD⟩, hS.F ht⟩) hS.2.2 dX11_put_103
          ·
            refine lv_aload_n hx hb dX11_put_65 rfl (lv_at hl 2 rfl) ?_
            obtain ⟨kk_401, hk_402⟩ := pl_at hI.2.1.1.1 hI.2.2.2.1.1
            refine va_get (D := (dC, dI)) (ci := 10) (v := .ref (d 0)) (C := RX11) (T := TX11) (N := 9) hx hb hts (by decide +kernel) hown hK hP kk_401 hk_402 rfl 0 (by decide) (hts (.fieldLink RX11 11 "PageOne" "pages" "[LPageOne$Sheet;") (by decide +kernel)) (fun _ h9 => h9) rfl dX11_put_66 ?_
            refine lv_iload_n hx hb dX11_put_69 rfl (lv_at hl 4 rfl) ?_
            obtain ⟨g_403, hs_404, hg_405⟩ := x_pg hI hI.2.1.2.1
            obtain ⟨kk_406, hk_407⟩ := pl_at hI.2.1.2.1.1 hs_404
            refine va_aldq hx hb hK hP kk_406 2 hk_407 rfl (vin b_26 (by decide)) dX11_put_70 ?_
            obtain ⟨b_408, hg_409, ht_410⟩ := hg_405 _ (vlt (vin b_26 (by decide)))
            rw [hg_409]
            refine W.eq (g2 := F0 m 71 ls [.ref b_408]) rfl ?_
            have hb_411 := pg_at hrp_366.1 hs_404 (clp b_26) hg_409
            subst hb_411
            obtain ⟨dd_412, ii_413, gl_414, gc_415, ht_416, ht_417, ht_418, hs_419, hg_420, hgb_421, hc_422, el_423, ec_424⟩ := pg_all hI hrp_366.1 (clp b_26)
            refine lv_aload hx hb dX11_put_71 (lv_at hl 0 rfl) ?_
            obtain ⟨kk_425, hk_426⟩ := pl_at ht_416.1 hs_419
            refine vp_callSi (va_runV (As := [.ref q_354]) (rest := []) ⟨hx, hb, hml, hown, hts⟩ (y_isFree l dC dI q h0 d k z_362 f_363 hI (d (10 + p1.toNatClampNeg)) (d (30 + p1.toNatClampNeg)) (d (50 + p1.toNatClampNeg)) (u.2 1 p1.toNatClampNeg) dd_412 ii_413 gl_414 gc_415 ht_416 hs_419 ht_417 ht_418 hg_420 hgb_421 hc_422 q_354 (some (d (2000 + i_3))) p1 p2 p3 zr_357 zr_360 hp_397) (cwV 1 hts gX11_put_X9_isFree rfl rfl rfl (by decide +kernel) ⟨Nat.le_of_ble_eq_true rfl, Nat.le_of_ble_eq_true rfl⟩) ⟨px_fb, va_recv hK hP (ci := 8) (q0 := kk_425) rfl hk_426, fun U hU hW => ⟨rfl, px_to hU hW hP hK hN hXN⟩⟩ rfl rfl hl.1 rfl (lv_room (Nat.le_of_ble_eq_true rfl)) dX11_put_73 ⟨Nat.le_of_ble_eq_true rfl, Nat.le_of_ble_eq_true rfl⟩).run (fun r hw => ?_)
            rcases hw with ⟨hw, hfr_427⟩ | ⟨hw, hfr_427⟩
            ·
              subst hw
              refine lv_if_eq (tgt := 102) hx hb dX11_put_76 (by decide) (fun c_428 => absurd c_428 (by decide)) (fun c_428 => ?_)
              refine lv_aload hx hb dX11_put_79 (lv_at hl 1 rfl) ?_
              refine lv_aload hx hb dX11_put_81 (lv_at hl 0 rfl) ?_
              refine lv_aload_n hx hb dX11_put_83 rfl (lv_at hl 2 rfl) ?_
              obtain ⟨kk_429, hk_430⟩ := pl_at hI.2.1.1.1 hI.2.2.2.1.1
              refine va_get (D := (dC, dI)) (ci := 10) (v := .ref (d 0)) (C := RX11) (T := TX11) (N := 9) hx hb hts (by decide +kernel) hown hK hP kk_429 hk_430 rfl 0 (by decide) (hts (.fieldLink RX11 11 "PageOne" "pages" "[LPageOne$Sheet;") (by decide +kernel)) (fun _ h9 => h9) rfl dX11_put_84 ?_
              refine lv_iload_n hx hb dX11_put_87 rfl (lv_at hl 4 rfl) ?_
              obtain ⟨kk_431, hk_432⟩ := pl_at hI.2.1.2.1.1 hs_404
              refine va_aldq hx hb hK hP kk_431 2 hk_432 rfl (vin b_26 (by decide)) dX11_put_88 ?_
              obtain ⟨b_433, hg_434, ht_435⟩ := hg_405 _ (vlt (vin b_26 (by decide)))
              rw [hg_434]
              refine W.eq (g2 := F0 m 89 ls [.ref b_433, .ref q_354, .ref (d (2000 + i_3))]) rfl ?_
              have hb_436 := pg_at hrp_366.1 hs_404 (clp b_26) hg_434
              subst hb_436
              obtain ⟨dd_437, ii_438, gl_439, gc_440, ht_441, ht_442, ht_443, hs_444, hg_445, hgb_446, hc_447, el_448, ec_449⟩ := pg_all hI hrp_366.1 (clp b_26)
              obtain ⟨kk_450, hk_451⟩ := pl_at ht_441.1 hs_444
              refine va_get (D := (dC, dI)) (ci := 8) (v := .int (u.2 1 p1.toNatClampNeg)) (C := RX9) (T := TX9) (N := 5) hx hb hts (by decide +kernel) hown hK hP kk_450 hk_451 rfl 2 (by decide) (hts (.fieldLink RX11 63 "PageOne$Sheet" "measure" "I") (by decide +kernel)) (fun _ h9 => h9) rfl dX11_put_89 ?_
              refine lv_aload_n hx hb dX11_put_92 rfl (lv_at hl 2 rfl) ?_
              obtain ⟨kk_452, hk_453⟩ := pl_at hI.2.1.1.1 hI.2.2.2.1.1
              refine va_get (D := (dC, dI)) (ci := 10) (v := .int (k 2)) (C := RX11) (T := TX11) (N := 9) hx hb hts (by decide +kernel) hown hK hP kk_452 hk_453 rfl 7 (by decide) (hts (.fieldLink RX11 41 "PageOne" "today" "I") (by decide +kernel)) (fun _ h9 => h9) rfl dX11_put_93 ?_
              obtain ⟨kk_454, hk_455⟩ := pl_at ht_386.1 hs_387
              refine vp_callSi (va_runU (As := [.ref q_354, .int (u.2 1 p1.toNatClampNeg), .int (k 2)]) (rest := []) ⟨hx, hb, hml, hown, hts⟩ (y_sit1 l dC dI q h0 d k z_362 f_363 hI (d (2000 + i_3)) q_354 (u.2 1 p1.toNatClampNeg) (k 2) hit_371) (va_cwU 3 hts gX11_put_X4_maySit_u155X7 rfl rfl rfl rfl (by decide +kernel) ⟨Nat.le_of_ble_eq_true rfl, Nat.le_of_ble_eq_true rfl⟩) ⟨px_fb, va_recv hK hP (ci := 6) (q0 := kk_454) rfl hk_455, fun U hU hW => ⟨rfl, px_to hU hW hP hK hN hXN⟩⟩ rfl rfl hl.1 rfl (lv_room (Nat.le_of_ble_eq_true rfl)) dX11_put_96 ⟨Nat.le_of_ble_eq_true rfl, Nat.le_of_ble_eq_true rfl⟩).run (fun r hw => ?_)
              obtain ⟨zr_456, ezr_456⟩ : ∃ y : Int32, y = (1 : Int32) := ⟨_, rfl⟩
              have hr9 : zr_456 = r := ezr_456.trans hw.symm
              subst hr9
              refine lv_if_ne (tgt := 104) hx hb dX11_put_99 (by decide) (fun c_457 => ?_) (fun c_457 => ?_)
              ·
                have hmF := (fr_iff (clp b_26) el_423 ec_424 hgb_421).mp hfr_427
                obtain ⟨P, eP⟩ : ∃ y, y = p1.toNatClampNeg := ⟨_, rfl⟩
                have eP1 : p1 = nI P := by rw [eP]; exact (nI_of_bw b_26).1
                obtain ⟨X, Y, D, N, eX, eY, eD, eN, hrx, hemp⟩ := fr_rIn (clp b_26) (fun a ha => by rw [← el_423 a ha]; exact hgb_421 a ha) hmF
                rw [← eP] at hrx hemp hmF
                have hrx9 := hrx
                obtain ⟨hP9, hX, hD1, hY, hN1, hin⟩ := hrx9
                have hpcx : pcS z_362 q_354 (some (d (2000 + i_3))) (nI P) (nI X) (nI Y) (nI D) (nI N) := by rw [← eP1, ← eX, ← eY, ← eD, ← eN]; exact hp_397
                have hlg_458 := lg_of hpcx ⟨b7n (by omega), b60n (by omega), bwN (by have e8 : (8 : Int32).toInt = 8 := rfl; rw [e8]; omega) (by omega), b60n (by omega)⟩
                have hrm9 : (u.2 22 i_3).toNatClampNeg < (if u.2 4 i_3 = 0 then 6 else 1) := ltN h6_376 hcb_377 hnn_380 (bP_n c_400)
                refine lv_aload_n hx hb dX11_put_104 rfl (lv_at hl 2 rfl) ?_
                refine lv_aload hx hb dX11_put_105 (lv_at hl 0 rfl) ?_
                obtain ⟨kk_459, hk_460⟩ := pl_at hI.2.1.1.1 hI.2.2.2.1.1
                have hFc := fr_all hD hS hA
                refine va_callv (va_runV (As := [.ref q_354]) (rest := []) ⟨hx, hb, hml, hown, hts⟩ (y_standI l dC dI q h0 d k z_362 f_363 hI q_354 P X Y D N u hrp_366 hk0 hk1o hk2 hk3 hP9 hX hD1 hY hin hne i_3 hi_4 hpcx hrm9 H.size) (cwV 1 hts gX11_put_X11_stand rfl rfl rfl (by decide +kernel) ⟨Nat.le_of_ble_eq_true rfl, Nat.le_of_ble_eq_true rfl⟩) ⟨gx_fb, va_recv hK hP (ci := 10) (q0 := kk_459) rfl hk_460, fun U hU hW => ⟨rfl, by rw [hU], px_to hU hW hP hK hN hXN, hD.weaken (fun _ _ _ _ => trivial)⟩⟩ rfl rfl hl.1 rfl (lv_room (Nat.le_of_ble_eq_true rfl)) dX11_put_107 ⟨Nat.le_of_ble_eq_true rfl, Nat.le_of_ble_eq_true rfl⟩) hS (fun q _ h => hFc q h) hFc (fun w_461 t H1 locs ht hvm hw hB hz1 hk1 hS => ?_)
                obtain ⟨hP, hD1⟩ := hB
                rw [ht] at hP
                rw [hw.2.1] at hP hD1
                have hD := hD1.weaken (fun _ q _ h => hFc q.1 h)
                have hI := hw.2.2.1
                have hw0 := hw
                generalize w_461.2.2 = f_462 at hP hD hI hw0
                generalize H1 = H at hP hS ⊢
                obtain ⟨u2, eu2⟩ : ∃ y : mS, y = mStand u (nI i_3) P X Y D N := ⟨_, rfl⟩
                have hrp2 : rep q d u2 z_362 f_462 := by rw [eu2]; exact hw0.2.2.2.1
                have h3m : f_462 (d 3) = f (d 3) := hw0.2.2.2.2.trans h3m
                refine lv_aload_n hx hb dX11_put_110 rfl (lv_at hl 2 rfl) ?_
                refine va_new (ci := 0) (fs := [.null, .int 0, .null, .int 0]) (C := RX0) (T := TX0) (N := 4) hx hb hts (by decide +kernel) tyX0 tyX0_ok hown (hts (.classLink RX11 28 RX0) (by decide +kernel)) (hts (.instantiable RX0 4) (by decide +kernel)) (hts (.initialized RX0) (by decide +kernel)) hK hP hD hS hA rfl nwX0 (Nat.le_of_ble_eq_true rfl) (Nat.le_of_ble_eq_true rfl) dX11_put_111 (fun q_463 H hPn hDn hS => ?_)
                have hP := vaP_l hPn
                refine W.widen (k := 2) (n := 10) (Nat.le_of_ble_eq_true rfl) (Nat.le_of_ble_eq_true rfl) ?_
                refine lv_dup hx hb dX11_put_114 rfl ?_
                refine lv_aload hx hb dX11_put_115 (lv_at hl 0 rfl) ?_
                refine lv_iconst (v := 0) hx hb dX11_put_117 (by decide) ?_
                refine lv_null hx hb dX11_put_118 ?_
                have hPc := vaP_r hPn
                have hDc := vaD_r hDn
                have hFc := fr_part hDn hS hA
                refine va_callv (va_runI (As := [.ref q_354, .int 0, .null]) (rest := [.ref q_463, .ref h0]) ⟨hx, hb, hml, hown, hts⟩ (x_ActP l dC dI q_463 q_354 H.size) (cwI 3 hts gX11_put_X0_init rfl rfl rfl (hts (.initialized RX0) (by decide +kernel)) (hts (.methodLink RX11 163 yX0_init) (by decide +kernel)) (hts (.instanceMethod yX0_init) (by decide +kernel)) rfl (by decide +kernel) ⟨Nat.le_of_ble_eq_true rfl, Nat.le_of_ble_eq_true rfl⟩) ⟨gw_fb, fun U hU hW => ⟨rfl, by rw [hU], pw_to hU hW hPc (hK.sub (tys' := []) [] rfl) hN, hDc.weaken (fun _ _ _ _ => trivial)⟩⟩ rfl rfl hl.1 rfl (lv_room (Nat.le_of_ble_eq_true rfl)) dX11_put_119 ⟨Nat.le_of_ble_eq_true rfl, Nat.le_of_ble_eq_true rfl⟩) hS (fun q _ h => hFc q h) hFc (fun u9 t H1 locs ht hvm hw hB hz1 hk1 hS => ?_)
                obtain ⟨hP1, hD1⟩ := hB
                rw [ht] at hP1
                obtain ⟨hP, hD⟩ := va_joinQ (X := [(q_463, .inr (0, [.null, .int 0, .null, .int 0]))]) (cx := [(q_463, .inr (0, [.null, .int 0, .null, .int 0]))]) (wr := []) (w1 := [(q_463, .inr (0, [.ref q_354, .int 0, va_rf none, .int 1]))]) (pl := va_pl z_362.1 f_462) (vaP_swap hPn) (vaD_rotR hDn) [0] [] rfl rfl rfl (fun i hi => absurd hi List.not_mem_nil) hk1 hFc hP1 hD1
                generalize H1 = H at hP hS ⊢
                obtain ⟨hnm_464, hP, hD⟩ := pushC hP hD
                obtain ⟨z_465, ez_465⟩ : ∃ y : gS, y = pz z_362 q_463 (23, 0, [.ref q_354, .int 0, va_rf none, .int 1]) := ⟨_, rfl⟩
                obtain ⟨f_466, ef_466⟩ : ∃ y : xF, y = va_up f_462 q_463 (.inr (0, [.ref q_354, .int 0, va_rf none, .int 1])) := ⟨_, rfl⟩
                have hE_467 : zE z_362 z_465 := by rw [ez_465]; exact pz_E hnm_464 _
                have hI : xI q h0 d k z_465 f_466 := by rw [ez_465, ef_466]; exact x_push hI hnm_464 (Or.inr (by decide : (15 : Nat) < 23)) (cO_ac hlg_458 hnm_464)
                rw [show z_362.1 ++ [q_463] = z_465.1 from by rw [ez_465]; rfl, ← ef_466] at hP hD
                have ht_386 := zE_tg hE_467 ht_386
                have hpa_373 := zE_tg hE_467 hpa_373
                have hfa_381 := zE_tg hE_467 hfa_381
                have hlg_458 := zE_lg hE_467 hlg_458
                have ht_441 := zE_tg hE_467 ht_441
                have ht_442 := zE_tg hE_467 ht_442
                have ht_443 := zE_tg hE_467 ht_443
                have hp_397 := zE_pc hE_467 hp_397
                have hpcx := zE_pc hE_467 hpcx
                have ht_468 : tg z_465 q_463 23 := by rw [ez_465]; exact pz_t _ _ _
                have hEz : zE z z_465 := zE_tr hEz hE_467
                have h3m : f_466 (d 3) = f (d 3) := by rw [ef_466]; exact (up_o (fun e9 => hnm_464 (by rw [← e9]; exact hrp2.2.2.2.2.2.2.2.1.1.1))).trans h3m
                have hrp_469 : rep q d u2 z_465 f_466 := by rw [ez_465, ef_466]; exact rep_grow hrp2 (pz_E hnm_464 _) (oK_push (fun _ _ => rfl) (zE_rf _) hnm_464)
                refine W.eq (g2 := F0 m 122 ls [.ref q_463, .ref h0]) rfl ?_
                have hIb := hI
                have hcx : ¬ 300 ≤ k 1 := hca_30
                obtain ⟨kk_470, hk_471⟩ := pl_at hI.2.1.1.1 hI.2.2.2.1.1
                have hFc := fr_all hD hS hA
                refine va_callv (va_runV (As := [.ref q_463]) (rest := []) ⟨hx, hb, hml, hown, hts⟩ (y_keep l dC dI q h0 d k z_465 f_466 hI q_463 ht_468 hcx H.size) (cwV 1 hts gX11_put_X11_keep rfl rfl rfl (by decide +kernel) ⟨Nat.le_of_ble_eq_true rfl, Nat.le_of_ble_eq_true rfl⟩) ⟨gx_fb, va_recv hK hP (ci := 10) (q0 := kk_470) rfl hk_471, fun U hU hW => ⟨rfl, by rw [hU], px_to hU hW hP hK hN hXN, hD.weaken (fun _ _ _ _ => trivial)⟩⟩ rfl rfl hl.1 rfl (lv_room (Nat.le_of_ble_eq_true rfl)) dX11_put_122 ⟨Nat.le_of_ble_eq_true rfl, Nat.le_of_ble_eq_true rfl⟩) hS (fun q _ h => hFc q h) hFc (fun w_472 t H1 locs ht hvm hw hB hz1 hk1 hS => ?_)
                obtain ⟨hP, hD1⟩ := hB
                rw [ht] at hP
                rw [hw.1] at hP hD1
                have hD := hD1.weaken (fun _ q _ h => hFc q.1 h)
                have hI := hw.2.1
                have hw0 := hw
                generalize w_472.1 = k_474 at hI hw0
                generalize w_472.2.2 = f_473 at hP hD hI hw0
                generalize H1 = H at hP hS ⊢
                have hkp := hw0.2.2
                have hrp_475 : rep q d u2 z_465 f_473 := rep_kp hrp_469 hIb (by rw [zE_o hEz hIo.2.1.1.1]; exact hz0) hkp
                have hi3 : i_3 < (u2.1 3).toNatClampNeg := by rw [eu2]; exact hi_4
                obtain ⟨rs_476, n_477, g_478, fg_479, hit_480, hs_481, hpa_482, hps_483, h1_484, h6_485, hcb_486, hpl_487, hlg_488, hnn_489, hfa_490, hfs_491, hfe_492, hrs_493, hkt_494⟩ := it_all hI hrp_475.2.2.1 hi3
                refine lv_aload hx hb dX11_put_125 (lv_at hl 1 rfl) ?_
                obtain ⟨kk_495, hk_496⟩ := pl_at hit_480.1 hs_481
                refine w_then (F0 m 130 ls [.int (u2.2 22 i_3)]) (fun hgo => ?_) ?_
                ·
                  rcases x_tag hit_480 with ht9 | ht9 | ht9 | ht9 | ht9 | ht9
                  ·
                    rw [ht9.2] at hk_496
                    exact va_get (D := (dC, dI)) (ci := 2) (v := .int (u2.2 22 i_3)) (C := RX2) (T := TX2) (N := 7) hx hb hts (by decide +kernel) hown hK hP kk_495 hk_496 rfl 3 (by decide) (hts (.fieldLink RX11 170 "PageOne$Item" "count" "I") (by decide +kernel)) (fun _ h9 => h9) rfl dX11_put_127 hgo
                  ·
                    rw [ht9.2] at hk_496
                    exact va_get (D := (dC, dI)) (ci := 3) (v := .int (u2.2 22 i_3)) (C := RX3) (T := TX3) (N := 8) hx hb hts (by decide +kernel) hown hK hP kk_495 hk_496 rfl 3 (by decide) (hts (.fieldLink RX11 170 "PageOne$Item" "count" "I") (by decide +kernel)) (fun _ h9 => h9) rfl dX11_put_127 hgo
                  ·
                    rw [ht9.2] at hk_496
                    exact va_get (D := (dC, dI)) (ci := 4) (v := .int (u2.2 22 i_3)) (C := RX5) (T := TX5) (N := 7) hx hb hts (by decide +kernel) hown hK hP kk_495 hk_496 rfl 3 (by decide) (hts (.fieldLink RX11 170 "PageOne$Item" "count" "I") (by decide +kernel)) (fun _ h9 => h9) rfl dX11_put_127 hgo
                  ·
                    rw [ht9.2] at hk_496
                    exact va_get (D := (dC, dI)) (ci := 5) (v := .int (u2.2 22 i_3)) (C := RX6) (T := TX6) (N := 9) hx hb hts (by decide +kernel) hown hK hP kk_495 hk_496 rfl 3 (by decide) (hts (.fieldLink RX11 170 "PageOne$Item" "count" "I") (by decide +kernel)) (fun _ h9 => h9) rfl dX11_put_127 hgo
                  ·
                    rw [ht9.2] at hk_496
                    exact va_get (D := (dC, dI)) (ci := 6) (v := .int (u2.2 22 i_3)) (C := RX7) (T := TX7) (N := 8) hx hb hts (by decide +kernel) hown hK hP kk_495 hk_496 rfl 3 (by decide) (hts (.fieldLink RX11 170 "PageOne$Item" "count" "I") (by decide +kernel)) (fun _ h9 => h9) rfl dX11_put_127 hgo
                  ·
                    rw [ht9.2] at hk_496
                    exact va_get (D := (dC, dI)) (ci := 9) (v := .int (u2.2 22 i_3)) (C := RX10) (T := TX10) (N := 9) hx hb hts (by decide +kernel) hown hK hP kk_495 hk_496 rfl 3 (by decide) (hts (.fieldLink RX11 170 "PageOne$Item" "count" "I") (by decide +kernel)) (fun _ h9 => h9) rfl dX11_put_127 hgo
                ·
                  exact W.iret (v := (u2.2 22 i_3)) hx hb hr (fun t ht hW => ⟨⟨(u2.2 22 i_3), (k_474, z_465, f_473), rfl, (Or.inr ⟨i_3, P, X, Y, D, N, ⟨ep_5, hi_4, eP1, eX, eY, ((show cpW u i_3 p4 = zr_357 by unfold cpW; rw [if_neg (by rw [hkd]; decide), if_pos hkd, ezr_357]; unfold s_colsI; split <;> first | rw [i47 hx_350 (by assumption) (hu.2.2.2.2.2.1 i_3 hi8)] | rfl)).trans eD, ((show cpH u i_3 p4 = zr_360 by unfold cpH; rw [if_neg (by rw [hkd]; decide), if_pos hkd, ezr_360]; unfold s_linesI; split <;> first | rw [i47 hx_353 (by assumption) (hu.2.2.2.2.2.1 i_3 hi8)] | rfl)).trans eN, (by rw [← hk1o]; exact (n300 hIo.1.2.1).2 hcx), hrx, hrm9, by rw [← eP1] at hmF; rw [(show cpW u i_3 p4 = zr_357 by unfold cpW; rw [if_neg (by rw [hkd]; decide), if_pos hkd, ezr_357]; unfold s_colsI; split <;> first | rw [i47 hx_350 (by assumption) (hu.2.2.2.2.2.1 i_3 hi8)] | rfl), (show cpH u i_3 p4 = zr_360 by unfold cpH; rw [if_neg (by rw [hkd]; decide), if_pos hkd, ezr_360]; unfold s_linesI; split <;> first | rw [i47 hx_353 (by assumption) (hu.2.2.2.2.2.1 i_3 hi8)] | rfl)]; exact hmF, ⟨zr_456, c_457, by rw [(show cpW u i_3 p4 = zr_357 by unfold cpW; rw [if_neg (by rw [hkd]; decide), if_pos hkd, ezr_357]; unfold s_colsI; split <;> first | rw [i47 hx_350 (by assumption) (hu.2.2.2.2.2.1 i_3 hi8)] | rfl), (show cpH u i_3 p4 = zr_360 by unfold cpH; rw [if_neg (by rw [hkd]; decide), if_pos hkd, ezr_360]; unfold s_linesI; split <;> first | rw [i47 hx_353 (by assumption) (hu.2.2.2.2.2.1 i_3 hi8)] | rfl)]; exact ⟨(fun h9 => absurd (hkd.symm.trans h9) (by decide)), (fun h9 => absurd (hkd.symm.trans h9) (by decide)), (fun h9 => absurd (hkd.symm.trans h9) (by decide)), (fun _ => ezr_456)⟩⟩, hemp⟩, by rw [show (u2.2 22 i_3) = (mStand u (nI i_3) P X Y D N).2 22 i_3 from by rw [eu2]]; exact put_fin hk1o hi8 hEz hI (by rw [← eu2]; exact hrp_475) h3m hkp.1 (kp_3 hrp_469 hIb hkp) ⟨ht_468, by rw [ez_465, pz_s]⟩ hpcx⟩), by rw [ht]; exact hP, hD⟩, hS.F ht⟩) hS.2.2 dX11_put_130
              ·
                refine lv_iconst (v := (-1)) hx hb dX11_put_102 (by decide) ?_
                refine W.widen (k := 2) (n := 10) (Nat.le_of_ble_eq_true rfl) (Nat.le_of_ble_eq_true rfl) ?_
                exact W.iret (v := (-1)) hx hb hr (fun t ht hW => ⟨⟨(-1), (k, z_362, f_363), rfl, (Or.inl ⟨Or.inr (Or.inr (Or.inr ⟨i_3, ep_5, hi_4, Or.inr (Or.inr (by rw [(show cpW u i_3 p4 = zr_357 by unfold cpW; rw [if_neg (by rw [hkd]; decide), if_pos hkd, ezr_357]; unfold s_colsI; split <;> first | rw [i47 hx_350 (by assumption) (hu.2.2.2.2.2.1 i_3 hi8)] | rfl), (show cpH u i_3 p4 = zr_360 by unfold cpH; rw [if_neg (by rw [hkd]; decide), if_pos hkd, ezr_360]; unfold s_linesI; split <;> first | rw [i47 hx_353 (by assumption) (hu.2.2.2.2.2.1 i_3 hi8)] | rfl)]; exact ⟨(fun h9 => absurd (hkd.symm.trans h9) (by decide)), (fun h9 => absurd (hkd.symm.trans h9) (by decide)), (fun h9 => absurd (hkd.symm.trans h9) (by decide)), (fun _ => (c_457.symm.trans ezr_456))⟩))⟩)), ⟨hEz, hI, rfl, hrp_366, fun _ _ => rfl, hk1o, Or.inl ⟨h3m, rfl⟩⟩⟩), by rw [ht]; exact hP, hD⟩, hS.F ht⟩) hS.2.2 dX11_put_103
            ·
              subst hw
              refine lv_if_eq (tgt := 102) hx hb dX11_put_76 (by decide) (fun c_497 => ?_) (fun c_497 => absurd (by decide) c_497)
              refine lv_iconst (v := (-1)) hx hb dX11_put_102 (by decide) ?_
              refine W.widen (k := 2) (n := 10) (Nat.le_of_ble_eq_true rfl) (Nat.le_of_ble_eq_true rfl) ?_
              exact W.iret (v := (-1)) hx hb hr (fun t ht hW => ⟨⟨(-1), (k, z_362, f_363), rfl, (Or.inl ⟨Or.inr (Or.inr (Or.inr ⟨i_3, ep_5, hi_4, Or.inr (Or.inl (fun h9 => hfr_427 ((fr_iff2 b_26 el_423 ec_424 hgb_421).mpr (by rw [(show cpW u i_3 p4 = zr_357 by unfold cpW; rw [if_neg (by rw [hkd]; decide), if_pos hkd, ezr_357]; unfold s_colsI; split <;> first | rw [i47 hx_350 (by assumption) (hu.2.2.2.2.2.1 i_3 hi8)] | rfl), (show cpH u i_3 p4 = zr_360 by unfold cpH; rw [if_neg (by rw [hkd]; decide), if_pos hkd, ezr_360]; unfold s_linesI; split <;> first | rw [i47 hx_353 (by assumption) (hu.2.2.2.2.2.1 i_3 hi8)] | rfl)] at h9; exact h9))))⟩)), ⟨hEz, hI, rfl, hrp_366, fun _ _ => rfl, hk1o, Or.inl ⟨h3m, rfl⟩⟩⟩), by rw [ht]; exact hP, hD⟩, hS.F ht⟩) hS.2.2 dX11_put_103
        ·
          have ht_498 : tg z (d (2000 + i_3)) 13 := ⟨hit_10.1, by rw [hkt_24, hkd]; rfl⟩
          obtain ⟨hx_500, hx_501, hx_502, hx_503, hx_504, hx_505⟩ := hrs_23.2.2.2.1 hkd
          have hs_499 : f (d (2000 + i_3)) = .inr (5, [.int (nI i_3), .int (u.2 4 i_3), .ref (d (3000 + i_3)), .int (u.2 22 i_3), .ref (d (4000 + i_3)), .int (u.2 10 i_3), .int (u.2 14 i_3), .ref (d (5000 + i_3)), .ref (d (6000 + i_3))]) := by rw [hs_11, ht_498.2, hx_500]; rfl
          refine va_new (ci := 7) (fs := [.null, .int 0, .int 0, .int 0, .int 0, .int 0]) (C := RX8) (T := TX8) (N := 6) hx hb hts (by decide +kernel) tyX8 tyX8_ok hown (hts (.classLink RX11 106 RX8) (by decide +kernel)) (hts (.instantiable RX8 6) (by decide +kernel)) (hts (.initialized RX8) (by decide +kernel)) hK hP hD hS hA rfl nwX8 (Nat.le_of_ble_eq_true rfl) (Nat.le_of_ble_eq_true rfl) dX11_put_28 (fun q_509 H hPn hDn hS => ?_)
          have hP := vaP_l hPn
          refine W.widen (k := 1) (n := 6) (Nat.le_of_ble_eq_true rfl) (Nat.le_of_ble_eq_true rfl) ?_
          refine lv_dup hx hb dX11_put_31 rfl ?_
          refine lv_aload hx hb dX11_put_32 (lv_at hl 0 rfl) ?_
          refine lv_iload_n hx hb dX11_put_34 rfl (lv_at hl 3 rfl) ?_
          refine lv_iload_n hx hb dX11_put_35 rfl (lv_at hl 4 rfl) ?_
          refine lv_iload hx hb dX11_put_36 (lv_at hl 5 rfl) ?_
          refine lv_aload hx hb dX11_put_38 (lv_at hl 0 rfl) ?_
          refine lv_iload hx hb dX11_put_40 (lv_at hl 6 rfl) ?_
          obtain ⟨kk_510, hk_511⟩ := pl_at ht_498.1 hs_499
          refine vp_callSi (va_runU (As := [.int p4]) (rest := [.int p3, .int p2, .int p1, .ref (d (2000 + i_3)), .ref q_509, .ref q_509]) ⟨hx, hb, hml, hown, hts⟩ (y_X6_columnsBy l dC dI q h0 d k z f hI (d (2000 + i_3)) (d (3000 + i_3)) (d (4000 + i_3)) (d (5000 + i_3)) (d (6000 + i_3)) (nI i_3) (u.2 4 i_3) (u.2 22 i_3) (u.2 10 i_3) (u.2 14 i_3) ht_498 hs_499 p4 none (u.2 11 i_3) (u.2 12 i_3) (u.2 13 i_3) (u.2 7 i_3) (u.2 8 i_3) hx_501) (va_cwO (b0 := cX4_columnsBy) (m0 := 2) (r0 := (some .int)) 1 hts gX11_put_X6_columnsBy_u142X6 rfl rfl rfl (by decide +kernel) (by decide +kernel) ⟨Nat.le_of_ble_eq_true rfl, Nat.le_of_ble_eq_true rfl⟩) ⟨px_fb, va_recv hK hP (ci := 5) (q0 := kk_510) rfl hk_511, fun U hU hW => ⟨rfl, px_to hU hW hP hK hN hXN⟩⟩ rfl rfl hl.1 rfl (lv_room (Nat.le_of_ble_eq_true rfl)) dX11_put_42 ⟨Nat.le_of_ble_eq_true rfl, Nat.le_of_ble_eq_true rfl⟩).run (fun r hw => ?_)
          obtain ⟨zr_512, ezr_512⟩ : ∃ y : Int32, y = s_colsP p4 (u.2 7 i_3) := ⟨_, rfl⟩
          have hr9 : zr_512 = r := ezr_512.trans hw.symm
          subst hr9
          refine lv_aload hx hb dX11_put_45 (lv_at hl 0 rfl) ?_
          refine lv_iload hx hb dX11_put_47 (lv_at hl 6 rfl) ?_
          obtain ⟨kk_513, hk_514⟩ := pl_at ht_498.1 hs_499
          refine vp_callSi (va_runU (As := [.int p4]) (rest := [.int zr_512, .int p3, .int p2, .int p1, .ref (d (2000 + i_3)), .ref q_509, .ref q_509]) ⟨hx, hb, hml, hown, hts⟩ (y_X6_linesBy l dC dI q h0 d k z f hI (d (2000 + i_3)) (d (3000 + i_3)) (d (4000 + i_3)) (d (5000 + i_3)) (d (6000 + i_3)) (nI i_3) (u.2 4 i_3) (u.2 22 i_3) (u.2 10 i_3) (u.2 14 i_3) ht_498 hs_499 p4 none (u.2 11 i_3) (u.2 12 i_3) (u.2 13 i_3) (u.2 7 i_3) (u.2 8 i_3) hx_501) (va_cwA 1 hts gX11_put_X6_linesBy_u145X6 rfl rfl rfl hXN.1 (by decide +kernel) ⟨Nat.le_of_ble_eq_true rfl, Nat.le_of_ble_eq_true rfl⟩) ⟨px_fb, va_recv hK hP (ci := 5) (q0 := kk_513) rfl hk_514, fun U hU hW => ⟨rfl, px_to hU hW hP hK hN hXN⟩⟩ rfl rfl hl.1 rfl (lv_room (Nat.le_of_ble_eq_true rfl)) dX11_put_49 ⟨Nat.le_of_ble_eq_true rfl, Nat.le_of_ble_eq_true rfl⟩).run (fun r hw => ?_)
          obtain ⟨zr_515, ezr_515⟩ : ∃ y : Int32, y = s_linesP p4 (u.2 8 i_3) := ⟨_, rfl⟩
          have hr9 : zr_515 = r := ezr_515.trans hw.symm
          subst hr9
          have hPc := vaP_r hPn
          have hDc := vaD_r hDn
          have hFc := fr_part hDn hS hA
          refine va_callv (va_runI (As := [.ref (d (2000 + i_3)), .int p1, .int p2, .int p3, .int zr_512, .int zr_515]) (rest := [.ref q_509]) ⟨hx, hb, hml, hown, hts⟩ (x_PieceI l dC dI q_509 (d (2000 + i_3)) p1 p2 p3 zr_512 zr_515 H.size) (cwI 6 hts gX11_put_X8_init rfl rfl rfl (hts (.initialized RX8) (by decide +kernel)) (hts (.methodLink RX11 108 yX8_init) (by decide +kernel)) (hts (.instanceMethod yX8_init) (by decide +kernel)) rfl (by decide +kernel) ⟨Nat.le_of_ble_eq_true rfl, Nat.le_of_ble_eq_true rfl⟩) ⟨gw_fb, fun U hU hW => ⟨rfl, by rw [hU], pw_to hU hW hPc (hK.sub (tys' := []) [] rfl) hN, hDc.weaken (fun _ _ _ _ => trivial)⟩⟩ rfl rfl hl.1 rfl (lv_room (Nat.le_of_ble_eq_true rfl)) dX11_put_52 ⟨Nat.le_of_ble_eq_true rfl, Nat.le_of_ble_eq_true rfl⟩) hS (fun q _ h => hFc q h) hFc (fun u9 t H1 locs ht hvm hw hB hz1 hk1 hS => ?_)
          obtain ⟨hP1, hD1⟩ := hB
          rw [ht] at hP1
          obtain ⟨hP, hD⟩ := va_joinQ (X := [(q_509, .inr (7, [.null, .int 0, .int 0, .int 0, .int 0, .int 0]))]) (cx := [(q_509, .inr (7, [.null, .int 0, .int 0, .int 0, .int 0, .int 0]))]) (wr := []) (w1 := [(q_509, .inr (7, [va_rf (some (d (2000 + i_3))), .int p1, .int p2, .int p3, .int zr_512, .int zr_515]))]) (pl := va_pl z.1 f) (vaP_swap hPn) (vaD_rotR hDn) [0] [] rfl rfl rfl (fun i hi => absurd hi List.not_mem_nil) hk1 hFc hP1 hD1
          generalize H1 = H at hP hS ⊢
          obtain ⟨hnm_516, hP, hD⟩ := pushC hP hD
          obtain ⟨z_517, ez_517⟩ : ∃ y : gS, y = pz z q_509 (22, 0, [va_rf (some (d (2000 + i_3))), .int p1, .int p2, .int p3, .int zr_512, .int zr_515]) := ⟨_, rfl⟩
          obtain ⟨f_518, ef_518⟩ : ∃ y : xF, y = va_up f q_509 (.inr (7, [va_rf (some (d (2000 + i_3))), .int p1, .int p2, .int p3, .int zr_512, .int zr_515])) := ⟨_, rfl⟩
          have hE_519 : zE z z_517 := by rw [ez_517]; exact pz_E hnm_516 _
          have hI : xI q h0 d k z_517 f_518 := by rw [ez_517, ef_518]; exact x_push hI hnm_516 (Or.inr (by decide : (15 : Nat) < 22)) (cO_pc b_26 (ty_s (tg_itm ht_498 (by decide))) hnm_516)
          rw [show z.1 ++ [q_509] = z_517.1 from by rw [ez_517]; rfl, ← ef_518] at hP hD
          have ht_498 := zE_tg hE_519 ht_498
          have hpa_12 := zE_tg hE_519 hpa_12
          have hfa_20 := zE_tg hE_519 hfa_20
          have hx_501 := zE_pc hE_519 hx_501
          have ht_520 : tg z_517 q_509 22 := by rw [ez_517]; exact pz_t _ _ _
          have hEz : zE z z_517 := zE_tr (zE_rf z) hE_519
          have h3m : f_518 (d 3) = f (d 3) := by rw [ef_518]; exact (up_o (fun e9 => hnm_516 (by rw [← e9]; exact hrp.2.2.2.2.2.2.2.1.1.1))).trans h3m
          have hrp_521 : rep q d u z_517 f_518 := by rw [ez_517, ef_518]; exact rep_grow hrp (pz_E hnm_516 _) (oK_push (fun _ _ => rfl) (zE_rf _) hnm_516)
          obtain ⟨rs_522, n_523, g_524, fg_525, hit_526, hs_527, hpa_528, hps_529, h1_530, h6_531, hcb_532, hpl_533, hlg_534, hnn_535, hfa_536, hfs_537, hfe_538, hrs_539, hkt_540⟩ := it_all hI hrp_521.2.2.1 hi_4
          have ht_541 : tg z_517 (d (2000 + i_3)) 13 := ⟨hit_526.1, by rw [hkt_540, hkd]; rfl⟩
          obtain ⟨hx_543, hx_544, hx_545, hx_546, hx_547, hx_548⟩ := hrs_539.2.2.2.1 hkd
          have hs_542 : f_518 (d (2000 + i_3)) = .inr (5, [.int (nI i_3), .int (u.2 4 i_3), .ref (d (3000 + i_3)), .int (u.2 22 i_3), .ref (d (4000 + i_3)), .int (u.2 10 i_3), .int (u.2 14 i_3), .ref (d (5000 + i_3)), .ref (d (6000 + i_3))]) := by rw [hs_527, ht_541.2, hx_543]; rfl
          refine W.eq (g2 := F0 m 55 ls [.ref q_509]) rfl ?_
          have hp_552 : pcS z_517 q_509 (some (d (2000 + i_3))) p1 p2 p3 zr_512 zr_515 := ⟨ht_520, by rw [ez_517, pz_s]⟩
          refine lv_astore (lv' := [(7, .ref q_509), (6, .ref (d (2000 + i_3))), (0, .ref h0), (1, .int p0), (2, .int p1), (3, .int p2), (4, .int p3), (5, .int p4)]) hx hb dX11_put_55 hl (by decide) rfl (fun ls hl => ?_)
          refine lv_aload hx hb dX11_put_57 (lv_at hl 1 rfl) ?_
          obtain ⟨kk_553, hk_554⟩ := pl_at ht_541.1 hs_542
          refine vp_callSi (va_runU (As := []) (rest := []) ⟨hx, hb, hml, hown, hts⟩ (y_hasRoom l dC dI q h0 d k z_517 f_518 hI (d (2000 + i_3)) hit_526 (nI i_3) (u.2 4 i_3) (u.2 22 i_3) (d (3000 + i_3)) (d (4000 + i_3)) rs_522 hs_527 n_523 g_524 hps_529 hpa_528) (va_cwU 0 hts gX11_put_X4_hasRoom_u148X6 rfl rfl rfl rfl (by decide +kernel) ⟨Nat.le_of_ble_eq_true rfl, Nat.le_of_ble_eq_true rfl⟩) ⟨px_fb, va_recv hK hP (ci := 5) (q0 := kk_553) rfl hk_554, fun U hU hW => ⟨rfl, px_to hU hW hP hK hN hXN⟩⟩ rfl rfl hl.1 rfl (lv_room (Nat.le_of_ble_eq_true rfl)) dX11_put_59 ⟨Nat.le_of_ble_eq_true rfl, Nat.le_of_ble_eq_true rfl⟩).run (fun r hw => ?_)
          obtain rfl : r = (bP ((u.2 22 i_3) < nI n_523)) := hw
          refine lv_if_eq (tgt := 102) hx hb dX11_put_62 (by decide) (fun c_555 => ?_) (fun c_555 => ?_)
          ·
            refine lv_iconst (v := (-1)) hx hb dX11_put_102 (by decide) ?_
            refine W.widen (k := 2) (n := 10) (Nat.le_of_ble_eq_true rfl) (Nat.le_of_ble_eq_true rfl) ?_
            exact W.iret (v := (-1)) hx hb hr (fun t ht hW => ⟨⟨(-1), (k, z_517, f_518), rfl, (Or.inl ⟨Or.inr (Or.inr (Or.inr ⟨i_3, ep_5, hi_4, Or.inl (noN h6_531 hcb_532 hnn_535 (bP_0 c_555))⟩)), ⟨hEz, hI, rfl, hrp_521, fun _ _ => rfl, hk1o, Or.inl ⟨h3m, rfl⟩⟩⟩), by rw [ht]; exact hP, hD⟩, hS.F ht⟩) hS.2.2 dX11_put_103
          ·
            refine lv_aload_n hx hb dX11_put_65 rfl (lv_at hl 2 rfl) ?_
            obtain ⟨kk_556, hk_557⟩ := pl_at hI.2.1.1.1 hI.2.2.2.1.1
            refine va_get (D := (dC, dI)) (ci := 10) (v := .ref (d 0)) (C := RX11) (T := TX11) (N := 9) hx hb hts (by decide +kernel) hown hK hP kk_556 hk_557 rfl 0 (by decide) (hts (.fieldLink RX11 11 "PageOne" "pages" "[LPageOne$Sheet;") (by decide +kernel)) (fun _ h9 => h9) rfl dX11_put_66 ?_
            refine lv_iload_n hx hb dX11_put_69 rfl (lv_at hl 4 rfl) ?_
            obtain ⟨g_558, hs_559, hg_560⟩ := x_pg hI hI.2.1.2.1
            obtain ⟨kk_561, hk_562⟩ := pl_at hI.2.1.2.1.1 hs_559
            refine va_aldq hx hb hK hP kk_561 2 hk_562 rfl (vin b_26 (by decide)) dX11_put_70 ?_
            obtain ⟨b_563, hg_564, ht_565⟩ := hg_560 _ (vlt (vin b_26 (by decide)))
            rw [hg_564]
            refine W.eq (g2 := F0 m 71 ls [.ref b_563]) rfl ?_
            have hb_566 := pg_at hrp_521.1 hs_559 (clp b_26) hg_564
            subst hb_566
            obtain ⟨dd_567, ii_568, gl_569, gc_570, ht_571, ht_572, ht_573, hs_574, hg_575, hgb_576, hc_577, el_578, ec_579⟩ := pg_all hI hrp_521.1 (clp b_26)
            refine lv_aload hx hb dX11_put_71 (lv_at hl 0 rfl) ?_
            obtain ⟨kk_580, hk_581⟩ := pl_at ht_571.1 hs_574
            refine vp_callSi (va_runV (As := [.ref q_509]) (rest := []) ⟨hx, hb, hml, hown, hts⟩ (y_isFree l dC dI q h0 d k z_517 f_518 hI (d (10 + p1.toNatClampNeg)) (d (30 + p1.toNatClampNeg)) (d (50 + p1.toNatClampNeg)) (u.2 1 p1.toNatClampNeg) dd_567 ii_568 gl_569 gc_570 ht_571 hs_574 ht_572 ht_573 hg_575 hgb_576 hc_577 q_509 (some (d (2000 + i_3))) p1 p2 p3 zr_512 zr_515 hp_552) (cwV 1 hts gX11_put_X9_isFree rfl rfl rfl (by decide +kernel) ⟨Nat.le_of_ble_eq_true rfl, Nat.le_of_ble_eq_true rfl⟩) ⟨px_fb, va_recv hK hP (ci := 8) (q0 := kk_580) rfl hk_581, fun U hU hW => ⟨rfl, px_to hU hW hP hK hN hXN⟩⟩ rfl rfl hl.1 rfl (lv_room (Nat.le_of_ble_eq_true rfl)) dX11_put_73 ⟨Nat.le_of_ble_eq_true rfl, Nat.le_of_ble_eq_true rfl⟩).run (fun r hw => ?_)
            rcases hw with ⟨hw, hfr_582⟩ | ⟨hw, hfr_582⟩
            ·
              subst hw
              refine lv_if_eq (tgt := 102) hx hb dX11_put_76 (by decide) (fun c_583 => absurd c_583 (by decide)) (fun c_583 => ?_)
              refine lv_aload hx hb dX11_put_79 (lv_at hl 1 rfl) ?_
              refine lv_aload hx hb dX11_put_81 (lv_at hl 0 rfl) ?_
              refine lv_aload_n hx hb dX11_put_83 rfl (lv_at hl 2 rfl) ?_
              obtain ⟨kk_584, hk_585⟩ := pl_at hI.2.1.1.1 hI.2.2.2.1.1
              refine va_get (D := (dC, dI)) (ci := 10) (v := .ref (d 0)) (C := RX11) (T := TX11) (N := 9) hx hb hts (by decide +kernel) hown hK hP kk_584 hk_585 rfl 0 (by decide) (hts (.fieldLink RX11 11 "PageOne" "pages" "[LPageOne$Sheet;") (by decide +kernel)) (fun _ h9 => h9) rfl dX11_put_84 ?_
              refine lv_iload_n hx hb dX11_put_87 rfl (lv_at hl 4 rfl) ?_
              obtain ⟨kk_586, hk_587⟩ := pl_at hI.2.1.2.1.1 hs_559
              refine va_aldq hx hb hK hP kk_586 2 hk_587 rfl (vin b_26 (by decide)) dX11_put_88 ?_
              obtain ⟨b_588, hg_589, ht_590⟩ := hg_560 _ (vlt (vin b_26 (by decide)))
              rw [hg_589]
              refine W.eq (g2 := F0 m 89 ls [.ref b_588, .ref q_509, .ref (d (2000 + i_3))]) rfl ?_
              have hb_591 := pg_at hrp_521.1 hs_559 (clp b_26) hg_589
              subst hb_591
              obtain ⟨dd_592, ii_593, gl_594, gc_595, ht_596, ht_597, ht_598, hs_599, hg_600, hgb_601, hc_602, el_603, ec_604⟩ := pg_all hI hrp_521.1 (clp b_26)
              obtain ⟨kk_605, hk_606⟩ := pl_at ht_596.1 hs_599
              refine va_get (D := (dC, dI)) (ci := 8) (v := .int (u.2 1 p1.toNatClampNeg)) (C := RX9) (T := TX9) (N := 5) hx hb hts (by decide +kernel) hown hK hP kk_605 hk_606 rfl 2 (by decide) (hts (.fieldLink RX11 63 "PageOne$Sheet" "measure" "I") (by decide +kernel)) (fun _ h9 => h9) rfl dX11_put_89 ?_
              refine lv_aload_n hx hb dX11_put_92 rfl (lv_at hl 2 rfl) ?_
              obtain ⟨kk_607, hk_608⟩ := pl_at hI.2.1.1.1 hI.2.2.2.1.1
              refine va_get (D := (dC, dI)) (ci := 10) (v := .int (k 2)) (C := RX11) (T := TX11) (N := 9) hx hb hts (by decide +kernel) hown hK hP kk_607 hk_608 rfl 7 (by decide) (hts (.fieldLink RX11 41 "PageOne" "today" "I") (by decide +kernel)) (fun _ h9 => h9) rfl dX11_put_93 ?_
              obtain ⟨kk_609, hk_610⟩ := pl_at ht_541.1 hs_542
              refine vp_callSi (va_runU (As := [.ref q_509, .int (u.2 1 p1.toNatClampNeg), .int (k 2)]) (rest := []) ⟨hx, hb, hml, hown, hts⟩ (y_X6_maySit l dC dI q h0 d k z_517 f_518 hI (d (2000 + i_3)) (d (3000 + i_3)) (d (4000 + i_3)) (d (5000 + i_3)) (d (6000 + i_3)) (nI i_3) (u.2 4 i_3) (u.2 22 i_3) (u.2 10 i_3) (u.2 14 i_3) ht_541 hs_542 (u.2 1 p1.toNatClampNeg) (k 2) none (u.2 11 i_3) (u.2 12 i_3) (u.2 13 i_3) (u.2 7 i_3) (u.2 8 i_3) hx_544 q_509 (some (d (2000 + i_3))) p1 p2 p3 zr_512 zr_515 hp_552) (va_cwO (b0 := cX4_maySit) (m0 := 4) (r0 := (some .boolean)) 3 hts gX11_put_X6_maySit_u155X6 rfl rfl rfl (by decide +kernel) (by decide +kernel) ⟨Nat.le_of_ble_eq_true rfl, Nat.le_of_ble_eq_true rfl⟩) ⟨px_fb, va_recv hK hP (ci := 5) (q0 := kk_609) rfl hk_610, fun U hU hW => ⟨rfl, px_to hU hW hP hK hN hXN⟩⟩ rfl rfl hl.1 rfl (lv_room (Nat.le_of_ble_eq_true rfl)) dX11_put_96 ⟨Nat.le_of_ble_eq_true rfl, Nat.le_of_ble_eq_true rfl⟩).run (fun r hw => ?_)
              obtain ⟨zr_611, ezr_611⟩ : ∃ y : Int32, y = s_sitP p1 p2 p3 zr_512 zr_515 (u.2 11 i_3) (u.2 12 i_3) (u.2 13 i_3) (u.2 7 i_3) (u.2 8 i_3) := ⟨_, rfl⟩
              have hr9 : zr_611 = r := ezr_611.trans hw.symm
              subst hr9
              refine lv_if_ne (tgt := 104) hx hb dX11_put_99 (by decide) (fun c_612 => ?_) (fun c_612 => ?_)
              ·
                have hmF := (fr_iff (clp b_26) el_578 ec_579 hgb_576).mp hfr_582
                obtain ⟨P, eP⟩ : ∃ y, y = p1.toNatClampNeg := ⟨_, rfl⟩
                have eP1 : p1 = nI P := by rw [eP]; exact (nI_of_bw b_26).1
                obtain ⟨X, Y, D, N, eX, eY, eD, eN, hrx, hemp⟩ := fr_rIn (clp b_26) (fun a ha => by rw [← el_578 a ha]; exact hgb_576 a ha) hmF
                rw [← eP] at hrx hemp hmF
                have hrx9 := hrx
                obtain ⟨hP9, hX, hD1, hY, hN1, hin⟩ := hrx9
                have hpcx : pcS z_517 q_509 (some (d (2000 + i_3))) (nI P) (nI X) (nI Y) (nI D) (nI N) := by rw [← eP1, ← eX, ← eY, ← eD, ← eN]; exact hp_552
                have hlg_613 := lg_of hpcx ⟨b7n (by omega), b60n (by omega), bwN (by have e8 : (8 : Int32).toInt = 8 := rfl; rw [e8]; omega) (by omega), b60n (by omega)⟩
                have hrm9 : (u.2 22 i_3).toNatClampNeg < (if u.2 4 i_3 = 0 then 6 else 1) := ltN h6_531 hcb_532 hnn_535 (bP_n c_555)
                refine lv_aload_n hx hb dX11_put_104 rfl (lv_at hl 2 rfl) ?_
                refine lv_aload hx hb dX11_put_105 (lv_at hl 0 rfl) ?_
                obtain ⟨kk_614, hk_615⟩ := pl_at hI.2.1.1.1 hI.2.2.2.1.1
                have hFc := fr_all hD hS hA
                refine va_callv (va_runV (As := [.ref q_509]) (rest := []) ⟨hx, hb, hml, hown, hts⟩ (y_standI l dC dI q h0 d k z_517 f_518 hI q_509 P X Y D N u hrp_521 hk0 hk1o hk2 hk3 hP9 hX hD1 hY hin hne i_3 hi_4 hpcx hrm9 H.size) (cwV 1 hts gX11_put_X11_stand rfl rfl rfl (by decide +kernel) ⟨Nat.le_of_ble_eq_true rfl, Nat.le_of_ble_eq_true rfl⟩) ⟨gx_fb, va_recv hK hP (ci := 10) (q0 := kk_614) rfl hk_615, fun U hU hW => ⟨rfl, by rw [hU], px_to hU hW hP hK hN hXN, hD.weaken (fun _ _ _ _ => trivial)⟩⟩ rfl rfl hl.1 rfl (lv_room (Nat.le_of_ble_eq_true rfl)) dX11_put_107 ⟨Nat.le_of_ble_eq_true rfl, Nat.le_of_ble_eq_true rfl⟩) hS (fun q _ h => hFc q h) hFc (fun w_616 t H1 locs ht hvm hw hB hz1 hk1 hS => ?_)
                obtain ⟨hP, hD1⟩ := hB
                rw [ht] at hP
                rw [hw.2.1] at hP hD1
                have hD := hD1.weaken (fun _ q _ h => hFc q.1 h)
                have hI := hw.2.2.1
                have hw0 := hw
                generalize w_616.2.2 = f_617 at hP hD hI hw0
                generalize H1 = H at hP hS ⊢
                obtain ⟨u2, eu2⟩ : ∃ y : mS, y = mStand u (nI i_3) P X Y D N := ⟨_, rfl⟩
                have hrp2 : rep q d u2 z_517 f_617 := by rw [eu2]; exact hw0.2.2.2.1
                have h3m : f_617 (d 3) = f (d 3) := hw0.2.2.2.2.trans h3m
                refine lv_aload_n hx hb dX11_put_110 rfl (lv_at hl 2 rfl) ?_
                refine va_new (ci := 0) (fs := [.null, .int 0, .null, .int 0]) (C := RX0) (T := TX0) (N := 4) hx hb hts (by decide +kernel) tyX0 tyX0_ok hown (hts (.classLink RX11 28 RX0) (by decide +kernel)) (hts (.instantiable RX0 4) (by decide +kernel)) (hts (.initialized RX0) (by decide +kernel)) hK hP hD hS hA rfl nwX0 (Nat.le_of_ble_eq_true rfl) (Nat.le_of_ble_eq_true rfl) dX11_put_111 (fun q_618 H hPn hDn hS => ?_)
                have hP := vaP_l hPn
                refine W.widen (k := 2) (n := 10) (Nat.le_of_ble_eq_true rfl) (Nat.le_of_ble_eq_true rfl) ?_
                refine lv_dup hx hb dX11_put_114 rfl ?_
                refine lv_aload hx hb dX11_put_115 (lv_at hl 0 rfl) ?_
                refine lv_iconst (v := 0) hx hb dX11_put_117 (by decide) ?_
                refine lv_null hx hb dX11_put_118 ?_
                have hPc := vaP_r hPn
                have hDc := vaD_r hDn
                have hFc := fr_part hDn hS hA
                refine va_callv (va_runI (As := [.ref q_509, .int 0, .null]) (rest := [.ref q_618, .ref h0]) ⟨hx, hb, hml, hown, hts⟩ (x_ActP l dC dI q_618 q_509 H.size) (cwI 3 hts gX11_put_X0_init rfl rfl rfl (hts (.initialized RX0) (by decide +kernel)) (hts (.methodLink RX11 163 yX0_init) (by decide +kernel)) (hts (.instanceMethod yX0_init) (by decide +kernel)) rfl (by decide +kernel) ⟨Nat.le_of_ble_eq_true rfl, Nat.le_of_ble_eq_true rfl⟩) ⟨gw_fb, fun U hU hW => ⟨rfl, by rw [hU], pw_to hU hW hPc (hK.sub (tys' := []) [] rfl) hN, hDc.weaken (fun _ _ _ _ => trivial)⟩⟩ rfl rfl hl.1 rfl (lv_room (Nat.le_of_ble_eq_true rfl)) dX11_put_119 ⟨Nat.le_of_ble_eq_true rfl, Nat.le_of_ble_eq_true rfl⟩) hS (fun q _ h => hFc q h) hFc (fun u9 t H1 locs ht hvm hw hB hz1 hk1 hS => ?_)
                obtain ⟨hP1, hD1⟩ := hB
                rw [ht] at hP1
                obtain ⟨hP, hD⟩ := va_joinQ (X := [(q_618, .inr (0, [.null, .int 0, .null, .int 0]))]) (cx := [(q_618, .inr (0, [.null, .int 0, .null, .int 0]))]) (wr := []) (w1 := [(q_618, .inr (0, [.ref q_509, .int 0, va_rf none, .int 1]))]) (pl := va_pl z_517.1 f_617) (vaP_swap hPn) (vaD_rotR hDn) [0] [] rfl rfl rfl (fun i hi => absurd hi List.not_mem_nil) hk1 hFc hP1 hD1
                generalize H1 = H at hP hS ⊢
                obtain ⟨hnm_619, hP, hD⟩ := pushC hP hD
                obtain ⟨z_620, ez_620⟩ : ∃ y : gS, y = pz z_517 q_618 (23, 0, [.ref q_509, .int 0, va_rf none, .int 1]) := ⟨_, rfl⟩
                obtain ⟨f_621, ef_621⟩ : ∃ y : xF, y = va_up f_617 q_618 (.inr (0, [.ref q_509, .int 0, va_rf none, .int 1])) := ⟨_, rfl⟩
                have hE_622 : zE z_517 z_620 := by rw [ez_620]; exact pz_E hnm_619 _
                have hI : xI q h0 d k z_620 f_621 := by rw [ez_620, ef_621]; exact x_push hI hnm_619 (Or.inr (by decide : (15 : Nat) < 23)) (cO_ac hlg_613 hnm_619)
                rw [show z_517.1 ++ [q_618] = z_620.1 from by rw [ez_620]; rfl, ← ef_621] at hP hD
                have ht_541 := zE_tg hE_622 ht_541
                have hpa_528 := zE_tg hE_622 hpa_528
                have hfa_536 := zE_tg hE_622 hfa_536
                have hlg_613 := zE_lg hE_622 hlg_613
                have ht_596 := zE_tg hE_622 ht_596
                have ht_597 := zE_tg hE_622 ht_597
                have ht_598 := zE_tg hE_622 ht_598
                have hx_544 := zE_pc hE_622 hx_544
                have hp_552 := zE_pc hE_622 hp_552
                have hpcx := zE_pc hE_622 hpcx
                have ht_623 : tg z_620 q_618 23 := by rw [ez_620]; exact pz_t _ _ _
                have hEz : zE z z_620 := zE_tr hEz hE_622
                have h3m : f_621 (d 3) = f (d 3) := by rw [ef_621]; exact (up_o (fun e9 => hnm_619 (by rw [← e9]; exact hrp2.2.2.2.2.2.2.2.1.1.1))).trans h3m
                have hrp_624 : rep q d u2 z_620 f_621 := by rw [ez_620, ef_621]; exact rep_grow hrp2 (pz_E hnm_619 _) (oK_push (fun _ _ => rfl) (zE_rf _) hnm_619)
                refine W.eq (g2 := F0 m 122 ls [.ref q_618, .ref h0]) rfl ?_
                have hIb := hI
                have hcx : ¬ 300 ≤ k 1 := hca_30
                obtain ⟨kk_625, hk_626⟩ := pl_at hI.2.1.1.1 hI.2.2.2.1.1
                have hFc := fr_all hD hS hA
                refine va_callv (va_runV (As := [.ref q_618]) (rest := []) ⟨hx, hb, hml, hown, hts⟩ (y_keep l dC dI q h0 d k z_620 f_621 hI q_618 ht_623 hcx H.size) (cwV 1 hts gX11_put_X11_keep rfl rfl rfl (by decide +kernel) ⟨Nat.le_of_ble_eq_true rfl, Nat.le_of_ble_eq_true rfl⟩) ⟨gx_fb, va_recv hK hP (ci := 10) (q0 := kk_625) rfl hk_626, fun U hU hW => ⟨rfl, by rw [hU], px_to hU hW hP hK hN hXN, hD.weaken (fun _ _ _ _ => trivial)⟩⟩ rfl rfl hl.1 rfl (lv_room (Nat.le_of_ble_eq_true rfl)) dX11_put_122 ⟨Nat.le_of_ble_eq_true rfl, Nat.le_of_ble_eq_true rfl⟩) hS (fun q _ h => hFc q h) hFc (fun w_627 t H1 locs ht hvm hw hB hz1 hk1 hS => ?_)
                obtain ⟨hP, hD1⟩ := hB
                rw [ht] at hP
                rw [hw.1] at hP hD1
                have hD := hD1.weaken (fun _ q _ h => hFc q.1 h)
                have hI := hw.2.1
                have hw0 := hw
                generalize w_627.1 = k_629 at hI hw0
                generalize w_627.2.2 = f_628 at hP hD hI hw0
                generalize H1 = H at hP hS ⊢
                have hkp := hw0.2.2
                have hrp_630 : rep q d u2 z_620 f_628 := rep_kp hrp_624 hIb (by rw [zE_o hEz hIo.2.1.1.1]; exact hz0) hkp
                have hi3 : i_3 < (u2.1 3).toNatClampNeg := by rw [eu2]; exact hi_4
                obtain ⟨rs_631, n_632, g_633, fg_634, hit_635, hs_636, hpa_637, hps_638, h1_639, h6_640, hcb_641, hpl_642, hlg_643, hnn_644, hfa_645, hfs_646, hfe_647, hrs_648, hkt_649⟩ := it_all hI hrp_630.2.2.1 hi3
                refine lv_aload hx hb dX11_put_125 (lv_at hl 1 rfl) ?_
                obtain ⟨kk_650, hk_651⟩ := pl_at hit_635.1 hs_636
                refine w_then (F0 m 130 ls [.int (u2.2 22 i_3)]) (fun hgo => ?_) ?_
                ·
                  rcases x_tag hit_635 with ht9 | ht9 | ht9 | ht9 | ht9 | ht9
                  ·
                    rw [ht9.2] at hk_651
                    exact va_get (D := (dC, dI)) (ci := 2) (v := .int (u2.2 22 i_3)) (C := RX2) (T := TX2) (N := 7) hx hb hts (by decide +kernel) hown hK hP kk_650 hk_651 rfl 3 (by decide) (hts (.fieldLink RX11 170 "PageOne$Item" "count" "I") (by decide +kernel)) (fun _ h9 => h9) rfl dX11_put_127 hgo
                  ·
                    rw [ht9.2] at hk_651
                    exact va_get (D := (dC, dI)) (ci := 3) (v := .int (u2.2 22 i_3)) (C := RX3) (T := TX3) (N := 8) hx hb hts (by decide +kernel) hown hK hP kk_650 hk_651 rfl 3 (by decide) (hts (.fieldLink RX11 170 "PageOne$Item" "count" "I") (by decide +kernel)) (fun _ h9 => h9) rfl dX11_put_127 hgo
                  ·
                    rw [ht9.2] at hk_651
                    exact va_get (D := (dC, dI)) (ci := 4) (v := .int (u2.2 22 i_3)) (C := RX5) (T := TX5) (N := 7) hx hb hts (by decide +kernel) hown hK hP kk_650 hk_651 rfl 3 (by decide) (hts (.fieldLink RX11 170 "PageOne$Item" "count" "I") (by decide +kernel)) (fun _ h9 => h9) rfl dX11_put_127 hgo
                  ·
                    rw [ht9.2] at hk_651
                    exact va_get (D := (dC, dI)) (ci := 5) (v := .int (u2.2 22 i_3)) (C := RX6) (T := TX6) (N := 9) hx hb hts (by decide +kernel) hown hK hP kk_650 hk_651 rfl 3 (by decide) (hts (.fieldLink RX11 170 "PageOne$Item" "count" "I") (by decide +kernel)) (fun _ h9 => h9) rfl dX11_put_127 hgo
                  ·
                    rw [ht9.2] at hk_651
                    exact va_get (D := (dC, dI)) (ci := 6) (v := .int (u2.2 22 i_3)) (C := RX7) (T := TX7) (N := 8) hx hb hts (by decide +kernel) hown hK hP kk_650 hk_651 rfl 3 (by decide) (hts (.fieldLink RX11 170 "PageOne$Item" "count" "I") (by decide +kernel)) (fun _ h9 => h9) rfl dX11_put_127 hgo
                  ·
                    rw [ht9.2] at hk_651
                    exact va_get (D := (dC, dI)) (ci := 9) (v := .int (u2.2 22 i_3)) (C := RX10) (T := TX10) (N := 9) hx hb hts (by decide +kernel) hown hK hP kk_650 hk_651 rfl 3 (by decide) (hts (.fieldLink RX11 170 "PageOne$Item" "count" "I") (by decide +kernel)) (fun _ h9 => h9) rfl dX11_put_127 hgo
                ·
                  exact W.iret (v := (u2.2 22 i_3)) hx hb hr (fun t ht hW => ⟨⟨(u2.2 22 i_3), (k_629, z_620, f_628), rfl, (Or.inr ⟨i_3, P, X, Y, D, N, ⟨ep_5, hi_4, eP1, eX, eY, ((show cpW u i_3 p4 = zr_512 by unfold cpW; rw [if_pos (by rw [hkd]; decide), ezr_512]; rfl)).trans eD, ((show cpH u i_3 p4 = zr_515 by unfold cpH; rw [if_neg (by rw [hkd]; decide), if_neg (by rw [hkd]; decide), if_neg (by rw [hkd]; decide), ezr_515]; rfl)).trans eN, (by rw [← hk1o]; exact (n300 hIo.1.2.1).2 hcx), hrx, hrm9, by rw [← eP1] at hmF; rw [(show cpW u i_3 p4 = zr_512 by unfold cpW; rw [if_pos (by rw [hkd]; decide), ezr_512]; rfl), (show cpH u i_3 p4 = zr_515 by unfold cpH; rw [if_neg (by rw [hkd]; decide), if_neg (by rw [hkd]; decide), if_neg (by rw [hkd]; decide), ezr_515]; rfl)]; exact hmF, ⟨zr_611, c_612, by rw [(show cpW u i_3 p4 = zr_512 by unfold cpW; rw [if_pos (by rw [hkd]; decide), ezr_512]; rfl), (show cpH u i_3 p4 = zr_515 by unfold cpH; rw [if_neg (by rw [hkd]; decide), if_neg (by rw [hkd]; decide), if_neg (by rw [hkd]; decide), ezr_515]; rfl)]; exact ⟨(fun h9 => absurd (hkd.symm.trans h9) (by decide)), (fun _ => ezr_611), (fun h9 => absurd (hkd.symm.trans h9) (by decide)), (fun h9 => by rcases h9 with h8 | h8 | h8 <;> exact absurd (hkd.symm.trans h8) (by decide))⟩⟩, hemp⟩, by rw [show (u2.2 22 i_3) = (mStand u (nI i_3) P X Y D N).2 22 i_3 from by rw [eu2]]; exact put_fin hk1o hi8 hEz hI (by rw [← eu2]; exact hrp_630) h3m hkp.1 (kp_3 hrp_624 hIb hkp) ⟨ht_623, by rw [ez_620, pz_s]⟩ hpcx⟩), by rw [ht]; exact hP, hD⟩, hS.F ht⟩) hS.2.2 dX11_put_130
              ·
                refine lv_iconst (v := (-1)) hx hb dX11_put_102 (by decide) ?_
                refine W.widen (k := 2) (n := 10) (Nat.le_of_ble_eq_true rfl) (Nat.le_of_ble_eq_true rfl) ?_
                exact W.iret (v := (-1)) hx hb hr (fun t ht hW => ⟨⟨(-1), (k, z_517, f_518), rfl, (Or.inl ⟨Or.inr (Or.inr (Or.inr ⟨i_3, ep_5, hi_4, Or.inr (Or.inr (by rw [(show cpW u i_3 p4 = zr_512 by unfold cpW; rw [if_pos (by rw [hkd]; decide), ezr_512]; rfl), (show cpH u i_3 p4 = zr_515 by unfold cpH; rw [if_neg (by rw [hkd]; decide), if_neg (by rw [hkd]; decide), if_neg (by rw [hkd]; decide), ezr_515]; rfl)]; exact ⟨(fun h9 => absurd (hkd.symm.trans h9) (by decide)), (fun _ => (c_612.symm.trans ezr_611)), (fun h9 => absurd (hkd.symm.trans h9) (by decide)), (fun h9 => by rcases h9 with h8 | h8 | h8 <;> exact absurd (hkd.symm.trans h8) (by decide))⟩))⟩)), ⟨hEz, hI, rfl, hrp_521, fun _ _ => rfl, hk1o, Or.inl ⟨h3m, rfl⟩⟩⟩), by rw [ht]; exact hP, hD⟩, hS.F ht⟩) hS.2.2 dX11_put_103
            ·
              subst hw
              refine lv_if_eq (tgt := 102) hx hb dX11_put_76 (by decide) (fun c_652 => ?_) (fun c_652 => absurd (by decide) c_652)
              refine lv_iconst (v := (-1)) hx hb dX11_put_102 (by decide) ?_
              refine W.widen (k := 2) (n := 10) (Nat.le_of_ble_eq_true rfl) (Nat.le_of_ble_eq_true rfl) ?_
              exact W.iret (v := (-1)) hx hb hr (fun t ht hW => ⟨⟨(-1), (k, z_517, f_518), rfl, (Or.inl ⟨Or.inr (Or.inr (Or.inr ⟨i_3, ep_5, hi_4, Or.inr (Or.inl (fun h9 => hfr_582 ((fr_iff2 b_26 el_578 ec_579 hgb_576).mpr (by rw [(show cpW u i_3 p4 = zr_512 by unfold cpW; rw [if_pos (by rw [hkd]; decide), ezr_512]; rfl), (show cpH u i_3 p4 = zr_515 by unfold cpH; rw [if_neg (by rw [hkd]; decide), if_neg (by rw [hkd]; decide), if_neg (by rw [hkd]; decide), ezr_515]; rfl)] at h9; exact h9))))⟩)), ⟨hEz, hI, rfl, hrp_521, fun _ _ => rfl, hk1o, Or.inl ⟨h3m, rfl⟩⟩⟩), by rw [ht]; exact hP, hD⟩, hS.F ht⟩) hS.2.2 dX11_put_103
        ·
          have ht_653 : tg z (d (2000 + i_3)) 10 := ⟨hit_10.1, by rw [hkt_24, hkd]; rfl⟩
          have hs_654 : f (d (2000 + i_3)) = .inr (2, [.int (nI i_3), .int (u.2 4 i_3), .ref (d (3000 + i_3)), .int (u.2 22 i_3), .ref (d (4000 + i_3)), .int (u.2 5 i_3), .int (u.2 6 i_3)]) := by rw [hs_11, ht_653.2, hrs_23.2.2.2.2.1 hkd]; rfl
          refine va_new (ci := 7) (fs := [.null, .int 0, .int 0, .int 0, .int 0, .int 0]) (C := RX8) (T := TX8) (N := 6) hx hb hts (by decide +kernel) tyX8 tyX8_ok hown (hts (.classLink RX11 106 RX8) (by decide +kernel)) (hts (.instantiable RX8 6) (by decide +kernel)) (hts (.initialized RX8) (by decide +kernel)) hK hP hD hS hA rfl nwX8 (Nat.le_of_ble_eq_true rfl) (Nat.le_of_ble_eq_true rfl) dX11_put_28 (fun q_664 H hPn hDn hS => ?_)
          have hP := vaP_l hPn
          refine W.widen (k := 1) (n := 6) (Nat.le_of_ble_eq_true rfl) (Nat.le_of_ble_eq_true rfl) ?_
          refine lv_dup hx hb dX11_put_31 rfl ?_
          refine lv_aload hx hb dX11_put_32 (lv_at hl 0 rfl) ?_
          refine lv_iload_n hx hb dX11_put_34 rfl (lv_at hl 3 rfl) ?_
          refine lv_iload_n hx hb dX11_put_35 rfl (lv_at hl 4 rfl) ?_
          refine lv_iload hx hb dX11_put_36 (lv_at hl 5 rfl) ?_
          refine lv_aload hx hb dX11_put_38 (lv_at hl 0 rfl) ?_
          refine lv_iload hx hb dX11_put_40 (lv_at hl 6 rfl) ?_
          obtain ⟨kk_665, hk_666⟩ := pl_at ht_653.1 hs_654
          refine vp_callSi (va_runU (As := [.int p4]) (rest := [.int p3, .int p2, .int p1, .ref (d (2000 + i_3)), .ref q_664, .ref q_664]) ⟨hx, hb, hml, hown, hts⟩ (y_cols1 l dC dI q h0 d k z f hI (d (2000 + i_3)) p4 hit_10) (va_cwU 1 hts gX11_put_X4_columnsBy_u142X2 rfl rfl rfl rfl (by decide +kernel) ⟨Nat.le_of_ble_eq_true rfl, Nat.le_of_ble_eq_true rfl⟩) ⟨px_fb, va_recv hK hP (ci := 2) (q0 := kk_665) rfl hk_666, fun U hU hW => ⟨rfl, px_to hU hW hP hK hN hXN⟩⟩ rfl rfl hl.1 rfl (lv_room (Nat.le_of_ble_eq_true rfl)) dX11_put_42 ⟨Nat.le_of_ble_eq_true rfl, Nat.le_of_ble_eq_true rfl⟩).run (fun r hw => ?_)
          obtain ⟨zr_667, ezr_667⟩ : ∃ y : Int32, y = (1 : Int32) := ⟨_, rfl⟩
          have hr9 : zr_667 = r := ezr_667.trans hw.symm
          subst hr9
          refine lv_aload hx hb dX11_put_45 (lv_at hl 0 rfl) ?_
          refine lv_iload hx hb dX11_put_47 (lv_at hl 6 rfl) ?_
          obtain ⟨kk_668, hk_669⟩ := pl_at ht_653.1 hs_654
          refine vp_callSi (va_runU (As := [.int p4]) (rest := [.int zr_667, .int p3, .int p2, .int p1, .ref (d (2000 + i_3)), .ref q_664, .ref q_664]) ⟨hx, hb, hml, hown, hts⟩ (y_X2_linesBy l dC dI q h0 d k z f hI (d (2000 + i_3)) (d (3000 + i_3)) (d (4000 + i_3)) (nI i_3) (u.2 4 i_3) (u.2 22 i_3) (u.2 5 i_3) (u.2 6 i_3) ht_653 hs_654 p4) (va_cwA 1 hts gX11_put_X2_linesBy_u145X2 rfl rfl rfl hXN.1 (by decide +kernel) ⟨Nat.le_of_ble_eq_true rfl, Nat.le_of_ble_eq_true rfl⟩) ⟨px_fb, va_recv hK hP (ci := 2) (q0 := kk_668) rfl hk_669, fun U hU hW => ⟨rfl, px_to hU hW hP hK hN hXN⟩⟩ rfl rfl hl.1 rfl (lv_room (Nat.le_of_ble_eq_true rfl)) dX11_put_49 ⟨Nat.le_of_ble_eq_true rfl, Nat.le_of_ble_eq_true rfl⟩).run (fun r hw => ?_)
          obtain ⟨zr_670, ezr_670⟩ : ∃ y : Int32, y = s_linesF p4 (u.2 5 i_3) (u.2 6 i_3) := ⟨_, rfl⟩
          have hr9 : zr_670 = r := ezr_670.trans hw.symm
          subst hr9
          have hPc := vaP_r hPn
          have hDc := vaD_r hDn
          have hFc := fr_part hDn hS hA
          refine va_callv (va_runI (As := [.ref (d (2000 + i_3)), .int p1, .int p2, .int p3, .int zr_667, .int zr_670]) (rest := [.ref q_664]) ⟨hx, hb, hml, hown, hts⟩ (x_PieceI l dC dI q_664 (d (2000 + i_3)) p1 p2 p3 zr_667 zr_670 H.size) (cwI 6 hts gX11_put_X8_init rfl rfl rfl (hts (.initialized RX8) (by decide +kernel)) (hts (.methodLink RX11 108 yX8_init) (by decide +kernel)) (hts (.instanceMethod yX8_init) (by decide +kernel)) rfl (by decide +kernel) ⟨Nat.le_of_ble_eq_true rfl, Nat.le_of_ble_eq_true rfl⟩) ⟨gw_fb, fun U hU hW => ⟨rfl, by rw [hU], pw_to hU hW hPc (hK.sub (tys' := []) [] rfl) hN, hDc.weaken (fun _ _ _ _ => trivial)⟩⟩ rfl rfl hl.1 rfl (lv_room (Nat.le_of_ble_eq_true rfl)) dX11_put_52 ⟨Nat.le_of_ble_eq_true rfl, Nat.le_of_ble_eq_true rfl⟩) hS (fun q _ h => hFc q h) hFc (fun u9 t H1 locs ht hvm hw hB hz1 hk1 hS => ?_)
          obtain ⟨hP1, hD1⟩ := hB
          rw [ht] at hP1
          obtain ⟨hP, hD⟩ := va_joinQ (X := [(q_664, .inr (7, [.null, .int 0, .int 0, .int 0, .int 0, .int 0]))]) (cx := [(q_664, .inr (7, [.null, .int 0, .int 0, .int 0, .int 0, .int 0]))]) (wr := []) (w1 := [(q_664, .inr (7, [va_rf (some (d (2000 + i_3))), .int p1, .int p2, .int p3, .int zr_667, .int zr_670]))]) (pl := va_pl z.1 f) (vaP_swap hPn) (vaD_rotR hDn) [0] [] rfl rfl rfl (fun i hi => absurd hi List.not_mem_nil) hk1 hFc hP1 hD1
          generalize H1 = H at hP hS ⊢
          obtain ⟨hnm_671, hP, hD⟩ := pushC hP hD
          obtain ⟨z_672, ez_672⟩ : ∃ y : gS, y = pz z q_664 (22, 0, [va_rf (some (d (2000 + i_3))), .int p1, .int p2, .int p3, .int zr_667, .int zr_670]) := ⟨_, rfl⟩
          obtain ⟨f_673, ef_673⟩ : ∃ y : xF, y = va_up f q_664 (.inr (7, [va_rf (some (d (2000 + i_3))), .int p1, .int p2, .int p3, .int zr_667, .int zr_670])) := ⟨_, rfl⟩
          have hE_674 : zE z z_672 := by rw [ez_672]; exact pz_E hnm_671 _
          have hI : xI q h0 d k z_672 f_673 := by rw [ez_672, ef_673]; exact x_push hI hnm_671 (Or.inr (by decide : (15 : Nat) < 22)) (cO_pc b_26 (ty_s (tg_itm ht_653 (by decide))) hnm_671)
          rw [show z.1 ++ [q_664] = z_672.1 from by rw [ez_672]; rfl, ← ef_673] at hP hD
          have ht_653 := zE_tg hE_674 ht_653
          have hpa_12 := zE_tg hE_674 hpa_12
          have hfa_20 := zE_tg hE_674 hfa_20
          have ht_675 : tg z_672 q_664 22 := by rw [ez_672]; exact pz_t _ _ _
          have hEz : zE z z_672 := zE_tr (zE_rf z) hE_674
          have h3m : f_673 (d 3) = f (d 3) := by rw [ef_673]; exact (up_o (fun e9 => hnm_671 (by rw [← e9]; exact hrp.2.2.2.2.2.2.2.1.1.1))).trans h3m
          have hrp_676 : rep q d u z_672 f_673 := by rw [ez_672, ef_673]; exact rep_grow hrp (pz_E hnm_671 _) (oK_push (fun _ _ => rfl) (zE_rf _) hnm_671)
          obtain ⟨rs_677, n_678, g_679, fg_680, hit_681, hs_682, hpa_683, hps_684, h1_685, h6_686, hcb_687, hpl_688, hlg_689, hnn_690, hfa_691, hfs_692, hfe_693, hrs_694, hkt_695⟩ := it_all hI hrp_676.2.2.1 hi_4
          have ht_696 : tg z_672 (d (2000 + i_3)) 10 := ⟨hit_681.1, by rw [hkt_695, hkd]; rfl⟩
          have hs_697 : f_673 (d (2000 + i_3)) = .inr (2, [.int (nI i_3), .int (u.2 4 i_3), .ref (d (3000 + i_3)), .int (u.2 22 i_3), .ref (d (4000 + i_3)), .int (u.2 5 i_3), .int (u.2 6 i_3)]) := by rw [hs_682, ht_696.2, hrs_694.2.2.2.2.1 hkd]; rfl
          refine W.eq (g2 := F0 m 55 ls [.ref q_664]) rfl ?_
          have hp_707 : pcS z_672 q_664 (some (d (2000 + i_3))) p1 p2 p3 zr_667 zr_670 := ⟨ht_675, by rw [ez_672, pz_s]⟩
          refine lv_astore (lv' := [(7, .ref q_664), (6, .ref (d (2000 + i_3))), (0, .ref h0), (1, .int p0), (2, .int p1), (3, .int p2), (4, .int p3), (5, .int p4)]) hx hb dX11_put_55 hl (by decide) rfl (fun ls hl => ?_)
          refine lv_aload hx hb dX11_put_57 (lv_at hl 1 rfl) ?_
          obtain ⟨kk_708, hk_709⟩ := pl_at ht_696.1 hs_697
          refine vp_callSi (va_runU (As := []) (rest := []) ⟨hx, hb, hml, hown, hts⟩ (y_hasRoom l dC dI q h0 d k z_672 f_673 hI (d (2000 + i_3)) hit_681 (nI i_3) (u.2 4 i_3) (u.2 22 i_3) (d (3000 + i_3)) (d (4000 + i_3)) rs_677 hs_682 n_678 g_679 hps_684 hpa_683) (va_cwU 0 hts gX11_put_X4_hasRoom_u148X2 rfl rfl rfl rfl (by decide +kernel) ⟨Nat.le_of_ble_eq_true rfl, Nat.le_of_ble_eq_true rfl⟩) ⟨px_fb, va_recv hK hP (ci := 2) (q0 := kk_708) rfl hk_709, fun U hU hW => ⟨rfl, px_to hU hW hP hK hN hXN⟩⟩ rfl rfl hl.1 rfl (lv_room (Nat.le_of_ble_eq_true rfl)) dX11_put_59 ⟨Nat.le_of_ble_eq_true rfl, Nat.le_of_ble_eq_true rfl⟩).run (fun r hw => ?_)
          obtain rfl : r = (bP ((u.2 22 i_3) < nI n_678)) := hw
          refine lv_if_eq (tgt := 102) hx hb dX11_put_62 (by decide) (fun c_710 => ?_) (fun c_710 => ?_)
          ·
            refine lv_iconst (v := (-1)) hx hb dX11_put_102 (by decide) ?_
            refine W.widen (k := 2) (n := 10) (Nat.le_of_ble_eq_true rfl) (Nat.le_of_ble_eq_true rfl) ?_
            exact W.iret (v := (-1)) hx hb hr (fun t ht hW => ⟨⟨(-1), (k, z_672, f_673), rfl, (Or.inl ⟨Or.inr (Or.inr (Or.inr ⟨i_3, ep_5, hi_4, Or.inl (noN h6_686 hcb_687 hnn_690 (bP_0 c_710))⟩)), ⟨hEz, hI, rfl, hrp_676, fun _ _ => rfl, hk1o, Or.inl ⟨h3m, rfl⟩⟩⟩), by rw [ht]; exact hP, hD⟩, hS.F ht⟩) hS.2.2 dX11_put_103
          ·
            refine lv_aload_n hx hb dX11_put_65 rfl (lv_at hl 2 rfl) ?_
            obtain ⟨kk_711, hk_712⟩ := pl_at hI.2.1.1.1 hI.2.2.2.1.1
            refine va_get (D := (dC, dI)) (ci := 10) (v := .ref (d 0)) (C := RX11) (T := TX11) (N := 9) hx hb hts (by decide +kernel) hown hK hP kk_711 hk_712 rfl 0 (by decide) (hts (.fieldLink RX11 11 "PageOne" "pages" "[LPageOne$Sheet;") (by decide +kernel)) (fun _ h9 => h9) rfl dX11_put_66 ?_
            refine lv_iload_n hx hb dX11_put_69 rfl (lv_at hl 4 rfl) ?_
            obtain ⟨g_713, hs_714, hg_715⟩ := x_pg hI hI.2.1.2.1
            obtain ⟨kk_716, hk_717⟩ := pl_at hI.2.1.2.1.1 hs_714
            refine va_aldq hx hb hK hP kk_716 2 hk_717 rfl (vin b_26 (by decide)) dX11_put_70 ?_
            obtain ⟨b_718, hg_719, ht_720⟩ := hg_715 _ (vlt (vin b_26 (by decide)))
            rw [hg_719]
            refine W.eq (g2 := F0 m 71 ls [.ref b_718]) rfl ?_
            have hb_721 := pg_at hrp_676.1 hs_714 (clp b_26) hg_719
            subst hb_721
            obtain ⟨dd_722, ii_723, gl_724, gc_725, ht_726, ht_727, ht_728, hs_729, hg_730, hgb_731, hc_732, el_733, ec_734⟩ := pg_all hI hrp_676.1 (clp b_26)
            refine lv_aload hx hb dX11_put_71 (lv_at hl 0 rfl) ?_
            obtain ⟨kk_735, hk_736⟩ := pl_at ht_726.1 hs_729
            refine vp_callSi (va_runV (As := [.ref q_664]) (rest := []) ⟨hx, hb, hml, hown, hts⟩ (y_isFree l dC dI q h0 d k z_672 f_673 hI (d (10 + p1.toNatClampNeg)) (d (30 + p1.toNatClampNeg)) (d (50 + p1.toNatClampNeg)) (u.2 1 p1.toNatClampNeg) dd_722 ii_723 gl_724 gc_725 ht_726 hs_729 ht_727 ht_728 hg_730 hgb_731 hc_732 q_664 (some (d (2000 + i_3))) p1 p2 p3 zr_667 zr_670 hp_707) (cwV 1 hts gX11_put_X9_isFree rfl rfl rfl (by decide +kernel) ⟨Nat.le_of_ble_eq_true rfl, Nat.le_of_ble_eq_true rfl⟩) ⟨px_fb, va_recv hK hP (ci := 8) (q0 := kk_735) rfl hk_736, fun U hU hW => ⟨rfl, px_to hU hW hP hK hN hXN⟩⟩ rfl rfl hl.1 rfl (lv_room (Nat.le_of_ble_eq_true rfl)) dX11_put_73 ⟨Nat.le_of_ble_eq_true rfl, Nat.le_of_ble_eq_true rfl⟩).run (fun r hw => ?_)
            rcases hw with ⟨hw, hfr_737⟩ | ⟨hw, hfr_737⟩
            ·
              subst hw
              refine lv_if_eq (tgt := 102) hx hb dX11_put_76 (by decide) (fun c_738 => absurd c_738 (by decide)) (fun c_738 => ?_)
              refine lv_aload hx hb dX11_put_79 (lv_at hl 1 rfl) ?_
              refine lv_aload hx hb dX11_put_81 (lv_at hl 0 rfl) ?_
              refine lv_aload_n hx hb dX11_put_83 rfl (lv_at hl 2 rfl) ?_
              obtain ⟨kk_739, hk_740⟩ := pl_at hI.2.1.1.1 hI.2.2.2.1.1
              refine va_get (D := (dC, dI)) (ci := 10) (v := .ref (d 0)) (C := RX11) (T := TX11) (N := 9) hx hb hts (by decide +kernel) hown hK hP kk_739 hk_740 rfl 0 (by decide) (hts (.fieldLink RX11 11 "PageOne" "pages" "[LPageOne$Sheet;") (by decide +kernel)) (fun _ h9 => h9) rfl dX11_put_84 ?_
              refine lv_iload_n hx hb dX11_put_87 rfl (lv_at hl 4 rfl) ?_
              obtain ⟨kk_741, hk_742⟩ := pl_at hI.2.1.2.1.1 hs_714
              refine va_aldq hx hb hK hP kk_741 2 hk_742 rfl (vin b_26 (by decide)) dX11_put_88 ?_
              obtain ⟨b_743, hg_744, ht_745⟩ := hg_715 _ (vlt (vin b_26 (by decide)))
              rw [hg_744]
              refine W.eq (g2 := F0 m 89 ls [.ref b_743, .ref q_664, .ref (d (2000 + i_3))]) rfl ?_
              have hb_746 := pg_at hrp_676.1 hs_714 (clp b_26) hg_744
              subst hb_746
              obtain ⟨dd_747, ii_748, gl_749, gc_750, ht_751, ht_752, ht_753, hs_754, hg_755, hgb_756, hc_757, el_758, ec_759⟩ := pg_all hI hrp_676.1 (clp b_26)
              obtain ⟨kk_760, hk_761⟩ := pl_at ht_751.1 hs_754
              refine va_get (D := (dC, dI)) (ci := 8) (v := .int (u.2 1 p1.toNatClampNeg)) (C := RX9) (T := TX9) (N := 5) hx hb hts (by decide +kernel) hown hK hP kk_760 hk_761 rfl 2 (by decide) (hts (.fieldLink RX11 63 "PageOne$Sheet" "measure" "I") (by decide +kernel)) (fun _ h9 => h9) rfl dX11_put_89 ?_
              refine lv_aload_n hx hb dX11_put_92 rfl (lv_at hl 2 rfl) ?_
              obtain ⟨kk_762, hk_763⟩ := pl_at hI.2.1.1.1 hI.2.2.2.1.1
              refine va_get (D := (dC, dI)) (ci := 10) (v := .int (k 2)) (C := RX11) (T := TX11) (N := 9) hx hb hts (by decide +kernel) hown hK hP kk_762 hk_763 rfl 7 (by decide) (hts (.fieldLink RX11 41 "PageOne" "today" "I") (by decide +kernel)) (fun _ h9 => h9) rfl dX11_put_93 ?_
              obtain ⟨kk_764, hk_765⟩ := pl_at ht_696.1 hs_697
              refine vp_callSi (va_runU (As := [.ref q_664, .int (u.2 1 p1.toNatClampNeg), .int (k 2)]) (rest := []) ⟨hx, hb, hml, hown, hts⟩ (y_sit1 l dC dI q h0 d k z_672 f_673 hI (d (2000 + i_3)) q_664 (u.2 1 p1.toNatClampNeg) (k 2) hit_681) (va_cwU 3 hts gX11_put_X4_maySit_u155X2 rfl rfl rfl rfl (by decide +kernel) ⟨Nat.le_of_ble_eq_true rfl, Nat.le_of_ble_eq_true rfl⟩) ⟨px_fb, va_recv hK hP (ci := 2) (q0 := kk_764) rfl hk_765, fun U hU hW => ⟨rfl, px_to hU hW hP hK hN hXN⟩⟩ rfl rfl hl.1 rfl (lv_room (Nat.le_of_ble_eq_true rfl)) dX11_put_96 ⟨Nat.le_of_ble_eq_true rfl, Nat.le_of_ble_eq_true rfl⟩).run (fun r hw => ?_)
              obtain ⟨zr_766, ezr_766⟩ : ∃ y : Int32, y = (1 : Int32) := ⟨_, rfl⟩
              have hr9 : zr_766 = r := ezr_766.trans hw.symm
              subst hr9
              refine lv_if_ne (tgt := 104) hx hb dX11_put_99 (by decide) (fun c_767 => ?_) (fun c_767 => ?_)
              ·
                have hmF := (fr_iff (clp b_26) el_733 ec_734 hgb_731).mp hfr_737
                obtain ⟨P, eP⟩ : ∃ y, y = p1.toNatClampNeg := ⟨_, rfl⟩
                have eP1 : p1 = nI P := by rw [eP]; exact (nI_of_bw b_26).1
                obtain ⟨X, Y, D, N, eX, eY, eD, eN, hrx, hemp⟩ := fr_rIn (clp b_26) (fun a ha => by rw [← el_733 a ha]; exact hgb_731 a ha) hmF
                rw [← eP] at hrx hemp hmF
                have hrx9 := hrx
                obtain ⟨hP9, hX, hD1, hY, hN1, hin⟩ := hrx9
                have hpcx : pcS z_672 q_664 (some (d (2000 + i_3))) (nI P) (nI X) (nI Y) (nI D) (nI N) := by rw [← eP1, ← eX, ← eY, ← eD, ← eN]; exact hp_707
                have hlg_768 := lg_of hpcx ⟨b7n (by omega), b60n (by omega), bwN (by have e8 : (8 : Int32).toInt = 8 := rfl; rw [e8]; omega) (by omega), b60n (by omega)⟩
                have hrm9 : (u.2 22 i_3).toNatClampNeg < (if u.2 4 i_3 = 0 then 6 else 1) := ltN h6_686 hcb_687 hnn_690 (bP_n c_710)
                refine lv_aload_n hx hb dX11_put_104 rfl (lv_at hl 2 rfl) ?_
                refine lv_aload hx hb dX11_put_105 (lv_at hl 0 rfl) ?_
                obtain ⟨kk_769, hk_770⟩ := pl_at hI.2.1.1.1 hI.2.2.2.1.1
                have hFc := fr_all hD hS hA
                refine va_callv (va_runV (As := [.ref q_664]) (rest := []) ⟨hx, hb, hml, hown, hts⟩ (y_standI l dC dI q h0 d k z_672 f_673 hI q_664 P X Y D N u hrp_676 hk0 hk1o hk2 hk3 hP9 hX hD1 hY hin hne i_3 hi_4 hpcx hrm9 H.size) (cwV 1 hts gX11_put_X11_stand rfl rfl rfl (by decide +kernel) ⟨Nat.le_of_ble_eq_true rfl, Nat.le_of_ble_eq_true rfl⟩) ⟨gx_fb, va_recv hK hP (ci := 10) (q0 := kk_769) rfl hk_770, fun U hU hW => ⟨rfl, by rw [hU], px_to hU hW hP hK hN hXN, hD.weaken (fun _ _ _ _ => trivial)⟩⟩ rfl rfl hl.1 rfl (lv_room (Nat.le_of_ble_eq_true rfl)) dX11_put_107 ⟨Nat.le_of_ble_eq_true rfl, Nat.le_of_ble_eq_true rfl⟩) hS (fun q _ h => hFc q h) hFc (fun w_771 t H1 locs ht hvm hw hB hz1 hk1 hS => ?_)
                obtain ⟨hP, hD1⟩ := hB
                rw [ht] at hP
                rw [hw.2.1] at hP hD1
                have hD := hD1.weaken (fun _ q _ h => hFc q.1 h)
                have hI := hw.2.2.1
                have hw0 := hw
                generalize w_771.2.2 = f_772 at hP hD hI hw0
                generalize H1 = H at hP hS ⊢
                obtain ⟨u2, eu2⟩ : ∃ y : mS, y = mStand u (nI i_3) P X Y D N := ⟨_, rfl⟩
                have hrp2 : rep q d u2 z_672 f_772 := by rw [eu2]; exact hw0.2.2.2.1
                have h3m : f_772 (d 3) = f (d 3) := hw0.2.2.2.2.trans h3m
                refine lv_aload_n hx hb dX11_put_110 rfl (lv_at hl 2 rfl) ?_
                refine va_new (ci := 0) (fs := [.null, .int 0, .null, .int 0]) (C := RX0) (T := TX0) (N := 4) hx hb hts (by decide +kernel) tyX0 tyX0_ok hown (hts (.classLink RX11 28 RX0) (by decide +kernel)) (hts (.instantiable RX0 4) (by decide +kernel)) (hts (.initialized RX0) (by decide +kernel)) hK hP hD hS hA rfl nwX0 (Nat.le_of_ble_eq_true rfl) (Nat.le_of_ble_eq_true rfl) dX11_put_111 (fun q_773 H hPn hDn hS => ?_)
                have hP := vaP_l hPn
                refine W.widen (k := 2) (n := 10) (Nat.le_of_ble_eq_true rfl) (Nat.le_of_ble_eq_true rfl) ?_
                refine lv_dup hx hb dX11_put_114 rfl ?_
                refine lv_aload hx hb dX11_put_115 (lv_at hl 0 rfl) ?_
                refine lv_iconst (v := 0) hx hb dX11_put_117 (by decide) ?_
                refine lv_null hx hb dX11_put_118 ?_
                have hPc := vaP_r hPn
                have hDc := vaD_r hDn
                have hFc := fr_part hDn hS hA
                refine va_callv (va_runI (As := [.ref q_664, .int 0, .null]) (rest := [.ref q_773, .ref h0]) ⟨hx, hb, hml, hown, hts⟩ (x_ActP l dC dI q_773 q_664 H.size) (cwI 3 hts gX11_put_X0_init rfl rfl rfl (hts (.initialized RX0) (by decide +kernel)) (hts (.methodLink RX11 163 yX0_init) (by decide +kernel)) (hts (.instanceMethod yX0_init) (by decide +kernel)) rfl (by decide +kernel) ⟨Nat.le_of_ble_eq_true rfl, Nat.le_of_ble_eq_true rfl⟩) ⟨gw_fb, fun U hU hW => ⟨rfl, by rw [hU], pw_to hU hW hPc (hK.sub (tys' := []) [] rfl) hN, hDc.weaken (fun _ _ _ _ => trivial)⟩⟩ rfl rfl hl.1 rfl (lv_room (Nat.le_of_ble_eq_true rfl)) dX11_put_119 ⟨Nat.le_of_ble_eq_true rfl, Nat.le_of_ble_eq_true rfl⟩) hS (fun q _ h => hFc q h) hFc (fun u9 t H1 locs ht hvm hw hB hz1 hk1 hS => ?_)
                obtain ⟨hP1, hD1⟩ := hB
                rw [ht] at hP1
                obtain ⟨hP, hD⟩ := va_joinQ (X := [(q_773, .inr (0, [.null, .int 0, .null, .int 0]))]) (cx := [(q_773, .inr (0, [.null, .int 0, .null, .int 0]))]) (wr := []) (w1 := [(q_773, .inr (0, [.ref q_664, .int 0, va_rf none, .int 1]))]) (pl := va_pl z_672.1 f_772) (vaP_swap hPn) (vaD_rotR hDn) [0] [] rfl rfl rfl (fun i hi => absurd hi List.not_mem_nil) hk1 hFc hP1 hD1
                generalize H1 = H at hP hS ⊢
                obtain ⟨hnm_774, hP, hD⟩ := pushC hP hD
                obtain ⟨z_775, ez_775⟩ : ∃ y : gS, y = pz z_672 q_773 (23, 0, [.ref q_664, .int 0, va_rf none, .int 1]) := ⟨_, rfl⟩
                obtain ⟨f_776, ef_776⟩ : ∃ y : xF, y = va_up f_772 q_773 (.inr (0, [.ref q_664, .int 0, va_rf none, .int 1])) := ⟨_, rfl⟩
                have hE_777 : zE z_672 z_775 := by rw [ez_775]; exact pz_E hnm_774 _
                have hI : xI q h0 d k z_775 f_776 := by rw [ez_775, ef_776]; exact x_push hI hnm_774 (Or.inr (by decide : (15 : Nat) < 23)) (cO_ac hlg_768 hnm_774)
                rw [show z_672.1 ++ [q_773] = z_775.1 from by rw [ez_775]; rfl, ← ef_776] at hP hD
                have ht_696 := zE_tg hE_777 ht_696
                have hpa_683 := zE_tg hE_777 hpa_683
                have hfa_691 := zE_tg hE_777 hfa_691
                have hlg_768 := zE_lg hE_777 hlg_768
                have ht_751 := zE_tg hE_777 ht_751
                have ht_752 := zE_tg hE_777 ht_752
                have ht_753 := zE_tg hE_777 ht_753
                have hp_707 := zE_pc hE_777 hp_707
                have hpcx := zE_pc hE_777 hpcx
                have ht_778 : tg z_775 q_773 23 := by rw [ez_775]; exact pz_t _ _ _
                have hEz : zE z z_775 := zE_tr hEz hE_777
                have h3m : f_776 (d 3) = f (d 3) := by rw [ef_776]; exact (up_o (fun e9 => hnm_774 (by rw [← e9]; exact hrp2.2.2.2.2.2.2.2.1.1.1))).trans h3m
                have hrp_779 : rep q d u2 z_775 f_776 := by rw [ez_775, ef_776]; exact rep_grow hrp2 (pz_E hnm_774 _) (oK_push (fun _ _ => rfl) (zE_rf _) hnm_774)
                refine W.eq (g2 := F0 m 122 ls [.ref q_773, .ref h0]) rfl ?_
                have hIb := hI
                have hcx : ¬ 300 ≤ k 1 := hca_30
                obtain ⟨kk_780, hk_781⟩ := pl_at hI.2.1.1.1 hI.2.2.2.1.1
                have hFc := fr_all hD hS hA
                refine va_callv (va_runV (As := [.ref q_773]) (rest := []) ⟨hx, hb, hml, hown, hts⟩ (y_keep l dC dI q h0 d k z_775 f_776 hI q_773 ht_778 hcx H.size) (cwV 1 hts gX11_put_X11_keep rfl rfl rfl (by decide +kernel) ⟨Nat.le_of_ble_eq_true rfl, Nat.le_of_ble_eq_true rfl⟩) ⟨gx_fb, va_recv hK hP (ci := 10) (q0 := kk_780) rfl hk_781, fun U hU hW => ⟨rfl, by rw [hU], px_to hU hW hP hK hN hXN, hD.weaken (fun _ _ _ _ => trivial)⟩⟩ rfl rfl hl.1 rfl (lv_room (Nat.le_of_ble_eq_true rfl)) dX11_put_122 ⟨Nat.le_of_ble_eq_true rfl, Nat.le_of_ble_eq_true rfl⟩) hS (fun q _ h => hFc q h) hFc (fun w_782 t H1 locs ht hvm hw hB hz1 hk1 hS => ?_)
                obtain ⟨hP, hD1⟩ := hB
                rw [ht] at hP
                rw [hw.1] at hP hD1
                have hD := hD1.weaken (fun _ q _ h => hFc q.1 h)
                have hI := hw.2.1
                have hw0 := hw
                generalize w_782.1 = k_784 at hI hw0
                generalize w_782.2.2 = f_783 at hP hD hI hw0
                generalize H1 = H at hP hS ⊢
                have hkp := hw0.2.2
                have hrp_785 : rep q d u2 z_775 f_783 := rep_kp hrp_779 hIb (by rw [zE_o hEz hIo.2.1.1.1]; exact hz0) hkp
                have hi3 : i_3 < (u2.1 3).toNatClampNeg := by rw [eu2]; exact hi_4
                obtain ⟨rs_786, n_787, g_788, fg_789, hit_790, hs_791, hpa_792, hps_793, h1_794, h6_795, hcb_796, hpl_797, hlg_798, hnn_799, hfa_800, hfs_801, hfe_802, hrs_803, hkt_804⟩ := it_all hI hrp_785.2.2.1 hi3
                refine lv_aload hx hb dX11_put_125 (lv_at hl 1 rfl) ?_
                obtain ⟨kk_805, hk_806⟩ := pl_at hit_790.1 hs_791
                refine w_then (F0 m 130 ls [.int (u2.2 22 i_3)]) (fun hgo => ?_) ?_
                ·
                  rcases x_tag hit_790 with ht9 | ht9 | ht9 | ht9 | ht9 | ht9
                  ·
                    rw [ht9.2] at hk_806
                    exact va_get (D := (dC, dI)) (ci := 2) (v := .int (u2.2 22 i_3)) (C := RX2) (T := TX2) (N := 7) hx hb hts (by decide +kernel) hown hK hP kk_805 hk_806 rfl 3 (by decide) (hts (.fieldLink RX11 170 "PageOne$Item" "count" "I") (by decide +kernel)) (fun _ h9 => h9) rfl dX11_put_127 hgo
                  ·
                    rw [ht9.2] at hk_806
                    exact va_get (D := (dC, dI)) (ci := 3) (v := .int (u2.2 22 i_3)) (C := RX3) (T := TX3) (N := 8) hx hb hts (by decide +kernel) hown hK hP kk_805 hk_806 rfl 3 (by decide) (hts (.fieldLink RX11 170 "PageOne$Item" "count" "I") (by decide +kernel)) (fun _ h9 => h9) rfl dX11_put_127 hgo
                  ·
                    rw [ht9.2] at hk_806
                    exact va_get (D := (dC, dI)) (ci := 4) (v := .int (u2.2 22 i_3)) (C := RX5) (T := TX5) (N := 7) hx hb hts (by decide +kernel) hown hK hP kk_805 hk_806 rfl 3 (by decide) (hts (.fieldLink RX11 170 "PageOne$Item" "count" "I") (by decide +kernel)) (fun _ h9 => h9) rfl dX11_put_127 hgo
                  ·
                    rw [ht9.2] at hk_806
                    exact va_get (D := (dC, dI)) (ci := 5) (v := .int (u2.2 22 i_3)) (C := RX6) (T := TX6) (N := 9) hx hb hts (by decide +kernel) hown hK hP kk_805 hk_806 rfl 3 (by decide) (hts (.fieldLink RX11 170 "PageOne$Item" "count" "I") (by decide +kernel)) (fun _ h9 => h9) rfl dX11_put_127 hgo
                  ·
                    rw [ht9.2] at hk_806
                    exact va_get (D := (dC, dI)) (ci := 6) (v := .int (u2.2 22 i_3)) (C := RX7) (T := TX7) (N := 8) hx hb hts (by decide +kernel) hown hK hP kk_805 hk_806 rfl 3 (by decide) (hts (.fieldLink RX11 170 "PageOne$Item" "count" "I") (by decide +kernel)) (fun _ h9 => h9) rfl dX11_put_127 hgo
                  ·
                    rw [ht9.2] at hk_806
                    exact va_get (D := (dC, dI)) (ci := 9) (v := .int (u2.2 22 i_3)) (C := RX10) (T := TX10) (N := 9) hx hb hts (by decide +kernel) hown hK hP kk_805 hk_806 rfl 3 (by decide) (hts (.fieldLink RX11 170 "PageOne$Item" "count" "I") (by decide +kernel)) (fun _ h9 => h9) rfl dX11_put_127 hgo
                ·
                  exact W.iret (v := (u2.2 22 i_3)) hx hb hr (fun t ht hW => ⟨⟨(u2.2 22 i_3), (k_784, z_775, f_783), rfl, (Or.inr ⟨i_3, P, X, Y, D, N, ⟨ep_5, hi_4, eP1, eX, eY, ((show cpW u i_3 p4 = zr_667 by unfold cpW; rw [if_neg (by rw [hkd]; decide), if_neg (by rw [hkd]; decide), ezr_667])).trans eD, ((show cpH u i_3 p4 = zr_670 by unfold cpH; rw [if_neg (by rw [hkd]; decide), if_neg (by rw [hkd]; decide), if_pos hkd, ezr_670]; rfl)).trans eN, (by rw [← hk1o]; exact (n300 hIo.1.2.1).2 hcx), hrx, hrm9, by rw [← eP1] at hmF; rw [(show cpW u i_3 p4 = zr_667 by unfold cpW; rw [if_neg (by rw [hkd]; decide), if_neg (by rw [hkd]; decide), ezr_667]), (show cpH u i_3 p4 = zr_670 by unfold cpH; rw [if_neg (by rw [hkd]; decide), if_neg (by rw [hkd]; decide), if_pos hkd, ezr_670]; rfl)]; exact hmF, ⟨zr_766, c_767, by rw [(show cpW u i_3 p4 = zr_667 by unfold cpW; rw [if_neg (by rw [hkd]; decide), if_neg (by rw [hkd]; decide), ezr_667]), (show cpH u i_3 p4 = zr_670 by unfold cpH; rw [if_neg (by rw [hkd]; decide), if_neg (by rw [hkd]; decide), if_pos hkd, ezr_670]; rfl)]; exact ⟨(fun h9 => absurd (hkd.symm.trans h9) (by decide)), (fun h9 => absurd (hkd.symm.trans h9) (by decide)), (fun h9 => absurd (hkd.symm.trans h9) (by decide)), (fun _ => ezr_766)⟩⟩, hemp⟩, by rw [show (u2.2 22 i_3) = (mStand u (nI i_3) P X Y D N).2 22 i_3 from by rw [eu2]]; exact put_fin hk1o hi8 hEz hI (by rw [← eu2]; exact hrp_785) h3m hkp.1 (kp_3 hrp_779 hIb hkp) ⟨ht_778, by rw [ez_775, pz_s]⟩ hpcx⟩), by rw [ht]; exact hP, hD⟩, hS.F ht⟩) hS.2.2 dX11_put_130
              ·
                refine lv_iconst (v := (-1)) hx hb dX11_put_102 (by decide) ?_
                refine W.widen (k := 2) (n := 10) (Nat.le_of_ble_eq_true rfl) (Nat.le_of_ble_eq_true rfl) ?_
                exact W.iret (v := (-1)) hx hb hr (fun t ht hW => ⟨⟨(-1), (k, z_672, f_673), rfl, (Or.inl ⟨Or.inr (Or.inr (Or.inr ⟨i_3, ep_5, hi_4, Or.inr (Or.inr (by rw [(show cpW u i_3 p4 = zr_667 by unfold cpW; rw [if_neg (by rw [hkd]; decide), if_neg (by rw [hkd]; decide), ezr_667]), (show cpH u i_3 p4 = zr_670 by unfold cpH; rw [if_neg (by rw [hkd]; decide), if_neg (by rw [hkd]; decide), if_pos hkd, ezr_670]; rfl)]; exact ⟨(fun h9 => absurd (hkd.symm.trans h9) (by decide)), (fun h9 => absurd (hkd.symm.trans h9) (by decide)), (fun h9 => absurd (hkd.symm.trans h9) (by decide)), (fun _ => (c_767.symm.trans ezr_766))⟩))⟩)), ⟨hEz, hI, rfl, hrp_676, fun _ _ => rfl, hk1o, Or.inl ⟨h3m, rfl⟩⟩⟩), by rw [ht]; exact hP, hD⟩, hS.F ht⟩) hS.2.2 dX11_put_103
            ·
              subst hw
              refine lv_if_eq (tgt := 102) hx hb dX11_put_76 (by decide) (fun c_807 => ?_) (fun c_807 => absurd (by decide) c_807)
              refine lv_iconst (v := (-1)) hx hb dX11_put_102 (by decide) ?_
              refine W.widen (k := 2) (n := 10) (Nat.le_of_ble_eq_true rfl) (Nat.le_of_ble_eq_true rfl) ?_
              exact W.iret (v := (-1)) hx hb hr (fun t ht hW => ⟨⟨(-1), (k, z_672, f_673), rfl, (Or.inl ⟨Or.inr (Or.inr (Or.inr ⟨i_3, ep_5, hi_4, Or.inr (Or.inl (fun h9 => hfr_737 ((fr_iff2 b_26 el_733 ec_734 hgb_731).mpr (by rw [(show cpW u i_3 p4 = zr_667 by unfold cpW; rw [if_neg (by rw [hkd]; decide), if_neg (by rw [hkd]; decide), ezr_667]), (show cpH u i_3 p4 = zr_670 by unfold cpH; rw [if_neg (by rw [hkd]; decide), if_neg (by rw [hkd]; decide), if_pos hkd, ezr_670]; rfl)] at h9; exact h9))))⟩)), ⟨hEz, hI, rfl, hrp_676, fun _ _ => rfl, hk1o, Or.inl ⟨h3m, rfl⟩⟩⟩), by rw [ht]; exact hP, hD⟩, hS.F ht⟩) hS.2.2 dX11_put_103
        ·
          have ht_808 : tg z (d (2000 + i_3)) 12 := ⟨hit_10.1, by rw [hkt_24, hkd]; rfl⟩
          obtain ⟨o9, hx_810, hx_811, hx_812⟩ := hrs_23.2.2.2.2.2 hkd
          have hs_809 : f (d (2000 + i_3)) = .inr (4, [.int (nI i_3), .int (u.2 4 i_3), .ref (d (3000 + i_3)), .int (u.2 22 i_3), .ref (d (4000 + i_3)), .ref (d (2000 + o9)), .int (u.2 8 i_3)]) := by rw [hs_11, ht_808.2, hx_812]; rfl
          refine va_new (ci := 7) (fs := [.null, .int 0, .int 0, .int 0, .int 0, .int 0]) (C := RX8) (T := TX8) (N := 6) hx hb hts (by decide +kernel) tyX8 tyX8_ok hown (hts (.classLink RX11 106 RX8) (by decide +kernel)) (hts (.instantiable RX8 6) (by decide +kernel)) (hts (.initialized RX8) (by decide +kernel)) hK hP hD hS hA rfl nwX8 (Nat.le_of_ble_eq_true rfl) (Nat.le_of_ble_eq_true rfl) dX11_put_28 (fun q_819 H hPn hDn hS => ?_)
          have hP := vaP_l hPn
          refine W.widen (k := 1) (n := 6) (Nat.le_of_ble_eq_true rfl) (Nat.le_of_ble_eq_true rfl) ?_
          refine lv_dup hx hb dX11_put_31 rfl ?_
          refine lv_aload hx hb dX11_put_32 (lv_at hl 0 rfl) ?_
          refine lv_iload_n hx hb dX11_put_34 rfl (lv_at hl 3 rfl) ?_
          refine lv_iload_n hx hb dX11_put_35 rfl (lv_at hl 4 rfl) ?_
          refine lv_iload hx hb dX11_put_36 (lv_at hl 5 rfl) ?_
          refine lv_aload hx hb dX11_put_38 (lv_at hl 0 rfl) ?_
          refine lv_iload hx hb dX11_put_40 (lv_at hl 6 rfl) ?_
          obtain ⟨kk_820, hk_821⟩ := pl_at ht_808.1 hs_809
          refine vp_callSi (va_runU (As := [.int p4]) (rest := [.int p3, .int p2, .int p1, .ref (d (2000 + i_3)), .ref q_819, .ref q_819]) ⟨hx, hb, hml, hown, hts⟩ (y_cols1 l dC dI q h0 d k z f hI (d (2000 + i_3)) p4 hit_10) (va_cwU 1 hts gX11_put_X4_columnsBy_u142X5 rfl rfl rfl rfl (by decide +kernel) ⟨Nat.le_of_ble_eq_true rfl, Nat.le_of_ble_eq_true rfl⟩) ⟨px_fb, va_recv hK hP (ci := 4) (q0 := kk_820) rfl hk_821, fun U hU hW => ⟨rfl, px_to hU hW hP hK hN hXN⟩⟩ rfl rfl hl.1 rfl (lv_room (Nat.le_of_ble_eq_true rfl)) dX11_put_42 ⟨Nat.le_of_ble_eq_true rfl, Nat.le_of_ble_eq_true rfl⟩).run (fun r hw => ?_)
          obtain ⟨zr_822, ezr_822⟩ : ∃ y : Int32, y = (1 : Int32) := ⟨_, rfl⟩
          have hr9 : zr_822 = r := ezr_822.trans hw.symm
          subst hr9
          refine lv_aload hx hb dX11_put_45 (lv_at hl 0 rfl) ?_
          refine lv_iload hx hb dX11_put_47 (lv_at hl 6 rfl) ?_
          obtain ⟨kk_823, hk_824⟩ := pl_at ht_808.1 hs_809
          refine vp_callSi (va_runU (As := [.int p4]) (rest := [.int zr_822, .int p3, .int p2, .int p1, .ref (d (2000 + i_3)), .ref q_819, .ref q_819]) ⟨hx, hb, hml, hown, hts⟩ (y_X5_linesBy l dC dI q h0 d k z f hI (d (2000 + i_3)) (d (3000 + i_3)) (d (4000 + i_3)) (d (2000 + o9)) (nI i_3) (u.2 4 i_3) (u.2 22 i_3) (u.2 8 i_3) ht_808 hs_809 p4) (va_cwA 1 hts gX11_put_X5_linesBy_u145X5 rfl rfl rfl hXN.1 (by decide +kernel) ⟨Nat.le_of_ble_eq_true rfl, Nat.le_of_ble_eq_true rfl⟩) ⟨px_fb, va_recv hK hP (ci := 4) (q0 := kk_823) rfl hk_824, fun U hU hW => ⟨rfl, px_to hU hW hP hK hN hXN⟩⟩ rfl rfl hl.1 rfl (lv_room (Nat.le_of_ble_eq_true rfl)) dX11_put_49 ⟨Nat.le_of_ble_eq_true rfl, Nat.le_of_ble_eq_true rfl⟩).run (fun r hw => ?_)
          obtain ⟨zr_825, ezr_825⟩ : ∃ y : Int32, y = s_linesN p4 (u.2 8 i_3) := ⟨_, rfl⟩
          have hr9 : zr_825 = r := ezr_825.trans hw.symm
          subst hr9
          have hPc := vaP_r hPn
          have hDc := vaD_r hDn
          have hFc := fr_part hDn hS hA
          refine va_callv (va_runI (As := [.ref (d (2000 + i_3)), .int p1, .int p2, .int p3, .int zr_822, .int zr_825]) (rest := [.ref q_819]) ⟨hx, hb, hml, hown, hts⟩ (x_PieceI l dC dI q_819 (d (2000 + i_3)) p1 p2 p3 zr_822 zr_825 H.size) (cwI 6 hts gX11_put_X8_init rfl rfl rfl (hts (.initialized RX8) (by decide +kernel)) (hts (.methodLink RX11 108 yX8_init) (by decide +kernel)) (hts (.instanceMethod yX8_init) (by decide +kernel)) rfl (by decide +kernel) ⟨Nat.le_of_ble_eq_true rfl, Nat.le_of_ble_eq_true rfl⟩) ⟨gw_fb, fun U hU hW => ⟨rfl, by rw [hU], pw_to hU hW hPc (hK.sub (tys' := []) [] rfl) hN, hDc.weaken (fun _ _ _ _ => trivial)⟩⟩ rfl rfl hl.1 rfl (lv_room (Nat.le_of_ble_eq_true rfl)) dX11_put_52 ⟨Nat.le_of_ble_eq_true rfl, Nat.le_of_ble_eq_true rfl⟩) hS (fun q _ h => hFc q h) hFc (fun u9 t H1 locs ht hvm hw hB hz1 hk1 hS => ?_)
          obtain ⟨hP1, hD1⟩ := hB
          rw [ht] at hP1
          obtain ⟨hP, hD⟩ := va_joinQ (X := [(q_819, .inr (7, [.null, .int 0, .int 0, .int 0, .int 0, .int 0]))]) (cx := [(q_819, .inr (7, [.null, .int 0, .int 0, .int 0, .int 0, .int 0]))]) (wr := []) (w1 := [(q_819, .inr (7, [va_rf (some (d (2000 + i_3))), .int p1, .int p2, .int p3, .int zr_822, .int zr_825]))]) (pl := va_pl z.1 f) (vaP_swap hPn) (vaD_rotR hDn) [0] [] rfl rfl rfl (fun i hi => absurd hi List.not_mem_nil) hk1 hFc hP1 hD1
          generalize H1 = H at hP hS ⊢
          obtain ⟨hnm_826, hP, hD⟩ := pushC hP hD
          obtain ⟨z_827, ez_827⟩ : ∃ y : gS, y = pz z q_819 (22, 0, [va_rf (some (d (2000 + i_3))), .int p1, .int p2, .int p3, .int zr_822, .int zr_825]) := ⟨_, rfl⟩
          obtain ⟨f_828, ef_828⟩ : ∃ y : xF, y = va_up f q_819 (.inr (7, [va_rf (some (d (2000 + i_3))), .int p1, .int p2, .int p3, .int zr_822, .int zr_825])) := ⟨_, rfl⟩
          have hE_829 : zE z z_827 := by rw [ez_827]; exact pz_E hnm_826 _
          have hI : xI q h0 d k z_827 f_828 := by rw [ez_827, ef_828]; exact x_push hI hnm_826 (Or.inr (by decide : (15 : Nat) < 22)) (cO_pc b_26 (ty_s (tg_itm ht_808 (by decide))) hnm_826)
          rw [show z.1 ++ [q_819] = z_827.1 from by rw [ez_827]; rfl, ← ef_828] at hP hD
          have ht_808 := zE_tg hE_829 ht_808
          have hpa_12 := zE_tg hE_829 hpa_12
          have hfa_20 := zE_tg hE_829 hfa_20
          have ht_830 : tg z_827 q_819 22 := by rw [ez_827]; exact pz_t _ _ _
          have hEz : zE z z_827 := zE_tr (zE_rf z) hE_829
          have h3m : f_828 (d 3) = f (d 3) := by rw [ef_828]; exact (up_o (fun e9 => hnm_826 (by rw [← e9]; exact hrp.2.2.2.2.2.2.2.1.1.1))).trans h3m
          have hrp_831 : rep q d u z_827 f_828 := by rw [ez_827, ef_828]; exact rep_grow hrp (pz_E hnm_826 _) (oK_push (fun _ _ => rfl) (zE_rf _) hnm_826)
          obtain ⟨rs_832, n_833, g_834, fg_835, hit_836, hs_837, hpa_838, hps_839, h1_840, h6_841, hcb_842, hpl_843, hlg_844, hnn_845, hfa_846, hfs_847, hfe_848, hrs_849, hkt_850⟩ := it_all hI hrp_831.2.2.1 hi_4
          have ht_851 : tg z_827 (d (2000 + i_3)) 12 := ⟨hit_836.1, by rw [hkt_850, hkd]; rfl⟩
          obtain ⟨o9, hx_853, hx_854, hx_855⟩ := hrs_849.2.2.2.2.2 hkd
          have hs_852 : f_828 (d (2000 + i_3)) = .inr (4, [.int (nI i_3), .int (u.2 4 i_3), .ref (d (3000 + i_3)), .int (u.2 22 i_3), .ref (d (4000 + i_3)), .ref (d (2000 + o9)), .int (u.2 8 i_3)]) := by rw [hs_837, ht_851.2, hx_855]; rfl
          refine W.eq (g2 := F0 m 55 ls [.ref q_819]) rfl ?_
          have hp_862 : pcS z_827 q_819 (some (d (2000 + i_3))) p1 p2 p3 zr_822 zr_825 := ⟨ht_830, by rw [ez_827, pz_s]⟩
          refine lv_astore (lv' := [(7, .ref q_819), (6, .ref (d (2000 + i_3))), (0, .ref h0), (1, .int p0), (2, .int p1), (3, .int p2), (4, .int p3), (5, .int p4)]) hx hb dX11_put_55 hl (by decide) rfl (fun ls hl => ?_)
          refine lv_aload hx hb dX11_put_57 (lv_at hl 1 rfl) ?_
          obtain ⟨kk_863, hk_864⟩ := pl_at ht_851.1 hs_852
          refine vp_callSi (va_runU (As := []) (rest := []) ⟨hx, hb, hml, hown, hts⟩ (y_hasRoom l dC dI q h0 d k z_827 f_828 hI (d (2000 + i_3)) hit_836 (nI i_3) (u.2 4 i_3) (u.2 22 i_3) (d (3000 + i_3)) (d (4000 + i_3)) rs_832 hs_837 n_833 g_834 hps_839 hpa_838) (va_cwU 0 hts gX11_put_X4_hasRoom_u148X5 rfl rfl rfl rfl (by decide +kernel) ⟨Nat.le_of_ble_eq_true rfl, Nat.le_of_ble_eq_true rfl⟩) ⟨px_fb, va_recv hK hP (ci := 4) (q0 := kk_863) rfl hk_864, fun U hU hW => ⟨rfl, px_to hU hW hP hK hN hXN⟩⟩ rfl rfl hl.1 rfl (lv_room (Nat.le_of_ble_eq_true rfl)) dX11_put_59 ⟨Nat.le_of_ble_eq_true rfl, Nat.le_of_ble_eq_true rfl⟩).run (fun r hw => ?_)
          obtain rfl : r = (bP ((u.2 22 i_3) < nI n_833)) := hw
          refine lv_if_eq (tgt := 102) hx hb dX11_put_62 (by decide) (fun c_865 => ?_) (fun c_865 => ?_)
          ·
            refine lv_iconst (v := (-1)) hx hb dX11_put_102 (by decide) ?_
            refine W.widen (k := 2) (n := 10) (Nat.le_of_ble_eq_true rfl) (Nat.le_of_ble_eq_true rfl) ?_
            exact W.iret (v := (-1)) hx hb hr (fun t ht hW => ⟨⟨(-1), (k, z_827, f_828), rfl, (Or.inl ⟨Or.inr (Or.inr (Or.inr ⟨i_3, ep_5, hi_4, Or.inl (noN h6_841 hcb_842 hnn_845 (bP_0 c_865))⟩)), ⟨hEz, hI, rfl, hrp_831, fun _ _ => rfl, hk1o, Or.inl ⟨h3m, rfl⟩⟩⟩), by rw [ht]; exact hP, hD⟩, hS.F ht⟩) hS.2.2 dX11_put_103
          ·
            refine lv_aload_n hx hb dX11_put_65 rfl (lv_at hl 2 rfl) ?_
            obtain ⟨kk_866, hk_867⟩ := pl_at hI.2.1.1.1 hI.2.2.2.1.1
            refine va_get (D := (dC, dI)) (ci := 10) (v := .ref (d 0)) (C := RX11) (T := TX11) (N := 9) hx hb hts (by decide +kernel) hown hK hP kk_866 hk_867 rfl 0 (by decide) (hts (.fieldLink RX11 11 "PageOne" "pages" "[LPageOne$Sheet;") (by decide +kernel)) (fun _ h9 => h9) rfl dX11_put_66 ?_
            refine lv_iload_n hx hb dX11_put_69 rfl (lv_at hl 4 rfl) ?_
            obtain ⟨g_868, hs_869, hg_870⟩ := x_pg hI hI.2.1.2.1
            obtain ⟨kk_871, hk_872⟩ := pl_at hI.2.1.2.1.1 hs_869
            refine va_aldq hx hb hK hP kk_871 2 hk_872 rfl (vin b_26 (by decide)) dX11_put_70 ?_
            obtain ⟨b_873, hg_874, ht_875⟩ := hg_870 _ (vlt (vin b_26 (by decide)))
            rw [hg_874]
            refine W.eq (g2 := F0 m 71 ls [.ref b_873]) rfl ?_
            have hb_876 := pg_at hrp_831.1 hs_869 (clp b_26) hg_874
            subst hb_876
            obtain ⟨dd_877, ii_878, gl_879, gc_880, ht_881, ht_882, ht_883, hs_884, hg_885, hgb_886, hc_887, el_888, ec_889⟩ := pg_all hI hrp_831.1 (clp b_26)
            refine lv_aload hx hb dX11_put_71 (lv_at hl 0 rfl) ?_
            obtain ⟨kk_890, hk_891⟩ := pl_at ht_881.1 hs_884
            refine vp_callSi (va_runV (As := [.ref q_819]) (rest := []) ⟨hx, hb, hml, hown, hts⟩ (y_isFree l dC dI q h0 d k z_827 f_828 hI (d (10 + p1.toNatClampNeg)) (d (30 + p1.toNatClampNeg)) (d (50 + p1.toNatClampNeg)) (u.2 1 p1.toNatClampNeg) dd_877 ii_878 gl_879 gc_880 ht_881 hs_884 ht_882 ht_883 hg_885 hgb_886 hc_887 q_819 (some (d (2000 + i_3))) p1 p2 p3 zr_822 zr_825 hp_862) (cwV 1 hts gX11_put_X9_isFree rfl rfl rfl (by decide +kernel) ⟨Nat.le_of_ble_eq_true rfl, Nat.le_of_ble_eq_true rfl⟩) ⟨px_fb, va_recv hK hP (ci := 8) (q0 := kk_890) rfl hk_891, fun U hU hW => ⟨rfl, px_to hU hW hP hK hN hXN⟩⟩ rfl rfl hl.1 rfl (lv_room (Nat.le_of_ble_eq_true rfl)) dX11_put_73 ⟨Nat.le_of_ble_eq_true rfl, Nat.le_of_ble_eq_true rfl⟩).run (fun r hw => ?_)
            rcases hw with ⟨hw, hfr_892⟩ | ⟨hw, hfr_892⟩
            ·
              subst hw
              refine lv_if_eq (tgt := 102) hx hb dX11_put_76 (by decide) (fun c_893 => absurd c_893 (by decide)) (fun c_893 => ?_)
              refine lv_aload hx hb dX11_put_79 (lv_at hl 1 rfl) ?_
              refine lv_aload hx hb dX11_put_81 (lv_at hl 0 rfl) ?_
              refine lv_aload_n hx hb dX11_put_83 rfl (lv_at hl 2 rfl) ?_
              obtain ⟨kk_894, hk_895⟩ := pl_at hI.2.1.1.1 hI.2.2.2.1.1
              refine va_get (D := (dC, dI)) (ci := 10) (v := .ref (d 0)) (C := RX11) (T := TX11) (N := 9) hx hb hts (by decide +kernel) hown hK hP kk_894 hk_895 rfl 0 (by decide) (hts (.fieldLink RX11 11 "PageOne" "pages" "[LPageOne$Sheet;") (by decide +kernel)) (fun _ h9 => h9) rfl dX11_put_84 ?_
              refine lv_iload_n hx hb dX11_put_87 rfl (lv_at hl 4 rfl) ?_
              obtain ⟨kk_896, hk_897⟩ := pl_at hI.2.1.2.1.1 hs_869
              refine va_aldq hx hb hK hP kk_896 2 hk_897 rfl (vin b_26 (by decide)) dX11_put_88 ?_
              obtain ⟨b_898, hg_899, ht_900⟩ := hg_870 _ (vlt (vin b_26 (by decide)))
              rw [hg_899]
              refine W.eq (g2 := F0 m 89 ls [.ref b_898, .ref q_819, .ref (d (2000 + i_3))]) rfl ?_
              have hb_901 := pg_at hrp_831.1 hs_869 (clp b_26) hg_899
              subst hb_901
              obtain ⟨dd_902, ii_903, gl_904, gc_905, ht_906, ht_907, ht_908, hs_909, hg_910, hgb_911, hc_912, el_913, ec_914⟩ := pg_all hI hrp_831.1 (clp b_26)
              obtain ⟨kk_915, hk_916⟩ := pl_at ht_906.1 hs_909
              refine va_get (D := (dC, dI)) (ci := 8) (v := .int (u.2 1 p1.toNatClampNeg)) (C := RX9) (T := TX9) (N := 5) hx hb hts (by decide +kernel) hown hK hP kk_915 hk_916 rfl 2 (by decide) (hts (.fieldLink RX11 63 "PageOne$Sheet" "measure" "I") (by decide +kernel)) (fun _ h9 => h9) rfl dX11_put_89 ?_
              refine lv_aload_n hx hb dX11_put_92 rfl (lv_at hl 2 rfl) ?_
              obtain ⟨kk_917, hk_918⟩ := pl_at hI.2.1.1.1 hI.2.2.2.1.1
              refine va_get (D := (dC, dI)) (ci := 10) (v := .int (k 2)) (C := RX11) (T := TX11) (N := 9) hx hb hts (by decide +kernel) hown hK hP kk_917 hk_918 rfl 7 (by decide) (hts (.fieldLink RX11 41 "PageOne" "today" "I") (by decide +kernel)) (fun _ h9 => h9) rfl dX11_put_93 ?_
              obtain ⟨rs_919, n_920, g_921, fg_922, hit_923, hs_924, hpa_925, hps_926, h1_927, h6_928, hcb_929, hpl_930, hlg_931, hnn_932, hfa_933, hfs_934, hfe_935, hrs_936, hkt_937⟩ := it_all hI hrp_831.2.2.1 hx_853
              obtain ⟨kk_938, hk_939⟩ := pl_at ht_851.1 hs_852
              refine vp_callSi (va_runU (As := [.ref q_819, .int (u.2 1 p1.toNatClampNeg), .int (k 2)]) (rest := []) ⟨hx, hb, hml, hown, hts⟩ (y_X5_maySit l dC dI q h0 d k z_827 f_828 hI (d (2000 + i_3)) (d (3000 + i_3)) (d (4000 + i_3)) (d (2000 + o9)) (nI i_3) (u.2 4 i_3) (u.2 22 i_3) (u.2 8 i_3) ht_851 hs_852 (u.2 1 p1.toNatClampNeg) (k 2) q_819 (some (d (2000 + i_3))) p1 p2 p3 zr_822 zr_825 hp_862 fg_835 fg_922 hfa_846 hfs_847 (nI o9) (u.2 4 o9) (u.2 22 o9) (d (3000 + o9)) (d (4000 + o9)) rs_919 hit_923 hs_924 hfa_933 hfs_934 ) (va_cwO (b0 := cX4_maySit) (m0 := 4) (r0 := (some .boolean)) 3 hts gX11_put_X5_maySit_u155X5 rfl rfl rfl (by decide +kernel) (by decide +kernel) ⟨Nat.le_of_ble_eq_true rfl, Nat.le_of_ble_eq_true rfl⟩) ⟨px_fb, va_recv hK hP (ci := 4) (q0 := kk_938) rfl hk_939, fun U hU hW => ⟨rfl, px_to hU hW hP hK hN hXN⟩⟩ rfl rfl hl.1 rfl (lv_room (Nat.le_of_ble_eq_true rfl)) dX11_put_96 ⟨Nat.le_of_ble_eq_true rfl, Nat.le_of_ble_eq_true rfl⟩).run (fun r hw => ?_)
              obtain ⟨zr_940, ezr_940⟩ : ∃ y : Int32, y = s_sitN p1 p2 (k 2) fg_835 fg_922 := ⟨_, rfl⟩
              have hr9 : zr_940 = r := ezr_940.trans hw.symm
              subst hr9
              refine lv_if_ne (tgt := 104) hx hb dX11_put_99 (by decide) (fun c_941 => ?_) (fun c_941 => ?_)
              ·
                have hmF := (fr_iff (clp b_26) el_888 ec_889 hgb_886).mp hfr_892
                obtain ⟨P, eP⟩ : ∃ y, y = p1.toNatClampNeg := ⟨_, rfl⟩
                have eP1 : p1 = nI P := by rw [eP]; exact (nI_of_bw b_26).1
                obtain ⟨X, Y, D, N, eX, eY, eD, eN, hrx, hemp⟩ := fr_rIn (clp b_26) (fun a ha => by rw [← el_888 a ha]; exact hgb_886 a ha) hmF
                rw [← eP] at hrx hemp hmF
                have hrx9 := hrx
                obtain ⟨hP9, hX, hD1, hY, hN1, hin⟩ := hrx9
                have hpcx : pcS z_827 q_819 (some (d (2000 + i_3))) (nI P) (nI X) (nI Y) (nI D) (nI N) := by rw [← eP1, ← eX, ← eY, ← eD, ← eN]; exact hp_862
                have hlg_942 := lg_of hpcx ⟨b7n (by omega), b60n (by omega), bwN (by have e8 : (8 : Int32).toInt = 8 := rfl; rw [e8]; omega) (by omega), b60n (by omega)⟩
                have hrm9 : (u.2 22 i_3).toNatClampNeg < (if u.2 4 i_3 = 0 then 6 else 1) := ltN h6_841 hcb_842 hnn_845 (bP_n c_865)
                refine lv_aload_n hx hb dX11_put_104 rfl (lv_at hl 2 rfl) ?_
                refine lv_aload hx hb dX11_put_105 (lv_at hl 0 rfl) ?_
                obtain ⟨kk_943, hk_944⟩ := pl_at hI.2.1.1.1 hI.2.2.2.1.1
                have hFc := fr_all hD hS hA
                refine va_callv (va_runV (As := [.ref q_819]) (rest := []) ⟨hx, hb, hml, hown, hts⟩ (y_standI l dC dI q h0 d k z_827 f_828 hI q_819 P X Y D N u hrp_831 hk0 hk1o hk2 hk3 hP9 hX hD1 hY hin hne i_3 hi_4 hpcx hrm9 H.size) (cwV 1 hts gX11_put_X11_stand rfl rfl rfl (by decide +kernel) ⟨Nat.le_of_ble_eq_true rfl, Nat.le_of_ble_eq_true rfl⟩) ⟨gx_fb, va_recv hK hP (ci := 10) (q0 := kk_943) rfl hk_944, fun U hU hW => ⟨rfl, by rw [hU], px_to hU hW hP hK hN hXN, hD.weaken (fun _ _ _ _ => trivial)⟩⟩ rfl rfl hl.1 rfl (lv_room (Nat.le_of_ble_eq_true rfl)) dX11_put_107 ⟨Nat.le_of_ble_eq_true rfl, Nat.le_of_ble_eq_true rfl⟩) hS (fun q _ h => hFc q h) hFc (fun w_945 t H1 locs ht hvm hw hB hz1 hk1 hS => ?_)
                obtain ⟨hP, hD1⟩ := hB
                rw [ht] at hP
                rw [hw.2.1] at hP hD1
                have hD := hD1.weaken (fun _ q _ h => hFc q.1 h)
                have hI := hw.2.2.1
                have hw0 := hw
                generalize w_945.2.2 = f_946 at hP hD hI hw0
                generalize H1 = H at hP hS ⊢
                obtain ⟨u2, eu2⟩ : ∃ y : mS, y = mStand u (nI i_3) P X Y D N := ⟨_, rfl⟩
                have hrp2 : rep q d u2 z_827 f_946 := by rw [eu2]; exact hw0.2.2.2.1
                have h3m : f_946 (d 3) = f (d 3) := hw0.2.2.2.2.trans h3m
                refine lv_aload_n hx hb dX11_put_110 rfl (lv_at hl 2 rfl) ?_
                refine va_new (ci := 0) (fs := [.null, .int 0, .null, .int 0]) (C := RX0) (T := TX0) (N := 4) hx hb hts (by decide +kernel) tyX0 tyX0_ok hown (hts (.classLink RX11 28 RX0) (by decide +kernel)) (hts (.instantiable RX0 4) (by decide +kernel)) (hts (.initialized RX0) (by decide +kernel)) hK hP hD hS hA rfl nwX0 (Nat.le_of_ble_eq_true rfl) (Nat.le_of_ble_eq_true rfl) dX11_put_111 (fun q_947 H hPn hDn hS => ?_)
                have hP := vaP_l hPn
                refine W.widen (k := 2) (n := 10) (Nat.le_of_ble_eq_true rfl) (Nat.le_of_ble_eq_true rfl) ?_
                refine lv_dup hx hb dX11_put_114 rfl ?_
                refine lv_aload hx hb dX11_put_115 (lv_at hl 0 rfl) ?_
                refine lv_iconst (v := 0) hx hb dX11_put_117 (by decide) ?_
                refine lv_null hx hb dX11_put_118 ?_
                have hPc := vaP_r hPn
                have hDc := vaD_r hDn
                have hFc := fr_part hDn hS hA
                refine va_callv (va_runI (As := [.ref q_819, .int 0, .null]) (rest := [.ref q_947, .ref h0]) ⟨hx, hb, hml, hown, hts⟩ (x_ActP l dC dI q_947 q_819 H.size) (cwI 3 hts gX11_put_X0_init rfl rfl rfl (hts (.initialized RX0) (by decide +kernel)) (hts (.methodLink RX11 163 yX0_init) (by decide +kernel)) (hts (.instanceMethod yX0_init) (by decide +kernel)) rfl (by decide +kernel) ⟨Nat.le_of_ble_eq_true rfl, Nat.le_of_ble_eq_true rfl⟩) ⟨gw_fb, fun U hU hW => ⟨rfl, by rw [hU], pw_to hU hW hPc (hK.sub (tys' := []) [] rfl) hN, hDc.weaken (fun _ _ _ _ => trivial)⟩⟩ rfl rfl hl.1 rfl (lv_room (Nat.le_of_ble_eq_true rfl)) dX11_put_119 ⟨Nat.le_of_ble_eq_true rfl, Nat.le_of_ble_eq_true rfl⟩) hS (fun q _ h => hFc q h) hFc (fun u9 t H1 locs ht hvm hw hB hz1 hk1 hS => ?_)
                obtain ⟨hP1, hD1⟩ := hB
                rw [ht] at hP1
                obtain ⟨hP, hD⟩ := va_joinQ (X := [(q_947, .inr (0, [.null, .int 0, .null, .int 0]))]) (cx := [(q_947, .inr (0, [.null, .int 0, .null, .int 0]))]) (wr := []) (w1 := [(q_947, .inr (0, [.ref q_819, .int 0, va_rf none, .int 1]))]) (pl := va_pl z_827.1 f_946) (vaP_swap hPn) (vaD_rotR hDn) [0] [] rfl rfl rfl (fun i hi => absurd hi List.not_mem_nil) hk1 hFc hP1 hD1
                generalize H1 = H at hP hS ⊢
                obtain ⟨hnm_948, hP, hD⟩ := pushC hP hD
                obtain ⟨z_949, ez_949⟩ : ∃ y : gS, y = pz z_827 q_947 (23, 0, [.ref q_819, .int 0, va_rf none, .int 1]) := ⟨_, rfl⟩
                obtain ⟨f_950, ef_950⟩ : ∃ y : xF, y = va_up f_946 q_947 (.inr (0, [.ref q_819, .int 0, va_rf none, .int 1])) := ⟨_, rfl⟩
                have hE_951 : zE z_827 z_949 := by rw [ez_949]; exact pz_E hnm_948 _
                have hI : xI q h0 d k z_949 f_950 := by rw [ez_949, ef_950]; exact x_push hI hnm_948 (Or.inr (by decide : (15 : Nat) < 23)) (cO_ac hlg_942 hnm_948)
                rw [show z_827.1 ++ [q_947] = z_949.1 from by rw [ez_949]; rfl, ← ef_950] at hP hD
                have ht_851 := zE_tg hE_951 ht_851
                have hpa_838 := zE_tg hE_951 hpa_838
                have hfa_846 := zE_tg hE_951 hfa_846
                have hlg_942 := zE_lg hE_951 hlg_942
                have ht_906 := zE_tg hE_951 ht_906
                have ht_907 := zE_tg hE_951 ht_907
                have ht_908 := zE_tg hE_951 ht_908
                have hit_923 := zE_itm hE_951 hit_923
                have hpa_925 := zE_tg hE_951 hpa_925
                have hfa_933 := zE_tg hE_951 hfa_933
                have hp_862 := zE_pc hE_951 hp_862
                have hpcx := zE_pc hE_951 hpcx
                have ht_952 : tg z_949 q_947 23 := by rw [ez_949]; exact pz_t _ _ _
                have hEz : zE z z_949 := zE_tr hEz hE_951
                have h3m : f_950 (d 3) = f (d 3) := by rw [ef_950]; exact (up_o (fun e9 => hnm_948 (by rw [← e9]; exact hrp2.2.2.2.2.2.2.2.1.1.1))).trans h3m
                have hrp_953 : rep q d u2 z_949 f_950 := by rw [ez_949, ef_950]; exact rep_grow hrp2 (pz_E hnm_948 _) (oK_push (fun _ _ => rfl) (zE_rf _) hnm_948)
                refine W.eq (g2 := F0 m 122 ls [.ref q_947, .ref h0]) rfl ?_
                have hIb := hI
                have hcx : ¬ 300 ≤ k 1 := hca_30
                obtain ⟨kk_954, hk_955⟩ := pl_at hI.2.1.1.1 hI.2.2.2.1.1
                have hFc := fr_all hD hS hA
                refine va_callv (va_runV (As := [.ref q_947]) (rest := []) ⟨hx, hb, hml, hown, hts⟩ (y_keep l dC dI q h0 d k z_949 f_950 hI q_947 ht_952 hcx H.size) (cwV 1 hts gX11_put_X11_keep rfl rfl rfl (by decide +kernel) ⟨Nat.le_of_ble_eq_true rfl, Nat.le_of_ble_eq_true rfl⟩) ⟨gx_fb, va_recv hK hP (ci := 10) (q0 := kk_954) rfl hk_955, fun U hU hW => ⟨rfl, by rw [hU], px_to hU hW hP hK hN hXN, hD.weaken (fun _ _ _ _ => trivial)⟩⟩ rfl rfl hl.1 rfl (lv_room (Nat.le_of_ble_eq_true rfl)) dX11_put_122 ⟨Nat.le_of_ble_eq_true rfl, Nat.le_of_ble_eq_true rfl⟩) hS (fun q _ h => hFc q h) hFc (fun w_956 t H1 locs ht hvm hw hB hz1 hk1 hS => ?_)
                obtain ⟨hP, hD1⟩ := hB
                rw [ht] at hP
                rw [hw.1] at hP hD1
                have hD := hD1.weaken (fun _ q _ h => hFc q.1 h)
                have hI := hw.2.1
                have hw0 := hw
                generalize w_956.1 = k_958 at hI hw0
                generalize w_956.2.2 = f_957 at hP hD hI hw0
                generalize H1 = H at hP hS ⊢
                have hkp := hw0.2.2
                have hrp_959 : rep q d u2 z_949 f_957 := rep_kp hrp_953 hIb (by rw [zE_o hEz hIo.2.1.1.1]; exact hz0) hkp
                have hi3 : i_3 < (u2.1 3).toNatClampNeg := by rw [eu2]; exact hi_4
                obtain ⟨rs_960, n_961, g_962, fg_963, hit_964, hs_965, hpa_966, hps_967, h1_968, h6_969, hcb_970, hpl_971, hlg_972, hnn_973, hfa_974, hfs_975, hfe_976, hrs_977, hkt_978⟩ := it_all hI hrp_959.2.2.1 hi3
                refine lv_aload hx hb dX11_put_125 (lv_at hl 1 rfl) ?_
                obtain ⟨kk_979, hk_980⟩ := pl_at hit_964.1 hs_965
                refine w_then (F0 m 130 ls [.int (u2.2 22 i_3)]) (fun hgo => ?_) ?_
                ·
                  rcases x_tag hit_964 with ht9 | ht9 | ht9 | ht9 | ht9 | ht9
                  ·
                    rw [ht9.2] at hk_980
                    exact va_get (D := (dC, dI)) (ci := 2) (v := .int (u2.2 22 i_3)) (C := RX2) (T := TX2) (N := 7) hx hb hts (by decide +kernel) hown hK hP kk_979 hk_980 rfl 3 (by decide) (hts (.fieldLink RX11 170 "PageOne$Item" "count" "I") (by decide +kernel)) (fun _ h9 => h9) rfl dX11_put_127 hgo
                  ·
                    rw [ht9.2] at hk_980
                    exact va_get (D := (dC, dI)) (ci := 3) (v := .int (u2.2 22 i_3)) (C := RX3) (T := TX3) (N := 8) hx hb hts (by decide +kernel) hown hK hP kk_979 hk_980 rfl 3 (by decide) (hts (.fieldLink RX11 170 "PageOne$Item" "count" "I") (by decide +kernel)) (fun _ h9 => h9) rfl dX11_put_127 hgo
                  ·
                    rw [ht9.2] at hk_980
                    exact va_get (D := (dC, dI)) (ci := 4) (v := .int (u2.2 22 i_3)) (C := RX5) (T := TX5) (N := 7) hx hb hts (by decide +kernel) hown hK hP kk_979 hk_980 rfl 3 (by decide) (hts (.fieldLink RX11 170 "PageOne$Item" "count" "I") (by decide +kernel)) (fun _ h9 => h9) rfl dX11_put_127 hgo
                  ·
                    rw [ht9.2] at hk_980
                    exact va_get (D := (dC, dI)) (ci := 5) (v := .int (u2.2 22 i_3)) (C := RX6) (T := TX6) (N := 9) hx hb hts (by decide +kernel) hown hK hP kk_979 hk_980 rfl 3 (by decide) (hts (.fieldLink RX11 170 "PageOne$Item" "count" "I") (by decide +kernel)) (fun _ h9 => h9) rfl dX11_put_127 hgo
                  ·
                    rw [ht9.2] at hk_980
                    exact va_get (D := (dC, dI)) (ci := 6) (v := .int (u2.2 22 i_3)) (C := RX7) (T := TX7) (N := 8) hx hb hts (by decide +kernel) hown hK hP kk_979 hk_980 rfl 3 (by decide) (hts (.fieldLink RX11 170 "PageOne$Item" "count" "I") (by decide +kernel)) (fun _ h9 => h9) rfl dX11_put_127 hgo
                  ·
                    rw [ht9.2] at hk_980
                    exact va_get (D := (dC, dI)) (ci := 9) (v := .int (u2.2 22 i_3)) (C := RX10) (T := TX10) (N := 9) hx hb hts (by decide +kernel) hown hK hP kk_979 hk_980 rfl 3 (by decide) (hts (.fieldLink RX11 170 "PageOne$Item" "count" "I") (by decide +kernel)) (fun _ h9 => h9) rfl dX11_put_127 hgo
                ·
                  exact W.iret (v := (u2.2 22 i_3)) hx hb hr (fun t ht hW => ⟨⟨(u2.2 22 i_3), (k_958, z_949, f_957), rfl, (Or.inr ⟨i_3, P, X, Y, D, N, ⟨ep_5, hi_4, eP1, eX, eY, ((show cpW u i_3 p4 = zr_822 by unfold cpW; rw [if_neg (by rw [hkd]; decide), if_neg (by rw [hkd]; decide), ezr_822])).trans eD, ((show cpH u i_3 p4 = zr_825 by unfold cpH; rw [if_neg (by rw [hkd]; decide), if_neg (by rw [hkd]; decide), if_neg (by rw [hkd]; decide), ezr_825]; rfl)).trans eN, (by rw [← hk1o]; exact (n300 hIo.1.2.1).2 hcx), hrx, hrm9, by rw [← eP1] at hmF; rw [(show cpW u i_3 p4 = zr_822 by unfold cpW; rw [if_neg (by rw [hkd]; decide), if_neg (by rw [hkd]; decide), ezr_822]), (show cpH u i_3 p4 = zr_825 by unfold cpH; rw [if_neg (by rw [hkd]; decide), if_neg (by rw [hkd]; decide), if_neg (by rw [hkd]; decide), ezr_825]; rfl)]; exact hmF, ⟨zr_940, c_941, by rw [(show cpW u i_3 p4 = zr_822 by unfold cpW; rw [if_neg (by rw [hkd]; decide), if_neg (by rw [hkd]; decide), ezr_822]), (show cpH u i_3 p4 = zr_825 by unfold cpH; rw [if_neg (by rw [hkd]; decide), if_neg (by rw [hkd]; decide), if_neg (by rw [hkd]; decide), ezr_825]; rfl)]; exact ⟨(fun h9 => absurd (hkd.symm.trans h9) (by decide)), (fun h9 => absurd (hkd.symm.trans h9) (by decide)), (fun _ => ⟨o9, _, _, hx_853, hx_854, hfe_848, hfe_935, by rw [← hk2]; exact ezr_940⟩), (fun h9 => by rcases h9 with h8 | h8 | h8 <;> exact absurd (hkd.symm.trans h8) (by decide))⟩⟩, hemp⟩, by rw [show (u2.2 22 i_3) = (mStand u (nI i_3) P X Y D N).2 22 i_3 from by rw [eu2]]; exact put_fin hk1o hi8 hEz hI (by rw [← eu2]; exact hrp_959) h3m hkp.1 (kp_3 hrp_953 hIb hkp) ⟨ht_952, by rw [ez_949, pz_s]⟩ hpcx⟩), by rw [ht]; exact hP, hD⟩, hS.F ht⟩) hS.2.2 dX11_put_130
              ·
                refine lv_iconst (v := (-1)) hx hb dX11_put_102 (by decide) ?_
                refine W.widen (k := 2) (n := 10) (Nat.le_of_ble_eq_true rfl) (Nat.le_of_ble_eq_true rfl) ?_
                exact W.iret (v := (-1)) hx hb hr (fun t ht hW => ⟨⟨(-1), (k, z_827, f_828), rfl, (Or.inl ⟨Or.inr (Or.inr (Or.inr ⟨i_3, ep_5, hi_4, Or.inr (Or.inr (by rw [(show cpW u i_3 p4 = zr_822 by unfold cpW; rw [if_neg (by rw [hkd]; decide), if_neg (by rw [hkd]; decide), ezr_822]), (show cpH u i_3 p4 = zr_825 by unfold cpH; rw [if_neg (by rw [hkd]; decide), if_neg (by rw [hkd]; decide), if_neg (by rw [hkd]; decide), ezr_825]; rfl)]; exact ⟨(fun h9 => absurd (hkd.symm.trans h9) (by decide)), (fun h9 => absurd (hkd.symm.trans h9) (by decide)), (fun _ => ⟨o9, _, _, hx_853, hx_854, hfe_848, hfe_935, by rw [← hk2]; exact (c_941.symm.trans ezr_940)⟩), (fun h9 => by rcases h9 with h8 | h8 | h8 <;> exact absurd (hkd.symm.trans h8) (by decide))⟩))⟩)), ⟨hEz, hI, rfl, hrp_831, fun _ _ => rfl, hk1o, Or.inl ⟨h3m, rfl⟩⟩⟩), by rw [ht]; exact hP, hD⟩, hS.F ht⟩) hS.2.2 dX11_put_103
            ·
              subst hw
              refine lv_if_eq (tgt := 102) hx hb dX11_put_76 (by decide) (fun c_981 => ?_) (fun c_981 => absurd (by decide) c_981)
              refine lv_iconst (v := (-1)) hx hb dX11_put_102 (by decide) ?_
              refine W.widen (k := 2) (n := 10) (Nat.le_of_ble_eq_true rfl) (Nat.le_of_ble_eq_true rfl) ?_
              exact W.iret (v := (-1)) hx hb hr (fun t ht hW => ⟨⟨(-1), (k, z_827, f_828), rfl, (Or.inl ⟨Or.inr (Or.inr (Or.inr ⟨i_3, ep_5, hi_4, Or.inr (Or.inl (fun h9 => hfr_892 ((fr_iff2 b_26 el_888 ec_889 hgb_886).mpr (by rw [(show cpW u i_3 p4 = zr_822 by unfold cpW; rw [if_neg (by rw [hkd]; decide), if_neg (by rw [hkd]; decide), ezr_822]), (show cpH u i_3 p4 = zr_825 by unfold cpH; rw [if_neg (by rw [hkd]; decide), if_neg (by rw [hkd]; decide), if_neg (by rw [hkd]; decide), ezr_825]; rfl)] at h9; exact h9))))⟩)), ⟨hEz, hI, rfl, hrp_831, fun _ _ => rfl, hk1o, Or.inl ⟨h3m, rfl⟩⟩⟩), by rw [ht]; exact hP, hD⟩, hS.F ht⟩) hS.2.2 dX11_put_103
    ·
      obtain rfl : r = 0 := b_f hw b_26
      refine lv_if_eq (tgt := 26) hx hb dX11_put_16 (by decide) (fun c_982 => ?_) (fun c_982 => absurd (by decide) c_982)
      refine lv_iconst (v := (-1)) hx hb dX11_put_26 (by decide) ?_
      refine W.widen (k := 2) (n := 10) (Nat.le_of_ble_eq_true rfl) (Nat.le_of_ble_eq_true rfl) ?_
      exact W.iret (v := (-1)) hx hb hr (fun t ht hW => ⟨⟨(-1), (k, z, f), rfl, (Or.inl ⟨Or.inr (Or.inl (bne b_26)), actP_0 hI hrp hk1o rfl⟩), by rw [ht]; exact hP, hD⟩, hS.F ht⟩) hS.2.2 dX11_put_27
