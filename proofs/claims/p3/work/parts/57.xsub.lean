set_option maxHeartbeats 4000000 in
set_option maxRecDepth 100000 in
theorem x_X2_linesBy (l : Launch) (dC : Nat → ClassId) (dI : Nat → Nat → Nat) (q : Nat → ClassId) (h0 : Nat) (d : Nat → Nat) (k : Nat → Int32) (z : gS) (f : xF) (hI : xI q h0 d k z f) (a0 : Nat) (p0 : Int32) (ha0 : tg z a0 10) : Met l yX2_linesBy wsX2_linesBy ({ frames := 1, cells := 0, slots := 0, locals := 22 }) (va_Pc [.ref a0, .int p0] (PX dC dI (va_pl z.1 f) (xT q))) (vp_Si (fun r => True)) 0 0 (fun _ => False) := by
  refine Met.ofW (cc := cX2_linesBy) (maxL := 2) (ret := (some .int)) (by decide) rfl ?_
  intro p e s m args below meth c s₁ B hml hv
  obtain ⟨rfl, ⟨hP, hK, hN⟩, hXN⟩ := hv
  have hx := B.exec
  have hb := B.bytes
  have hr := B.returns
  have hts := atoms_spec (ws := wsX2_linesBy) B.pre
  have hown : s.vm.findClass RX2 = some m.cls := findClass_of_methodNamed B.named
  have hlocks := B.notSynchronized
  have hl := lv_entry ([.ref a0, .int p0]) (n := 2) (Nat.le_of_ble_eq_true rfl)
  rw [lg_entry_eq]
  generalize (lg_sl ([.ref a0, .int p0]) ++ List.replicate (2 - (lg_sl ([.ref a0, .int p0])).length) Slot.unset).toArray = ls at hl ⊢
  have hl : lv_has ls 2 [(0, .ref a0), (1, .int p0)] := hl
  refine lv_iload_n hx hb dX2_linesBy_0 rfl (lv_at hl 1 rfl) ?_
  refine lv_aload_n hx hb dX2_linesBy_1 rfl (lv_at hl 0 rfl) ?_
  obtain ⟨nu_1, kd_2, cn_3, pa_4, fa_5, l_6, m_7, hs_8, hs_9, hs_10, hs_11⟩ := x_ifl hI ha0
  obtain ⟨kk_12, hk_13⟩ := pl_at ha0.1 hs_8
  refine va_get (D := (dC, dI)) (ci := 2) (v := .int l_6) (C := RX2) (T := TX2) (N := 7) hx hb hts (by decide +kernel) hown hK hP kk_12 hk_13 rfl 5 (by decide) (hts (.fieldLink RX2 9 "PageOne$Filler" "least" "I") (by decide +kernel)) (fun _ h9 => h9) rfl dX2_linesBy_2 ?_
  refine lv_aload_n hx hb dX2_linesBy_5 rfl (lv_at hl 0 rfl) ?_
  obtain ⟨kk_14, hk_15⟩ := pl_at ha0.1 hs_8
  refine va_get (D := (dC, dI)) (ci := 2) (v := .int m_7) (C := RX2) (T := TX2) (N := 7) hx hb hts (by decide +kernel) hown hK hP kk_14 hk_15 rfl 6 (by decide) (hts (.fieldLink RX2 15 "PageOne$Filler" "most" "I") (by decide +kernel)) (fun _ h9 => h9) rfl dX2_linesBy_6 ?_
  refine vp_callSi (va_runSN (As := [.int p0, .int l_6, .int m_7]) (rest := []) ⟨hx, hb, hml, hown, hts⟩ (x_isWithin l dC dI p0 l_6 m_7) ⟨va_cnB (host := "PageOne") 3 hts gX2_linesBy_X11_isWithin_n18 rfl rfl rfl hN.n_RX2_18 (hts (.initialized RX11) (by decide +kernel)) (by decide +kernel) ⟨Nat.le_of_ble_eq_true rfl, Nat.le_of_ble_eq_true rfl⟩, hts (.static yX11_isWithin) (by decide +kernel), trivial⟩ ⟨pw_fb, fun U hU hW => ⟨rfl, pw_to hU hW (hP.sub (ws' := []) [] rfl) (hK.sub (tys' := []) [] rfl) hN⟩⟩ rfl rfl hl.1 rfl (lv_room (Nat.le_of_ble_eq_true rfl)) dX2_linesBy_9 ⟨Nat.le_of_ble_eq_true rfl, Nat.le_of_ble_eq_true rfl⟩).run (fun r hw => ?_)
  rcases Bool.eq_false_or_eq_true (bw p0 l_6 m_7) with b_16 | b_16
  ·
    obtain rfl : r = 1 := b_t hw b_16
    refine lv_if_eq (tgt := 19) hx hb dX2_linesBy_12 (by decide) (fun c_17 => absurd c_17 (by decide)) (fun c_17 => ?_)
    refine lv_iload_n hx hb dX2_linesBy_15 rfl (lv_at hl 1 rfl) ?_
    refine lv_goto (tgt := 20) hx hb dX2_linesBy_16 (by decide) ?_
    exact W.iret (v := p0) hx hb hr (fun t ht hW => ⟨_, rfl, trivial, ht⟩) (fun q h => absurd h List.not_mem_nil) dX2_linesBy_20
  ·
    obtain rfl : r = 0 := b_f hw b_16
    refine lv_if_eq (tgt := 19) hx hb dX2_linesBy_12 (by decide) (fun c_18 => ?_) (fun c_18 => absurd (by decide) c_18)
    refine lv_iconst (v := 0) hx hb dX2_linesBy_19 (by decide) ?_
    exact W.iret (v := 0) hx hb hr (fun t ht hW => ⟨_, rfl, trivial, ht⟩) (fun q h => absurd h List.not_mem_nil) dX2_linesBy_20
set_option maxHeartbeats 4000000 in
set_option maxRecDepth 100000 in
theorem x_X3_columnsBy (l : Launch) (dC : Nat → ClassId) (dI : Nat → Nat → Nat) (q : Nat → ClassId) (h0 : Nat) (d : Nat → Nat) (k : Nat → Int32) (z : gS) (f : xF) (hI : xI q h0 d k z f) (a0 : Nat) (p0 : Int32) (ha0 : tg z a0 11) : Met l yX3_columnsBy wsX3_columnsBy ({ frames := 0, cells := 0, slots := 0, locals := 0 }) (va_Pc [.ref a0, .int p0] (PX dC dI (va_pl z.1 f) (xT q))) (vp_Si (fun r => True)) 0 0 (fun _ => False) := by
  refine Met.ofW (cc := cX3_columnsBy) (maxL := 2) (ret := (some .int)) (by decide) rfl ?_
  intro p e s m args below meth c s₁ B hml hv
  obtain ⟨rfl, ⟨hP, hK, hN⟩, hXN⟩ := hv
  have hx := B.exec
  have hb := B.bytes
  have hr := B.returns
  have hts := atoms_spec (ws := wsX3_columnsBy) B.pre
  have hown : s.vm.findClass RX3 = some m.cls := findClass_of_methodNamed B.named
  have hlocks := B.notSynchronized
  have hl := lv_entry ([.ref a0, .int p0]) (n := 2) (Nat.le_of_ble_eq_true rfl)
  rw [lg_entry_eq]
  generalize (lg_sl ([.ref a0, .int p0]) ++ List.replicate (2 - (lg_sl ([.ref a0, .int p0])).length) Slot.unset).toArray = ls at hl ⊢
  have hl : lv_has ls 2 [(0, .ref a0), (1, .int p0)] := hl
  refine lv_iload_n hx hb dX3_columnsBy_0 rfl (lv_at hl 1 rfl) ?_
  refine lv_if_ne (tgt := 11) hx hb dX3_columnsBy_1 (by decide) (fun c_1 => ?_) (fun c_1 => ?_)
  ·
    refine lv_iconst (v := 0) hx hb dX3_columnsBy_11 (by decide) ?_
    exact W.iret (v := 0) hx hb hr (fun t ht hW => ⟨_, rfl, trivial, ht⟩) (fun q h => absurd h List.not_mem_nil) dX3_columnsBy_12
  ·
    refine lv_aload_n hx hb dX3_columnsBy_4 rfl (lv_at hl 0 rfl) ?_
    obtain ⟨nu_2, kd_3, cn_4, pa_5, fa_6, o_7, w_8, y_9, hs_10, hs_11, hs_12, hs_13, hq_14⟩ := x_ihd hI ha0
    obtain ⟨kk_15, hk_16⟩ := pl_at ha0.1 hs_10
    refine va_get (D := (dC, dI)) (ci := 3) (v := .int w_8) (C := RX3) (T := TX3) (N := 8) hx hb hts (by decide +kernel) hown hK hP kk_15 hk_16 rfl 6 (by decide) (hts (.fieldLink RX3 15 "PageOne$Head" "w" "I") (by decide +kernel)) (fun _ h9 => h9) rfl dX3_columnsBy_5 ?_
    refine lv_goto (tgt := 12) hx hb dX3_columnsBy_8 (by decide) ?_
    exact W.iret (v := w_8) hx hb hr (fun t ht hW => ⟨_, rfl, trivial, ht⟩) (fun q h => absurd h List.not_mem_nil) dX3_columnsBy_12
set_option maxHeartbeats 4000000 in
set_option maxRecDepth 100000 in
theorem x_X3_linesBy (l : Launch) (dC : Nat → ClassId) (dI : Nat → Nat → Nat) (q : Nat → ClassId) (h0 : Nat) (d : Nat → Nat) (k : Nat → Int32) (z : gS) (f : xF) (hI : xI q h0 d k z f) (a0 : Nat) (p0 : Int32) (ha0 : tg z a0 11) : Met l yX3_linesBy wsX3_linesBy ({ frames := 0, cells := 0, slots := 0, locals := 0 }) (va_Pc [.ref a0, .int p0] (PX dC dI (va_pl z.1 f) (xT q))) (vp_Si (fun r => True)) 0 0 (fun _ => False) := by
  refine Met.ofW (cc := cX3_linesBy) (maxL := 2) (ret := (some .int)) (by decide) rfl ?_
  intro p e s m args below meth c s₁ B hml hv
  obtain ⟨rfl, ⟨hP, hK, hN⟩, hXN⟩ := hv
  have hx := B.exec
  have hb := B.bytes
  have hr := B.returns
  have hts := atoms_spec (ws := wsX3_linesBy) B.pre
  have hown : s.vm.findClass RX3 = some m.cls := findClass_of_methodNamed B.named
  have hlocks := B.notSynchronized
  have hl := lv_entry ([.ref a0, .int p0]) (n := 2) (Nat.le_of_ble_eq_true rfl)
  rw [lg_entry_eq]
  generalize (lg_sl ([.ref a0, .int p0]) ++ List.replicate (2 - (lg_sl ([.ref a0, .int p0])).length) Slot.unset).toArray = ls at hl ⊢
  have hl : lv_has ls 2 [(0, .ref a0), (1, .int p0)] := hl
  refine lv_iload_n hx hb dX3_linesBy_0 rfl (lv_at hl 1 rfl) ?_
  refine lv_if_ne (tgt := 11) hx hb dX3_linesBy_1 (by decide) (fun c_1 => ?_) (fun c_1 => ?_)
  ·
    refine lv_iconst (v := 0) hx hb dX3_linesBy_11 (by decide) ?_
    exact W.iret (v := 0) hx hb hr (fun t ht hW => ⟨_, rfl, trivial, ht⟩) (fun q h => absurd h List.not_mem_nil) dX3_linesBy_12
  ·
    refine lv_aload_n hx hb dX3_linesBy_4 rfl (lv_at hl 0 rfl) ?_
    obtain ⟨nu_2, kd_3, cn_4, pa_5, fa_6, o_7, w_8, y_9, hs_10, hs_11, hs_12, hs_13, hq_14⟩ := x_ihd hI ha0
    obtain ⟨kk_15, hk_16⟩ := pl_at ha0.1 hs_10
    refine va_get (D := (dC, dI)) (ci := 3) (v := .int y_9) (C := RX3) (T := TX3) (N := 8) hx hb hts (by decide +kernel) hown hK hP kk_15 hk_16 rfl 7 (by decide) (hts (.fieldLink RX3 19 "PageOne$Head" "h" "I") (by decide +kernel)) (fun _ h9 => h9) rfl dX3_linesBy_5 ?_
    refine lv_goto (tgt := 12) hx hb dX3_linesBy_8 (by decide) ?_
    exact W.iret (v := y_9) hx hb hr (fun t ht hW => ⟨_, rfl, trivial, ht⟩) (fun q h => absurd h List.not_mem_nil) dX3_linesBy_12
set_option maxHeartbeats 4000000 in
set_option maxRecDepth 100000 in
theorem x_X5_linesBy (l : Launch) (dC : Nat → ClassId) (dI : Nat → Nat → Nat) (q : Nat → ClassId) (h0 : Nat) (d : Nat → Nat) (k : Nat → Int32) (z : gS) (f : xF) (hI : xI q h0 d k z f) (a0 : Nat) (p0 : Int32) (ha0 : tg z a0 12) : Met l yX5_linesBy wsX5_linesBy ({ frames := 0, cells := 0, slots := 0, locals := 0 }) (va_Pc [.ref a0, .int p0] (PX dC dI (va_pl z.1 f) (xT q))) (vp_Si (fun r => True)) 0 0 (fun _ => False) := by
  refine Met.ofW (cc := cX5_linesBy) (maxL := 2) (ret := (some .int)) (by decide) rfl ?_
  intro p e s m args below meth c s₁ B hml hv
  obtain ⟨rfl, ⟨hP, hK, hN⟩, hXN⟩ := hv
  have hx := B.exec
  have hb := B.bytes
  have hr := B.returns
  have hts := atoms_spec (ws := wsX5_linesBy) B.pre
  have hown : s.vm.findClass RX5 = some m.cls := findClass_of_methodNamed B.named
  have hlocks := B.notSynchronized
  have hl := lv_entry ([.ref a0, .int p0]) (n := 2) (Nat.le_of_ble_eq_true rfl)
  rw [lg_entry_eq]
  generalize (lg_sl ([.ref a0, .int p0]) ++ List.replicate (2 - (lg_sl ([.ref a0, .int p0])).length) Slot.unset).toArray = ls at hl ⊢
  have hl : lv_has ls 2 [(0, .ref a0), (1, .int p0)] := hl
  refine lv_iload_n hx hb dX5_linesBy_0 rfl (lv_at hl 1 rfl) ?_
  refine lv_if_ne (tgt := 11) hx hb dX5_linesBy_1 (by decide) (fun c_1 => ?_) (fun c_1 => ?_)
  ·
    refine lv_iconst (v := 0) hx hb dX5_linesBy_11 (by decide) ?_
    exact W.iret (v := 0) hx hb hr (fun t ht hW => ⟨_, rfl, trivial, ht⟩) (fun q h => absurd h List.not_mem_nil) dX5_linesBy_12
  ·
    refine lv_aload_n hx hb dX5_linesBy_4 rfl (lv_at hl 0 rfl) ?_
    obtain ⟨nu_2, kd_3, cn_4, pa_5, fa_6, o_7, y_8, hs_9, hs_10, hs_11, hs_12, hq_13⟩ := x_ino hI ha0
    obtain ⟨kk_14, hk_15⟩ := pl_at ha0.1 hs_9
    refine va_get (D := (dC, dI)) (ci := 4) (v := .int y_8) (C := RX5) (T := TX5) (N := 7) hx hb hts (by decide +kernel) hown hK hP kk_14 hk_15 rfl 6 (by decide) (hts (.fieldLink RX5 15 "PageOne$Notice" "h" "I") (by decide +kernel)) (fun _ h9 => h9) rfl dX5_linesBy_5 ?_
    refine lv_goto (tgt := 12) hx hb dX5_linesBy_8 (by decide) ?_
    exact W.iret (v := y_8) hx hb hr (fun t ht hW => ⟨_, rfl, trivial, ht⟩) (fun q h => absurd h List.not_mem_nil) dX5_linesBy_12
set_option maxHeartbeats 4000000 in
set_option maxRecDepth 100000 in
theorem x_X6_columnsBy (l : Launch) (dC : Nat → ClassId) (dI : Nat → Nat → Nat) (q : Nat → ClassId) (h0 : Nat) (d : Nat → Nat) (k : Nat → Int32) (z : gS) (f : xF) (hI : xI q h0 d k z f) (a0 : Nat) (p0 : Int32) (ha0 : tg z a0 13) : Met l yX6_columnsBy wsX6_columnsBy ({ frames := 0, cells := 0, slots := 0, locals := 0 }) (va_Pc [.ref a0, .int p0] (PX dC dI (va_pl z.1 f) (xT q))) (vp_Si (fun r => True)) 0 0 (fun _ => False) := by
  refine Met.ofW (cc := cX6_columnsBy) (maxL := 2) (ret := (some .int)) (by decide) rfl ?_
  intro p e s m args below meth c s₁ B hml hv
  obtain ⟨rfl, ⟨hP, hK, hN⟩, hXN⟩ := hv
  have hx := B.exec
  have hb := B.bytes
  have hr := B.returns
  have hts := atoms_spec (ws := wsX6_columnsBy) B.pre
  have hown : s.vm.findClass RX6 = some m.cls := findClass_of_methodNamed B.named
  have hlocks := B.notSynchronized
  have hl := lv_entry ([.ref a0, .int p0]) (n := 2) (Nat.le_of_ble_eq_true rfl)
  rw [lg_entry_eq]
  generalize (lg_sl ([.ref a0, .int p0]) ++ List.replicate (2 - (lg_sl ([.ref a0, .int p0])).length) Slot.unset).toArray = ls at hl ⊢
  have hl : lv_has ls 2 [(0, .ref a0), (1, .int p0)] := hl
  refine lv_iload_n hx hb dX6_columnsBy_0 rfl (lv_at hl 1 rfl) ?_
  refine lv_if_ne (tgt := 14) hx hb dX6_columnsBy_1 (by decide) (fun c_1 => ?_) (fun c_1 => ?_)
  ·
    refine lv_iconst (v := 0) hx hb dX6_columnsBy_14 (by decide) ?_
    exact W.iret (v := 0) hx hb hr (fun t ht hW => ⟨_, rfl, trivial, ht⟩) (fun q h => absurd h List.not_mem_nil) dX6_columnsBy_15
  ·
    refine lv_aload_n hx hb dX6_columnsBy_4 rfl (lv_at hl 0 rfl) ?_
    obtain ⟨nu_2, kd_3, cn_4, pa_5, fa_6, b_7, pr_8, sp_9, dy_10, hs_11, hs_12, hs_13, hs_14, hq_15, hq_16, hq_17⟩ := x_ipd hI ha0
    obtain ⟨kk_18, hk_19⟩ := pl_at ha0.1 hs_11
    refine va_get (D := (dC, dI)) (ci := 5) (v := .ref sp_9) (C := RX6) (T := TX6) (N := 9) hx hb hts (by decide +kernel) hown hK hP kk_18 hk_19 rfl 7 (by decide) (hts (.fieldLink RX6 22 "PageOne$Paid" "spot" "LPageOne$Piece;") (by decide +kernel)) (fun _ h9 => h9) rfl dX6_columnsBy_5 ?_
    have hcp := hq_16
    obtain ⟨it_20, P_21, X_22, Y_23, D_24, N_25, hp_26, hb_27, hb_28, hb_29, hb_30⟩ := hcp
    obtain ⟨kk_31, hk_32⟩ := pl_at hp_26.1.1 (x_pcF hI hp_26)
    refine va_get (D := (dC, dI)) (ci := 7) (v := .int D_24) (C := RX8) (T := TX8) (N := 6) hx hb hts (by decide +kernel) hown hK hP kk_31 hk_32 rfl 4 (by decide) (hts (.fieldLink RX6 26 "PageOne$Piece" "w" "I") (by decide +kernel)) (fun _ h9 => h9) rfl dX6_columnsBy_8 ?_
    refine lv_goto (tgt := 15) hx hb dX6_columnsBy_11 (by decide) ?_
    exact W.iret (v := D_24) hx hb hr (fun t ht hW => ⟨_, rfl, trivial, ht⟩) (fun q h => absurd h List.not_mem_nil) dX6_columnsBy_15
set_option maxHeartbeats 4000000 in
set_option maxRecDepth 100000 in
theorem x_X6_linesBy (l : Launch) (dC : Nat → ClassId) (dI : Nat → Nat → Nat) (q : Nat → ClassId) (h0 : Nat) (d : Nat → Nat) (k : Nat → Int32) (z : gS) (f : xF) (hI : xI q h0 d k z f) (a0 : Nat) (p0 : Int32) (ha0 : tg z a0 13) : Met l yX6_linesBy wsX6_linesBy ({ frames := 0, cells := 0, slots := 0, locals := 0 }) (va_Pc [.ref a0, .int p0] (PX dC dI (va_pl z.1 f) (xT q))) (vp_Si (fun r => True)) 0 0 (fun _ => False) := by
  refine Met.ofW (cc := cX6_linesBy) (maxL := 2) (ret := (some .int)) (by decide) rfl ?_
  intro p e s m args below meth c s₁ B hml hv
  obtain ⟨rfl, ⟨hP, hK, hN⟩, hXN⟩ := hv
  have hx := B.exec
  have hb := B.bytes
  have hr := B.returns
  have hts := atoms_spec (ws := wsX6_linesBy) B.pre
  have hown : s.vm.findClass RX6 = some m.cls := findClass_of_methodNamed B.named
  have hlocks := B.notSynchronized
  have hl := lv_entry ([.ref a0, .int p0]) (n := 2) (Nat.le_of_ble_eq_true rfl)
  rw [lg_entry_eq]
  generalize (lg_sl ([.ref a0, .int p0]) ++ List.replicate (2 - (lg_sl ([.ref a0, .int p0])).length) Slot.unset).toArray = ls at hl ⊢
  have hl : lv_has ls 2 [(0, .ref a0), (1, .int p0)] := hl
  refine lv_iload_n hx hb dX6_linesBy_0 rfl (lv_at hl 1 rfl) ?_
  refine lv_if_ne (tgt := 14) hx hb dX6_linesBy_1 (by decide) (fun c_1 => ?_) (fun c_1 => ?_)
  ·
    refine lv_iconst (v := 0) hx hb dX6_linesBy_14 (by decide) ?_
    exact W.iret (v := 0) hx hb hr (fun t ht hW => ⟨_, rfl, trivial, ht⟩) (fun q h => absurd h List.not_mem_nil) dX6_linesBy_15
  ·
    refine lv_aload_n hx hb dX6_linesBy_4 rfl (lv_at hl 0 rfl) ?_
    obtain ⟨nu_2, kd_3, cn_4, pa_5, fa_6, b_7, pr_8, sp_9, dy_10, hs_11, hs_12, hs_13, hs_14, hq_15, hq_16, hq_17⟩ := x_ipd hI ha0
    obtain ⟨kk_18, hk_19⟩ := pl_at ha0.1 hs_11
    refine va_get (D := (dC, dI)) (ci := 5) (v := .ref sp_9) (C := RX6) (T := TX6) (N := 9) hx hb hts (by decide +kernel) hown hK hP kk_18 hk_19 rfl 7 (by decide) (hts (.fieldLink RX6 22 "PageOne$Paid" "spot" "LPageOne$Piece;") (by decide +kernel)) (fun _ h9 => h9) rfl dX6_linesBy_5 ?_
    have hcp := hq_16
    obtain ⟨it_20, P_21, X_22, Y_23, D_24, N_25, hp_26, hb_27, hb_28, hb_29, hb_30⟩ := hcp
    obtain ⟨kk_31, hk_32⟩ := pl_at hp_26.1.1 (x_pcF hI hp_26)
    refine va_get (D := (dC, dI)) (ci := 7) (v := .int N_25) (C := RX8) (T := TX8) (N := 6) hx hb hts (by decide +kernel) hown hK hP kk_31 hk_32 rfl 5 (by decide) (hts (.fieldLink RX6 31 "PageOne$Piece" "h" "I") (by decide +kernel)) (fun _ h9 => h9) rfl dX6_linesBy_8 ?_
    refine lv_goto (tgt := 15) hx hb dX6_linesBy_11 (by decide) ?_
    exact W.iret (v := N_25) hx hb hr (fun t ht hW => ⟨_, rfl, trivial, ht⟩) (fun q h => absurd h List.not_mem_nil) dX6_linesBy_15
set_option maxHeartbeats 4000000 in
set_option maxRecDepth 100000 in
theorem x_X7_columnsBy (l : Launch) (dC : Nat → ClassId) (dI : Nat → Nat → Nat) (q : Nat → ClassId) (h0 : Nat) (d : Nat → Nat) (k : Nat → Int32) (z : gS) (f : xF) (hI : xI q h0 d k z f) (a0 : Nat) (p0 : Int32) (ha0 : tg z a0 14) : Met l yX7_columnsBy wsX7_columnsBy ({ frames := 1, cells := 0, slots := 0, locals := 22 }) (va_Pc [.ref a0, .int p0] (PX dC dI (va_pl z.1 f) (xT q))) (vp_Si (fun r => True)) 0 0 (fun _ => False) := by
  refine Met.ofW (cc := cX7_columnsBy) (maxL := 2) (ret := (some .int)) (by decide) rfl ?_
  intro p e s m args below meth c s₁ B hml hv
  obtain ⟨rfl, ⟨hP, hK, hN⟩, hXN⟩ := hv
  have hx := B.exec
  have hb := B.bytes
  have hr := B.returns
  have hts := atoms_spec (ws := wsX7_columnsBy) B.pre
  have hown : s.vm.findClass RX7 = some m.cls := findClass_of_methodNamed B.named
  have hlocks := B.notSynchronized
  have hl := lv_entry ([.ref a0, .int p0]) (n := 2) (Nat.le_of_ble_eq_true rfl)
  rw [lg_entry_eq]
  generalize (lg_sl ([.ref a0, .int p0]) ++ List.replicate (2 - (lg_sl ([.ref a0, .int p0])).length) Slot.unset).toArray = ls at hl ⊢
  have hl : lv_has ls 2 [(0, .ref a0), (1, .int p0)] := hl
  refine lv_iload_n hx hb dX7_columnsBy_0 rfl (lv_at hl 1 rfl) ?_
  refine lv_iconst (v := 0) hx hb dX7_columnsBy_1 (by decide) ?_
  refine lv_aload_n hx hb dX7_columnsBy_2 rfl (lv_at hl 0 rfl) ?_
  obtain ⟨nu_1, kd_2, cn_3, pa_4, fa_5, ww_6, hh_7, sz_8, hs_9, hs_10, hs_11, hs_12, hq_13, hq_14, hq_15⟩ := x_ipi hI ha0
  obtain ⟨kk_16, hk_17⟩ := pl_at ha0.1 hs_9
  refine va_get (D := (dC, dI)) (ci := 6) (v := .int sz_8) (C := RX7) (T := TX7) (N := 8) hx hb hts (by decide +kernel) hown hK hP kk_16 hk_17 rfl 7 (by decide) (hts (.fieldLink RX7 18 "PageOne$Picture" "sizes" "I") (by decide +kernel)) (fun _ h9 => h9) rfl dX7_columnsBy_3 ?_
  refine lv_iconst (v := 1) hx hb dX7_columnsBy_6 (by decide) ?_
  refine lv_isub hx hb dX7_columnsBy_7 ?_
  refine vp_callSi (va_runSN (As := [.int p0, .int 0, .int (sz_8 - 1)]) (rest := []) ⟨hx, hb, hml, hown, hts⟩ (x_isWithin l dC dI p0 0 (sz_8 - 1)) ⟨va_cnB (host := "PageOne") 3 hts gX7_columnsBy_X11_isWithin_n22 rfl rfl rfl hN.n_RX7_22 (hts (.initialized RX11) (by decide +kernel)) (by decide +kernel) ⟨Nat.le_of_ble_eq_true rfl, Nat.le_of_ble_eq_true rfl⟩, hts (.static yX11_isWithin) (by decide +kernel), trivial⟩ ⟨pw_fb, fun U hU hW => ⟨rfl, pw_to hU hW (hP.sub (ws' := []) [] rfl) (hK.sub (tys' := []) [] rfl) hN⟩⟩ rfl rfl hl.1 rfl (lv_room (Nat.le_of_ble_eq_true rfl)) dX7_columnsBy_8 ⟨Nat.le_of_ble_eq_true rfl, Nat.le_of_ble_eq_true rfl⟩).run (fun r hw => ?_)
  rcases Bool.eq_false_or_eq_true (bw p0 0 (sz_8 - 1)) with b_18 | b_18
  ·
    obtain rfl : r = 1 := b_t hw b_18
    refine lv_if_eq (tgt := 23) hx hb dX7_columnsBy_11 (by decide) (fun c_19 => absurd c_19 (by decide)) (fun c_19 => ?_)
    refine lv_aload_n hx hb dX7_columnsBy_14 rfl (lv_at hl 0 rfl) ?_
    obtain ⟨kk_20, hk_21⟩ := pl_at ha0.1 hs_9
    refine va_get (D := (dC, dI)) (ci := 6) (v := .ref ww_6) (C := RX7) (T := TX7) (N := 8) hx hb hts (by decide +kernel) hown hK hP kk_20 hk_21 rfl 5 (by decide) (hts (.fieldLink RX7 9 "PageOne$Picture" "widths" "[I") (by decide +kernel)) (fun _ h9 => h9) rfl dX7_columnsBy_15 ?_
    refine lv_iload_n hx hb dX7_columnsBy_18 rfl (lv_at hl 1 rfl) ?_
    obtain ⟨g_22, hs_23⟩ := x_20 hI hq_13
    obtain ⟨kk_24, hk_25⟩ := pl_at hq_13.1 hs_23
    refine va_iald hx hb hK hP kk_24 0 hk_25 rfl (vsz hq_15 b_18) dX7_columnsBy_19 ?_
    refine lv_goto (tgt := 24) hx hb dX7_columnsBy_20 (by decide) ?_
    exact W.iret (v := (g_22 (p0 : Int32).toNatClampNeg)) hx hb hr (fun t ht hW => ⟨_, rfl, trivial, ht⟩) (fun q h => absurd h List.not_mem_nil) dX7_columnsBy_24
  ·
    obtain rfl : r = 0 := b_f hw b_18
    refine lv_if_eq (tgt := 23) hx hb dX7_columnsBy_11 (by decide) (fun c_26 => ?_) (fun c_26 => absurd (by decide) c_26)
    refine lv_iconst (v := 0) hx hb dX7_columnsBy_23 (by decide) ?_
    exact W.iret (v := 0) hx hb hr (fun t ht hW => ⟨_, rfl, trivial, ht⟩) (fun q h => absurd h List.not_mem_nil) dX7_columnsBy_24
set_option maxHeartbeats 4000000 in
set_option maxRecDepth 100000 in
theorem x_X7_linesBy (l : Launch) (dC : Nat → ClassId) (dI : Nat → Nat → Nat) (q : Nat → ClassId) (h0 : Nat) (d : Nat → Nat) (k : Nat → Int32) (z : gS) (f : xF) (hI : xI q h0 d k z f) (a0 : Nat) (p0 : Int32) (ha0 : tg z a0 14) : Met l yX7_linesBy wsX7_linesBy ({ frames := 1, cells := 0, slots := 0, locals := 22 }) (va_Pc [.ref a0, .int p0] (PX dC dI (va_pl z.1 f) (xT q))) (vp_Si (fun r => True)) 0 0 (fun _ => False) := by
  refine Met.ofW (cc := cX7_linesBy) (maxL := 2) (ret := (some .int)) (by decide) rfl ?_
  intro p e s m args below meth c s₁ B hml hv
  obtain ⟨rfl, ⟨hP, hK, hN⟩, hXN⟩ := hv
  have hx := B.exec
  have hb := B.bytes
  have hr := B.returns
  have hts := atoms_spec (ws := wsX7_linesBy) B.pre
  have hown : s.vm.findClass RX7 = some m.cls := findClass_of_methodNamed B.named
  have hlocks := B.notSynchronized
  have hl := lv_entry ([.ref a0, .int p0]) (n := 2) (Nat.le_of_ble_eq_true rfl)
  rw [lg_entry_eq]
  generalize (lg_sl ([.ref a0, .int p0]) ++ List.replicate (2 - (lg_sl ([.ref a0, .int p0])).length) Slot.unset).toArray = ls at hl ⊢
  have hl : lv_has ls 2 [(0, .ref a0), (1, .int p0)] := hl
  refine lv_iload_n hx hb dX7_linesBy_0 rfl (lv_at hl 1 rfl) ?_
  refine lv_iconst (v := 0) hx hb dX7_linesBy_1 (by decide) ?_
  refine lv_aload_n hx hb dX7_linesBy_2 rfl (lv_at hl 0 rfl) ?_
  obtain ⟨nu_1, kd_2, cn_3, pa_4, fa_5, ww_6, hh_7, sz_8, hs_9, hs_10, hs_11, hs_12, hq_13, hq_14, hq_15⟩ := x_ipi hI ha0
  obtain ⟨kk_16, hk_17⟩ := pl_at ha0.1 hs_9
  refine va_get (D := (dC, dI)) (ci := 6) (v := .int sz_8) (C := RX7) (T := TX7) (N := 8) hx hb hts (by decide +kernel) hown hK hP kk_16 hk_17 rfl 7 (by decide) (hts (.fieldLink RX7 18 "PageOne$Picture" "sizes" "I") (by decide +kernel)) (fun _ h9 => h9) rfl dX7_linesBy_3 ?_
  refine lv_iconst (v := 1) hx hb dX7_linesBy_6 (by decide) ?_
  refine lv_isub hx hb dX7_linesBy_7 ?_
  refine vp_callSi (va_runSN (As := [.int p0, .int 0, .int (sz_8 - 1)]) (rest := []) ⟨hx, hb, hml, hown, hts⟩ (x_isWithin l dC dI p0 0 (sz_8 - 1)) ⟨va_cnB (host := "PageOne") 3 hts gX7_linesBy_X11_isWithin_n22 rfl rfl rfl hN.n_RX7_22 (hts (.initialized RX11) (by decide +kernel)) (by decide +kernel) ⟨Nat.le_of_ble_eq_true rfl, Nat.le_of_ble_eq_true rfl⟩, hts (.static yX11_isWithin) (by decide +kernel), trivial⟩ ⟨pw_fb, fun U hU hW => ⟨rfl, pw_to hU hW (hP.sub (ws' := []) [] rfl) (hK.sub (tys' := []) [] rfl) hN⟩⟩ rfl rfl hl.1 rfl (lv_room (Nat.le_of_ble_eq_true rfl)) dX7_linesBy_8 ⟨Nat.le_of_ble_eq_true rfl, Nat.le_of_ble_eq_true rfl⟩).run (fun r hw => ?_)
  rcases Bool.eq_false_or_eq_true (bw p0 0 (sz_8 - 1)) with b_18 | b_18
  ·
    obtain rfl : r = 1 := b_t hw b_18
    refine lv_if_eq (tgt := 23) hx hb dX7_linesBy_11 (by decide) (fun c_19 => absurd c_19 (by decide)) (fun c_19 => ?_)
    refine lv_aload_n hx hb dX7_linesBy_14 rfl (lv_at hl 0 rfl) ?_
    obtain ⟨kk_20, hk_21⟩ := pl_at ha0.1 hs_9
    refine va_get (D := (dC, dI)) (ci := 6) (v := .ref hh_7) (C := RX7) (T := TX7) (N := 8) hx hb hts (by decide +kernel) hown hK hP kk_20 hk_21 rfl 6 (by decide) (hts (.fieldLink RX7 15 "PageOne$Picture" "heights" "[I") (by decide +kernel)) (fun _ h9 => h9) rfl dX7_linesBy_15 ?_
    refine lv_iload_n hx hb dX7_linesBy_18 rfl (lv_at hl 1 rfl) ?_
    obtain ⟨g_22, hs_23⟩ := x_20 hI hq_14
    obtain ⟨kk_24, hk_25⟩ := pl_at hq_14.1 hs_23
    refine va_iald hx hb hK hP kk_24 0 hk_25 rfl (vsz hq_15 b_18) dX7_linesBy_19 ?_
    refine lv_goto (tgt := 24) hx hb dX7_linesBy_20 (by decide) ?_
    exact W.iret (v := (g_22 (p0 : Int32).toNatClampNeg)) hx hb hr (fun t ht hW => ⟨_, rfl, trivial, ht⟩) (fun q h => absurd h List.not_mem_nil) dX7_linesBy_24
  ·
    obtain rfl : r = 0 := b_f hw b_18
    refine lv_if_eq (tgt := 23) hx hb dX7_linesBy_11 (by decide) (fun c_26 => ?_) (fun c_26 => absurd (by decide) c_26)
    refine lv_iconst (v := 0) hx hb dX7_linesBy_23 (by decide) ?_
    exact W.iret (v := 0) hx hb hr (fun t ht hW => ⟨_, rfl, trivial, ht⟩) (fun q h => absurd h List.not_mem_nil) dX7_linesBy_24
set_option maxHeartbeats 4000000 in
set_option maxRecDepth 100000 in
theorem x_X10_linesBy (l : Launch) (dC : Nat → ClassId) (dI : Nat → Nat → Nat) (q : Nat → ClassId) (h0 : Nat) (d : Nat → Nat) (k : Nat → Int32) (z : gS) (f : xF) (hI : xI q h0 d k z f) (a0 : Nat) (p0 : Int32) (ha0 : tg z a0 15) : Met l yX10_linesBy wsX10_linesBy ({ frames := 1, cells := 0, slots := 0, locals := 22 }) (va_Pc [.ref a0, .int p0] (PX dC dI (va_pl z.1 f) (xT q))) (vp_Si (fun r => True)) 0 0 (fun _ => False) := by
  refine Met.ofW (cc := cX10_linesBy) (maxL := 2) (ret := (some .int)) (by decide) rfl ?_
  intro p e s m args below meth c s₁ B hml hv
  obtain ⟨rfl, ⟨hP, hK, hN⟩, hXN⟩ := hv
  have hx := B.exec
  have hb := B.bytes
  have hr := B.returns
  have hts := atoms_spec (ws := wsX10_linesBy) B.pre
  have hown : s.vm.findClass RX10 = some m.cls := findClass_of_methodNamed B.named
  have hlocks := B.notSynchronized
  have hl := lv_entry ([.ref a0, .int p0]) (n := 2) (Nat.le_of_ble_eq_true rfl)
  rw [lg_entry_eq]
  generalize (lg_sl ([.ref a0, .int p0]) ++ List.replicate (2 - (lg_sl ([.ref a0, .int p0])).length) Slot.unset).toArray = ls at hl ⊢
  have hl : lv_has ls 2 [(0, .ref a0), (1, .int p0)] := hl
  refine lv_iload_n hx hb dX10_linesBy_0 rfl (lv_at hl 1 rfl) ?_
  refine lv_iconst (v := 1) hx hb dX10_linesBy_1 (by decide) ?_
  refine lv_bipush (v := 60) hx hb dX10_linesBy_2 (by decide) ?_
  refine vp_callSi (va_runSN (As := [.int p0, .int 1, .int 60]) (rest := []) ⟨hx, hb, hml, hown, hts⟩ (x_isWithin l dC dI p0 1 60) ⟨va_cnB (host := "PageOne") 3 hts gX10_linesBy_X11_isWithin_n26 rfl rfl rfl hN.n_RX10_26 (hts (.initialized RX11) (by decide +kernel)) (by decide +kernel) ⟨Nat.le_of_ble_eq_true rfl, Nat.le_of_ble_eq_true rfl⟩, hts (.static yX11_isWithin) (by decide +kernel), trivial⟩ ⟨pw_fb, fun U hU hW => ⟨rfl, pw_to hU hW (hP.sub (ws' := []) [] rfl) (hK.sub (tys' := []) [] rfl) hN⟩⟩ rfl rfl hl.1 rfl (lv_room (Nat.le_of_ble_eq_true rfl)) dX10_linesBy_4 ⟨Nat.le_of_ble_eq_true rfl, Nat.le_of_ble_eq_true rfl⟩).run (fun r hw => ?_)
  rcases Bool.eq_false_or_eq_true (bw p0 1 60) with b_1 | b_1
  ·
    obtain rfl : r = 1 := b_t hw b_1
    refine lv_if_eq (tgt := 14) hx hb dX10_linesBy_7 (by decide) (fun c_2 => absurd c_2 (by decide)) (fun c_2 => ?_)
    refine lv_iload_n hx hb dX10_linesBy_10 rfl (lv_at hl 1 rfl) ?_
    refine lv_goto (tgt := 15) hx hb dX10_linesBy_11 (by decide) ?_
    exact W.iret (v := p0) hx hb hr (fun t ht hW => ⟨_, rfl, trivial, ht⟩) (fun q h => absurd h List.not_mem_nil) dX10_linesBy_15
  ·
    obtain rfl : r = 0 := b_f hw b_1
    refine lv_if_eq (tgt := 14) hx hb dX10_linesBy_7 (by decide) (fun c_3 => ?_) (fun c_3 => absurd (by decide) c_3)
    refine lv_iconst (v := 0) hx hb dX10_linesBy_14 (by decide) ?_
    exact W.iret (v := 0) hx hb hr (fun t ht hW => ⟨_, rfl, trivial, ht⟩) (fun q h => absurd h List.not_mem_nil) dX10_linesBy_15
set_option maxHeartbeats 4000000 in
set_option maxRecDepth 100000 in
theorem x_columnsBy (l : Launch) (dC : Nat → ClassId) (dI : Nat → Nat → Nat) (q : Nat → ClassId) (h0 : Nat) (d : Nat → Nat) (k : Nat → Int32) (z : gS) (f : xF) (hI : xI q h0 d k z f) (a0 : Nat) (p0 : Int32) (ha0 : itm z a0) : Met l yX4_columnsBy wsX4_columnsBy ({ frames := 0, cells := 0, slots := 0, locals := 0 }) (va_Pc [.ref a0, .int p0] (PX dC dI (va_pl z.1 f) (xT q))) (vp_Si (fun r => True)) 0 0 (fun _ => False) := by
  refine Met.ofW (cc := cX4_columnsBy) (maxL := 2) (ret := (some .int)) (by decide) rfl ?_
  intro p e s m args below meth c s₁ B hml hv
  obtain ⟨rfl, ⟨hP, hK, hN⟩, hXN⟩ := hv
  have hx := B.exec
  have hb := B.bytes
  have hr := B.returns
  have hts := atoms_spec (ws := wsX4_columnsBy) B.pre
  have hown : s.vm.findClass RX4 = some m.cls := findClass_of_methodNamed B.named
  have hlocks := B.notSynchronized
  have hl := lv_entry ([.ref a0, .int p0]) (n := 2) (Nat.le_of_ble_eq_true rfl)
  rw [lg_entry_eq]
  generalize (lg_sl ([.ref a0, .int p0]) ++ List.replicate (2 - (lg_sl ([.ref a0, .int p0])).length) Slot.unset).toArray = ls at hl ⊢
  have hl : lv_has ls 2 [(0, .ref a0), (1, .int p0)] := hl
  refine lv_iconst (v := 1) hx hb dX4_columnsBy_0 (by decide) ?_
  exact W.iret (v := 1) hx hb hr (fun t ht hW => ⟨_, rfl, trivial, ht⟩) (fun q h => absurd h List.not_mem_nil) dX4_columnsBy_1
set_option maxHeartbeats 4000000 in
set_option maxRecDepth 100000 in
theorem x_X4_maySit (l : Launch) (dC : Nat → ClassId) (dI : Nat → Nat → Nat) (q : Nat → ClassId) (h0 : Nat) (d : Nat → Nat) (k : Nat → Int32) (z : gS) (f : xF) (hI : xI q h0 d k z f) (a0 b0 : Nat) (p0 p1 : Int32) (ha0 : itm z a0) (hb0 : tg z b0 22) : Met l yX4_maySit wsX4_maySit ({ frames := 0, cells := 0, slots := 0, locals := 0 }) (va_Pc [.ref a0, .ref b0, .int p0, .int p1] (PX dC dI (va_pl z.1 f) (xT q))) (vp_Si (fun r => r = 0 ∨ r = 1)) 0 0 (fun _ => False) := by
  refine Met.ofW (cc := cX4_maySit) (maxL := 4) (ret := (some .boolean)) (by decide) rfl ?_
  intro p e s m args below meth c s₁ B hml hv
  obtain ⟨rfl, ⟨hP, hK, hN⟩, hXN⟩ := hv
  have hx := B.exec
  have hb := B.bytes
  have hr := B.returns
  have hts := atoms_spec (ws := wsX4_maySit) B.pre
  have hown : s.vm.findClass RX4 = some m.cls := findClass_of_methodNamed B.named
  have hlocks := B.notSynchronized
  have hl := lv_entry ([.ref a0, .ref b0, .int p0, .int p1]) (n := 4) (Nat.le_of_ble_eq_true rfl)
  rw [lg_entry_eq]
  generalize (lg_sl ([.ref a0, .ref b0, .int p0, .int p1]) ++ List.replicate (4 - (lg_sl ([.ref a0, .ref b0, .int p0, .int p1])).length) Slot.unset).toArray = ls at hl ⊢
  have hl : lv_has ls 4 [(0, .ref a0), (1, .ref b0), (2, .int p0), (3, .int p1)] := hl
  refine lv_iconst (v := 1) hx hb dX4_maySit_0 (by decide) ?_
  exact W.zret (v := 1) hx hb hr (by decide) (fun t ht hW => ⟨_, rfl, (by decide), ht⟩) (fun q h => absurd h List.not_mem_nil) dX4_maySit_1
set_option maxHeartbeats 4000000 in
set_option maxRecDepth 100000 in
theorem x_X6_maySit (l : Launch) (dC : Nat → ClassId) (dI : Nat → Nat → Nat) (q : Nat → ClassId) (h0 : Nat) (d : Nat → Nat) (k : Nat → Int32) (z : gS) (f : xF) (hI : xI q h0 d k z f) (a0 b0 : Nat) (p0 p1 : Int32) (ha0 : tg z a0 13) (hb0 : tg z b0 22) : Met l yX6_maySit wsX6_maySit ({ frames := 1, cells := 0, slots := 0, locals := 21 }) (va_Pc [.ref a0, .ref b0, .int p0, .int p1] (PX dC dI (va_pl z.1 f) (xT q))) (vp_Si (fun r => r = 0 ∨ r = 1)) 0 0 (fun _ => False) := by
  refine Met.ofW (cc := cX6_maySit) (maxL := 4) (ret := (some .boolean)) (by decide) rfl ?_
  intro p e s m args below meth c s₁ B hml hv
  obtain ⟨rfl, ⟨hP, hK, hN⟩, hXN⟩ := hv
  have hx := B.exec
  have hb := B.bytes
  have hr := B.returns
  have hts := atoms_spec (ws := wsX6_maySit) B.pre
  have hown : s.vm.findClass RX6 = some m.cls := findClass_of_methodNamed B.named
  have hlocks := B.notSynchronized
  have hl := lv_entry ([.ref a0, .ref b0, .int p0, .int p1]) (n := 4) (Nat.le_of_ble_eq_true rfl)
  rw [lg_entry_eq]
  generalize (lg_sl ([.ref a0, .ref b0, .int p0, .int p1]) ++ List.replicate (4 - (lg_sl ([.ref a0, .ref b0, .int p0, .int p1])).length) Slot.unset).toArray = ls at hl ⊢
  have hl : lv_has ls 4 [(0, .ref a0), (1, .ref b0), (2, .int p0), (3, .int p1)] := hl
  refine lv_aload_n hx hb dX6_maySit_0 rfl (lv_at hl 1 rfl) ?_
  refine lv_aload_n hx hb dX6_maySit_1 rfl (lv_at hl 0 rfl) ?_
  obtain ⟨nu_1, kd_2, cn_3, pa_4, fa_5, b_6, pr_7, sp_8, dy_9, hs_10, hs_11, hs_12, hs_13, hq_14, hq_15, hq_16⟩ := x_ipd hI ha0
  obtain ⟨kk_17, hk_18⟩ := pl_at ha0.1 hs_10
  refine va_get (D := (dC, dI)) (ci := 5) (v := .ref sp_8) (C := RX6) (T := TX6) (N := 9) hx hb hts (by decide +kernel) hown hK hP kk_17 hk_18 rfl 7 (by decide) (hts (.fieldLink RX6 22 "PageOne$Paid" "spot" "LPageOne$Piece;") (by decide +kernel)) (fun _ h9 => h9) rfl dX6_maySit_2 ?_
  have hcp := hq_15
  obtain ⟨it_19, P_20, X_21, Y_22, D_23, N_24, hp_25, hb_26, hb_27, hb_28, hb_29⟩ := hcp
  obtain ⟨it_30, P_31, X_32, Y_33, D_34, N_35, hp_36, hb_37, hb_38⟩ := x_pcS hI hb0
  obtain ⟨kk_39, hk_40⟩ := pl_at hp_36.1.1 (x_pcF hI hp_36)
  refine vp_callSi (va_runV (As := [.ref sp_8]) (rest := []) ⟨hx, hb, hml, hown, hts⟩ (x_startsWith l dC dI q h0 d k z f hI b0 sp_8 hb0 hp_25.1) (cwV 1 hts gX6_maySit_X8_startsWith rfl rfl rfl (by decide +kernel) ⟨Nat.le_of_ble_eq_true rfl, Nat.le_of_ble_eq_true rfl⟩) ⟨px_fb, va_recv hK hP (ci := 7) (q0 := kk_39) rfl hk_40, fun U hU hW => ⟨rfl, px_to hU hW hP hK hN hXN⟩⟩ rfl rfl hl.1 rfl (lv_room (Nat.le_of_ble_eq_true rfl)) dX6_maySit_5 ⟨Nat.le_of_ble_eq_true rfl, Nat.le_of_ble_eq_true rfl⟩).run (fun r hw => ?_)
  rcases hw with hw | hw
  ·
    subst hw
    exact W.zret (v := 0) hx hb hr (by decide) (fun t ht hW => ⟨_, rfl, (by decide), ht⟩) (fun q h => absurd h List.not_mem_nil) dX6_maySit_8
  ·
    subst hw
    exact W.zret (v := 1) hx hb hr (by decide) (fun t ht hW => ⟨_, rfl, (by decide), ht⟩) (fun q h => absurd h List.not_mem_nil) dX6_maySit_8
set_option maxHeartbeats 4000000 in
set_option maxRecDepth 100000 in
theorem x_X5_maySit (l : Launch) (dC : Nat → ClassId) (dI : Nat → Nat → Nat) (q : Nat → ClassId) (h0 : Nat) (d : Nat → Nat) (k : Nat → Int32) (z : gS) (f : xF) (hI : xI q h0 d k z f) (a0 b0 : Nat) (p0 p1 : Int32) (ha0 : tg z a0 12) (hb0 : tg z b0 22) : Met l yX5_maySit wsX5_maySit ({ frames := 1, cells := 0, slots := 0, locals := 22 }) (va_Pc [.ref a0, .ref b0, .int p0, .int p1] (PX dC dI (va_pl z.1 f) (xT q))) (vp_Si (fun r => r = 0 ∨ r = 1)) 0 0 (fun _ => False) := by
  refine Met.ofW (cc := cX5_maySit) (maxL := 5) (ret := (some .boolean)) (by decide) rfl ?_
  intro p e s m args below meth c s₁ B hml hv
  obtain ⟨rfl, ⟨hP, hK, hN⟩, hXN⟩ := hv
  have hx := B.exec
  have hb := B.bytes
  have hr := B.returns
  have hts := atoms_spec (ws := wsX5_maySit) B.pre
  have hown : s.vm.findClass RX5 = some m.cls := findClass_of_methodNamed B.named
  have hlocks := B.notSynchronized
  have hl := lv_entry ([.ref a0, .ref b0, .int p0, .int p1]) (n := 5) (Nat.le_of_ble_eq_true rfl)
  rw [lg_entry_eq]
  generalize (lg_sl ([.ref a0, .ref b0, .int p0, .int p1]) ++ List.replicate (5 - (lg_sl ([.ref a0, .ref b0, .int p0, .int p1])).length) Slot.unset).toArray = ls at hl ⊢
  have hl : lv_has ls 5 [(0, .ref a0), (1, .ref b0), (2, .int p0), (3, .int p1)] := hl
  refine lv_aload_n hx hb dX5_maySit_0 rfl (lv_at hl 0 rfl) ?_
  obtain ⟨nu_1, kd_2, cn_3, pa_4, fa_5, o_6, y_7, hs_8, hs_9, hs_10, hs_11, hq_12⟩ := x_ino hI ha0
  obtain ⟨kk_13, hk_14⟩ := pl_at ha0.1 hs_8
  refine va_get (D := (dC, dI)) (ci := 4) (v := .ref fa_5) (C := RX5) (T := TX5) (N := 7) hx hb hts (by decide +kernel) hown hK hP kk_13 hk_14 rfl 4 (by decide) (hts (.fieldLink RX5 19 "PageOne$Notice" "first" "[I") (by decide +kernel)) (fun x9 h9 => u_same (hts (.sameField "PageOne$Notice" "PageOne$Item" "first" "[I") (by decide +kernel)) x9 h9) rfl dX5_maySit_1 ?_
  refine lv_iconst (v := 0) hx hb dX5_maySit_4 (by decide) ?_
  obtain ⟨g_15, hs_16⟩ := x_17 hI hs_11
  obtain ⟨kk_17, hk_18⟩ := pl_at hs_11.1 hs_16
  refine va_iald hx hb hK hP kk_17 0 hk_18 rfl (by unfold vp_in; decide) dX5_maySit_5 ?_
  refine lv_iconst (v := 0) hx hb dX5_maySit_6 (by decide) ?_
  refine lv_iload_n hx hb dX5_maySit_7 rfl (lv_at hl 3 rfl) ?_
  refine lv_iconst (v := 1) hx hb dX5_maySit_8 (by decide) ?_
  refine lv_isub hx hb dX5_maySit_9 ?_
  refine vp_callSi (va_runSN (As := [.int (g_15 (0 : Int32).toNatClampNeg), .int 0, .int (p1 - 1)]) (rest := []) ⟨hx, hb, hml, hown, hts⟩ (x_isWithin l dC dI (g_15 (0 : Int32).toNatClampNeg) 0 (p1 - 1)) ⟨va_cnB (host := "PageOne") 3 hts gX5_maySit_X11_isWithin_n23 rfl rfl rfl hN.n_RX5_23 (hts (.initialized RX11) (by decide +kernel)) (by decide +kernel) ⟨Nat.le_of_ble_eq_true rfl, Nat.le_of_ble_eq_true rfl⟩, hts (.static yX11_isWithin) (by decide +kernel), trivial⟩ ⟨pw_fb, fun U hU hW => ⟨rfl, pw_to hU hW (hP.sub (ws' := []) [] rfl) (hK.sub (tys' := []) [] rfl) hN⟩⟩ rfl rfl hl.1 rfl (lv_room (Nat.le_of_ble_eq_true rfl)) dX5_maySit_10 ⟨Nat.le_of_ble_eq_true rfl, Nat.le_of_ble_eq_true rfl⟩).run (fun r hw => ?_)
  rcases Bool.eq_false_or_eq_true (bw (g_15 (0 : Int32).toNatClampNeg) 0 (p1 - 1)) with b_19 | b_19
  ·
    obtain rfl : r = 1 := b_t hw b_19
    refine lv_istore (lv' := [(4, .int 1), (0, .ref a0), (1, .ref b0), (2, .int p0), (3, .int p1)]) hx hb dX5_maySit_13 hl (by decide) rfl (fun ls hl => ?_)
    refine lv_iload hx hb dX5_maySit_15 (lv_at hl 0 rfl) ?_
    refine lv_if_ne (tgt := 39) hx hb dX5_maySit_17 (by decide) (fun c_20 => ?_) (fun c_20 => absurd c_20 (by decide))
    refine lv_iconst (v := 0) hx hb dX5_maySit_39 (by decide) ?_
    exact W.zret (v := 0) hx hb hr (by decide) (fun t ht hW => ⟨_, rfl, (by decide), ht⟩) (fun q h => absurd h List.not_mem_nil) dX5_maySit_40
  ·
    obtain rfl : r = 0 := b_f hw b_19
    refine lv_istore (lv' := [(4, .int 0), (0, .ref a0), (1, .ref b0), (2, .int p0), (3, .int p1)]) hx hb dX5_maySit_13 hl (by decide) rfl (fun ls hl => ?_)
    refine lv_iload hx hb dX5_maySit_15 (lv_at hl 0 rfl) ?_
    refine lv_if_ne (tgt := 39) hx hb dX5_maySit_17 (by decide) (fun c_21 => absurd (by decide) c_21) (fun c_21 => ?_)
    refine lv_aload_n hx hb dX5_maySit_20 rfl (lv_at hl 1 rfl) ?_
    obtain ⟨kk_22, hk_23⟩ := pl_at ha0.1 hs_8
    refine va_get (D := (dC, dI)) (ci := 4) (v := .ref o_6) (C := RX5) (T := TX5) (N := 7) hx hb hts (by decide +kernel) hown hK hP kk_22 hk_23 rfl 5 (by decide) (hts (.fieldLink RX5 9 "PageOne$Notice" "mended" "LPageOne$Item;") (by decide +kernel)) (fun _ h9 => h9) rfl dX5_maySit_21 ?_
    obtain ⟨nu_24, kd_25, cn_26, pa_27, fa_28, rs_29, hs_30, hs_31, hs_32, hs_33, hs_34⟩ := x_im hI hq_12
    obtain ⟨kk_35, hk_36⟩ := pl_at hq_12.1 hs_30
    refine w_then (F0 m 27 ls [.ref fa_28]) (fun hgo => ?_) ?_
    ·
      rcases x_tag hq_12 with ht9 | ht9 | ht9 | ht9 | ht9 | ht9
      ·
        rw [ht9.2] at hk_36
        exact va_get (D := (dC, dI)) (ci := 2) (v := .ref fa_28) (C := RX2) (T := TX2) (N := 7) hx hb hts (by decide +kernel) hown hK hP kk_35 hk_36 rfl 4 (by decide) (hts (.fieldLink RX5 27 "PageOne$Item" "first" "[I") (by decide +kernel)) (fun _ h9 => h9) rfl dX5_maySit_24 hgo
      ·
        rw [ht9.2] at hk_36
        exact va_get (D := (dC, dI)) (ci := 3) (v := .ref fa_28) (C := RX3) (T := TX3) (N := 8) hx hb hts (by decide +kernel) hown hK hP kk_35 hk_36 rfl 4 (by decide) (hts (.fieldLink RX5 27 "PageOne$Item" "first" "[I") (by decide +kernel)) (fun _ h9 => h9) rfl dX5_maySit_24 hgo
      ·
        rw [ht9.2] at hk_36
        exact va_get (D := (dC, dI)) (ci := 4) (v := .ref fa_28) (C := RX5) (T := TX5) (N := 7) hx hb hts (by decide +kernel) hown hK hP kk_35 hk_36 rfl 4 (by decide) (hts (.fieldLink RX5 27 "PageOne$Item" "first" "[I") (by decide +kernel)) (fun _ h9 => h9) rfl dX5_maySit_24 hgo
      ·
        rw [ht9.2] at hk_36
        exact va_get (D := (dC, dI)) (ci := 5) (v := .ref fa_28) (C := RX6) (T := TX6) (N := 9) hx hb hts (by decide +kernel) hown hK hP kk_35 hk_36 rfl 4 (by decide) (hts (.fieldLink RX5 27 "PageOne$Item" "first" "[I") (by decide +kernel)) (fun _ h9 => h9) rfl dX5_maySit_24 hgo
      ·
        rw [ht9.2] at hk_36
        exact va_get (D := (dC, dI)) (ci := 6) (v := .ref fa_28) (C := RX7) (T := TX7) (N := 8) hx hb hts (by decide +kernel) hown hK hP kk_35 hk_36 rfl 4 (by decide) (hts (.fieldLink RX5 27 "PageOne$Item" "first" "[I") (by decide +kernel)) (fun _ h9 => h9) rfl dX5_maySit_24 hgo
      ·
        rw [ht9.2] at hk_36
        exact va_get (D := (dC, dI)) (ci := 9) (v := .ref fa_28) (C := RX10) (T := TX10) (N := 9) hx hb hts (by decide +kernel) hown hK hP kk_35 hk_36 rfl 4 (by decide) (hts (.fieldLink RX5 27 "PageOne$Item" "first" "[I") (by decide +kernel)) (fun _ h9 => h9) rfl dX5_maySit_24 hgo
    ·
      refine lv_iconst (v := 0) hx hb dX5_maySit_27 (by decide) ?_
      obtain ⟨g_37, hs_38⟩ := x_17 hI hs_33
      obtain ⟨kk_39, hk_40⟩ := pl_at hs_33.1 hs_38
      refine va_iald hx hb hK hP kk_39 0 hk_40 rfl (by unfold vp_in; decide) dX5_maySit_28 ?_
      refine lv_iconst (v := 0) hx hb dX5_maySit_29 (by decide) ?_
      refine lv_iload_n hx hb dX5_maySit_30 rfl (lv_at hl 4 rfl) ?_
      refine lv_iconst (v := 1) hx hb dX5_maySit_31 (by decide) ?_
      refine lv_isub hx hb dX5_maySit_32 ?_
      refine vp_callSi (va_runSN (As := [.int (g_37 (0 : Int32).toNatClampNeg), .int 0, .int (p1 - 1)]) (rest := []) ⟨hx, hb, hml, hown, hts⟩ (x_isWithin l dC dI (g_37 (0 : Int32).toNatClampNeg) 0 (p1 - 1)) ⟨va_cnB (host := "PageOne") 3 hts gX5_maySit_X11_isWithin_n23 rfl rfl rfl hN.n_RX5_23 (hts (.initialized RX11) (by decide +kernel)) (by decide +kernel) ⟨Nat.le_of_ble_eq_true rfl, Nat.le_of_ble_eq_true rfl⟩, hts (.static yX11_isWithin) (by decide +kernel), trivial⟩ ⟨pw_fb, fun U hU hW => ⟨rfl, pw_to hU hW (hP.sub (ws' := []) [] rfl) (hK.sub (tys' := []) [] rfl) hN⟩⟩ rfl rfl hl.1 rfl (lv_room (Nat.le_of_ble_eq_true rfl)) dX5_maySit_33 ⟨Nat.le_of_ble_eq_true rfl, Nat.le_of_ble_eq_true rfl⟩).run (fun r hw => ?_)
      rcases Bool.eq_false_or_eq_true (bw (g_37 (0 : Int32).toNatClampNeg) 0 (p1 - 1)) with b_41 | b_41
      ·
        obtain rfl : r = 1 := b_t hw b_41
        refine lv_if_ne (tgt := 41) hx hb dX5_maySit_36 (by decide) (fun c_42 => ?_) (fun c_42 => absurd c_42 (by decide))
        refine lv_aload_n hx hb dX5_maySit_41 rfl (lv_at hl 2 rfl) ?_
        obtain ⟨it_43, P_44, X_45, Y_46, D_47, N_48, hp_49, hb_50, hb_51⟩ := x_pcS hI hb0
        obtain ⟨kk_52, hk_53⟩ := pl_at hp_49.1.1 (x_pcF hI hp_49)
        refine va_get (D := (dC, dI)) (ci := 7) (v := .int P_44) (C := RX8) (T := TX8) (N := 6) hx hb hts (by decide +kernel) hown hK hP kk_52 hk_53 rfl 1 (by decide) (hts (.fieldLink RX5 28 "PageOne$Piece" "page" "I") (by decide +kernel)) (fun _ h9 => h9) rfl dX5_maySit_42 ?_
        refine lv_aload_n hx hb dX5_maySit_45 rfl (lv_at hl 1 rfl) ?_
        obtain ⟨kk_54, hk_55⟩ := pl_at ha0.1 hs_8
        refine va_get (D := (dC, dI)) (ci := 4) (v := .ref o_6) (C := RX5) (T := TX5) (N := 7) hx hb hts (by decide +kernel) hown hK hP kk_54 hk_55 rfl 5 (by decide) (hts (.fieldLink RX5 9 "PageOne$Notice" "mended" "LPageOne$Item;") (by decide +kernel)) (fun _ h9 => h9) rfl dX5_maySit_46 ?_
        obtain ⟨kk_56, hk_57⟩ := pl_at hq_12.1 hs_30
        refine w_then (F0 m 52 ls [.ref fa_28, .int P_44]) (fun hgo => ?_) ?_
        ·
          rcases x_tag hq_12 with ht9 | ht9 | ht9 | ht9 | ht9 | ht9
          ·
            rw [ht9.2] at hk_57
            exact va_get (D := (dC, dI)) (ci := 2) (v := .ref fa_28) (C := RX2) (T := TX2) (N := 7) hx hb hts (by decide +kernel) hown hK hP kk_56 hk_57 rfl 4 (by decide) (hts (.fieldLink RX5 27 "PageOne$Item" "first" "[I") (by decide +kernel)) (fun _ h9 => h9) rfl dX5_maySit_49 hgo
          ·
            rw [ht9.2] at hk_57
            exact va_get (D := (dC, dI)) (ci := 3) (v := .ref fa_28) (C := RX3) (T := TX3) (N := 8) hx hb hts (by decide +kernel) hown hK hP kk_56 hk_57 rfl 4 (by decide) (hts (.fieldLink RX5 27 "PageOne$Item" "first" "[I") (by decide +kernel)) (fun _ h9 => h9) rfl dX5_maySit_49 hgo
          ·
            rw [ht9.2] at hk_57
            exact va_get (D := (dC, dI)) (ci := 4) (v := .ref fa_28) (C := RX5) (T := TX5) (N := 7) hx hb hts (by decide +kernel) hown hK hP kk_56 hk_57 rfl 4 (by decide) (hts (.fieldLink RX5 27 "PageOne$Item" "first" "[I") (by decide +kernel)) (fun _ h9 => h9) rfl dX5_maySit_49 hgo
          ·
            rw [ht9.2] at hk_57
            exact va_get (D := (dC, dI)) (ci := 5) (v := .ref fa_28) (C := RX6) (T := TX6) (N := 9) hx hb hts (by decide +kernel) hown hK hP kk_56 hk_57 rfl 4 (by decide) (hts (.fieldLink RX5 27 "PageOne$Item" "first" "[I") (by decide +kernel)) (fun _ h9 => h9) rfl dX5_maySit_49 hgo
          ·
            rw [ht9.2] at hk_57
            exact va_get (D := (dC, dI)) (ci := 6) (v := .ref fa_28) (C := RX7) (T := TX7) (N := 8) hx hb hts (by decide +kernel) hown hK hP kk_56 hk_57 rfl 4 (by decide) (hts (.fieldLink RX5 27 "PageOne$Item" "first" "[I") (by decide +kernel)) (fun _ h9 => h9) rfl dX5_maySit_49 hgo
          ·
            rw [ht9.2] at hk_57
            exact va_get (D := (dC, dI)) (ci := 9) (v := .ref fa_28) (C := RX10) (T := TX10) (N := 9) hx hb hts (by decide +kernel) hown hK hP kk_56 hk_57 rfl 4 (by decide) (hts (.fieldLink RX5 27 "PageOne$Item" "first" "[I") (by decide +kernel)) (fun _ h9 => h9) rfl dX5_maySit_49 hgo
        ·
          refine lv_iconst (v := 2) hx hb dX5_maySit_52 (by decide) ?_
          obtain ⟨kk_58, hk_59⟩ := pl_at hs_33.1 hs_38
          refine va_iald hx hb hK hP kk_58 0 hk_59 rfl (by unfold vp_in; decide) dX5_maySit_53 ?_
          refine lv_icmp_eq (tgt := 79) hx hb dX5_maySit_54 (by decide) (fun c_60 => ?_) (fun c_60 => ?_)
          ·
            refine lv_aload_n hx hb dX5_maySit_79 rfl (lv_at hl 2 rfl) ?_
            obtain ⟨kk_61, hk_62⟩ := pl_at hp_49.1.1 (x_pcF hI hp_49)
            refine va_get (D := (dC, dI)) (ci := 7) (v := .int X_45) (C := RX8) (T := TX8) (N := 6) hx hb hts (by decide +kernel) hown hK hP kk_61 hk_62 rfl 2 (by decide) (hts (.fieldLink RX5 33 "PageOne$Piece" "column" "I") (by decide +kernel)) (fun _ h9 => h9) rfl dX5_maySit_80 ?_
            refine lv_aload_n hx hb dX5_maySit_83 rfl (lv_at hl 1 rfl) ?_
            obtain ⟨kk_63, hk_64⟩ := pl_at ha0.1 hs_8
            refine va_get (D := (dC, dI)) (ci := 4) (v := .ref o_6) (C := RX5) (T := TX5) (N := 7) hx hb hts (by decide +kernel) hown hK hP kk_63 hk_64 rfl 5 (by decide) (hts (.fieldLink RX5 9 "PageOne$Notice" "mended" "LPageOne$Item;") (by decide +kernel)) (fun _ h9 => h9) rfl dX5_maySit_84 ?_
            obtain ⟨kk_65, hk_66⟩ := pl_at hq_12.1 hs_30
            refine w_then (F0 m 90 ls [.ref fa_28, .int X_45]) (fun hgo => ?_) ?_
            ·
              rcases x_tag hq_12 with ht9 | ht9 | ht9 | ht9 | ht9 | ht9
              ·
                rw [ht9.2] at hk_66
                exact va_get (D := (dC, dI)) (ci := 2) (v := .ref fa_28) (C := RX2) (T := TX2) (N := 7) hx hb hts (by decide +kernel) hown hK hP kk_65 hk_66 rfl 4 (by decide) (hts (.fieldLink RX5 27 "PageOne$Item" "first" "[I") (by decide +kernel)) (fun _ h9 => h9) rfl dX5_maySit_87 hgo
              ·
                rw [ht9.2] at hk_66
                exact va_get (D := (dC, dI)) (ci := 3) (v := .ref fa_28) (C := RX3) (T := TX3) (N := 8) hx hb hts (by decide +kernel) hown hK hP kk_65 hk_66 rfl 4 (by decide) (hts (.fieldLink RX5 27 "PageOne$Item" "first" "[I") (by decide +kernel)) (fun _ h9 => h9) rfl dX5_maySit_87 hgo
              ·
                rw [ht9.2] at hk_66
                exact va_get (D := (dC, dI)) (ci := 4) (v := .ref fa_28) (C := RX5) (T := TX5) (N := 7) hx hb hts (by decide +kernel) hown hK hP kk_65 hk_66 rfl 4 (by decide) (hts (.fieldLink RX5 27 "PageOne$Item" "first" "[I") (by decide +kernel)) (fun _ h9 => h9) rfl dX5_maySit_87 hgo
              ·
                rw [ht9.2] at hk_66
                exact va_get (D := (dC, dI)) (ci := 5) (v := .ref fa_28) (C := RX6) (T := TX6) (N := 9) hx hb hts (by decide +kernel) hown hK hP kk_65 hk_66 rfl 4 (by decide) (hts (.fieldLink RX5 27 "PageOne$Item" "first" "[I") (by decide +kernel)) (fun _ h9 => h9) rfl dX5_maySit_87 hgo
              ·
                rw [ht9.2] at hk_66
                exact va_get (D := (dC, dI)) (ci := 6) (v := .ref fa_28) (C := RX7) (T := TX7) (N := 8) hx hb hts (by decide +kernel) hown hK hP kk_65 hk_66 rfl 4 (by decide) (hts (.fieldLink RX5 27 "PageOne$Item" "first" "[I") (by decide +kernel)) (fun _ h9 => h9) rfl dX5_maySit_87 hgo
              ·
                rw [ht9.2] at hk_66
                exact va_get (D := (dC, dI)) (ci := 9) (v := .ref fa_28) (C := RX10) (T := TX10) (N := 9) hx hb hts (by decide +kernel) hown hK hP kk_65 hk_66 rfl 4 (by decide) (hts (.fieldLink RX5 27 "PageOne$Item" "first" "[I") (by decide +kernel)) (fun _ h9 => h9) rfl dX5_maySit_87 hgo
            ·
              refine lv_iconst (v := 3) hx hb dX5_maySit_90 (by decide) ?_
              obtain ⟨kk_67, hk_68⟩ := pl_at hs_33.1 hs_38
              refine va_iald hx hb hK hP kk_67 0 hk_68 rfl (by unfold vp_in; decide) dX5_maySit_91 ?_
              refine lv_icmp_lt (tgt := 99) hx hb dX5_maySit_92 (by decide) (fun c_69 => ?_) (fun c_69 => ?_)
              ·
                refine lv_iconst (v := 0) hx hb dX5_maySit_99 (by decide) ?_
                exact W.zret (v := 0) hx hb hr (by decide) (fun t ht hW => ⟨_, rfl, (by decide), ht⟩) (fun q h => absurd h List.not_mem_nil) dX5_maySit_100
              ·
                refine lv_iconst (v := 1) hx hb dX5_maySit_95 (by decide) ?_
                refine lv_goto (tgt := 100) hx hb dX5_maySit_96 (by decide) ?_
                exact W.zret (v := 1) hx hb hr (by decide) (fun t ht hW => ⟨_, rfl, (by decide), ht⟩) (fun q h => absurd h List.not_mem_nil) dX5_maySit_100
          ·
            refine lv_aload_n hx hb dX5_maySit_57 rfl (lv_at hl 2 rfl) ?_
            obtain ⟨kk_70, hk_71⟩ := pl_at hp_49.1.1 (x_pcF hI hp_49)
            refine va_get (D := (dC, dI)) (ci := 7) (v := .int P_44) (C := RX8) (T := TX8) (N := 6) hx hb hts (by decide +kernel) hown hK hP kk_70 hk_71 rfl 1 (by decide) (hts (.fieldLink RX5 28 "PageOne$Piece" "page" "I") (by decide +kernel)) (fun _ h9 => h9) rfl dX5_maySit_58 ?_
            refine lv_aload_n hx hb dX5_maySit_61 rfl (lv_at hl 1 rfl) ?_
            obtain ⟨kk_72, hk_73⟩ := pl_at ha0.1 hs_8
            refine va_get (D := (dC, dI)) (ci := 4) (v := .ref o_6) (C := RX5) (T := TX5) (N := 7) hx hb hts (by decide +kernel) hown hK hP kk_72 hk_73 rfl 5 (by decide) (hts (.fieldLink RX5 9 "PageOne$Notice" "mended" "LPageOne$Item;") (by decide +kernel)) (fun _ h9 => h9) rfl dX5_maySit_62 ?_
            obtain ⟨kk_74, hk_75⟩ := pl_at hq_12.1 hs_30
            refine w_then (F0 m 68 ls [.ref fa_28, .int P_44]) (fun hgo => ?_) ?_
            ·
              rcases x_tag hq_12 with ht9 | ht9 | ht9 | ht9 | ht9 | ht9
              ·
                rw [ht9.2] at hk_75
                exact va_get (D := (dC, dI)) (ci := 2) (v := .ref fa_28) (C := RX2) (T := TX2) (N := 7) hx hb hts (by decide +kernel) hown hK hP kk_74 hk_75 rfl 4 (by decide) (hts (.fieldLink RX5 27 "PageOne$Item" "first" "[I") (by decide +kernel)) (fun _ h9 => h9) rfl dX5_maySit_65 hgo
              ·
                rw [ht9.2] at hk_75
                exact va_get (D := (dC, dI)) (ci := 3) (v := .ref fa_28) (C := RX3) (T := TX3) (N := 8) hx hb hts (by decide +kernel) hown hK hP kk_74 hk_75 rfl 4 (by decide) (hts (.fieldLink RX5 27 "PageOne$Item" "first" "[I") (by decide +kernel)) (fun _ h9 => h9) rfl dX5_maySit_65 hgo
              ·
                rw [ht9.2] at hk_75
                exact va_get (D := (dC, dI)) (ci := 4) (v := .ref fa_28) (C := RX5) (T := TX5) (N := 7) hx hb hts (by decide +kernel) hown hK hP kk_74 hk_75 rfl 4 (by decide) (hts (.fieldLink RX5 27 "PageOne$Item" "first" "[I") (by decide +kernel)) (fun _ h9 => h9) rfl dX5_maySit_65 hgo
              ·
                rw [ht9.2] at hk_75
                exact va_get (D := (dC, dI)) (ci := 5) (v := .ref fa_28) (C := RX6) (T := TX6) (N := 9) hx hb hts (by decide +kernel) hown hK hP kk_74 hk_75 rfl 4 (by decide) (hts (.fieldLink RX5 27 "PageOne$Item" "first" "[I") (by decide +kernel)) (fun _ h9 => h9) rfl dX5_maySit_65 hgo
              ·
                rw [ht9.2] at hk_75
                exact va_get (D := (dC, dI)) (ci := 6) (v := .ref fa_28) (C := RX7) (T := TX7) (N := 8) hx hb hts (by decide +kernel) hown hK hP kk_74 hk_75 rfl 4 (by decide) (hts (.fieldLink RX5 27 "PageOne$Item" "first" "[I") (by decide +kernel)) (fun _ h9 => h9) rfl dX5_maySit_65 hgo
              ·
                rw [ht9.2] at hk_75
                exact va_get (D := (dC, dI)) (ci := 9) (v := .ref fa_28) (C := RX10) (T := TX10) (N := 9) hx hb hts (by decide +kernel) hown hK hP kk_74 hk_75 rfl 4 (by decide) (hts (.fieldLink RX5 27 "PageOne$Item" "first" "[I") (by decide +kernel)) (fun _ h9 => h9) rfl dX5_maySit_65 hgo
            ·
              refine lv_iconst (v := 2) hx hb dX5_maySit_68 (by decide) ?_
              obtain ⟨kk_76, hk_77⟩ := pl_at hs_33.1 hs_38
              refine va_iald hx hb hK hP kk_76 0 hk_77 rfl (by unfold vp_in; decide) dX5_maySit_69 ?_
              refine lv_icmp_le (tgt := 77) hx hb dX5_maySit_70 (by decide) (fun c_78 => ?_) (fun c_78 => ?_)
              ·
                refine lv_iconst (v := 0) hx hb dX5_maySit_77 (by decide) ?_
                exact W.zret (v := 0) hx hb hr (by decide) (fun t ht hW => ⟨_, rfl, (by decide), ht⟩) (fun q h => absurd h List.not_mem_nil) dX5_maySit_78
              ·
                refine lv_iconst (v := 1) hx hb dX5_maySit_73 (by decide) ?_
                refine lv_goto (tgt := 78) hx hb dX5_maySit_74 (by decide) ?_
                exact W.zret (v := 1) hx hb hr (by decide) (fun t ht hW => ⟨_, rfl, (by decide), ht⟩) (fun q h => absurd h List.not_mem_nil) dX5_maySit_78
      ·
        obtain rfl : r = 0 := b_f hw b_41
        refine lv_if_ne (tgt := 41) hx hb dX5_maySit_36 (by decide) (fun c_79 => absurd (by decide) c_79) (fun c_79 => ?_)
        refine lv_iconst (v := 0) hx hb dX5_maySit_39 (by decide) ?_
        exact W.zret (v := 0) hx hb hr (by decide) (fun t ht hW => ⟨_, rfl, (by decide), ht⟩) (fun q h => absurd h List.not_mem_nil) dX5_maySit_40
set_option maxHeartbeats 4000000 in
set_option maxRecDepth 100000 in
theorem x_cost (l : Launch) (dC : Nat → ClassId) (dI : Nat → Nat → Nat) (q : Nat → ClassId) (h0 : Nat) (d : Nat → Nat) (k : Nat → Int32) (z : gS) (f : xF) (hI : xI q h0 d k z f) (a0 : Nat) (ha0 : tg z a0 13) : Met l yX6_cost wsX6_cost ({ frames := 0, cells := 0, slots := 0, locals := 0 }) (va_Pc [.ref a0] (PX dC dI (va_pl z.1 f) (xT q))) (vp_Si (fun r => True)) 0 0 (fun _ => False) := by
  refine Met.ofW (cc := cX6_cost) (maxL := 1) (ret := (some .int)) (by decide) rfl ?_
  intro p e s m args below meth c s₁ B hml hv
  obtain ⟨rfl, ⟨hP, hK, hN⟩, hXN⟩ := hv
  have hx := B.exec
  have hb := B.bytes
  have hr := B.returns
  have hts := atoms_spec (ws := wsX6_cost) B.pre
  have hown : s.vm.findClass RX6 = some m.cls := findClass_of_methodNamed B.named
  have hlocks := B.notSynchronized
  have hl := lv_entry ([.ref a0]) (n := 1) (Nat.le_of_ble_eq_true rfl)
  rw [lg_entry_eq]
  generalize (lg_sl ([.ref a0]) ++ List.replicate (1 - (lg_sl ([.ref a0])).length) Slot.unset).toArray = ls at hl ⊢
  have hl : lv_has ls 1 [(0, .ref a0)] := hl
  refine lv_aload_n hx hb dX6_cost_0 rfl (lv_at hl 0 rfl) ?_
  obtain ⟨nu_1, kd_2, cn_3, pa_4, fa_5, b_6, pr_7, sp_8, dy_9, hs_10, hs_11, hs_12, hs_13, hq_14, hq_15, hq_16⟩ := x_ipd hI ha0
  obtain ⟨kk_17, hk_18⟩ := pl_at ha0.1 hs_10
  refine va_get (D := (dC, dI)) (ci := 5) (v := .ref sp_8) (C := RX6) (T := TX6) (N := 9) hx hb hts (by decide +kernel) hown hK hP kk_17 hk_18 rfl 7 (by decide) (hts (.fieldLink RX6 22 "PageOne$Paid" "spot" "LPageOne$Piece;") (by decide +kernel)) (fun _ h9 => h9) rfl dX6_cost_1 ?_
  have hcp := hq_15
  obtain ⟨it_19, P_20, X_21, Y_22, D_23, N_24, hp_25, hb_26, hb_27, hb_28, hb_29⟩ := hcp
  obtain ⟨kk_30, hk_31⟩ := pl_at hp_25.1.1 (x_pcF hI hp_25)
  refine va_get (D := (dC, dI)) (ci := 7) (v := .int D_23) (C := RX8) (T := TX8) (N := 6) hx hb hts (by decide +kernel) hown hK hP kk_30 hk_31 rfl 4 (by decide) (hts (.fieldLink RX6 26 "PageOne$Piece" "w" "I") (by decide +kernel)) (fun _ h9 => h9) rfl dX6_cost_4 ?_
  refine lv_aload_n hx hb dX6_cost_7 rfl (lv_at hl 0 rfl) ?_
  obtain ⟨kk_32, hk_33⟩ := pl_at ha0.1 hs_10
  refine va_get (D := (dC, dI)) (ci := 5) (v := .ref sp_8) (C := RX6) (T := TX6) (N := 9) hx hb hts (by decide +kernel) hown hK hP kk_32 hk_33 rfl 7 (by decide) (hts (.fieldLink RX6 22 "PageOne$Paid" "spot" "LPageOne$Piece;") (by decide +kernel)) (fun _ h9 => h9) rfl dX6_cost_8 ?_
  obtain ⟨kk_34, hk_35⟩ := pl_at hp_25.1.1 (x_pcF hI hp_25)
  refine va_get (D := (dC, dI)) (ci := 7) (v := .int N_24) (C := RX8) (T := TX8) (N := 6) hx hb hts (by decide +kernel) hown hK hP kk_34 hk_35 rfl 5 (by decide) (hts (.fieldLink RX6 31 "PageOne$Piece" "h" "I") (by decide +kernel)) (fun _ h9 => h9) rfl dX6_cost_11 ?_
  refine lv_imul hx hb dX6_cost_14 ?_
  refine lv_aload_n hx hb dX6_cost_15 rfl (lv_at hl 0 rfl) ?_
  obtain ⟨kk_36, hk_37⟩ := pl_at ha0.1 hs_10
  refine va_get (D := (dC, dI)) (ci := 5) (v := .int pr_7) (C := RX6) (T := TX6) (N := 9) hx hb hts (by decide +kernel) hown hK hP kk_36 hk_37 rfl 6 (by decide) (hts (.fieldLink RX6 19 "PageOne$Paid" "price" "I") (by decide +kernel)) (fun _ h9 => h9) rfl dX6_cost_16 ?_
  refine lv_imul hx hb dX6_cost_19 ?_
  exact W.iret (v := ((D_23 * N_24) * pr_7)) hx hb hr (fun t ht hW => ⟨_, rfl, trivial, ht⟩) (fun q h => absurd h List.not_mem_nil) dX6_cost_20
