set_option maxHeartbeats 4000000 in
set_option maxRecDepth 100000 in
theorem x_wasPrintedOn (l : Launch) (dC : Nat → ClassId) (dI : Nat → Nat → Nat) (q : Nat → ClassId) (h0 : Nat) (d : Nat → Nat) (k : Nat → Int32) (z : gS) (f : xF) (hI : xI q h0 d k z f) (c0 : Nat) (p0 : Int32) (hc0 : tg z c0 13) (hd9 : bw p0 0 399 = true) : Met l yX11_wasPrintedOn wsX11_wasPrintedOn ({ frames := 4, cells := 0, slots := 0, locals := 87 }) (va_Pc [.ref h0, .ref c0, .int p0] (PX dC dI (va_pl z.1 f) (xT q))) (vp_Si (fun r => r = 0 ∨ r = 1)) 0 0 (fun _ => False) := by
  refine Met.ofW (cc := cX11_wasPrintedOn) (maxL := 4) (ret := (some .boolean)) (by decide) rfl ?_
  intro p e s m args below meth c s₁ B hml hv
  obtain ⟨rfl, ⟨hP, hK, hN⟩, hXN⟩ := hv
  have hx := B.exec
  have hb := B.bytes
  have hr := B.returns
  have hts := atoms_spec (ws := wsX11_wasPrintedOn) B.pre
  have hown : s.vm.findClass RX11 = some m.cls := findClass_of_methodNamed B.named
  have hlocks := B.notSynchronized
  have hl := lv_entry ([.ref h0, .ref c0, .int p0]) (n := 4) (Nat.le_of_ble_eq_true rfl)
  rw [lg_entry_eq]
  generalize (lg_sl ([.ref h0, .ref c0, .int p0]) ++ List.replicate (4 - (lg_sl ([.ref h0, .ref c0, .int p0])).length) Slot.unset).toArray = ls at hl ⊢
  have hl : lv_has ls 4 [(0, .ref h0), (1, .ref c0), (2, .int p0)] := hl
  refine lv_aload_n hx hb dX11_wasPrintedOn_0 rfl (lv_at hl 1 rfl) ?_
  obtain ⟨nu_1, kd_2, cn_3, pa_4, fa_5, b_6, pr_7, sp_8, dy_9, hs_10, hs_11, hs_12, hs_13, hq_14, hq_15, hq_16⟩ := x_ipd hI hc0
  obtain ⟨kk_17, hk_18⟩ := pl_at hc0.1 hs_10
  refine va_get (D := (dC, dI)) (ci := 5) (v := .ref dy_9) (C := RX6) (T := TX6) (N := 9) hx hb hts (by decide +kernel) hown hK hP kk_17 hk_18 rfl 8 (by decide) (hts (.fieldLink RX11 388 "PageOne$Paid" "days" "[Z") (by decide +kernel)) (fun _ h9 => h9) rfl dX11_wasPrintedOn_1 ?_
  refine lv_iload_n hx hb dX11_wasPrintedOn_4 rfl (lv_at hl 2 rfl) ?_
  obtain ⟨g_19, hs_20⟩ := x_21 hI hq_16
  obtain ⟨kk_21, hk_22⟩ := pl_at hq_16.1 hs_20
  refine va_zald hx hb hK hP kk_21 1 hk_22 rfl (vin hd9 (by decide)) dX11_wasPrintedOn_5 ?_
  refine lv_if_eq (tgt := 11) hx hb dX11_wasPrintedOn_6 (by decide) (fun c_23 => ?_) (fun c_23 => ?_)
  ·
    refine lv_aload_n hx hb dX11_wasPrintedOn_11 rfl (lv_at hl 1 rfl) ?_
    obtain ⟨kk_24, hk_25⟩ := pl_at hc0.1 hs_10
    refine va_get (D := (dC, dI)) (ci := 5) (v := .ref sp_8) (C := RX6) (T := TX6) (N := 9) hx hb hts (by decide +kernel) hown hK hP kk_24 hk_25 rfl 7 (by decide) (hts (.fieldLink RX11 394 "PageOne$Paid" "spot" "LPageOne$Piece;") (by decide +kernel)) (fun _ h9 => h9) rfl dX11_wasPrintedOn_12 ?_
    have hcp := hq_15
    obtain ⟨it_26, P_27, X_28, Y_29, D_30, N_31, hp_32, hb_33, hb_34, hb_35, hb_36⟩ := hcp
    obtain ⟨kk_37, hk_38⟩ := pl_at hp_32.1.1 (x_pcF hI hp_32)
    refine va_get (D := (dC, dI)) (ci := 7) (v := .int P_27) (C := RX8) (T := TX8) (N := 6) hx hb hts (by decide +kernel) hown hK hP kk_37 hk_38 rfl 1 (by decide) (hts (.fieldLink RX11 229 "PageOne$Piece" "page" "I") (by decide +kernel)) (fun _ h9 => h9) rfl dX11_wasPrintedOn_15 ?_
    refine lv_istore_n (lv' := [(3, .int P_27), (0, .ref h0), (1, .ref c0), (2, .int p0)]) hx hb dX11_wasPrintedOn_18 rfl hl (by decide) rfl (fun ls hl => ?_)
    refine lv_iload_n hx hb dX11_wasPrintedOn_19 rfl (lv_at hl 3 rfl) ?_
    refine lv_aload_n hx hb dX11_wasPrintedOn_20 rfl (lv_at hl 1 rfl) ?_
    obtain ⟨kk_39, hk_40⟩ := pl_at hI.2.1.1.1 hI.2.2.2.1.1
    refine va_get (D := (dC, dI)) (ci := 10) (v := .int (k 2)) (C := RX11) (T := TX11) (N := 9) hx hb hts (by decide +kernel) hown hK hP kk_39 hk_40 rfl 7 (by decide) (hts (.fieldLink RX11 41 "PageOne" "today" "I") (by decide +kernel)) (fun _ h9 => h9) rfl dX11_wasPrintedOn_21 ?_
    refine lv_icmp_ne (tgt := 56) hx hb dX11_wasPrintedOn_24 (by decide) (fun c_41 => ?_) (fun c_41 => ?_)
    ·
      refine lv_iconst (v := 0) hx hb dX11_wasPrintedOn_56 (by decide) ?_
      exact W.zret (v := 0) hx hb hr (by decide) (fun t ht hW => ⟨_, rfl, (by decide), ht⟩) (fun q h => absurd h List.not_mem_nil) dX11_wasPrintedOn_57
    ·
      refine lv_aload_n hx hb dX11_wasPrintedOn_27 rfl (lv_at hl 1 rfl) ?_
      refine lv_iload_n hx hb dX11_wasPrintedOn_28 rfl (lv_at hl 0 rfl) ?_
      obtain ⟨kk_42, hk_43⟩ := pl_at hI.2.1.1.1 hI.2.2.2.1.1
      refine vp_callSi (va_runV (As := [.int P_27]) (rest := []) ⟨hx, hb, hml, hown, hts⟩ (x_isFresh l dC dI q h0 d k z f hI P_27) (cwV 1 hts gX11_wasPrintedOn_X11_isFresh rfl rfl rfl (by decide +kernel) ⟨Nat.le_of_ble_eq_true rfl, Nat.le_of_ble_eq_true rfl⟩) ⟨px_fb, va_recv hK hP (ci := 10) (q0 := kk_42) rfl hk_43, fun U hU hW => ⟨rfl, px_to hU hW hP hK hN hXN⟩⟩ rfl rfl hl.1 rfl (lv_room (Nat.le_of_ble_eq_true rfl)) dX11_wasPrintedOn_29 ⟨Nat.le_of_ble_eq_true rfl, Nat.le_of_ble_eq_true rfl⟩).run (fun r hw => ?_)
      rcases hw with hw | ⟨hw, hbw_49, gp_44, bp_45, hp_46, hp_47, hp_48⟩
      ·
        subst hw
        refine lv_if_eq (tgt := 56) hx hb dX11_wasPrintedOn_32 (by decide) (fun c_50 => ?_) (fun c_50 => absurd (by decide) c_50)
        refine lv_iconst (v := 0) hx hb dX11_wasPrintedOn_56 (by decide) ?_
        exact W.zret (v := 0) hx hb hr (by decide) (fun t ht hW => ⟨_, rfl, (by decide), ht⟩) (fun q h => absurd h List.not_mem_nil) dX11_wasPrintedOn_57
      ·
        subst hw
        refine lv_if_eq (tgt := 56) hx hb dX11_wasPrintedOn_32 (by decide) (fun c_51 => absurd c_51 (by decide)) (fun c_51 => ?_)
        refine lv_aload_n hx hb dX11_wasPrintedOn_35 rfl (lv_at hl 1 rfl) ?_
        obtain ⟨kk_52, hk_53⟩ := pl_at hI.2.1.1.1 hI.2.2.2.1.1
        refine va_get (D := (dC, dI)) (ci := 10) (v := .ref (d 1)) (C := RX11) (T := TX11) (N := 9) hx hb hts (by decide +kernel) hown hK hP kk_52 hk_53 rfl 1 (by decide) (hts (.fieldLink RX11 15 "PageOne" "plates" "[LPageOne$Sheet;") (by decide +kernel)) (fun _ h9 => h9) rfl dX11_wasPrintedOn_36 ?_
        refine lv_iload_n hx hb dX11_wasPrintedOn_39 rfl (lv_at hl 0 rfl) ?_
        obtain ⟨kk_54, hk_55⟩ := pl_at hI.2.1.2.2.1.1 hp_46
        refine va_aldq hx hb hK hP kk_54 2 hk_55 rfl (vin hbw_49 (by decide)) dX11_wasPrintedOn_40 ?_
        rw [hp_47]
        refine W.eq (g2 := F0 m 41 ls [.ref bp_45]) rfl ?_
        refine lv_aload_n hx hb dX11_wasPrintedOn_41 rfl (lv_at hl 2 rfl) ?_
        obtain ⟨kk_56, hk_57⟩ := pl_at hc0.1 hs_10
        refine va_get (D := (dC, dI)) (ci := 5) (v := .int nu_1) (C := RX6) (T := TX6) (N := 9) hx hb hts (by decide +kernel) hown hK hP kk_56 hk_57 rfl 0 (by decide) (hts (.fieldLink RX11 397 "PageOne$Paid" "number" "I") (by decide +kernel)) (fun x9 h9 => u_same (hts (.sameField "PageOne$Paid" "PageOne$Item" "number" "I") (by decide +kernel)) x9 h9) rfl dX11_wasPrintedOn_42 ?_
        obtain ⟨la_58, ca_59, m_60, dd_61, ii_62, hs_63, ht_64, ht_65⟩ := x_sh hI hp_48
        obtain ⟨kk_66, hk_67⟩ := pl_at hp_48.1 hs_63
        refine vp_callSi (va_runV (As := [.int nu_1]) (rest := []) ⟨hx, hb, hml, hown, hts⟩ (x_spotOf l dC dI q h0 d k z f hI bp_45 nu_1 hp_48) (cwV 1 hts gX11_wasPrintedOn_X9_spotOf rfl rfl rfl (by decide +kernel) ⟨Nat.le_of_ble_eq_true rfl, Nat.le_of_ble_eq_true rfl⟩) ⟨px_fb, va_recv hK hP (ci := 8) (q0 := kk_66) rfl hk_67, fun U hU hW => ⟨rfl, px_to hU hW hP hK hN hXN⟩⟩ rfl rfl hl.1 rfl (lv_room (Nat.le_of_ble_eq_true rfl)) dX11_wasPrintedOn_45 ⟨Nat.le_of_ble_eq_true rfl, Nat.le_of_ble_eq_true rfl⟩).run (fun r hw => ?_)
        generalize r = zr_68 at hw ⊢
        have hzr_68 := hw
        refine lv_iconst (v := (-1)) hx hb dX11_wasPrintedOn_48 (by decide) ?_
        refine lv_icmp_eq (tgt := 56) hx hb dX11_wasPrintedOn_49 (by decide) (fun c_69 => ?_) (fun c_69 => ?_)
        ·
          refine lv_iconst (v := 0) hx hb dX11_wasPrintedOn_56 (by decide) ?_
          exact W.zret (v := 0) hx hb hr (by decide) (fun t ht hW => ⟨_, rfl, (by decide), ht⟩) (fun q h => absurd h List.not_mem_nil) dX11_wasPrintedOn_57
        ·
          refine lv_iconst (v := 1) hx hb dX11_wasPrintedOn_52 (by decide) ?_
          refine lv_goto (tgt := 57) hx hb dX11_wasPrintedOn_53 (by decide) ?_
          exact W.zret (v := 1) hx hb hr (by decide) (fun t ht hW => ⟨_, rfl, (by decide), ht⟩) (fun q h => absurd h List.not_mem_nil) dX11_wasPrintedOn_57
  ·
    refine lv_iconst (v := 1) hx hb dX11_wasPrintedOn_9 (by decide) ?_
    exact W.zret (v := 1) hx hb hr (by decide) (fun t ht hW => ⟨_, rfl, (by decide), ht⟩) (fun q h => absurd h List.not_mem_nil) dX11_wasPrintedOn_10
set_option maxHeartbeats 4000000 in
set_option maxRecDepth 100000 in
theorem x_isNamedIn (l : Launch) (dC : Nat → ClassId) (dI : Nat → Nat → Nat) (q : Nat → ClassId) (h0 : Nat) (d : Nat → Nat) (k : Nat → Int32) (z : gS) (f : xF) (hI : xI q h0 d k z f) (a0 b0 : Nat) (ha0 : itm z a0) (hb0 : itm z b0) : Met l yX11_isNamedIn wsX11_isNamedIn ({ frames := 0, cells := 0, slots := 0, locals := 0 }) (va_Pc [.ref a0, .ref b0] (PX dC dI (va_pl z.1 f) (xT q))) (vp_Si (fun r => r = 0 ∨ r = 1)) 0 0 (fun _ => False) := by
  refine Met.ofW (cc := cX11_isNamedIn) (maxL := 4) (ret := (some .boolean)) (by decide) rfl ?_
  intro p e s m args below meth c s₁ B hml hv
  obtain ⟨rfl, ⟨hP, hK, hN⟩, hXN⟩ := hv
  have hx := B.exec
  have hb := B.bytes
  have hr := B.returns
  have hts := atoms_spec (ws := wsX11_isNamedIn) B.pre
  have hown : s.vm.findClass RX11 = some m.cls := findClass_of_methodNamed B.named
  have hlocks := B.notSynchronized
  have hl := lv_entry ([.ref a0, .ref b0]) (n := 4) (Nat.le_of_ble_eq_true rfl)
  rw [lg_entry_eq]
  generalize (lg_sl ([.ref a0, .ref b0]) ++ List.replicate (4 - (lg_sl ([.ref a0, .ref b0])).length) Slot.unset).toArray = ls at hl ⊢
  have hl : lv_has ls 4 [(0, .ref a0), (1, .ref b0)] := hl
  refine lv_aload_n hx hb dX11_isNamedIn_0 rfl (lv_at hl 0 rfl) ?_
  rcases Classical.em (tg z a0 13) with ht9 | ht9
  ·
    have ht_1 := ht9
    obtain ⟨nu_3, kd_4, cn_5, pa_6, fa_7, b_8, pr_9, sp_10, dy_11, hs_12, hs_13, hs_14, hs_15, hq_16, hq_17, hq_18⟩ := x_ipd hI ht_1
    obtain ⟨kk_19, hk_20⟩ := pl_at ht_1.1 hs_12
    refine va_instS hx hb hown (hts (.classLink RX11 104 "PageOne$Paid") (by decide +kernel)) (hK.1 5 (RX6, TX6, 9) rfl).2 (va_recv hK hP (ci := 5) (q0 := kk_19) rfl hk_20) dX11_isNamedIn_1 ?_
    refine lv_if_eq (tgt := 40) hx hb dX11_isNamedIn_4 (by decide) (fun c_21 => absurd c_21 (by decide)) (fun c_21 => ?_)
    refine lv_aload_n hx hb dX11_isNamedIn_7 rfl (lv_at hl 0 rfl) ?_
    obtain ⟨kk_22, hk_23⟩ := pl_at ht_1.1 hs_12
    refine va_castS hx hb hown (hts (.classLink RX11 104 "PageOne$Paid") (by decide +kernel)) (hK.1 5 (RX6, TX6, 9) rfl).2 (va_recv hK hP (ci := 5) (q0 := kk_22) rfl hk_23) dX11_isNamedIn_8 ?_
    refine lv_astore_n (lv' := [(3, .ref a0), (0, .ref a0), (1, .ref b0)]) hx hb dX11_isNamedIn_11 rfl hl (by decide) rfl (fun ls hl => ?_)
    refine lv_aload_n hx hb dX11_isNamedIn_12 rfl (lv_at hl 2 rfl) ?_
    rcases Classical.em (tg z b0 15) with ht9 | ht9
    ·
      have ht_24 := ht9
      obtain ⟨nu_26, kd_27, cn_28, pa_29, fa_30, l_31, co_32, wd_33, nm_34, hs_35, hs_36, hs_37, hs_38, hq_39, hq_40, hq_41⟩ := x_ist hI ht_24
      obtain ⟨kk_42, hk_43⟩ := pl_at ht_24.1 hs_35
      refine va_instS hx hb hown (hts (.classLink RX11 66 "PageOne$Story") (by decide +kernel)) (hK.1 9 (RX10, TX10, 9) rfl).2 (va_recv hK hP (ci := 9) (q0 := kk_42) rfl hk_43) dX11_isNamedIn_13 ?_
      refine lv_if_eq (tgt := 40) hx hb dX11_isNamedIn_16 (by decide) (fun c_44 => absurd c_44 (by decide)) (fun c_44 => ?_)
      refine lv_aload_n hx hb dX11_isNamedIn_19 rfl (lv_at hl 2 rfl) ?_
      obtain ⟨kk_45, hk_46⟩ := pl_at ht_24.1 hs_35
      refine va_castS hx hb hown (hts (.classLink RX11 66 "PageOne$Story") (by decide +kernel)) (hK.1 9 (RX10, TX10, 9) rfl).2 (va_recv hK hP (ci := 9) (q0 := kk_45) rfl hk_46) dX11_isNamedIn_20 ?_
      refine lv_astore_n (lv' := [(2, .ref b0), (3, .ref a0), (0, .ref a0), (1, .ref b0)]) hx hb dX11_isNamedIn_23 rfl hl (by decide) rfl (fun ls hl => ?_)
      refine lv_aload_n hx hb dX11_isNamedIn_24 rfl (lv_at hl 0 rfl) ?_
      obtain ⟨kk_47, hk_48⟩ := pl_at ht_24.1 hs_35
      refine va_get (D := (dC, dI)) (ci := 9) (v := .ref nm_34) (C := RX10) (T := TX10) (N := 9) hx hb hts (by decide +kernel) hown hK hP kk_47 hk_48 rfl 8 (by decide) (hts (.fieldLink RX11 135 "PageOne$Story" "named" "[Z") (by decide +kernel)) (fun _ h9 => h9) rfl dX11_isNamedIn_25 ?_
      refine lv_aload_n hx hb dX11_isNamedIn_28 rfl (lv_at hl 1 rfl) ?_
      obtain ⟨kk_49, hk_50⟩ := pl_at ht_1.1 hs_12
      refine va_get (D := (dC, dI)) (ci := 5) (v := .int b_8) (C := RX6) (T := TX6) (N := 9) hx hb hts (by decide +kernel) hown hK hP kk_49 hk_50 rfl 5 (by decide) (hts (.fieldLink RX11 260 "PageOne$Paid" "buyer" "I") (by decide +kernel)) (fun _ h9 => h9) rfl dX11_isNamedIn_29 ?_
      obtain ⟨g_51, hs_52⟩ := x_19 hI hq_41
      obtain ⟨kk_53, hk_54⟩ := pl_at hq_41.1 hs_52
      refine va_zald hx hb hK hP kk_53 1 hk_54 rfl (vin hq_16 (by decide)) dX11_isNamedIn_32 ?_
      refine lv_if_eq (tgt := 40) hx hb dX11_isNamedIn_33 (by decide) (fun c_55 => ?_) (fun c_55 => ?_)
      ·
        refine lv_iconst (v := 0) hx hb dX11_isNamedIn_40 (by decide) ?_
        exact W.zret (v := 0) hx hb hr (by decide) (fun t ht hW => ⟨_, rfl, (by decide), ht⟩) (fun q h => absurd h List.not_mem_nil) dX11_isNamedIn_41
      ·
        refine lv_iconst (v := 1) hx hb dX11_isNamedIn_36 (by decide) ?_
        refine lv_goto (tgt := 41) hx hb dX11_isNamedIn_37 (by decide) ?_
        exact W.zret (v := 1) hx hb hr (by decide) (fun t ht hW => ⟨_, rfl, (by decide), ht⟩) (fun q h => absurd h List.not_mem_nil) dX11_isNamedIn_41
    ·
      have hn_25 := ht9
      refine w_then (F0 m 16 ls [.int 0]) (fun hgo => ?_) ?_
      ·
        rcases x_tag hb0 with ht8 | ht8 | ht8 | ht8 | ht8 | ht8
        ·
          obtain ⟨nu_56, kd_57, cn_58, pa_59, fa_60, l_61, m_62, hs_63, hs_64, hs_65, hs_66⟩ := x_ifl hI ht8
          obtain ⟨kk_67, hk_68⟩ := pl_at ht8.1 hs_63
          exact va_instNo hx hb hown (hts (.classLink RX11 66 "PageOne$Story") (by decide +kernel)) hXN.n_X2_X10 (va_recv hK hP (ci := 2) (q0 := kk_67) rfl hk_68) dX11_isNamedIn_13 hgo
        ·
          obtain ⟨nu_69, kd_70, cn_71, pa_72, fa_73, o_74, w_75, y_76, hs_77, hs_78, hs_79, hs_80, hq_81⟩ := x_ihd hI ht8
          obtain ⟨kk_82, hk_83⟩ := pl_at ht8.1 hs_77
          exact va_instNo hx hb hown (hts (.classLink RX11 66 "PageOne$Story") (by decide +kernel)) hXN.n_X3_X10 (va_recv hK hP (ci := 3) (q0 := kk_82) rfl hk_83) dX11_isNamedIn_13 hgo
        ·
          obtain ⟨nu_84, kd_85, cn_86, pa_87, fa_88, o_89, y_90, hs_91, hs_92, hs_93, hs_94, hq_95⟩ := x_ino hI ht8
          obtain ⟨kk_96, hk_97⟩ := pl_at ht8.1 hs_91
          exact va_instNo hx hb hown (hts (.classLink RX11 66 "PageOne$Story") (by decide +kernel)) hXN.n_X5_X10 (va_recv hK hP (ci := 4) (q0 := kk_96) rfl hk_97) dX11_isNamedIn_13 hgo
        ·
          obtain ⟨nu_98, kd_99, cn_100, pa_101, fa_102, b_103, pr_104, sp_105, dy_106, hs_107, hs_108, hs_109, hs_110, hq_111, hq_112, hq_113⟩ := x_ipd hI ht8
          obtain ⟨kk_114, hk_115⟩ := pl_at ht8.1 hs_107
          exact va_instNo hx hb hown (hts (.classLink RX11 66 "PageOne$Story") (by decide +kernel)) hXN.n_X6_X10 (va_recv hK hP (ci := 5) (q0 := kk_114) rfl hk_115) dX11_isNamedIn_13 hgo
        ·
          obtain ⟨nu_116, kd_117, cn_118, pa_119, fa_120, ww_121, hh_122, sz_123, hs_124, hs_125, hs_126, hs_127, hq_128, hq_129, hq_130⟩ := x_ipi hI ht8
          obtain ⟨kk_131, hk_132⟩ := pl_at ht8.1 hs_124
          exact va_instNo hx hb hown (hts (.classLink RX11 66 "PageOne$Story") (by decide +kernel)) hXN.n_X7_X10 (va_recv hK hP (ci := 6) (q0 := kk_131) rfl hk_132) dX11_isNamedIn_13 hgo
        ·
          exact absurd ht8 ht9
      ·
        refine lv_if_eq (tgt := 40) hx hb dX11_isNamedIn_16 (by decide) (fun c_133 => ?_) (fun c_133 => absurd (by decide) c_133)
        refine lv_iconst (v := 0) hx hb dX11_isNamedIn_40 (by decide) ?_
        exact W.zret (v := 0) hx hb hr (by decide) (fun t ht hW => ⟨_, rfl, (by decide), ht⟩) (fun q h => absurd h List.not_mem_nil) dX11_isNamedIn_41
  ·
    have hn_2 := ht9
    refine w_then (F0 m 4 ls [.int 0]) (fun hgo => ?_) ?_
    ·
      rcases x_tag ha0 with ht8 | ht8 | ht8 | ht8 | ht8 | ht8
      ·
        obtain ⟨nu_134, kd_135, cn_136, pa_137, fa_138, l_139, m_140, hs_141, hs_142, hs_143, hs_144⟩ := x_ifl hI ht8
        obtain ⟨kk_145, hk_146⟩ := pl_at ht8.1 hs_141
        exact va_instNo hx hb hown (hts (.classLink RX11 104 "PageOne$Paid") (by decide +kernel)) hXN.n_X2_X6 (va_recv hK hP (ci := 2) (q0 := kk_145) rfl hk_146) dX11_isNamedIn_1 hgo
      ·
        obtain ⟨nu_147, kd_148, cn_149, pa_150, fa_151, o_152, w_153, y_154, hs_155, hs_156, hs_157, hs_158, hq_159⟩ := x_ihd hI ht8
        obtain ⟨kk_160, hk_161⟩ := pl_at ht8.1 hs_155
        exact va_instNo hx hb hown (hts (.classLink RX11 104 "PageOne$Paid") (by decide +kernel)) hXN.n_X3_X6 (va_recv hK hP (ci := 3) (q0 := kk_160) rfl hk_161) dX11_isNamedIn_1 hgo
      ·
        obtain ⟨nu_162, kd_163, cn_164, pa_165, fa_166, o_167, y_168, hs_169, hs_170, hs_171, hs_172, hq_173⟩ := x_ino hI ht8
        obtain ⟨kk_174, hk_175⟩ := pl_at ht8.1 hs_169
        exact va_instNo hx hb hown (hts (.classLink RX11 104 "PageOne$Paid") (by decide +kernel)) hXN.n_X5_X6 (va_recv hK hP (ci := 4) (q0 := kk_174) rfl hk_175) dX11_isNamedIn_1 hgo
      ·
        exact absurd ht8 ht9
      ·
        obtain ⟨nu_176, kd_177, cn_178, pa_179, fa_180, ww_181, hh_182, sz_183, hs_184, hs_185, hs_186, hs_187, hq_188, hq_189, hq_190⟩ := x_ipi hI ht8
        obtain ⟨kk_191, hk_192⟩ := pl_at ht8.1 hs_184
        exact va_instNo hx hb hown (hts (.classLink RX11 104 "PageOne$Paid") (by decide +kernel)) hXN.n_X7_X6 (va_recv hK hP (ci := 6) (q0 := kk_191) rfl hk_192) dX11_isNamedIn_1 hgo
      ·
        obtain ⟨nu_193, kd_194, cn_195, pa_196, fa_197, l_198, co_199, wd_200, nm_201, hs_202, hs_203, hs_204, hs_205, hq_206, hq_207, hq_208⟩ := x_ist hI ht8
        obtain ⟨kk_209, hk_210⟩ := pl_at ht8.1 hs_202
        exact va_instNo hx hb hown (hts (.classLink RX11 104 "PageOne$Paid") (by decide +kernel)) hXN.n_X10_X6 (va_recv hK hP (ci := 9) (q0 := kk_209) rfl hk_210) dX11_isNamedIn_1 hgo
    ·
      refine lv_if_eq (tgt := 40) hx hb dX11_isNamedIn_4 (by decide) (fun c_211 => ?_) (fun c_211 => absurd (by decide) c_211)
      refine lv_iconst (v := 0) hx hb dX11_isNamedIn_40 (by decide) ?_
      exact W.zret (v := 0) hx hb hr (by decide) (fun t ht hW => ⟨_, rfl, (by decide), ht⟩) (fun q h => absurd h List.not_mem_nil) dX11_isNamedIn_41
set_option maxHeartbeats 4000000 in
set_option maxRecDepth 100000 in
theorem x_mayNotMeet (l : Launch) (dC : Nat → ClassId) (dI : Nat → Nat → Nat) (q : Nat → ClassId) (h0 : Nat) (d : Nat → Nat) (k : Nat → Int32) (z : gS) (f : xF) (hI : xI q h0 d k z f) (a0 b0 : Nat) (p0 : Int32) (ha0 : itm z a0) (hb0 : itm z b0) : Met l yX11_mayNotMeet wsX11_mayNotMeet ({ frames := 1, cells := 0, slots := 0, locals := 23 }) (va_Pc [.ref h0, .ref a0, .ref b0, .int p0] (PX dC dI (va_pl z.1 f) (xT q))) (vp_Si (fun r => r = 0 ∨ r = 1)) 0 0 (fun _ => False) := by
  refine Met.ofW (cc := cX11_mayNotMeet) (maxL := 6) (ret := (some .boolean)) (by decide) rfl ?_
  intro p e s m args below meth c s₁ B hml hv
  obtain ⟨rfl, ⟨hP, hK, hN⟩, hXN⟩ := hv
  have hx := B.exec
  have hb := B.bytes
  have hr := B.returns
  have hts := atoms_spec (ws := wsX11_mayNotMeet) B.pre
  have hown : s.vm.findClass RX11 = some m.cls := findClass_of_methodNamed B.named
  have hlocks := B.notSynchronized
  have hl := lv_entry ([.ref h0, .ref a0, .ref b0, .int p0]) (n := 6) (Nat.le_of_ble_eq_true rfl)
  rw [lg_entry_eq]
  generalize (lg_sl ([.ref h0, .ref a0, .ref b0, .int p0]) ++ List.replicate (6 - (lg_sl ([.ref h0, .ref a0, .ref b0, .int p0])).length) Slot.unset).toArray = ls at hl ⊢
  have hl : lv_has ls 6 [(0, .ref h0), (1, .ref a0), (2, .ref b0), (3, .int p0)] := hl
  refine lv_iload_n hx hb dX11_mayNotMeet_0 rfl (lv_at hl 3 rfl) ?_
  rcases Classical.em (p0 = 1) with s_1 | s_1
  ·
    subst s_1
    refine lv_tableIn (tgt := 28) (off := 27) hx hb dX11_mayNotMeet_1 (by decide) (by decide) (by decide) (by decide) ?_
    refine lv_aload_n hx hb dX11_mayNotMeet_28 rfl (lv_at hl 1 rfl) ?_
    rcases Classical.em (tg z a0 13) with ht9 | ht9
    ·
      have ht_2 := ht9
      obtain ⟨nu_4, kd_5, cn_6, pa_7, fa_8, b_9, pr_10, sp_11, dy_12, hs_13, hs_14, hs_15, hs_16, hq_17, hq_18, hq_19⟩ := x_ipd hI ht_2
      obtain ⟨kk_20, hk_21⟩ := pl_at ht_2.1 hs_13
      refine va_instS hx hb hown (hts (.classLink RX11 104 "PageOne$Paid") (by decide +kernel)) (hK.1 5 (RX6, TX6, 9) rfl).2 (va_recv hK hP (ci := 5) (q0 := kk_20) rfl hk_21) dX11_mayNotMeet_29 ?_
      refine lv_if_eq (tgt := 75) hx hb dX11_mayNotMeet_32 (by decide) (fun c_22 => absurd c_22 (by decide)) (fun c_22 => ?_)
      refine lv_aload_n hx hb dX11_mayNotMeet_35 rfl (lv_at hl 1 rfl) ?_
      obtain ⟨kk_23, hk_24⟩ := pl_at ht_2.1 hs_13
      refine va_castS hx hb hown (hts (.classLink RX11 104 "PageOne$Paid") (by decide +kernel)) (hK.1 5 (RX6, TX6, 9) rfl).2 (va_recv hK hP (ci := 5) (q0 := kk_23) rfl hk_24) dX11_mayNotMeet_36 ?_
      refine lv_astore (lv' := [(5, .ref a0), (0, .ref h0), (1, .ref a0), (2, .ref b0), (3, .int 1)]) hx hb dX11_mayNotMeet_39 hl (by decide) rfl (fun ls hl => ?_)
      refine lv_aload_n hx hb dX11_mayNotMeet_41 rfl (lv_at hl 3 rfl) ?_
      rcases Classical.em (tg z b0 13) with ht9 | ht9
      ·
        have ht_25 := ht9
        obtain ⟨nu_27, kd_28, cn_29, pa_30, fa_31, b_32, pr_33, sp_34, dy_35, hs_36, hs_37, hs_38, hs_39, hq_40, hq_41, hq_42⟩ := x_ipd hI ht_25
        obtain ⟨kk_43, hk_44⟩ := pl_at ht_25.1 hs_36
        refine va_instS hx hb hown (hts (.classLink RX11 104 "PageOne$Paid") (by decide +kernel)) (hK.1 5 (RX6, TX6, 9) rfl).2 (va_recv hK hP (ci := 5) (q0 := kk_43) rfl hk_44) dX11_mayNotMeet_42 ?_
        refine lv_if_eq (tgt := 75) hx hb dX11_mayNotMeet_45 (by decide) (fun c_45 => absurd c_45 (by decide)) (fun c_45 => ?_)
        refine lv_aload_n hx hb dX11_mayNotMeet_48 rfl (lv_at hl 3 rfl) ?_
        obtain ⟨kk_46, hk_47⟩ := pl_at ht_25.1 hs_36
        refine va_castS hx hb hown (hts (.classLink RX11 104 "PageOne$Paid") (by decide +kernel)) (hK.1 5 (RX6, TX6, 9) rfl).2 (va_recv hK hP (ci := 5) (q0 := kk_46) rfl hk_47) dX11_mayNotMeet_49 ?_
        refine lv_astore (lv' := [(4, .ref b0), (5, .ref a0), (0, .ref h0), (1, .ref a0), (2, .ref b0), (3, .int 1)]) hx hb dX11_mayNotMeet_52 hl (by decide) rfl (fun ls hl => ?_)
        refine lv_aload_n hx hb dX11_mayNotMeet_54 rfl (lv_at hl 2 rfl) ?_
        refine lv_aload hx hb dX11_mayNotMeet_55 (lv_at hl 1 rfl) ?_
        obtain ⟨kk_48, hk_49⟩ := pl_at ht_2.1 hs_13
        refine va_get (D := (dC, dI)) (ci := 5) (v := .int b_9) (C := RX6) (T := TX6) (N := 9) hx hb hts (by decide +kernel) hown hK hP kk_48 hk_49 rfl 5 (by decide) (hts (.fieldLink RX11 260 "PageOne$Paid" "buyer" "I") (by decide +kernel)) (fun _ h9 => h9) rfl dX11_mayNotMeet_57 ?_
        refine lv_aload hx hb dX11_mayNotMeet_60 (lv_at hl 0 rfl) ?_
        obtain ⟨kk_50, hk_51⟩ := pl_at ht_25.1 hs_36
        refine va_get (D := (dC, dI)) (ci := 5) (v := .int b_32) (C := RX6) (T := TX6) (N := 9) hx hb hts (by decide +kernel) hown hK hP kk_50 hk_51 rfl 5 (by decide) (hts (.fieldLink RX11 260 "PageOne$Paid" "buyer" "I") (by decide +kernel)) (fun _ h9 => h9) rfl dX11_mayNotMeet_62 ?_
        obtain ⟨kk_52, hk_53⟩ := pl_at hI.2.1.1.1 hI.2.2.2.1.1
        refine vp_callSi (va_runV (As := [.int b_9, .int b_32]) (rest := []) ⟨hx, hb, hml, hown, hts⟩ (x_areRivals l dC dI q h0 d k z f hI b_9 b_32 hq_17 hq_40) (cwV 2 hts gX11_mayNotMeet_X11_areRivals rfl rfl rfl (by decide +kernel) ⟨Nat.le_of_ble_eq_true rfl, Nat.le_of_ble_eq_true rfl⟩) ⟨px_fb, va_recv hK hP (ci := 10) (q0 := kk_52) rfl hk_53, fun U hU hW => ⟨rfl, px_to hU hW hP hK hN hXN⟩⟩ rfl rfl hl.1 rfl (lv_room (Nat.le_of_ble_eq_true rfl)) dX11_mayNotMeet_65 ⟨Nat.le_of_ble_eq_true rfl, Nat.le_of_ble_eq_true rfl⟩).run (fun r hw => ?_)
        rcases hw with hw | hw
        ·
          subst hw
          refine lv_if_eq (tgt := 75) hx hb dX11_mayNotMeet_68 (by decide) (fun c_54 => ?_) (fun c_54 => absurd (by decide) c_54)
          refine lv_iconst (v := 0) hx hb dX11_mayNotMeet_75 (by decide) ?_
          exact W.zret (v := 0) hx hb hr (by decide) (fun t ht hW => ⟨_, rfl, (by decide), ht⟩) (fun q h => absurd h List.not_mem_nil) dX11_mayNotMeet_76
        ·
          subst hw
          refine lv_if_eq (tgt := 75) hx hb dX11_mayNotMeet_68 (by decide) (fun c_55 => absurd c_55 (by decide)) (fun c_55 => ?_)
          refine lv_iconst (v := 1) hx hb dX11_mayNotMeet_71 (by decide) ?_
          refine lv_goto (tgt := 76) hx hb dX11_mayNotMeet_72 (by decide) ?_
          exact W.zret (v := 1) hx hb hr (by decide) (fun t ht hW => ⟨_, rfl, (by decide), ht⟩) (fun q h => absurd h List.not_mem_nil) dX11_mayNotMeet_76
      ·
        have hn_26 := ht9
        refine w_then (F0 m 45 ls [.int 0]) (fun hgo => ?_) ?_
        ·
          rcases x_tag hb0 with ht8 | ht8 | ht8 | ht8 | ht8 | ht8
          ·
            obtain ⟨nu_56, kd_57, cn_58, pa_59, fa_60, l_61, m_62, hs_63, hs_64, hs_65, hs_66⟩ := x_ifl hI ht8
            obtain ⟨kk_67, hk_68⟩ := pl_at ht8.1 hs_63
            exact va_instNo hx hb hown (hts (.classLink RX11 104 "PageOne$Paid") (by decide +kernel)) hXN.n_X2_X6 (va_recv hK hP (ci := 2) (q0 := kk_67) rfl hk_68) dX11_mayNotMeet_42 hgo
          ·
            obtain ⟨nu_69, kd_70, cn_71, pa_72, fa_73, o_74, w_75, y_76, hs_77, hs_78, hs_79, hs_80, hq_81⟩ := x_ihd hI ht8
            obtain ⟨kk_82, hk_83⟩ := pl_at ht8.1 hs_77
            exact va_instNo hx hb hown (hts (.classLink RX11 104 "PageOne$Paid") (by decide +kernel)) hXN.n_X3_X6 (va_recv hK hP (ci := 3) (q0 := kk_82) rfl hk_83) dX11_mayNotMeet_42 hgo
          ·
            obtain ⟨nu_84, kd_85, cn_86, pa_87, fa_88, o_89, y_90, hs_91, hs_92, hs_93, hs_94, hq_95⟩ := x_ino hI ht8
            obtain ⟨kk_96, hk_97⟩ := pl_at ht8.1 hs_91
            exact va_instNo hx hb hown (hts (.classLink RX11 104 "PageOne$Paid") (by decide +kernel)) hXN.n_X5_X6 (va_recv hK hP (ci := 4) (q0 := kk_96) rfl hk_97) dX11_mayNotMeet_42 hgo
          ·
            exact absurd ht8 ht9
          ·
            obtain ⟨nu_98, kd_99, cn_100, pa_101, fa_102, ww_103, hh_104, sz_105, hs_106, hs_107, hs_108, hs_109, hq_110, hq_111, hq_112⟩ := x_ipi hI ht8
            obtain ⟨kk_113, hk_114⟩ := pl_at ht8.1 hs_106
            exact va_instNo hx hb hown (hts (.classLink RX11 104 "PageOne$Paid") (by decide +kernel)) hXN.n_X7_X6 (va_recv hK hP (ci := 6) (q0 := kk_113) rfl hk_114) dX11_mayNotMeet_42 hgo
          ·
            obtain ⟨nu_115, kd_116, cn_117, pa_118, fa_119, l_120, co_121, wd_122, nm_123, hs_124, hs_125, hs_126, hs_127, hq_128, hq_129, hq_130⟩ := x_ist hI ht8
            obtain ⟨kk_131, hk_132⟩ := pl_at ht8.1 hs_124
            exact va_instNo hx hb hown (hts (.classLink RX11 104 "PageOne$Paid") (by decide +kernel)) hXN.n_X10_X6 (va_recv hK hP (ci := 9) (q0 := kk_131) rfl hk_132) dX11_mayNotMeet_42 hgo
        ·
          refine lv_if_eq (tgt := 75) hx hb dX11_mayNotMeet_45 (by decide) (fun c_133 => ?_) (fun c_133 => absurd (by decide) c_133)
          refine lv_iconst (v := 0) hx hb dX11_mayNotMeet_75 (by decide) ?_
          exact W.zret (v := 0) hx hb hr (by decide) (fun t ht hW => ⟨_, rfl, (by decide), ht⟩) (fun q h => absurd h List.not_mem_nil) dX11_mayNotMeet_76
    ·
      have hn_3 := ht9
      refine w_then (F0 m 32 ls [.int 0]) (fun hgo => ?_) ?_
      ·
        rcases x_tag ha0 with ht8 | ht8 | ht8 | ht8 | ht8 | ht8
        ·
          obtain ⟨nu_134, kd_135, cn_136, pa_137, fa_138, l_139, m_140, hs_141, hs_142, hs_143, hs_144⟩ := x_ifl hI ht8
          obtain ⟨kk_145, hk_146⟩ := pl_at ht8.1 hs_141
          exact va_instNo hx hb hown (hts (.classLink RX11 104 "PageOne$Paid") (by decide +kernel)) hXN.n_X2_X6 (va_recv hK hP (ci := 2) (q0 := kk_145) rfl hk_146) dX11_mayNotMeet_29 hgo
        ·
          obtain ⟨nu_147, kd_148, cn_149, pa_150, fa_151, o_152, w_153, y_154, hs_155, hs_156, hs_157, hs_158, hq_159⟩ := x_ihd hI ht8
          obtain ⟨kk_160, hk_161⟩ := pl_at ht8.1 hs_155
          exact va_instNo hx hb hown (hts (.classLink RX11 104 "PageOne$Paid") (by decide +kernel)) hXN.n_X3_X6 (va_recv hK hP (ci := 3) (q0 := kk_160) rfl hk_161) dX11_mayNotMeet_29 hgo
        ·
          obtain ⟨nu_162, kd_163, cn_164, pa_165, fa_166, o_167, y_168, hs_169, hs_170, hs_171, hs_172, hq_173⟩ := x_ino hI ht8
          obtain ⟨kk_174, hk_175⟩ := pl_at ht8.1 hs_169
          exact va_instNo hx hb hown (hts (.classLink RX11 104 "PageOne$Paid") (by decide +kernel)) hXN.n_X5_X6 (va_recv hK hP (ci := 4) (q0 := kk_174) rfl hk_175) dX11_mayNotMeet_29 hgo
        ·
          exact absurd ht8 ht9
        ·
          obtain ⟨nu_176, kd_177, cn_178, pa_179, fa_180, ww_181, hh_182, sz_183, hs_184, hs_185, hs_186, hs_187, hq_188, hq_189, hq_190⟩ := x_ipi hI ht8
          obtain ⟨kk_191, hk_192⟩ := pl_at ht8.1 hs_184
          exact va_instNo hx hb hown (hts (.classLink RX11 104 "PageOne$Paid") (by decide +kernel)) hXN.n_X7_X6 (va_recv hK hP (ci := 6) (q0 := kk_191) rfl hk_192) dX11_mayNotMeet_29 hgo
        ·
          obtain ⟨nu_193, kd_194, cn_195, pa_196, fa_197, l_198, co_199, wd_200, nm_201, hs_202, hs_203, hs_204, hs_205, hq_206, hq_207, hq_208⟩ := x_ist hI ht8
          obtain ⟨kk_209, hk_210⟩ := pl_at ht8.1 hs_202
          exact va_instNo hx hb hown (hts (.classLink RX11 104 "PageOne$Paid") (by decide +kernel)) hXN.n_X10_X6 (va_recv hK hP (ci := 9) (q0 := kk_209) rfl hk_210) dX11_mayNotMeet_29 hgo
      ·
        refine lv_if_eq (tgt := 75) hx hb dX11_mayNotMeet_32 (by decide) (fun c_211 => ?_) (fun c_211 => absurd (by decide) c_211)
        refine lv_iconst (v := 0) hx hb dX11_mayNotMeet_75 (by decide) ?_
        exact W.zret (v := 0) hx hb hr (by decide) (fun t ht hW => ⟨_, rfl, (by decide), ht⟩) (fun q h => absurd h List.not_mem_nil) dX11_mayNotMeet_76
  ·
    rcases Classical.em (p0 = 2) with s_212 | s_212
    ·
      subst s_212
      refine lv_tableIn (tgt := 77) (off := 76) hx hb dX11_mayNotMeet_1 (by decide) (by decide) (by decide) (by decide) ?_
      refine lv_aload_n hx hb dX11_mayNotMeet_77 rfl (lv_at hl 1 rfl) ?_
      refine lv_aload_n hx hb dX11_mayNotMeet_78 rfl (lv_at hl 2 rfl) ?_
      refine vp_callSi (va_runS (As := [.ref a0, .ref b0]) (rest := []) ⟨hx, hb, hml, hown, hts⟩ (x_isNamedIn l dC dI q h0 d k z f hI a0 b0 ha0 hb0) (va_cwS 2 hts gX11_mayNotMeet_X11_isNamedIn rfl rfl rfl (by decide +kernel) ⟨Nat.le_of_ble_eq_true rfl, Nat.le_of_ble_eq_true rfl⟩) ⟨px_fb, fun U hU hW => ⟨rfl, px_to hU hW hP hK hN hXN⟩⟩ rfl rfl hl.1 rfl (lv_room (Nat.le_of_ble_eq_true rfl)) dX11_mayNotMeet_79 ⟨Nat.le_of_ble_eq_true rfl, Nat.le_of_ble_eq_true rfl⟩).run (fun r hw => ?_)
      rcases hw with hw | hw
      ·
        subst hw
        refine lv_if_ne (tgt := 93) hx hb dX11_mayNotMeet_82 (by decide) (fun c_213 => absurd (by decide) c_213) (fun c_213 => ?_)
        refine lv_aload_n hx hb dX11_mayNotMeet_85 rfl (lv_at hl 2 rfl) ?_
        refine lv_aload_n hx hb dX11_mayNotMeet_86 rfl (lv_at hl 1 rfl) ?_
        refine vp_callSi (va_runS (As := [.ref b0, .ref a0]) (rest := []) ⟨hx, hb, hml, hown, hts⟩ (x_isNamedIn l dC dI q h0 d k z f hI b0 a0 hb0 ha0) (va_cwS 2 hts gX11_mayNotMeet_X11_isNamedIn rfl rfl rfl (by decide +kernel) ⟨Nat.le_of_ble_eq_true rfl, Nat.le_of_ble_eq_true rfl⟩) ⟨px_fb, fun U hU hW => ⟨rfl, px_to hU hW hP hK hN hXN⟩⟩ rfl rfl hl.1 rfl (lv_room (Nat.le_of_ble_eq_true rfl)) dX11_mayNotMeet_87 ⟨Nat.le_of_ble_eq_true rfl, Nat.le_of_ble_eq_true rfl⟩).run (fun r hw => ?_)
        rcases hw with hw | hw
        ·
          subst hw
          refine lv_if_eq (tgt := 97) hx hb dX11_mayNotMeet_90 (by decide) (fun c_214 => ?_) (fun c_214 => absurd (by decide) c_214)
          refine lv_iconst (v := 0) hx hb dX11_mayNotMeet_97 (by decide) ?_
          exact W.zret (v := 0) hx hb hr (by decide) (fun t ht hW => ⟨_, rfl, (by decide), ht⟩) (fun q h => absurd h List.not_mem_nil) dX11_mayNotMeet_98
        ·
          subst hw
          refine lv_if_eq (tgt := 97) hx hb dX11_mayNotMeet_90 (by decide) (fun c_215 => absurd c_215 (by decide)) (fun c_215 => ?_)
          refine lv_iconst (v := 1) hx hb dX11_mayNotMeet_93 (by decide) ?_
          refine lv_goto (tgt := 98) hx hb dX11_mayNotMeet_94 (by decide) ?_
          exact W.zret (v := 1) hx hb hr (by decide) (fun t ht hW => ⟨_, rfl, (by decide), ht⟩) (fun q h => absurd h List.not_mem_nil) dX11_mayNotMeet_98
      ·
        subst hw
        refine lv_if_ne (tgt := 93) hx hb dX11_mayNotMeet_82 (by decide) (fun c_216 => ?_) (fun c_216 => absurd c_216 (by decide))
        refine lv_iconst (v := 1) hx hb dX11_mayNotMeet_93 (by decide) ?_
        refine lv_goto (tgt := 98) hx hb dX11_mayNotMeet_94 (by decide) ?_
        exact W.zret (v := 1) hx hb hr (by decide) (fun t ht hW => ⟨_, rfl, (by decide), ht⟩) (fun q h => absurd h List.not_mem_nil) dX11_mayNotMeet_98
    ·
      rcases Classical.em (p0 = 3) with s_217 | s_217
      ·
        subst s_217
        refine lv_tableIn (tgt := 99) (off := 98) hx hb dX11_mayNotMeet_1 (by decide) (by decide) (by decide) (by decide) ?_
        refine lv_aload_n hx hb dX11_mayNotMeet_99 rfl (lv_at hl 1 rfl) ?_
        rcases Classical.em (tg z a0 11) with ht9 | ht9
        ·
          have ht_218 := ht9
          obtain ⟨nu_220, kd_221, cn_222, pa_223, fa_224, o_225, w_226, y_227, hs_228, hs_229, hs_230, hs_231, hq_232⟩ := x_ihd hI ht_218
          obtain ⟨kk_233, hk_234⟩ := pl_at ht_218.1 hs_228
          refine va_instS hx hb hown (hts (.classLink RX11 83 "PageOne$Head") (by decide +kernel)) (hK.1 3 (RX3, TX3, 8) rfl).2 (va_recv hK hP (ci := 3) (q0 := kk_233) rfl hk_234) dX11_mayNotMeet_100 ?_
          refine lv_if_eq (tgt := 117) hx hb dX11_mayNotMeet_103 (by decide) (fun c_235 => absurd c_235 (by decide)) (fun c_235 => ?_)
          refine lv_aload_n hx hb dX11_mayNotMeet_106 rfl (lv_at hl 2 rfl) ?_
          rcases Classical.em (tg z b0 11) with ht9 | ht9
          ·
            have ht_236 := ht9
            obtain ⟨nu_238, kd_239, cn_240, pa_241, fa_242, o_243, w_244, y_245, hs_246, hs_247, hs_248, hs_249, hq_250⟩ := x_ihd hI ht_236
            obtain ⟨kk_251, hk_252⟩ := pl_at ht_236.1 hs_246
            refine va_instS hx hb hown (hts (.classLink RX11 83 "PageOne$Head") (by decide +kernel)) (hK.1 3 (RX3, TX3, 8) rfl).2 (va_recv hK hP (ci := 3) (q0 := kk_251) rfl hk_252) dX11_mayNotMeet_107 ?_
            refine lv_if_eq (tgt := 117) hx hb dX11_mayNotMeet_110 (by decide) (fun c_253 => absurd c_253 (by decide)) (fun c_253 => ?_)
            refine lv_iconst (v := 1) hx hb dX11_mayNotMeet_113 (by decide) ?_
            refine lv_goto (tgt := 118) hx hb dX11_mayNotMeet_114 (by decide) ?_
            exact W.zret (v := 1) hx hb hr (by decide) (fun t ht hW => ⟨_, rfl, (by decide), ht⟩) (fun q h => absurd h List.not_mem_nil) dX11_mayNotMeet_118
          ·
            have hn_237 := ht9
            refine w_then (F0 m 110 ls [.int 0]) (fun hgo => ?_) ?_
            ·
              rcases x_tag hb0 with ht8 | ht8 | ht8 | ht8 | ht8 | ht8
              ·
                obtain ⟨nu_254, kd_255, cn_256, pa_257, fa_258, l_259, m_260, hs_261, hs_262, hs_263, hs_264⟩ := x_ifl hI ht8
                obtain ⟨kk_265, hk_266⟩ := pl_at ht8.1 hs_261
                exact va_instNo hx hb hown (hts (.classLink RX11 83 "PageOne$Head") (by decide +kernel)) hXN.n_X2_X3 (va_recv hK hP (ci := 2) (q0 := kk_265) rfl hk_266) dX11_mayNotMeet_107 hgo
              ·
                exact absurd ht8 ht9
              ·
                obtain ⟨nu_267, kd_268, cn_269, pa_270, fa_271, o_272, y_273, hs_274, hs_275, hs_276, hs_277, hq_278⟩ := x_ino hI ht8
                obtain ⟨kk_279, hk_280⟩ := pl_at ht8.1 hs_274
                exact va_instNo hx hb hown (hts (.classLink RX11 83 "PageOne$Head") (by decide +kernel)) hXN.n_X5_X3 (va_recv hK hP (ci := 4) (q0 := kk_279) rfl hk_280) dX11_mayNotMeet_107 hgo
              ·
                obtain ⟨nu_281, kd_282, cn_283, pa_284, fa_285, b_286, pr_287, sp_288, dy_289, hs_290, hs_291, hs_292, hs_293, hq_294, hq_295, hq_296⟩ := x_ipd hI ht8
                obtain ⟨kk_297, hk_298⟩ := pl_at ht8.1 hs_290
                exact va_instNo hx hb hown (hts (.classLink RX11 83 "PageOne$Head") (by decide +kernel)) hXN.n_X6_X3 (va_recv hK hP (ci := 5) (q0 := kk_297) rfl hk_298) dX11_mayNotMeet_107 hgo
              ·
                obtain ⟨nu_299, kd_300, cn_301, pa_302, fa_303, ww_304, hh_305, sz_306, hs_307, hs_308, hs_309, hs_310, hq_311, hq_312, hq_313⟩ := x_ipi hI ht8
                obtain ⟨kk_314, hk_315⟩ := pl_at ht8.1 hs_307
                exact va_instNo hx hb hown (hts (.classLink RX11 83 "PageOne$Head") (by decide +kernel)) hXN.n_X7_X3 (va_recv hK hP (ci := 6) (q0 := kk_314) rfl hk_315) dX11_mayNotMeet_107 hgo
              ·
                obtain ⟨nu_316, kd_317, cn_318, pa_319, fa_320, l_321, co_322, wd_323, nm_324, hs_325, hs_326, hs_327, hs_328, hq_329, hq_330, hq_331⟩ := x_ist hI ht8
                obtain ⟨kk_332, hk_333⟩ := pl_at ht8.1 hs_325
                exact va_instNo hx hb hown (hts (.classLink RX11 83 "PageOne$Head") (by decide +kernel)) hXN.n_X10_X3 (va_recv hK hP (ci := 9) (q0 := kk_332) rfl hk_333) dX11_mayNotMeet_107 hgo
            ·
              refine lv_if_eq (tgt := 117) hx hb dX11_mayNotMeet_110 (by decide) (fun c_334 => ?_) (fun c_334 => absurd (by decide) c_334)
              refine lv_iconst (v := 0) hx hb dX11_mayNotMeet_117 (by decide) ?_
              exact W.zret (v := 0) hx hb hr (by decide) (fun t ht hW => ⟨_, rfl, (by decide), ht⟩) (fun q h => absurd h List.not_mem_nil) dX11_mayNotMeet_118
        ·
          have hn_219 := ht9
          refine w_then (F0 m 103 ls [.int 0]) (fun hgo => ?_) ?_
          ·
            rcases x_tag ha0 with ht8 | ht8 | ht8 | ht8 | ht8 | ht8
            ·
              obtain ⟨nu_335, kd_336, cn_337, pa_338, fa_339, l_340, m_341, hs_342, hs_343, hs_344, hs_345⟩ := x_ifl hI ht8
              obtain ⟨kk_346, hk_347⟩ := pl_at ht8.1 hs_342
              exact va_instNo hx hb hown (hts (.classLink RX11 83 "PageOne$Head") (by decide +kernel)) hXN.n_X2_X3 (va_recv hK hP (ci := 2) (q0 := kk_346) rfl hk_347) dX11_mayNotMeet_100 hgo
            ·
              exact absurd ht8 ht9
            ·
              obtain ⟨nu_348, kd_349, cn_350, pa_351, fa_352, o_353, y_354, hs_355, hs_356, hs_357, hs_358, hq_359⟩ := x_ino hI ht8
              obtain ⟨kk_360, hk_361⟩ := pl_at ht8.1 hs_355
              exact va_instNo hx hb hown (hts (.classLink RX11 83 "PageOne$Head") (by decide +kernel)) hXN.n_X5_X3 (va_recv hK hP (ci := 4) (q0 := kk_360) rfl hk_361) dX11_mayNotMeet_100 hgo
            ·
              obtain ⟨nu_362, kd_363, cn_364, pa_365, fa_366, b_367, pr_368, sp_369, dy_370, hs_371, hs_372, hs_373, hs_374, hq_375, hq_376, hq_377⟩ := x_ipd hI ht8
              obtain ⟨kk_378, hk_379⟩ := pl_at ht8.1 hs_371
              exact va_instNo hx hb hown (hts (.classLink RX11 83 "PageOne$Head") (by decide +kernel)) hXN.n_X6_X3 (va_recv hK hP (ci := 5) (q0 := kk_378) rfl hk_379) dX11_mayNotMeet_100 hgo
            ·
              obtain ⟨nu_380, kd_381, cn_382, pa_383, fa_384, ww_385, hh_386, sz_387, hs_388, hs_389, hs_390, hs_391, hq_392, hq_393, hq_394⟩ := x_ipi hI ht8
              obtain ⟨kk_395, hk_396⟩ := pl_at ht8.1 hs_388
              exact va_instNo hx hb hown (hts (.classLink RX11 83 "PageOne$Head") (by decide +kernel)) hXN.n_X7_X3 (va_recv hK hP (ci := 6) (q0 := kk_395) rfl hk_396) dX11_mayNotMeet_100 hgo
            ·
              obtain ⟨nu_397, kd_398, cn_399, pa_400, fa_401, l_402, co_403, wd_404, nm_405, hs_406, hs_407, hs_408, hs_409, hq_410, hq_411, hq_412⟩ := x_ist hI ht8
              obtain ⟨kk_413, hk_414⟩ := pl_at ht8.1 hs_406
              exact va_instNo hx hb hown (hts (.classLink RX11 83 "PageOne$Head") (by decide +kernel)) hXN.n_X10_X3 (va_recv hK hP (ci := 9) (q0 := kk_413) rfl hk_414) dX11_mayNotMeet_100 hgo
          ·
            refine lv_if_eq (tgt := 117) hx hb dX11_mayNotMeet_103 (by decide) (fun c_415 => ?_) (fun c_415 => absurd (by decide) c_415)
            refine lv_iconst (v := 0) hx hb dX11_mayNotMeet_117 (by decide) ?_
            exact W.zret (v := 0) hx hb hr (by decide) (fun t ht hW => ⟨_, rfl, (by decide), ht⟩) (fun q h => absurd h List.not_mem_nil) dX11_mayNotMeet_118
      ·
        refine lv_tableOut (tgt := 119) hx hb dX11_mayNotMeet_1 (sw_out3 s_1 s_212 s_217) (by decide) ?_
        refine lv_iconst (v := 0) hx hb dX11_mayNotMeet_119 (by decide) ?_
        exact W.zret (v := 0) hx hb hr (by decide) (fun t ht hW => ⟨_, rfl, (by decide), ht⟩) (fun q h => absurd h List.not_mem_nil) dX11_mayNotMeet_120
