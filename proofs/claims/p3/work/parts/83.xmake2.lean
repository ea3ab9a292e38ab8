set_option maxHeartbeats 4000000 in
set_option maxRecDepth 100000 in
theorem x_notice (l : Launch) (dC : Nat → ClassId) (dI : Nat → Nat → Nat) (q : Nat → ClassId) (h0 : Nat) (d : Nat → Nat) (k : Nat → Int32) (z : gS) (f : xF) (hI : xI q h0 d k z f) (p0 p1 : Int32) (sz : Nat) : Met l yX11_notice wsX11_notice ({ frames := 5, cells := 3, slots := 13, locals := 111 }) (va_Pc [.ref h0, .int p0, .int p1] (fun U => U.heap.size = sz ∧ PX dC dI (va_pl z.1 f) (xT q) U ∧ va_D (fun _ => True) (va_pl z.1 f))) (va_Qi (fun (r : Int32) (w : xU) => (∀ j, j ≠ 0 → w.1 j = k j) ∧ zE z w.2.1 ∧ xI q h0 d w.1 w.2.1 w.2.2) (fun (w : xU) t => va_P (dC, dI) vwCl (va_pl w.2.1.1 w.2.2) t.heap ∧ va_D (va_A (va_pl z.1 f) sz) (va_pl w.2.1.1 w.2.2)) (va_A (va_pl z.1 f) sz)) 3 13 (va_A (va_pl z.1 f) sz) := by
  refine Met.ofW (cc := cX11_notice) (maxL := 4) (ret := (some .int)) (by decide) rfl ?_
  intro p e s m args below meth c s₁ B hml hv
  obtain ⟨rfl, hsz, ⟨⟨hP, hK, hN⟩, hXN⟩, hD0⟩ := hv
  have hx := B.exec
  have hb := B.bytes
  have hr := B.returns
  have hts := atoms_spec (ws := wsX11_notice) B.pre
  have hown : s.vm.findClass RX11 = some m.cls := findClass_of_methodNamed B.named
  have hlocks := B.notSynchronized
  subst hsz
  have hD := hD0.self (sz := s.heap.size)
  generalize hAe : va_A (va_pl z.1 f) s.heap.size = A at hD ⊢
  have hA : ∀ q : Nat, s.heap.size ≤ q → A q := fun q h => by rw [← hAe]; exact Or.inr h
  have hS : va_S A s.heap s.heap [] := va_S.rf
  have hl := lv_entry ([.ref h0, .int p0, .int p1]) (n := 4) (Nat.le_of_ble_eq_true rfl)
  rw [lg_entry_eq]
  generalize (lg_sl ([.ref h0, .int p0, .int p1]) ++ List.replicate (4 - (lg_sl ([.ref h0, .int p0, .int p1])).length) Slot.unset).toArray = ls at hl ⊢
  have hl : lv_has ls 4 [(0, .ref h0), (1, .int p0), (2, .int p1)] := hl
  refine lv_aload_n hx hb dX11_notice_0 rfl (lv_at hl 0 rfl) ?_
  refine lv_iload_n hx hb dX11_notice_1 rfl (lv_at hl 1 rfl) ?_
  obtain ⟨kk_1, hk_2⟩ := pl_at hI.2.1.1.1 hI.2.2.2.1.1
  refine va_csq (va_runV (As := [.int p0]) (rest := []) ⟨hx, hb, hml, hown, hts⟩ (x_itemOf l dC dI q h0 d k z f hI p0) (cwV 1 hts gX11_notice_X11_itemOf rfl rfl rfl (by decide +kernel) ⟨Nat.le_of_ble_eq_true rfl, Nat.le_of_ble_eq_true rfl⟩) ⟨px_fb, va_recv hK hP (ci := 10) (q0 := kk_1) rfl hk_2, fun U hU hW => ⟨rfl, px_to hU hW hP hK hN hXN⟩⟩ rfl rfl hl.1 rfl (lv_room (Nat.le_of_ble_eq_true rfl)) dX11_notice_2 ⟨Nat.le_of_ble_eq_true rfl, Nat.le_of_ble_eq_true rfl⟩).run (fun r hw => ?_)
  rcases r with _ | b_3
  ·
    refine W.eq (g2 := F0 m 5 ls [.null]) rfl ?_
    refine lv_astore_nN (lv' := [(3, .null), (0, .ref h0), (1, .int p0), (2, .int p1)]) hx hb dX11_notice_5 rfl hl (by decide) rfl (fun ls hl => ?_)
    refine lv_aload_nN hx hb dX11_notice_6 rfl (lv_at hl 0 rfl) ?_
    refine lv_ifnullN (tgt := 27) hx hb dX11_notice_7 (by decide) ?_
    refine lv_iconst (v := (-1)) hx hb dX11_notice_27 (by decide) ?_
    refine W.widen (k := 3) (n := 13) (Nat.le_of_ble_eq_true rfl) (Nat.le_of_ble_eq_true rfl) ?_
    exact W.iret (v := (-1)) hx hb hr (fun t ht hW => ⟨⟨(-1), (k, z, f), rfl, ⟨fun _ _ => rfl, zE_rf z, hI⟩, by rw [ht]; exact hP, hD⟩, hS.F ht⟩) hS.2.2 dX11_notice_28
  ·
    have ht_4 := hw b_3 rfl
    refine W.eq (g2 := F0 m 5 ls [.ref b_3]) rfl ?_
    refine lv_astore_n (lv' := [(3, .ref b_3), (0, .ref h0), (1, .int p0), (2, .int p1)]) hx hb dX11_notice_5 rfl hl (by decide) rfl (fun ls hl => ?_)
    refine lv_aload_n hx hb dX11_notice_6 rfl (lv_at hl 0 rfl) ?_
    refine lv_ifnull hx hb dX11_notice_7 ?_
    refine lv_aload_n hx hb dX11_notice_10 rfl (lv_at hl 0 rfl) ?_
    rcases Classical.em (tg z b_3 12) with ht9 | ht9
    ·
      have ht_5 := ht9
      obtain ⟨nu_7, kd_8, cn_9, pa_10, fa_11, o_12, y_13, hs_14, hs_15, hs_16, hs_17, hq_18⟩ := x_ino hI ht_5
      obtain ⟨kk_19, hk_20⟩ := pl_at ht_5.1 hs_14
      refine va_instS hx hb hown (hts (.classLink RX11 119 RX5) (by decide +kernel)) (hK.1 4 (RX5, TX5, 7) rfl).2 (va_recv hK hP (ci := 4) (q0 := kk_19) rfl hk_20) dX11_notice_11 ?_
      refine lv_if_ne (tgt := 27) hx hb dX11_notice_14 (by decide) (fun c_21 => ?_) (fun c_21 => absurd c_21 (by decide))
      refine lv_iconst (v := (-1)) hx hb dX11_notice_27 (by decide) ?_
      refine W.widen (k := 3) (n := 13) (Nat.le_of_ble_eq_true rfl) (Nat.le_of_ble_eq_true rfl) ?_
      exact W.iret (v := (-1)) hx hb hr (fun t ht hW => ⟨⟨(-1), (k, z, f), rfl, ⟨fun _ _ => rfl, zE_rf z, hI⟩, by rw [ht]; exact hP, hD⟩, hS.F ht⟩) hS.2.2 dX11_notice_28
    ·
      have hn_6 := ht9
      refine w_then (F0 m 14 ls [.int 0]) (fun hgo => ?_) ?_
      ·
        rcases x_tag ht_4 with ht8 | ht8 | ht8 | ht8 | ht8 | ht8
        ·
          obtain ⟨nu_22, kd_23, cn_24, pa_25, fa_26, l_27, m_28, hs_29, hs_30, hs_31, hs_32⟩ := x_ifl hI ht8
          obtain ⟨kk_33, hk_34⟩ := pl_at ht8.1 hs_29
          exact va_instNo hx hb hown (hts (.classLink RX11 119 RX5) (by decide +kernel)) hXN.n_X2_X5 (va_recv hK hP (ci := 2) (q0 := kk_33) rfl hk_34) dX11_notice_11 hgo
        ·
          obtain ⟨nu_35, kd_36, cn_37, pa_38, fa_39, o_40, w_41, y_42, hs_43, hs_44, hs_45, hs_46, hq_47⟩ := x_ihd hI ht8
          obtain ⟨kk_48, hk_49⟩ := pl_at ht8.1 hs_43
          exact va_instNo hx hb hown (hts (.classLink RX11 119 RX5) (by decide +kernel)) hXN.n_X3_X5 (va_recv hK hP (ci := 3) (q0 := kk_48) rfl hk_49) dX11_notice_11 hgo
        ·
          exact absurd ht8 ht9
        ·
          obtain ⟨nu_50, kd_51, cn_52, pa_53, fa_54, b_55, pr_56, sp_57, dy_58, hs_59, hs_60, hs_61, hs_62, hq_63, hq_64, hq_65⟩ := x_ipd hI ht8
          obtain ⟨kk_66, hk_67⟩ := pl_at ht8.1 hs_59
          exact va_instNo hx hb hown (hts (.classLink RX11 119 RX5) (by decide +kernel)) hXN.n_X6_X5 (va_recv hK hP (ci := 5) (q0 := kk_66) rfl hk_67) dX11_notice_11 hgo
        ·
          obtain ⟨nu_68, kd_69, cn_70, pa_71, fa_72, ww_73, hh_74, sz_75, hs_76, hs_77, hs_78, hs_79, hq_80, hq_81, hq_82⟩ := x_ipi hI ht8
          obtain ⟨kk_83, hk_84⟩ := pl_at ht8.1 hs_76
          exact va_instNo hx hb hown (hts (.classLink RX11 119 RX5) (by decide +kernel)) hXN.n_X7_X5 (va_recv hK hP (ci := 6) (q0 := kk_83) rfl hk_84) dX11_notice_11 hgo
        ·
          obtain ⟨nu_85, kd_86, cn_87, pa_88, fa_89, l_90, co_91, wd_92, nm_93, hs_94, hs_95, hs_96, hs_97, hq_98, hq_99, hq_100⟩ := x_ist hI ht8
          obtain ⟨kk_101, hk_102⟩ := pl_at ht8.1 hs_94
          exact va_instNo hx hb hown (hts (.classLink RX11 119 RX5) (by decide +kernel)) hXN.n_X10_X5 (va_recv hK hP (ci := 9) (q0 := kk_101) rfl hk_102) dX11_notice_11 hgo
      ·
        refine lv_if_ne (tgt := 27) hx hb dX11_notice_14 (by decide) (fun c_103 => absurd (by decide) c_103) (fun c_103 => ?_)
        refine lv_iload_n hx hb dX11_notice_17 rfl (lv_at hl 3 rfl) ?_
        refine lv_iconst (v := 1) hx hb dX11_notice_18 (by decide) ?_
        refine lv_bipush (v := 20) hx hb dX11_notice_19 (by decide) ?_
        refine vp_callSi (va_runS (As := [.int p1, .int 1, .int 20]) (rest := []) ⟨hx, hb, hml, hown, hts⟩ (x_isWithin l dC dI p1 1 20) (va_cwS 3 hts gX11_notice_X11_isWithin rfl rfl rfl (by decide +kernel) ⟨Nat.le_of_ble_eq_true rfl, Nat.le_of_ble_eq_true rfl⟩) ⟨pw_fb, fun U hU hW => ⟨rfl, pw_to hU hW (hP.sub (ws' := []) [] rfl) (hK.sub (tys' := []) [] rfl) hN⟩⟩ rfl rfl hl.1 rfl (lv_room (Nat.le_of_ble_eq_true rfl)) dX11_notice_21 ⟨Nat.le_of_ble_eq_true rfl, Nat.le_of_ble_eq_true rfl⟩).run (fun r hw => ?_)
        rcases Bool.eq_false_or_eq_true (bw p1 1 20) with b_104 | b_104
        ·
          obtain rfl : r = 1 := b_t hw b_104
          refine lv_if_ne (tgt := 29) hx hb dX11_notice_24 (by decide) (fun c_105 => ?_) (fun c_105 => absurd c_105 (by decide))
          refine lv_aload_n hx hb dX11_notice_29 rfl (lv_at hl 1 rfl) ?_
          refine lv_aload_n hx hb dX11_notice_30 rfl (lv_at hl 0 rfl) ?_
          refine lv_iconst (v := 0) hx hb dX11_notice_31 (by decide) ?_
          obtain ⟨kk_106, hk_107⟩ := pl_at hI.2.1.1.1 hI.2.2.2.1.1
          refine vp_callSi (va_runV (As := [.ref b_3, .int 0]) (rest := []) ⟨hx, hb, hml, hown, hts⟩ (x_firstPrinting l dC dI q h0 d k z f hI b_3 0 ht_4) (cwV 2 hts gX11_notice_X11_firstPrinting rfl rfl rfl (by decide +kernel) ⟨Nat.le_of_ble_eq_true rfl, Nat.le_of_ble_eq_true rfl⟩) ⟨px_fb, va_recv hK hP (ci := 10) (q0 := kk_106) rfl hk_107, fun U hU hW => ⟨rfl, px_to hU hW hP hK hN hXN⟩⟩ rfl rfl hl.1 rfl (lv_room (Nat.le_of_ble_eq_true rfl)) dX11_notice_32 ⟨Nat.le_of_ble_eq_true rfl, Nat.le_of_ble_eq_true rfl⟩).run (fun r hw => ?_)
          generalize r = zr_108 at hw ⊢
          have hzr_108 := hw
          refine lv_iconst (v := (-1)) hx hb dX11_notice_35 (by decide) ?_
          refine lv_icmp_eq (tgt := 47) hx hb dX11_notice_36 (by decide) (fun c_109 => ?_) (fun c_109 => ?_)
          ·
            refine lv_iconst (v := (-1)) hx hb dX11_notice_47 (by decide) ?_
            refine W.widen (k := 3) (n := 13) (Nat.le_of_ble_eq_true rfl) (Nat.le_of_ble_eq_true rfl) ?_
            exact W.iret (v := (-1)) hx hb hr (fun t ht hW => ⟨⟨(-1), (k, z, f), rfl, ⟨fun _ _ => rfl, zE_rf z, hI⟩, by rw [ht]; exact hP, hD⟩, hS.F ht⟩) hS.2.2 dX11_notice_48
          ·
            refine lv_aload_n hx hb dX11_notice_39 rfl (lv_at hl 1 rfl) ?_
            refine lv_aload_n hx hb dX11_notice_40 rfl (lv_at hl 0 rfl) ?_
            obtain ⟨kk_110, hk_111⟩ := pl_at hI.2.1.1.1 hI.2.2.2.1.1
            refine vp_callSi (va_runV (As := [.ref b_3]) (rest := []) ⟨hx, hb, hml, hown, hts⟩ (x_hasNotice l dC dI q h0 d k z f hI b_3 ht_4) (cwV 1 hts gX11_notice_X11_hasNotice rfl rfl rfl (by decide +kernel) ⟨Nat.le_of_ble_eq_true rfl, Nat.le_of_ble_eq_true rfl⟩) ⟨px_fb, va_recv hK hP (ci := 10) (q0 := kk_110) rfl hk_111, fun U hU hW => ⟨rfl, px_to hU hW hP hK hN hXN⟩⟩ rfl rfl hl.1 rfl (lv_room (Nat.le_of_ble_eq_true rfl)) dX11_notice_41 ⟨Nat.le_of_ble_eq_true rfl, Nat.le_of_ble_eq_true rfl⟩).run (fun r hw => ?_)
            generalize r = zr_112 at hw ⊢
            have hzr_112 := hw
            refine lv_if_eq (tgt := 49) hx hb dX11_notice_44 (by decide) (fun c_113 => ?_) (fun c_113 => ?_)
            ·
              refine lv_aload_n hx hb dX11_notice_49 rfl (lv_at hl 1 rfl) ?_
              refine va_new (ci := 4) (fs := [.int 0, .int 0, .null, .int 0, .null, .null, .int 0]) (C := RX5) (T := TX5) (N := 7) hx hb hts (by decide +kernel) tyX5 tyX5_ok hown (hts (.classLink RX11 119 RX5) (by decide +kernel)) (hts (.instantiable RX5 7) (by decide +kernel)) (hts (.initialized RX5) (by decide +kernel)) hK hP hD hS hA rfl nwX5 (Nat.le_of_ble_eq_true rfl) (Nat.le_of_ble_eq_true rfl) dX11_notice_50 (fun q_114 H hPn hDn hS => ?_)
              have hP := vaP_l hPn
              refine W.widen (k := 1) (n := 7) (Nat.le_of_ble_eq_true rfl) (Nat.le_of_ble_eq_true rfl) ?_
              refine lv_dup hx hb dX11_notice_53 rfl ?_
              refine lv_aload_n hx hb dX11_notice_54 rfl (lv_at hl 1 rfl) ?_
              obtain ⟨kk_115, hk_116⟩ := pl_at hI.2.1.1.1 hI.2.2.2.1.1
              refine va_get (D := (dC, dI)) (ci := 10) (v := .int (k 0)) (C := RX11) (T := TX11) (N := 9) hx hb hts (by decide +kernel) hown hK hP kk_115 hk_116 rfl 3 (by decide) (hts (.fieldLink RX11 24 "PageOne" "itemCount" "I") (by decide +kernel)) (fun _ h9 => h9) rfl dX11_notice_55 ?_
              refine lv_aload_n hx hb dX11_notice_58 rfl (lv_at hl 0 rfl) ?_
              refine lv_iload_n hx hb dX11_notice_59 rfl (lv_at hl 3 rfl) ?_
              have hPc := vaP_r hPn
              have hDc := vaD_r hDn
              have hFc := fr_part hDn hS hA
              refine va_callv (va_runI (As := [.int (k 0), .ref b_3, .int p1]) (rest := [.ref q_114, .ref h0]) ⟨hx, hb, hml, hown, hts⟩ (xn_Notice l dC dI q_114 b_3 (q 0) (q 5) (k 0) p1 H.size) (cwI 3 hts gX11_notice_X5_init rfl rfl rfl (hts (.initialized RX5) (by decide +kernel)) (hts (.methodLink RX11 129 yX5_init) (by decide +kernel)) (hts (.instanceMethod yX5_init) (by decide +kernel)) rfl (by decide +kernel) ⟨Nat.le_of_ble_eq_true rfl, Nat.le_of_ble_eq_true rfl⟩) ⟨gw_fb, fun U hU hW => ⟨rfl, by rw [hU], pw_to hU hW hPc (hK.sub (tys' := [(q 0, .int), (q 5, .object "PageOne$Piece")]) [0, 5] rfl) hN, hDc.weaken (fun _ _ _ _ => trivial)⟩⟩ rfl rfl hl.1 rfl (lv_room (Nat.le_of_ble_eq_true rfl)) dX11_notice_60 ⟨Nat.le_of_ble_eq_true rfl, Nat.le_of_ble_eq_true rfl⟩) hS (fun q _ h => hFc q h) hFc (fun u t H1 locs ht hvm hw hB hz1 hk1 hS => ?_)
              obtain ⟨qa_117, qa_118, hP1, hD1⟩ := hB
              rw [ht] at hP1
              obtain ⟨hP, hD⟩ := va_joinQ (X := [(q_114, .inr (4, [.int 0, .int 0, .null, .int 0, .null, .null, .int 0]))]) (cx := [(q_114, .inr (4, [.int 0, .int 0, .null, .int 0, .null, .null, .int 0]))]) (wr := []) (w1 := [(qa_117, aI (q 0) 5 (fun _ => (-1))), (qa_118, aR (q 5) 1 (fun _ => none)), (q_114, .inr (4, [.int (k 0), .int 5, .ref qa_118, .int 0, .ref qa_117, .ref b_3, .int p1]))]) (pl := va_pl z.1 f) (vaP_swap hPn) (vaD_rotR hDn) [0] [] rfl rfl rfl (fun i hi => absurd hi List.not_mem_nil) hk1 hFc hP1 hD1
              generalize H1 = H at hP hS ⊢
              obtain ⟨hnm_119, hP, hD⟩ := pushC hP hD
              obtain ⟨z_120, ez_120⟩ : ∃ y : gS, y = pz z qa_117 (17, 0, []) := ⟨_, rfl⟩
              obtain ⟨f_121, ef_121⟩ : ∃ y : xF, y = va_up f qa_117 (aI (q 0) 5 (fun _ => (-1))) := ⟨_, rfl⟩
              have hE_122 : zE z z_120 := by rw [ez_120]; exact pz_E hnm_119 _
              have hI : xI q h0 d k z_120 f_121 := by rw [ez_120, ef_121]; exact x_push hI hnm_119 (Or.inr (by decide : (15 : Nat) < 17)) (cO_17 (by rw [pz_s]) ⟨_, rfl⟩)
              rw [show z.1 ++ [qa_117] = z_120.1 from by rw [ez_120]; rfl, ← ef_121] at hP hD
              have ht_4 := zE_itm hE_122 ht_4
              have ht_123 : tg z_120 qa_117 17 := by rw [ez_120]; exact pz_t _ _ _
              have hEz : zE z z_120 := zE_tr (zE_rf z) hE_122
              obtain ⟨hnm_124, hP, hD⟩ := pushC hP hD
              obtain ⟨z_125, ez_125⟩ : ∃ y : gS, y = pz z_120 qa_118 (16, q_114, []) := ⟨_, rfl⟩
              obtain ⟨f_126, ef_126⟩ : ∃ y : xF, y = va_up f_121 qa_118 (aR (q 5) 1 (fun _ => none)) := ⟨_, rfl⟩
              have hE_127 : zE z_120 z_125 := by rw [ez_125]; exact pz_E hnm_124 _
              have hI : xI q h0 d k z_125 f_126 := by rw [ez_125, ef_126]; exact x_push hI hnm_124 (Or.inr (by decide : (15 : Nat) < 16)) (cO_16 (by rw [pz_s]) ⟨1, by decide, by decide, _, rfl, fun _ _ b hb => by cases hb⟩)
              rw [show z_120.1 ++ [qa_118] = z_125.1 from by rw [ez_125]; rfl, ← ef_126] at hP hD
              have hpf9 : f_126 qa_118 = aR (q 5) 1 (fun _ => none) := by rw [ef_126]; exact up_s
              have ho9 : (z_125.2 qa_118).2.1 = q_114 := by rw [ez_125, pz_s]
              have ht_4 := zE_itm hE_127 ht_4
              have ht_123 := zE_tg hE_127 ht_123
              have ht_128 : tg z_125 qa_118 16 := by rw [ez_125]; exact pz_t _ _ _
              have hEz : zE z z_125 := zE_tr hEz hE_127
              obtain ⟨hnm_129, hP, hD⟩ := pushC hP hD
              obtain ⟨z_130, ez_130⟩ : ∃ y : gS, y = pz z_125 q_114 (12, 0, []) := ⟨_, rfl⟩
              obtain ⟨f_131, ef_131⟩ : ∃ y : xF, y = va_up f_126 q_114 (.inr (4, [.int (k 0), .int 5, .ref qa_118, .int 0, .ref qa_117, .ref b_3, .int p1])) := ⟨_, rfl⟩
              have hE_132 : zE z_125 z_130 := by rw [ez_130]; exact pz_E hnm_129 _
              have hI : xI q h0 d k z_130 f_131 := by rw [ez_130, ef_131]; exact x_pushI (n := 1) hI hnm_129 (by decide) ht_128 ho9 ht_123 hpf9 (by decide) ⟨fun x => absurd x (by decide), fun x => absurd x (by decide), fun _ => ⟨_, _, rfl, zE_itm (pz_E hnm_129 _) ht_4⟩, fun x => absurd x (by decide), fun x => absurd x (by decide), fun x => absurd x (by decide)⟩
              rw [show z_125.1 ++ [q_114] = z_130.1 from by rw [ez_130]; rfl, ← ef_131] at hP hD
              have hpf9 : f_131 qa_118 = aR (q 5) 1 (fun _ => none) := by rw [ef_131, up_o (fun e => hnm_129 (by rw [← e]; exact ht_128.1))]; exact hpf9
              have ho9 : (z_130.2 qa_118).2.1 = q_114 := by rw [zE_o hE_132 ht_128.1]; exact ho9
              have ht_4 := zE_itm hE_132 ht_4
              have ht_123 := zE_tg hE_132 ht_123
              have ht_128 := zE_tg hE_132 ht_128
              have ht_133 : tg z_130 q_114 12 := by rw [ez_130]; exact pz_t _ _ _
              have hEz : zE z z_130 := zE_tr hEz hE_132
              refine W.widen (k := 3) (n := 13) (Nat.le_of_ble_eq_true rfl) (Nat.le_of_ble_eq_true rfl) ?_
              refine W.eq (g2 := F0 m 63 ls [.ref q_114, .ref h0]) rfl ?_
              obtain ⟨kk_134, hk_135⟩ := pl_at hI.2.1.1.1 hI.2.2.2.1.1
              have hFc := fr_all hD hS hA
              refine va_calli (va_runV (As := [.ref q_114]) (rest := []) ⟨hx, hb, hml, hown, hts⟩ (x_enter l dC dI q h0 d k z_130 f_131 hI q_114 (tg_itm ht_133 (by decide)) H.size) (cwV 1 hts gX11_notice_X11_enter rfl rfl rfl (by decide +kernel) ⟨Nat.le_of_ble_eq_true rfl, Nat.le_of_ble_eq_true rfl⟩) ⟨gx_fb, va_recv hK hP (ci := 10) (q0 := kk_134) rfl hk_135, fun U hU hW => ⟨rfl, by rw [hU], px_to hU hW hP hK hN hXN, hD.weaken (fun _ _ _ _ => trivial)⟩⟩ rfl rfl hl.1 rfl (lv_room (Nat.le_of_ble_eq_true rfl)) dX11_notice_63 ⟨Nat.le_of_ble_eq_true rfl, Nat.le_of_ble_eq_true rfl⟩) hS (fun q _ h => hFc q h) hFc (fun r w_136 t H1 locs ht hvm hw hB hz1 hk1 hS => ?_)
              obtain ⟨hP, hD1⟩ := hB
              rw [ht] at hP
              rw [hw.2.1] at hP hD1
              have hD := hD1.weaken (fun _ q _ h => hFc q.1 h)
              have hI := hw.2.2
              have hw0 := hw
              generalize w_136.1 = k_138 at hI hw0
              generalize w_136.2.2 = f_137 at hP hD hI hw0
              generalize H1 = H at hP hS ⊢
              have hkk := hw0.1
              exact W.iret (v := r) hx hb hr (fun t ht hW => ⟨⟨r, (k_138, z_130, f_137), rfl, ⟨hkk, hEz, hI⟩, by rw [ht]; exact hP, hD⟩, hS.F ht⟩) hS.2.2 dX11_notice_66
            ·
              refine lv_iconst (v := (-1)) hx hb dX11_notice_47 (by decide) ?_
              refine W.widen (k := 3) (n := 13) (Nat.le_of_ble_eq_true rfl) (Nat.le_of_ble_eq_true rfl) ?_
              exact W.iret (v := (-1)) hx hb hr (fun t ht hW => ⟨⟨(-1), (k, z, f), rfl, ⟨fun _ _ => rfl, zE_rf z, hI⟩, by rw [ht]; exact hP, hD⟩, hS.F ht⟩) hS.2.2 dX11_notice_48
        ·
          obtain rfl : r = 0 := b_f hw b_104
          refine lv_if_ne (tgt := 29) hx hb dX11_notice_24 (by decide) (fun c_140 => absurd (by decide) c_140) (fun c_140 => ?_)
          refine lv_iconst (v := (-1)) hx hb dX11_notice_27 (by decide) ?_
          refine W.widen (k := 3) (n := 13) (Nat.le_of_ble_eq_true rfl) (Nat.le_of_ble_eq_true rfl) ?_
          exact W.iret (v := (-1)) hx hb hr (fun t ht hW => ⟨⟨(-1), (k, z, f), rfl, ⟨fun _ _ => rfl, zE_rf z, hI⟩, by rw [ht]; exact hP, hD⟩, hS.F ht⟩) hS.2.2 dX11_notice_28
