set_option maxHeartbeats 4000000 in
set_option maxRecDepth 100000 in
theorem x_item (l : Launch) (dC : Nat → ClassId) (dI : Nat → Nat → Nat) (q : Nat → ClassId) (h0 : Nat) (d : Nat → Nat) (k : Nat → Int32) (z : gS) (f : xF) (hI : xI q h0 d k z f) (p0 p1 : Int32) : Met l yX11_item wsX11_item ({ frames := 4, cells := 0, slots := 0, locals := 87 }) (va_Pc [.ref h0, .int p0, .int p1] (PX dC dI (va_pl z.1 f) (xT q))) (vp_Si (fun r => True)) 0 0 (fun _ => False) := by
  refine Met.ofW (cc := cX11_item) (maxL := 5) (ret := (some .int)) (by decide) rfl ?_
  intro p e s m args below meth c s₁ B hml hv
  obtain ⟨rfl, ⟨hP, hK, hN⟩, hXN⟩ := hv
  have hx := B.exec
  have hb := B.bytes
  have hr := B.returns
  have hts := atoms_spec (ws := wsX11_item) B.pre
  have hown : s.vm.findClass RX11 = some m.cls := findClass_of_methodNamed B.named
  have hlocks := B.notSynchronized
  have hl := lv_entry ([.ref h0, .int p0, .int p1]) (n := 5) (Nat.le_of_ble_eq_true rfl)
  rw [lg_entry_eq]
  generalize (lg_sl ([.ref h0, .int p0, .int p1]) ++ List.replicate (5 - (lg_sl ([.ref h0, .int p0, .int p1])).length) Slot.unset).toArray = ls at hl ⊢
  have hl : lv_has ls 5 [(0, .ref h0), (1, .int p0), (2, .int p1)] := hl
  refine lv_aload_n hx hb dX11_item_0 rfl (lv_at hl 0 rfl) ?_
  refine lv_iload_n hx hb dX11_item_1 rfl (lv_at hl 1 rfl) ?_
  obtain ⟨kk_1, hk_2⟩ := pl_at hI.2.1.1.1 hI.2.2.2.1.1
  refine va_csq (va_runV (As := [.int p0]) (rest := []) ⟨hx, hb, hml, hown, hts⟩ (x_itemOf l dC dI q h0 d k z f hI p0) (cwV 1 hts gX11_item_X11_itemOf rfl rfl rfl (by decide +kernel) ⟨Nat.le_of_ble_eq_true rfl, Nat.le_of_ble_eq_true rfl⟩) ⟨px_fb, va_recv hK hP (ci := 10) (q0 := kk_1) rfl hk_2, fun U hU hW => ⟨rfl, px_to hU hW hP hK hN hXN⟩⟩ rfl rfl hl.1 rfl (lv_room (Nat.le_of_ble_eq_true rfl)) dX11_item_2 ⟨Nat.le_of_ble_eq_true rfl, Nat.le_of_ble_eq_true rfl⟩).run (fun r hw => ?_)
  rcases r with _ | b_3
  ·
    refine W.eq (g2 := F0 m 5 ls [.null]) rfl ?_
    refine lv_astore_nN (lv' := [(3, .null), (0, .ref h0), (1, .int p0), (2, .int p1)]) hx hb dX11_item_5 rfl hl (by decide) rfl (fun ls hl => ?_)
    refine lv_aload_nN hx hb dX11_item_6 rfl (lv_at hl 0 rfl) ?_
    refine lv_ifnonnullN hx hb dX11_item_7 ?_
    refine lv_iconst (v := (-1)) hx hb dX11_item_10 (by decide) ?_
    exact W.iret (v := (-1)) hx hb hr (fun t ht hW => ⟨_, rfl, trivial, ht⟩) (fun q h => absurd h List.not_mem_nil) dX11_item_11
  ·
    have ht_4 := hw b_3 rfl
    refine W.eq (g2 := F0 m 5 ls [.ref b_3]) rfl ?_
    refine lv_astore_n (lv' := [(3, .ref b_3), (0, .ref h0), (1, .int p0), (2, .int p1)]) hx hb dX11_item_5 rfl hl (by decide) rfl (fun ls hl => ?_)
    refine lv_aload_n hx hb dX11_item_6 rfl (lv_at hl 0 rfl) ?_
    refine lv_ifnonnull (tgt := 12) hx hb dX11_item_7 (by decide) ?_
    refine lv_iload_n hx hb dX11_item_12 rfl (lv_at hl 3 rfl) ?_
    rcases Classical.em (p1 = 0) with s_5 | s_5
    ·
      subst s_5
      refine lv_tableIn (tgt := 52) (off := 39) hx hb dX11_item_13 (by decide) (by decide) (by decide) (by decide) ?_
      refine lv_aload_n hx hb dX11_item_52 rfl (lv_at hl 0 rfl) ?_
      obtain ⟨nu_6, kd_7, cn_8, pa_9, fa_10, rs_11, hs_12, hs_13, hs_14, hs_15, hs_16⟩ := x_im hI ht_4
      obtain ⟨kk_17, hk_18⟩ := pl_at ht_4.1 hs_12
      refine w_then (F0 m 56 ls [.int kd_7]) (fun hgo => ?_) ?_
      ·
        rcases x_tag ht_4 with ht9 | ht9 | ht9 | ht9 | ht9 | ht9
        ·
          rw [ht9.2] at hk_18
          exact va_get (D := (dC, dI)) (ci := 2) (v := .int kd_7) (C := RX2) (T := TX2) (N := 7) hx hb hts (by decide +kernel) hown hK hP kk_17 hk_18 rfl 1 (by decide) (hts (.fieldLink RX11 250 "PageOne$Item" "kind" "I") (by decide +kernel)) (fun _ h9 => h9) rfl dX11_item_53 hgo
        ·
          rw [ht9.2] at hk_18
          exact va_get (D := (dC, dI)) (ci := 3) (v := .int kd_7) (C := RX3) (T := TX3) (N := 8) hx hb hts (by decide +kernel) hown hK hP kk_17 hk_18 rfl 1 (by decide) (hts (.fieldLink RX11 250 "PageOne$Item" "kind" "I") (by decide +kernel)) (fun _ h9 => h9) rfl dX11_item_53 hgo
        ·
          rw [ht9.2] at hk_18
          exact va_get (D := (dC, dI)) (ci := 4) (v := .int kd_7) (C := RX5) (T := TX5) (N := 7) hx hb hts (by decide +kernel) hown hK hP kk_17 hk_18 rfl 1 (by decide) (hts (.fieldLink RX11 250 "PageOne$Item" "kind" "I") (by decide +kernel)) (fun _ h9 => h9) rfl dX11_item_53 hgo
        ·
          rw [ht9.2] at hk_18
          exact va_get (D := (dC, dI)) (ci := 5) (v := .int kd_7) (C := RX6) (T := TX6) (N := 9) hx hb hts (by decide +kernel) hown hK hP kk_17 hk_18 rfl 1 (by decide) (hts (.fieldLink RX11 250 "PageOne$Item" "kind" "I") (by decide +kernel)) (fun _ h9 => h9) rfl dX11_item_53 hgo
        ·
          rw [ht9.2] at hk_18
          exact va_get (D := (dC, dI)) (ci := 6) (v := .int kd_7) (C := RX7) (T := TX7) (N := 8) hx hb hts (by decide +kernel) hown hK hP kk_17 hk_18 rfl 1 (by decide) (hts (.fieldLink RX11 250 "PageOne$Item" "kind" "I") (by decide +kernel)) (fun _ h9 => h9) rfl dX11_item_53 hgo
        ·
          rw [ht9.2] at hk_18
          exact va_get (D := (dC, dI)) (ci := 9) (v := .int kd_7) (C := RX10) (T := TX10) (N := 9) hx hb hts (by decide +kernel) hown hK hP kk_17 hk_18 rfl 1 (by decide) (hts (.fieldLink RX11 250 "PageOne$Item" "kind" "I") (by decide +kernel)) (fun _ h9 => h9) rfl dX11_item_53 hgo
      ·
        exact W.iret (v := kd_7) hx hb hr (fun t ht hW => ⟨_, rfl, trivial, ht⟩) (fun q h => absurd h List.not_mem_nil) dX11_item_56
    ·
      rcases Classical.em (p1 = 1) with s_19 | s_19
      ·
        subst s_19
        refine lv_tableIn (tgt := 57) (off := 44) hx hb dX11_item_13 (by decide) (by decide) (by decide) (by decide) ?_
        refine lv_aload_n hx hb dX11_item_57 rfl (lv_at hl 0 rfl) ?_
        obtain ⟨nu_20, kd_21, cn_22, pa_23, fa_24, rs_25, hs_26, hs_27, hs_28, hs_29, hs_30⟩ := x_im hI ht_4
        obtain ⟨kk_31, hk_32⟩ := pl_at ht_4.1 hs_26
        refine w_then (F0 m 61 ls [.int cn_22]) (fun hgo => ?_) ?_
        ·
          rcases x_tag ht_4 with ht9 | ht9 | ht9 | ht9 | ht9 | ht9
          ·
            rw [ht9.2] at hk_32
            exact va_get (D := (dC, dI)) (ci := 2) (v := .int cn_22) (C := RX2) (T := TX2) (N := 7) hx hb hts (by decide +kernel) hown hK hP kk_31 hk_32 rfl 3 (by decide) (hts (.fieldLink RX11 170 "PageOne$Item" "count" "I") (by decide +kernel)) (fun _ h9 => h9) rfl dX11_item_58 hgo
          ·
            rw [ht9.2] at hk_32
            exact va_get (D := (dC, dI)) (ci := 3) (v := .int cn_22) (C := RX3) (T := TX3) (N := 8) hx hb hts (by decide +kernel) hown hK hP kk_31 hk_32 rfl 3 (by decide) (hts (.fieldLink RX11 170 "PageOne$Item" "count" "I") (by decide +kernel)) (fun _ h9 => h9) rfl dX11_item_58 hgo
          ·
            rw [ht9.2] at hk_32
            exact va_get (D := (dC, dI)) (ci := 4) (v := .int cn_22) (C := RX5) (T := TX5) (N := 7) hx hb hts (by decide +kernel) hown hK hP kk_31 hk_32 rfl 3 (by decide) (hts (.fieldLink RX11 170 "PageOne$Item" "count" "I") (by decide +kernel)) (fun _ h9 => h9) rfl dX11_item_58 hgo
          ·
            rw [ht9.2] at hk_32
            exact va_get (D := (dC, dI)) (ci := 5) (v := .int cn_22) (C := RX6) (T := TX6) (N := 9) hx hb hts (by decide +kernel) hown hK hP kk_31 hk_32 rfl 3 (by decide) (hts (.fieldLink RX11 170 "PageOne$Item" "count" "I") (by decide +kernel)) (fun _ h9 => h9) rfl dX11_item_58 hgo
          ·
            rw [ht9.2] at hk_32
            exact va_get (D := (dC, dI)) (ci := 6) (v := .int cn_22) (C := RX7) (T := TX7) (N := 8) hx hb hts (by decide +kernel) hown hK hP kk_31 hk_32 rfl 3 (by decide) (hts (.fieldLink RX11 170 "PageOne$Item" "count" "I") (by decide +kernel)) (fun _ h9 => h9) rfl dX11_item_58 hgo
          ·
            rw [ht9.2] at hk_32
            exact va_get (D := (dC, dI)) (ci := 9) (v := .int cn_22) (C := RX10) (T := TX10) (N := 9) hx hb hts (by decide +kernel) hown hK hP kk_31 hk_32 rfl 3 (by decide) (hts (.fieldLink RX11 170 "PageOne$Item" "count" "I") (by decide +kernel)) (fun _ h9 => h9) rfl dX11_item_58 hgo
        ·
          exact W.iret (v := cn_22) hx hb hr (fun t ht hW => ⟨_, rfl, trivial, ht⟩) (fun q h => absurd h List.not_mem_nil) dX11_item_61
      ·
        rcases Classical.em (p1 = 2) with s_33 | s_33
        ·
          subst s_33
          refine lv_tableIn (tgt := 62) (off := 49) hx hb dX11_item_13 (by decide) (by decide) (by decide) (by decide) ?_
          refine lv_aload_n hx hb dX11_item_62 rfl (lv_at hl 0 rfl) ?_
          rcases Classical.em (tg z b_3 15) with ht9 | ht9
          ·
            have ht_34 := ht9
            obtain ⟨nu_36, kd_37, cn_38, pa_39, fa_40, l_41, co_42, wd_43, nm_44, hs_45, hs_46, hs_47, hs_48, hq_49, hq_50, hq_51⟩ := x_ist hI ht_34
            obtain ⟨kk_52, hk_53⟩ := pl_at ht_34.1 hs_45
            refine va_instS hx hb hown (hts (.classLink RX11 66 "PageOne$Story") (by decide +kernel)) (hK.1 9 (RX10, TX10, 9) rfl).2 (va_recv hK hP (ci := 9) (q0 := kk_52) rfl hk_53) dX11_item_63 ?_
            refine lv_if_eq (tgt := 83) hx hb dX11_item_66 (by decide) (fun c_54 => absurd c_54 (by decide)) (fun c_54 => ?_)
            refine lv_aload_n hx hb dX11_item_69 rfl (lv_at hl 0 rfl) ?_
            obtain ⟨kk_55, hk_56⟩ := pl_at ht_34.1 hs_45
            refine va_castS hx hb hown (hts (.classLink RX11 66 "PageOne$Story") (by decide +kernel)) (hK.1 9 (RX10, TX10, 9) rfl).2 (va_recv hK hP (ci := 9) (q0 := kk_55) rfl hk_56) dX11_item_70 ?_
            refine lv_astore (lv' := [(4, .ref b_3), (3, .ref b_3), (0, .ref h0), (1, .int p0), (2, .int 2)]) hx hb dX11_item_73 hl (by decide) rfl (fun ls hl => ?_)
            refine lv_aload hx hb dX11_item_75 (lv_at hl 0 rfl) ?_
            obtain ⟨kk_57, hk_58⟩ := pl_at ht_34.1 hs_45
            refine va_get (D := (dC, dI)) (ci := 9) (v := .int co_42) (C := RX10) (T := TX10) (N := 9) hx hb hts (by decide +kernel) hown hK hP kk_57 hk_58 rfl 7 (by decide) (hts (.fieldLink RX11 251 "PageOne$Story" "come" "I") (by decide +kernel)) (fun _ h9 => h9) rfl dX11_item_77 ?_
            refine lv_goto (tgt := 84) hx hb dX11_item_80 (by decide) ?_
            exact W.iret (v := co_42) hx hb hr (fun t ht hW => ⟨_, rfl, trivial, ht⟩) (fun q h => absurd h List.not_mem_nil) dX11_item_84
          ·
            have hn_35 := ht9
            refine w_then (F0 m 66 ls [.int 0]) (fun hgo => ?_) ?_
            ·
              rcases x_tag ht_4 with ht8 | ht8 | ht8 | ht8 | ht8 | ht8
              ·
                obtain ⟨nu_59, kd_60, cn_61, pa_62, fa_63, l_64, m_65, hs_66, hs_67, hs_68, hs_69⟩ := x_ifl hI ht8
                obtain ⟨kk_70, hk_71⟩ := pl_at ht8.1 hs_66
                exact va_instNo hx hb hown (hts (.classLink RX11 66 "PageOne$Story") (by decide +kernel)) hXN.n_X2_X10 (va_recv hK hP (ci := 2) (q0 := kk_70) rfl hk_71) dX11_item_63 hgo
              ·
                obtain ⟨nu_72, kd_73, cn_74, pa_75, fa_76, o_77, w_78, y_79, hs_80, hs_81, hs_82, hs_83, hq_84⟩ := x_ihd hI ht8
                obtain ⟨kk_85, hk_86⟩ := pl_at ht8.1 hs_80
                exact va_instNo hx hb hown (hts (.classLink RX11 66 "PageOne$Story") (by decide +kernel)) hXN.n_X3_X10 (va_recv hK hP (ci := 3) (q0 := kk_85) rfl hk_86) dX11_item_63 hgo
              ·
                obtain ⟨nu_87, kd_88, cn_89, pa_90, fa_91, o_92, y_93, hs_94, hs_95, hs_96, hs_97, hq_98⟩ := x_ino hI ht8
                obtain ⟨kk_99, hk_100⟩ := pl_at ht8.1 hs_94
                exact va_instNo hx hb hown (hts (.classLink RX11 66 "PageOne$Story") (by decide +kernel)) hXN.n_X5_X10 (va_recv hK hP (ci := 4) (q0 := kk_99) rfl hk_100) dX11_item_63 hgo
              ·
                obtain ⟨nu_101, kd_102, cn_103, pa_104, fa_105, b_106, pr_107, sp_108, dy_109, hs_110, hs_111, hs_112, hs_113, hq_114, hq_115, hq_116⟩ := x_ipd hI ht8
                obtain ⟨kk_117, hk_118⟩ := pl_at ht8.1 hs_110
                exact va_instNo hx hb hown (hts (.classLink RX11 66 "PageOne$Story") (by decide +kernel)) hXN.n_X6_X10 (va_recv hK hP (ci := 5) (q0 := kk_117) rfl hk_118) dX11_item_63 hgo
              ·
                obtain ⟨nu_119, kd_120, cn_121, pa_122, fa_123, ww_124, hh_125, sz_126, hs_127, hs_128, hs_129, hs_130, hq_131, hq_132, hq_133⟩ := x_ipi hI ht8
                obtain ⟨kk_134, hk_135⟩ := pl_at ht8.1 hs_127
                exact va_instNo hx hb hown (hts (.classLink RX11 66 "PageOne$Story") (by decide +kernel)) hXN.n_X7_X10 (va_recv hK hP (ci := 6) (q0 := kk_134) rfl hk_135) dX11_item_63 hgo
              ·
                exact absurd ht8 ht9
            ·
              refine lv_if_eq (tgt := 83) hx hb dX11_item_66 (by decide) (fun c_136 => ?_) (fun c_136 => absurd (by decide) c_136)
              refine lv_iconst (v := (-1)) hx hb dX11_item_83 (by decide) ?_
              exact W.iret (v := (-1)) hx hb hr (fun t ht hW => ⟨_, rfl, trivial, ht⟩) (fun q h => absurd h List.not_mem_nil) dX11_item_84
        ·
          rcases Classical.em (p1 = 3) with s_137 | s_137
          ·
            subst s_137
            refine lv_tableIn (tgt := 85) (off := 72) hx hb dX11_item_13 (by decide) (by decide) (by decide) (by decide) ?_
            refine lv_aload_n hx hb dX11_item_85 rfl (lv_at hl 0 rfl) ?_
            rcases Classical.em (tg z b_3 15) with ht9 | ht9
            ·
              have ht_138 := ht9
              obtain ⟨nu_140, kd_141, cn_142, pa_143, fa_144, l_145, co_146, wd_147, nm_148, hs_149, hs_150, hs_151, hs_152, hq_153, hq_154, hq_155⟩ := x_ist hI ht_138
              obtain ⟨kk_156, hk_157⟩ := pl_at ht_138.1 hs_149
              refine va_instS hx hb hown (hts (.classLink RX11 66 "PageOne$Story") (by decide +kernel)) (hK.1 9 (RX10, TX10, 9) rfl).2 (va_recv hK hP (ci := 9) (q0 := kk_156) rfl hk_157) dX11_item_86 ?_
              refine lv_if_eq (tgt := 106) hx hb dX11_item_89 (by decide) (fun c_158 => absurd c_158 (by decide)) (fun c_158 => ?_)
              refine lv_aload_n hx hb dX11_item_92 rfl (lv_at hl 0 rfl) ?_
              obtain ⟨kk_159, hk_160⟩ := pl_at ht_138.1 hs_149
              refine va_castS hx hb hown (hts (.classLink RX11 66 "PageOne$Story") (by decide +kernel)) (hK.1 9 (RX10, TX10, 9) rfl).2 (va_recv hK hP (ci := 9) (q0 := kk_159) rfl hk_160) dX11_item_93 ?_
              refine lv_astore (lv' := [(4, .ref b_3), (3, .ref b_3), (0, .ref h0), (1, .int p0), (2, .int 3)]) hx hb dX11_item_96 hl (by decide) rfl (fun ls hl => ?_)
              refine lv_aload hx hb dX11_item_98 (lv_at hl 0 rfl) ?_
              obtain ⟨kk_161, hk_162⟩ := pl_at ht_138.1 hs_149
              refine vp_callSi (va_runV (As := []) (rest := []) ⟨hx, hb, hml, hown, hts⟩ (x_standing l dC dI q h0 d k z f hI b_3 ht_138) (cwV 0 hts gX11_item_X10_standing rfl rfl rfl (by decide +kernel) ⟨Nat.le_of_ble_eq_true rfl, Nat.le_of_ble_eq_true rfl⟩) ⟨px_fb, va_recv hK hP (ci := 9) (q0 := kk_161) rfl hk_162, fun U hU hW => ⟨rfl, px_to hU hW hP hK hN hXN⟩⟩ rfl rfl hl.1 rfl (lv_room (Nat.le_of_ble_eq_true rfl)) dX11_item_100 ⟨Nat.le_of_ble_eq_true rfl, Nat.le_of_ble_eq_true rfl⟩).run (fun r hw => ?_)
              generalize r = zr_163 at hw ⊢
              have hzr_163 := hw
              refine lv_goto (tgt := 107) hx hb dX11_item_103 (by decide) ?_
              exact W.iret (v := zr_163) hx hb hr (fun t ht hW => ⟨_, rfl, trivial, ht⟩) (fun q h => absurd h List.not_mem_nil) dX11_item_107
            ·
              have hn_139 := ht9
              refine w_then (F0 m 89 ls [.int 0]) (fun hgo => ?_) ?_
              ·
                rcases x_tag ht_4 with ht8 | ht8 | ht8 | ht8 | ht8 | ht8
                ·
                  obtain ⟨nu_164, kd_165, cn_166, pa_167, fa_168, l_169, m_170, hs_171, hs_172, hs_173, hs_174⟩ := x_ifl hI ht8
                  obtain ⟨kk_175, hk_176⟩ := pl_at ht8.1 hs_171
                  exact va_instNo hx hb hown (hts (.classLink RX11 66 "PageOne$Story") (by decide +kernel)) hXN.n_X2_X10 (va_recv hK hP (ci := 2) (q0 := kk_175) rfl hk_176) dX11_item_86 hgo
                ·
                  obtain ⟨nu_177, kd_178, cn_179, pa_180, fa_181, o_182, w_183, y_184, hs_185, hs_186, hs_187, hs_188, hq_189⟩ := x_ihd hI ht8
                  obtain ⟨kk_190, hk_191⟩ := pl_at ht8.1 hs_185
                  exact va_instNo hx hb hown (hts (.classLink RX11 66 "PageOne$Story") (by decide +kernel)) hXN.n_X3_X10 (va_recv hK hP (ci := 3) (q0 := kk_190) rfl hk_191) dX11_item_86 hgo
                ·
                  obtain ⟨nu_192, kd_193, cn_194, pa_195, fa_196, o_197, y_198, hs_199, hs_200, hs_201, hs_202, hq_203⟩ := x_ino hI ht8
                  obtain ⟨kk_204, hk_205⟩ := pl_at ht8.1 hs_199
                  exact va_instNo hx hb hown (hts (.classLink RX11 66 "PageOne$Story") (by decide +kernel)) hXN.n_X5_X10 (va_recv hK hP (ci := 4) (q0 := kk_204) rfl hk_205) dX11_item_86 hgo
                ·
                  obtain ⟨nu_206, kd_207, cn_208, pa_209, fa_210, b_211, pr_212, sp_213, dy_214, hs_215, hs_216, hs_217, hs_218, hq_219, hq_220, hq_221⟩ := x_ipd hI ht8
                  obtain ⟨kk_222, hk_223⟩ := pl_at ht8.1 hs_215
                  exact va_instNo hx hb hown (hts (.classLink RX11 66 "PageOne$Story") (by decide +kernel)) hXN.n_X6_X10 (va_recv hK hP (ci := 5) (q0 := kk_222) rfl hk_223) dX11_item_86 hgo
                ·
                  obtain ⟨nu_224, kd_225, cn_226, pa_227, fa_228, ww_229, hh_230, sz_231, hs_232, hs_233, hs_234, hs_235, hq_236, hq_237, hq_238⟩ := x_ipi hI ht8
                  obtain ⟨kk_239, hk_240⟩ := pl_at ht8.1 hs_232
                  exact va_instNo hx hb hown (hts (.classLink RX11 66 "PageOne$Story") (by decide +kernel)) hXN.n_X7_X10 (va_recv hK hP (ci := 6) (q0 := kk_239) rfl hk_240) dX11_item_86 hgo
                ·
                  exact absurd ht8 ht9
              ·
                refine lv_if_eq (tgt := 106) hx hb dX11_item_89 (by decide) (fun c_241 => ?_) (fun c_241 => absurd (by decide) c_241)
                refine lv_iconst (v := (-1)) hx hb dX11_item_106 (by decide) ?_
                exact W.iret (v := (-1)) hx hb hr (fun t ht hW => ⟨_, rfl, trivial, ht⟩) (fun q h => absurd h List.not_mem_nil) dX11_item_107
          ·
            rcases Classical.em (p1 = 4) with s_242 | s_242
            ·
              subst s_242
              refine lv_tableIn (tgt := 108) (off := 95) hx hb dX11_item_13 (by decide) (by decide) (by decide) (by decide) ?_
              refine lv_aload_n hx hb dX11_item_108 rfl (lv_at hl 1 rfl) ?_
              refine lv_aload_n hx hb dX11_item_109 rfl (lv_at hl 0 rfl) ?_
              obtain ⟨kk_243, hk_244⟩ := pl_at hI.2.1.1.1 hI.2.2.2.1.1
              refine vp_callSi (va_runV (As := [.ref b_3]) (rest := []) ⟨hx, hb, hml, hown, hts⟩ (x_ownerOf l dC dI q h0 d k z f hI b_3 ht_4) (cwV 1 hts gX11_item_X11_ownerOf rfl rfl rfl (by decide +kernel) ⟨Nat.le_of_ble_eq_true rfl, Nat.le_of_ble_eq_true rfl⟩) ⟨px_fb, va_recv hK hP (ci := 10) (q0 := kk_243) rfl hk_244, fun U hU hW => ⟨rfl, px_to hU hW hP hK hN hXN⟩⟩ rfl rfl hl.1 rfl (lv_room (Nat.le_of_ble_eq_true rfl)) dX11_item_110 ⟨Nat.le_of_ble_eq_true rfl, Nat.le_of_ble_eq_true rfl⟩).run (fun r hw => ?_)
              generalize r = zr_245 at hw ⊢
              have hzr_245 := hw
              exact W.iret (v := zr_245) hx hb hr (fun t ht hW => ⟨_, rfl, trivial, ht⟩) (fun q h => absurd h List.not_mem_nil) dX11_item_113
            ·
              rcases Classical.em (p1 = 5) with s_246 | s_246
              ·
                subst s_246
                refine lv_tableIn (tgt := 114) (off := 101) hx hb dX11_item_13 (by decide) (by decide) (by decide) (by decide) ?_
                refine lv_aload_n hx hb dX11_item_114 rfl (lv_at hl 0 rfl) ?_
                rcases Classical.em (tg z b_3 13) with ht9 | ht9
                ·
                  have ht_247 := ht9
                  obtain ⟨nu_249, kd_250, cn_251, pa_252, fa_253, b_254, pr_255, sp_256, dy_257, hs_258, hs_259, hs_260, hs_261, hq_262, hq_263, hq_264⟩ := x_ipd hI ht_247
                  obtain ⟨kk_265, hk_266⟩ := pl_at ht_247.1 hs_258
                  refine va_instS hx hb hown (hts (.classLink RX11 104 "PageOne$Paid") (by decide +kernel)) (hK.1 5 (RX6, TX6, 9) rfl).2 (va_recv hK hP (ci := 5) (q0 := kk_265) rfl hk_266) dX11_item_115 ?_
                  refine lv_if_eq (tgt := 135) hx hb dX11_item_118 (by decide) (fun c_267 => absurd c_267 (by decide)) (fun c_267 => ?_)
                  refine lv_aload_n hx hb dX11_item_121 rfl (lv_at hl 0 rfl) ?_
                  obtain ⟨kk_268, hk_269⟩ := pl_at ht_247.1 hs_258
                  refine va_castS hx hb hown (hts (.classLink RX11 104 "PageOne$Paid") (by decide +kernel)) (hK.1 5 (RX6, TX6, 9) rfl).2 (va_recv hK hP (ci := 5) (q0 := kk_268) rfl hk_269) dX11_item_122 ?_
                  refine lv_astore (lv' := [(4, .ref b_3), (3, .ref b_3), (0, .ref h0), (1, .int p0), (2, .int 5)]) hx hb dX11_item_125 hl (by decide) rfl (fun ls hl => ?_)
                  refine lv_aload hx hb dX11_item_127 (lv_at hl 0 rfl) ?_
                  obtain ⟨kk_270, hk_271⟩ := pl_at ht_247.1 hs_258
                  refine va_get (D := (dC, dI)) (ci := 5) (v := .int b_254) (C := RX6) (T := TX6) (N := 9) hx hb hts (by decide +kernel) hown hK hP kk_270 hk_271 rfl 5 (by decide) (hts (.fieldLink RX11 260 "PageOne$Paid" "buyer" "I") (by decide +kernel)) (fun _ h9 => h9) rfl dX11_item_129 ?_
                  refine lv_goto (tgt := 136) hx hb dX11_item_132 (by decide) ?_
                  exact W.iret (v := b_254) hx hb hr (fun t ht hW => ⟨_, rfl, trivial, ht⟩) (fun q h => absurd h List.not_mem_nil) dX11_item_136
                ·
                  have hn_248 := ht9
                  refine w_then (F0 m 118 ls [.int 0]) (fun hgo => ?_) ?_
                  ·
                    rcases x_tag ht_4 with ht8 | ht8 | ht8 | ht8 | ht8 | ht8
                    ·
                      obtain ⟨nu_272, kd_273, cn_274, pa_275, fa_276, l_277, m_278, hs_279, hs_280, hs_281, hs_282⟩ := x_ifl hI ht8
                      obtain ⟨kk_283, hk_284⟩ := pl_at ht8.1 hs_279
                      exact va_instNo hx hb hown (hts (.classLink RX11 104 "PageOne$Paid") (by decide +kernel)) hXN.n_X2_X6 (va_recv hK hP (ci := 2) (q0 := kk_283) rfl hk_284) dX11_item_115 hgo
                    ·
                      obtain ⟨nu_285, kd_286, cn_287, pa_288, fa_289, o_290, w_291, y_292, hs_293, hs_294, hs_295, hs_296, hq_297⟩ := x_ihd hI ht8
                      obtain ⟨kk_298, hk_299⟩ := pl_at ht8.1 hs_293
                      exact va_instNo hx hb hown (hts (.classLink RX11 104 "PageOne$Paid") (by decide +kernel)) hXN.n_X3_X6 (va_recv hK hP (ci := 3) (q0 := kk_298) rfl hk_299) dX11_item_115 hgo
                    ·
                      obtain ⟨nu_300, kd_301, cn_302, pa_303, fa_304, o_305, y_306, hs_307, hs_308, hs_309, hs_310, hq_311⟩ := x_ino hI ht8
                      obtain ⟨kk_312, hk_313⟩ := pl_at ht8.1 hs_307
                      exact va_instNo hx hb hown (hts (.classLink RX11 104 "PageOne$Paid") (by decide +kernel)) hXN.n_X5_X6 (va_recv hK hP (ci := 4) (q0 := kk_312) rfl hk_313) dX11_item_115 hgo
                    ·
                      exact absurd ht8 ht9
                    ·
                      obtain ⟨nu_314, kd_315, cn_316, pa_317, fa_318, ww_319, hh_320, sz_321, hs_322, hs_323, hs_324, hs_325, hq_326, hq_327, hq_328⟩ := x_ipi hI ht8
                      obtain ⟨kk_329, hk_330⟩ := pl_at ht8.1 hs_322
                      exact va_instNo hx hb hown (hts (.classLink RX11 104 "PageOne$Paid") (by decide +kernel)) hXN.n_X7_X6 (va_recv hK hP (ci := 6) (q0 := kk_329) rfl hk_330) dX11_item_115 hgo
                    ·
                      obtain ⟨nu_331, kd_332, cn_333, pa_334, fa_335, l_336, co_337, wd_338, nm_339, hs_340, hs_341, hs_342, hs_343, hq_344, hq_345, hq_346⟩ := x_ist hI ht8
                      obtain ⟨kk_347, hk_348⟩ := pl_at ht8.1 hs_340
                      exact va_instNo hx hb hown (hts (.classLink RX11 104 "PageOne$Paid") (by decide +kernel)) hXN.n_X10_X6 (va_recv hK hP (ci := 9) (q0 := kk_347) rfl hk_348) dX11_item_115 hgo
                  ·
                    refine lv_if_eq (tgt := 135) hx hb dX11_item_118 (by decide) (fun c_349 => ?_) (fun c_349 => absurd (by decide) c_349)
                    refine lv_iconst (v := (-1)) hx hb dX11_item_135 (by decide) ?_
                    exact W.iret (v := (-1)) hx hb hr (fun t ht hW => ⟨_, rfl, trivial, ht⟩) (fun q h => absurd h List.not_mem_nil) dX11_item_136
              ·
                refine lv_tableOut (tgt := 137) hx hb dX11_item_13 (sw_out5 s_5 s_19 s_33 s_137 s_242 s_246) (by decide) ?_
                refine lv_iconst (v := (-1)) hx hb dX11_item_137 (by decide) ?_
                exact W.iret (v := (-1)) hx hb hr (fun t ht hW => ⟨_, rfl, trivial, ht⟩) (fun q h => absurd h List.not_mem_nil) dX11_item_138
theorem zE_o {z w : gS} (h : zE z w) {a : Nat} (ha : a ∈ z.1) : w.2 a = z.2 a := (h a ha).2
theorem wR_mono {q : Nat → ClassId} {c n : Nat} {P P2 : Nat → Prop} {e : va_E} (hP : ∀ b, P b → P2 b) (h : wR q c n P e) : wR q c n P2 e := by
  obtain ⟨g, e1, e2⟩ := h
  exact ⟨g, e1, fun j hj b hb => hP b (e2 j hj b hb)⟩
theorem rsT_mono {z w : gS} (h : zE z w) {t : Nat} {rest : List Value} (hr : rsT z t rest) : rsT w t rest := by
  obtain ⟨a1, a2, a3, a4, a5, a6⟩ := hr
  refine ⟨a1, fun e => ?_, fun e => ?_, fun e => ?_, fun e => ?_, fun e => ?_⟩
  · obtain ⟨o, x, y, b1, b2⟩ := a2 e
    exact ⟨o, x, y, b1, zE_tg h b2⟩
  · obtain ⟨o, y, b1, b2⟩ := a3 e
    exact ⟨o, y, b1, zE_itm h b2⟩
  · obtain ⟨b, pr, sp, dy, b1, b2, b3, b4⟩ := a4 e
    exact ⟨b, pr, sp, dy, b1, b2, zE_lg h b3, zE_tg h b4⟩
  · obtain ⟨ww, hh, sz, b1, b2, b3, b4⟩ := a5 e
    exact ⟨ww, hh, sz, b1, zE_tg h b2, zE_tg h b3, b4⟩
  · obtain ⟨l, co, wd, nm, b1, b2, b3, b4⟩ := a6 e
    exact ⟨l, co, wd, nm, b1, zE_tg h b2, b3, zE_tg h b4⟩
theorem cO_mono {q : Nat → ClassId} {z w : gS} (h : zE z w) {a : Nat} (ha : a ∈ z.1) {e : va_E} (hc : cO q z a e) : cO q w a e := by
  have ea := zE_o h ha
  obtain ⟨c2, c3, c4, c5, c6, c7, c8, c9, cI, c16, c17, c18, c19, c20, c21, c22, c23⟩ := hc
  unfold cO
  rw [ea]
  refine ⟨fun x => ?_, fun x => wR_mono (fun b hb => zE_tg h hb) (c3 x), fun x => wR_mono (fun b hb => zE_itm h hb) (c4 x), fun x => wR_mono (fun b hb => zE_tg h hb) (c5 x), c6, fun x => ?_, c8, c9, fun x y => ?_, fun x => ?_, c17, c18, c19, c20, c21, fun x => ?_, fun x => ?_⟩
  · obtain ⟨g, e1, e2⟩ := c2 x
    exact ⟨g, e1, fun j hj => by obtain ⟨b, b1, b2⟩ := e2 j hj; exact ⟨b, b1, zE_tg h b2⟩⟩
  · obtain ⟨la, ca, m, d, i, e1, e2, e3⟩ := c7 x
    exact ⟨la, ca, m, d, i, e1, zE_tg h e2, zE_tg h e3⟩
  · obtain ⟨nu, kd, cn, pa, fa, rest, e1, e2, e3, e4, e5⟩ := cI x y
    exact ⟨nu, kd, cn, pa, fa, rest, by rw [ea]; exact e1, zE_tg h e2, by rw [zE_o h e2.1]; exact e3, zE_tg h e4, by rw [ea]; exact rsT_mono h e5⟩
  · obtain ⟨n, n1, n6, hr⟩ := c16 x
    exact ⟨n, n1, n6, wR_mono (fun b hb => zE_lg h hb) hr⟩
  · obtain ⟨e0, it, P, X, Y, D, N, e1, e2, e3⟩ := c22 x
    exact ⟨by rw [ea]; exact e0, it, P, X, Y, D, N, by rw [ea]; exact e1, e2, fun b hb => zE_itm h (e3 b hb)⟩
  · obtain ⟨e0, p, l, n, ah, e1, e2, e3⟩ := c23 x
    exact ⟨by rw [ea]; exact e0, p, l, n, ah, by rw [ea]; exact e1, zE_lg h e2, fun b hb => by obtain ⟨q1, q2⟩ := e3 b hb; exact ⟨zE_tg h q1, by rw [ea, zE_o h q1.1]; exact q2⟩⟩
/-- one more lies there -/
def pz (z : gS) (a : Nat) (x : Nat × Nat × List Value) : gS := (z.1 ++ [a], fun b => if b = a then x else z.2 b)
theorem pz_s (z : gS) (a : Nat) (x : Nat × Nat × List Value) : (pz z a x).2 a = x := if_pos rfl
theorem pz_o {z : gS} {a b : Nat} {x : Nat × Nat × List Value} (h : b ≠ a) : (pz z a x).2 b = z.2 b := if_neg h
theorem pz_m (z : gS) (a : Nat) (x : Nat × Nat × List Value) : a ∈ (pz z a x).1 := List.mem_append_right _ List.mem_cons_self
theorem pz_t (z : gS) (a : Nat) (x : Nat × Nat × List Value) : tg (pz z a x) a x.1 := ⟨pz_m z a x, by rw [pz_s]⟩
theorem pz_E {z : gS} {a : Nat} (ha : a ∉ z.1) (x : Nat × Nat × List Value) : zE z (pz z a x) := fun b hb => ⟨List.mem_append_left _ hb, pz_o (fun e => ha (by rw [← e]; exact hb))⟩
theorem x_push {q h0 d k z f} (h : xI q h0 d k z f) {a : Nat} (ha : a ∉ z.1) {x : Nat × Nat × List Value} {e : va_E} (hx : x.1 < 10 ∨ 15 < x.1) (he : cO q (pz z a x) a e) : xI q h0 d k (pz z a x) (va_up f a e) := by
  obtain ⟨h1, h2, h3, ⟨g1, gi, g2i, g3⟩, h5⟩ := h
  have hE := pz_E ha x
  have hne : ∀ {b : Nat}, b ∈ z.1 → b ≠ a := fun hb e => ha (by rw [← e]; exact hb)
  refine ⟨h1, ⟨zE_tg hE h2.1, zE_tg hE h2.2.1, zE_tg hE h2.2.2.1, zE_tg hE h2.2.2.2.1, zE_tg hE h2.2.2.2.2.1, zE_tg hE h2.2.2.2.2.2⟩, fun b hb => ?_, ⟨by rw [up_o (hne h2.1.1)]; exact g1, gi, by rw [up_o (hne h2.2.2.2.1.1)]; exact g2i, g3⟩, ?_⟩
  · rcases List.mem_append.mp hb with hb | hb
    · rw [up_o (hne hb)]; exact cO_mono hE hb (h3 b hb)
    · have e1 : b = a := by simpa using hb
      rw [e1, up_s]; exact he
  · intro b hb nu kd cn pa fa rest hf
    have hba : b ≠ a := fun e1 => by have := hb.2; rw [e1, pz_s] at this; omega
    have hbz : b ∈ z.1 := by
      rcases List.mem_append.mp hb.1 with y | y
      · exact y
      · exact absurd (by simpa using y) hba
    rw [up_o hba, pz_o hba] at hf
    have hbi : itm z b := ⟨hbz, by have := hb.2; rw [pz_o hba] at this; exact this⟩
    obtain ⟨n, g, r1, r2⟩ := h5 b hbi nu kd cn pa fa rest hf
    obtain ⟨nu2, kd2, cn2, pa2, fa2, rest2, e1, e2, -⟩ := (h3 b hbz).2.2.2.2.2.2.2.2.1 hbi.2.1 hbi.2.2
    obtain ⟨-, -, e3, -⟩ := itF_inj (hf.symm.trans e1)
    rw [← e3] at e2
    exact ⟨n, g, by rw [up_o (hne e2.1)]; exact r1, r2⟩
/-- the new cell ahead of the pool, and into it -/
theorem vaP_swap {D : va_G} {cl : List vw_C} {w1 w2 : va_W} {H : Heap} (h : va_P D cl (w1 ++ w2) H) : va_P D cl (w2 ++ w1) H := by
  intro k q hk
  rcases List.mem_append.mp (List.mem_of_getElem? hk) with y | y
  · obtain ⟨i, hi⟩ := List.getElem?_of_mem (List.mem_append_right w1 y)
    exact h i q hi
  · obtain ⟨i, hi⟩ := List.getElem?_of_mem (List.mem_append_left w2 y)
    exact h i q hi
theorem vaP_r {D : va_G} {cl : List vw_C} {w1 w2 : va_W} {H : Heap} (h : va_P D cl (w1 ++ w2) H) : va_P D cl w2 H := by
  intro k q hk
  obtain ⟨i, hi⟩ := List.getElem?_of_mem (List.mem_append_right w1 (List.mem_of_getElem? hk))
  exact h i q hi
theorem vaP_l {D : va_G} {cl : List vw_C} {w1 w2 : va_W} {H : Heap} (h : va_P D cl (w1 ++ w2) H) : va_P D cl w1 H := by
  intro k q hk
  obtain ⟨i, hi⟩ := List.getElem?_of_mem (List.mem_append_left w2 (List.mem_of_getElem? hk))
  exact h i q hi
theorem vaD_rot {A : Nat → Prop} {c : Nat × va_E} {r : va_W} (h : va_D A (c :: r)) : va_D A (r ++ [c]) := by
  refine va_D.by h (fun k => if k < r.length then k + 1 else 0) (fun k q hk => ?_) (fun i j hi hj hij => ?_)
  · by_cases e : k < r.length
    · rw [if_pos e, List.getElem?_cons_succ]
      rw [List.getElem?_append_left e] at hk; exact hk
    · rw [if_neg e]
      rw [List.getElem?_append_right (by omega)] at hk
      have hz : k - r.length < 1 := (List.getElem?_eq_some_iff.mp hk).1
      rw [show k - r.length = 0 by omega] at hk
      exact hk
  · simp only [List.length_append, List.length_cons, List.length_nil] at hi hj
    by_cases e1 : i < r.length
    · rw [if_pos e1] at hij
      by_cases e2 : j < r.length
      · rw [if_pos e2] at hij; omega
      · rw [if_neg e2] at hij; omega
    · rw [if_neg e1] at hij
      by_cases e2 : j < r.length
      · rw [if_pos e2] at hij; omega
      · omega
theorem vaD_rotR {A : Nat → Prop} {c : Nat × va_E} {r : va_W} (h : va_D A (r ++ [c])) : va_D A (c :: r) := by
  refine va_D.by h (fun k => if k = 0 then r.length else k - 1) (fun k q hk => ?_) (fun i j hi hj hij => ?_)
  · by_cases e : k = 0
    · rw [if_pos e, List.getElem?_append_right (Nat.le_refl _), Nat.sub_self]
      rw [e] at hk; exact hk
    · rw [if_neg e]
      obtain ⟨m, rfl⟩ : ∃ m, k = m + 1 := ⟨k - 1, by omega⟩
      rw [List.getElem?_cons_succ] at hk
      have hm : m < r.length := (List.getElem?_eq_some_iff.mp hk).1
      rw [Nat.add_sub_cancel, List.getElem?_append_left hm]; exact hk
  · simp only [List.length_cons] at hi hj
    by_cases e1 : i = 0
    · rw [if_pos e1] at hij
      by_cases e2 : j = 0
      · omega
      · rw [if_neg e2] at hij; omega
    · rw [if_neg e1] at hij
      by_cases e2 : j = 0
      · rw [if_pos e2] at hij; omega
      · rw [if_neg e2] at hij; omega
theorem pushC {A : Nat → Prop} {D : va_G} {cl : List vw_C} {H : Heap} {q : Nat} {e : va_E} {cs : va_W} {L : List Nat} {f : xF} (hP : va_P D cl ((q, e) :: (cs ++ va_pl L f)) H) (hD : va_D A ((q, e) :: (cs ++ va_pl L f))) : q ∉ L ∧ va_P D cl (cs ++ va_pl (L ++ [q]) (va_up f q e)) H ∧ va_D A (cs ++ va_pl (L ++ [q]) (va_up f q e)) := by
  have hq : q ∉ L := fun hm => by
    obtain ⟨k, hk⟩ := va_pl_get (X := cs) (f := f) hm
    have h1 : ((q, e) :: (cs ++ va_pl L f))[k + 1]? = some (q, f q) := by rw [List.getElem?_cons_succ]; exact hk
    have h2 := hD.1 0 (k + 1) (q, e) (q, f q) rfl h1 rfl
    omega
  have e1 : cs ++ va_pl (L ++ [q]) (va_up f q e) = (cs ++ va_pl L f) ++ [(q, e)] := by rw [← va_pl_push hq, List.append_assoc]
  refine ⟨hq, ?_, ?_⟩
  · rw [e1]; exact vaP_swap (w1 := [(q, e)]) hP
  · rw [e1]; exact vaD_rot hD
theorem fr_part {A : Nat → Prop} {w1 w2 : va_W} {H0 H : Heap} {locs : List Loc} (hD : va_D A (w1 ++ w2)) (hS : va_S A H0 H locs) (hA : ∀ q, H0.size ≤ q → A q) : ∀ q, va_A w2 H.size q → A q := by
  intro q h
  rcases h with ⟨k, e, hk⟩ | h
  · obtain ⟨i, hi⟩ := List.getElem?_of_mem (List.mem_append_right w1 (List.mem_of_getElem? hk))
    exact hD.2 i _ hi
  · exact hA q (Nat.le_trans hS.1 h)
theorem vaD_r {A : Nat → Prop} {w1 w2 : va_W} (h : va_D A (w1 ++ w2)) : va_D A w2 := by
  refine va_D.by h (fun k => w1.length + k) (fun k q hk => ?_) (fun i j hi hj hij => by omega)
  rw [List.getElem?_append_right (by omega), Nat.add_sub_cancel_left]; exact hk
set_option maxHeartbeats 4000000 in
set_option maxRecDepth 100000 in
theorem x_PieceN (l : Launch) (dC : Nat → ClassId) (dI : Nat → Nat → Nat) (h0 : Nat) (p0 p1 p2 p3 p4 : Int32) (sz : Nat) : Met l yX8_init wsX8_init ({ frames := 1, cells := 0, slots := 0, locals := 12 }) (va_Pc [.ref h0, .null, .int p0, .int p1, .int p2, .int p3, .int p4] (fun U => U.heap.size = sz ∧ PW dC dI [(h0, .inr (7, [.null, .int 0, .int 0, .int 0, .int 0, .int 0]))] [] U ∧ va_D (fun _ => True) [(h0, .inr (7, [.null, .int 0, .int 0, .int 0, .int 0, .int 0]))])) (va_Qv (fun _ : Unit => True) (fun _ t => va_P (dC, dI) vwCl [(h0, .inr (7, [.null, .int p0, .int p1, .int p2, .int p3, .int p4]))] t.heap ∧ va_D (va_A [(h0, .inr (7, [.null, .int 0, .int 0, .int 0, .int 0, .int 0]))] sz) [(h0, .inr (7, [.null, .int p0, .int p1, .int p2, .int p3, .int p4]))]) (va_A [(h0, .inr (7, [.null, .int 0, .int 0, .int 0, .int 0, .int 0]))] sz)) 0 0 (va_A [(h0, .inr (7, [.null, .int 0, .int 0, .int 0, .int 0, .int 0]))] sz) := by
  refine Met.ofW (cc := cX8_init) (maxL := 7) (ret := none) (by decide) rfl ?_
  intro p e s m args below meth c s₁ B hml hv
  obtain ⟨rfl, hsz, ⟨hP, hK, hN⟩, hD0⟩ := hv
  have hx := B.exec
  have hb := B.bytes
  have hr := B.returns
  have hts := atoms_spec (ws := wsX8_init) B.pre
  have hown : s.vm.findClass RX8 = some m.cls := findClass_of_methodNamed B.named
  have hlocks := B.notSynchronized
  have hin : meth.name = "<init>" := (name_of_methodNamed B.named B.method).1
  subst hsz
  have hD := hD0.self (sz := s.heap.size)
  generalize hAe : va_A [(h0, .inr (7, [.null, .int 0, .int 0, .int 0, .int 0, .int 0]))] s.heap.size = A at hD ⊢
  have hA : ∀ q : Nat, s.heap.size ≤ q → A q := fun q h => by rw [← hAe]; exact Or.inr h
  have hS : va_S A s.heap s.heap [] := va_S.rf
  have hP : va_P (dC, dI) vwCl [(h0, .inr (7, [.null, .int 0, .int 0, .int 0, .int 0, .int 0]))] s.heap := hP
  have hl := lv_entry ([.ref h0, .null, .int p0, .int p1, .int p2, .int p3, .int p4]) (n := 7) (Nat.le_of_ble_eq_true rfl)
  rw [lg_entry_eq]
  generalize (lg_sl ([.ref h0, .null, .int p0, .int p1, .int p2, .int p3, .int p4]) ++ List.replicate (7 - (lg_sl ([.ref h0, .null, .int p0, .int p1, .int p2, .int p3, .int p4])).length) Slot.unset).toArray = ls at hl ⊢
  have hl : lv_has ls 7 [(0, .ref h0), (1, .null), (2, .int p0), (3, .int p1), (4, .int p2), (5, .int p3), (6, .int p4)] := hl
  refine lv_aload_n hx hb dX8_init_0 rfl (lv_at hl 0 rfl) ?_
  refine W.objInit hx hb hown (hts (.methodLink RX8 3 objectInit) (by decide +kernel)) (hts (.instanceMethod objectInit) (by decide +kernel)) (hts (.code objectInit ⟨#[0xb1]⟩ 1 none) (by decide +kernel)) rfl (by rw [hml]; exact hl.1) rfl dX8_init_1 (Nat.le_of_ble_eq_true rfl) (Nat.le_of_ble_eq_true rfl) ?_
  refine W.eq (g2 := F0 m 4 ls []) rfl ?_
  refine lv_aload_n hx hb dX8_init_4 rfl (lv_at hl 0 rfl) ?_
  refine lv_aload_nN hx hb dX8_init_5 rfl (lv_at hl 1 rfl) ?_
  refine va_putF (D := (dC, dI)) (ci := 7) (v := .null) (ty := .object "PageOne$Item") (C := RX8) (T := TX8) (N := 6) hx hb hts (by decide +kernel) tyX8 tyX8_ok nmX8 hown hK hP hD hS 0 rfl rfl 0 (by decide) (hts (.fieldLink RX8 9 "PageOne$Piece" "item" "LPageOne$Item;") (by decide +kernel)) (fun _ h9 => h9) rfl hin rfl (by decide +kernel) rfl rfl (Nat.le_of_ble_eq_true rfl) dX8_init_6 (fun H locs hP hD hS => ?_)
  have hP : va_P (dC, dI) vwCl [(h0, .inr (7, [.null, .int 0, .int 0, .int 0, .int 0, .int 0]))] H := hP
  have hD : va_D A [(h0, .inr (7, [.null, .int 0, .int 0, .int 0, .int 0, .int 0]))] := hD
  refine lv_aload_n hx hb dX8_init_9 rfl (lv_at hl 0 rfl) ?_
  refine lv_iload_n hx hb dX8_init_10 rfl (lv_at hl 2 rfl) ?_
  refine va_putF (D := (dC, dI)) (ci := 7) (v := .int p0) (ty := .int) (C := RX8) (T := TX8) (N := 6) hx hb hts (by decide +kernel) tyX8 tyX8_ok nmX8 hown hK hP hD hS 0 rfl rfl 1 (by decide) (hts (.fieldLink RX8 15 "PageOne$Piece" "page" "I") (by decide +kernel)) (fun _ h9 => h9) rfl hin rfl (by decide +kernel) rfl rfl (Nat.le_of_ble_eq_true rfl) dX8_init_11 (fun H locs hP hD hS => ?_)
  have hP : va_P (dC, dI) vwCl [(h0, .inr (7, [.null, .int p0, .int 0, .int 0, .int 0, .int 0]))] H := hP
  have hD : va_D A [(h0, .inr (7, [.null, .int p0, .int 0, .int 0, .int 0, .int 0]))] := hD
  refine lv_aload_n hx hb dX8_init_14 rfl (lv_at hl 0 rfl) ?_
  refine lv_iload_n hx hb dX8_init_15 rfl (lv_at hl 3 rfl) ?_
  refine va_putF (D := (dC, dI)) (ci := 7) (v := .int p1) (ty := .int) (C := RX8) (T := TX8) (N := 6) hx hb hts (by decide +kernel) tyX8 tyX8_ok nmX8 hown hK hP hD hS 0 rfl rfl 2 (by decide) (hts (.fieldLink RX8 19 "PageOne$Piece" "column" "I") (by decide +kernel)) (fun _ h9 => h9) rfl hin rfl (by decide +kernel) rfl rfl (Nat.le_of_ble_eq_true rfl) dX8_init_16 (fun H locs hP hD hS => ?_)
  have hP : va_P (dC, dI) vwCl [(h0, .inr (7, [.null, .int p0, .int p1, .int 0, .int 0, .int 0]))] H := hP
  have hD : va_D A [(h0, .inr (7, [.null, .int p0, .int p1, .int 0, .int 0, .int 0]))] := hD
  refine lv_aload_n hx hb dX8_init_19 rfl (lv_at hl 0 rfl) ?_
  refine lv_iload hx hb dX8_init_20 (lv_at hl 4 rfl) ?_
  refine va_putF (D := (dC, dI)) (ci := 7) (v := .int p2) (ty := .int) (C := RX8) (T := TX8) (N := 6) hx hb hts (by decide +kernel) tyX8 tyX8_ok nmX8 hown hK hP hD hS 0 rfl rfl 3 (by decide) (hts (.fieldLink RX8 22 "PageOne$Piece" "line" "I") (by decide +kernel)) (fun _ h9 => h9) rfl hin rfl (by decide +kernel) rfl rfl (Nat.le_of_ble_eq_true rfl) dX8_init_22 (fun H locs hP hD hS => ?_)
  have hP : va_P (dC, dI) vwCl [(h0, .inr (7, [.null, .int p0, .int p1, .int p2, .int 0, .int 0]))] H := hP
  have hD : va_D A [(h0, .inr (7, [.null, .int p0, .int p1, .int p2, .int 0, .int 0]))] := hD
  refine lv_aload_n hx hb dX8_init_25 rfl (lv_at hl 0 rfl) ?_
  refine lv_iload hx hb dX8_init_26 (lv_at hl 5 rfl) ?_
  refine va_putF (D := (dC, dI)) (ci := 7) (v := .int p3) (ty := .int) (C := RX8) (T := TX8) (N := 6) hx hb hts (by decide +kernel) tyX8 tyX8_ok nmX8 hown hK hP hD hS 0 rfl rfl 4 (by decide) (hts (.fieldLink RX8 25 "PageOne$Piece" "w" "I") (by decide +kernel)) (fun _ h9 => h9) rfl hin rfl (by decide +kernel) rfl rfl (Nat.le_of_ble_eq_true rfl) dX8_init_28 (fun H locs hP hD hS => ?_)
  have hP : va_P (dC, dI) vwCl [(h0, .inr (7, [.null, .int p0, .int p1, .int p2, .int p3, .int 0]))] H := hP
  have hD : va_D A [(h0, .inr (7, [.null, .int p0, .int p1, .int p2, .int p3, .int 0]))] := hD
  refine lv_aload_n hx hb dX8_init_31 rfl (lv_at hl 0 rfl) ?_
  refine lv_iload hx hb dX8_init_32 (lv_at hl 6 rfl) ?_
  refine va_putF (D := (dC, dI)) (ci := 7) (v := .int p4) (ty := .int) (C := RX8) (T := TX8) (N := 6) hx hb hts (by decide +kernel) tyX8 tyX8_ok nmX8 hown hK hP hD hS 0 rfl rfl 5 (by decide) (hts (.fieldLink RX8 28 "PageOne$Piece" "h" "I") (by decide +kernel)) (fun _ h9 => h9) rfl hin rfl (by decide +kernel) rfl rfl (Nat.le_of_ble_eq_true rfl) dX8_init_34 (fun H locs hP hD hS => ?_)
  have hP : va_P (dC, dI) vwCl [(h0, .inr (7, [.null, .int p0, .int p1, .int p2, .int p3, .int p4]))] H := hP
  have hD : va_D A [(h0, .inr (7, [.null, .int p0, .int p1, .int p2, .int p3, .int p4]))] := hD
  exact W.vret hx hb hr (fun t ht hW => ⟨⟨(), rfl, trivial, ⟨by rw [ht]; exact hP.sub [0] rfl, hD.sub [0] (by decide) rfl⟩⟩, hS.F ht⟩) hS.2.2 dX8_init_37
set_option maxHeartbeats 4000000 in
set_option maxRecDepth 100000 in
theorem x_PieceI (l : Launch) (dC : Nat → ClassId) (dI : Nat → Nat → Nat) (h0 : Nat) (io : Nat) (p0 p1 p2 p3 p4 : Int32) (sz : Nat) : Met l yX8_init wsX8_init ({ frames := 1, cells := 0, slots := 0, locals := 12 }) (va_Pc [.ref h0, .ref io, .int p0, .int p1, .int p2, .int p3, .int p4] (fun U => U.heap.size = sz ∧ PW dC dI [(h0, .inr (7, [.null, .int 0, .int 0, .int 0, .int 0, .int 0]))] [] U ∧ va_D (fun _ => True) [(h0, .inr (7, [.null, .int 0, .int 0, .int 0, .int 0, .int 0]))])) (va_Qv (fun _ : Unit => True) (fun _ t => va_P (dC, dI) vwCl [(h0, .inr (7, [.ref io, .int p0, .int p1, .int p2, .int p3, .int p4]))] t.heap ∧ va_D (va_A [(h0, .inr (7, [.null, .int 0, .int 0, .int 0, .int 0, .int 0]))] sz) [(h0, .inr (7, [.ref io, .int p0, .int p1, .int p2, .int p3, .int p4]))]) (va_A [(h0, .inr (7, [.null, .int 0, .int 0, .int 0, .int 0, .int 0]))] sz)) 0 0 (va_A [(h0, .inr (7, [.null, .int 0, .int 0, .int 0, .int 0, .int 0]))] sz) := by
  refine Met.ofW (cc := cX8_init) (maxL := 7) (ret := none) (by decide) rfl ?_
  intro p e s m args below meth c s₁ B hml hv
  obtain ⟨rfl, hsz, ⟨hP, hK, hN⟩, hD0⟩ := hv
  have hx := B.exec
  have hb := B.bytes
  have hr := B.returns
  have hts := atoms_spec (ws := wsX8_init) B.pre
  have hown : s.vm.findClass RX8 = some m.cls := findClass_of_methodNamed B.named
  have hlocks := B.notSynchronized
  have hin : meth.name = "<init>" := (name_of_methodNamed B.named B.method).1
  subst hsz
  have hD := hD0.self (sz := s.heap.size)
  generalize hAe : va_A [(h0, .inr (7, [.null, .int 0, .int 0, .int 0, .int 0, .int 0]))] s.heap.size = A at hD ⊢
  have hA : ∀ q : Nat, s.heap.size ≤ q → A q := fun q h => by rw [← hAe]; exact Or.inr h
  have hS : va_S A s.heap s.heap [] := va_S.rf
  have hP : va_P (dC, dI) vwCl [(h0, .inr (7, [.null, .int 0, .int 0, .int 0, .int 0, .int 0]))] s.heap := hP
  have hl := lv_entry ([.ref h0, .ref io, .int p0, .int p1, .int p2, .int p3, .int p4]) (n := 7) (Nat.le_of_ble_eq_true rfl)
  rw [lg_entry_eq]
  generalize (lg_sl ([.ref h0, .ref io, .int p0, .int p1, .int p2, .int p3, .int p4]) ++ List.replicate (7 - (lg_sl ([.ref h0, .ref io, .int p0, .int p1, .int p2, .int p3, .int p4])).length) Slot.unset).toArray = ls at hl ⊢
  have hl : lv_has ls 7 [(0, .ref h0), (1, .ref io), (2, .int p0), (3, .int p1), (4, .int p2), (5, .int p3), (6, .int p4)] := hl
  refine lv_aload_n hx hb dX8_init_0 rfl (lv_at hl 0 rfl) ?_
  refine W.objInit hx hb hown (hts (.methodLink RX8 3 objectInit) (by decide +kernel)) (hts (.instanceMethod objectInit) (by decide +kernel)) (hts (.code objectInit ⟨#[0xb1]⟩ 1 none) (by decide +kernel)) rfl (by rw [hml]; exact hl.1) rfl dX8_init_1 (Nat.le_of_ble_eq_true rfl) (Nat.le_of_ble_eq_true rfl) ?_
  refine W.eq (g2 := F0 m 4 ls []) rfl ?_
  refine lv_aload_n hx hb dX8_init_4 rfl (lv_at hl 0 rfl) ?_
  refine lv_aload_n hx hb dX8_init_5 rfl (lv_at hl 1 rfl) ?_
  refine va_putF (D := (dC, dI)) (ci := 7) (v := .ref io) (ty := .object "PageOne$Item") (C := RX8) (T := TX8) (N := 6) hx hb hts (by decide +kernel) tyX8 tyX8_ok nmX8 hown hK hP hD hS 0 rfl rfl 0 (by decide) (hts (.fieldLink RX8 9 "PageOne$Piece" "item" "LPageOne$Item;") (by decide +kernel)) (fun _ h9 => h9) rfl hin rfl (by decide +kernel) rfl rfl (Nat.le_of_ble_eq_true rfl) dX8_init_6 (fun H locs hP hD hS => ?_)
  have hP : va_P (dC, dI) vwCl [(h0, .inr (7, [.ref io, .int 0, .int 0, .int 0, .int 0, .int 0]))] H := hP
  have hD : va_D A [(h0, .inr (7, [.ref io, .int 0, .int 0, .int 0, .int 0, .int 0]))] := hD
  refine lv_aload_n hx hb dX8_init_9 rfl (lv_at hl 0 rfl) ?_
  refine lv_iload_n hx hb dX8_init_10 rfl (lv_at hl 2 rfl) ?_
  refine va_putF (D := (dC, dI)) (ci := 7) (v := .int p0) (ty := .int) (C := RX8) (T := TX8) (N := 6) hx hb hts (by decide +kernel) tyX8 tyX8_ok nmX8 hown hK hP hD hS 0 rfl rfl 1 (by decide) (hts (.fieldLink RX8 15 "PageOne$Piece" "page" "I") (by decide +kernel)) (fun _ h9 => h9) rfl hin rfl (by decide +kernel) rfl rfl (Nat.le_of_ble_eq_true rfl) dX8_init_11 (fun H locs hP hD hS => ?_)
  have hP : va_P (dC, dI) vwCl [(h0, .inr (7, [.ref io, .int p0, .int 0, .int 0, .int 0, .int 0]))] H := hP
  have hD : va_D A [(h0, .inr (7, [.ref io, .int p0, .int 0, .int 0, .int 0, .int 0]))] := hD
  refine lv_aload_n hx hb dX8_init_14 rfl (lv_at hl 0 rfl) ?_
  refine lv_iload_n hx hb dX8_init_15 rfl (lv_at hl 3 rfl) ?_
  refine va_putF (D := (dC, dI)) (ci := 7) (v := .int p1) (ty := .int) (C := RX8) (T := TX8) (N := 6) hx hb hts (by decide +kernel) tyX8 tyX8_ok nmX8 hown hK hP hD hS 0 rfl rfl 2 (by decide) (hts (.fieldLink RX8 19 "PageOne$Piece" "column" "I") (by decide +kernel)) (fun _ h9 => h9) rfl hin rfl (by decide +kernel) rfl rfl (Nat.le_of_ble_eq_true rfl) dX8_init_16 (fun H locs hP hD hS => ?_)
  have hP : va_P (dC, dI) vwCl [(h0, .inr (7, [.ref io, .int p0, .int p1, .int 0, .int 0, .int 0]))] H := hP
  have hD : va_D A [(h0, .inr (7, [.ref io, .int p0, .int p1, .int 0, .int 0, .int 0]))] := hD
  refine lv_aload_n hx hb dX8_init_19 rfl (lv_at hl 0 rfl) ?_
  refine lv_iload hx hb dX8_init_20 (lv_at hl 4 rfl) ?_
  refine va_putF (D := (dC, dI)) (ci := 7) (v := .int p2) (ty := .int) (C := RX8) (T := TX8) (N := 6) hx hb hts (by decide +kernel) tyX8 tyX8_ok nmX8 hown hK hP hD hS 0 rfl rfl 3 (by decide) (hts (.fieldLink RX8 22 "PageOne$Piece" "line" "I") (by decide +kernel)) (fun _ h9 => h9) rfl hin rfl (by decide +kernel) rfl rfl (Nat.le_of_ble_eq_true rfl) dX8_init_22 (fun H locs hP hD hS => ?_)
  have hP : va_P (dC, dI) vwCl [(h0, .inr (7, [.ref io, .int p0, .int p1, .int p2, .int 0, .int 0]))] H := hP
  have hD : va_D A [(h0, .inr (7, [.ref io, .int p0, .int p1, .int p2, .int 0, .int 0]))] := hD
  refine lv_aload_n hx hb dX8_init_25 rfl (lv_at hl 0 rfl) ?_
  refine lv_iload hx hb dX8_init_26 (lv_at hl 5 rfl) ?_
  refine va_putF (D := (dC, dI)) (ci := 7) (v := .int p3) (ty := .int) (C := RX8) (T := TX8) (N := 6) hx hb hts (by decide +kernel) tyX8 tyX8_ok nmX8 hown hK hP hD hS 0 rfl rfl 4 (by decide) (hts (.fieldLink RX8 25 "PageOne$Piece" "w" "I") (by decide +kernel)) (fun _ h9 => h9) rfl hin rfl (by decide +kernel) rfl rfl (Nat.le_of_ble_eq_true rfl) dX8_init_28 (fun H locs hP hD hS => ?_)
  have hP : va_P (dC, dI) vwCl [(h0, .inr (7, [.ref io, .int p0, .int p1, .int p2, .int p3, .int 0]))] H := hP
  have hD : va_D A [(h0, .inr (7, [.ref io, .int p0, .int p1, .int p2, .int p3, .int 0]))] := hD
  refine lv_aload_n hx hb dX8_init_31 rfl (lv_at hl 0 rfl) ?_
  refine lv_iload hx hb dX8_init_32 (lv_at hl 6 rfl) ?_
  refine va_putF (D := (dC, dI)) (ci := 7) (v := .int p4) (ty := .int) (C := RX8) (T := TX8) (N := 6) hx hb hts (by decide +kernel) tyX8 tyX8_ok nmX8 hown hK hP hD hS 0 rfl rfl 5 (by decide) (hts (.fieldLink RX8 28 "PageOne$Piece" "h" "I") (by decide +kernel)) (fun _ h9 => h9) rfl hin rfl (by decide +kernel) rfl rfl (Nat.le_of_ble_eq_true rfl) dX8_init_34 (fun H locs hP hD hS => ?_)
  have hP : va_P (dC, dI) vwCl [(h0, .inr (7, [.ref io, .int p0, .int p1, .int p2, .int p3, .int p4]))] H := hP
  have hD : va_D A [(h0, .inr (7, [.ref io, .int p0, .int p1, .int p2, .int p3, .int p4]))] := hD
  exact W.vret hx hb hr (fun t ht hW => ⟨⟨(), rfl, trivial, ⟨by rw [ht]; exact hP.sub [0] rfl, hD.sub [0] (by decide) rfl⟩⟩, hS.F ht⟩) hS.2.2 dX8_init_37
set_option maxHeartbeats 4000000 in
set_option maxRecDepth 100000 in
theorem x_Breach (l : Launch) (dC : Nat → ClassId) (dI : Nat → Nat → Nat) (h0 : Nat) (p0 p1 p2 : Int32) (sz : Nat) : Met l yX1_init wsX1_init ({ frames := 1, cells := 0, slots := 0, locals := 12 }) (va_Pc [.ref h0, .int p0, .int p1, .int p2] (fun U => U.heap.size = sz ∧ PW dC dI [(h0, .inr (1, [.int 0, .int 0, .int 0]))] [] U ∧ va_D (fun _ => True) [(h0, .inr (1, [.int 0, .int 0, .int 0]))])) (va_Qv (fun _ : Unit => True) (fun _ t => va_P (dC, dI) vwCl [(h0, .inr (1, [.int p0, .int p1, .int p2]))] t.heap ∧ va_D (va_A [(h0, .inr (1, [.int 0, .int 0, .int 0]))] sz) [(h0, .inr (1, [.int p0, .int p1, .int p2]))]) (va_A [(h0, .inr (1, [.int 0, .int 0, .int 0]))] sz)) 0 0 (va_A [(h0, .inr (1, [.int 0, .int 0, .int 0]))] sz) := by
  refine Met.ofW (cc := cX1_init) (maxL := 4) (ret := none) (by decide) rfl ?_
  intro p e s m args below meth c s₁ B hml hv
  obtain ⟨rfl, hsz, ⟨hP, hK, hN⟩, hD0⟩ := hv
  have hx := B.exec
  have hb := B.bytes
  have hr := B.returns
  have hts := atoms_spec (ws := wsX1_init) B.pre
  have hown : s.vm.findClass RX1 = some m.cls := findClass_of_methodNamed B.named
  have hlocks := B.notSynchronized
  have hin : meth.name = "<init>" := (name_of_methodNamed B.named B.method).1
  subst hsz
  have hD := hD0.self (sz := s.heap.size)
  generalize hAe : va_A [(h0, .inr (1, [.int 0, .int 0, .int 0]))] s.heap.size = A at hD ⊢
  have hA : ∀ q : Nat, s.heap.size ≤ q → A q := fun q h => by rw [← hAe]; exact Or.inr h
  have hS : va_S A s.heap s.heap [] := va_S.rf
  have hP : va_P (dC, dI) vwCl [(h0, .inr (1, [.int 0, .int 0, .int 0]))] s.heap := hP
  have hl := lv_entry ([.ref h0, .int p0, .int p1, .int p2]) (n := 4) (Nat.le_of_ble_eq_true rfl)
  rw [lg_entry_eq]
  generalize (lg_sl ([.ref h0, .int p0, .int p1, .int p2]) ++ List.replicate (4 - (lg_sl ([.ref h0, .int p0, .int p1, .int p2])).length) Slot.unset).toArray = ls at hl ⊢
  have hl : lv_has ls 4 [(0, .ref h0), (1, .int p0), (2, .int p1), (3, .int p2)] := hl
  refine lv_aload_n hx hb dX1_init_0 rfl (lv_at hl 0 rfl) ?_
  refine W.objInit hx hb hown (hts (.methodLink RX1 1 objectInit) (by decide +kernel)) (hts (.instanceMethod objectInit) (by decide +kernel)) (hts (.code objectInit ⟨#[0xb1]⟩ 1 none) (by decide +kernel)) rfl (by rw [hml]; exact hl.1) rfl dX1_init_1 (Nat.le_of_ble_eq_true rfl) (Nat.le_of_ble_eq_true rfl) ?_
  refine W.eq (g2 := F0 m 4 ls []) rfl ?_
  refine lv_aload_n hx hb dX1_init_4 rfl (lv_at hl 0 rfl) ?_
  refine lv_iload_n hx hb dX1_init_5 rfl (lv_at hl 1 rfl) ?_
  refine va_putF (D := (dC, dI)) (ci := 1) (v := .int p0) (ty := .int) (C := RX1) (T := TX1) (N := 3) hx hb hts (by decide +kernel) tyX1 tyX1_ok nmX1 hown hK hP hD hS 0 rfl rfl 0 (by decide) (hts (.fieldLink RX1 7 "PageOne$Breach" "kind" "I") (by decide +kernel)) (fun _ h9 => h9) rfl hin rfl (by decide +kernel) rfl rfl (Nat.le_of_ble_eq_true rfl) dX1_init_6 (fun H locs hP hD hS => ?_)
  have hP : va_P (dC, dI) vwCl [(h0, .inr (1, [.int p0, .int 0, .int 0]))] H := hP
  have hD : va_D A [(h0, .inr (1, [.int p0, .int 0, .int 0]))] := hD
  refine lv_aload_n hx hb dX1_init_9 rfl (lv_at hl 0 rfl) ?_
  refine lv_iload_n hx hb dX1_init_10 rfl (lv_at hl 2 rfl) ?_
  refine va_putF (D := (dC, dI)) (ci := 1) (v := .int p1) (ty := .int) (C := RX1) (T := TX1) (N := 3) hx hb hts (by decide +kernel) tyX1 tyX1_ok nmX1 hown hK hP hD hS 0 rfl rfl 1 (by decide) (hts (.fieldLink RX1 13 "PageOne$Breach" "first" "I") (by decide +kernel)) (fun _ h9 => h9) rfl hin rfl (by decide +kernel) rfl rfl (Nat.le_of_ble_eq_true rfl) dX1_init_11 (fun H locs hP hD hS => ?_)
  have hP : va_P (dC, dI) vwCl [(h0, .inr (1, [.int p0, .int p1, .int 0]))] H := hP
  have hD : va_D A [(h0, .inr (1, [.int p0, .int p1, .int 0]))] := hD
  refine lv_aload_n hx hb dX1_init_14 rfl (lv_at hl 0 rfl) ?_
  refine lv_iload_n hx hb dX1_init_15 rfl (lv_at hl 3 rfl) ?_
  refine va_putF (D := (dC, dI)) (ci := 1) (v := .int p2) (ty := .int) (C := RX1) (T := TX1) (N := 3) hx hb hts (by decide +kernel) tyX1 tyX1_ok nmX1 hown hK hP hD hS 0 rfl rfl 2 (by decide) (hts (.fieldLink RX1 16 "PageOne$Breach" "other" "I") (by decide +kernel)) (fun _ h9 => h9) rfl hin rfl (by decide +kernel) rfl rfl (Nat.le_of_ble_eq_true rfl) dX1_init_16 (fun H locs hP hD hS => ?_)
  have hP : va_P (dC, dI) vwCl [(h0, .inr (1, [.int p0, .int p1, .int p2]))] H := hP
  have hD : va_D A [(h0, .inr (1, [.int p0, .int p1, .int p2]))] := hD
  exact W.vret hx hb hr (fun t ht hW => ⟨⟨(), rfl, trivial, ⟨by rw [ht]; exact hP.sub [0] rfl, hD.sub [0] (by decide) rfl⟩⟩, hS.F ht⟩) hS.2.2 dX1_init_19
set_option maxHeartbeats 4000000 in
set_option maxRecDepth 100000 in
theorem x_ActP (l : Launch) (dC : Nat → ClassId) (dI : Nat → Nat → Nat) (h0 : Nat) (po : Nat) (sz : Nat) : Met l yX0_init wsX0_init ({ frames := 1, cells := 0, slots := 0, locals := 12 }) (va_Pc [.ref h0, .ref po, .int 0, .null] (fun U => U.heap.size = sz ∧ PW dC dI [(h0, .inr (0, [.null, .int 0, .null, .int 0]))] [] U ∧ va_D (fun _ => True) [(h0, .inr (0, [.null, .int 0, .null, .int 0]))])) (va_Qv (fun _ : Unit => True) (fun _ t => va_P (dC, dI) vwCl [(h0, .inr (0, [.ref po, .int 0, .null, .int 1]))] t.heap ∧ va_D (va_A [(h0, .inr (0, [.null, .int 0, .null, .int 0]))] sz) [(h0, .inr (0, [.ref po, .int 0, .null, .int 1]))]) (va_A [(h0, .inr (0, [.null, .int 0, .null, .int 0]))] sz)) 0 0 (va_A [(h0, .inr (0, [.null, .int 0, .null, .int 0]))] sz) := by
  refine Met.ofW (cc := cX0_init) (maxL := 4) (ret := none) (by decide) rfl ?_
  intro p e s m args below meth c s₁ B hml hv
  obtain ⟨rfl, hsz, ⟨hP, hK, hN⟩, hD0⟩ := hv
  have hx := B.exec
  have hb := B.bytes
  have hr := B.returns
  have hts := atoms_spec (ws := wsX0_init) B.pre
  have hown : s.vm.findClass RX0 = some m.cls := findClass_of_methodNamed B.named
  have hlocks := B.notSynchronized
  have hin : meth.name = "<init>" := (name_of_methodNamed B.named B.method).1
  subst hsz
  have hD := hD0.self (sz := s.heap.size)
  generalize hAe : va_A [(h0, .inr (0, [.null, .int 0, .null, .int 0]))] s.heap.size = A at hD ⊢
  have hA : ∀ q : Nat, s.heap.size ≤ q → A q := fun q h => by rw [← hAe]; exact Or.inr h
  have hS : va_S A s.heap s.heap [] := va_S.rf
  have hP : va_P (dC, dI) vwCl [(h0, .inr (0, [.null, .int 0, .null, .int 0]))] s.heap := hP
  have hl := lv_entry ([.ref h0, .ref po, .int 0, .null]) (n := 4) (Nat.le_of_ble_eq_true rfl)
  rw [lg_entry_eq]
  generalize (lg_sl ([.ref h0, .ref po, .int 0, .null]) ++ List.replicate (4 - (lg_sl ([.ref h0, .ref po, .int 0, .null])).length) Slot.unset).toArray = ls at hl ⊢
  have hl : lv_has ls 4 [(0, .ref h0), (1, .ref po), (2, .int 0), (3, .null)] := hl
  refine lv_aload_n hx hb dX0_init_0 rfl (lv_at hl 0 rfl) ?_
  refine W.objInit hx hb hown (hts (.methodLink RX0 1 objectInit) (by decide +kernel)) (hts (.instanceMethod objectInit) (by decide +kernel)) (hts (.code objectInit ⟨#[0xb1]⟩ 1 none) (by decide +kernel)) rfl (by rw [hml]; exact hl.1) rfl dX0_init_1 (Nat.le_of_ble_eq_true rfl) (Nat.le_of_ble_eq_true rfl) ?_
  refine W.eq (g2 := F0 m 4 ls []) rfl ?_
  refine lv_aload_n hx hb dX0_init_4 rfl (lv_at hl 0 rfl) ?_
  refine lv_aload_n hx hb dX0_init_5 rfl (lv_at hl 1 rfl) ?_
  refine va_putF (D := (dC, dI)) (ci := 0) (v := .ref po) (ty := .object "PageOne$Piece") (C := RX0) (T := TX0) (N := 4) hx hb hts (by decide +kernel) tyX0 tyX0_ok nmX0 hown hK hP hD hS 0 rfl rfl 0 (by decide) (hts (.fieldLink RX0 7 "PageOne$Act" "piece" "LPageOne$Piece;") (by decide +kernel)) (fun _ h9 => h9) rfl hin rfl (by decide +kernel) rfl rfl (Nat.le_of_ble_eq_true rfl) dX0_init_6 (fun H locs hP hD hS => ?_)
  have hP : va_P (dC, dI) vwCl [(h0, .inr (0, [.ref po, .int 0, .null, .int 0]))] H := hP
  have hD : va_D A [(h0, .inr (0, [.ref po, .int 0, .null, .int 0]))] := hD
  refine lv_aload_n hx hb dX0_init_9 rfl (lv_at hl 0 rfl) ?_
  refine lv_iload_n hx hb dX0_init_10 rfl (lv_at hl 2 rfl) ?_
  refine va_putF (D := (dC, dI)) (ci := 0) (v := .int 0) (ty := .boolean) (C := RX0) (T := TX0) (N := 4) hx hb hts (by decide +kernel) tyX0 tyX0_ok nmX0 hown hK hP hD hS 0 rfl rfl 1 (by decide) (hts (.fieldLink RX0 13 "PageOne$Act" "lifted" "Z") (by decide +kernel)) (fun _ h9 => h9) rfl hin rfl (by decide +kernel) rfl rfl (Nat.le_of_ble_eq_true rfl) dX0_init_11 (fun H locs hP hD hS => ?_)
  have hP : va_P (dC, dI) vwCl [(h0, .inr (0, [.ref po, .int 0, .null, .int 0]))] H := hP
  have hD : va_D A [(h0, .inr (0, [.ref po, .int 0, .null, .int 0]))] := hD
  refine lv_aload_n hx hb dX0_init_14 rfl (lv_at hl 0 rfl) ?_
  refine lv_aload_nN hx hb dX0_init_15 rfl (lv_at hl 3 rfl) ?_
  refine va_putF (D := (dC, dI)) (ci := 0) (v := .null) (ty := .object "PageOne$Act") (C := RX0) (T := TX0) (N := 4) hx hb hts (by decide +kernel) tyX0 tyX0_ok nmX0 hown hK hP hD hS 0 rfl rfl 2 (by decide) (hts (.fieldLink RX0 17 "PageOne$Act" "ahead" "LPageOne$Act;") (by decide +kernel)) (fun _ h9 => h9) rfl hin rfl (by decide +kernel) rfl rfl (Nat.le_of_ble_eq_true rfl) dX0_init_16 (fun H locs hP hD hS => ?_)
  have hP : va_P (dC, dI) vwCl [(h0, .inr (0, [.ref po, .int 0, .null, .int 0]))] H := hP
  have hD : va_D A [(h0, .inr (0, [.ref po, .int 0, .null, .int 0]))] := hD
  refine lv_aload_n hx hb dX0_init_19 rfl (lv_at hl 0 rfl) ?_
  refine lv_aload_nN hx hb dX0_init_20 rfl (lv_at hl 3 rfl) ?_
  refine lv_ifnonnullN hx hb dX0_init_21 ?_
  refine lv_iconst (v := 1) hx hb dX0_init_24 (by decide) ?_
  refine lv_goto (tgt := 34) hx hb dX0_init_25 (by decide) ?_
  refine va_putF (D := (dC, dI)) (ci := 0) (v := .int 1) (ty := .int) (C := RX0) (T := TX0) (N := 4) hx hb hts (by decide +kernel) tyX0 tyX0_ok nmX0 hown hK hP hD hS 0 rfl rfl 3 (by decide) (hts (.fieldLink RX0 21 "PageOne$Act" "parts" "I") (by decide +kernel)) (fun _ h9 => h9) rfl hin rfl (by decide +kernel) rfl rfl (Nat.le_of_ble_eq_true rfl) dX0_init_34 (fun H locs hP hD hS => ?_)
  have hP : va_P (dC, dI) vwCl [(h0, .inr (0, [.ref po, .int 0, .null, .int 1]))] H := hP
  have hD : va_D A [(h0, .inr (0, [.ref po, .int 0, .null, .int 1]))] := hD
  exact W.vret hx hb hr (fun t ht hW => ⟨⟨(), rfl, trivial, ⟨by rw [ht]; exact hP.sub [0] rfl, hD.sub [0] (by decide) rfl⟩⟩, hS.F ht⟩) hS.2.2 dX0_init_37
set_option maxHeartbeats 4000000 in
set_option maxRecDepth 100000 in
theorem x_ActL (l : Launch) (dC : Nat → ClassId) (dI : Nat → Nat → Nat) (h0 : Nat) (po : Nat) (sz : Nat) : Met l yX0_init wsX0_init ({ frames := 1, cells := 0, slots := 0, locals := 12 }) (va_Pc [.ref h0, .ref po, .int 1, .null] (fun U => U.heap.size = sz ∧ PW dC dI [(h0, .inr (0, [.null, .int 0, .null, .int 0]))] [] U ∧ va_D (fun _ => True) [(h0, .inr (0, [.null, .int 0, .null, .int 0]))])) (va_Qv (fun _ : Unit => True) (fun _ t => va_P (dC, dI) vwCl [(h0, .inr (0, [.ref po, .int 1, .null, .int 1]))] t.heap ∧ va_D (va_A [(h0, .inr (0, [.null, .int 0, .null, .int 0]))] sz) [(h0, .inr (0, [.ref po, .int 1, .null, .int 1]))]) (va_A [(h0, .inr (0, [.null, .int 0, .null, .int 0]))] sz)) 0 0 (va_A [(h0, .inr (0, [.null, .int 0, .null, .int 0]))] sz) := by
  refine Met.ofW (cc := cX0_init) (maxL := 4) (ret := none) (by decide) rfl ?_
  intro p e s m args below meth c s₁ B hml hv
  obtain ⟨rfl, hsz, ⟨hP, hK, hN⟩, hD0⟩ := hv
  have hx := B.exec
  have hb := B.bytes
  have hr := B.returns
  have hts := atoms_spec (ws := wsX0_init) B.pre
  have hown : s.vm.findClass RX0 = some m.cls := findClass_of_methodNamed B.named
  have hlocks := B.notSynchronized
  have hin : meth.name = "<init>" := (name_of_methodNamed B.named B.method).1
  subst hsz
  have hD := hD0.self (sz := s.heap.size)
  generalize hAe : va_A [(h0, .inr (0, [.null, .int 0, .null, .int 0]))] s.heap.size = A at hD ⊢
  have hA : ∀ q : Nat, s.heap.size ≤ q → A q := fun q h => by rw [← hAe]; exact Or.inr h
  have hS : va_S A s.heap s.heap [] := va_S.rf
  have hP : va_P (dC, dI) vwCl [(h0, .inr (0, [.null, .int 0, .null, .int 0]))] s.heap := hP
  have hl := lv_entry ([.ref h0, .ref po, .int 1, .null]) (n := 4) (Nat.le_of_ble_eq_true rfl)
  rw [lg_entry_eq]
  generalize (lg_sl ([.ref h0, .ref po, .int 1, .null]) ++ List.replicate (4 - (lg_sl ([.ref h0, .ref po, .int 1, .null])).length) Slot.unset).toArray = ls at hl ⊢
  have hl : lv_has ls 4 [(0, .ref h0), (1, .ref po), (2, .int 1), (3, .null)] := hl
  refine lv_aload_n hx hb dX0_init_0 rfl (lv_at hl 0 rfl) ?_
  refine W.objInit hx hb hown (hts (.methodLink RX0 1 objectInit) (by decide +kernel)) (hts (.instanceMethod objectInit) (by decide +kernel)) (hts (.code objectInit ⟨#[0xb1]⟩ 1 none) (by decide +kernel)) rfl (by rw [hml]; exact hl.1) rfl dX0_init_1 (Nat.le_of_ble_eq_true rfl) (Nat.le_of_ble_eq_true rfl) ?_
  refine W.eq (g2 := F0 m 4 ls []) rfl ?_
  refine lv_aload_n hx hb dX0_init_4 rfl (lv_at hl 0 rfl) ?_
  refine lv_aload_n hx hb dX0_init_5 rfl (lv_at hl 1 rfl) ?_
  refine va_putF (D := (dC, dI)) (ci := 0) (v := .ref po) (ty := .object "PageOne$Piece") (C := RX0) (T := TX0) (N := 4) hx hb hts (by decide +kernel) tyX0 tyX0_ok nmX0 hown hK hP hD hS 0 rfl rfl 0 (by decide) (hts (.fieldLink RX0 7 "PageOne$Act" "piece" "LPageOne$Piece;") (by decide +kernel)) (fun _ h9 => h9) rfl hin rfl (by decide +kernel) rfl rfl (Nat.le_of_ble_eq_true rfl) dX0_init_6 (fun H locs hP hD hS => ?_)
  have hP : va_P (dC, dI) vwCl [(h0, .inr (0, [.ref po, .int 0, .null, .int 0]))] H := hP
  have hD : va_D A [(h0, .inr (0, [.ref po, .int 0, .null, .int 0]))] := hD
  refine lv_aload_n hx hb dX0_init_9 rfl (lv_at hl 0 rfl) ?_
  refine lv_iload_n hx hb dX0_init_10 rfl (lv_at hl 2 rfl) ?_
  refine va_putF (D := (dC, dI)) (ci := 0) (v := .int 1) (ty := .boolean) (C := RX0) (T := TX0) (N := 4) hx hb hts (by decide +kernel) tyX0 tyX0_ok nmX0 hown hK hP hD hS 0 rfl rfl 1 (by decide) (hts (.fieldLink RX0 13 "PageOne$Act" "lifted" "Z") (by decide +kernel)) (fun _ h9 => h9) rfl hin rfl (by decide +kernel) rfl rfl (Nat.le_of_ble_eq_true rfl) dX0_init_11 (fun H locs hP hD hS => ?_)
  have hP : va_P (dC, dI) vwCl [(h0, .inr (0, [.ref po, .int 1, .null, .int 0]))] H := hP
  have hD : va_D A [(h0, .inr (0, [.ref po, .int 1, .null, .int 0]))] := hD
  refine lv_aload_n hx hb dX0_init_14 rfl (lv_at hl 0 rfl) ?_
  refine lv_aload_nN hx hb dX0_init_15 rfl (lv_at hl 3 rfl) ?_
  refine va_putF (D := (dC, dI)) (ci := 0) (v := .null) (ty := .object "PageOne$Act") (C := RX0) (T := TX0) (N := 4) hx hb hts (by decide +kernel) tyX0 tyX0_ok nmX0 hown hK hP hD hS 0 rfl rfl 2 (by decide) (hts (.fieldLink RX0 17 "PageOne$Act" "ahead" "LPageOne$Act;") (by decide +kernel)) (fun _ h9 => h9) rfl hin rfl (by decide +kernel) rfl rfl (Nat.le_of_ble_eq_true rfl) dX0_init_16 (fun H locs hP hD hS => ?_)
  have hP : va_P (dC, dI) vwCl [(h0, .inr (0, [.ref po, .int 1, .null, .int 0]))] H := hP
  have hD : va_D A [(h0, .inr (0, [.ref po, .int 1, .null, .int 0]))] := hD
  refine lv_aload_n hx hb dX0_init_19 rfl (lv_at hl 0 rfl) ?_
  refine lv_aload_nN hx hb dX0_init_20 rfl (lv_at hl 3 rfl) ?_
  refine lv_ifnonnullN hx hb dX0_init_21 ?_
  refine lv_iconst (v := 1) hx hb dX0_init_24 (by decide) ?_
  refine lv_goto (tgt := 34) hx hb dX0_init_25 (by decide) ?_
  refine va_putF (D := (dC, dI)) (ci := 0) (v := .int 1) (ty := .int) (C := RX0) (T := TX0) (N := 4) hx hb hts (by decide +kernel) tyX0 tyX0_ok nmX0 hown hK hP hD hS 0 rfl rfl 3 (by decide) (hts (.fieldLink RX0 21 "PageOne$Act" "parts" "I") (by decide +kernel)) (fun _ h9 => h9) rfl hin rfl (by decide +kernel) rfl rfl (Nat.le_of_ble_eq_true rfl) dX0_init_34 (fun H locs hP hD hS => ?_)
  have hP : va_P (dC, dI) vwCl [(h0, .inr (0, [.ref po, .int 1, .null, .int 1]))] H := hP
  have hD : va_D A [(h0, .inr (0, [.ref po, .int 1, .null, .int 1]))] := hD
  exact W.vret hx hb hr (fun t ht hW => ⟨⟨(), rfl, trivial, ⟨by rw [ht]; exact hP.sub [0] rfl, hD.sub [0] (by decide) rfl⟩⟩, hS.F ht⟩) hS.2.2 dX0_init_37
theorem cO_pc {q : Nat → ClassId} {z : gS} {a : Nat} {it : Option Nat} {P X Y D N : Int32} (hP : bw P 0 11 = true) (hit : ∀ b, it = some b → itm z b) (ha : a ∉ z.1) : cO q (pz z a (22, 0, [va_rf it, .int P, .int X, .int Y, .int D, .int N])) a (.inr (7, [va_rf it, .int P, .int X, .int Y, .int D, .int N])) := by
  refine cO_22 (by rw [pz_s]) ⟨by rw [pz_s], it, P, X, Y, D, N, by rw [pz_s], hP, fun b hb => zE_itm (pz_E ha _) (hit b hb)⟩
theorem cO_ac {q : Nat → ClassId} {z : gS} {a p : Nat} {l n : Int32} (hp : lgP z p) (ha : a ∉ z.1) : cO q (pz z a (23, 0, [.ref p, .int l, va_rf none, .int n])) a (.inr (0, [.ref p, .int l, va_rf none, .int n])) := by
  refine cO_23 (by rw [pz_s]) ⟨by rw [pz_s], p, l, n, none, by rw [pz_s], zE_lg (pz_E ha _) hp, ty_n⟩
theorem lg_of {z : gS} {a : Nat} {it : Option Nat} {P X Y D N : Int32} (h : pcS z a it P X Y D N) (h2 : bw X 0 7 = true ∧ bw Y 0 60 = true ∧ bw D 0 8 = true ∧ bw N 0 60 = true) : lgP z a := ⟨it, P, X, Y, D, N, h, h2⟩
