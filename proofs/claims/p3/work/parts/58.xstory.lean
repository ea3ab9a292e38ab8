set_option maxHeartbeats 4000000 in
set_option maxRecDepth 100000 in
theorem x_takenBy (l : Launch) (dC : Nat → ClassId) (dI : Nat → Nat → Nat) (q : Nat → ClassId) (h0 : Nat) (d : Nat → Nat) (k : Nat → Int32) (z : gS) (f : xF) (hI : xI q h0 d k z f) (a0 : Nat) (p0 : Int32) (ha0 : tg z a0 15) : Met l yX10_takenBy wsX10_takenBy ({ frames := 1, cells := 0, slots := 0, locals := 22 }) (va_Pc [.ref a0, .int p0] (PX dC dI (va_pl z.1 f) (xT q))) (vp_Si (fun r => True)) 0 0 (fun _ => False) := by
  refine Met.ofW (cc := cX10_takenBy) (maxL := 3) (ret := (some .int)) (by decide) rfl ?_
  intro p e s m args below meth c s₁ B hml hv
  obtain ⟨rfl, ⟨hP, hK, hN⟩, hXN⟩ := hv
  have hx := B.exec
  have hb := B.bytes
  have hr := B.returns
  have hts := atoms_spec (ws := wsX10_takenBy) B.pre
  have hown : s.vm.findClass RX10 = some m.cls := findClass_of_methodNamed B.named
  have hlocks := B.notSynchronized
  have hl := lv_entry ([.ref a0, .int p0]) (n := 3) (Nat.le_of_ble_eq_true rfl)
  rw [lg_entry_eq]
  generalize (lg_sl ([.ref a0, .int p0]) ++ List.replicate (3 - (lg_sl ([.ref a0, .int p0])).length) Slot.unset).toArray = ls at hl ⊢
  have hl : lv_has ls 3 [(0, .ref a0), (1, .int p0)] := hl
  refine lv_iload_n hx hb dX10_takenBy_0 rfl (lv_at hl 1 rfl) ?_
  refine lv_iconst (v := 0) hx hb dX10_takenBy_1 (by decide) ?_
  refine lv_aload_n hx hb dX10_takenBy_2 rfl (lv_at hl 0 rfl) ?_
  obtain ⟨nu_1, kd_2, cn_3, pa_4, fa_5, l_6, co_7, wd_8, nm_9, hs_10, hs_11, hs_12, hs_13, hq_14, hq_15, hq_16⟩ := x_ist hI ha0
  obtain ⟨kk_17, hk_18⟩ := pl_at ha0.1 hs_10
  refine va_get (D := (dC, dI)) (ci := 9) (v := .int cn_3) (C := RX10) (T := TX10) (N := 9) hx hb hts (by decide +kernel) hown hK hP kk_17 hk_18 rfl 3 (by decide) (hts (.fieldLink RX10 49 "PageOne$Story" "count" "I") (by decide +kernel)) (fun x9 h9 => u_same (hts (.sameField "PageOne$Story" "PageOne$Item" "count" "I") (by decide +kernel)) x9 h9) rfl dX10_takenBy_3 ?_
  refine lv_iconst (v := 1) hx hb dX10_takenBy_6 (by decide) ?_
  refine lv_isub hx hb dX10_takenBy_7 ?_
  refine vp_callSi (va_runSN (As := [.int p0, .int 0, .int (cn_3 - 1)]) (rest := []) ⟨hx, hb, hml, hown, hts⟩ (x_isWithin l dC dI p0 0 (cn_3 - 1)) ⟨va_cnB (host := "PageOne") 3 hts gX10_takenBy_X11_isWithin_n26 rfl rfl rfl hN.n_RX10_26 (hts (.initialized RX11) (by decide +kernel)) (by decide +kernel) ⟨Nat.le_of_ble_eq_true rfl, Nat.le_of_ble_eq_true rfl⟩, hts (.static yX11_isWithin) (by decide +kernel), trivial⟩ ⟨pw_fb, fun U hU hW => ⟨rfl, pw_to hU hW (hP.sub (ws' := []) [] rfl) (hK.sub (tys' := []) [] rfl) hN⟩⟩ rfl rfl hl.1 rfl (lv_room (Nat.le_of_ble_eq_true rfl)) dX10_takenBy_8 ⟨Nat.le_of_ble_eq_true rfl, Nat.le_of_ble_eq_true rfl⟩).run (fun r hw => ?_)
  rcases Bool.eq_false_or_eq_true (bw p0 0 (cn_3 - 1)) with b_19 | b_19
  ·
    obtain rfl : r = 1 := b_t hw b_19
    refine lv_if_ne (tgt := 16) hx hb dX10_takenBy_11 (by decide) (fun c_20 => ?_) (fun c_20 => absurd c_20 (by decide))
    refine lv_aload_n hx hb dX10_takenBy_16 rfl (lv_at hl 0 rfl) ?_
    obtain ⟨kk_21, hk_22⟩ := pl_at ha0.1 hs_10
    refine va_get (D := (dC, dI)) (ci := 9) (v := .ref pa_4) (C := RX10) (T := TX10) (N := 9) hx hb hts (by decide +kernel) hown hK hP kk_21 hk_22 rfl 2 (by decide) (hts (.fieldLink RX10 60 "PageOne$Story" "pieces" "[LPageOne$Piece;") (by decide +kernel)) (fun x9 h9 => u_same (hts (.sameField "PageOne$Story" "PageOne$Item" "pieces" "[LPageOne$Piece;") (by decide +kernel)) x9 h9) rfl dX10_takenBy_17 ?_
    refine lv_iload_n hx hb dX10_takenBy_20 rfl (lv_at hl 1 rfl) ?_
    obtain ⟨n_23, g_24, hs_25, h1_26, h6_27, hc_28, hn_29, hg_30⟩ := x_pcs hI (tg_itm ha0 (by decide)) (by rw [ha0.2]; rfl) hs_10
    obtain ⟨kk_31, hk_32⟩ := pl_at hs_11.1 hs_25
    refine va_aldq hx hb hK hP kk_31 5 hk_32 rfl (vkn h6_27 hc_28 b_19).1 dX10_takenBy_21 ?_
    obtain ⟨b_33, hg_34⟩ := hn_29 (p0 : Int32).toNatClampNeg (vkn h6_27 hc_28 b_19).2
    have ht_35 := hg_30 (p0 : Int32).toNatClampNeg (vlt (vkn h6_27 hc_28 b_19).1) b_33 hg_34
    rw [hg_34]
    refine W.eq (g2 := F0 m 22 ls [.ref b_33]) rfl ?_
    have hcp := ht_35
    obtain ⟨it_36, P_37, X_38, Y_39, D_40, N_41, hp_42, hb_43, hb_44, hb_45, hb_46⟩ := hcp
    obtain ⟨kk_47, hk_48⟩ := pl_at hp_42.1.1 (x_pcF hI hp_42)
    refine va_get (D := (dC, dI)) (ci := 7) (v := .int N_41) (C := RX8) (T := TX8) (N := 6) hx hb hts (by decide +kernel) hown hK hP kk_47 hk_48 rfl 5 (by decide) (hts (.fieldLink RX10 34 "PageOne$Piece" "h" "I") (by decide +kernel)) (fun _ h9 => h9) rfl dX10_takenBy_22 ?_
    refine lv_istore_n (lv' := [(2, .int N_41), (0, .ref a0), (1, .int p0)]) hx hb dX10_takenBy_25 rfl hl (by decide) rfl (fun ls hl => ?_)
    refine lv_iload_n hx hb dX10_takenBy_26 rfl (lv_at hl 2 rfl) ?_
    refine lv_if_le (tgt := 56) hx hb dX10_takenBy_27 (by decide) (fun c_49 => ?_) (fun c_49 => ?_)
    ·
      refine lv_iload_n hx hb dX10_takenBy_56 rfl (lv_at hl 2 rfl) ?_
      refine lv_iconst (v := 1) hx hb dX10_takenBy_57 (by decide) ?_
      refine lv_iadd hx hb dX10_takenBy_58 ?_
      refine lv_aload_n hx hb dX10_takenBy_59 rfl (lv_at hl 1 rfl) ?_
      obtain ⟨kk_50, hk_51⟩ := pl_at ha0.1 hs_10
      refine va_get (D := (dC, dI)) (ci := 9) (v := .int cn_3) (C := RX10) (T := TX10) (N := 9) hx hb hts (by decide +kernel) hown hK hP kk_50 hk_51 rfl 3 (by decide) (hts (.fieldLink RX10 49 "PageOne$Story" "count" "I") (by decide +kernel)) (fun x9 h9 => u_same (hts (.sameField "PageOne$Story" "PageOne$Item" "count" "I") (by decide +kernel)) x9 h9) rfl dX10_takenBy_60 ?_
      refine lv_icmp_ge (tgt := 92) hx hb dX10_takenBy_63 (by decide) (fun c_52 => ?_) (fun c_52 => ?_)
      ·
        refine lv_iload_n hx hb dX10_takenBy_92 rfl (lv_at hl 0 rfl) ?_
        exact W.iret (v := N_41) hx hb hr (fun t ht hW => ⟨_, rfl, trivial, ht⟩) (fun q h => absurd h List.not_mem_nil) dX10_takenBy_93
      ·
        refine lv_aload_n hx hb dX10_takenBy_66 rfl (lv_at hl 1 rfl) ?_
        obtain ⟨kk_53, hk_54⟩ := pl_at ha0.1 hs_10
        refine va_get (D := (dC, dI)) (ci := 9) (v := .ref pa_4) (C := RX10) (T := TX10) (N := 9) hx hb hts (by decide +kernel) hown hK hP kk_53 hk_54 rfl 2 (by decide) (hts (.fieldLink RX10 60 "PageOne$Story" "pieces" "[LPageOne$Piece;") (by decide +kernel)) (fun x9 h9 => u_same (hts (.sameField "PageOne$Story" "PageOne$Item" "pieces" "[LPageOne$Piece;") (by decide +kernel)) x9 h9) rfl dX10_takenBy_67 ?_
        refine lv_iload_n hx hb dX10_takenBy_70 rfl (lv_at hl 2 rfl) ?_
        refine lv_iconst (v := 1) hx hb dX10_takenBy_71 (by decide) ?_
        refine lv_iadd hx hb dX10_takenBy_72 ?_
        obtain ⟨kk_55, hk_56⟩ := pl_at hs_11.1 hs_25
        refine va_aldq hx hb hK hP kk_55 5 hk_56 rfl (vknp h6_27 hc_28 b_19 c_52).1 dX10_takenBy_73 ?_
        obtain ⟨b_57, hg_58⟩ := hn_29 ((p0 + 1) : Int32).toNatClampNeg (vknp h6_27 hc_28 b_19 c_52).2
        have ht_59 := hg_30 ((p0 + 1) : Int32).toNatClampNeg (vlt (vknp h6_27 hc_28 b_19 c_52).1) b_57 hg_58
        rw [hg_58]
        refine W.eq (g2 := F0 m 74 ls [.ref b_57]) rfl ?_
        have hcp := ht_59
        obtain ⟨it_60, P_61, X_62, Y_63, D_64, N_65, hp_66, hb_67, hb_68, hb_69, hb_70⟩ := hcp
        obtain ⟨kk_71, hk_72⟩ := pl_at hp_66.1.1 (x_pcF hI hp_66)
        refine va_get (D := (dC, dI)) (ci := 7) (v := .int P_61) (C := RX8) (T := TX8) (N := 6) hx hb hts (by decide +kernel) hown hK hP kk_71 hk_72 rfl 1 (by decide) (hts (.fieldLink RX10 42 "PageOne$Piece" "page" "I") (by decide +kernel)) (fun _ h9 => h9) rfl dX10_takenBy_74 ?_
        refine lv_aload_n hx hb dX10_takenBy_77 rfl (lv_at hl 1 rfl) ?_
        obtain ⟨kk_73, hk_74⟩ := pl_at ha0.1 hs_10
        refine va_get (D := (dC, dI)) (ci := 9) (v := .ref pa_4) (C := RX10) (T := TX10) (N := 9) hx hb hts (by decide +kernel) hown hK hP kk_73 hk_74 rfl 2 (by decide) (hts (.fieldLink RX10 60 "PageOne$Story" "pieces" "[LPageOne$Piece;") (by decide +kernel)) (fun x9 h9 => u_same (hts (.sameField "PageOne$Story" "PageOne$Item" "pieces" "[LPageOne$Piece;") (by decide +kernel)) x9 h9) rfl dX10_takenBy_78 ?_
        refine lv_iload_n hx hb dX10_takenBy_81 rfl (lv_at hl 2 rfl) ?_
        obtain ⟨kk_75, hk_76⟩ := pl_at hs_11.1 hs_25
        refine va_aldq hx hb hK hP kk_75 5 hk_76 rfl (vkn h6_27 hc_28 b_19).1 dX10_takenBy_82 ?_
        obtain ⟨b_77, hg_78⟩ := hn_29 (p0 : Int32).toNatClampNeg (vkn h6_27 hc_28 b_19).2
        have ht_79 := hg_30 (p0 : Int32).toNatClampNeg (vlt (vkn h6_27 hc_28 b_19).1) b_77 hg_78
        rw [hg_78]
        refine W.eq (g2 := F0 m 83 ls [.ref b_77, .int P_61]) rfl ?_
        have hcp := ht_79
        obtain ⟨it_80, P_81, X_82, Y_83, D_84, N_85, hp_86, hb_87, hb_88, hb_89, hb_90⟩ := hcp
        obtain ⟨kk_91, hk_92⟩ := pl_at hp_86.1.1 (x_pcF hI hp_86)
        refine va_get (D := (dC, dI)) (ci := 7) (v := .int P_81) (C := RX8) (T := TX8) (N := 6) hx hb hts (by decide +kernel) hown hK hP kk_91 hk_92 rfl 1 (by decide) (hts (.fieldLink RX10 42 "PageOne$Piece" "page" "I") (by decide +kernel)) (fun _ h9 => h9) rfl dX10_takenBy_83 ?_
        refine lv_icmp_eq (tgt := 92) hx hb dX10_takenBy_86 (by decide) (fun c_93 => ?_) (fun c_93 => ?_)
        ·
          refine lv_iload_n hx hb dX10_takenBy_92 rfl (lv_at hl 0 rfl) ?_
          exact W.iret (v := N_41) hx hb hr (fun t ht hW => ⟨_, rfl, trivial, ht⟩) (fun q h => absurd h List.not_mem_nil) dX10_takenBy_93
        ·
          obtain ⟨x_94, ex_94⟩ : ∃ y : Int32, y = N_41 + (-1) := ⟨_, rfl⟩
          refine lv_iinc (v := x_94) (lv' := [(2, .int x_94), (0, .ref a0), (1, .int p0)]) hx hb dX10_takenBy_89 hl (k := 0) rfl (by rw [ex_94]; rfl) (by decide) rfl (fun ls hl => ?_)
          refine lv_iload_n hx hb dX10_takenBy_92 rfl (lv_at hl 0 rfl) ?_
          exact W.iret (v := x_94) hx hb hr (fun t ht hW => ⟨_, rfl, trivial, ht⟩) (fun q h => absurd h List.not_mem_nil) dX10_takenBy_93
    ·
      refine lv_aload_n hx hb dX10_takenBy_30 rfl (lv_at hl 1 rfl) ?_
      obtain ⟨kk_95, hk_96⟩ := pl_at ha0.1 hs_10
      refine va_get (D := (dC, dI)) (ci := 9) (v := .ref pa_4) (C := RX10) (T := TX10) (N := 9) hx hb hts (by decide +kernel) hown hK hP kk_95 hk_96 rfl 2 (by decide) (hts (.fieldLink RX10 60 "PageOne$Story" "pieces" "[LPageOne$Piece;") (by decide +kernel)) (fun x9 h9 => u_same (hts (.sameField "PageOne$Story" "PageOne$Item" "pieces" "[LPageOne$Piece;") (by decide +kernel)) x9 h9) rfl dX10_takenBy_31 ?_
      refine lv_iload_n hx hb dX10_takenBy_34 rfl (lv_at hl 2 rfl) ?_
      refine lv_iconst (v := 1) hx hb dX10_takenBy_35 (by decide) ?_
      refine lv_isub hx hb dX10_takenBy_36 ?_
      obtain ⟨kk_97, hk_98⟩ := pl_at hs_11.1 hs_25
      refine va_aldq hx hb hK hP kk_97 5 hk_98 rfl (vknm h6_27 hc_28 b_19 c_49).1 dX10_takenBy_37 ?_
      obtain ⟨b_99, hg_100⟩ := hn_29 ((p0 - 1) : Int32).toNatClampNeg (vknm h6_27 hc_28 b_19 c_49).2
      have ht_101 := hg_30 ((p0 - 1) : Int32).toNatClampNeg (vlt (vknm h6_27 hc_28 b_19 c_49).1) b_99 hg_100
      rw [hg_100]
      refine W.eq (g2 := F0 m 38 ls [.ref b_99]) rfl ?_
      have hcp := ht_101
      obtain ⟨it_102, P_103, X_104, Y_105, D_106, N_107, hp_108, hb_109, hb_110, hb_111, hb_112⟩ := hcp
      obtain ⟨kk_113, hk_114⟩ := pl_at hp_108.1.1 (x_pcF hI hp_108)
      refine va_get (D := (dC, dI)) (ci := 7) (v := .int P_103) (C := RX8) (T := TX8) (N := 6) hx hb hts (by decide +kernel) hown hK hP kk_113 hk_114 rfl 1 (by decide) (hts (.fieldLink RX10 42 "PageOne$Piece" "page" "I") (by decide +kernel)) (fun _ h9 => h9) rfl dX10_takenBy_38 ?_
      refine lv_aload_n hx hb dX10_takenBy_41 rfl (lv_at hl 1 rfl) ?_
      obtain ⟨kk_115, hk_116⟩ := pl_at ha0.1 hs_10
      refine va_get (D := (dC, dI)) (ci := 9) (v := .ref pa_4) (C := RX10) (T := TX10) (N := 9) hx hb hts (by decide +kernel) hown hK hP kk_115 hk_116 rfl 2 (by decide) (hts (.fieldLink RX10 60 "PageOne$Story" "pieces" "[LPageOne$Piece;") (by decide +kernel)) (fun x9 h9 => u_same (hts (.sameField "PageOne$Story" "PageOne$Item" "pieces" "[LPageOne$Piece;") (by decide +kernel)) x9 h9) rfl dX10_takenBy_42 ?_
      refine lv_iload_n hx hb dX10_takenBy_45 rfl (lv_at hl 2 rfl) ?_
      obtain ⟨kk_117, hk_118⟩ := pl_at hs_11.1 hs_25
      refine va_aldq hx hb hK hP kk_117 5 hk_118 rfl (vkn h6_27 hc_28 b_19).1 dX10_takenBy_46 ?_
      obtain ⟨b_119, hg_120⟩ := hn_29 (p0 : Int32).toNatClampNeg (vkn h6_27 hc_28 b_19).2
      have ht_121 := hg_30 (p0 : Int32).toNatClampNeg (vlt (vkn h6_27 hc_28 b_19).1) b_119 hg_120
      rw [hg_120]
      refine W.eq (g2 := F0 m 47 ls [.ref b_119, .int P_103]) rfl ?_
      have hcp := ht_121
      obtain ⟨it_122, P_123, X_124, Y_125, D_126, N_127, hp_128, hb_129, hb_130, hb_131, hb_132⟩ := hcp
      obtain ⟨kk_133, hk_134⟩ := pl_at hp_128.1.1 (x_pcF hI hp_128)
      refine va_get (D := (dC, dI)) (ci := 7) (v := .int P_123) (C := RX8) (T := TX8) (N := 6) hx hb hts (by decide +kernel) hown hK hP kk_133 hk_134 rfl 1 (by decide) (hts (.fieldLink RX10 42 "PageOne$Piece" "page" "I") (by decide +kernel)) (fun _ h9 => h9) rfl dX10_takenBy_47 ?_
      refine lv_icmp_eq (tgt := 56) hx hb dX10_takenBy_50 (by decide) (fun c_135 => ?_) (fun c_135 => ?_)
      ·
        refine lv_iload_n hx hb dX10_takenBy_56 rfl (lv_at hl 2 rfl) ?_
        refine lv_iconst (v := 1) hx hb dX10_takenBy_57 (by decide) ?_
        refine lv_iadd hx hb dX10_takenBy_58 ?_
        refine lv_aload_n hx hb dX10_takenBy_59 rfl (lv_at hl 1 rfl) ?_
        obtain ⟨kk_136, hk_137⟩ := pl_at ha0.1 hs_10
        refine va_get (D := (dC, dI)) (ci := 9) (v := .int cn_3) (C := RX10) (T := TX10) (N := 9) hx hb hts (by decide +kernel) hown hK hP kk_136 hk_137 rfl 3 (by decide) (hts (.fieldLink RX10 49 "PageOne$Story" "count" "I") (by decide +kernel)) (fun x9 h9 => u_same (hts (.sameField "PageOne$Story" "PageOne$Item" "count" "I") (by decide +kernel)) x9 h9) rfl dX10_takenBy_60 ?_
        refine lv_icmp_ge (tgt := 92) hx hb dX10_takenBy_63 (by decide) (fun c_138 => ?_) (fun c_138 => ?_)
        ·
          refine lv_iload_n hx hb dX10_takenBy_92 rfl (lv_at hl 0 rfl) ?_
          exact W.iret (v := N_41) hx hb hr (fun t ht hW => ⟨_, rfl, trivial, ht⟩) (fun q h => absurd h List.not_mem_nil) dX10_takenBy_93
        ·
          refine lv_aload_n hx hb dX10_takenBy_66 rfl (lv_at hl 1 rfl) ?_
          obtain ⟨kk_139, hk_140⟩ := pl_at ha0.1 hs_10
          refine va_get (D := (dC, dI)) (ci := 9) (v := .ref pa_4) (C := RX10) (T := TX10) (N := 9) hx hb hts (by decide +kernel) hown hK hP kk_139 hk_140 rfl 2 (by decide) (hts (.fieldLink RX10 60 "PageOne$Story" "pieces" "[LPageOne$Piece;") (by decide +kernel)) (fun x9 h9 => u_same (hts (.sameField "PageOne$Story" "PageOne$Item" "pieces" "[LPageOne$Piece;") (by decide +kernel)) x9 h9) rfl dX10_takenBy_67 ?_
          refine lv_iload_n hx hb dX10_takenBy_70 rfl (lv_at hl 2 rfl) ?_
          refine lv_iconst (v := 1) hx hb dX10_takenBy_71 (by decide) ?_
          refine lv_iadd hx hb dX10_takenBy_72 ?_
          obtain ⟨kk_141, hk_142⟩ := pl_at hs_11.1 hs_25
          refine va_aldq hx hb hK hP kk_141 5 hk_142 rfl (vknp h6_27 hc_28 b_19 c_138).1 dX10_takenBy_73 ?_
          obtain ⟨b_143, hg_144⟩ := hn_29 ((p0 + 1) : Int32).toNatClampNeg (vknp h6_27 hc_28 b_19 c_138).2
          have ht_145 := hg_30 ((p0 + 1) : Int32).toNatClampNeg (vlt (vknp h6_27 hc_28 b_19 c_138).1) b_143 hg_144
          rw [hg_144]
          refine W.eq (g2 := F0 m 74 ls [.ref b_143]) rfl ?_
          have hcp := ht_145
          obtain ⟨it_146, P_147, X_148, Y_149, D_150, N_151, hp_152, hb_153, hb_154, hb_155, hb_156⟩ := hcp
          obtain ⟨kk_157, hk_158⟩ := pl_at hp_152.1.1 (x_pcF hI hp_152)
          refine va_get (D := (dC, dI)) (ci := 7) (v := .int P_147) (C := RX8) (T := TX8) (N := 6) hx hb hts (by decide +kernel) hown hK hP kk_157 hk_158 rfl 1 (by decide) (hts (.fieldLink RX10 42 "PageOne$Piece" "page" "I") (by decide +kernel)) (fun _ h9 => h9) rfl dX10_takenBy_74 ?_
          refine lv_aload_n hx hb dX10_takenBy_77 rfl (lv_at hl 1 rfl) ?_
          obtain ⟨kk_159, hk_160⟩ := pl_at ha0.1 hs_10
          refine va_get (D := (dC, dI)) (ci := 9) (v := .ref pa_4) (C := RX10) (T := TX10) (N := 9) hx hb hts (by decide +kernel) hown hK hP kk_159 hk_160 rfl 2 (by decide) (hts (.fieldLink RX10 60 "PageOne$Story" "pieces" "[LPageOne$Piece;") (by decide +kernel)) (fun x9 h9 => u_same (hts (.sameField "PageOne$Story" "PageOne$Item" "pieces" "[LPageOne$Piece;") (by decide +kernel)) x9 h9) rfl dX10_takenBy_78 ?_
          refine lv_iload_n hx hb dX10_takenBy_81 rfl (lv_at hl 2 rfl) ?_
          obtain ⟨kk_161, hk_162⟩ := pl_at hs_11.1 hs_25
          refine va_aldq hx hb hK hP kk_161 5 hk_162 rfl (vkn h6_27 hc_28 b_19).1 dX10_takenBy_82 ?_
          obtain ⟨b_163, hg_164⟩ := hn_29 (p0 : Int32).toNatClampNeg (vkn h6_27 hc_28 b_19).2
          have ht_165 := hg_30 (p0 : Int32).toNatClampNeg (vlt (vkn h6_27 hc_28 b_19).1) b_163 hg_164
          rw [hg_164]
          refine W.eq (g2 := F0 m 83 ls [.ref b_163, .int P_147]) rfl ?_
          have hcp := ht_165
          obtain ⟨it_166, P_167, X_168, Y_169, D_170, N_171, hp_172, hb_173, hb_174, hb_175, hb_176⟩ := hcp
          obtain ⟨kk_177, hk_178⟩ := pl_at hp_172.1.1 (x_pcF hI hp_172)
          refine va_get (D := (dC, dI)) (ci := 7) (v := .int P_167) (C := RX8) (T := TX8) (N := 6) hx hb hts (by decide +kernel) hown hK hP kk_177 hk_178 rfl 1 (by decide) (hts (.fieldLink RX10 42 "PageOne$Piece" "page" "I") (by decide +kernel)) (fun _ h9 => h9) rfl dX10_takenBy_83 ?_
          refine lv_icmp_eq (tgt := 92) hx hb dX10_takenBy_86 (by decide) (fun c_179 => ?_) (fun c_179 => ?_)
          ·
            refine lv_iload_n hx hb dX10_takenBy_92 rfl (lv_at hl 0 rfl) ?_
            exact W.iret (v := N_41) hx hb hr (fun t ht hW => ⟨_, rfl, trivial, ht⟩) (fun q h => absurd h List.not_mem_nil) dX10_takenBy_93
          ·
            obtain ⟨x_180, ex_180⟩ : ∃ y : Int32, y = N_41 + (-1) := ⟨_, rfl⟩
            refine lv_iinc (v := x_180) (lv' := [(2, .int x_180), (0, .ref a0), (1, .int p0)]) hx hb dX10_takenBy_89 hl (k := 0) rfl (by rw [ex_180]; rfl) (by decide) rfl (fun ls hl => ?_)
            refine lv_iload_n hx hb dX10_takenBy_92 rfl (lv_at hl 0 rfl) ?_
            exact W.iret (v := x_180) hx hb hr (fun t ht hW => ⟨_, rfl, trivial, ht⟩) (fun q h => absurd h List.not_mem_nil) dX10_takenBy_93
      ·
        obtain ⟨x_181, ex_181⟩ : ∃ y : Int32, y = N_41 + (-1) := ⟨_, rfl⟩
        refine lv_iinc (v := x_181) (lv' := [(2, .int x_181), (0, .ref a0), (1, .int p0)]) hx hb dX10_takenBy_53 hl (k := 0) rfl (by rw [ex_181]; rfl) (by decide) rfl (fun ls hl => ?_)
        refine lv_iload_n hx hb dX10_takenBy_56 rfl (lv_at hl 2 rfl) ?_
        refine lv_iconst (v := 1) hx hb dX10_takenBy_57 (by decide) ?_
        refine lv_iadd hx hb dX10_takenBy_58 ?_
        refine lv_aload_n hx hb dX10_takenBy_59 rfl (lv_at hl 1 rfl) ?_
        obtain ⟨kk_182, hk_183⟩ := pl_at ha0.1 hs_10
        refine va_get (D := (dC, dI)) (ci := 9) (v := .int cn_3) (C := RX10) (T := TX10) (N := 9) hx hb hts (by decide +kernel) hown hK hP kk_182 hk_183 rfl 3 (by decide) (hts (.fieldLink RX10 49 "PageOne$Story" "count" "I") (by decide +kernel)) (fun x9 h9 => u_same (hts (.sameField "PageOne$Story" "PageOne$Item" "count" "I") (by decide +kernel)) x9 h9) rfl dX10_takenBy_60 ?_
        refine lv_icmp_ge (tgt := 92) hx hb dX10_takenBy_63 (by decide) (fun c_184 => ?_) (fun c_184 => ?_)
        ·
          refine lv_iload_n hx hb dX10_takenBy_92 rfl (lv_at hl 0 rfl) ?_
          exact W.iret (v := x_181) hx hb hr (fun t ht hW => ⟨_, rfl, trivial, ht⟩) (fun q h => absurd h List.not_mem_nil) dX10_takenBy_93
        ·
          refine lv_aload_n hx hb dX10_takenBy_66 rfl (lv_at hl 1 rfl) ?_
          obtain ⟨kk_185, hk_186⟩ := pl_at ha0.1 hs_10
          refine va_get (D := (dC, dI)) (ci := 9) (v := .ref pa_4) (C := RX10) (T := TX10) (N := 9) hx hb hts (by decide +kernel) hown hK hP kk_185 hk_186 rfl 2 (by decide) (hts (.fieldLink RX10 60 "PageOne$Story" "pieces" "[LPageOne$Piece;") (by decide +kernel)) (fun x9 h9 => u_same (hts (.sameField "PageOne$Story" "PageOne$Item" "pieces" "[LPageOne$Piece;") (by decide +kernel)) x9 h9) rfl dX10_takenBy_67 ?_
          refine lv_iload_n hx hb dX10_takenBy_70 rfl (lv_at hl 2 rfl) ?_
          refine lv_iconst (v := 1) hx hb dX10_takenBy_71 (by decide) ?_
          refine lv_iadd hx hb dX10_takenBy_72 ?_
          obtain ⟨kk_187, hk_188⟩ := pl_at hs_11.1 hs_25
          refine va_aldq hx hb hK hP kk_187 5 hk_188 rfl (vknp h6_27 hc_28 b_19 c_184).1 dX10_takenBy_73 ?_
          obtain ⟨b_189, hg_190⟩ := hn_29 ((p0 + 1) : Int32).toNatClampNeg (vknp h6_27 hc_28 b_19 c_184).2
          have ht_191 := hg_30 ((p0 + 1) : Int32).toNatClampNeg (vlt (vknp h6_27 hc_28 b_19 c_184).1) b_189 hg_190
          rw [hg_190]
          refine W.eq (g2 := F0 m 74 ls [.ref b_189]) rfl ?_
          have hcp := ht_191
          obtain ⟨it_192, P_193, X_194, Y_195, D_196, N_197, hp_198, hb_199, hb_200, hb_201, hb_202⟩ := hcp
          obtain ⟨kk_203, hk_204⟩ := pl_at hp_198.1.1 (x_pcF hI hp_198)
          refine va_get (D := (dC, dI)) (ci := 7) (v := .int P_193) (C := RX8) (T := TX8) (N := 6) hx hb hts (by decide +kernel) hown hK hP kk_203 hk_204 rfl 1 (by decide) (hts (.fieldLink RX10 42 "PageOne$Piece" "page" "I") (by decide +kernel)) (fun _ h9 => h9) rfl dX10_takenBy_74 ?_
          refine lv_aload_n hx hb dX10_takenBy_77 rfl (lv_at hl 1 rfl) ?_
          obtain ⟨kk_205, hk_206⟩ := pl_at ha0.1 hs_10
          refine va_get (D := (dC, dI)) (ci := 9) (v := .ref pa_4) (C := RX10) (T := TX10) (N := 9) hx hb hts (by decide +kernel) hown hK hP kk_205 hk_206 rfl 2 (by decide) (hts (.fieldLink RX10 60 "PageOne$Story" "pieces" "[LPageOne$Piece;") (by decide +kernel)) (fun x9 h9 => u_same (hts (.sameField "PageOne$Story" "PageOne$Item" "pieces" "[LPageOne$Piece;") (by decide +kernel)) x9 h9) rfl dX10_takenBy_78 ?_
          refine lv_iload_n hx hb dX10_takenBy_81 rfl (lv_at hl 2 rfl) ?_
          obtain ⟨kk_207, hk_208⟩ := pl_at hs_11.1 hs_25
          refine va_aldq hx hb hK hP kk_207 5 hk_208 rfl (vkn h6_27 hc_28 b_19).1 dX10_takenBy_82 ?_
          obtain ⟨b_209, hg_210⟩ := hn_29 (p0 : Int32).toNatClampNeg (vkn h6_27 hc_28 b_19).2
          have ht_211 := hg_30 (p0 : Int32).toNatClampNeg (vlt (vkn h6_27 hc_28 b_19).1) b_209 hg_210
          rw [hg_210]
          refine W.eq (g2 := F0 m 83 ls [.ref b_209, .int P_193]) rfl ?_
          have hcp := ht_211
          obtain ⟨it_212, P_213, X_214, Y_215, D_216, N_217, hp_218, hb_219, hb_220, hb_221, hb_222⟩ := hcp
          obtain ⟨kk_223, hk_224⟩ := pl_at hp_218.1.1 (x_pcF hI hp_218)
          refine va_get (D := (dC, dI)) (ci := 7) (v := .int P_213) (C := RX8) (T := TX8) (N := 6) hx hb hts (by decide +kernel) hown hK hP kk_223 hk_224 rfl 1 (by decide) (hts (.fieldLink RX10 42 "PageOne$Piece" "page" "I") (by decide +kernel)) (fun _ h9 => h9) rfl dX10_takenBy_83 ?_
          refine lv_icmp_eq (tgt := 92) hx hb dX10_takenBy_86 (by decide) (fun c_225 => ?_) (fun c_225 => ?_)
          ·
            refine lv_iload_n hx hb dX10_takenBy_92 rfl (lv_at hl 0 rfl) ?_
            exact W.iret (v := x_181) hx hb hr (fun t ht hW => ⟨_, rfl, trivial, ht⟩) (fun q h => absurd h List.not_mem_nil) dX10_takenBy_93
          ·
            obtain ⟨x_226, ex_226⟩ : ∃ y : Int32, y = x_181 + (-1) := ⟨_, rfl⟩
            refine lv_iinc (v := x_226) (lv' := [(2, .int x_226), (0, .ref a0), (1, .int p0)]) hx hb dX10_takenBy_89 hl (k := 0) rfl (by rw [ex_226]; rfl) (by decide) rfl (fun ls hl => ?_)
            refine lv_iload_n hx hb dX10_takenBy_92 rfl (lv_at hl 0 rfl) ?_
            exact W.iret (v := x_226) hx hb hr (fun t ht hW => ⟨_, rfl, trivial, ht⟩) (fun q h => absurd h List.not_mem_nil) dX10_takenBy_93
  ·
    obtain rfl : r = 0 := b_f hw b_19
    refine lv_if_ne (tgt := 16) hx hb dX10_takenBy_11 (by decide) (fun c_227 => absurd (by decide) c_227) (fun c_227 => ?_)
    refine lv_iconst (v := 0) hx hb dX10_takenBy_14 (by decide) ?_
    exact W.iret (v := 0) hx hb hr (fun t ht hW => ⟨_, rfl, trivial, ht⟩) (fun q h => absurd h List.not_mem_nil) dX10_takenBy_15
set_option maxHeartbeats 4000000 in
set_option maxRecDepth 100000 in
theorem x_takenBefore_l {p : Program} {l : Launch} {e : Env} {R : Room} {s : State} {m : MethodId} {args : Array Value} {below : List Frame} {meth : Method} {c : Code} {Q : State → Prop} {cells slots : Nat} {dC : Nat → ClassId} {dI : Nat → Nat → Nat} {q : Nat → ClassId} {h0 : Nat} {d : Nat → Nat} {k : Nat → Int32} {z : gS} {f : xF} {H : Heap} {locs : List Loc} (hI : xI q h0 d k z f) (hx : p.tables.exec = Jvm.exec) (hb : c.code = cX10_takenBefore) (hml : c.maxLocals = 4) (hts : ∀ w ∈ wsX10_takenBefore, w.before args s = true) (hown : s.vm.findClass RX10 = some m.cls) (hN : NN s) (hXN : XN s) (hK : va_K (dC, dI) vwCl (xT q) s) (hRf : 2 ≤ R.frames) (hRl : 44 ≤ R.locals) (hRc : cells ≤ R.cells) (hRs : slots ≤ R.slots) (hP : va_P (dC, dI) vwCl (va_pl z.1 f) H) {a0 : Nat} {nu kd l9 co9 : Int32} {pa fa wd nm K : Nat} (ha0 : tg z a0 15) (hs : f a0 = .inr (9, [.int nu, .int kd, .ref pa, .int (nI K), .ref fa, .int l9, .ref wd, .int co9, .ref nm])) (hK6 : K ≤ 6) {p0 : Int32} (kx31 : ∀ (a9 : Int32) (ls : Array Slot), lv_has ls 4 [(2, .int a9), (0, .ref a0), (1, .int p0)] → W p l e R s m args below meth c H locs cells slots Q (F0 m 31 ls [])) : ∀ (kk i : Nat) (a : Int32) (ls : Array Slot), i ≤ K → K - i < kk → lv_has ls 4 [(3, .int (nI i)), (2, .int a), (0, .ref a0), (1, .int p0)] → W p l e R s m args below meth c H locs cells slots Q (F0 m 4 ls []) := by
  intro kk
  induction kk with
  | zero => intro i a ls h1 h2; exact absurd h2 (Nat.not_lt_zero _)
  | succ kk ih =>
    intro i a ls hi hkk hl
    refine lv_iload_n hx hb dX10_takenBefore_4 rfl (lv_at hl 0 rfl) ?_
    refine lv_iload_n hx hb dX10_takenBefore_5 rfl (lv_at hl 3 rfl) ?_
    refine lv_icmp_ge (tgt := 31) hx hb dX10_takenBefore_6 (by decide) (fun c_1 => ?_) (fun c_1 => ?_)
    ·
      exact kx31 _ ls (lv_sub hl [1, 2, 3] rfl)
    ·
      refine lv_iload_n hx hb dX10_takenBefore_9 rfl (lv_at hl 0 rfl) ?_
      refine lv_aload_n hx hb dX10_takenBefore_10 rfl (lv_at hl 2 rfl) ?_
      obtain ⟨kk_2, hk_3⟩ := pl_at ha0.1 hs
      refine va_get (D := (dC, dI)) (ci := 9) (v := .int (nI K)) (C := RX10) (T := TX10) (N := 9) hx hb hts (by decide +kernel) hown hK hP kk_2 hk_3 rfl 3 (by decide) (hts (.fieldLink RX10 49 "PageOne$Story" "count" "I") (by decide +kernel)) (fun x9 h9 => u_same (hts (.sameField "PageOne$Story" "PageOne$Item" "count" "I") (by decide +kernel)) x9 h9) rfl dX10_takenBefore_11 ?_
      refine lv_icmp_ge (tgt := 31) hx hb dX10_takenBefore_14 (by decide) (fun c_4 => ?_) (fun c_4 => ?_)
      ·
        have hie : i = K := lp_eq rfl (by omega) hi c_4
        exact kx31 _ ls (lv_sub hl [1, 2, 3] rfl)
      ·
        have hlt : i < K := lp_lt rfl (by omega) hi c_4
        refine lv_iload_n hx hb dX10_takenBefore_17 rfl (lv_at hl 1 rfl) ?_
        refine lv_aload_n hx hb dX10_takenBefore_18 rfl (lv_at hl 2 rfl) ?_
        refine lv_iload_n hx hb dX10_takenBefore_19 rfl (lv_at hl 0 rfl) ?_
        obtain ⟨kk_5, hk_6⟩ := pl_at ha0.1 hs
        refine vp_callSi (va_runV (As := [.int (nI i)]) (rest := [.int a]) ⟨hx, hb, hml, hown, hts⟩ (x_takenBy l dC dI q h0 d k z f hI a0 (nI i) ha0) (cwV 1 hts gX10_takenBefore_X10_takenBy rfl rfl rfl (by decide +kernel) ⟨Nat.le_trans (Nat.le_of_ble_eq_true rfl) hRf, Nat.le_trans (Nat.le_of_ble_eq_true rfl) hRl⟩) ⟨px_fb, va_recv hK hP (ci := 9) (q0 := kk_5) rfl hk_6, fun U hU hW => ⟨rfl, px_to hU hW hP hK hN hXN⟩⟩ rfl rfl hl.1 rfl (lv_room (Nat.le_of_ble_eq_true rfl)) dX10_takenBefore_20 ⟨hRc, hRs⟩).run (fun r hw => ?_)
        generalize r = zr_7 at hw ⊢
        have hzr_7 := hw
        refine lv_iadd hx hb dX10_takenBefore_23 ?_
        refine lv_topi (fun x_8 ex_8 => ?_)
        refine lv_istore_n (lv' := [(2, .int x_8), (3, .int (nI i)), (0, .ref a0), (1, .int p0)]) hx hb dX10_takenBefore_24 rfl hl (by decide) rfl (fun ls hl => ?_)
        refine lv_iinc (v := (nI (i + 1))) (lv' := [(3, .int (nI (i + 1))), (2, .int x_8), (0, .ref a0), (1, .int p0)]) hx hb dX10_takenBefore_25 hl (k := 1) rfl (nI_1 i) (by decide) rfl (fun ls hl => ?_)
        refine lv_goto (tgt := 4) hx hb dX10_takenBefore_28 (by decide) ?_
        exact ih (i + 1) _ ls (by omega) (by omega) (lv_sub hl [0, 1, 2, 3] rfl)
set_option maxHeartbeats 4000000 in
set_option maxRecDepth 100000 in
theorem x_takenBefore (l : Launch) (dC : Nat → ClassId) (dI : Nat → Nat → Nat) (q : Nat → ClassId) (h0 : Nat) (d : Nat → Nat) (k : Nat → Int32) (z : gS) (f : xF) (hI : xI q h0 d k z f) (a0 : Nat) (p0 : Int32) (ha0 : tg z a0 15) : Met l yX10_takenBefore wsX10_takenBefore ({ frames := 2, cells := 0, slots := 0, locals := 44 }) (va_Pc [.ref a0, .int p0] (PX dC dI (va_pl z.1 f) (xT q))) (vp_Si (fun r => True)) 0 0 (fun _ => False) := by
  refine Met.ofW (cc := cX10_takenBefore) (maxL := 4) (ret := (some .int)) (by decide) rfl ?_
  intro p e s m args below meth c s₁ B hml hv
  obtain ⟨rfl, ⟨hP, hK, hN⟩, hXN⟩ := hv
  have hx := B.exec
  have hb := B.bytes
  have hr := B.returns
  have hts := atoms_spec (ws := wsX10_takenBefore) B.pre
  have hown : s.vm.findClass RX10 = some m.cls := findClass_of_methodNamed B.named
  have hlocks := B.notSynchronized
  have hl := lv_entry ([.ref a0, .int p0]) (n := 4) (Nat.le_of_ble_eq_true rfl)
  rw [lg_entry_eq]
  generalize (lg_sl ([.ref a0, .int p0]) ++ List.replicate (4 - (lg_sl ([.ref a0, .int p0])).length) Slot.unset).toArray = ls at hl ⊢
  have hl : lv_has ls 4 [(0, .ref a0), (1, .int p0)] := hl
  refine lv_iconst (v := 0) hx hb dX10_takenBefore_0 (by decide) ?_
  refine lv_istore_n (lv' := [(2, .int 0), (0, .ref a0), (1, .int p0)]) hx hb dX10_takenBefore_1 rfl hl (by decide) rfl (fun ls hl => ?_)
  refine lv_iconst (v := 0) hx hb dX10_takenBefore_2 (by decide) ?_
  refine lv_istore_n (lv' := [(3, .int 0), (2, .int 0), (0, .ref a0), (1, .int p0)]) hx hb dX10_takenBefore_3 rfl hl (by decide) rfl (fun ls hl => ?_)
  obtain ⟨nu_1, kd_2, cn_3, pa_4, fa_5, l_6, co_7, wd_8, nm_9, hs_10, hs_11, hs_12, hs_13, hq_14, hq_15, hq_16⟩ := x_ist hI ha0
  obtain ⟨n_17, g_18, hs_19, h1_20, h6_21, hc_22, hn_23, hg_24⟩ := x_pcs hI (tg_itm ha0 (by decide)) (by rw [ha0.2]; rfl) hs_10
  obtain ⟨K, hK1, -, eK⟩ := exN hc_22 (by decide)
  rw [nI_toInt (by omega)] at hK1
  subst eK
  refine x_takenBefore_l hI hx hb hml hts hown hN hXN hK (Nat.le_of_ble_eq_true rfl) (Nat.le_of_ble_eq_true rfl) (Nat.le_of_ble_eq_true rfl) (Nat.le_of_ble_eq_true rfl) hP ha0 hs_10 (by omega) (fun a9 ls hl => ?_) (K + 1) 0 0 ls (Nat.zero_le _) (by omega) (lv_sub hl [0, 1, 2, 3] rfl)
  refine lv_iload_n hx hb dX10_takenBefore_31 rfl (lv_at hl 0 rfl) ?_
  exact W.iret (v := a9) hx hb hr (fun t ht hW => ⟨_, rfl, trivial, ht⟩) (fun q h => absurd h List.not_mem_nil) dX10_takenBefore_32
set_option maxHeartbeats 4000000 in
set_option maxRecDepth 100000 in
theorem x_standing (l : Launch) (dC : Nat → ClassId) (dI : Nat → Nat → Nat) (q : Nat → ClassId) (h0 : Nat) (d : Nat → Nat) (k : Nat → Int32) (z : gS) (f : xF) (hI : xI q h0 d k z f) (a0 : Nat) (ha0 : tg z a0 15) : Met l yX10_standing wsX10_standing ({ frames := 3, cells := 0, slots := 0, locals := 67 }) (va_Pc [.ref a0] (PX dC dI (va_pl z.1 f) (xT q))) (vp_Si (fun r => True)) 0 0 (fun _ => False) := by
  refine Met.ofW (cc := cX10_standing) (maxL := 1) (ret := (some .int)) (by decide) rfl ?_
  intro p e s m args below meth c s₁ B hml hv
  obtain ⟨rfl, ⟨hP, hK, hN⟩, hXN⟩ := hv
  have hx := B.exec
  have hb := B.bytes
  have hr := B.returns
  have hts := atoms_spec (ws := wsX10_standing) B.pre
  have hown : s.vm.findClass RX10 = some m.cls := findClass_of_methodNamed B.named
  have hlocks := B.notSynchronized
  have hl := lv_entry ([.ref a0]) (n := 1) (Nat.le_of_ble_eq_true rfl)
  rw [lg_entry_eq]
  generalize (lg_sl ([.ref a0]) ++ List.replicate (1 - (lg_sl ([.ref a0])).length) Slot.unset).toArray = ls at hl ⊢
  have hl : lv_has ls 1 [(0, .ref a0)] := hl
  refine lv_aload_n hx hb dX10_standing_0 rfl (lv_at hl 0 rfl) ?_
  refine lv_aload_n hx hb dX10_standing_1 rfl (lv_at hl 0 rfl) ?_
  obtain ⟨nu_1, kd_2, cn_3, pa_4, fa_5, l_6, co_7, wd_8, nm_9, hs_10, hs_11, hs_12, hs_13, hq_14, hq_15, hq_16⟩ := x_ist hI ha0
  obtain ⟨kk_17, hk_18⟩ := pl_at ha0.1 hs_10
  refine va_get (D := (dC, dI)) (ci := 9) (v := .int cn_3) (C := RX10) (T := TX10) (N := 9) hx hb hts (by decide +kernel) hown hK hP kk_17 hk_18 rfl 3 (by decide) (hts (.fieldLink RX10 49 "PageOne$Story" "count" "I") (by decide +kernel)) (fun x9 h9 => u_same (hts (.sameField "PageOne$Story" "PageOne$Item" "count" "I") (by decide +kernel)) x9 h9) rfl dX10_standing_2 ?_
  obtain ⟨kk_19, hk_20⟩ := pl_at ha0.1 hs_10
  refine vp_callSi (va_runV (As := [.int cn_3]) (rest := []) ⟨hx, hb, hml, hown, hts⟩ (x_takenBefore l dC dI q h0 d k z f hI a0 cn_3 ha0) (cwV 1 hts gX10_standing_X10_takenBefore rfl rfl rfl (by decide +kernel) ⟨Nat.le_of_ble_eq_true rfl, Nat.le_of_ble_eq_true rfl⟩) ⟨px_fb, va_recv hK hP (ci := 9) (q0 := kk_19) rfl hk_20, fun U hU hW => ⟨rfl, px_to hU hW hP hK hN hXN⟩⟩ rfl rfl hl.1 rfl (lv_room (Nat.le_of_ble_eq_true rfl)) dX10_standing_5 ⟨Nat.le_of_ble_eq_true rfl, Nat.le_of_ble_eq_true rfl⟩).run (fun r hw => ?_)
  generalize r = zr_21 at hw ⊢
  have hzr_21 := hw
  exact W.iret (v := zr_21) hx hb hr (fun t ht hW => ⟨_, rfl, trivial, ht⟩) (fun q h => absurd h List.not_mem_nil) dX10_standing_8
set_option maxHeartbeats 4000000 in
set_option maxRecDepth 100000 in
theorem x_canTake_l {p : Program} {l : Launch} {e : Env} {R : Room} {s : State} {m : MethodId} {args : Array Value} {below : List Frame} {meth : Method} {c : Code} {Q : State → Prop} {cells slots : Nat} {dC : Nat → ClassId} {dI : Nat → Nat → Nat} {q : Nat → ClassId} {h0 : Nat} {d : Nat → Nat} {k : Nat → Int32} {z : gS} {f : xF} {H : Heap} {locs : List Loc} (hI : xI q h0 d k z f) (hx : p.tables.exec = Jvm.exec) (hb : c.code = cX10_canTake) (hml : c.maxLocals = 5) (hts : ∀ w ∈ wsX10_canTake, w.before args s = true) (hown : s.vm.findClass RX10 = some m.cls) (hN : NN s) (hXN : XN s) (hK : va_K (dC, dI) vwCl (xT q) s) (hP : va_P (dC, dI) vwCl (va_pl z.1 f) H) {a0 wd : Nat} {A T : Nat} {p2 : Int32} {nu kd l9 co9 cn9 : Int32} {pa fa nm : Nat} (ha0 : tg z a0 15) (hs : f a0 = .inr (9, [.int nu, .int kd, .ref pa, .int cn9, .ref fa, .int l9, .ref wd, .int co9, .ref nm])) (hwd : tg z wd 18) (hAT : A + T ≤ 80) (kx51 : ∀ (ls : Array Slot), lv_has ls 5 [(0, .ref a0), (1, .int (nI A)), (2, .int (nI T)), (3, .int p2)] → W p l e R s m args below meth c H locs cells slots Q (F0 m 51 ls [])) (kx43 : ∀ (ls : Array Slot), lv_has ls 5 [(0, .ref a0), (1, .int (nI A)), (2, .int (nI T)), (3, .int p2)] → W p l e R s m args below meth c H locs cells slots Q (F0 m 43 ls [])) : ∀ (kk i : Nat) (ls : Array Slot), i ≤ T → T - i < kk → lv_has ls 5 [(4, .int (nI (A + i))), (0, .ref a0), (1, .int (nI A)), (2, .int (nI T)), (3, .int p2)] → W p l e R s m args below meth c H locs cells slots Q (F0 m 24 ls []) := by
  intro kk
  induction kk with
  | zero => intro i ls h1 h2; exact absurd h2 (Nat.not_lt_zero _)
  | succ kk ih =>
    intro i ls hi hkk hl
    refine lv_iload hx hb dX10_canTake_24 (lv_at hl 0 rfl) ?_
    refine lv_iload_n hx hb dX10_canTake_26 rfl (lv_at hl 2 rfl) ?_
    refine lv_iload_n hx hb dX10_canTake_27 rfl (lv_at hl 3 rfl) ?_
    refine lv_iadd hx hb dX10_canTake_28 ?_
    refine lv_icmp_ge (tgt := 51) hx hb dX10_canTake_29 (by decide) (fun c_1 => ?_) (fun c_1 => ?_)
    ·
      have hie : i = T := by have := lp_eq (nI_add A T) (by omega) (by omega) c_1; omega
      exact kx51 ls (lv_sub hl [1, 2, 3, 4] rfl)
    ·
      have hlt : i < T := by have := lp_lt (nI_add A T) (by omega) (by omega) c_1; omega
      refine lv_aload_n hx hb dX10_canTake_32 rfl (lv_at hl 1 rfl) ?_
      obtain ⟨kk_2, hk_3⟩ := pl_at ha0.1 hs
      refine va_get (D := (dC, dI)) (ci := 9) (v := .ref wd) (C := RX10) (T := TX10) (N := 9) hx hb hts (by decide +kernel) hown hK hP kk_2 hk_3 rfl 6 (by decide) (hts (.fieldLink RX10 9 "PageOne$Story" "widths" "[I") (by decide +kernel)) (fun _ h9 => h9) rfl dX10_canTake_33 ?_
      refine lv_iload hx hb dX10_canTake_36 (lv_at hl 0 rfl) ?_
      obtain ⟨g_4, hs_5⟩ := x_18 hI hwd
      obtain ⟨kk_6, hk_7⟩ := pl_at hwd.1 hs_5
      refine va_iald hx hb hK hP kk_6 0 hk_7 rfl (vp_in_nI (by omega) (by decide)) dX10_canTake_38 ?_
      refine lv_iload_n hx hb dX10_canTake_39 rfl (lv_at hl 4 rfl) ?_
      refine lv_icmp_le (tgt := 45) hx hb dX10_canTake_40 (by decide) (fun c_8 => ?_) (fun c_8 => ?_)
      ·
        refine lv_iinc (v := (nI (A + i + 1))) (lv' := [(4, .int (nI (A + i + 1))), (0, .ref a0), (1, .int (nI A)), (2, .int (nI T)), (3, .int p2)]) hx hb dX10_canTake_45 hl (k := 0) rfl (nI_1 _) (by decide) rfl (fun ls hl => ?_)
        refine lv_goto (tgt := 24) hx hb dX10_canTake_48 (by decide) ?_
        exact ih (i + 1) ls (by omega) (by omega) (lv_sub hl [0, 1, 2, 3, 4] rfl)
      ·
        exact kx43 ls (lv_sub hl [1, 2, 3, 4] rfl)
set_option maxHeartbeats 4000000 in
set_option maxRecDepth 100000 in
theorem x_canTake (l : Launch) (dC : Nat → ClassId) (dI : Nat → Nat → Nat) (q : Nat → ClassId) (h0 : Nat) (d : Nat → Nat) (k : Nat → Int32) (z : gS) (f : xF) (hI : xI q h0 d k z f) (a0 : Nat) (p0 p1 p2 : Int32) (ha0 : tg z a0 15) : Met l yX10_canTake wsX10_canTake ({ frames := 0, cells := 0, slots := 0, locals := 0 }) (va_Pc [.ref a0, .int p0, .int p1, .int p2] (PX dC dI (va_pl z.1 f) (xT q))) (vp_Si (fun r => r = 0 ∨ r = 1)) 0 0 (fun _ => False) := by
  refine Met.ofW (cc := cX10_canTake) (maxL := 5) (ret := (some .boolean)) (by decide) rfl ?_
  intro p e s m args below meth c s₁ B hml hv
  obtain ⟨rfl, ⟨hP, hK, hN⟩, hXN⟩ := hv
  have hx := B.exec
  have hb := B.bytes
  have hr := B.returns
  have hts := atoms_spec (ws := wsX10_canTake) B.pre
  have hown : s.vm.findClass RX10 = some m.cls := findClass_of_methodNamed B.named
  have hlocks := B.notSynchronized
  have hl := lv_entry ([.ref a0, .int p0, .int p1, .int p2]) (n := 5) (Nat.le_of_ble_eq_true rfl)
  rw [lg_entry_eq]
  generalize (lg_sl ([.ref a0, .int p0, .int p1, .int p2]) ++ List.replicate (5 - (lg_sl ([.ref a0, .int p0, .int p1, .int p2])).length) Slot.unset).toArray = ls at hl ⊢
  have hl : lv_has ls 5 [(0, .ref a0), (1, .int p0), (2, .int p1), (3, .int p2)] := hl
  refine lv_iload_n hx hb dX10_canTake_0 rfl (lv_at hl 1 rfl) ?_
  refine lv_if_lt (tgt := 19) hx hb dX10_canTake_1 (by decide) (fun c_1 => ?_) (fun c_1 => ?_)
  ·
    refine lv_iconst (v := 0) hx hb dX10_canTake_19 (by decide) ?_
    exact W.zret (v := 0) hx hb hr (by decide) (fun t ht hW => ⟨_, rfl, (by decide), ht⟩) (fun q h => absurd h List.not_mem_nil) dX10_canTake_20
  ·
    refine lv_iload_n hx hb dX10_canTake_4 rfl (lv_at hl 2 rfl) ?_
    refine lv_iconst (v := 1) hx hb dX10_canTake_5 (by decide) ?_
    refine lv_icmp_lt (tgt := 19) hx hb dX10_canTake_6 (by decide) (fun c_2 => ?_) (fun c_2 => ?_)
    ·
      refine lv_iconst (v := 0) hx hb dX10_canTake_19 (by decide) ?_
      exact W.zret (v := 0) hx hb hr (by decide) (fun t ht hW => ⟨_, rfl, (by decide), ht⟩) (fun q h => absurd h List.not_mem_nil) dX10_canTake_20
    ·
      refine lv_iload_n hx hb dX10_canTake_9 rfl (lv_at hl 2 rfl) ?_
      refine lv_aload_n hx hb dX10_canTake_10 rfl (lv_at hl 0 rfl) ?_
      obtain ⟨nu_3, kd_4, cn_5, pa_6, fa_7, l_8, co_9, wd_10, nm_11, hs_12, hs_13, hs_14, hs_15, hq_16, hq_17, hq_18⟩ := x_ist hI ha0
      obtain ⟨kk_19, hk_20⟩ := pl_at ha0.1 hs_12
      refine va_get (D := (dC, dI)) (ci := 9) (v := .int co_9) (C := RX10) (T := TX10) (N := 9) hx hb hts (by decide +kernel) hown hK hP kk_19 hk_20 rfl 7 (by decide) (hts (.fieldLink RX10 15 "PageOne$Story" "come" "I") (by decide +kernel)) (fun _ h9 => h9) rfl dX10_canTake_11 ?_
      refine lv_iload_n hx hb dX10_canTake_14 rfl (lv_at hl 1 rfl) ?_
      refine lv_isub hx hb dX10_canTake_15 ?_
      refine lv_icmp_le (tgt := 21) hx hb dX10_canTake_16 (by decide) (fun c_21 => ?_) (fun c_21 => ?_)
      ·
        refine lv_iload_n hx hb dX10_canTake_21 rfl (lv_at hl 1 rfl) ?_
        refine lv_istore (lv' := [(4, .int p0), (0, .ref a0), (1, .int p0), (2, .int p1), (3, .int p2)]) hx hb dX10_canTake_22 hl (by decide) rfl (fun ls hl => ?_)
        obtain ⟨A, T, eA, eT, hAT⟩ := ct_b hq_17 c_1 c_2 c_21
        subst eA eT
        refine x_canTake_l hI hx hb hml hts hown hN hXN hK hP ha0 hs_12 hq_16 hAT (fun ls hl => ?_) (fun ls hl => ?_) (T + 1) 0 ls (Nat.zero_le _) (by omega) (lv_sub hl [0, 1, 2, 3, 4] rfl)
        ·
          refine lv_iconst (v := 1) hx hb dX10_canTake_51 (by decide) ?_
          exact W.zret (v := 1) hx hb hr (by decide) (fun t ht hW => ⟨_, rfl, (by decide), ht⟩) (fun q h => absurd h List.not_mem_nil) dX10_canTake_52
        ·
          refine lv_iconst (v := 0) hx hb dX10_canTake_43 (by decide) ?_
          exact W.zret (v := 0) hx hb hr (by decide) (fun t ht hW => ⟨_, rfl, (by decide), ht⟩) (fun q h => absurd h List.not_mem_nil) dX10_canTake_44
      ·
        refine lv_iconst (v := 0) hx hb dX10_canTake_19 (by decide) ?_
        exact W.zret (v := 0) hx hb hr (by decide) (fun t ht hW => ⟨_, rfl, (by decide), ht⟩) (fun q h => absurd h List.not_mem_nil) dX10_canTake_20
set_option maxHeartbeats 4000000 in
set_option maxRecDepth 100000 in
theorem x_X10_maySit (l : Launch) (dC : Nat → ClassId) (dI : Nat → Nat → Nat) (q : Nat → ClassId) (h0 : Nat) (d : Nat → Nat) (k : Nat → Int32) (z : gS) (f : xF) (hI : xI q h0 d k z f) (a0 b0 : Nat) (p0 p1 : Int32) (ha0 : tg z a0 15) (hb0 : tg z b0 22) : Met l yX10_maySit wsX10_maySit ({ frames := 4, cells := 0, slots := 0, locals := 87 }) (va_Pc [.ref a0, .ref b0, .int p0, .int p1] (PX dC dI (va_pl z.1 f) (xT q))) (vp_Si (fun r => r = 0 ∨ r = 1)) 0 0 (fun _ => False) := by
  refine Met.ofW (cc := cX10_maySit) (maxL := 6) (ret := (some .boolean)) (by decide) rfl ?_
  intro p e s m args below meth c s₁ B hml hv
  obtain ⟨rfl, ⟨hP, hK, hN⟩, hXN⟩ := hv
  have hx := B.exec
  have hb := B.bytes
  have hr := B.returns
  have hts := atoms_spec (ws := wsX10_maySit) B.pre
  have hown : s.vm.findClass RX10 = some m.cls := findClass_of_methodNamed B.named
  have hlocks := B.notSynchronized
  have hl := lv_entry ([.ref a0, .ref b0, .int p0, .int p1]) (n := 6) (Nat.le_of_ble_eq_true rfl)
  rw [lg_entry_eq]
  generalize (lg_sl ([.ref a0, .ref b0, .int p0, .int p1]) ++ List.replicate (6 - (lg_sl ([.ref a0, .ref b0, .int p0, .int p1])).length) Slot.unset).toArray = ls at hl ⊢
  have hl : lv_has ls 6 [(0, .ref a0), (1, .ref b0), (2, .int p0), (3, .int p1)] := hl
  refine lv_aload_n hx hb dX10_maySit_0 rfl (lv_at hl 0 rfl) ?_
  obtain ⟨nu_1, kd_2, cn_3, pa_4, fa_5, l_6, co_7, wd_8, nm_9, hs_10, hs_11, hs_12, hs_13, hq_14, hq_15, hq_16⟩ := x_ist hI ha0
  obtain ⟨kk_17, hk_18⟩ := pl_at ha0.1 hs_10
  refine va_csq (va_runU (As := []) (rest := []) ⟨hx, hb, hml, hown, hts⟩ (x_lastPiece l dC dI q h0 d k z f hI a0 (tg_itm ha0 (by decide))) (va_cwU 0 hts gX10_maySit_X4_lastPiece_u30X10 rfl rfl rfl rfl (by decide +kernel) ⟨Nat.le_of_ble_eq_true rfl, Nat.le_of_ble_eq_true rfl⟩) ⟨px_fb, va_recv hK hP (ci := 9) (q0 := kk_17) rfl hk_18, fun U hU hW => ⟨rfl, px_to hU hW hP hK hN hXN⟩⟩ rfl rfl hl.1 rfl (lv_room (Nat.le_of_ble_eq_true rfl)) dX10_maySit_1 ⟨Nat.le_of_ble_eq_true rfl, Nat.le_of_ble_eq_true rfl⟩).run (fun r hw => ?_)
  rcases r with _ | b_19
  ·
    refine W.eq (g2 := F0 m 4 ls [.null]) rfl ?_
    refine lv_astoreN (lv' := [(4, .null), (0, .ref a0), (1, .ref b0), (2, .int p0), (3, .int p1)]) hx hb dX10_maySit_4 hl (by decide) rfl (fun ls hl => ?_)
    refine lv_aloadN hx hb dX10_maySit_6 (lv_at hl 0 rfl) ?_
    refine lv_ifnonnullN hx hb dX10_maySit_8 ?_
    refine lv_aload_n hx hb dX10_maySit_11 rfl (lv_at hl 1 rfl) ?_
    refine lv_iconst (v := 0) hx hb dX10_maySit_12 (by decide) ?_
    refine lv_aload_n hx hb dX10_maySit_13 rfl (lv_at hl 2 rfl) ?_
    obtain ⟨it_21, P_22, X_23, Y_24, D_25, N_26, hp_27, hb_28, hb_29⟩ := x_pcS hI hb0
    obtain ⟨kk_30, hk_31⟩ := pl_at hp_27.1.1 (x_pcF hI hp_27)
    refine va_get (D := (dC, dI)) (ci := 7) (v := .int N_26) (C := RX8) (T := TX8) (N := 6) hx hb hts (by decide +kernel) hown hK hP kk_30 hk_31 rfl 5 (by decide) (hts (.fieldLink RX10 34 "PageOne$Piece" "h" "I") (by decide +kernel)) (fun _ h9 => h9) rfl dX10_maySit_14 ?_
    refine lv_iload_n hx hb dX10_maySit_17 rfl (lv_at hl 3 rfl) ?_
    obtain ⟨kk_32, hk_33⟩ := pl_at ha0.1 hs_10
    refine vp_callSi (va_runV (As := [.int 0, .int N_26, .int p0]) (rest := []) ⟨hx, hb, hml, hown, hts⟩ (x_canTake l dC dI q h0 d k z f hI a0 0 N_26 p0 ha0) (cwV 3 hts gX10_maySit_X10_canTake rfl rfl rfl (by decide +kernel) ⟨Nat.le_of_ble_eq_true rfl, Nat.le_of_ble_eq_true rfl⟩) ⟨px_fb, va_recv hK hP (ci := 9) (q0 := kk_32) rfl hk_33, fun U hU hW => ⟨rfl, px_to hU hW hP hK hN hXN⟩⟩ rfl rfl hl.1 rfl (lv_room (Nat.le_of_ble_eq_true rfl)) dX10_maySit_18 ⟨Nat.le_of_ble_eq_true rfl, Nat.le_of_ble_eq_true rfl⟩).run (fun r hw => ?_)
    rcases hw with hw | hw
    ·
      subst hw
      exact W.zret (v := 0) hx hb hr (by decide) (fun t ht hW => ⟨_, rfl, (by decide), ht⟩) (fun q h => absurd h List.not_mem_nil) dX10_maySit_21
    ·
      subst hw
      exact W.zret (v := 1) hx hb hr (by decide) (fun t ht hW => ⟨_, rfl, (by decide), ht⟩) (fun q h => absurd h List.not_mem_nil) dX10_maySit_21
  ·
    have ht_20 := hw b_19 rfl
    refine W.eq (g2 := F0 m 4 ls [.ref b_19]) rfl ?_
    refine lv_astore (lv' := [(4, .ref b_19), (0, .ref a0), (1, .ref b0), (2, .int p0), (3, .int p1)]) hx hb dX10_maySit_4 hl (by decide) rfl (fun ls hl => ?_)
    refine lv_aload hx hb dX10_maySit_6 (lv_at hl 0 rfl) ?_
    refine lv_ifnonnull (tgt := 22) hx hb dX10_maySit_8 (by decide) ?_
    refine lv_aload_n hx hb dX10_maySit_22 rfl (lv_at hl 2 rfl) ?_
    obtain ⟨it_34, P_35, X_36, Y_37, D_38, N_39, hp_40, hb_41, hb_42⟩ := x_pcS hI hb0
    obtain ⟨kk_43, hk_44⟩ := pl_at hp_40.1.1 (x_pcF hI hp_40)
    refine va_get (D := (dC, dI)) (ci := 7) (v := .int P_35) (C := RX8) (T := TX8) (N := 6) hx hb hts (by decide +kernel) hown hK hP kk_43 hk_44 rfl 1 (by decide) (hts (.fieldLink RX10 42 "PageOne$Piece" "page" "I") (by decide +kernel)) (fun _ h9 => h9) rfl dX10_maySit_23 ?_
    refine lv_aload hx hb dX10_maySit_26 (lv_at hl 0 rfl) ?_
    have hcp := ht_20
    obtain ⟨it_45, P_46, X_47, Y_48, D_49, N_50, hp_51, hb_52, hb_53, hb_54, hb_55⟩ := hcp
    obtain ⟨kk_56, hk_57⟩ := pl_at hp_51.1.1 (x_pcF hI hp_51)
    refine va_get (D := (dC, dI)) (ci := 7) (v := .int P_46) (C := RX8) (T := TX8) (N := 6) hx hb hts (by decide +kernel) hown hK hP kk_56 hk_57 rfl 1 (by decide) (hts (.fieldLink RX10 42 "PageOne$Piece" "page" "I") (by decide +kernel)) (fun _ h9 => h9) rfl dX10_maySit_28 ?_
    refine lv_icmp_ne (tgt := 38) hx hb dX10_maySit_31 (by decide) (fun c_58 => ?_) (fun c_58 => ?_)
    ·
      refine lv_iconst (v := 1) hx hb dX10_maySit_38 (by decide) ?_
      refine lv_istore (lv' := [(5, .int 1), (4, .ref b_19), (0, .ref a0), (1, .ref b0), (2, .int p0), (3, .int p1)]) hx hb dX10_maySit_39 hl (by decide) rfl (fun ls hl => ?_)
      refine lv_aload_n hx hb dX10_maySit_41 rfl (lv_at hl 3 rfl) ?_
      refine lv_aload hx hb dX10_maySit_42 (lv_at hl 1 rfl) ?_
      obtain ⟨kk_59, hk_60⟩ := pl_at hp_40.1.1 (x_pcF hI hp_40)
      refine vp_callSi (va_runV (As := [.ref b_19]) (rest := []) ⟨hx, hb, hml, hown, hts⟩ (x_isBehind l dC dI q h0 d k z f hI b0 b_19 hb0 hp_51.1) (cwV 1 hts gX10_maySit_X8_isBehind rfl rfl rfl (by decide +kernel) ⟨Nat.le_of_ble_eq_true rfl, Nat.le_of_ble_eq_true rfl⟩) ⟨px_fb, va_recv hK hP (ci := 7) (q0 := kk_59) rfl hk_60, fun U hU hW => ⟨rfl, px_to hU hW hP hK hN hXN⟩⟩ rfl rfl hl.1 rfl (lv_room (Nat.le_of_ble_eq_true rfl)) dX10_maySit_44 ⟨Nat.le_of_ble_eq_true rfl, Nat.le_of_ble_eq_true rfl⟩).run (fun r hw => ?_)
      rcases hw with hw | hw
      ·
        subst hw
        refine lv_if_eq (tgt := 67) hx hb dX10_maySit_47 (by decide) (fun c_61 => ?_) (fun c_61 => absurd (by decide) c_61)
        refine lv_iconst (v := 0) hx hb dX10_maySit_67 (by decide) ?_
        exact W.zret (v := 0) hx hb hr (by decide) (fun t ht hW => ⟨_, rfl, (by decide), ht⟩) (fun q h => absurd h List.not_mem_nil) dX10_maySit_68
      ·
        subst hw
        refine lv_if_eq (tgt := 67) hx hb dX10_maySit_47 (by decide) (fun c_62 => absurd c_62 (by decide)) (fun c_62 => ?_)
        refine lv_aload_n hx hb dX10_maySit_50 rfl (lv_at hl 2 rfl) ?_
        refine lv_aload_n hx hb dX10_maySit_51 rfl (lv_at hl 2 rfl) ?_
        obtain ⟨kk_63, hk_64⟩ := pl_at ha0.1 hs_10
        refine va_get (D := (dC, dI)) (ci := 9) (v := .int cn_3) (C := RX10) (T := TX10) (N := 9) hx hb hts (by decide +kernel) hown hK hP kk_63 hk_64 rfl 3 (by decide) (hts (.fieldLink RX10 49 "PageOne$Story" "count" "I") (by decide +kernel)) (fun x9 h9 => u_same (hts (.sameField "PageOne$Story" "PageOne$Item" "count" "I") (by decide +kernel)) x9 h9) rfl dX10_maySit_52 ?_
        refine lv_iconst (v := 1) hx hb dX10_maySit_55 (by decide) ?_
        refine lv_isub hx hb dX10_maySit_56 ?_
        obtain ⟨kk_65, hk_66⟩ := pl_at ha0.1 hs_10
        refine vp_callSi (va_runV (As := [.int (cn_3 - 1)]) (rest := []) ⟨hx, hb, hml, hown, hts⟩ (x_takenBy l dC dI q h0 d k z f hI a0 (cn_3 - 1) ha0) (cwV 1 hts gX10_maySit_X10_takenBy rfl rfl rfl (by decide +kernel) ⟨Nat.le_of_ble_eq_true rfl, Nat.le_of_ble_eq_true rfl⟩) ⟨px_fb, va_recv hK hP (ci := 9) (q0 := kk_65) rfl hk_66, fun U hU hW => ⟨rfl, px_to hU hW hP hK hN hXN⟩⟩ rfl rfl hl.1 rfl (lv_room (Nat.le_of_ble_eq_true rfl)) dX10_maySit_57 ⟨Nat.le_of_ble_eq_true rfl, Nat.le_of_ble_eq_true rfl⟩).run (fun r hw => ?_)
        generalize r = zr_67 at hw ⊢
        have hzr_67 := hw
        refine lv_iload hx hb dX10_maySit_60 (lv_at hl 0 rfl) ?_
        refine lv_isub hx hb dX10_maySit_62 ?_
        refine lv_iconst (v := 1) hx hb dX10_maySit_63 (by decide) ?_
        refine lv_icmp_ge (tgt := 69) hx hb dX10_maySit_64 (by decide) (fun c_68 => ?_) (fun c_68 => ?_)
        ·
          refine lv_aload_n hx hb dX10_maySit_69 rfl (lv_at hl 2 rfl) ?_
          refine lv_aload_n hx hb dX10_maySit_70 rfl (lv_at hl 2 rfl) ?_
          obtain ⟨kk_69, hk_70⟩ := pl_at ha0.1 hs_10
          refine vp_callSi (va_runV (As := []) (rest := [.ref a0]) ⟨hx, hb, hml, hown, hts⟩ (x_standing l dC dI q h0 d k z f hI a0 ha0) (cwV 0 hts gX10_maySit_X10_standing rfl rfl rfl (by decide +kernel) ⟨Nat.le_of_ble_eq_true rfl, Nat.le_of_ble_eq_true rfl⟩) ⟨px_fb, va_recv hK hP (ci := 9) (q0 := kk_69) rfl hk_70, fun U hU hW => ⟨rfl, px_to hU hW hP hK hN hXN⟩⟩ rfl rfl hl.1 rfl (lv_room (Nat.le_of_ble_eq_true rfl)) dX10_maySit_71 ⟨Nat.le_of_ble_eq_true rfl, Nat.le_of_ble_eq_true rfl⟩).run (fun r hw => ?_)
          generalize r = zr_71 at hw ⊢
          have hzr_71 := hw
          refine lv_iload hx hb dX10_maySit_74 (lv_at hl 0 rfl) ?_
          refine lv_isub hx hb dX10_maySit_76 ?_
          refine lv_aload_n hx hb dX10_maySit_77 rfl (lv_at hl 3 rfl) ?_
          obtain ⟨kk_72, hk_73⟩ := pl_at hp_40.1.1 (x_pcF hI hp_40)
          refine va_get (D := (dC, dI)) (ci := 7) (v := .int N_39) (C := RX8) (T := TX8) (N := 6) hx hb hts (by decide +kernel) hown hK hP kk_72 hk_73 rfl 5 (by decide) (hts (.fieldLink RX10 34 "PageOne$Piece" "h" "I") (by decide +kernel)) (fun _ h9 => h9) rfl dX10_maySit_78 ?_
          refine lv_iload hx hb dX10_maySit_81 (lv_at hl 0 rfl) ?_
          refine lv_isub hx hb dX10_maySit_83 ?_
          refine lv_iload_n hx hb dX10_maySit_84 rfl (lv_at hl 4 rfl) ?_
          obtain ⟨kk_74, hk_75⟩ := pl_at ha0.1 hs_10
          refine vp_callSi (va_runV (As := [.int (zr_71 - 1), .int (N_39 - 1), .int p0]) (rest := []) ⟨hx, hb, hml, hown, hts⟩ (x_canTake l dC dI q h0 d k z f hI a0 (zr_71 - 1) (N_39 - 1) p0 ha0) (cwV 3 hts gX10_maySit_X10_canTake rfl rfl rfl (by decide +kernel) ⟨Nat.le_of_ble_eq_true rfl, Nat.le_of_ble_eq_true rfl⟩) ⟨px_fb, va_recv hK hP (ci := 9) (q0 := kk_74) rfl hk_75, fun U hU hW => ⟨rfl, px_to hU hW hP hK hN hXN⟩⟩ rfl rfl hl.1 rfl (lv_room (Nat.le_of_ble_eq_true rfl)) dX10_maySit_85 ⟨Nat.le_of_ble_eq_true rfl, Nat.le_of_ble_eq_true rfl⟩).run (fun r hw => ?_)
          rcases hw with hw | hw
          ·
            subst hw
            exact W.zret (v := 0) hx hb hr (by decide) (fun t ht hW => ⟨_, rfl, (by decide), ht⟩) (fun q h => absurd h List.not_mem_nil) dX10_maySit_88
          ·
            subst hw
            exact W.zret (v := 1) hx hb hr (by decide) (fun t ht hW => ⟨_, rfl, (by decide), ht⟩) (fun q h => absurd h List.not_mem_nil) dX10_maySit_88
        ·
          refine lv_iconst (v := 0) hx hb dX10_maySit_67 (by decide) ?_
          exact W.zret (v := 0) hx hb hr (by decide) (fun t ht hW => ⟨_, rfl, (by decide), ht⟩) (fun q h => absurd h List.not_mem_nil) dX10_maySit_68
    ·
      refine lv_iconst (v := 0) hx hb dX10_maySit_34 (by decide) ?_
      refine lv_goto (tgt := 39) hx hb dX10_maySit_35 (by decide) ?_
      refine lv_istore (lv' := [(5, .int 0), (4, .ref b_19), (0, .ref a0), (1, .ref b0), (2, .int p0), (3, .int p1)]) hx hb dX10_maySit_39 hl (by decide) rfl (fun ls hl => ?_)
      refine lv_aload_n hx hb dX10_maySit_41 rfl (lv_at hl 3 rfl) ?_
      refine lv_aload hx hb dX10_maySit_42 (lv_at hl 1 rfl) ?_
      obtain ⟨kk_76, hk_77⟩ := pl_at hp_40.1.1 (x_pcF hI hp_40)
      refine vp_callSi (va_runV (As := [.ref b_19]) (rest := []) ⟨hx, hb, hml, hown, hts⟩ (x_isBehind l dC dI q h0 d k z f hI b0 b_19 hb0 hp_51.1) (cwV 1 hts gX10_maySit_X8_isBehind rfl rfl rfl (by decide +kernel) ⟨Nat.le_of_ble_eq_true rfl, Nat.le_of_ble_eq_true rfl⟩) ⟨px_fb, va_recv hK hP (ci := 7) (q0 := kk_76) rfl hk_77, fun U hU hW => ⟨rfl, px_to hU hW hP hK hN hXN⟩⟩ rfl rfl hl.1 rfl (lv_room (Nat.le_of_ble_eq_true rfl)) dX10_maySit_44 ⟨Nat.le_of_ble_eq_true rfl, Nat.le_of_ble_eq_true rfl⟩).run (fun r hw => ?_)
      rcases hw with hw | hw
      ·
        subst hw
        refine lv_if_eq (tgt := 67) hx hb dX10_maySit_47 (by decide) (fun c_78 => ?_) (fun c_78 => absurd (by decide) c_78)
        refine lv_iconst (v := 0) hx hb dX10_maySit_67 (by decide) ?_
        exact W.zret (v := 0) hx hb hr (by decide) (fun t ht hW => ⟨_, rfl, (by decide), ht⟩) (fun q h => absurd h List.not_mem_nil) dX10_maySit_68
      ·
        subst hw
        refine lv_if_eq (tgt := 67) hx hb dX10_maySit_47 (by decide) (fun c_79 => absurd c_79 (by decide)) (fun c_79 => ?_)
        refine lv_aload_n hx hb dX10_maySit_50 rfl (lv_at hl 2 rfl) ?_
        refine lv_aload_n hx hb dX10_maySit_51 rfl (lv_at hl 2 rfl) ?_
        obtain ⟨kk_80, hk_81⟩ := pl_at ha0.1 hs_10
        refine va_get (D := (dC, dI)) (ci := 9) (v := .int cn_3) (C := RX10) (T := TX10) (N := 9) hx hb hts (by decide +kernel) hown hK hP kk_80 hk_81 rfl 3 (by decide) (hts (.fieldLink RX10 49 "PageOne$Story" "count" "I") (by decide +kernel)) (fun x9 h9 => u_same (hts (.sameField "PageOne$Story" "PageOne$Item" "count" "I") (by decide +kernel)) x9 h9) rfl dX10_maySit_52 ?_
        refine lv_iconst (v := 1) hx hb dX10_maySit_55 (by decide) ?_
        refine lv_isub hx hb dX10_maySit_56 ?_
        obtain ⟨kk_82, hk_83⟩ := pl_at ha0.1 hs_10
        refine vp_callSi (va_runV (As := [.int (cn_3 - 1)]) (rest := []) ⟨hx, hb, hml, hown, hts⟩ (x_takenBy l dC dI q h0 d k z f hI a0 (cn_3 - 1) ha0) (cwV 1 hts gX10_maySit_X10_takenBy rfl rfl rfl (by decide +kernel) ⟨Nat.le_of_ble_eq_true rfl, Nat.le_of_ble_eq_true rfl⟩) ⟨px_fb, va_recv hK hP (ci := 9) (q0 := kk_82) rfl hk_83, fun U hU hW => ⟨rfl, px_to hU hW hP hK hN hXN⟩⟩ rfl rfl hl.1 rfl (lv_room (Nat.le_of_ble_eq_true rfl)) dX10_maySit_57 ⟨Nat.le_of_ble_eq_true rfl, Nat.le_of_ble_eq_true rfl⟩).run (fun r hw => ?_)
        generalize r = zr_84 at hw ⊢
        have hzr_84 := hw
        refine lv_iload hx hb dX10_maySit_60 (lv_at hl 0 rfl) ?_
        refine lv_isub hx hb dX10_maySit_62 ?_
        refine lv_iconst (v := 1) hx hb dX10_maySit_63 (by decide) ?_
        refine lv_icmp_ge (tgt := 69) hx hb dX10_maySit_64 (by decide) (fun c_85 => ?_) (fun c_85 => ?_)
        ·
          refine lv_aload_n hx hb dX10_maySit_69 rfl (lv_at hl 2 rfl) ?_
          refine lv_aload_n hx hb dX10_maySit_70 rfl (lv_at hl 2 rfl) ?_
          obtain ⟨kk_86, hk_87⟩ := pl_at ha0.1 hs_10
          refine vp_callSi (va_runV (As := []) (rest := [.ref a0]) ⟨hx, hb, hml, hown, hts⟩ (x_standing l dC dI q h0 d k z f hI a0 ha0) (cwV 0 hts gX10_maySit_X10_standing rfl rfl rfl (by decide +kernel) ⟨Nat.le_of_ble_eq_true rfl, Nat.le_of_ble_eq_true rfl⟩) ⟨px_fb, va_recv hK hP (ci := 9) (q0 := kk_86) rfl hk_87, fun U hU hW => ⟨rfl, px_to hU hW hP hK hN hXN⟩⟩ rfl rfl hl.1 rfl (lv_room (Nat.le_of_ble_eq_true rfl)) dX10_maySit_71 ⟨Nat.le_of_ble_eq_true rfl, Nat.le_of_ble_eq_true rfl⟩).run (fun r hw => ?_)
          generalize r = zr_88 at hw ⊢
          have hzr_88 := hw
          refine lv_iload hx hb dX10_maySit_74 (lv_at hl 0 rfl) ?_
          refine lv_isub hx hb dX10_maySit_76 ?_
          refine lv_aload_n hx hb dX10_maySit_77 rfl (lv_at hl 3 rfl) ?_
          obtain ⟨kk_89, hk_90⟩ := pl_at hp_40.1.1 (x_pcF hI hp_40)
          refine va_get (D := (dC, dI)) (ci := 7) (v := .int N_39) (C := RX8) (T := TX8) (N := 6) hx hb hts (by decide +kernel) hown hK hP kk_89 hk_90 rfl 5 (by decide) (hts (.fieldLink RX10 34 "PageOne$Piece" "h" "I") (by decide +kernel)) (fun _ h9 => h9) rfl dX10_maySit_78 ?_
          refine lv_iload hx hb dX10_maySit_81 (lv_at hl 0 rfl) ?_
          refine lv_isub hx hb dX10_maySit_83 ?_
          refine lv_iload_n hx hb dX10_maySit_84 rfl (lv_at hl 4 rfl) ?_
          obtain ⟨kk_91, hk_92⟩ := pl_at ha0.1 hs_10
          refine vp_callSi (va_runV (As := [.int (zr_88 - 0), .int (N_39 - 0), .int p0]) (rest := []) ⟨hx, hb, hml, hown, hts⟩ (x_canTake l dC dI q h0 d k z f hI a0 (zr_88 - 0) (N_39 - 0) p0 ha0) (cwV 3 hts gX10_maySit_X10_canTake rfl rfl rfl (by decide +kernel) ⟨Nat.le_of_ble_eq_true rfl, Nat.le_of_ble_eq_true rfl⟩) ⟨px_fb, va_recv hK hP (ci := 9) (q0 := kk_91) rfl hk_92, fun U hU hW => ⟨rfl, px_to hU hW hP hK hN hXN⟩⟩ rfl rfl hl.1 rfl (lv_room (Nat.le_of_ble_eq_true rfl)) dX10_maySit_85 ⟨Nat.le_of_ble_eq_true rfl, Nat.le_of_ble_eq_true rfl⟩).run (fun r hw => ?_)
          rcases hw with hw | hw
          ·
            subst hw
            exact W.zret (v := 0) hx hb hr (by decide) (fun t ht hW => ⟨_, rfl, (by decide), ht⟩) (fun q h => absurd h List.not_mem_nil) dX10_maySit_88
          ·
            subst hw
            exact W.zret (v := 1) hx hb hr (by decide) (fun t ht hW => ⟨_, rfl, (by decide), ht⟩) (fun q h => absurd h List.not_mem_nil) dX10_maySit_88
        ·
          refine lv_iconst (v := 0) hx hb dX10_maySit_67 (by decide) ?_
          exact W.zret (v := 0) hx hb hr (by decide) (fun t ht hW => ⟨_, rfl, (by decide), ht⟩) (fun q h => absurd h List.not_mem_nil) dX10_maySit_68
