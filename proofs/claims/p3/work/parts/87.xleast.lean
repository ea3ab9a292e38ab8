set_option maxHeartbeats 4000000 in
set_option maxRecDepth 100000 in
theorem x_lp_in {p : Program} {l : Launch} {e : Env} {R : Room} {s : State} {m : MethodId} {args : Array Value} {below : List Frame} {meth : Method} {c : Code} {Q : State → Prop} {cells slots : Nat} {dC : Nat → ClassId} {dI : Nat → Nat → Nat} {q : Nat → ClassId} {h0 : Nat} {d : Nat → Nat} {k : Nat → Int32} {z : gS} {f : xF} {H : Heap} {locs : List Loc} (hI : xI q h0 d k z f) (hx : p.tables.exec = Jvm.exec) (hb : c.code = cX11_leastPair) (hml : c.maxLocals = 5) (hts : ∀ w ∈ wsX11_leastPair, w.before args s = true) (hown : s.vm.findClass RX11 = some m.cls) (hN : NN s) (hXN : XN s) (hK : va_K (dC, dI) vwCl (xT q) s) (hRf : 3 ≤ R.frames) (hRl : 69 ≤ R.locals) (hRc : cells ≤ R.cells) (hRs : slots ≤ R.slots) (hP : va_P (dC, dI) vwCl (va_pl z.1 f) H) {K : Nat} (hK8 : K ≤ 80) (eK : k 0 = nI K) {p0 p1 : Int32} {a9 : Nat} (ha9 : a9 < K) (kx109 : ∀ (ls : Array Slot), lv_has ls 5 [(3, .int (nI a9)), (0, .ref h0), (1, .int p0), (2, .int p1)] → W p l e R s m args below meth c H locs cells slots Q (F0 m 109 ls [])) (kx91 : ∀ (b9 : Int32) (ls : Array Slot), lv_has ls 5 [(4, .int b9), (3, .int (nI a9)), (0, .ref h0), (1, .int p0), (2, .int p1)] → W p l e R s m args below meth c H locs cells slots Q (F0 m 91 ls [])) : ∀ (kk i : Nat) (ls : Array Slot), i ≤ K → K - i < kk → lv_has ls 5 [(4, .int (nI i)), (3, .int (nI a9)), (0, .ref h0), (1, .int p0), (2, .int p1)] → W p l e R s m args below meth c H locs cells slots Q (F0 m 31 ls []) := by
  intro kk
  induction kk with
  | zero => intro i ls h1 h2; exact absurd h2 (Nat.not_lt_zero _)
  | succ kk ih =>
    intro i ls hi hkk hl
    refine lv_iload hx hb dX11_leastPair_31 (lv_at hl 0 rfl) ?_
    refine lv_aload_n hx hb dX11_leastPair_33 rfl (lv_at hl 2 rfl) ?_
    obtain ⟨kk_1, hk_2⟩ := pl_at hI.2.1.1.1 hI.2.2.2.1.1
    refine va_get (D := (dC, dI)) (ci := 10) (v := .int (k 0)) (C := RX11) (T := TX11) (N := 9) hx hb hts (by decide +kernel) hown hK hP kk_1 hk_2 rfl 3 (by decide) (hts (.fieldLink RX11 24 "PageOne" "itemCount" "I") (by decide +kernel)) (fun _ h9 => h9) rfl dX11_leastPair_34 ?_
    refine lv_topi (fun y_3 ey_3 => ?_)
    obtain rfl : y_3 = (nI K) := ey_3.trans (eK)
    refine lv_icmp_ge (tgt := 109) hx hb dX11_leastPair_37 (by decide) (fun c_4 => ?_) (fun c_4 => ?_)
    ·
      have hie : i = K := lp_eq rfl (by omega) hi c_4
      exact kx109 ls (lv_sub hl [1, 2, 3, 4] rfl)
    ·
      have hlt : i < K := lp_lt rfl (by omega) hi c_4
      refine lv_aload_n hx hb dX11_leastPair_40 rfl (lv_at hl 2 rfl) ?_
      refine lv_aload_n hx hb dX11_leastPair_41 rfl (lv_at hl 2 rfl) ?_
      obtain ⟨kk_5, hk_6⟩ := pl_at hI.2.1.1.1 hI.2.2.2.1.1
      refine va_get (D := (dC, dI)) (ci := 10) (v := .ref (d 2)) (C := RX11) (T := TX11) (N := 9) hx hb hts (by decide +kernel) hown hK hP kk_5 hk_6 rfl 2 (by decide) (hts (.fieldLink RX11 20 "PageOne" "items" "[LPageOne$Item;") (by decide +kernel)) (fun _ h9 => h9) rfl dX11_leastPair_42 ?_
      refine lv_iload_n hx hb dX11_leastPair_45 rfl (lv_at hl 1 rfl) ?_
      obtain ⟨g_7, hs_8, hn_9, hg_10⟩ := x_itm hI
      obtain ⟨kk_11, hk_12⟩ := pl_at hI.2.1.2.2.2.1.1 hs_8
      refine va_aldq hx hb hK hP kk_11 3 hk_12 rfl (vp_in_nI (by omega) (by decide)) dX11_leastPair_46 ?_
      obtain ⟨b_13, hg_14⟩ := hn_9 ((nI a9) : Int32).toNatClampNeg (by rw [eK, nI_clamp (by omega), nI_clamp (by omega)]; exact ha9)
      have ht_15 := hg_10 ((nI a9) : Int32).toNatClampNeg (vlt (vp_in_nI (by omega) (by decide))) b_13 hg_14
      rw [hg_14]
      refine W.eq (g2 := F0 m 47 ls [.ref b_13, .ref h0]) rfl ?_
      refine lv_aload_n hx hb dX11_leastPair_47 rfl (lv_at hl 2 rfl) ?_
      obtain ⟨kk_16, hk_17⟩ := pl_at hI.2.1.1.1 hI.2.2.2.1.1
      refine va_get (D := (dC, dI)) (ci := 10) (v := .ref (d 2)) (C := RX11) (T := TX11) (N := 9) hx hb hts (by decide +kernel) hown hK hP kk_16 hk_17 rfl 2 (by decide) (hts (.fieldLink RX11 20 "PageOne" "items" "[LPageOne$Item;") (by decide +kernel)) (fun _ h9 => h9) rfl dX11_leastPair_48 ?_
      refine lv_iload hx hb dX11_leastPair_51 (lv_at hl 0 rfl) ?_
      obtain ⟨kk_18, hk_19⟩ := pl_at hI.2.1.2.2.2.1.1 hs_8
      refine va_aldq hx hb hK hP kk_18 3 hk_19 rfl (vp_in_nI (by omega) (by decide)) dX11_leastPair_53 ?_
      obtain ⟨b_20, hg_21⟩ := hn_9 ((nI i) : Int32).toNatClampNeg (by rw [eK, nI_clamp (by omega), nI_clamp (by omega)]; exact hlt)
      have ht_22 := hg_10 ((nI i) : Int32).toNatClampNeg (vlt (vp_in_nI (by omega) (by decide))) b_20 hg_21
      rw [hg_21]
      refine W.eq (g2 := F0 m 54 ls [.ref b_20, .ref b_13, .ref h0]) rfl ?_
      refine lv_iload_n hx hb dX11_leastPair_54 rfl (lv_at hl 4 rfl) ?_
      obtain ⟨kk_23, hk_24⟩ := pl_at hI.2.1.1.1 hI.2.2.2.1.1
      refine vp_callSi (va_runV (As := [.ref b_13, .ref b_20, .int p1]) (rest := []) ⟨hx, hb, hml, hown, hts⟩ (x_mayNotMeet l dC dI q h0 d k z f hI b_13 b_20 p1 ht_15 ht_22) (cwV 3 hts gX11_leastPair_X11_mayNotMeet rfl rfl rfl (by decide +kernel) ⟨Nat.le_trans (Nat.le_of_ble_eq_true rfl) hRf, Nat.le_trans (Nat.le_of_ble_eq_true rfl) hRl⟩) ⟨px_fb, va_recv hK hP (ci := 10) (q0 := kk_23) rfl hk_24, fun U hU hW => ⟨rfl, px_to hU hW hP hK hN hXN⟩⟩ rfl rfl hl.1 rfl (lv_room (Nat.le_of_ble_eq_true rfl)) dX11_leastPair_55 ⟨hRc, hRs⟩).run (fun r hw => ?_)
      rcases hw with hw | hw
      ·
        subst hw
        refine lv_if_eq (tgt := 103) hx hb dX11_leastPair_58 (by decide) (fun c_25 => ?_) (fun c_25 => absurd (by decide) c_25)
        refine lv_iinc (v := (nI (i + 1))) (lv' := [(4, .int (nI (i + 1))), (3, .int (nI a9)), (0, .ref h0), (1, .int p0), (2, .int p1)]) hx hb dX11_leastPair_103 hl (k := 0) rfl (nI_1 i) (by decide) rfl (fun ls hl => ?_)
        refine lv_goto (tgt := 31) hx hb dX11_leastPair_106 (by decide) ?_
        exact ih (i + 1) ls (by omega) (by omega) (lv_sub hl [0, 1, 2, 3, 4] rfl)
      ·
        subst hw
        refine lv_if_eq (tgt := 103) hx hb dX11_leastPair_58 (by decide) (fun c_26 => absurd c_26 (by decide)) (fun c_26 => ?_)
        refine lv_aload_n hx hb dX11_leastPair_61 rfl (lv_at hl 2 rfl) ?_
        obtain ⟨kk_27, hk_28⟩ := pl_at hI.2.1.1.1 hI.2.2.2.1.1
        refine va_get (D := (dC, dI)) (ci := 10) (v := .ref (d 2)) (C := RX11) (T := TX11) (N := 9) hx hb hts (by decide +kernel) hown hK hP kk_27 hk_28 rfl 2 (by decide) (hts (.fieldLink RX11 20 "PageOne" "items" "[LPageOne$Item;") (by decide +kernel)) (fun _ h9 => h9) rfl dX11_leastPair_62 ?_
        refine lv_iload_n hx hb dX11_leastPair_65 rfl (lv_at hl 1 rfl) ?_
        obtain ⟨kk_29, hk_30⟩ := pl_at hI.2.1.2.2.2.1.1 hs_8
        refine va_aldq hx hb hK hP kk_29 3 hk_30 rfl (vp_in_nI (by omega) (by decide)) dX11_leastPair_66 ?_
        obtain ⟨b_31, hg_32⟩ := hn_9 ((nI a9) : Int32).toNatClampNeg (by rw [eK, nI_clamp (by omega), nI_clamp (by omega)]; exact ha9)
        have ht_33 := hg_10 ((nI a9) : Int32).toNatClampNeg (vlt (vp_in_nI (by omega) (by decide))) b_31 hg_32
        rw [hg_32]
        refine W.eq (g2 := F0 m 67 ls [.ref b_31]) rfl ?_
        refine lv_aload_n hx hb dX11_leastPair_67 rfl (lv_at hl 2 rfl) ?_
        obtain ⟨kk_34, hk_35⟩ := pl_at hI.2.1.1.1 hI.2.2.2.1.1
        refine va_get (D := (dC, dI)) (ci := 10) (v := .ref (d 2)) (C := RX11) (T := TX11) (N := 9) hx hb hts (by decide +kernel) hown hK hP kk_34 hk_35 rfl 2 (by decide) (hts (.fieldLink RX11 20 "PageOne" "items" "[LPageOne$Item;") (by decide +kernel)) (fun _ h9 => h9) rfl dX11_leastPair_68 ?_
        refine lv_iload hx hb dX11_leastPair_71 (lv_at hl 0 rfl) ?_
        obtain ⟨kk_36, hk_37⟩ := pl_at hI.2.1.2.2.2.1.1 hs_8
        refine va_aldq hx hb hK hP kk_36 3 hk_37 rfl (vp_in_nI (by omega) (by decide)) dX11_leastPair_73 ?_
        obtain ⟨b_38, hg_39⟩ := hn_9 ((nI i) : Int32).toNatClampNeg (by rw [eK, nI_clamp (by omega), nI_clamp (by omega)]; exact hlt)
        have ht_40 := hg_10 ((nI i) : Int32).toNatClampNeg (vlt (vp_in_nI (by omega) (by decide))) b_38 hg_39
        rw [hg_39]
        refine W.eq (g2 := F0 m 74 ls [.ref b_38, .ref b_31]) rfl ?_
        refine lv_iload_n hx hb dX11_leastPair_74 rfl (lv_at hl 3 rfl) ?_
        refine lv_iload_n hx hb dX11_leastPair_75 rfl (lv_at hl 4 rfl) ?_
        refine lv_iconst (v := 3) hx hb dX11_leastPair_76 (by decide) ?_
        refine lv_icmp_ne (tgt := 84) hx hb dX11_leastPair_77 (by decide) (fun c_41 => ?_) (fun c_41 => ?_)
        ·
          refine lv_iconst (v := 0) hx hb dX11_leastPair_84 (by decide) ?_
          refine w_cut (X := fun R cells slots Q args => ∀ r : Int32, (r = 0 ∨ r = 1) → W p l e R s m args below meth c H locs cells slots Q (F0 m 88 ls (.int r :: []))) ?_ (fun kC => ?_)
          ·
            intro r hw
            rcases hw with hw | hw
            ·
              subst hw
              refine lv_if_eq (tgt := 103) hx hb dX11_leastPair_88 (by decide) (fun c_137 => ?_) (fun c_137 => absurd (by decide) c_137)
              refine lv_iinc (v := (nI (i + 1))) (lv' := [(4, .int (nI (i + 1))), (3, .int (nI a9)), (0, .ref h0), (1, .int p0), (2, .int p1)]) hx hb dX11_leastPair_103 hl (k := 0) rfl (nI_1 i) (by decide) rfl (fun ls hl => ?_)
              refine lv_goto (tgt := 31) hx hb dX11_leastPair_106 (by decide) ?_
              exact ih (i + 1) ls (by omega) (by omega) (lv_sub hl [0, 1, 2, 3, 4] rfl)
            ·
              subst hw
              refine lv_if_eq (tgt := 103) hx hb dX11_leastPair_88 (by decide) (fun c_138 => absurd c_138 (by decide)) (fun c_138 => ?_)
              exact kx91 _ ls (lv_sub hl [0, 1, 2, 3, 4] rfl)
          ·
            rcases x_tag ht_33 with ht9 | ht9 | ht9 | ht9 | ht9 | ht9
            ·
              obtain ⟨nu_42, kd_43, cn_44, pa_45, fa_46, l_47, m_48, hs_49, hs_50, hs_51, hs_52⟩ := x_ifl hI ht9
              obtain ⟨kk_53, hk_54⟩ := pl_at ht9.1 hs_49
              exact vp_callSi (va_runU (As := [.ref b_38, .int p0, .int 0]) (rest := []) ⟨hx, hb, hml, hown, hts⟩ (x_meets l dC dI q h0 d k z f hI b_31 b_38 p0 0 ht_33 ht_40) (va_cwU 3 hts gX11_leastPair_X4_meets_u358X2 rfl rfl rfl rfl (by decide +kernel) ⟨Nat.le_trans (Nat.le_of_ble_eq_true rfl) hRf, Nat.le_trans (Nat.le_of_ble_eq_true rfl) hRl⟩) ⟨px_fb, va_recv hK hP (ci := 2) (q0 := kk_53) rfl hk_54, fun U hU hW => ⟨rfl, px_to hU hW hP hK hN hXN⟩⟩ rfl rfl hl.1 rfl (lv_room (Nat.le_of_ble_eq_true rfl)) dX11_leastPair_85 ⟨hRc, hRs⟩).run (fun r hw => kC r hw)
            ·
              obtain ⟨nu_55, kd_56, cn_57, pa_58, fa_59, o_60, w_61, y_62, hs_63, hs_64, hs_65, hs_66, hq_67⟩ := x_ihd hI ht9
              obtain ⟨kk_68, hk_69⟩ := pl_at ht9.1 hs_63
              exact vp_callSi (va_runU (As := [.ref b_38, .int p0, .int 0]) (rest := []) ⟨hx, hb, hml, hown, hts⟩ (x_meets l dC dI q h0 d k z f hI b_31 b_38 p0 0 ht_33 ht_40) (va_cwU 3 hts gX11_leastPair_X4_meets_u358X3 rfl rfl rfl rfl (by decide +kernel) ⟨Nat.le_trans (Nat.le_of_ble_eq_true rfl) hRf, Nat.le_trans (Nat.le_of_ble_eq_true rfl) hRl⟩) ⟨px_fb, va_recv hK hP (ci := 3) (q0 := kk_68) rfl hk_69, fun U hU hW => ⟨rfl, px_to hU hW hP hK hN hXN⟩⟩ rfl rfl hl.1 rfl (lv_room (Nat.le_of_ble_eq_true rfl)) dX11_leastPair_85 ⟨hRc, hRs⟩).run (fun r hw => kC r hw)
            ·
              obtain ⟨nu_70, kd_71, cn_72, pa_73, fa_74, o_75, y_76, hs_77, hs_78, hs_79, hs_80, hq_81⟩ := x_ino hI ht9
              obtain ⟨kk_82, hk_83⟩ := pl_at ht9.1 hs_77
              exact vp_callSi (va_runU (As := [.ref b_38, .int p0, .int 0]) (rest := []) ⟨hx, hb, hml, hown, hts⟩ (x_meets l dC dI q h0 d k z f hI b_31 b_38 p0 0 ht_33 ht_40) (va_cwU 3 hts gX11_leastPair_X4_meets_u358X5 rfl rfl rfl rfl (by decide +kernel) ⟨Nat.le_trans (Nat.le_of_ble_eq_true rfl) hRf, Nat.le_trans (Nat.le_of_ble_eq_true rfl) hRl⟩) ⟨px_fb, va_recv hK hP (ci := 4) (q0 := kk_82) rfl hk_83, fun U hU hW => ⟨rfl, px_to hU hW hP hK hN hXN⟩⟩ rfl rfl hl.1 rfl (lv_room (Nat.le_of_ble_eq_true rfl)) dX11_leastPair_85 ⟨hRc, hRs⟩).run (fun r hw => kC r hw)
            ·
              obtain ⟨nu_84, kd_85, cn_86, pa_87, fa_88, b_89, pr_90, sp_91, dy_92, hs_93, hs_94, hs_95, hs_96, hq_97, hq_98, hq_99⟩ := x_ipd hI ht9
              obtain ⟨kk_100, hk_101⟩ := pl_at ht9.1 hs_93
              exact vp_callSi (va_runU (As := [.ref b_38, .int p0, .int 0]) (rest := []) ⟨hx, hb, hml, hown, hts⟩ (x_meets l dC dI q h0 d k z f hI b_31 b_38 p0 0 ht_33 ht_40) (va_cwU 3 hts gX11_leastPair_X4_meets_u358X6 rfl rfl rfl rfl (by decide +kernel) ⟨Nat.le_trans (Nat.le_of_ble_eq_true rfl) hRf, Nat.le_trans (Nat.le_of_ble_eq_true rfl) hRl⟩) ⟨px_fb, va_recv hK hP (ci := 5) (q0 := kk_100) rfl hk_101, fun U hU hW => ⟨rfl, px_to hU hW hP hK hN hXN⟩⟩ rfl rfl hl.1 rfl (lv_room (Nat.le_of_ble_eq_true rfl)) dX11_leastPair_85 ⟨hRc, hRs⟩).run (fun r hw => kC r hw)
            ·
              obtain ⟨nu_102, kd_103, cn_104, pa_105, fa_106, ww_107, hh_108, sz_109, hs_110, hs_111, hs_112, hs_113, hq_114, hq_115, hq_116⟩ := x_ipi hI ht9
              obtain ⟨kk_117, hk_118⟩ := pl_at ht9.1 hs_110
              exact vp_callSi (va_runU (As := [.ref b_38, .int p0, .int 0]) (rest := []) ⟨hx, hb, hml, hown, hts⟩ (x_meets l dC dI q h0 d k z f hI b_31 b_38 p0 0 ht_33 ht_40) (va_cwU 3 hts gX11_leastPair_X4_meets_u358X7 rfl rfl rfl rfl (by decide +kernel) ⟨Nat.le_trans (Nat.le_of_ble_eq_true rfl) hRf, Nat.le_trans (Nat.le_of_ble_eq_true rfl) hRl⟩) ⟨px_fb, va_recv hK hP (ci := 6) (q0 := kk_117) rfl hk_118, fun U hU hW => ⟨rfl, px_to hU hW hP hK hN hXN⟩⟩ rfl rfl hl.1 rfl (lv_room (Nat.le_of_ble_eq_true rfl)) dX11_leastPair_85 ⟨hRc, hRs⟩).run (fun r hw => kC r hw)
            ·
              obtain ⟨nu_119, kd_120, cn_121, pa_122, fa_123, l_124, co_125, wd_126, nm_127, hs_128, hs_129, hs_130, hs_131, hq_132, hq_133, hq_134⟩ := x_ist hI ht9
              obtain ⟨kk_135, hk_136⟩ := pl_at ht9.1 hs_128
              exact vp_callSi (va_runU (As := [.ref b_38, .int p0, .int 0]) (rest := []) ⟨hx, hb, hml, hown, hts⟩ (x_meets l dC dI q h0 d k z f hI b_31 b_38 p0 0 ht_33 ht_40) (va_cwU 3 hts gX11_leastPair_X4_meets_u358X10 rfl rfl rfl rfl (by decide +kernel) ⟨Nat.le_trans (Nat.le_of_ble_eq_true rfl) hRf, Nat.le_trans (Nat.le_of_ble_eq_true rfl) hRl⟩) ⟨px_fb, va_recv hK hP (ci := 9) (q0 := kk_135) rfl hk_136, fun U hU hW => ⟨rfl, px_to hU hW hP hK hN hXN⟩⟩ rfl rfl hl.1 rfl (lv_room (Nat.le_of_ble_eq_true rfl)) dX11_leastPair_85 ⟨hRc, hRs⟩).run (fun r hw => kC r hw)
        ·
          refine lv_iconst (v := 1) hx hb dX11_leastPair_80 (by decide) ?_
          refine lv_goto (tgt := 85) hx hb dX11_leastPair_81 (by decide) ?_
          refine w_cut (X := fun R cells slots Q args => ∀ r : Int32, (r = 0 ∨ r = 1) → W p l e R s m args below meth c H locs cells slots Q (F0 m 88 ls (.int r :: []))) ?_ (fun kC => ?_)
          ·
            intro r hw
            rcases hw with hw | hw
            ·
              subst hw
              refine lv_if_eq (tgt := 103) hx hb dX11_leastPair_88 (by decide) (fun c_234 => ?_) (fun c_234 => absurd (by decide) c_234)
              refine lv_iinc (v := (nI (i + 1))) (lv' := [(4, .int (nI (i + 1))), (3, .int (nI a9)), (0, .ref h0), (1, .int p0), (2, .int p1)]) hx hb dX11_leastPair_103 hl (k := 0) rfl (nI_1 i) (by decide) rfl (fun ls hl => ?_)
              refine lv_goto (tgt := 31) hx hb dX11_leastPair_106 (by decide) ?_
              exact ih (i + 1) ls (by omega) (by omega) (lv_sub hl [0, 1, 2, 3, 4] rfl)
            ·
              subst hw
              refine lv_if_eq (tgt := 103) hx hb dX11_leastPair_88 (by decide) (fun c_235 => absurd c_235 (by decide)) (fun c_235 => ?_)
              exact kx91 _ ls (lv_sub hl [0, 1, 2, 3, 4] rfl)
          ·
            rcases x_tag ht_33 with ht9 | ht9 | ht9 | ht9 | ht9 | ht9
            ·
              obtain ⟨nu_139, kd_140, cn_141, pa_142, fa_143, l_144, m_145, hs_146, hs_147, hs_148, hs_149⟩ := x_ifl hI ht9
              obtain ⟨kk_150, hk_151⟩ := pl_at ht9.1 hs_146
              exact vp_callSi (va_runU (As := [.ref b_38, .int p0, .int 1]) (rest := []) ⟨hx, hb, hml, hown, hts⟩ (x_meets l dC dI q h0 d k z f hI b_31 b_38 p0 1 ht_33 ht_40) (va_cwU 3 hts gX11_leastPair_X4_meets_u358X2 rfl rfl rfl rfl (by decide +kernel) ⟨Nat.le_trans (Nat.le_of_ble_eq_true rfl) hRf, Nat.le_trans (Nat.le_of_ble_eq_true rfl) hRl⟩) ⟨px_fb, va_recv hK hP (ci := 2) (q0 := kk_150) rfl hk_151, fun U hU hW => ⟨rfl, px_to hU hW hP hK hN hXN⟩⟩ rfl rfl hl.1 rfl (lv_room (Nat.le_of_ble_eq_true rfl)) dX11_leastPair_85 ⟨hRc, hRs⟩).run (fun r hw => kC r hw)
            ·
              obtain ⟨nu_152, kd_153, cn_154, pa_155, fa_156, o_157, w_158, y_159, hs_160, hs_161, hs_162, hs_163, hq_164⟩ := x_ihd hI ht9
              obtain ⟨kk_165, hk_166⟩ := pl_at ht9.1 hs_160
              exact vp_callSi (va_runU (As := [.ref b_38, .int p0, .int 1]) (rest := []) ⟨hx, hb, hml, hown, hts⟩ (x_meets l dC dI q h0 d k z f hI b_31 b_38 p0 1 ht_33 ht_40) (va_cwU 3 hts gX11_leastPair_X4_meets_u358X3 rfl rfl rfl rfl (by decide +kernel) ⟨Nat.le_trans (Nat.le_of_ble_eq_true rfl) hRf, Nat.le_trans (Nat.le_of_ble_eq_true rfl) hRl⟩) ⟨px_fb, va_recv hK hP (ci := 3) (q0 := kk_165) rfl hk_166, fun U hU hW => ⟨rfl, px_to hU hW hP hK hN hXN⟩⟩ rfl rfl hl.1 rfl (lv_room (Nat.le_of_ble_eq_true rfl)) dX11_leastPair_85 ⟨hRc, hRs⟩).run (fun r hw => kC r hw)
            ·
              obtain ⟨nu_167, kd_168, cn_169, pa_170, fa_171, o_172, y_173, hs_174, hs_175, hs_176, hs_177, hq_178⟩ := x_ino hI ht9
              obtain ⟨kk_179, hk_180⟩ := pl_at ht9.1 hs_174
              exact vp_callSi (va_runU (As := [.ref b_38, .int p0, .int 1]) (rest := []) ⟨hx, hb, hml, hown, hts⟩ (x_meets l dC dI q h0 d k z f hI b_31 b_38 p0 1 ht_33 ht_40) (va_cwU 3 hts gX11_leastPair_X4_meets_u358X5 rfl rfl rfl rfl (by decide +kernel) ⟨Nat.le_trans (Nat.le_of_ble_eq_true rfl) hRf, Nat.le_trans (Nat.le_of_ble_eq_true rfl) hRl⟩) ⟨px_fb, va_recv hK hP (ci := 4) (q0 := kk_179) rfl hk_180, fun U hU hW => ⟨rfl, px_to hU hW hP hK hN hXN⟩⟩ rfl rfl hl.1 rfl (lv_room (Nat.le_of_ble_eq_true rfl)) dX11_leastPair_85 ⟨hRc, hRs⟩).run (fun r hw => kC r hw)
            ·
              obtain ⟨nu_181, kd_182, cn_183, pa_184, fa_185, b_186, pr_187, sp_188, dy_189, hs_190, hs_191, hs_192, hs_193, hq_194, hq_195, hq_196⟩ := x_ipd hI ht9
              obtain ⟨kk_197, hk_198⟩ := pl_at ht9.1 hs_190
              exact vp_callSi (va_runU (As := [.ref b_38, .int p0, .int 1]) (rest := []) ⟨hx, hb, hml, hown, hts⟩ (x_meets l dC dI q h0 d k z f hI b_31 b_38 p0 1 ht_33 ht_40) (va_cwU 3 hts gX11_leastPair_X4_meets_u358X6 rfl rfl rfl rfl (by decide +kernel) ⟨Nat.le_trans (Nat.le_of_ble_eq_true rfl) hRf, Nat.le_trans (Nat.le_of_ble_eq_true rfl) hRl⟩) ⟨px_fb, va_recv hK hP (ci := 5) (q0 := kk_197) rfl hk_198, fun U hU hW => ⟨rfl, px_to hU hW hP hK hN hXN⟩⟩ rfl rfl hl.1 rfl (lv_room (Nat.le_of_ble_eq_true rfl)) dX11_leastPair_85 ⟨hRc, hRs⟩).run (fun r hw => kC r hw)
            ·
              obtain ⟨nu_199, kd_200, cn_201, pa_202, fa_203, ww_204, hh_205, sz_206, hs_207, hs_208, hs_209, hs_210, hq_211, hq_212, hq_213⟩ := x_ipi hI ht9
              obtain ⟨kk_214, hk_215⟩ := pl_at ht9.1 hs_207
              exact vp_callSi (va_runU (As := [.ref b_38, .int p0, .int 1]) (rest := []) ⟨hx, hb, hml, hown, hts⟩ (x_meets l dC dI q h0 d k z f hI b_31 b_38 p0 1 ht_33 ht_40) (va_cwU 3 hts gX11_leastPair_X4_meets_u358X7 rfl rfl rfl rfl (by decide +kernel) ⟨Nat.le_trans (Nat.le_of_ble_eq_true rfl) hRf, Nat.le_trans (Nat.le_of_ble_eq_true rfl) hRl⟩) ⟨px_fb, va_recv hK hP (ci := 6) (q0 := kk_214) rfl hk_215, fun U hU hW => ⟨rfl, px_to hU hW hP hK hN hXN⟩⟩ rfl rfl hl.1 rfl (lv_room (Nat.le_of_ble_eq_true rfl)) dX11_leastPair_85 ⟨hRc, hRs⟩).run (fun r hw => kC r hw)
            ·
              obtain ⟨nu_216, kd_217, cn_218, pa_219, fa_220, l_221, co_222, wd_223, nm_224, hs_225, hs_226, hs_227, hs_228, hq_229, hq_230, hq_231⟩ := x_ist hI ht9
              obtain ⟨kk_232, hk_233⟩ := pl_at ht9.1 hs_225
              exact vp_callSi (va_runU (As := [.ref b_38, .int p0, .int 1]) (rest := []) ⟨hx, hb, hml, hown, hts⟩ (x_meets l dC dI q h0 d k z f hI b_31 b_38 p0 1 ht_33 ht_40) (va_cwU 3 hts gX11_leastPair_X4_meets_u358X10 rfl rfl rfl rfl (by decide +kernel) ⟨Nat.le_trans (Nat.le_of_ble_eq_true rfl) hRf, Nat.le_trans (Nat.le_of_ble_eq_true rfl) hRl⟩) ⟨px_fb, va_recv hK hP (ci := 9) (q0 := kk_232) rfl hk_233, fun U hU hW => ⟨rfl, px_to hU hW hP hK hN hXN⟩⟩ rfl rfl hl.1 rfl (lv_room (Nat.le_of_ble_eq_true rfl)) dX11_leastPair_85 ⟨hRc, hRs⟩).run (fun r hw => kC r hw)
set_option maxHeartbeats 4000000 in
set_option maxRecDepth 100000 in
theorem x_lp_out {p : Program} {l : Launch} {e : Env} {R : Room} {s : State} {m : MethodId} {args : Array Value} {below : List Frame} {meth : Method} {c : Code} {Q : State → Prop} {cells slots : Nat} {dC : Nat → ClassId} {dI : Nat → Nat → Nat} {q : Nat → ClassId} {h0 : Nat} {d : Nat → Nat} {k : Nat → Int32} {z : gS} {f : xF} {H : Heap} {locs : List Loc} (hI : xI q h0 d k z f) (hx : p.tables.exec = Jvm.exec) (hb : c.code = cX11_leastPair) (hml : c.maxLocals = 5) (hts : ∀ w ∈ wsX11_leastPair, w.before args s = true) (hown : s.vm.findClass RX11 = some m.cls) (hN : NN s) (hXN : XN s) (hK : va_K (dC, dI) vwCl (xT q) s) (hRf : 3 ≤ R.frames) (hRl : 69 ≤ R.locals) (hRc : cells ≤ R.cells) (hRs : slots ≤ R.slots) (hP : va_P (dC, dI) vwCl (va_pl z.1 f) H) {K : Nat} (hK8 : K ≤ 80) (eK : k 0 = nI K) {p0 p1 : Int32} (kx115 : ∀ (ls : Array Slot), lv_has ls 5 [(0, .ref h0), (1, .int p0), (2, .int p1)] → W p l e R s m args below meth c H locs cells slots Q (F0 m 115 ls [])) (kx91 : ∀ (a9 : Int32) (b9 : Int32) (ls : Array Slot), lv_has ls 5 [(4, .int b9), (3, .int a9), (0, .ref h0), (1, .int p0), (2, .int p1)] → W p l e R s m args below meth c H locs cells slots Q (F0 m 91 ls [])) : ∀ (kk i : Nat) (ls : Array Slot), i ≤ K → K - i < kk → lv_has ls 5 [(3, .int (nI i)), (0, .ref h0), (1, .int p0), (2, .int p1)] → W p l e R s m args below meth c H locs cells slots Q (F0 m 2 ls []) := by
  intro kk
  induction kk with
  | zero => intro i ls h1 h2; exact absurd h2 (Nat.not_lt_zero _)
  | succ kk ih =>
    intro i ls hi hkk hl
    refine lv_iload_n hx hb dX11_leastPair_2 rfl (lv_at hl 0 rfl) ?_
    refine lv_aload_n hx hb dX11_leastPair_3 rfl (lv_at hl 1 rfl) ?_
    obtain ⟨kk_1, hk_2⟩ := pl_at hI.2.1.1.1 hI.2.2.2.1.1
    refine va_get (D := (dC, dI)) (ci := 10) (v := .int (k 0)) (C := RX11) (T := TX11) (N := 9) hx hb hts (by decide +kernel) hown hK hP kk_1 hk_2 rfl 3 (by decide) (hts (.fieldLink RX11 24 "PageOne" "itemCount" "I") (by decide +kernel)) (fun _ h9 => h9) rfl dX11_leastPair_4 ?_
    refine lv_topi (fun y_3 ey_3 => ?_)
    obtain rfl : y_3 = (nI K) := ey_3.trans (eK)
    refine lv_icmp_ge (tgt := 115) hx hb dX11_leastPair_7 (by decide) (fun c_4 => ?_) (fun c_4 => ?_)
    ·
      have hie : i = K := lp_eq rfl (by omega) hi c_4
      exact kx115 ls (lv_sub hl [1, 2, 3] rfl)
    ·
      have hlt : i < K := lp_lt rfl (by omega) hi c_4
      refine lv_aload_n hx hb dX11_leastPair_10 rfl (lv_at hl 1 rfl) ?_
      obtain ⟨kk_5, hk_6⟩ := pl_at hI.2.1.1.1 hI.2.2.2.1.1
      refine va_get (D := (dC, dI)) (ci := 10) (v := .ref (d 2)) (C := RX11) (T := TX11) (N := 9) hx hb hts (by decide +kernel) hown hK hP kk_5 hk_6 rfl 2 (by decide) (hts (.fieldLink RX11 20 "PageOne" "items" "[LPageOne$Item;") (by decide +kernel)) (fun _ h9 => h9) rfl dX11_leastPair_11 ?_
      refine lv_iload_n hx hb dX11_leastPair_14 rfl (lv_at hl 0 rfl) ?_
      obtain ⟨g_7, hs_8, hn_9, hg_10⟩ := x_itm hI
      obtain ⟨kk_11, hk_12⟩ := pl_at hI.2.1.2.2.2.1.1 hs_8
      refine va_aldq hx hb hK hP kk_11 3 hk_12 rfl (vp_in_nI (by omega) (by decide)) dX11_leastPair_15 ?_
      obtain ⟨b_13, hg_14⟩ := hn_9 ((nI i) : Int32).toNatClampNeg (by rw [eK, nI_clamp (by omega), nI_clamp (by omega)]; exact hlt)
      have ht_15 := hg_10 ((nI i) : Int32).toNatClampNeg (vlt (vp_in_nI (by omega) (by decide))) b_13 hg_14
      rw [hg_14]
      refine W.eq (g2 := F0 m 16 ls [.ref b_13]) rfl ?_
      refine lv_iload_n hx hb dX11_leastPair_16 rfl (lv_at hl 2 rfl) ?_
      refine w_cut (X := fun R cells slots Q args => ∀ r : Int32, (r = 0 ∨ r = 1) → W p l e R s m args below meth c H locs cells slots Q (F0 m 20 ls (.int r :: []))) ?_ (fun kC => ?_)
      ·
        intro r hw
        rcases hw with hw | hw
        ·
          subst hw
          refine lv_if_ne (tgt := 26) hx hb dX11_leastPair_20 (by decide) (fun c_111 => absurd (by decide) c_111) (fun c_111 => ?_)
          refine lv_goto (tgt := 109) hx hb dX11_leastPair_23 (by decide) ?_
          refine lv_iinc (v := (nI (i + 1))) (lv' := [(3, .int (nI (i + 1))), (0, .ref h0), (1, .int p0), (2, .int p1)]) hx hb dX11_leastPair_109 hl (k := 0) rfl (nI_1 i) (by decide) rfl (fun ls hl => ?_)
          refine lv_goto (tgt := 2) hx hb dX11_leastPair_112 (by decide) ?_
          exact ih (i + 1) ls (by omega) (by omega) (lv_sub hl [0, 1, 2, 3] rfl)
        ·
          subst hw
          refine lv_if_ne (tgt := 26) hx hb dX11_leastPair_20 (by decide) (fun c_112 => ?_) (fun c_112 => absurd c_112 (by decide))
          refine lv_iload_n hx hb dX11_leastPair_26 rfl (lv_at hl 0 rfl) ?_
          refine lv_iconst (v := 1) hx hb dX11_leastPair_27 (by decide) ?_
          refine lv_iadd hx hb dX11_leastPair_28 ?_
          refine lv_topi (fun y_113 ey_113 => ?_)
          obtain rfl : y_113 = (nI (i + 1)) := ey_113.trans (nI_1 i)
          refine lv_istore (lv' := [(4, .int (nI (i + 1))), (3, .int (nI i)), (0, .ref h0), (1, .int p0), (2, .int p1)]) hx hb dX11_leastPair_29 hl (by decide) rfl (fun ls hl => ?_)
          refine x_lp_in (K := K) (a9 := i) hI hx hb hml hts hown hN hXN hK hRf hRl hRc hRs hP hK8 eK hlt (fun ls hl => ?_) (fun b9 ls hl => ?_) (K + 1) (i + 1) ls (by omega) (by omega) (lv_sub hl [0, 1, 2, 3, 4] rfl)
          ·
            refine lv_iinc (v := (nI (i + 1))) (lv' := [(3, .int (nI (i + 1))), (0, .ref h0), (1, .int p0), (2, .int p1)]) hx hb dX11_leastPair_109 hl (k := 0) rfl (nI_1 i) (by decide) rfl (fun ls hl => ?_)
            refine lv_goto (tgt := 2) hx hb dX11_leastPair_112 (by decide) ?_
            exact ih (i + 1) ls (by omega) (by omega) (lv_sub hl [0, 1, 2, 3] rfl)
          ·
            exact kx91 _ _ ls (lv_sub hl [0, 1, 2, 3, 4] rfl)
      ·
        rcases x_tag ht_15 with ht9 | ht9 | ht9 | ht9 | ht9 | ht9
        ·
          obtain ⟨nu_16, kd_17, cn_18, pa_19, fa_20, l_21, m_22, hs_23, hs_24, hs_25, hs_26⟩ := x_ifl hI ht9
          obtain ⟨kk_27, hk_28⟩ := pl_at ht9.1 hs_23
          exact vp_callSi (va_runU (As := [.int p0]) (rest := []) ⟨hx, hb, hml, hown, hts⟩ (x_isOn l dC dI q h0 d k z f hI b_13 p0 ht_15) (va_cwU 1 hts gX11_leastPair_X4_isOn_u346X2 rfl rfl rfl rfl (by decide +kernel) ⟨Nat.le_trans (Nat.le_of_ble_eq_true rfl) hRf, Nat.le_trans (Nat.le_of_ble_eq_true rfl) hRl⟩) ⟨px_fb, va_recv hK hP (ci := 2) (q0 := kk_27) rfl hk_28, fun U hU hW => ⟨rfl, px_to hU hW hP hK hN hXN⟩⟩ rfl rfl hl.1 rfl (lv_room (Nat.le_of_ble_eq_true rfl)) dX11_leastPair_17 ⟨hRc, hRs⟩).run (fun r hw => kC r hw)
        ·
          obtain ⟨nu_29, kd_30, cn_31, pa_32, fa_33, o_34, w_35, y_36, hs_37, hs_38, hs_39, hs_40, hq_41⟩ := x_ihd hI ht9
          obtain ⟨kk_42, hk_43⟩ := pl_at ht9.1 hs_37
          exact vp_callSi (va_runU (As := [.int p0]) (rest := []) ⟨hx, hb, hml, hown, hts⟩ (x_isOn l dC dI q h0 d k z f hI b_13 p0 ht_15) (va_cwU 1 hts gX11_leastPair_X4_isOn_u346X3 rfl rfl rfl rfl (by decide +kernel) ⟨Nat.le_trans (Nat.le_of_ble_eq_true rfl) hRf, Nat.le_trans (Nat.le_of_ble_eq_true rfl) hRl⟩) ⟨px_fb, va_recv hK hP (ci := 3) (q0 := kk_42) rfl hk_43, fun U hU hW => ⟨rfl, px_to hU hW hP hK hN hXN⟩⟩ rfl rfl hl.1 rfl (lv_room (Nat.le_of_ble_eq_true rfl)) dX11_leastPair_17 ⟨hRc, hRs⟩).run (fun r hw => kC r hw)
        ·
          obtain ⟨nu_44, kd_45, cn_46, pa_47, fa_48, o_49, y_50, hs_51, hs_52, hs_53, hs_54, hq_55⟩ := x_ino hI ht9
          obtain ⟨kk_56, hk_57⟩ := pl_at ht9.1 hs_51
          exact vp_callSi (va_runU (As := [.int p0]) (rest := []) ⟨hx, hb, hml, hown, hts⟩ (x_isOn l dC dI q h0 d k z f hI b_13 p0 ht_15) (va_cwU 1 hts gX11_leastPair_X4_isOn_u346X5 rfl rfl rfl rfl (by decide +kernel) ⟨Nat.le_trans (Nat.le_of_ble_eq_true rfl) hRf, Nat.le_trans (Nat.le_of_ble_eq_true rfl) hRl⟩) ⟨px_fb, va_recv hK hP (ci := 4) (q0 := kk_56) rfl hk_57, fun U hU hW => ⟨rfl, px_to hU hW hP hK hN hXN⟩⟩ rfl rfl hl.1 rfl (lv_room (Nat.le_of_ble_eq_true rfl)) dX11_leastPair_17 ⟨hRc, hRs⟩).run (fun r hw => kC r hw)
        ·
          obtain ⟨nu_58, kd_59, cn_60, pa_61, fa_62, b_63, pr_64, sp_65, dy_66, hs_67, hs_68, hs_69, hs_70, hq_71, hq_72, hq_73⟩ := x_ipd hI ht9
          obtain ⟨kk_74, hk_75⟩ := pl_at ht9.1 hs_67
          exact vp_callSi (va_runU (As := [.int p0]) (rest := []) ⟨hx, hb, hml, hown, hts⟩ (x_isOn l dC dI q h0 d k z f hI b_13 p0 ht_15) (va_cwU 1 hts gX11_leastPair_X4_isOn_u346X6 rfl rfl rfl rfl (by decide +kernel) ⟨Nat.le_trans (Nat.le_of_ble_eq_true rfl) hRf, Nat.le_trans (Nat.le_of_ble_eq_true rfl) hRl⟩) ⟨px_fb, va_recv hK hP (ci := 5) (q0 := kk_74) rfl hk_75, fun U hU hW => ⟨rfl, px_to hU hW hP hK hN hXN⟩⟩ rfl rfl hl.1 rfl (lv_room (Nat.le_of_ble_eq_true rfl)) dX11_leastPair_17 ⟨hRc, hRs⟩).run (fun r hw => kC r hw)
        ·
          obtain ⟨nu_76, kd_77, cn_78, pa_79, fa_80, ww_81, hh_82, sz_83, hs_84, hs_85, hs_86, hs_87, hq_88, hq_89, hq_90⟩ := x_ipi hI ht9
          obtain ⟨kk_91, hk_92⟩ := pl_at ht9.1 hs_84
          exact vp_callSi (va_runU (As := [.int p0]) (rest := []) ⟨hx, hb, hml, hown, hts⟩ (x_isOn l dC dI q h0 d k z f hI b_13 p0 ht_15) (va_cwU 1 hts gX11_leastPair_X4_isOn_u346X7 rfl rfl rfl rfl (by decide +kernel) ⟨Nat.le_trans (Nat.le_of_ble_eq_true rfl) hRf, Nat.le_trans (Nat.le_of_ble_eq_true rfl) hRl⟩) ⟨px_fb, va_recv hK hP (ci := 6) (q0 := kk_91) rfl hk_92, fun U hU hW => ⟨rfl, px_to hU hW hP hK hN hXN⟩⟩ rfl rfl hl.1 rfl (lv_room (Nat.le_of_ble_eq_true rfl)) dX11_leastPair_17 ⟨hRc, hRs⟩).run (fun r hw => kC r hw)
        ·
          obtain ⟨nu_93, kd_94, cn_95, pa_96, fa_97, l_98, co_99, wd_100, nm_101, hs_102, hs_103, hs_104, hs_105, hq_106, hq_107, hq_108⟩ := x_ist hI ht9
          obtain ⟨kk_109, hk_110⟩ := pl_at ht9.1 hs_102
          exact vp_callSi (va_runU (As := [.int p0]) (rest := []) ⟨hx, hb, hml, hown, hts⟩ (x_isOn l dC dI q h0 d k z f hI b_13 p0 ht_15) (va_cwU 1 hts gX11_leastPair_X4_isOn_u346X10 rfl rfl rfl rfl (by decide +kernel) ⟨Nat.le_trans (Nat.le_of_ble_eq_true rfl) hRf, Nat.le_trans (Nat.le_of_ble_eq_true rfl) hRl⟩) ⟨px_fb, va_recv hK hP (ci := 9) (q0 := kk_109) rfl hk_110, fun U hU hW => ⟨rfl, px_to hU hW hP hK hN hXN⟩⟩ rfl rfl hl.1 rfl (lv_room (Nat.le_of_ble_eq_true rfl)) dX11_leastPair_17 ⟨hRc, hRs⟩).run (fun r hw => kC r hw)
set_option maxHeartbeats 4000000 in
set_option maxRecDepth 100000 in
theorem x_leastPair (l : Launch) (dC : Nat → ClassId) (dI : Nat → Nat → Nat) (q : Nat → ClassId) (h0 : Nat) (d : Nat → Nat) (k : Nat → Int32) (z : gS) (f : xF) (hI : xI q h0 d k z f) (p0 p1 : Int32) (sz : Nat) : Met l yX11_leastPair wsX11_leastPair ({ frames := 3, cells := 1, slots := 3, locals := 69 }) (va_Pc [.ref h0, .int p0, .int p1] (fun U => U.heap.size = sz ∧ PX dC dI (va_pl z.1 f) (xT q) U ∧ va_D (fun _ => True) (va_pl z.1 f))) (va_Qq (fun (r : Option Nat) (w : xU) => (r = none ∧ w = (k, z, f)) ∨ (∃ b, r = some b ∧ w.1 = k ∧ zE z w.2.1 ∧ xI q h0 d k w.2.1 w.2.2 ∧ bch w.2.1 w.2.2 b)) (fun (w : xU) t => va_P (dC, dI) vwCl (va_pl w.2.1.1 w.2.2) t.heap ∧ va_D (va_A (va_pl z.1 f) sz) (va_pl w.2.1.1 w.2.2)) (va_A (va_pl z.1 f) sz)) 1 3 (va_A (va_pl z.1 f) sz) := by
  refine Met.ofW (cc := cX11_leastPair) (maxL := 5) (ret := (some (.object "PageOne$Breach"))) (by decide) rfl ?_
  intro p e s m args below meth c s₁ B hml hv
  obtain ⟨rfl, hsz, ⟨⟨hP, hK, hN⟩, hXN⟩, hD0⟩ := hv
  have hx := B.exec
  have hb := B.bytes
  have hr := B.returns
  have hts := atoms_spec (ws := wsX11_leastPair) B.pre
  have hown : s.vm.findClass RX11 = some m.cls := findClass_of_methodNamed B.named
  have hlocks := B.notSynchronized
  subst hsz
  have hD := hD0.self (sz := s.heap.size)
  generalize hAe : va_A (va_pl z.1 f) s.heap.size = A at hD ⊢
  have hA : ∀ q : Nat, s.heap.size ≤ q → A q := fun q h => by rw [← hAe]; exact Or.inr h
  have hS : va_S A s.heap s.heap [] := va_S.rf
  have hl := lv_entry ([.ref h0, .int p0, .int p1]) (n := 5) (Nat.le_of_ble_eq_true rfl)
  rw [lg_entry_eq]
  generalize (lg_sl ([.ref h0, .int p0, .int p1]) ++ List.replicate (5 - (lg_sl ([.ref h0, .int p0, .int p1])).length) Slot.unset).toArray = ls at hl ⊢
  have hl : lv_has ls 5 [(0, .ref h0), (1, .int p0), (2, .int p1)] := hl
  refine lv_iconst (v := 0) hx hb dX11_leastPair_0 (by decide) ?_
  refine lv_istore_n (lv' := [(3, .int 0), (0, .ref h0), (1, .int p0), (2, .int p1)]) hx hb dX11_leastPair_1 rfl hl (by decide) rfl (fun ls hl => ?_)
  obtain ⟨K, hK8, -, eK⟩ := exN hI.1.1 (by decide)
  have h80 : (80 : Int32).toInt = 80 := rfl
  refine x_lp_out (K := K) hI hx hb hml hts hown hN hXN hK (Nat.le_of_ble_eq_true rfl) (Nat.le_of_ble_eq_true rfl) (Nat.le_of_ble_eq_true rfl) (Nat.le_of_ble_eq_true rfl) hP (by omega) eK (fun ls hl => ?_) (fun a9 b9 ls hl => ?_) (K + 1) 0 ls (Nat.zero_le _) (by omega) (lv_sub hl [0, 1, 2, 3] rfl)
  ·
    refine lv_null hx hb dX11_leastPair_115 ?_
    refine W.widen (k := 1) (n := 3) (Nat.le_of_ble_eq_true rfl) (Nat.le_of_ble_eq_true rfl) ?_
    exact W.aret (v := .null) hx hb hr (Or.inl ⟨_, rfl⟩) (Or.inl rfl) (fun t ht hW => ⟨⟨none, (k, z, f), rfl, (Or.inl ⟨rfl, rfl⟩), by rw [ht]; exact hP, hD⟩, hS.F ht⟩) hS.2.2 dX11_leastPair_116
  ·
    refine va_new (ci := 1) (fs := [.int 0, .int 0, .int 0]) (C := RX1) (T := TX1) (N := 3) hx hb hts (by decide +kernel) tyX1 tyX1_ok hown (hts (.classLink RX11 202 RX1) (by decide +kernel)) (hts (.instantiable RX1 3) (by decide +kernel)) (hts (.initialized RX1) (by decide +kernel)) hK hP hD hS hA rfl nwX1 (Nat.le_of_ble_eq_true rfl) (Nat.le_of_ble_eq_true rfl) dX11_leastPair_91 (fun q_1 H hPn hDn hS => ?_)
    have hP := vaP_l hPn
    refine W.widen (k := 1) (n := 3) (Nat.le_of_ble_eq_true rfl) (Nat.le_of_ble_eq_true rfl) ?_
    refine lv_dup hx hb dX11_leastPair_94 rfl ?_
    refine lv_iload_n hx hb dX11_leastPair_95 rfl (lv_at hl 4 rfl) ?_
    refine lv_iload_n hx hb dX11_leastPair_96 rfl (lv_at hl 1 rfl) ?_
    refine lv_iload hx hb dX11_leastPair_97 (lv_at hl 0 rfl) ?_
    have hPc := vaP_r hPn
    have hDc := vaD_r hDn
    have hFc := fr_part hDn hS hA
    refine va_callv (va_runI (As := [.int p1, .int a9, .int b9]) (rest := [.ref q_1]) ⟨hx, hb, hml, hown, hts⟩ (x_Breach l dC dI q_1 p1 a9 b9 H.size) (cwI 3 hts gX11_leastPair_X1_init rfl rfl rfl (hts (.initialized RX1) (by decide +kernel)) (hts (.methodLink RX11 353 yX1_init) (by decide +kernel)) (hts (.instanceMethod yX1_init) (by decide +kernel)) rfl (by decide +kernel) ⟨Nat.le_of_ble_eq_true rfl, Nat.le_of_ble_eq_true rfl⟩) ⟨gw_fb, fun U hU hW => ⟨rfl, by rw [hU], pw_to hU hW hPc (hK.sub (tys' := []) [] rfl) hN, hDc.weaken (fun _ _ _ _ => trivial)⟩⟩ rfl rfl hl.1 rfl (lv_room (Nat.le_of_ble_eq_true rfl)) dX11_leastPair_99 ⟨Nat.le_of_ble_eq_true rfl, Nat.le_of_ble_eq_true rfl⟩) hS (fun q _ h => hFc q h) hFc (fun u t H1 locs ht hvm hw hB hz1 hk1 hS => ?_)
    obtain ⟨hP1, hD1⟩ := hB
    rw [ht] at hP1
    obtain ⟨hP, hD⟩ := va_joinQ (X := [(q_1, .inr (1, [.int 0, .int 0, .int 0]))]) (cx := [(q_1, .inr (1, [.int 0, .int 0, .int 0]))]) (wr := []) (w1 := [(q_1, .inr (1, [.int p1, .int a9, .int b9]))]) (pl := va_pl z.1 f) (vaP_swap hPn) (vaD_rotR hDn) [0] [] rfl rfl rfl (fun i hi => absurd hi List.not_mem_nil) hk1 hFc hP1 hD1
    generalize H1 = H at hP hS ⊢
    obtain ⟨hnm_2, hP, hD⟩ := pushC hP hD
    obtain ⟨z_3, ez_3⟩ : ∃ y : gS, y = pz z q_1 (24, 0, []) := ⟨_, rfl⟩
    obtain ⟨f_4, ef_4⟩ : ∃ y : xF, y = va_up f q_1 (.inr (1, [.int p1, .int a9, .int b9])) := ⟨_, rfl⟩
    have hE_5 : zE z z_3 := by rw [ez_3]; exact pz_E hnm_2 _
    have hI : xI q h0 d k z_3 f_4 := by rw [ez_3, ef_4]; exact x_push hI hnm_2 (Or.inr (by decide : (15 : Nat) < 24)) (cO_24 (by rw [pz_s]))
    rw [show z.1 ++ [q_1] = z_3.1 from by rw [ez_3]; rfl, ← ef_4] at hP hD
    have ht_6 : tg z_3 q_1 24 := by rw [ez_3]; exact pz_t _ _ _
    have hEz : zE z z_3 := zE_tr (zE_rf z) hE_5
    refine W.eq (g2 := F0 m 102 ls [.ref q_1]) rfl ?_
    have hbc_7 : f_4 q_1 = .inr (1, [.int p1, .int a9, .int b9]) := by rw [ef_4]; exact up_s
    exact W.aret (v := .ref q_1) hx hb hr (Or.inl ⟨_, rfl⟩) (Or.inr ⟨_, rfl⟩) (fun t ht hW => ⟨⟨(some q_1), (k, z_3, f_4), rfl, (Or.inr ⟨q_1, rfl, rfl, hEz, hI, ht_6, _, _, _, hbc_7⟩), by rw [ht]; exact hP, hD⟩, hS.F ht⟩) hS.2.2 dX11_leastPair_102
