def noL (u : mS) (p kd : Int32) : Prop := ∀ a b, a < b → b < (u.1 3).toNatClampNeg → ¬ lpC u p kd a b
def fsC (u : mS) (p kd : Int32) (i : Nat) : Prop := onP u i p ∧ faP u i kd
def noS (u : mS) (p kd : Int32) : Prop := ∀ i, i < (u.1 3).toNatClampNeg → ¬ fsC u p kd i
def isL (u : mS) (p kd x y t : Int32) : Prop := x = kd ∧ ∃ a b, y = nI a ∧ t = nI b ∧ lpM u p kd (u.1 3).toNatClampNeg a b
def isS (u : mS) (p kd x y t : Int32) : Prop := x = kd ∧ t = (-1) ∧ ∃ i, i < (u.1 3).toNatClampNeg ∧ y = nI i ∧ fsC u p kd i ∧ ∀ j, j < i → ¬ fsC u p kd j
/-- what is broken on a page, as the class finds it -/
def brM (u : mS) (p x y t : Int32) : Prop := isL u p 1 x y t ∨ (noL u p 1 ∧ (isL u p 2 x y t ∨ (noL u p 2 ∧ (isL u p 3 x y t ∨ (noL u p 3 ∧ (isS u p 4 x y t ∨ (noS u p 4 ∧ (isS u p 5 x y t ∨ (noS u p 5 ∧ x = 0 ∧ y = (-1) ∧ t = (-1))))))))))
def brP (q : Nat → ClassId) (h0 : Nat) (d : Nat → Nat) (k : Nat → Int32) (z : gS) (f : xF) (u : mS) (p : Int32) (r : Option Nat) (w : xU) : Prop := ∃ c x y t, r = some c ∧ w.1 = k ∧ zE z w.2.1 ∧ xI q h0 d k w.2.1 w.2.2 ∧ rep q d u w.2.1 w.2.2 ∧ w.2.2 (d 3) = f (d 3) ∧ tg w.2.1 c 24 ∧ w.2.2 c = .inr (1, [.int x, .int y, .int t]) ∧ brM u p x y t
set_option maxHeartbeats 4000000 in
set_option maxRecDepth 100000 in
theorem y_br_l {p : Program} {l : Launch} {e : Env} {R : Room} {s : State} {m : MethodId} {args : Array Value} {below : List Frame} {meth : Method} {c : Code} {Q : State → Prop} {cells slots : Nat} {dC : Nat → ClassId} {dI : Nat → Nat → Nat} {q : Nat → ClassId} {h0 : Nat} {d : Nat → Nat} {k : Nat → Int32} {z : gS} {f : xF} {H : Heap} {locs : List Loc} (hI : xI q h0 d k z f) (hx : p.tables.exec = Jvm.exec) (hb : c.code = cX11_breachOn) (hml : c.maxLocals = 4) (hts : ∀ w ∈ wsX11_breachOn, w.before args s = true) (hown : s.vm.findClass RX11 = some m.cls) (hN : NN s) (hXN : XN s) (hK : va_K (dC, dI) vwCl (xT q) s) (hRf : 5 ≤ R.frames) (hRl : 110 ≤ R.locals) (hRc : cells ≤ R.cells) (hRs : slots ≤ R.slots) (hP : va_P (dC, dI) vwCl (va_pl z.1 f) H) {u : mS} (hrp : rep q d u z f) (hk0 : k 0 = u.1 3) (hk1 : k 1 = u.1 28) (hk2 : k 2 = u.1 38) (hk3 : k 3 = u.1 39) {K : Nat} (hK8 : K ≤ 80) (eK : k 0 = nI K) (eKn : (u.1 3).toNatClampNeg = K) (hpcI : pcI u) {p0 p1 : Int32} (kx87 : ∀ (ls : Array Slot), (∀ j, j < K → ¬ fsC u p0 p1 j) → lv_has ls 4 [(0, .ref h0), (1, .int p0), (2, .int p1)] → W p l e R s m args below meth c H locs cells slots Q (F0 m 87 ls [])) (kx70 : ∀ (i9 : Nat) (ls : Array Slot), (i9 < K ∧ fsC u p0 p1 i9 ∧ (∀ j, j < i9 → ¬ fsC u p0 p1 j)) → lv_has ls 4 [(3, .int (nI i9)), (0, .ref h0), (1, .int p0), (2, .int p1)] → W p l e R s m args below meth c H locs cells slots Q (F0 m 70 ls [])) : ∀ (kk i : Nat) (ls : Array Slot), i ≤ K → K - i < kk → (∀ j, j < i → ¬ fsC u p0 p1 j) → lv_has ls 4 [(3, .int (nI i)), (0, .ref h0), (1, .int p0), (2, .int p1)] → W p l e R s m args below meth c H locs cells slots Q (F0 m 35 ls []) := by
  intro kk
  induction kk with
  | zero => intro i ls h1 h2; exact absurd h2 (Nat.not_lt_zero _)
  | succ kk ih =>
    intro i ls hi hkk hg hl
    refine lv_iload_n hx hb dX11_breachOn_35 rfl (lv_at hl 0 rfl) ?_
    refine lv_aload_n hx hb dX11_breachOn_36 rfl (lv_at hl 1 rfl) ?_
    obtain ⟨kk_1, hk_2⟩ := pl_at hI.2.1.1.1 hI.2.2.2.1.1
    refine va_get (D := (dC, dI)) (ci := 10) (v := .int (k 0)) (C := RX11) (T := TX11) (N := 9) hx hb hts zl_X11_breachOn_X11 hown hK hP kk_1 hk_2 rfl 3 (by decide) (hts (.fieldLink RX11 24 "PageOne" "itemCount" "I") (zat q_wsX11_breachOn k_wsX11_breachOn 115 rfl (by decide +kernel))) (fun _ h9 => h9) rfl dX11_breachOn_37 ?_
    refine lv_topi (fun y_3 ey_3 => ?_)
    obtain rfl : y_3 = (nI K) := ey_3.trans (eK)
    refine lv_icmp_ge (tgt := 87) hx hb dX11_breachOn_40 (by decide) (fun c_4 => ?_) (fun c_4 => ?_)
    ·
      have hie : i = K := lp_eq rfl (by omega) hi c_4
      exact kx87 ls (by rw [hie] at hg; exact hg) (lv_sub hl [1, 2, 3] rfl)
    ·
      have hlt : i < K := lp_lt rfl (by omega) hi c_4
      refine lv_aload_n hx hb dX11_breachOn_43 rfl (lv_at hl 1 rfl) ?_
      obtain ⟨kk_5, hk_6⟩ := pl_at hI.2.1.1.1 hI.2.2.2.1.1
      refine va_get (D := (dC, dI)) (ci := 10) (v := .ref (d 2)) (C := RX11) (T := TX11) (N := 9) hx hb hts zl_X11_breachOn_X11 hown hK hP kk_5 hk_6 rfl 2 (by decide) (hts (.fieldLink RX11 20 "PageOne" "items" "[LPageOne$Item;") (zat q_wsX11_breachOn k_wsX11_breachOn 114 rfl (by decide +kernel))) (fun _ h9 => h9) rfl dX11_breachOn_44 ?_
      refine lv_iload_n hx hb dX11_breachOn_47 rfl (lv_at hl 0 rfl) ?_
      obtain ⟨g_7, hs_8, hn_9, hg_10⟩ := x_itm hI
      obtain ⟨kk_11, hk_12⟩ := pl_at hI.2.1.2.2.2.1.1 hs_8
      refine va_aldq hx hb hK hP kk_11 3 hk_12 rfl (vp_in_nI (by omega) (by decide)) dX11_breachOn_48 ?_
      obtain ⟨b_13, hg_14⟩ := hn_9 ((nI i) : Int32).toNatClampNeg (by rw [eK, nI_clamp (by omega), nI_clamp (by omega)]; exact hlt)
      have ht_15 := hg_10 ((nI i) : Int32).toNatClampNeg (vlt (vp_in_nI (by omega) (by decide))) b_13 hg_14
      rw [hg_14]
      refine W.eq (g2 := F0 m 49 ls [.ref b_13]) rfl ?_
      have hb_16 := rI_at hrp.2.2.1 hs_8 (by rw [eKn]; exact hlt) (by rw [nI_clamp (by omega)] at hg_14; exact hg_14)
      subst hb_16
      obtain ⟨rs_17, n_18, g_19, fg_20, hit_21, hs_22, hpa_23, hps_24, h1_25, h6_26, hcb_27, hpl_28, hlg_29, hnn_30, hfa_31, hfs_32, hfe_33, hrs_34, hkt_35⟩ := it_all hI hrp.2.2.1 (by rw [eKn]; exact hlt)
      refine lv_iload_n hx hb dX11_breachOn_49 rfl (lv_at hl 2 rfl) ?_
      refine w_cut (X := fun R cells slots Q args => ∀ r : Int32, (r = (bP (onP u i p0))) → W p l e R s m args below meth c H locs cells slots Q (F0 m 53 ls (.int r :: []))) ?_ (fun kC => ?_)
      ·
        intro r hw
        obtain rfl : r = (bP (onP u i p0)) := hw
        refine lv_if_eq (tgt := 81) hx hb dX11_breachOn_53 (by decide) (fun c_131 => ?_) (fun c_131 => ?_)
        ·
          refine lv_iinc (v := (nI (i + 1))) (lv' := [(3, .int (nI (i + 1))), (0, .ref h0), (1, .int p0), (2, .int p1)]) hx hb dX11_breachOn_81 hl (k := 0) rfl (nI_1 i) (by decide) rfl (fun ls hl => ?_)
          refine lv_goto (tgt := 35) hx hb dX11_breachOn_84 (by decide) ?_
          exact ih (i + 1) ls (by omega) (by omega) (fun j hj => by rcases Nat.lt_succ_iff_lt_or_eq.mp hj with h9 | h9; exact hg j h9; subst h9; exact fun h8 => bP_0 c_131 h8.1) (lv_sub hl [0, 1, 2, 3] rfl)
        ·
          refine lv_aload_n hx hb dX11_breachOn_56 rfl (lv_at hl 1 rfl) ?_
          refine lv_aload_n hx hb dX11_breachOn_57 rfl (lv_at hl 1 rfl) ?_
          obtain ⟨kk_132, hk_133⟩ := pl_at hI.2.1.1.1 hI.2.2.2.1.1
          refine va_get (D := (dC, dI)) (ci := 10) (v := .ref (d 2)) (C := RX11) (T := TX11) (N := 9) hx hb hts zl_X11_breachOn_X11 hown hK hP kk_132 hk_133 rfl 2 (by decide) (hts (.fieldLink RX11 20 "PageOne" "items" "[LPageOne$Item;") (zat q_wsX11_breachOn k_wsX11_breachOn 114 rfl (by decide +kernel))) (fun _ h9 => h9) rfl dX11_breachOn_58 ?_
          refine lv_iload_n hx hb dX11_breachOn_61 rfl (lv_at hl 0 rfl) ?_
          obtain ⟨kk_134, hk_135⟩ := pl_at hI.2.1.2.2.2.1.1 hs_8
          refine va_aldq hx hb hK hP kk_134 3 hk_135 rfl (vp_in_nI (by omega) (by decide)) dX11_breachOn_62 ?_
          obtain ⟨b_136, hg_137⟩ := hn_9 ((nI i) : Int32).toNatClampNeg (by rw [eK, nI_clamp (by omega), nI_clamp (by omega)]; exact hlt)
          have ht_138 := hg_10 ((nI i) : Int32).toNatClampNeg (vlt (vp_in_nI (by omega) (by decide))) b_136 hg_137
          rw [hg_137]
          refine W.eq (g2 := F0 m 63 ls [.ref b_136, .ref h0]) rfl ?_
          have hb_139 := rI_at hrp.2.2.1 hs_8 (by rw [eKn]; exact hlt) (by rw [nI_clamp (by omega)] at hg_137; exact hg_137)
          subst hb_139
          obtain ⟨rs_140, n_141, g_142, fg_143, hit_144, hs_145, hpa_146, hps_147, h1_148, h6_149, hcb_150, hpl_151, hlg_152, hnn_153, hfa_154, hfs_155, hfe_156, hrs_157, hkt_158⟩ := it_all hI hrp.2.2.1 (by rw [eKn]; exact hlt)
          refine lv_iload_n hx hb dX11_breachOn_63 rfl (lv_at hl 3 rfl) ?_
          obtain ⟨kk_159, hk_160⟩ := pl_at hI.2.1.1.1 hI.2.2.2.1.1
          refine vp_callSi (va_runV (As := [.ref (d (2000 + i)), .int p1]) (rest := []) ⟨hx, hb, hml, hown, hts⟩ (y_failsAlone l dC dI q h0 d k z f hI p1 u hrp hk0 hk1 hk2 hk3 hpcI i (by rw [eKn]; exact hlt)) (cwV 2 hts gX11_breachOn_X11_failsAlone rfl rfl rfl zh_X11_failsAlone_100 ⟨Nat.le_trans (Nat.le_of_ble_eq_true rfl) hRf, Nat.le_trans (Nat.le_of_ble_eq_true rfl) hRl⟩) ⟨px_fb, va_recv hK hP (ci := 10) (q0 := kk_159) rfl hk_160, fun U hU hW => ⟨rfl, px_to hU hW hP hK hN hXN⟩⟩ rfl rfl hl.1 rfl (lv_room (Nat.le_of_ble_eq_true rfl)) dX11_breachOn_64 ⟨hRc, hRs⟩).run (fun r hw => ?_)
          obtain rfl : r = (bP (faP u i p1)) := hw
          refine lv_if_eq (tgt := 81) hx hb dX11_breachOn_67 (by decide) (fun c_161 => ?_) (fun c_161 => ?_)
          ·
            refine lv_iinc (v := (nI (i + 1))) (lv' := [(3, .int (nI (i + 1))), (0, .ref h0), (1, .int p0), (2, .int p1)]) hx hb dX11_breachOn_81 hl (k := 0) rfl (nI_1 i) (by decide) rfl (fun ls hl => ?_)
            refine lv_goto (tgt := 35) hx hb dX11_breachOn_84 (by decide) ?_
            exact ih (i + 1) ls (by omega) (by omega) (fun j hj => by rcases Nat.lt_succ_iff_lt_or_eq.mp hj with h9 | h9; exact hg j h9; subst h9; exact fun h8 => bP_0 c_161 h8.2) (lv_sub hl [0, 1, 2, 3] rfl)
          ·
            exact kx70 _ ls ⟨hlt, ⟨bP_n c_131, bP_n c_161⟩, hg⟩ (lv_sub hl [0, 1, 2, 3] rfl)
      ·
        rcases x_tag hit_21 with ht9 | ht9 | ht9 | ht9 | ht9 | ht9
        ·
          obtain ⟨nu_36, kd_37, cn_38, pa_39, fa_40, l_41, m_42, hs_43, hs_44, hs_45, hs_46⟩ := x_ifl hI ht9
          obtain ⟨kk_47, hk_48⟩ := pl_at ht9.1 hs_43
          exact vp_callSi (va_runU (As := [.int p0]) (rest := []) ⟨hx, hb, hml, hown, hts⟩ (y_isOn l dC dI q h0 d k z f hI (d (2000 + i)) hit_21 (nI i) (u.2 4 i) (u.2 22 i) (d (3000 + i)) (d (4000 + i)) rs_17 hs_22 n_18 g_19 (pR u i) hpa_23 hps_24 h1_25 h6_26 hcb_27 hpl_28 p0) (va_cwU 1 hts gX11_breachOn_X4_isOn_u346X2 rfl rfl rfl rfl zu_98 ⟨Nat.le_trans (Nat.le_of_ble_eq_true rfl) hRf, Nat.le_trans (Nat.le_of_ble_eq_true rfl) hRl⟩) ⟨px_fb, va_recv hK hP (ci := 2) (q0 := kk_47) rfl hk_48, fun U hU hW => ⟨rfl, px_to hU hW hP hK hN hXN⟩⟩ rfl rfl hl.1 rfl (lv_room (Nat.le_of_ble_eq_true rfl)) dX11_breachOn_50 ⟨hRc, hRs⟩).run (fun r hw => kC r hw)
        ·
          obtain ⟨nu_49, kd_50, cn_51, pa_52, fa_53, o_54, w_55, y_56, hs_57, hs_58, hs_59, hs_60, hq_61⟩ := x_ihd hI ht9
          obtain ⟨kk_62, hk_63⟩ := pl_at ht9.1 hs_57
          exact vp_callSi (va_runU (As := [.int p0]) (rest := []) ⟨hx, hb, hml, hown, hts⟩ (y_isOn l dC dI q h0 d k z f hI (d (2000 + i)) hit_21 (nI i) (u.2 4 i) (u.2 22 i) (d (3000 + i)) (d (4000 + i)) rs_17 hs_22 n_18 g_19 (pR u i) hpa_23 hps_24 h1_25 h6_26 hcb_27 hpl_28 p0) (va_cwU 1 hts gX11_breachOn_X4_isOn_u346X3 rfl rfl rfl rfl zu_98 ⟨Nat.le_trans (Nat.le_of_ble_eq_true rfl) hRf, Nat.le_trans (Nat.le_of_ble_eq_true rfl) hRl⟩) ⟨px_fb, va_recv hK hP (ci := 3) (q0 := kk_62) rfl hk_63, fun U hU hW => ⟨rfl, px_to hU hW hP hK hN hXN⟩⟩ rfl rfl hl.1 rfl (lv_room (Nat.le_of_ble_eq_true rfl)) dX11_breachOn_50 ⟨hRc, hRs⟩).run (fun r hw => kC r hw)
        ·
          obtain ⟨nu_64, kd_65, cn_66, pa_67, fa_68, o_69, y_70, hs_71, hs_72, hs_73, hs_74, hq_75⟩ := x_ino hI ht9
          obtain ⟨kk_76, hk_77⟩ := pl_at ht9.1 hs_71
          exact vp_callSi (va_runU (As := [.int p0]) (rest := []) ⟨hx, hb, hml, hown, hts⟩ (y_isOn l dC dI q h0 d k z f hI (d (2000 + i)) hit_21 (nI i) (u.2 4 i) (u.2 22 i) (d (3000 + i)) (d (4000 + i)) rs_17 hs_22 n_18 g_19 (pR u i) hpa_23 hps_24 h1_25 h6_26 hcb_27 hpl_28 p0) (va_cwU 1 hts gX11_breachOn_X4_isOn_u346X5 rfl rfl rfl rfl zu_98 ⟨Nat.le_trans (Nat.le_of_ble_eq_true rfl) hRf, Nat.le_trans (Nat.le_of_ble_eq_true rfl) hRl⟩) ⟨px_fb, va_recv hK hP (ci := 4) (q0 := kk_76) rfl hk_77, fun U hU hW => ⟨rfl, px_to hU hW hP hK hN hXN⟩⟩ rfl rfl hl.1 rfl (lv_room (Nat.le_of_ble_eq_true rfl)) dX11_breachOn_50 ⟨hRc, hRs⟩).run (fun r hw => kC r hw)
        ·
          obtain ⟨nu_78, kd_79, cn_80, pa_81, fa_82, b_83, pr_84, sp_85, dy_86, hs_87, hs_88, hs_89, hs_90, hq_91, hq_92, hq_93⟩ := x_ipd hI ht9
          obtain ⟨kk_94, hk_95⟩ := pl_at ht9.1 hs_87
          exact vp_callSi (va_runU (As := [.int p0]) (rest := []) ⟨hx, hb, hml, hown, hts⟩ (y_isOn l dC dI q h0 d k z f hI (d (2000 + i)) hit_21 (nI i) (u.2 4 i) (u.2 22 i) (d (3000 + i)) (d (4000 + i)) rs_17 hs_22 n_18 g_19 (pR u i) hpa_23 hps_24 h1_25 h6_26 hcb_27 hpl_28 p0) (va_cwU 1 hts gX11_breachOn_X4_isOn_u346X6 rfl rfl rfl rfl zu_98 ⟨Nat.le_trans (Nat.le_of_ble_eq_true rfl) hRf, Nat.le_trans (Nat.le_of_ble_eq_true rfl) hRl⟩) ⟨px_fb, va_recv hK hP (ci := 5) (q0 := kk_94) rfl hk_95, fun U hU hW => ⟨rfl, px_to hU hW hP hK hN hXN⟩⟩ rfl rfl hl.1 rfl (lv_room (Nat.le_of_ble_eq_true rfl)) dX11_breachOn_50 ⟨hRc, hRs⟩).run (fun r hw => kC r hw)
        ·
          obtain ⟨nu_96, kd_97, cn_98, pa_99, fa_100, ww_101, hh_102, sz_103, hs_104, hs_105, hs_106, hs_107, hq_108, hq_109, hq_110⟩ := x_ipi hI ht9
          obtain ⟨kk_111, hk_112⟩ := pl_at ht9.1 hs_104
          exact vp_callSi (va_runU (As := [.int p0]) (rest := []) ⟨hx, hb, hml, hown, hts⟩ (y_isOn l dC dI q h0 d k z f hI (d (2000 + i)) hit_21 (nI i) (u.2 4 i) (u.2 22 i) (d (3000 + i)) (d (4000 + i)) rs_17 hs_22 n_18 g_19 (pR u i) hpa_23 hps_24 h1_25 h6_26 hcb_27 hpl_28 p0) (va_cwU 1 hts gX11_breachOn_X4_isOn_u346X7 rfl rfl rfl rfl zu_98 ⟨Nat.le_trans (Nat.le_of_ble_eq_true rfl) hRf, Nat.le_trans (Nat.le_of_ble_eq_true rfl) hRl⟩) ⟨px_fb, va_recv hK hP (ci := 6) (q0 := kk_111) rfl hk_112, fun U hU hW => ⟨rfl, px_to hU hW hP hK hN hXN⟩⟩ rfl rfl hl.1 rfl (lv_room (Nat.le_of_ble_eq_true rfl)) dX11_breachOn_50 ⟨hRc, hRs⟩).run (fun r hw => kC r hw)
        ·
          obtain ⟨nu_113, kd_114, cn_115, pa_116, fa_117, l_118, co_119, wd_120, nm_121, hs_122, hs_123, hs_124, hs_125, hq_126, hq_127, hq_128⟩ := x_ist hI ht9
          obtain ⟨kk_129, hk_130⟩ := pl_at ht9.1 hs_122
          exact vp_callSi (va_runU (As := [.int p0]) (rest := []) ⟨hx, hb, hml, hown, hts⟩ (y_isOn l dC dI q h0 d k z f hI (d (2000 + i)) hit_21 (nI i) (u.2 4 i) (u.2 22 i) (d (3000 + i)) (d (4000 + i)) rs_17 hs_22 n_18 g_19 (pR u i) hpa_23 hps_24 h1_25 h6_26 hcb_27 hpl_28 p0) (va_cwU 1 hts gX11_breachOn_X4_isOn_u346X10 rfl rfl rfl rfl zu_98 ⟨Nat.le_trans (Nat.le_of_ble_eq_true rfl) hRf, Nat.le_trans (Nat.le_of_ble_eq_true rfl) hRl⟩) ⟨px_fb, va_recv hK hP (ci := 9) (q0 := kk_129) rfl hk_130, fun U hU hW => ⟨rfl, px_to hU hW hP hK hN hXN⟩⟩ rfl rfl hl.1 rfl (lv_room (Nat.le_of_ble_eq_true rfl)) dX11_breachOn_50 ⟨hRc, hRs⟩).run (fun r hw => kC r hw)
set_option maxHeartbeats 4000000 in
set_option maxRecDepth 100000 in
theorem y_breachOn (l : Launch) (dC : Nat → ClassId) (dI : Nat → Nat → Nat) (q : Nat → ClassId) (h0 : Nat) (d : Nat → Nat) (k : Nat → Int32) (z : gS) (f : xF) (hI : xI q h0 d k z f) (p0 : Int32) (u : mS) (hrp : rep q d u z f) (hk0 : k 0 = u.1 3) (hk1 : k 1 = u.1 28) (hk2 : k 2 = u.1 38) (hk3 : k 3 = u.1 39) (hkB : kB u) (hpcI : pcI u) (sz : Nat) : Met l yX11_breachOn wsX11_breachOn ({ frames := 5, cells := 4, slots := 12, locals := 110 }) (va_Pc [.ref h0, .int p0] (fun U => U.heap.size = sz ∧ PX dC dI (va_pl z.1 f) (xT q) U ∧ va_D (fun _ => True) (va_pl z.1 f))) (va_Qq (fun (r : Option Nat) (w : xU) => brP q h0 d k z f u p0 r w) (fun (w : xU) t => va_P (dC, dI) vwCl (va_pl w.2.1.1 w.2.2) t.heap ∧ va_D (va_A (va_pl z.1 f) sz) (va_pl w.2.1.1 w.2.2)) (va_A (va_pl z.1 f) sz)) 4 12 (va_A (va_pl z.1 f) sz) := by
  refine Met.ofW (cc := cX11_breachOn) (maxL := 4) (ret := (some (.object "PageOne$Breach"))) (by decide) rfl ?_
  intro p e s m args below meth c s₁ B hml hv
  obtain ⟨rfl, hsz, ⟨⟨hP, hK, hN⟩, hXN⟩, hD0⟩ := hv
  have hx := B.exec
  have hb := B.bytes
  have hr := B.returns
  have hts := atoms_spec (ws := wsX11_breachOn) B.pre
  have hown : s.vm.findClass RX11 = some m.cls := findClass_of_methodNamed B.named
  have hlocks := B.notSynchronized
  subst hsz
  have hD := hD0.self (sz := s.heap.size)
  generalize hAe : va_A (va_pl z.1 f) s.heap.size = A at hD ⊢
  have hA : ∀ q : Nat, s.heap.size ≤ q → A q := fun q h => by rw [← hAe]; exact Or.inr h
  have hS : va_S A s.heap s.heap [] := va_S.rf
  have hl := lv_entry ([.ref h0, .int p0]) (n := 4) (Nat.le_of_ble_eq_true rfl)
  rw [lg_entry_eq]
  generalize (lg_sl ([.ref h0, .int p0]) ++ List.replicate (4 - (lg_sl ([.ref h0, .int p0])).length) Slot.unset).toArray = ls at hl ⊢
  have hl : lv_has ls 4 [(0, .ref h0), (1, .int p0)] := hl
  have h3m : f (d 3) = f (d 3) := rfl
  have hk1o := hk1
  refine lv_iconst (v := 1) hx hb dX11_breachOn_0 (by decide) ?_
  refine lv_istore_n (lv' := [(2, .int 1), (0, .ref h0), (1, .int p0)]) hx hb dX11_breachOn_1 rfl hl (by decide) rfl (fun ls hl => ?_)
  refine lv_iload_n hx hb dX11_breachOn_2 rfl (lv_at hl 0 rfl) ?_
  refine lv_iconst (v := 3) hx hb dX11_breachOn_3 (by decide) ?_
  refine lv_icmp_gt (tgt := 26) hx hb dX11_breachOn_4 (by decide) (fun c_1 => absurd c_1 (by decide)) (fun c_1 => ?_)
  refine lv_aload_n hx hb dX11_breachOn_7 rfl (lv_at hl 1 rfl) ?_
  refine lv_iload_n hx hb dX11_breachOn_8 rfl (lv_at hl 2 rfl) ?_
  refine lv_iload_n hx hb dX11_breachOn_9 rfl (lv_at hl 0 rfl) ?_
  obtain ⟨kk_2, hk_3⟩ := pl_at hI.2.1.1.1 hI.2.2.2.1.1
  have hFc := fr_all hD hS hA
  refine va_callq (va_runV (As := [.int p0, .int 1]) (rest := []) ⟨hx, hb, hml, hown, hts⟩ (y_leastPair l dC dI q h0 d k z f hI p0 1 u hrp hk0 hk1o hk2 hk3 hkB s.heap.size) (cwV 2 hts gX11_breachOn_X11_leastPair rfl rfl rfl zh_X11_leastPair_101 ⟨Nat.le_of_ble_eq_true rfl, Nat.le_of_ble_eq_true rfl⟩) ⟨gx_fb, va_recv hK hP (ci := 10) (q0 := kk_2) rfl hk_3, fun U hU hW => ⟨rfl, by rw [hU], px_to hU hW hP hK hN hXN, hD.weaken (fun _ _ _ _ => trivial)⟩⟩ rfl rfl hl.1 rfl (lv_room (Nat.le_of_ble_eq_true rfl)) dX11_breachOn_10 ⟨Nat.le_of_ble_eq_true rfl, Nat.le_of_ble_eq_true rfl⟩) hS (fun q _ h => hFc q h) hFc (fun r w_4 t H1 locs ht hvm hw hB hz1 hk1 hS => ?_)
  obtain ⟨hP, hD1⟩ := hB
  rw [ht] at hP
  have hD := hD1.weaken (fun _ q _ h => hFc q.1 h)
  generalize H1 = H at hP hS ⊢
  refine W.widen (k := 1) (n := 3) (Nat.le_of_ble_eq_true rfl) (Nat.le_of_ble_eq_true rfl) ?_
  rcases hw with ⟨hr9, hw, hnl1⟩ | ⟨b_5, ax_11, bx_12, hr9, -, hw2, hw3, hwr, hw9, hv_6, hv_7, hM_8⟩
  ·
    subst hr9
    subst hw
    have hP : va_P (dC, dI) vwCl (va_pl z.1 f) H := hP
    have hD : va_D A (va_pl z.1 f) := hD
    refine W.eq (g2 := F0 m 13 ls [.null]) rfl ?_
    refine lv_astore_nN (lv' := [(3, .null), (2, .int 1), (0, .ref h0), (1, .int p0)]) hx hb dX11_breachOn_13 rfl hl (by decide) rfl (fun ls hl => ?_)
    refine lv_aload_nN hx hb dX11_breachOn_14 rfl (lv_at hl 0 rfl) ?_
    refine lv_ifnullN (tgt := 20) hx hb dX11_breachOn_15 (by decide) ?_
    refine lv_iinc (v := 2) (lv' := [(2, .int 2), (3, .null), (0, .ref h0), (1, .int p0)]) hx hb dX11_breachOn_20 hl (k := 1) rfl (by decide) (by decide) rfl (fun ls hl => ?_)
    refine lv_goto (tgt := 2) hx hb dX11_breachOn_23 (by decide) ?_
    refine lv_iload_n hx hb dX11_breachOn_2 rfl (lv_at hl 0 rfl) ?_
    refine lv_iconst (v := 3) hx hb dX11_breachOn_3 (by decide) ?_
    refine lv_icmp_gt (tgt := 26) hx hb dX11_breachOn_4 (by decide) (fun c_17 => absurd c_17 (by decide)) (fun c_17 => ?_)
    refine lv_aload_n hx hb dX11_breachOn_7 rfl (lv_at hl 2 rfl) ?_
    refine lv_iload_n hx hb dX11_breachOn_8 rfl (lv_at hl 3 rfl) ?_
    refine lv_iload_n hx hb dX11_breachOn_9 rfl (lv_at hl 0 rfl) ?_
    obtain ⟨kk_18, hk_19⟩ := pl_at hI.2.1.1.1 hI.2.2.2.1.1
    have hFc := fr_all hD hS hA
    refine va_callq (va_runV (As := [.int p0, .int 2]) (rest := []) ⟨hx, hb, hml, hown, hts⟩ (y_leastPair l dC dI q h0 d k z f hI p0 2 u hrp hk0 hk1o hk2 hk3 hkB H.size) (cwV 2 hts gX11_breachOn_X11_leastPair rfl rfl rfl zh_X11_leastPair_101 ⟨Nat.le_of_ble_eq_true rfl, Nat.le_of_ble_eq_true rfl⟩) ⟨gx_fb, va_recv hK hP (ci := 10) (q0 := kk_18) rfl hk_19, fun U hU hW => ⟨rfl, by rw [hU], px_to hU hW hP hK hN hXN, hD.weaken (fun _ _ _ _ => trivial)⟩⟩ rfl rfl hl.1 rfl (lv_room (Nat.le_of_ble_eq_true rfl)) dX11_breachOn_10 ⟨Nat.le_of_ble_eq_true rfl, Nat.le_of_ble_eq_true rfl⟩) hS (fun q _ h => hFc q h) hFc (fun r w_20 t H1 locs ht hvm hw hB hz1 hk1 hS => ?_)
    obtain ⟨hP, hD1⟩ := hB
    rw [ht] at hP
    have hD := hD1.weaken (fun _ q _ h => hFc q.1 h)
    generalize H1 = H at hP hS ⊢
    refine W.widen (k := 2) (n := 6) (Nat.le_of_ble_eq_true rfl) (Nat.le_of_ble_eq_true rfl) ?_
    rcases hw with ⟨hr9, hw, hnl2⟩ | ⟨b_21, ax_27, bx_28, hr9, -, hw2, hw3, hwr, hw9, hv_22, hv_23, hM_24⟩
    ·
      subst hr9
      subst hw
      have hP : va_P (dC, dI) vwCl (va_pl z.1 f) H := hP
      have hD : va_D A (va_pl z.1 f) := hD
      refine W.eq (g2 := F0 m 13 ls [.null]) rfl ?_
      refine lv_astore_nN (lv' := [(3, .null), (2, .int 2), (0, .ref h0), (1, .int p0)]) hx hb dX11_breachOn_13 rfl hl (by decide) rfl (fun ls hl => ?_)
      refine lv_aload_nN hx hb dX11_breachOn_14 rfl (lv_at hl 0 rfl) ?_
      refine lv_ifnullN (tgt := 20) hx hb dX11_breachOn_15 (by decide) ?_
      refine lv_iinc (v := 3) (lv' := [(2, .int 3), (3, .null), (0, .ref h0), (1, .int p0)]) hx hb dX11_breachOn_20 hl (k := 1) rfl (by decide) (by decide) rfl (fun ls hl => ?_)
      refine lv_goto (tgt := 2) hx hb dX11_breachOn_23 (by decide) ?_
      refine lv_iload_n hx hb dX11_breachOn_2 rfl (lv_at hl 0 rfl) ?_
      refine lv_iconst (v := 3) hx hb dX11_breachOn_3 (by decide) ?_
      refine lv_icmp_gt (tgt := 26) hx hb dX11_breachOn_4 (by decide) (fun c_33 => absurd c_33 (by decide)) (fun c_33 => ?_)
      refine lv_aload_n hx hb dX11_breachOn_7 rfl (lv_at hl 2 rfl) ?_
      refine lv_iload_n hx hb dX11_breachOn_8 rfl (lv_at hl 3 rfl) ?_
      refine lv_iload_n hx hb dX11_breachOn_9 rfl (lv_at hl 0 rfl) ?_
      obtain ⟨kk_34, hk_35⟩ := pl_at hI.2.1.1.1 hI.2.2.2.1.1
      have hFc := fr_all hD hS hA
      refine va_callq (va_runV (As := [.int p0, .int 3]) (rest := []) ⟨hx, hb, hml, hown, hts⟩ (y_leastPair l dC dI q h0 d k z f hI p0 3 u hrp hk0 hk1o hk2 hk3 hkB H.size) (cwV 2 hts gX11_breachOn_X11_leastPair rfl rfl rfl zh_X11_leastPair_101 ⟨Nat.le_of_ble_eq_true rfl, Nat.le_of_ble_eq_true rfl⟩) ⟨gx_fb, va_recv hK hP (ci := 10) (q0 := kk_34) rfl hk_35, fun U hU hW => ⟨rfl, by rw [hU], px_to hU hW hP hK hN hXN, hD.weaken (fun _ _ _ _ => trivial)⟩⟩ rfl rfl hl.1 rfl (lv_room (Nat.le_of_ble_eq_true rfl)) dX11_breachOn_10 ⟨Nat.le_of_ble_eq_true rfl, Nat.le_of_ble_eq_true rfl⟩) hS (fun q _ h => hFc q h) hFc (fun r w_36 t H1 locs ht hvm hw hB hz1 hk1 hS => ?_)
      obtain ⟨hP, hD1⟩ := hB
      rw [ht] at hP
      have hD := hD1.weaken (fun _ q _ h => hFc q.1 h)
      generalize H1 = H at hP hS ⊢
      refine W.widen (k := 3) (n := 9) (Nat.le_of_ble_eq_true rfl) (Nat.le_of_ble_eq_true rfl) ?_
      rcases hw with ⟨hr9, hw, hnl3⟩ | ⟨b_37, ax_43, bx_44, hr9, -, hw2, hw3, hwr, hw9, hv_38, hv_39, hM_40⟩
      ·
        subst hr9
        subst hw
        have hP : va_P (dC, dI) vwCl (va_pl z.1 f) H := hP
        have hD : va_D A (va_pl z.1 f) := hD
        refine W.eq (g2 := F0 m 13 ls [.null]) rfl ?_
        refine lv_astore_nN (lv' := [(3, .null), (2, .int 3), (0, .ref h0), (1, .int p0)]) hx hb dX11_breachOn_13 rfl hl (by decide) rfl (fun ls hl => ?_)
        refine lv_aload_nN hx hb dX11_breachOn_14 rfl (lv_at hl 0 rfl) ?_
        refine lv_ifnullN (tgt := 20) hx hb dX11_breachOn_15 (by decide) ?_
        refine lv_iinc (v := 4) (lv' := [(2, .int 4), (3, .null), (0, .ref h0), (1, .int p0)]) hx hb dX11_breachOn_20 hl (k := 1) rfl (by decide) (by decide) rfl (fun ls hl => ?_)
        refine lv_goto (tgt := 2) hx hb dX11_breachOn_23 (by decide) ?_
        refine lv_iload_n hx hb dX11_breachOn_2 rfl (lv_at hl 0 rfl) ?_
        refine lv_iconst (v := 3) hx hb dX11_breachOn_3 (by decide) ?_
        refine lv_icmp_gt (tgt := 26) hx hb dX11_breachOn_4 (by decide) (fun c_49 => ?_) (fun c_49 => absurd (by decide) c_49)
        refine lv_iconst (v := 4) hx hb dX11_breachOn_26 (by decide) ?_
        refine lv_istore_n (lv' := [(2, .int 4), (3, .null), (0, .ref h0), (1, .int p0)]) hx hb dX11_breachOn_27 rfl hl (by decide) rfl (fun ls hl => ?_)
        refine lv_iload_n hx hb dX11_breachOn_28 rfl (lv_at hl 0 rfl) ?_
        refine lv_iconst (v := 5) hx hb dX11_breachOn_29 (by decide) ?_
        refine lv_icmp_gt (tgt := 93) hx hb dX11_breachOn_30 (by decide) (fun c_50 => absurd c_50 (by decide)) (fun c_50 => ?_)
        refine lv_iconst (v := 0) hx hb dX11_breachOn_33 (by decide) ?_
        refine lv_istore_n (lv' := [(3, .int 0), (2, .int 4), (0, .ref h0), (1, .int p0)]) hx hb dX11_breachOn_34 rfl hl (by decide) rfl (fun ls hl => ?_)
        obtain ⟨K, hK8, -, eK⟩ := exN hI.1.1 (by decide)
        have h80 : (80 : Int32).toInt = 80 := rfl
        have eKn : (u.1 3).toNatClampNeg = K := by rw [← hk0, eK, nI_clamp (by omega)]
        refine y_br_l (K := K) hI hx hb hml hts hown hN hXN hK (Nat.le_of_ble_eq_true rfl) (Nat.le_of_ble_eq_true rfl) (Nat.le_of_ble_eq_true rfl) (Nat.le_of_ble_eq_true rfl) hP hrp hk0 hk1o hk2 hk3 (by omega) eK eKn hpcI (fun ls hns1 hl => ?_) (fun i9 ls hye hl => ?_) (K + 1) 0 ls (Nat.zero_le _) (by omega) (fun j hj => absurd hj (Nat.not_lt_zero _)) (lv_sub hl [0, 2, 3, 1] rfl)
        ·
          refine lv_iinc (v := 5) (lv' := [(2, .int 5), (0, .ref h0), (1, .int p0)]) hx hb dX11_breachOn_87 hl (k := 2) rfl (by decide) (by decide) rfl (fun ls hl => ?_)
          refine lv_goto (tgt := 28) hx hb dX11_breachOn_90 (by decide) ?_
          refine lv_iload_n hx hb dX11_breachOn_28 rfl (lv_at hl 0 rfl) ?_
          refine lv_iconst (v := 5) hx hb dX11_breachOn_29 (by decide) ?_
          refine lv_icmp_gt (tgt := 93) hx hb dX11_breachOn_30 (by decide) (fun c_51 => absurd c_51 (by decide)) (fun c_51 => ?_)
          refine lv_iconst (v := 0) hx hb dX11_breachOn_33 (by decide) ?_
          refine lv_istore_n (lv' := [(3, .int 0), (2, .int 5), (0, .ref h0), (1, .int p0)]) hx hb dX11_breachOn_34 rfl hl (by decide) rfl (fun ls hl => ?_)
          refine y_br_l (K := K) hI hx hb hml hts hown hN hXN hK (Nat.le_of_ble_eq_true rfl) (Nat.le_of_ble_eq_true rfl) (Nat.le_of_ble_eq_true rfl) (Nat.le_of_ble_eq_true rfl) hP hrp hk0 hk1o hk2 hk3 (by omega) eK eKn hpcI (fun ls hns2 hl => ?_) (fun i9 ls hye hl => ?_) (K + 1) 0 ls (Nat.zero_le _) (by omega) (fun j hj => absurd hj (Nat.not_lt_zero _)) (lv_sub hl [0, 2, 3, 1] rfl)
          ·
            refine lv_iinc (v := 6) (lv' := [(2, .int 6), (0, .ref h0), (1, .int p0)]) hx hb dX11_breachOn_87 hl (k := 2) rfl (by decide) (by decide) rfl (fun ls hl => ?_)
            refine lv_goto (tgt := 28) hx hb dX11_breachOn_90 (by decide) ?_
            refine lv_iload_n hx hb dX11_breachOn_28 rfl (lv_at hl 0 rfl) ?_
            refine lv_iconst (v := 5) hx hb dX11_breachOn_29 (by decide) ?_
            refine lv_icmp_gt (tgt := 93) hx hb dX11_breachOn_30 (by decide) (fun c_52 => ?_) (fun c_52 => absurd (by decide) c_52)
            refine va_new (ci := 1) (fs := [.int 0, .int 0, .int 0]) (C := RX1) (T := TX1) (N := 3) hx hb hts zl_X11_breachOn_X1 tyX1 tyX1_ok hown (hts (.classLink RX11 202 RX1) (zat q_wsX11_breachOn k_wsX11_breachOn 741 rfl (by decide +kernel))) (hts (.instantiable RX1 3) (zat q_wsX11_breachOn k_wsX11_breachOn 742 rfl (by decide +kernel))) (hts (.initialized RX1) (zat q_wsX11_breachOn k_wsX11_breachOn 66 rfl (by decide +kernel))) hK hP hD hS hA rfl nwX1 (Nat.le_of_ble_eq_true rfl) (Nat.le_of_ble_eq_true rfl) dX11_breachOn_93 (fun q_53 H hPn hDn hS => ?_)
            have hP := vaP_l hPn
            refine W.widen (k := 4) (n := 12) (Nat.le_of_ble_eq_true rfl) (Nat.le_of_ble_eq_true rfl) ?_
            refine lv_dup hx hb dX11_breachOn_96 rfl ?_
            refine lv_iconst (v := 0) hx hb dX11_breachOn_97 (by decide) ?_
            refine lv_iconst (v := (-1)) hx hb dX11_breachOn_98 (by decide) ?_
            refine lv_iconst (v := (-1)) hx hb dX11_breachOn_99 (by decide) ?_
            have hPc := vaP_r hPn
            have hDc := vaD_r hDn
            have hFc := fr_part hDn hS hA
            refine va_callv (va_runI (As := [.int 0, .int (-1), .int (-1)]) (rest := [.ref q_53]) ⟨hx, hb, hml, hown, hts⟩ (x_Breach l dC dI q_53 0 (-1) (-1) H.size) (cwI 3 hts gX11_breachOn_X1_init rfl rfl rfl (hts (.initialized RX1) (zat q_wsX11_breachOn k_wsX11_breachOn 66 rfl (by decide +kernel))) (hts (.methodLink RX11 353 yX1_init) (zat q_wsX11_breachOn k_wsX11_breachOn 743 rfl (by decide +kernel))) (hts (.instanceMethod yX1_init) (zat q_wsX11_breachOn k_wsX11_breachOn 744 rfl (by decide +kernel))) rfl zh_X1_init_99 ⟨Nat.le_of_ble_eq_true rfl, Nat.le_of_ble_eq_true rfl⟩) ⟨gw_fb, fun U hU hW => ⟨rfl, by rw [hU], pw_to hU hW hPc (hK.sub (tys' := []) [] rfl) hN, hDc.weaken (fun _ _ _ _ => trivial)⟩⟩ rfl rfl hl.1 rfl (lv_room (Nat.le_of_ble_eq_true rfl)) dX11_breachOn_100 ⟨Nat.le_of_ble_eq_true rfl, Nat.le_of_ble_eq_true rfl⟩) hS (fun q _ h => hFc q h) hFc (fun u9 t H1 locs ht hvm hw hB hz1 hk1 hS => ?_)
            obtain ⟨hP1, hD1⟩ := hB
            rw [ht] at hP1
            obtain ⟨hP, hD⟩ := va_joinQ (X := [(q_53, .inr (1, [.int 0, .int 0, .int 0]))]) (cx := [(q_53, .inr (1, [.int 0, .int 0, .int 0]))]) (wr := []) (w1 := [(q_53, .inr (1, [.int 0, .int (-1), .int (-1)]))]) (pl := va_pl z.1 f) (vaP_swap hPn) (vaD_rotR hDn) [0] [] rfl rfl rfl (fun i hi => absurd hi List.not_mem_nil) hk1 hFc hP1 hD1
            generalize H1 = H at hP hS ⊢
            obtain ⟨hnm_54, hP, hD⟩ := pushC hP hD
            obtain ⟨z_55, ez_55⟩ : ∃ y : gS, y = pz z q_53 (24, 0, []) := ⟨_, rfl⟩
            obtain ⟨f_56, ef_56⟩ : ∃ y : xF, y = va_up f q_53 (.inr (1, [.int 0, .int (-1), .int (-1)])) := ⟨_, rfl⟩
            have hE_57 : zE z z_55 := by rw [ez_55]; exact pz_E hnm_54 _
            have hI : xI q h0 d k z_55 f_56 := by rw [ez_55, ef_56]; exact x_push hI hnm_54 (Or.inr (by decide : (15 : Nat) < 24)) (cO_24 (by rw [pz_s]))
            rw [show z.1 ++ [q_53] = z_55.1 from by rw [ez_55]; rfl, ← ef_56] at hP hD
            have ht_58 : tg z_55 q_53 24 := by rw [ez_55]; exact pz_t _ _ _
            have hEz : zE z z_55 := zE_tr (zE_rf z) hE_57
            have h3m : f_56 (d 3) = f (d 3) := by rw [ef_56]; exact (up_o (fun e9 => hnm_54 (by rw [← e9]; exact hrp.2.2.2.2.2.2.2.1.1.1))).trans h3m
            have hrp_59 : rep q d u z_55 f_56 := by rw [ez_55, ef_56]; exact rep_grow hrp (pz_E hnm_54 _) (oK_push (fun _ _ => rfl) (zE_rf _) hnm_54)
            refine W.eq (g2 := F0 m 103 ls [.ref q_53]) rfl ?_
            have hbc_60 : f_56 q_53 = .inr (1, [.int 0, .int (-1), .int (-1)]) := by rw [ef_56]; exact up_s
            exact W.aret (v := .ref q_53) hx hb hr (Or.inl ⟨_, rfl⟩) (Or.inr ⟨_, rfl⟩) (fun t ht hW => ⟨⟨(some q_53), (k, z_55, f_56), rfl, ⟨q_53, _, _, _, rfl, rfl, hEz, hI, hrp_59, h3m, ht_58, hbc_60, Or.inr ⟨hnl1, Or.inr ⟨hnl2, Or.inr ⟨hnl3, Or.inr ⟨(fun i hi => hns1 i (by omega)), Or.inr ⟨(fun i hi => hns2 i (by omega)), rfl, rfl, rfl⟩⟩⟩⟩⟩⟩, by rw [ht]; exact hP, hD⟩, hS.F ht⟩) hS.2.2 dX11_breachOn_103
          ·
            refine va_new (ci := 1) (fs := [.int 0, .int 0, .int 0]) (C := RX1) (T := TX1) (N := 3) hx hb hts zl_X11_breachOn_X1 tyX1 tyX1_ok hown (hts (.classLink RX11 202 RX1) (zat q_wsX11_breachOn k_wsX11_breachOn 741 rfl (by decide +kernel))) (hts (.instantiable RX1 3) (zat q_wsX11_breachOn k_wsX11_breachOn 742 rfl (by decide +kernel))) (hts (.initialized RX1) (zat q_wsX11_breachOn k_wsX11_breachOn 66 rfl (by decide +kernel))) hK hP hD hS hA rfl nwX1 (Nat.le_of_ble_eq_true rfl) (Nat.le_of_ble_eq_true rfl) dX11_breachOn_70 (fun q_61 H hPn hDn hS => ?_)
            have hP := vaP_l hPn
            refine W.widen (k := 4) (n := 12) (Nat.le_of_ble_eq_true rfl) (Nat.le_of_ble_eq_true rfl) ?_
            refine lv_dup hx hb dX11_breachOn_73 rfl ?_
            refine lv_iload_n hx hb dX11_breachOn_74 rfl (lv_at hl 3 rfl) ?_
            refine lv_iload_n hx hb dX11_breachOn_75 rfl (lv_at hl 0 rfl) ?_
            refine lv_iconst (v := (-1)) hx hb dX11_breachOn_76 (by decide) ?_
            have hPc := vaP_r hPn
            have hDc := vaD_r hDn
            have hFc := fr_part hDn hS hA
            refine va_callv (va_runI (As := [.int 5, .int (nI i9), .int (-1)]) (rest := [.ref q_61]) ⟨hx, hb, hml, hown, hts⟩ (x_Breach l dC dI q_61 5 (nI i9) (-1) H.size) (cwI 3 hts gX11_breachOn_X1_init rfl rfl rfl (hts (.initialized RX1) (zat q_wsX11_breachOn k_wsX11_breachOn 66 rfl (by decide +kernel))) (hts (.methodLink RX11 353 yX1_init) (zat q_wsX11_breachOn k_wsX11_breachOn 743 rfl (by decide +kernel))) (hts (.instanceMethod yX1_init) (zat q_wsX11_breachOn k_wsX11_breachOn 744 rfl (by decide +kernel))) rfl zh_X1_init_99 ⟨Nat.le_of_ble_eq_true rfl, Nat.le_of_ble_eq_true rfl⟩) ⟨gw_fb, fun U hU hW => ⟨rfl, by rw [hU], pw_to hU hW hPc (hK.sub (tys' := []) [] rfl) hN, hDc.weaken (fun _ _ _ _ => trivial)⟩⟩ rfl rfl hl.1 rfl (lv_room (Nat.le_of_ble_eq_true rfl)) dX11_breachOn_77 ⟨Nat.le_of_ble_eq_true rfl, Nat.le_of_ble_eq_true rfl⟩) hS (fun q _ h => hFc q h) hFc (fun u9 t H1 locs ht hvm hw hB hz1 hk1 hS => ?_)
            obtain ⟨hP1, hD1⟩ := hB
            rw [ht] at hP1
            obtain ⟨hP, hD⟩ := va_joinQ (X := [(q_61, .inr (1, [.int 0, .int 0, .int 0]))]) (cx := [(q_61, .inr (1, [.int 0, .int 0, .int 0]))]) (wr := []) (w1 := [(q_61, .inr (1, [.int 5, .int (nI i9), .int (-1)]))]) (pl := va_pl z.1 f) (vaP_swap hPn) (vaD_rotR hDn) [0] [] rfl rfl rfl (fun i hi => absurd hi List.not_mem_nil) hk1 hFc hP1 hD1
            generalize H1 = H at hP hS ⊢
            obtain ⟨hnm_62, hP, hD⟩ := pushC hP hD
            obtain ⟨z_63, ez_63⟩ : ∃ y : gS, y = pz z q_61 (24, 0, []) := ⟨_, rfl⟩
            obtain ⟨f_64, ef_64⟩ : ∃ y : xF, y = va_up f q_61 (.inr (1, [.int 5, .int (nI i9), .int (-1)])) := ⟨_, rfl⟩
            have hE_65 : zE z z_63 := by rw [ez_63]; exact pz_E hnm_62 _
            have hI : xI q h0 d k z_63 f_64 := by rw [ez_63, ef_64]; exact x_push hI hnm_62 (Or.inr (by decide : (15 : Nat) < 24)) (cO_24 (by rw [pz_s]))
            rw [show z.1 ++ [q_61] = z_63.1 from by rw [ez_63]; rfl, ← ef_64] at hP hD
            have ht_66 : tg z_63 q_61 24 := by rw [ez_63]; exact pz_t _ _ _
            have hEz : zE z z_63 := zE_tr (zE_rf z) hE_65
            have h3m : f_64 (d 3) = f (d 3) := by rw [ef_64]; exact (up_o (fun e9 => hnm_62 (by rw [← e9]; exact hrp.2.2.2.2.2.2.2.1.1.1))).trans h3m
            have hrp_67 : rep q d u z_63 f_64 := by rw [ez_63, ef_64]; exact rep_grow hrp (pz_E hnm_62 _) (oK_push (fun _ _ => rfl) (zE_rf _) hnm_62)
            refine W.eq (g2 := F0 m 80 ls [.ref q_61]) rfl ?_
            have hbc_68 : f_64 q_61 = .inr (1, [.int 5, .int (nI i9), .int (-1)]) := by rw [ef_64]; exact up_s
            exact W.aret (v := .ref q_61) hx hb hr (Or.inl ⟨_, rfl⟩) (Or.inr ⟨_, rfl⟩) (fun t ht hW => ⟨⟨(some q_61), (k, z_63, f_64), rfl, ⟨q_61, _, _, _, rfl, rfl, hEz, hI, hrp_67, h3m, ht_66, hbc_68, Or.inr ⟨hnl1, Or.inr ⟨hnl2, Or.inr ⟨hnl3, Or.inr ⟨(fun i hi => hns1 i (by omega)), Or.inl ⟨rfl, rfl, i9, by omega, rfl, hye.2.1, hye.2.2⟩⟩⟩⟩⟩⟩, by rw [ht]; exact hP, hD⟩, hS.F ht⟩) hS.2.2 dX11_breachOn_80
        ·
          refine va_new (ci := 1) (fs := [.int 0, .int 0, .int 0]) (C := RX1) (T := TX1) (N := 3) hx hb hts zl_X11_breachOn_X1 tyX1 tyX1_ok hown (hts (.classLink RX11 202 RX1) (zat q_wsX11_breachOn k_wsX11_breachOn 741 rfl (by decide +kernel))) (hts (.instantiable RX1 3) (zat q_wsX11_breachOn k_wsX11_breachOn 742 rfl (by decide +kernel))) (hts (.initialized RX1) (zat q_wsX11_breachOn k_wsX11_breachOn 66 rfl (by decide +kernel))) hK hP hD hS hA rfl nwX1 (Nat.le_of_ble_eq_true rfl) (Nat.le_of_ble_eq_true rfl) dX11_breachOn_70 (fun q_69 H hPn hDn hS => ?_)
          have hP := vaP_l hPn
          refine W.widen (k := 4) (n := 12) (Nat.le_of_ble_eq_true rfl) (Nat.le_of_ble_eq_true rfl) ?_
          refine lv_dup hx hb dX11_breachOn_73 rfl ?_
          refine lv_iload_n hx hb dX11_breachOn_74 rfl (lv_at hl 3 rfl) ?_
          refine lv_iload_n hx hb dX11_breachOn_75 rfl (lv_at hl 0 rfl) ?_
          refine lv_iconst (v := (-1)) hx hb dX11_breachOn_76 (by decide) ?_
          have hPc := vaP_r hPn
          have hDc := vaD_r hDn
          have hFc := fr_part hDn hS hA
          refine va_callv (va_runI (As := [.int 4, .int (nI i9), .int (-1)]) (rest := [.ref q_69]) ⟨hx, hb, hml, hown, hts⟩ (x_Breach l dC dI q_69 4 (nI i9) (-1) H.size) (cwI 3 hts gX11_breachOn_X1_init rfl rfl rfl (hts (.initialized RX1) (zat q_wsX11_breachOn k_wsX11_breachOn 66 rfl (by decide +kernel))) (hts (.methodLink RX11 353 yX1_init) (zat q_wsX11_breachOn k_wsX11_breachOn 743 rfl (by decide +kernel))) (hts (.instanceMethod yX1_init) (zat q_wsX11_breachOn k_wsX11_breachOn 744 rfl (by decide +kernel))) rfl zh_X1_init_99 ⟨Nat.le_of_ble_eq_true rfl, Nat.le_of_ble_eq_true rfl⟩) ⟨gw_fb, fun U hU hW => ⟨rfl, by rw [hU], pw_to hU hW hPc (hK.sub (tys' := []) [] rfl) hN, hDc.weaken (fun _ _ _ _ => trivial)⟩⟩ rfl rfl hl.1 rfl (lv_room (Nat.le_of_ble_eq_true rfl)) dX11_breachOn_77 ⟨Nat.le_of_ble_eq_true rfl, Nat.le_of_ble_eq_true rfl⟩) hS (fun q _ h => hFc q h) hFc (fun u9 t H1 locs ht hvm hw hB hz1 hk1 hS => ?_)
          obtain ⟨hP1, hD1⟩ := hB
          rw [ht] at hP1
          obtain ⟨hP, hD⟩ := va_joinQ (X := [(q_69, .inr (1, [.int 0, .int 0, .int 0]))]) (cx := [(q_69, .inr (1, [.int 0, .int 0, .int 0]))]) (wr := []) (w1 := [(q_69, .inr (1, [.int 4, .int (nI i9), .int (-1)]))]) (pl := va_pl z.1 f) (vaP_swap hPn) (vaD_rotR hDn) [0] [] rfl rfl rfl (fun i hi => absurd hi List.not_mem_nil) hk1 hFc hP1 hD1
          generalize H1 = H at hP hS ⊢
          obtain ⟨hnm_70, hP, hD⟩ := pushC hP hD
          obtain ⟨z_71, ez_71⟩ : ∃ y : gS, y = pz z q_69 (24, 0, []) := ⟨_, rfl⟩
          obtain ⟨f_72, ef_72⟩ : ∃ y : xF, y = va_up f q_69 (.inr (1, [.int 4, .int (nI i9), .int (-1)])) := ⟨_, rfl⟩
          have hE_73 : zE z z_71 := by rw [ez_71]; exact pz_E hnm_70 _
          have hI : xI q h0 d k z_71 f_72 := by rw [ez_71, ef_72]; exact x_push hI hnm_70 (Or.inr (by decide : (15 : Nat) < 24)) (cO_24 (by rw [pz_s]))
          rw [show z.1 ++ [q_69] = z_71.1 from by rw [ez_71]; rfl, ← ef_72] at hP hD
          have ht_74 : tg z_71 q_69 24 := by rw [ez_71]; exact pz_t _ _ _
          have hEz : zE z z_71 := zE_tr (zE_rf z) hE_73
          have h3m : f_72 (d 3) = f (d 3) := by rw [ef_72]; exact (up_o (fun e9 => hnm_70 (by rw [← e9]; exact hrp.2.2.2.2.2.2.2.1.1.1))).trans h3m
          have hrp_75 : rep q d u z_71 f_72 := by rw [ez_71, ef_72]; exact rep_grow hrp (pz_E hnm_70 _) (oK_push (fun _ _ => rfl) (zE_rf _) hnm_70)
          refine W.eq (g2 := F0 m 80 ls [.ref q_69]) rfl ?_
          have hbc_76 : f_72 q_69 = .inr (1, [.int 4, .int (nI i9), .int (-1)]) := by rw [ef_72]; exact up_s
          exact W.aret (v := .ref q_69) hx hb hr (Or.inl ⟨_, rfl⟩) (Or.inr ⟨_, rfl⟩) (fun t ht hW => ⟨⟨(some q_69), (k, z_71, f_72), rfl, ⟨q_69, _, _, _, rfl, rfl, hEz, hI, hrp_75, h3m, ht_74, hbc_76, Or.inr ⟨hnl1, Or.inr ⟨hnl2, Or.inr ⟨hnl3, Or.inl ⟨rfl, rfl, i9, by omega, rfl, hye.2.1, hye.2.2⟩⟩⟩⟩⟩, by rw [ht]; exact hP, hD⟩, hS.F ht⟩) hS.2.2 dX11_breachOn_80
      ·
        subst hr9
        obtain ⟨k_47, z_45, f_46⟩ := w_36
        have hP : va_P (dC, dI) vwCl (va_pl z_45.1 f_46) H := hP
        have hD : va_D A (va_pl z_45.1 f_46) := hD
        have hE_48 : zE z z_45 := hw2
        have hI : xI q h0 d k z_45 f_46 := hw3
        have hEz : zE z z_45 := zE_tr (zE_rf z) hE_48
        have ht_41 : tg z_45 b_37 24 := hv_38
        have hbc_42 : f_46 b_37 = .inr (1, [.int 3, .int (nI ax_43), .int (nI bx_44)]) := hv_39
        have hrpx : rep q d u z_45 f_46 := hwr
        have h3m : f_46 (d 3) = f (d 3) := hw9.trans h3m
        refine W.eq (g2 := F0 m 13 ls [.ref b_37]) rfl ?_
        refine lv_astore_n (lv' := [(3, .ref b_37), (2, .int 3), (0, .ref h0), (1, .int p0)]) hx hb dX11_breachOn_13 rfl hl (by decide) rfl (fun ls hl => ?_)
        refine lv_aload_n hx hb dX11_breachOn_14 rfl (lv_at hl 0 rfl) ?_
        refine lv_ifnull hx hb dX11_breachOn_15 ?_
        refine lv_aload_n hx hb dX11_breachOn_18 rfl (lv_at hl 0 rfl) ?_
        refine W.widen (k := 4) (n := 12) (Nat.le_of_ble_eq_true rfl) (Nat.le_of_ble_eq_true rfl) ?_
        exact W.aret (v := .ref b_37) hx hb hr (Or.inl ⟨_, rfl⟩) (Or.inr ⟨_, rfl⟩) (fun t ht hW => ⟨⟨(some b_37), (k, z_45, f_46), rfl, ⟨b_37, _, _, _, rfl, rfl, hEz, hI, hrpx, h3m, ht_41, hbc_42, Or.inr ⟨hnl1, Or.inr ⟨hnl2, Or.inl ⟨rfl, ax_43, bx_44, rfl, rfl, hM_40⟩⟩⟩⟩, by rw [ht]; exact hP, hD⟩, hS.F ht⟩) hS.2.2 dX11_breachOn_19
    ·
      subst hr9
      obtain ⟨k_31, z_29, f_30⟩ := w_20
      have hP : va_P (dC, dI) vwCl (va_pl z_29.1 f_30) H := hP
      have hD : va_D A (va_pl z_29.1 f_30) := hD
      have hE_32 : zE z z_29 := hw2
      have hI : xI q h0 d k z_29 f_30 := hw3
      have hEz : zE z z_29 := zE_tr (zE_rf z) hE_32
      have ht_25 : tg z_29 b_21 24 := hv_22
      have hbc_26 : f_30 b_21 = .inr (1, [.int 2, .int (nI ax_27), .int (nI bx_28)]) := hv_23
      have hrpx : rep q d u z_29 f_30 := hwr
      have h3m : f_30 (d 3) = f (d 3) := hw9.trans h3m
      refine W.eq (g2 := F0 m 13 ls [.ref b_21]) rfl ?_
      refine lv_astore_n (lv' := [(3, .ref b_21), (2, .int 2), (0, .ref h0), (1, .int p0)]) hx hb dX11_breachOn_13 rfl hl (by decide) rfl (fun ls hl => ?_)
      refine lv_aload_n hx hb dX11_breachOn_14 rfl (lv_at hl 0 rfl) ?_
      refine lv_ifnull hx hb dX11_breachOn_15 ?_
      refine lv_aload_n hx hb dX11_breachOn_18 rfl (lv_at hl 0 rfl) ?_
      refine W.widen (k := 4) (n := 12) (Nat.le_of_ble_eq_true rfl) (Nat.le_of_ble_eq_true rfl) ?_
      exact W.aret (v := .ref b_21) hx hb hr (Or.inl ⟨_, rfl⟩) (Or.inr ⟨_, rfl⟩) (fun t ht hW => ⟨⟨(some b_21), (k, z_29, f_30), rfl, ⟨b_21, _, _, _, rfl, rfl, hEz, hI, hrpx, h3m, ht_25, hbc_26, Or.inr ⟨hnl1, Or.inl ⟨rfl, ax_27, bx_28, rfl, rfl, hM_24⟩⟩⟩, by rw [ht]; exact hP, hD⟩, hS.F ht⟩) hS.2.2 dX11_breachOn_19
  ·
    subst hr9
    obtain ⟨k_15, z_13, f_14⟩ := w_4
    have hP : va_P (dC, dI) vwCl (va_pl z_13.1 f_14) H := hP
    have hD : va_D A (va_pl z_13.1 f_14) := hD
    have hE_16 : zE z z_13 := hw2
    have hI : xI q h0 d k z_13 f_14 := hw3
    have hEz : zE z z_13 := zE_tr (zE_rf z) hE_16
    have ht_9 : tg z_13 b_5 24 := hv_6
    have hbc_10 : f_14 b_5 = .inr (1, [.int 1, .int (nI ax_11), .int (nI bx_12)]) := hv_7
    have hrpx : rep q d u z_13 f_14 := hwr
    have h3m : f_14 (d 3) = f (d 3) := hw9.trans h3m
    refine W.eq (g2 := F0 m 13 ls [.ref b_5]) rfl ?_
    refine lv_astore_n (lv' := [(3, .ref b_5), (2, .int 1), (0, .ref h0), (1, .int p0)]) hx hb dX11_breachOn_13 rfl hl (by decide) rfl (fun ls hl => ?_)
    refine lv_aload_n hx hb dX11_breachOn_14 rfl (lv_at hl 0 rfl) ?_
    refine lv_ifnull hx hb dX11_breachOn_15 ?_
    refine lv_aload_n hx hb dX11_breachOn_18 rfl (lv_at hl 0 rfl) ?_
    refine W.widen (k := 4) (n := 12) (Nat.le_of_ble_eq_true rfl) (Nat.le_of_ble_eq_true rfl) ?_
    exact W.aret (v := .ref b_5) hx hb hr (Or.inl ⟨_, rfl⟩) (Or.inr ⟨_, rfl⟩) (fun t ht hW => ⟨⟨(some b_5), (k, z_13, f_14), rfl, ⟨b_5, _, _, _, rfl, rfl, hEz, hI, hrpx, h3m, ht_9, hbc_10, Or.inl ⟨rfl, ax_11, bx_12, rfl, rfl, hM_8⟩⟩, by rw [ht]; exact hP, hD⟩, hS.F ht⟩) hS.2.2 dX11_breachOn_19
def bkP (q : Nat → ClassId) (h0 : Nat) (d : Nat → Nat) (k : Nat → Int32) (z : gS) (f : xF) (u : mS) (p wh r : Int32) (w : xU) : Prop := ((¬ bw p 0 11 = true ∨ ¬ bw wh 0 2 = true) ∧ r = (-1) ∧ w = (k, z, f)) ∨ (bw p 0 11 = true ∧ bw wh 0 2 = true ∧ ∃ x y t, brM u p x y t ∧ r = (if wh = 0 then x else if wh = 1 then y else t) ∧ w.1 = k ∧ zE z w.2.1 ∧ xI q h0 d k w.2.1 w.2.2 ∧ rep q d u w.2.1 w.2.2 ∧ w.2.2 (d 3) = f (d 3))
set_option maxHeartbeats 4000000 in
set_option maxRecDepth 100000 in
theorem y_broken (l : Launch) (dC : Nat → ClassId) (dI : Nat → Nat → Nat) (q : Nat → ClassId) (h0 : Nat) (d : Nat → Nat) (k : Nat → Int32) (z : gS) (f : xF) (hI : xI q h0 d k z f) (p0 p1 : Int32) (u : mS) (hrp : rep q d u z f) (hk0 : k 0 = u.1 3) (hk1 : k 1 = u.1 28) (hk2 : k 2 = u.1 38) (hk3 : k 3 = u.1 39) (hkB : kB u) (hpcI : pcI u) (sz : Nat) : Met l yX11_broken wsX11_broken ({ frames := 6, cells := 4, slots := 12, locals := 133 }) (va_Pc [.ref h0, .int p0, .int p1] (fun U => U.heap.size = sz ∧ PX dC dI (va_pl z.1 f) (xT q) U ∧ va_D (fun _ => True) (va_pl z.1 f))) (va_Qi (fun (r : Int32) (w : xU) => bkP q h0 d k z f u p0 p1 r w) (fun (w : xU) t => va_P (dC, dI) vwCl (va_pl w.2.1.1 w.2.2) t.heap ∧ va_D (va_A (va_pl z.1 f) sz) (va_pl w.2.1.1 w.2.2)) (va_A (va_pl z.1 f) sz)) 4 12 (va_A (va_pl z.1 f) sz) := by
  refine Met.ofW (cc := cX11_broken) (maxL := 4) (ret := (some .int)) (by decide) rfl ?_
  intro p e s m args below meth c s₁ B hml hv
  obtain ⟨rfl, hsz, ⟨⟨hP, hK, hN⟩, hXN⟩, hD0⟩ := hv
  have hx := B.exec
  have hb := B.bytes
  have hr := B.returns
  have hts := atoms_spec (ws := wsX11_broken) B.pre
  have hown : s.vm.findClass RX11 = some m.cls := findClass_of_methodNamed B.named
  have hlocks := B.notSynchronized
  subst hsz
  have hD := hD0.self (sz := s.heap.size)
  generalize hAe : va_A (va_pl z.1 f) s.heap.size = A at hD ⊢
  have hA : ∀ q : Nat, s.heap.size ≤ q → A q := fun q h => by rw [← hAe]; exact Or.inr h
  have hS : va_S A s.heap s.heap [] := va_S.rf
  have hl := lv_entry ([.ref h0, .int p0, .int p1]) (n := 4) (Nat.le_of_ble_eq_true rfl)
  rw [lg_entry_eq]
  generalize (lg_sl ([.ref h0, .int p0, .int p1]) ++ List.replicate (4 - (lg_sl ([.ref h0, .int p0, .int p1])).length) Slot.unset).toArray = ls at hl ⊢
  have hl : lv_has ls 4 [(0, .ref h0), (1, .int p0), (2, .int p1)] := hl
  refine lv_iload_n hx hb dX11_broken_0 rfl (lv_at hl 1 rfl) ?_
  refine vp_callSi (va_runS (As := [.int p0]) (rest := []) ⟨hx, hb, hml, hown, hts⟩ (x_isPage l dC dI p0) (va_cwS 1 hts gX11_broken_X11_isPage rfl rfl rfl zh_X11_isPage_44 ⟨Nat.le_of_ble_eq_true rfl, Nat.le_of_ble_eq_true rfl⟩) ⟨pw_fb, fun U hU hW => ⟨rfl, pw_to hU hW (hP.sub (ws' := []) [] rfl) (hK.sub (tys' := []) [] rfl) hN⟩⟩ rfl rfl hl.1 rfl (lv_room (Nat.le_of_ble_eq_true rfl)) dX11_broken_1 ⟨Nat.le_of_ble_eq_true rfl, Nat.le_of_ble_eq_true rfl⟩).run (fun r hw => ?_)
  rcases Bool.eq_false_or_eq_true (bw p0 0 11) with b_1 | b_1
  ·
    obtain rfl : r = 1 := b_t hw b_1
    refine lv_if_eq (tgt := 16) hx hb dX11_broken_4 (by decide) (fun c_2 => absurd c_2 (by decide)) (fun c_2 => ?_)
    refine lv_iload_n hx hb dX11_broken_7 rfl (lv_at hl 2 rfl) ?_
    refine lv_iconst (v := 0) hx hb dX11_broken_8 (by decide) ?_
    refine lv_iconst (v := 2) hx hb dX11_broken_9 (by decide) ?_
    refine vp_callSi (va_runS (As := [.int p1, .int 0, .int 2]) (rest := []) ⟨hx, hb, hml, hown, hts⟩ (x_isWithin l dC dI p1 0 2) (va_cwS 3 hts gX11_broken_X11_isWithin rfl rfl rfl zh_X11_isWithin_30 ⟨Nat.le_of_ble_eq_true rfl, Nat.le_of_ble_eq_true rfl⟩) ⟨pw_fb, fun U hU hW => ⟨rfl, pw_to hU hW (hP.sub (ws' := []) [] rfl) (hK.sub (tys' := []) [] rfl) hN⟩⟩ rfl rfl hl.1 rfl (lv_room (Nat.le_of_ble_eq_true rfl)) dX11_broken_10 ⟨Nat.le_of_ble_eq_true rfl, Nat.le_of_ble_eq_true rfl⟩).run (fun r hw => ?_)
    rcases Bool.eq_false_or_eq_true (bw p1 0 2) with b_3 | b_3
    ·
      obtain rfl : r = 1 := b_t hw b_3
      refine lv_if_ne (tgt := 18) hx hb dX11_broken_13 (by decide) (fun c_4 => ?_) (fun c_4 => absurd c_4 (by decide))
      refine lv_aload_n hx hb dX11_broken_18 rfl (lv_at hl 0 rfl) ?_
      refine lv_iload_n hx hb dX11_broken_19 rfl (lv_at hl 1 rfl) ?_
      obtain ⟨kk_5, hk_6⟩ := pl_at hI.2.1.1.1 hI.2.2.2.1.1
      have hFc := fr_all hD hS hA
      refine va_callq (va_runV (As := [.int p0]) (rest := []) ⟨hx, hb, hml, hown, hts⟩ (y_breachOn l dC dI q h0 d k z f hI p0 u hrp hk0 hk1 hk2 hk3 hkB hpcI s.heap.size) (cwV 1 hts gX11_broken_X11_breachOn rfl rfl rfl zh_X11_breachOn_102 ⟨Nat.le_of_ble_eq_true rfl, Nat.le_of_ble_eq_true rfl⟩) ⟨gx_fb, va_recv hK hP (ci := 10) (q0 := kk_5) rfl hk_6, fun U hU hW => ⟨rfl, by rw [hU], px_to hU hW hP hK hN hXN, hD.weaken (fun _ _ _ _ => trivial)⟩⟩ rfl rfl hl.1 rfl (lv_room (Nat.le_of_ble_eq_true rfl)) dX11_broken_20 ⟨Nat.le_of_ble_eq_true rfl, Nat.le_of_ble_eq_true rfl⟩) hS (fun q _ h => hFc q h) hFc (fun r w_7 t H1 locs ht hvm hw hB hz1 hk1 hS => ?_)
      obtain ⟨hP, hD1⟩ := hB
      rw [ht] at hP
      have hD := hD1.weaken (fun _ q _ h => hFc q.1 h)
      generalize H1 = H at hP hS ⊢
      refine W.widen (k := 4) (n := 12) (Nat.le_of_ble_eq_true rfl) (Nat.le_of_ble_eq_true rfl) ?_
      obtain ⟨b_8, bx_9, bx_10, bx_11, hr9, -, hw2, hw3, hwr, hw9, hv_12, hv_13, hbM⟩ := hw
      subst hr9
      obtain ⟨k_18, z_16, f_17⟩ := w_7
      have hP : va_P (dC, dI) vwCl (va_pl z_16.1 f_17) H := hP
      have hD : va_D A (va_pl z_16.1 f_17) := hD
      have hE_19 : zE z z_16 := hw2
      have hI : xI q h0 d k z_16 f_17 := hw3
      have hEz : zE z z_16 := zE_tr (zE_rf z) hE_19
      have ht_15 : tg z_16 b_8 24 := hv_12
      have hbc_14 : f_17 b_8 = .inr (1, [.int bx_9, .int bx_10, .int bx_11]) := hv_13
      have hrpx : rep q d u z_16 f_17 := hwr
      have h3m : f_17 (d 3) = f (d 3) := hw9
      refine W.eq (g2 := F0 m 23 ls [.ref b_8]) rfl ?_
      refine lv_astore_n (lv' := [(3, .ref b_8), (0, .ref h0), (1, .int p0), (2, .int p1)]) hx hb dX11_broken_23 rfl hl (by decide) rfl (fun ls hl => ?_)
      refine lv_iload_n hx hb dX11_broken_24 rfl (lv_at hl 3 rfl) ?_
      refine lv_if_ne (tgt := 33) hx hb dX11_broken_25 (by decide) (fun c_20 => ?_) (fun c_20 => ?_)
      ·
        refine lv_iload_n hx hb dX11_broken_33 rfl (lv_at hl 3 rfl) ?_
        refine lv_iconst (v := 1) hx hb dX11_broken_34 (by decide) ?_
        refine lv_icmp_ne (tgt := 45) hx hb dX11_broken_35 (by decide) (fun c_21 => ?_) (fun c_21 => ?_)
        ·
          refine lv_aload_n hx hb dX11_broken_45 rfl (lv_at hl 0 rfl) ?_
          obtain ⟨kk_22, hk_23⟩ := pl_at ht_15.1 hbc_14
          refine va_get (D := (dC, dI)) (ci := 1) (v := .int bx_11) (C := RX1) (T := TX1) (N := 3) hx hb hts zl_X11_broken_X1 hown hK hP kk_22 hk_23 rfl 2 (by decide) (hts (.fieldLink RX11 269 "PageOne$Breach" "other" "I") (zat q_wsX11_broken k_wsX11_broken 752 rfl (by decide +kernel))) (fun _ h9 => h9) rfl dX11_broken_46 ?_
          exact W.iret (v := bx_11) hx hb hr (fun t ht hW => ⟨⟨bx_11, (k, z_16, f_17), rfl, (Or.inr ⟨b_1, b_3, bx_9, bx_10, bx_11, hbM, ((if_neg c_20).trans (if_neg c_21)).symm, rfl, hEz, hI, hrpx, h3m⟩), by rw [ht]; exact hP, hD⟩, hS.F ht⟩) hS.2.2 dX11_broken_49
        ·
          refine lv_aload_n hx hb dX11_broken_38 rfl (lv_at hl 0 rfl) ?_
          obtain ⟨kk_24, hk_25⟩ := pl_at ht_15.1 hbc_14
          refine va_get (D := (dC, dI)) (ci := 1) (v := .int bx_10) (C := RX1) (T := TX1) (N := 3) hx hb hts zl_X11_broken_X1 hown hK hP kk_24 hk_25 rfl 1 (by decide) (hts (.fieldLink RX11 266 "PageOne$Breach" "first" "I") (zat q_wsX11_broken k_wsX11_broken 750 rfl (by decide +kernel))) (fun _ h9 => h9) rfl dX11_broken_39 ?_
          refine lv_goto (tgt := 49) hx hb dX11_broken_42 (by decide) ?_
          exact W.iret (v := bx_10) hx hb hr (fun t ht hW => ⟨⟨bx_10, (k, z_16, f_17), rfl, (Or.inr ⟨b_1, b_3, bx_9, bx_10, bx_11, hbM, ((if_neg c_20).trans (if_pos c_21)).symm, rfl, hEz, hI, hrpx, h3m⟩), by rw [ht]; exact hP, hD⟩, hS.F ht⟩) hS.2.2 dX11_broken_49
      ·
        refine lv_aload_n hx hb dX11_broken_28 rfl (lv_at hl 0 rfl) ?_
        obtain ⟨kk_26, hk_27⟩ := pl_at ht_15.1 hbc_14
        refine va_get (D := (dC, dI)) (ci := 1) (v := .int bx_9) (C := RX1) (T := TX1) (N := 3) hx hb hts zl_X11_broken_X1 hown hK hP kk_26 hk_27 rfl 0 (by decide) (hts (.fieldLink RX11 201 "PageOne$Breach" "kind" "I") (zat q_wsX11_broken k_wsX11_broken 748 rfl (by decide +kernel))) (fun _ h9 => h9) rfl dX11_broken_29 ?_
        exact W.iret (v := bx_9) hx hb hr (fun t ht hW => ⟨⟨bx_9, (k, z_16, f_17), rfl, (Or.inr ⟨b_1, b_3, bx_9, bx_10, bx_11, hbM, (if_pos c_20).symm, rfl, hEz, hI, hrpx, h3m⟩), by rw [ht]; exact hP, hD⟩, hS.F ht⟩) hS.2.2 dX11_broken_32
    ·
      obtain rfl : r = 0 := b_f hw b_3
      refine lv_if_ne (tgt := 18) hx hb dX11_broken_13 (by decide) (fun c_28 => absurd (by decide) c_28) (fun c_28 => ?_)
      refine lv_iconst (v := (-1)) hx hb dX11_broken_16 (by decide) ?_
      refine W.widen (k := 4) (n := 12) (Nat.le_of_ble_eq_true rfl) (Nat.le_of_ble_eq_true rfl) ?_
      exact W.iret (v := (-1)) hx hb hr (fun t ht hW => ⟨⟨(-1), (k, z, f), rfl, (Or.inl ⟨Or.inr (bne b_3), rfl, rfl⟩), by rw [ht]; exact hP, hD⟩, hS.F ht⟩) hS.2.2 dX11_broken_17
  ·
    obtain rfl : r = 0 := b_f hw b_1
    refine lv_if_eq (tgt := 16) hx hb dX11_broken_4 (by decide) (fun c_29 => ?_) (fun c_29 => absurd (by decide) c_29)
    refine lv_iconst (v := (-1)) hx hb dX11_broken_16 (by decide) ?_
    refine W.widen (k := 4) (n := 12) (Nat.le_of_ble_eq_true rfl) (Nat.le_of_ble_eq_true rfl) ?_
    exact W.iret (v := (-1)) hx hb hr (fun t ht hW => ⟨⟨(-1), (k, z, f), rfl, (Or.inl ⟨Or.inl (bne b_1), rfl, rfl⟩), by rw [ht]; exact hP, hD⟩, hS.F ht⟩) hS.2.2 dX11_broken_17
/-- w is u with page P plated -/
def plW (u w : mS) (P : Nat) : Prop := w.1 3 = u.1 3 ∧ (∀ r, r < 40 ∨ 46 < r → w.2 r = u.2 r) ∧ (∀ j, w.2 40 j = if j = P then 1 else u.2 40 j) ∧ (∀ j, w.2 41 j = if j = P then u.1 38 else u.2 41 j) ∧ (∀ j, w.2 42 j = if j = P then u.1 39 else u.2 42 j) ∧ (∀ j, w.2 43 j = if 8 * P ≤ j ∧ j < 8 * P + 8 then u.2 0 j else u.2 43 j) ∧ ∀ j, w.2 44 j = if 480 * P ≤ j ∧ j < 480 * P + 480 then u.2 2 j else u.2 44 j
theorem rep_plate {q d d2 u w z z2 f f2} {P : Nat} {g g' : Nat → Option Nat} {m : Int32} (h : rep q d u z f) (hP : P < 12) (hE : zE z z2) (hd : ∀ x, x ≠ 1000 + P → x ≠ 1020 + P → x ≠ 1040 + P → d2 x = d x) (hf : fK d z f f2 (fun x => x = 1 ∨ x = 1000 + P ∨ x = 1020 + P ∨ x = 1040 + P)) (hg : f (d 1) = aR (q 2) 12 g) (hg2 : f2 (d 1) = aR (q 2) 12 g') (hgP : g' P = some (d2 (1000 + P))) (hgo : ∀ j, j < 12 → j ≠ P → g' j = g j) (n7 : nO d2 z2 (1000 + P) 7) (n8 : nO d2 z2 (1020 + P) 8) (n9 : nO d2 z2 (1040 + P) 9) (s1 : f2 (d2 (1000 + P)) = .inr (8, [.ref (d2 (1020 + P)), .ref (d2 (1040 + P)), .int m, .int (u.1 38), .int (u.1 39)])) (s2 : ∃ gl, f2 (d2 (1020 + P)) = aI (q 0) 8 gl ∧ eqR 8 gl (u.2 0) (8 * P)) (s3 : ∃ gc, f2 (d2 (1040 + P)) = aI (q 0) 480 gc ∧ eqR 480 gc (u.2 2) (480 * P)) (hw : plW u w P) : rep q d2 w z2 f2 := by
  obtain ⟨h1g, ⟨g9, a1, a2⟩, ⟨⟨gi, b1, b2⟩, b3⟩, h1v, n0, n1, n2, n3, n4⟩ := h
  obtain ⟨w1, wr, w40, w41, w42, w43, w44⟩ := hw
  obtain rfl := (aR_inj (hg.symm.trans a1)).2
  have dl : ∀ x, x < 1000 → d2 x = d x := fun x hx => hd x (by omega) (by omega) (by omega)
  have dI : ∀ x, 2000 ≤ x → d2 x = d x := fun x hx => hd x (by omega) (by omega) (by omega)
  have nn : ∀ x t, x < 1000 → nO d z x t → nO d2 z2 x t := fun x t hx ho => nO_d (dl x hx) (nO_E hE ho)
  refine ⟨rPg_fr h1g hE (fun x hx => dl x (by omega)) hf (fun x hx _ _ _ _ => by omega) n0 (wr 0 (by omega)) (wr 1 (by omega)) (wr 2 (by omega)), ⟨g', by rw [dl 1 (by omega)]; exact hg2, fun p hp => ?_⟩, ⟨⟨gi, by rw [dl 2 (by omega), hf.1 2 _ n2 (by omega)]; exact b1, fun j hj => by rw [dI _ (by omega)]; exact b2 j (by rw [← w1]; exact hj)⟩, fun j hj => ?_⟩, rRv_fr h1v (dl 4 (by omega)) (hf.1 4 _ n4 (by omega)) (wr 20 (by omega)), nn 0 _ (by omega) n0, nn 1 _ (by omega) n1, nn 2 _ (by omega) n2, nn 3 _ (by omega) n3, nn 4 _ (by omega) n4⟩
  · by_cases e : p = P
    · subst e
      obtain ⟨gl, s2a, s2b⟩ := s2
      obtain ⟨gc, s3a, s3b⟩ := s3
      refine Or.inr ⟨by rw [w40, if_pos rfl], hgP, n7, n8, n9, m, ?_, ⟨gl, s2a, fun t ht => ?_⟩, gc, s3a, fun t ht => ?_⟩
      · rw [w41, w42, if_pos rfl, if_pos rfl]; exact s1
      · rw [w43, if_pos (by omega)]; exact s2b t ht
      · rw [w44, if_pos (by omega)]; exact s3b t ht
    · have e1 := hd (1000 + p) (by omega) (by omega) (by omega)
      have e2 := hd (1020 + p) (by omega) (by omega) (by omega)
      have e3 := hd (1040 + p) (by omega) (by omega) (by omega)
      rcases a2 p hp with ⟨c1, c2⟩ | ⟨c1, c2, m1, m2, m3, m9, t1, ⟨gl, t2, t3⟩, gc, t4, t5⟩
      · exact Or.inl ⟨by rw [w40, if_neg e]; exact c1, (hgo p hp e).trans c2⟩
      · refine Or.inr ⟨by rw [w40, if_neg e]; exact c1, by rw [hgo p hp e, e1]; exact c2, nO_d e1 (nO_E hE m1), nO_d e2 (nO_E hE m2), nO_d e3 (nO_E hE m3), m9, ?_, ⟨gl, ?_, fun t ht => ?_⟩, gc, ?_, fun t ht => ?_⟩
        · rw [e1, e2, e3, hf.1 _ _ m1 (by omega), w41, w42, if_neg e, if_neg e]; exact t1
        · rw [e2, hf.1 _ _ m2 (by omega)]; exact t2
        · rw [w43, if_neg (by omega)]; exact t3 t ht
        · rw [e3, hf.1 _ _ m3 (by omega)]; exact t4
        · rw [w44, if_neg (by omega)]; exact t5 t ht
  · rw [w1] at hj
    refine rIt_fr (b3 j hj) hE ⟨dI _ (by omega), dI _ (by omega), dI _ (by omega), dI _ (by omega), dI _ (by omega)⟩ hf ⟨by omega, by omega, by omega, by omega, by omega⟩ ⟨fun r r1 r2 _ _ _ _ _ => by rw [wr r (by omega)], fun r r1 r2 t _ => by rw [wr r (by omega)], fun t _ => by rw [wr 47 (by omega)], fun t _ => by rw [wr 16 (by omega)], fun t _ => by rw [wr 18 (by omega), wr 19 (by omega)]; exact ⟨rfl, rfl⟩, fun t _ => by rw [wr 21 (by omega)], fun t _ => by rw [wr 48 (by omega)]⟩ (by rw [w1]; exact Nat.le_refl _) (fun o _ => ⟨dI _ (by omega), by rw [wr 4 (by omega)]⟩)
theorem pl_none {q d z f u} (h : rPl q d u z f) {p : Nat} (hp : p < 12) (h40 : u.2 40 p = 0) : ∃ g, f (d 1) = aR (q 2) 12 g ∧ g p = none := by
  obtain ⟨g, a1, a2⟩ := h
  rcases a2 p hp with ⟨-, b2⟩ | ⟨b1, -⟩
  · exact ⟨g, a1, b2⟩
  · rw [h40] at b1; exact absurd b1 (by decide)
/-- the book with plate P's entries -/
def dP (d : Nat → Nat) (P a7 a8 a9 : Nat) : Nat → Nat := fun x => if x = 1000 + P then a7 else if x = 1020 + P then a8 else if x = 1040 + P then a9 else d x
theorem dP_no {d : Nat → Nat} {P a7 a8 a9 x : Nat} (h1 : x ≠ 1000 + P) (h2 : x ≠ 1020 + P) (h3 : x ≠ 1040 + P) : dP d P a7 a8 a9 x = d x := by
  unfold dP; rw [if_neg h1, if_neg h2, if_neg h3]
theorem dP_at {d : Nat → Nat} {P a7 a8 a9 : Nat} : dP d P a7 a8 a9 (1000 + P) = a7 ∧ dP d P a7 a8 a9 (1020 + P) = a8 ∧ dP d P a7 a8 a9 (1040 + P) = a9 := by
  unfold dP
  refine ⟨if_pos rfl, ?_, ?_⟩
  · rw [if_neg (by omega), if_pos rfl]
  · rw [if_neg (by omega), if_neg (by omega), if_pos rfl]
theorem cpy8 {ll gl : Nat → Int32} {n : Nat} (t : Nat) (ht : t < n) (c : Int32) (hc : c.toNatClampNeg = n) : va_cpy ll gl (0 : Int32).toNatClampNeg (0 : Int32).toNatClampNeg c.toNatClampNeg t = ll t := by
  unfold va_cpy
  have h0 : (0 : Int32).toNatClampNeg = 0 := rfl
  rw [hc, h0, if_pos (by omega)]
  congr 1
  omega
theorem pl_nO {q d z f u} (h : rPl q d u z f) {p : Nat} (hp : p < 12) (h40 : u.2 40 p = 1) : nO d z (1000 + p) 7 ∧ nO d z (1020 + p) 8 ∧ nO d z (1040 + p) 9 := by
  obtain ⟨g, a1, a2⟩ := h
  rcases a2 p hp with ⟨b1, -⟩ | ⟨b1, b2, m1, m2, m3, -⟩
  · rw [h40] at b1; exact absurd b1 (by decide)
  · exact ⟨m1, m2, m3⟩
theorem fK_fresh {d : Nat → Nat} {z : gS} {f f1 : xF} {X : Nat → Prop} {a : Nat} {e : va_E} (h : fK d z f f1 X) (ha : a ∉ z.1) : fK d z f (va_up f1 a e) X := ⟨fun x t hn hX => by rw [up_o (fun e => ha (by rw [← e]; exact hn.1.1))]; exact h.1 x t hn hX, fun j hj hX => by rw [up_o (fun e => ha (by rw [← e]; exact hj.1.1))]; exact h.2 j hj hX⟩
/-- why plate refuses -/
def plNo (u : mS) (p : Int32) : Prop := ¬ bw p 0 11 = true ∨ (bw p 0 11 = true ∧ ∃ gl gc, eqR 8 gl (u.2 0) (8 * p.toNatClampNeg) ∧ eqR 480 gc (u.2 2) (480 * p.toNatClampNeg) ∧ (∀ j, j < 8 → bw (gl j) 0 60 = true) ∧ (shCC gl 8 = 0 ∨ 0 < shEC gl gc 8 ∨ ∃ x y t, brM u p x y t ∧ ¬ x = 0))
def plYe (u : mS) (p r : Int32) : Prop := bw p 0 11 = true ∧ ∃ gl gc, eqR 8 gl (u.2 0) (8 * p.toNatClampNeg) ∧ eqR 480 gc (u.2 2) (480 * p.toNatClampNeg) ∧ (∀ j, j < 8 → bw (gl j) 0 60 = true) ∧ r = shCC gl 8 ∧ ¬ r = 0 ∧ ¬ 0 < shEC gl gc 8 ∧ ∃ y t, brM u p 0 y t
/-- what plate leaves -/
def plP (q : Nat → ClassId) (h0 : Nat) (d : Nat → Nat) (k : Nat → Int32) (z : gS) (f : xF) (u : mS) (p r : Int32) (w : xU) : Prop := w.1 = k ∧ zE z w.2.1 ∧ w.2.2 (d 3) = f (d 3) ∧ ((plNo u p ∧ r = (-1) ∧ xI q h0 d k w.2.1 w.2.2 ∧ rep q d u w.2.1 w.2.2) ∨ (plYe u p r ∧ ∃ d2 : Nat → Nat, (∀ x, x < 1000 ∨ 1100 ≤ x → d2 x = d x) ∧ xI q h0 d2 k w.2.1 w.2.2 ∧ ∀ w9, plW u w9 p.toNatClampNeg → rep q d2 w9 w.2.1 w.2.2))
set_option maxHeartbeats 4000000 in
set_option maxRecDepth 100000 in
theorem y_plate (l : Launch) (dC : Nat → ClassId) (dI : Nat → Nat → Nat) (q : Nat → ClassId) (h0 : Nat) (d : Nat → Nat) (k : Nat → Int32) (z : gS) (f : xF) (hI : xI q h0 d k z f) (p0 : Int32) (u : mS) (hrp : rep q d u z f) (hk0 : k 0 = u.1 3) (hk1 : k 1 = u.1 28) (hk2 : k 2 = u.1 38) (hk3 : k 3 = u.1 39) (hkB : kB u) (hpcI : pcI u) (sz : Nat) : Met l yX11_plate wsX11_plate ({ frames := 6, cells := 7, slots := 505, locals := 133 }) (va_Pc [.ref h0, .int p0] (fun U => U.heap.size = sz ∧ PX dC dI (va_pl z.1 f) (xT q) U ∧ va_D (fun _ => True) (va_pl z.1 f))) (va_Qi (fun (r : Int32) (w : xU) => plP q h0 d k z f u p0 r w) (fun (w : xU) t => va_P (dC, dI) vwCl (va_pl w.2.1.1 w.2.2) t.heap ∧ va_D (va_A (va_pl z.1 f) sz) (va_pl w.2.1.1 w.2.2)) (va_A (va_pl z.1 f) sz)) 7 505 (va_A (va_pl z.1 f) sz) := by
  refine Met.ofW (cc := cX11_plate) (maxL := 4) (ret := (some .int)) (by decide) rfl ?_
  intro p e s m args below meth c s₁ B hml hv
  obtain ⟨rfl, hsz, ⟨⟨hP, hK, hN⟩, hXN⟩, hD0⟩ := hv
  have hx := B.exec
  have hb := B.bytes
  have hr := B.returns
  have hts := atoms_spec (ws := wsX11_plate) B.pre
  have hown : s.vm.findClass RX11 = some m.cls := findClass_of_methodNamed B.named
  have hlocks := B.notSynchronized
  subst hsz
  have hD := hD0.self (sz := s.heap.size)
  generalize hAe : va_A (va_pl z.1 f) s.heap.size = A at hD ⊢
  have hA : ∀ q : Nat, s.heap.size ≤ q → A q := fun q h => by rw [← hAe]; exact Or.inr h
  have hS : va_S A s.heap s.heap [] := va_S.rf
  have hl := lv_entry ([.ref h0, .int p0]) (n := 4) (Nat.le_of_ble_eq_true rfl)
  rw [lg_entry_eq]
  generalize (lg_sl ([.ref h0, .int p0]) ++ List.replicate (4 - (lg_sl ([.ref h0, .int p0])).length) Slot.unset).toArray = ls at hl ⊢
  have hl : lv_has ls 4 [(0, .ref h0), (1, .int p0)] := hl
  obtain ⟨P, eP⟩ : ∃ y, y = p0.toNatClampNeg := ⟨_, rfl⟩
  have hIo := hI
  have h3m : f (d 3) = f (d 3) := rfl
  refine lv_iload_n hx hb dX11_plate_0 rfl (lv_at hl 1 rfl) ?_
  refine vp_callSi (va_runS (As := [.int p0]) (rest := []) ⟨hx, hb, hml, hown, hts⟩ (x_isPage l dC dI p0) (va_cwS 1 hts gX11_plate_X11_isPage rfl rfl rfl zh_X11_isPage_44 ⟨Nat.le_of_ble_eq_true rfl, Nat.le_of_ble_eq_true rfl⟩) ⟨pw_fb, fun U hU hW => ⟨rfl, pw_to hU hW (hP.sub (ws' := []) [] rfl) (hK.sub (tys' := []) [] rfl) hN⟩⟩ rfl rfl hl.1 rfl (lv_room (Nat.le_of_ble_eq_true rfl)) dX11_plate_1 ⟨Nat.le_of_ble_eq_true rfl, Nat.le_of_ble_eq_true rfl⟩).run (fun r hw => ?_)
  rcases Bool.eq_false_or_eq_true (bw p0 0 11) with b_1 | b_1
  ·
    obtain rfl : r = 1 := b_t hw b_1
    refine lv_if_ne (tgt := 9) hx hb dX11_plate_4 (by decide) (fun c_2 => ?_) (fun c_2 => absurd c_2 (by decide))
    refine lv_aload_n hx hb dX11_plate_9 rfl (lv_at hl 0 rfl) ?_
    obtain ⟨kk_3, hk_4⟩ := pl_at hI.2.1.1.1 hI.2.2.2.1.1
    refine va_get (D := (dC, dI)) (ci := 10) (v := .ref (d 0)) (C := RX11) (T := TX11) (N := 9) hx hb hts zl_X11_plate_X11 hown hK hP kk_3 hk_4 rfl 0 (by decide) (hts (.fieldLink RX11 11 "PageOne" "pages" "[LPageOne$Sheet;") (zat q_wsX11_plate k_wsX11_plate 112 rfl (by decide +kernel))) (fun _ h9 => h9) rfl dX11_plate_10 ?_
    refine lv_iload_n hx hb dX11_plate_13 rfl (lv_at hl 1 rfl) ?_
    obtain ⟨g_5, hs_6, hg_7⟩ := x_pg hI hI.2.1.2.1
    obtain ⟨kk_8, hk_9⟩ := pl_at hI.2.1.2.1.1 hs_6
    refine va_aldq hx hb hK hP kk_8 2 hk_9 rfl (vin b_1 (by decide)) dX11_plate_14 ?_
    obtain ⟨b_10, hg_11, ht_12⟩ := hg_7 _ (vlt (vin b_1 (by decide)))
    rw [hg_11]
    refine W.eq (g2 := F0 m 15 ls [.ref b_10]) rfl ?_
    have hb_13 := pg_at hrp.1 hs_6 (show P < 12 by rw [eP]; exact clp b_1) (by rw [← eP] at hg_11; exact hg_11)
    subst hb_13
    obtain ⟨dd_14, ii_15, gl_16, gc_17, ht_18, ht_19, ht_20, hs_21, hg_22, hgb_23, hc_24, el_25, ec_26⟩ := pg_all hI hrp.1 (show P < 12 by rw [eP]; exact clp b_1)
    refine lv_astore_n (lv' := [(2, .ref (d (10 + P))), (0, .ref h0), (1, .int p0)]) hx hb dX11_plate_15 rfl hl (by decide) rfl (fun ls hl => ?_)
    refine lv_aload_n hx hb dX11_plate_16 rfl (lv_at hl 0 rfl) ?_
    obtain ⟨kk_27, hk_28⟩ := pl_at ht_18.1 hs_21
    refine vp_callSi (va_runV (As := []) (rest := []) ⟨hx, hb, hml, hown, hts⟩ (y_cellCount l dC dI q h0 d k z f hI (d (10 + P)) (d (30 + P)) (d (50 + P)) (u.2 1 P) dd_14 ii_15 gl_16 gc_17 ht_18 hs_21 ht_19 ht_20 hg_22 hgb_23 hc_24) (cwV 0 hts gX11_plate_X9_cellCount rfl rfl rfl zh_X9_cellCount_103 ⟨Nat.le_of_ble_eq_true rfl, Nat.le_of_ble_eq_true rfl⟩) ⟨px_fb, va_recv hK hP (ci := 8) (q0 := kk_27) rfl hk_28, fun U hU hW => ⟨rfl, px_to hU hW hP hK hN hXN⟩⟩ rfl rfl hl.1 rfl (lv_room (Nat.le_of_ble_eq_true rfl)) dX11_plate_17 ⟨Nat.le_of_ble_eq_true rfl, Nat.le_of_ble_eq_true rfl⟩).run (fun r hw => ?_)
    generalize r = zr_29 at hw ⊢
    have hzr_29 := hw
    refine lv_istore_n (lv' := [(3, .int zr_29), (2, .ref (d (10 + P))), (0, .ref h0), (1, .int p0)]) hx hb dX11_plate_20 rfl hl (by decide) rfl (fun ls hl => ?_)
    refine lv_iload_n hx hb dX11_plate_21 rfl (lv_at hl 0 rfl) ?_
    refine lv_if_eq (tgt := 43) hx hb dX11_plate_22 (by decide) (fun c_30 => ?_) (fun c_30 => ?_)
    ·
      refine lv_iconst (v := (-1)) hx hb dX11_plate_43 (by decide) ?_
      refine W.widen (k := 7) (n := 505) (Nat.le_of_ble_eq_true rfl) (Nat.le_of_ble_eq_true rfl) ?_
      exact W.iret (v := (-1)) hx hb hr (fun t ht hW => ⟨⟨(-1), (k, z, f), rfl, ⟨rfl, zE_rf z, rfl, Or.inl ⟨Or.inr ⟨b_1, gl_16, gc_17, (by rw [← eP]; exact el_25), (by rw [← eP]; exact ec_26), hgb_23, Or.inl (hzr_29.symm.trans c_30)⟩, rfl, hI, hrp⟩⟩, by rw [ht]; exact hP, hD⟩, hS.F ht⟩) hS.2.2 dX11_plate_44
    ·
      refine lv_aload_n hx hb dX11_plate_25 rfl (lv_at hl 1 rfl) ?_
      obtain ⟨kk_31, hk_32⟩ := pl_at ht_18.1 hs_21
      refine vp_callSi (va_runV (As := []) (rest := []) ⟨hx, hb, hml, hown, hts⟩ (y_emptyCount l dC dI q h0 d k z f hI (d (10 + P)) (d (30 + P)) (d (50 + P)) (u.2 1 P) dd_14 ii_15 gl_16 gc_17 ht_18 hs_21 ht_19 ht_20 hg_22 hgb_23 hc_24) (cwV 0 hts gX11_plate_X9_emptyCount rfl rfl rfl zh_X9_emptyCount_104 ⟨Nat.le_of_ble_eq_true rfl, Nat.le_of_ble_eq_true rfl⟩) ⟨px_fb, va_recv hK hP (ci := 8) (q0 := kk_31) rfl hk_32, fun U hU hW => ⟨rfl, px_to hU hW hP hK hN hXN⟩⟩ rfl rfl hl.1 rfl (lv_room (Nat.le_of_ble_eq_true rfl)) dX11_plate_26 ⟨Nat.le_of_ble_eq_true rfl, Nat.le_of_ble_eq_true rfl⟩).run (fun r hw => ?_)
      generalize r = zr_33 at hw ⊢
      have hzr_33 := hw
      refine lv_if_gt (tgt := 43) hx hb dX11_plate_29 (by decide) (fun c_34 => ?_) (fun c_34 => ?_)
      ·
        refine lv_iconst (v := (-1)) hx hb dX11_plate_43 (by decide) ?_
        refine W.widen (k := 7) (n := 505) (Nat.le_of_ble_eq_true rfl) (Nat.le_of_ble_eq_true rfl) ?_
        exact W.iret (v := (-1)) hx hb hr (fun t ht hW => ⟨⟨(-1), (k, z, f), rfl, ⟨rfl, zE_rf z, rfl, Or.inl ⟨Or.inr ⟨b_1, gl_16, gc_17, (by rw [← eP]; exact el_25), (by rw [← eP]; exact ec_26), hgb_23, Or.inr (Or.inl (by rw [← hzr_33]; exact c_34))⟩, rfl, hI, hrp⟩⟩, by rw [ht]; exact hP, hD⟩, hS.F ht⟩) hS.2.2 dX11_plate_44
      ·
        refine lv_aload_n hx hb dX11_plate_32 rfl (lv_at hl 2 rfl) ?_
        refine lv_iload_n hx hb dX11_plate_33 rfl (lv_at hl 3 rfl) ?_
        obtain ⟨kk_35, hk_36⟩ := pl_at hI.2.1.1.1 hI.2.2.2.1.1
        have hFc := fr_all hD hS hA
        refine va_callq (va_runV (As := [.int p0]) (rest := []) ⟨hx, hb, hml, hown, hts⟩ (y_breachOn l dC dI q h0 d k z f hI p0 u hrp hk0 hk1 hk2 hk3 hkB hpcI s.heap.size) (cwV 1 hts gX11_plate_X11_breachOn rfl rfl rfl zh_X11_breachOn_102 ⟨Nat.le_of_ble_eq_true rfl, Nat.le_of_ble_eq_true rfl⟩) ⟨gx_fb, va_recv hK hP (ci := 10) (q0 := kk_35) rfl hk_36, fun U hU hW => ⟨rfl, by rw [hU], px_to hU hW hP hK hN hXN, hD.weaken (fun _ _ _ _ => trivial)⟩⟩ rfl rfl hl.1 rfl (lv_room (Nat.le_of_ble_eq_true rfl)) dX11_plate_34 ⟨Nat.le_of_ble_eq_true rfl, Nat.le_of_ble_eq_true rfl⟩) hS (fun q _ h => hFc q h) hFc (fun r w_37 t H1 locs ht hvm hw hB hz1 hk1 hS => ?_)
        obtain ⟨hP, hD1⟩ := hB
        rw [ht] at hP
        have hD := hD1.weaken (fun _ q _ h => hFc q.1 h)
        generalize H1 = H at hP hS ⊢
        refine W.widen (k := 4) (n := 12) (Nat.le_of_ble_eq_true rfl) (Nat.le_of_ble_eq_true rfl) ?_
        obtain ⟨b_38, bx_39, bx_40, bx_41, hr9, -, hw2, hw3, hwr, hw9, hv_42, hv_43, hbM⟩ := hw
        subst hr9
        obtain ⟨k_48, z_46, f_47⟩ := w_37
        have hP : va_P (dC, dI) vwCl (va_pl z_46.1 f_47) H := hP
        have hD : va_D A (va_pl z_46.1 f_47) := hD
        have hE_49 : zE z z_46 := hw2
        have hI : xI q h0 d k z_46 f_47 := hw3
        have ht_18 := zE_tg hE_49 ht_18
        have ht_19 := zE_tg hE_49 ht_19
        have ht_20 := zE_tg hE_49 ht_20
        have hEz : zE z z_46 := zE_tr (zE_rf z) hE_49
        have ht_45 : tg z_46 b_38 24 := hv_42
        have hbc_44 : f_47 b_38 = .inr (1, [.int bx_39, .int bx_40, .int bx_41]) := hv_43
        have hrpx : rep q d u z_46 f_47 := hwr
        have h3m : f_47 (d 3) = f (d 3) := hw9
        refine W.eq (g2 := F0 m 37 ls [.ref b_38]) rfl ?_
        obtain ⟨kk_50, hk_51⟩ := pl_at ht_45.1 hbc_44
        refine va_get (D := (dC, dI)) (ci := 1) (v := .int bx_39) (C := RX1) (T := TX1) (N := 3) hx hb hts zl_X11_plate_X1 hown hK hP kk_50 hk_51 rfl 0 (by decide) (hts (.fieldLink RX11 201 "PageOne$Breach" "kind" "I") (zat q_wsX11_plate k_wsX11_plate 748 rfl (by decide +kernel))) (fun _ h9 => h9) rfl dX11_plate_37 ?_
        refine lv_if_eq (tgt := 45) hx hb dX11_plate_40 (by decide) (fun c_52 => ?_) (fun c_52 => ?_)
        ·
          have hP9 : P < 12 := by rw [eP]; exact clp b_1
          refine lv_aload_n hx hb dX11_plate_45 rfl (lv_at hl 2 rfl) ?_
          obtain ⟨kk_53, hk_54⟩ := pl_at hI.2.1.1.1 hI.2.2.2.1.1
          refine va_get (D := (dC, dI)) (ci := 10) (v := .ref (d 1)) (C := RX11) (T := TX11) (N := 9) hx hb hts zl_X11_plate_X11 hown hK hP kk_53 hk_54 rfl 1 (by decide) (hts (.fieldLink RX11 15 "PageOne" "plates" "[LPageOne$Sheet;") (zat q_wsX11_plate k_wsX11_plate 113 rfl (by decide +kernel))) (fun _ h9 => h9) rfl dX11_plate_46 ?_
          refine lv_iload_n hx hb dX11_plate_49 rfl (lv_at hl 3 rfl) ?_
          rcases rp_01 hrpx.2.1 P hP9 with h40 | h40
          ·
            obtain ⟨gn9, hgn, hnn⟩ := pl_none hrpx.2.1 hP9 h40
            obtain ⟨kk_55, hk_56⟩ := pl_at hI.2.1.2.2.1.1 hgn
            refine va_aldq hx hb hK hP kk_55 2 hk_56 rfl (vin b_1 (by decide)) dX11_plate_50 ?_
            rw [show gn9 (p0 : Int32).toNatClampNeg = none from by rw [← eP]; exact hnn]
            refine W.eq (g2 := F0 m 51 ls [.null]) rfl ?_
            have hoB : oK z_46 f_47 f_47 := fun _ _ => rfl
            have hEb : zE z_46 z_46 := zE_rf _
            have h3b := h3m
            refine lv_ifnonnullN hx hb dX11_plate_51 ?_
            refine lv_aload_n hx hb dX11_plate_54 rfl (lv_at hl 2 rfl) ?_
            obtain ⟨kk_57, hk_58⟩ := pl_at hI.2.1.1.1 hI.2.2.2.1.1
            refine va_get (D := (dC, dI)) (ci := 10) (v := .ref (d 1)) (C := RX11) (T := TX11) (N := 9) hx hb hts zl_X11_plate_X11 hown hK hP kk_57 hk_58 rfl 1 (by decide) (hts (.fieldLink RX11 15 "PageOne" "plates" "[LPageOne$Sheet;") (zat q_wsX11_plate k_wsX11_plate 113 rfl (by decide +kernel))) (fun _ h9 => h9) rfl dX11_plate_55 ?_
            refine lv_iload_n hx hb dX11_plate_58 rfl (lv_at hl 3 rfl) ?_
            refine va_new (ci := 8) (fs := [.null, .null, .int 0, .int 0, .int 0]) (C := RX9) (T := TX9) (N := 5) hx hb hts zl_X11_plate_X9 tyX9 tyX9_ok hown (hts (.classLink RX11 9 RX9) (zat q_wsX11_plate k_wsX11_plate 76 rfl (by decide +kernel))) (hts (.instantiable RX9 5) (zat q_wsX11_plate k_wsX11_plate 82 rfl (by decide +kernel))) (hts (.initialized RX9) (zat q_wsX11_plate k_wsX11_plate 54 rfl (by decide +kernel))) hK hP hD hS hA rfl nwX9 (Nat.le_of_ble_eq_true rfl) (Nat.le_of_ble_eq_true rfl) dX11_plate_59 (fun q_59 H hPn hDn hS => ?_)
            have hP := vaP_l hPn
            refine W.widen (k := 5) (n := 17) (Nat.le_of_ble_eq_true rfl) (Nat.le_of_ble_eq_true rfl) ?_
            refine lv_dup hx hb dX11_plate_62 rfl ?_
            have hPc := vaP_r hPn
            have hDc := vaD_r hDn
            have hFc := fr_part hDn hS hA
            refine va_callv (va_runI (As := []) (rest := [.ref q_59, .int p0, .ref (d 1)]) ⟨hx, hb, hml, hown, hts⟩ (xn_Sheet l dC dI q_59 (q 0) H.size) (cwI 0 hts gX11_plate_X9_init rfl rfl rfl (hts (.initialized RX9) (zat q_wsX11_plate k_wsX11_plate 54 rfl (by decide +kernel))) (hts (.methodLink RX11 47 yX9_init) (zat q_wsX11_plate k_wsX11_plate 83 rfl (by decide +kernel))) (hts (.instanceMethod yX9_init) (zat q_wsX11_plate k_wsX11_plate 84 rfl (by decide +kernel))) rfl zh_X9_init_106 ⟨Nat.le_of_ble_eq_true rfl, Nat.le_of_ble_eq_true rfl⟩) ⟨gw_fb, fun U hU hW => ⟨rfl, by rw [hU], pw_to hU hW hPc (hK.sub (tys' := [(q 0, .int)]) [0] rfl) hN, hDc.weaken (fun _ _ _ _ => trivial)⟩⟩ rfl rfl hl.1 rfl (lv_room (Nat.le_of_ble_eq_true rfl)) dX11_plate_63 ⟨Nat.le_of_ble_eq_true rfl, Nat.le_of_ble_eq_true rfl⟩) hS (fun q _ h => hFc q h) hFc (fun u9 t H1 locs ht hvm hw hB hz1 hk1 hS => ?_)
            obtain ⟨qa_60, qa_61, hP1, hD1⟩ := hB
            rw [ht] at hP1
            obtain ⟨hP, hD⟩ := va_joinQ (X := [(q_59, .inr (8, [.null, .null, .int 0, .int 0, .int 0]))]) (cx := [(q_59, .inr (8, [.null, .null, .int 0, .int 0, .int 0]))]) (wr := []) (w1 := [(qa_60, aI (q 0) 8 (fun _ => 0)), (qa_61, aI (q 0) 480 (fun _ => (-2))), (q_59, .inr (8, [.ref qa_60, .ref qa_61, .int 100, .int (-1), .int (-1)]))]) (pl := va_pl z_46.1 f_47) (vaP_swap hPn) (vaD_rotR hDn) [0] [] rfl rfl rfl (fun i hi => absurd hi List.not_mem_nil) hk1 hFc hP1 hD1
            generalize H1 = H at hP hS ⊢
            obtain ⟨hnm_62, hP, hD⟩ := pushC hP hD
            obtain ⟨z_63, ez_63⟩ : ∃ y : gS, y = pz z_46 qa_60 (8, 1020 + P, []) := ⟨_, rfl⟩
            obtain ⟨f_64, ef_64⟩ : ∃ y : xF, y = va_up f_47 qa_60 (aI (q 0) 8 (fun _ => 0)) := ⟨_, rfl⟩
            have hE_65 : zE z_46 z_63 := by rw [ez_63]; exact pz_E hnm_62 _
            have hI : xI q h0 d k z_63 f_64 := by rw [ez_63, ef_64]; exact x_push hI hnm_62 (Or.inl (by decide : (8 : Nat) < 10)) (cO_8 (by rw [pz_s]) ⟨_, rfl, fun _ _ => b00⟩)
            rw [show z_46.1 ++ [qa_60] = z_63.1 from by rw [ez_63]; rfl, ← ef_64] at hP hD
            have ht_18 := zE_tg hE_65 ht_18
            have ht_19 := zE_tg hE_65 ht_19
            have ht_20 := zE_tg hE_65 ht_20
            have ht_45 := zE_tg hE_65 ht_45
            have ht_66 : tg z_63 qa_60 8 := by rw [ez_63]; exact pz_t _ _ _
            have hEz : zE z z_63 := zE_tr hEz hE_65
            have hc_67 : nC z_63 f_64 qa_60 8 (1020 + P) (aI (q 0) 8 (fun _ => 0)) := by rw [ez_63, ef_64]; exact nC_new
            have hfr8 : qa_60 ∉ z_46.1 := fun h9 => hnm_62 (hEb _ h9).1
            have hoB : oK z_46 f_47 f_64 := by rw [ef_64]; exact oK_push hoB hEb hnm_62
            have hEb : zE z_46 z_63 := zE_tr hEb hE_65
            have h3m : f_64 (d 3) = f (d 3) := (hoB _ hrpx.2.2.2.2.2.2.2.1.1.1).trans h3b
            obtain ⟨hnm_68, hP, hD⟩ := pushC hP hD
            obtain ⟨z_69, ez_69⟩ : ∃ y : gS, y = pz z_63 qa_61 (9, 1040 + P, []) := ⟨_, rfl⟩
            obtain ⟨f_70, ef_70⟩ : ∃ y : xF, y = va_up f_64 qa_61 (aI (q 0) 480 (fun _ => (-2))) := ⟨_, rfl⟩
            have hE_71 : zE z_63 z_69 := by rw [ez_69]; exact pz_E hnm_68 _
            have hI : xI q h0 d k z_69 f_70 := by rw [ez_69, ef_70]; exact x_push hI hnm_68 (Or.inl (by decide : (9 : Nat) < 10)) (cO_9 (by rw [pz_s]) ⟨_, rfl⟩)
            rw [show z_63.1 ++ [qa_61] = z_69.1 from by rw [ez_69]; rfl, ← ef_70] at hP hD
            have ht_18 := zE_tg hE_71 ht_18
            have ht_19 := zE_tg hE_71 ht_19
            have ht_20 := zE_tg hE_71 ht_20
            have ht_45 := zE_tg hE_71 ht_45
            have ht_66 := zE_tg hE_71 ht_66
            have ht_72 : tg z_69 qa_61 9 := by rw [ez_69]; exact pz_t _ _ _
            have hEz : zE z z_69 := zE_tr hEz hE_71
            have hc_67 : nC z_69 f_70 qa_60 8 (1020 + P) (aI (q 0) 8 (fun _ => 0)) := by rw [ez_69, ef_70]; exact nC_push hc_67 hnm_68
            have hc_73 : nC z_69 f_70 qa_61 9 (1040 + P) (aI (q 0) 480 (fun _ => (-2))) := by rw [ez_69, ef_70]; exact nC_new
            have hfr9 : qa_61 ∉ z_46.1 := fun h9 => hnm_68 (hEb _ h9).1
            have hoB : oK z_46 f_47 f_70 := by rw [ef_70]; exact oK_push hoB hEb hnm_68
            have hEb : zE z_46 z_69 := zE_tr hEb hE_71
            have h3m : f_70 (d 3) = f (d 3) := (hoB _ hrpx.2.2.2.2.2.2.2.1.1.1).trans h3b
            obtain ⟨hnm_74, hP, hD⟩ := pushC hP hD
            obtain ⟨z_75, ez_75⟩ : ∃ y : gS, y = pz z_69 q_59 (7, 1000 + P, []) := ⟨_, rfl⟩
            obtain ⟨f_76, ef_76⟩ : ∃ y : xF, y = va_up f_70 q_59 (.inr (8, [.ref qa_60, .ref qa_61, .int 100, .int (-1), .int (-1)])) := ⟨_, rfl⟩
            have hE_77 : zE z_69 z_75 := by rw [ez_75]; exact pz_E hnm_74 _
            have hI : xI q h0 d k z_75 f_76 := by rw [ez_75, ef_76]; exact x_push hI hnm_74 (Or.inl (by decide : (7 : Nat) < 10)) (cO_7 (by rw [pz_s]) ⟨_, _, _, _, _, rfl, zE_tg (pz_E hnm_74 _) ht_66, zE_tg (pz_E hnm_74 _) ht_72⟩)
            rw [show z_69.1 ++ [q_59] = z_75.1 from by rw [ez_75]; rfl, ← ef_76] at hP hD
            have ht_18 := zE_tg hE_77 ht_18
            have ht_19 := zE_tg hE_77 ht_19
            have ht_20 := zE_tg hE_77 ht_20
            have ht_45 := zE_tg hE_77 ht_45
            have ht_66 := zE_tg hE_77 ht_66
            have ht_72 := zE_tg hE_77 ht_72
            have ht_78 : tg z_75 q_59 7 := by rw [ez_75]; exact pz_t _ _ _
            have hEz : zE z z_75 := zE_tr hEz hE_77
            have hc_67 : nC z_75 f_76 qa_60 8 (1020 + P) (aI (q 0) 8 (fun _ => 0)) := by rw [ez_75, ef_76]; exact nC_push hc_67 hnm_74
            have hc_73 : nC z_75 f_76 qa_61 9 (1040 + P) (aI (q 0) 480 (fun _ => (-2))) := by rw [ez_75, ef_76]; exact nC_push hc_73 hnm_74
            have hc_79 : nC z_75 f_76 q_59 7 (1000 + P) (.inr (8, [.ref qa_60, .ref qa_61, .int 100, .int (-1), .int (-1)])) := by rw [ez_75, ef_76]; exact nC_new
            have hfr7 : q_59 ∉ z_46.1 := fun h9 => hnm_74 (hEb _ h9).1
            have hoB : oK z_46 f_47 f_76 := by rw [ef_76]; exact oK_push hoB hEb hnm_74
            have hEb : zE z_46 z_75 := zE_tr hEb hE_77
            have h3m : f_76 (d 3) = f (d 3) := (hoB _ hrpx.2.2.2.2.2.2.2.1.1.1).trans h3b
            refine W.widen (k := 7) (n := 505) (Nat.le_of_ble_eq_true rfl) (Nat.le_of_ble_eq_true rfl) ?_
            refine W.eq (g2 := F0 m 66 ls [.ref q_59, .int p0, .ref (d 1)]) rfl ?_
            obtain ⟨g_80, hs_81, hg_82⟩ := x_pl hI hI.2.1.2.2.1
            have hP : va_P (dC, dI) vwCl (va_pl z_75.1 f_76) H := hP
            have hD : va_D A (va_pl z_75.1 f_76) := hD
            obtain ⟨kk_83, hk_84⟩ := pl_at hI.2.1.2.2.1.1 hs_81
            obtain ⟨la_85, ca_86, m_87, dd_88, ii_89, hs_90, ht_91, ht_92⟩ := x_sh hI ht_78
            obtain ⟨kk_93, hk_94⟩ := pl_at ht_78.1 hs_90
            have hD0 := hD
            refine va_astq hx hb hK hP hD hS kk_83 2 kk_93 8 hk_84 rfl hk_94 rfl (vin b_1 (by decide)) dX11_plate_66 (fun H locs hP hD hS => ?_)
            rw [pl_set hD0 hI.2.1.2.2.1.1 hs_81 hk_84] at hP hD
            obtain ⟨f_95, ef_95⟩ : ∃ y : xF, y = va_up f_76 (d 1) (aR (q 2) 12 (va_up g_80 (p0 : Int32).toNatClampNeg (some q_59))) := ⟨_, rfl⟩
            have hI : xI q h0 d k z_75 f_95 := by rw [ef_95]; exact x_up hI hI.2.1.2.2.1 (by decide) (cO_3 hI.2.1.2.2.1.2 ⟨_, rfl, ty_up hg_82 (ty_s ht_78)⟩)
            have hP : va_P (dC, dI) vwCl (va_pl z_75.1 f_95) H := by rw [ef_95]; exact hP
            have hD : va_D A (va_pl z_75.1 f_95) := by rw [ef_95]; exact hD
            have hp_96 : f_95 (d 1) = aR (q 2) 12 (va_up g_80 (p0 : Int32).toNatClampNeg (some q_59)) := by rw [ef_95]; exact up_s
            have hp_97 : (va_up g_80 (p0 : Int32).toNatClampNeg (some q_59)) (p0 : Int32).toNatClampNeg = some q_59 := if_pos rfl
            have eg9 : g_80 = gn9 := (aR_inj (hs_81.symm.trans ((hoB _ hrpx.2.2.2.2.2.1.1.1).trans hgn))).2
            have hc_67 : nC z_75 f_95 qa_60 8 (1020 + P) (aI (q 0) 8 (fun _ => 0)) := by rw [ef_95]; exact nC_up hc_67 hI.2.1.2.2.1 (by decide)
            have hc_73 : nC z_75 f_95 qa_61 9 (1040 + P) (aI (q 0) 480 (fun _ => (-2))) := by rw [ef_95]; exact nC_up hc_73 hI.2.1.2.2.1 (by decide)
            have hc_79 : nC z_75 f_95 q_59 7 (1000 + P) (.inr (8, [.ref qa_60, .ref qa_61, .int 100, .int (-1), .int (-1)])) := by rw [ef_95]; exact nC_up hc_79 hI.2.1.2.2.1 (by decide)
            have hfB : fK d z_46 f_47 f_95 (fun x => x = 1 ∨ x = 1000 + P ∨ x = 1020 + P ∨ x = 1040 + P) := by rw [ef_95]; exact fK_up (oK_fK hoB _) hrpx.2.2.2.2.2.1 (by decide) (Or.inl rfl)
            have hPgB : rPg q d u z_75 f_95 := rPg_fr hrpx.1 hEb (fun _ _ => rfl) hfB (fun x hx _ _ _ _ => by omega) hrpx.2.2.2.2.1 rfl rfl rfl
            have h3m : f_95 (d 3) = f (d 3) := by rw [ef_95, up_o (nO_ne hrpx.2.2.2.2.2.2.2.1 hrpx.2.2.2.2.2.1 (by decide))]; exact h3m
            obtain ⟨dd_98, ii_99, gl_100, gc_101, ht_102, ht_103, ht_104, hs_105, hg_106, hgb_107, hc_108, el_109, ec_110⟩ := pg_all hI (And.intro hPgB trivial).1 hP9
            refine lv_aload_n hx hb dX11_plate_67 rfl (lv_at hl 2 rfl) ?_
            obtain ⟨kk_111, hk_112⟩ := pl_at hI.2.1.1.1 hI.2.2.2.1.1
            refine va_get (D := (dC, dI)) (ci := 10) (v := .ref (d 1)) (C := RX11) (T := TX11) (N := 9) hx hb hts zl_X11_plate_X11 hown hK hP kk_111 hk_112 rfl 1 (by decide) (hts (.fieldLink RX11 15 "PageOne" "plates" "[LPageOne$Sheet;") (zat q_wsX11_plate k_wsX11_plate 113 rfl (by decide +kernel))) (fun _ h9 => h9) rfl dX11_plate_68 ?_
            refine lv_iload_n hx hb dX11_plate_71 rfl (lv_at hl 3 rfl) ?_
            obtain ⟨kk_113, hk_114⟩ := pl_at hI.2.1.2.2.1.1 hp_96
            refine va_aldq hx hb hK hP kk_113 2 hk_114 rfl (vin b_1 (by decide)) dX11_plate_72 ?_
            rw [hp_97]
            refine W.eq (g2 := F0 m 73 ls [.ref q_59]) rfl ?_
            refine lv_aload_n hx hb dX11_plate_73 rfl (lv_at hl 1 rfl) ?_
            obtain ⟨kk_115, hk_116⟩ := pl_at hc_79.1.1 hc_79.2.2
            have hFc := fr_all hD hS hA
            refine va_callv (va_runV (As := [.ref (d (10 + P))]) (rest := []) ⟨hx, hb, hml, hown, hts⟩ (y_copyFrom l dC dI q h0 d k z_75 f_95 hI q_59 qa_60 qa_61 100 (-1) (-1) (fun _ => 0) (fun _ => (-2)) ht_78 hc_79.2.2 hc_67.1 hc_73.1 hc_67.2.2 (fun _ _ => b00) hc_73.2.2 (d (10 + P)) (d (30 + P)) (d (50 + P)) (u.2 1 P) dd_98 ii_99 gl_100 gc_101 ht_102 hs_105 ht_103 ht_104 hg_106 hgb_107 hc_108 H.size) (cwV 1 hts gX11_plate_X9_copyFrom rfl rfl rfl zh_X9_copyFrom_105 ⟨Nat.le_of_ble_eq_true rfl, Nat.le_of_ble_eq_true rfl⟩) ⟨gx_fb, va_recv hK hP (ci := 8) (q0 := kk_115) rfl hk_116, fun U hU hW => ⟨rfl, by rw [hU], px_to hU hW hP hK hN hXN, hD.weaken (fun _ _ _ _ => trivial)⟩⟩ rfl rfl hl.1 rfl (lv_room (Nat.le_of_ble_eq_true rfl)) dX11_plate_74 ⟨Nat.le_of_ble_eq_true rfl, Nat.le_of_ble_eq_true rfl⟩) hS (fun q _ h => hFc q h) hFc (fun w_117 t H1 locs ht hvm hw hB hz1 hk1 hS => ?_)
            obtain ⟨hP, hD1⟩ := hB
            rw [ht] at hP
            rw [hw.2.1] at hP hD1
            have hD := hD1.weaken (fun _ q _ h => hFc q.1 h)
            have hI := hw.2.2.1
            have hw0 := hw
            generalize w_117.2.2 = f_118 at hP hD hI hw0
            generalize H1 = H at hP hS ⊢
            have hcf := hw0.2.2.2
            have hp_119 : f_118 (d 1) = aR (q 2) 12 (va_up g_80 (p0 : Int32).toNatClampNeg (some q_59)) := by rw [hcf]; unfold s_copy_f; rw [up_o (tg_ne hI.2.1.2.2.1 hc_73.1 (by decide)), up_o (tg_ne hI.2.1.2.2.1 hc_67.1 (by decide))]; exact hp_96
            have hs_120 : f_118 q_59 = .inr (8, [.ref qa_60, .ref qa_61, .int 100, .int (-1), .int (-1)]) := by rw [hcf]; unfold s_copy_f; rw [up_o (tg_ne ht_78 hc_73.1 (by decide)), up_o (tg_ne ht_78 hc_67.1 (by decide))]; exact hc_79.2.2
            have h3m : f_118 (d 3) = f (d 3) := by rw [hcf]; unfold s_copy_f; rw [up_o (tg_ne hI.2.1.2.2.2.2.1 hc_73.1 (by decide)), up_o (tg_ne hI.2.1.2.2.2.2.1 hc_67.1 (by decide))]; exact h3m
            refine lv_aload_n hx hb dX11_plate_77 rfl (lv_at hl 2 rfl) ?_
            obtain ⟨kk_121, hk_122⟩ := pl_at hI.2.1.1.1 hI.2.2.2.1.1
            refine va_get (D := (dC, dI)) (ci := 10) (v := .ref (d 1)) (C := RX11) (T := TX11) (N := 9) hx hb hts zl_X11_plate_X11 hown hK hP kk_121 hk_122 rfl 1 (by decide) (hts (.fieldLink RX11 15 "PageOne" "plates" "[LPageOne$Sheet;") (zat q_wsX11_plate k_wsX11_plate 113 rfl (by decide +kernel))) (fun _ h9 => h9) rfl dX11_plate_78 ?_
            refine lv_iload_n hx hb dX11_plate_81 rfl (lv_at hl 3 rfl) ?_
            obtain ⟨kk_123, hk_124⟩ := pl_at hI.2.1.2.2.1.1 hp_119
            refine va_aldq hx hb hK hP kk_123 2 hk_124 rfl (vin b_1 (by decide)) dX11_plate_82 ?_
            rw [hp_97]
            refine W.eq (g2 := F0 m 83 ls [.ref q_59]) rfl ?_
            refine lv_aload_n hx hb dX11_plate_83 rfl (lv_at hl 2 rfl) ?_
            obtain ⟨kk_125, hk_126⟩ := pl_at hI.2.1.1.1 hI.2.2.2.1.1
            refine va_get (D := (dC, dI)) (ci := 10) (v := .int (k 2)) (C := RX11) (T := TX11) (N := 9) hx hb hts zl_X11_plate_X11 hown hK hP kk_125 hk_126 rfl 7 (by decide) (hts (.fieldLink RX11 41 "PageOne" "today" "I") (zat q_wsX11_plate k_wsX11_plate 119 rfl (by decide +kernel))) (fun _ h9 => h9) rfl dX11_plate_84 ?_
            refine lv_topi (fun x_127 ex_127 => ?_)
            obtain ⟨kk_128, hk_129⟩ := pl_at hc_79.1.1 hs_120
            have hD0 := hD
            refine va_put (D := (dC, dI)) (ci := 8) (v := .int x_127) (ty := .int) (C := RX9) (T := TX9) (N := 5) hx hb hts zl_X11_plate_X9 tyX9 tyX9_ok nmX9 hown hK hP hD hS kk_128 hk_129 rfl 3 (by decide) (hts (.fieldLink RX11 210 "PageOne$Sheet" "day" "I") (zat q_wsX11_plate k_wsX11_plate 96 rfl (by decide +kernel))) (fun _ h9 => h9) rfl (tyX9_ok 3 (by decide)) rfl rfl (Nat.le_of_ble_eq_true rfl) dX11_plate_87 (fun H locs hP hD hS => ?_)
            rw [pl_set hD0 hc_79.1.1 hs_120 hk_129] at hP hD
            obtain ⟨f_130, ef_130⟩ : ∃ y : xF, y = va_up f_118 q_59 (.inr (8, [.ref qa_60, .ref qa_61, .int 100, .int x_127, .int (-1)])) := ⟨_, rfl⟩
            have hI : xI q h0 d k z_75 f_130 := by rw [ef_130]; exact x_up hI ht_78 (by decide) (cO_7 ht_78.2 ⟨_, _, _, _, _, rfl, hc_67.1, hc_73.1⟩)
            have hP : va_P (dC, dI) vwCl (va_pl z_75.1 f_130) H := by rw [ef_130]; exact hP
            have hD : va_D A (va_pl z_75.1 f_130) := by rw [ef_130]; exact hD
            have hp_131 : f_130 (d 1) = aR (q 2) 12 (va_up g_80 (p0 : Int32).toNatClampNeg (some q_59)) := by rw [ef_130, up_o (tg_ne hI.2.1.2.2.1 ht_78 (by decide))]; exact hp_119
            have hs_132 : f_130 q_59 = .inr (8, [.ref qa_60, .ref qa_61, .int 100, .int x_127, .int (-1)]) := by rw [ef_130]; exact up_s
            have h3m : f_130 (d 3) = f (d 3) := by rw [ef_130, up_o (tg_ne hI.2.1.2.2.2.2.1 ht_78 (by decide))]; exact h3m
            refine lv_aload_n hx hb dX11_plate_90 rfl (lv_at hl 2 rfl) ?_
            obtain ⟨kk_133, hk_134⟩ := pl_at hI.2.1.1.1 hI.2.2.2.1.1
            refine va_get (D := (dC, dI)) (ci := 10) (v := .ref (d 1)) (C := RX11) (T := TX11) (N := 9) hx hb hts zl_X11_plate_X11 hown hK hP kk_133 hk_134 rfl 1 (by decide) (hts (.fieldLink RX11 15 "PageOne" "plates" "[LPageOne$Sheet;") (zat q_wsX11_plate k_wsX11_plate 113 rfl (by decide +kernel))) (fun _ h9 => h9) rfl dX11_plate_91 ?_
            refine lv_iload_n hx hb dX11_plate_94 rfl (lv_at hl 3 rfl) ?_
            obtain ⟨kk_135, hk_136⟩ := pl_at hI.2.1.2.2.1.1 hp_131
            refine va_aldq hx hb hK hP kk_135 2 hk_136 rfl (vin b_1 (by decide)) dX11_plate_95 ?_
            rw [hp_97]
            refine W.eq (g2 := F0 m 96 ls [.ref q_59]) rfl ?_
            refine lv_aload_n hx hb dX11_plate_96 rfl (lv_at hl 2 rfl) ?_
            obtain ⟨kk_137, hk_138⟩ := pl_at hI.2.1.1.1 hI.2.2.2.1.1
            refine va_get (D := (dC, dI)) (ci := 10) (v := .int (k 3)) (C := RX11) (T := TX11) (N := 9) hx hb hts zl_X11_plate_X11 hown hK hP kk_137 hk_138 rfl 8 (by decide) (hts (.fieldLink RX11 44 "PageOne" "editionNow" "I") (zat q_wsX11_plate k_wsX11_plate 120 rfl (by decide +kernel))) (fun _ h9 => h9) rfl dX11_plate_97 ?_
            refine lv_topi (fun x_139 ex_139 => ?_)
            obtain ⟨kk_140, hk_141⟩ := pl_at hc_79.1.1 hs_132
            have hD0 := hD
            refine va_put (D := (dC, dI)) (ci := 8) (v := .int x_139) (ty := .int) (C := RX9) (T := TX9) (N := 5) hx hb hts zl_X11_plate_X9 tyX9 tyX9_ok nmX9 hown hK hP hD hS kk_140 hk_141 rfl 4 (by decide) (hts (.fieldLink RX11 213 "PageOne$Sheet" "edition" "I") (zat q_wsX11_plate k_wsX11_plate 98 rfl (by decide +kernel))) (fun _ h9 => h9) rfl (tyX9_ok 4 (by decide)) rfl rfl (Nat.le_of_ble_eq_true rfl) dX11_plate_100 (fun H locs hP hD hS => ?_)
            rw [pl_set hD0 hc_79.1.1 hs_132 hk_141] at hP hD
            obtain ⟨f_142, ef_142⟩ : ∃ y : xF, y = va_up f_130 q_59 (.inr (8, [.ref qa_60, .ref qa_61, .int 100, .int x_127, .int x_139])) := ⟨_, rfl⟩
            have hI : xI q h0 d k z_75 f_142 := by rw [ef_142]; exact x_up hI ht_78 (by decide) (cO_7 ht_78.2 ⟨_, _, _, _, _, rfl, hc_67.1, hc_73.1⟩)
            have hP : va_P (dC, dI) vwCl (va_pl z_75.1 f_142) H := by rw [ef_142]; exact hP
            have hD : va_D A (va_pl z_75.1 f_142) := by rw [ef_142]; exact hD
            have hp_143 : f_142 (d 1) = aR (q 2) 12 (va_up g_80 (p0 : Int32).toNatClampNeg (some q_59)) := by rw [ef_142, up_o (tg_ne hI.2.1.2.2.1 ht_78 (by decide))]; exact hp_131
            have hs_144 : f_142 q_59 = .inr (8, [.ref qa_60, .ref qa_61, .int 100, .int x_127, .int x_139]) := by rw [ef_142]; exact up_s
            have h3m : f_142 (d 3) = f (d 3) := by rw [ef_142, up_o (tg_ne hI.2.1.2.2.2.2.1 ht_78 (by decide))]; exact h3m
            refine lv_iload_n hx hb dX11_plate_103 rfl (lv_at hl 0 rfl) ?_
            exact W.iret (v := zr_29) hx hb hr (fun t ht hW => ⟨⟨zr_29, (k, z_75, f_142), rfl, ⟨rfl, hEz, h3m, Or.inr ⟨⟨b_1, gl_16, gc_17, (by rw [← eP]; exact el_25), (by rw [← eP]; exact ec_26), hgb_23, hzr_29, c_30, (fun h9 => c_34 (by rw [hzr_33]; exact h9)), bx_40, bx_41, (by rw [c_52] at hbM; exact hbM)⟩, (dP d P q_59 qa_60 qa_61), fun x hx => dP_no (by omega) (by omega) (by omega), xI_d (fun x hx => dP_no (by omega) (by omega) (by omega)) hI, fun w9 hw9 => rep_plate (f2 := f_142) (d2 := (dP d P q_59 qa_60 qa_61)) hrpx hP9 hEb (fun x h1 h2 h3 => dP_no h1 h2 h3) (by rw [ef_142, ef_130, hcf]; unfold s_copy_f; exact fK_fresh (fK_fresh (fK_fresh (fK_fresh hfB hfr8) hfr9) hfr7) hfr7) hgn hp_143 (by rw [(dP_at (d := d) (P := P) (a7 := q_59) (a8 := qa_60) (a9 := qa_61)).1, eP]; exact if_pos rfl) (fun j hj hjP => (if_neg (by rw [← eP]; exact hjP)).trans (by rw [eg9])) ⟨by rw [(dP_at (d := d) (P := P) (a7 := q_59) (a8 := qa_60) (a9 := qa_61)).1]; exact hc_79.1, by rw [(dP_at (d := d) (P := P) (a7 := q_59) (a8 := qa_60) (a9 := qa_61)).1]; exact hc_79.2.1, by decide⟩ ⟨by rw [(dP_at (d := d) (P := P) (a7 := q_59) (a8 := qa_60) (a9 := qa_61)).2.1]; exact hc_67.1, by rw [(dP_at (d := d) (P := P) (a7 := q_59) (a8 := qa_60) (a9 := qa_61)).2.1]; exact hc_67.2.1, by decide⟩ ⟨by rw [(dP_at (d := d) (P := P) (a7 := q_59) (a8 := qa_60) (a9 := qa_61)).2.2]; exact hc_73.1, by rw [(dP_at (d := d) (P := P) (a7 := q_59) (a8 := qa_60) (a9 := qa_61)).2.2]; exact hc_73.2.1, by decide⟩ (by rw [(dP_at (d := d) (P := P) (a7 := q_59) (a8 := qa_60) (a9 := qa_61)).1, (dP_at (d := d) (P := P) (a7 := q_59) (a8 := qa_60) (a9 := qa_61)).2.1, (dP_at (d := d) (P := P) (a7 := q_59) (a8 := qa_60) (a9 := qa_61)).2.2, ← hk2, ← hk3, ← ex_127, ← ex_139]; exact hs_144) ⟨(va_cpy gl_100 (fun _ => 0) (0 : Int32).toNatClampNeg (0 : Int32).toNatClampNeg (8 : Int32).toNatClampNeg), by rw [(dP_at (d := d) (P := P) (a7 := q_59) (a8 := qa_60) (a9 := qa_61)).2.1]; exact (by rw [ef_142, up_o (tg_ne hc_67.1 ht_78 (by decide)), ef_130, up_o (tg_ne hc_67.1 ht_78 (by decide)), hcf]; unfold s_copy_f; rw [up_o (tg_ne hc_67.1 hc_73.1 (by decide)), up_s]), (fun t ht => (cpy8 t ht 8 rfl).trans (el_109 t ht))⟩ ⟨(va_cpy gc_101 (fun _ => (-2)) (0 : Int32).toNatClampNeg (0 : Int32).toNatClampNeg (480 : Int32).toNatClampNeg), by rw [(dP_at (d := d) (P := P) (a7 := q_59) (a8 := qa_60) (a9 := qa_61)).2.2]; exact (by rw [ef_142, up_o (tg_ne hc_73.1 ht_78 (by decide)), ef_130, up_o (tg_ne hc_73.1 ht_78 (by decide)), hcf]; unfold s_copy_f; rw [up_s]), (fun t ht => (cpy8 t ht 480 rfl).trans (ec_110 t ht))⟩ (by rw [eP]; exact hw9)⟩⟩, by rw [ht]; exact hP, hD⟩, hS.F ht⟩) hS.2.2 dX11_plate_104
          ·
            obtain ⟨dd_145, ii_146, gl_147, gc_148, ht_149, ht_150, ht_151, hs_152, hg_153, hgb_154, hc_155, el_156, ec_157⟩ := pg_all hI hrpx.1 hP9
            obtain ⟨m_158, gl_159, gc_160, gp_161, hp_162, hp_163, ht_164, ht_165, ht_166, hs_167, hg_168, hgb_169, hc_170, el_171, ec_172⟩ := pl_all hI hrpx.2.1 hP9 h40
            have hgp9 : gp_161 (p0 : Int32).toNatClampNeg = some (d (1000 + P)) := by rw [← eP]; exact hp_163
            obtain ⟨kk_173, hk_174⟩ := pl_at hI.2.1.2.2.1.1 hp_162
            refine va_aldq hx hb hK hP kk_173 2 hk_174 rfl (vin b_1 (by decide)) dX11_plate_50 ?_
            rw [hgp9]
            refine W.eq (g2 := F0 m 51 ls [.ref (d (1000 + P))]) rfl ?_
            refine lv_ifnonnull (tgt := 67) hx hb dX11_plate_51 (by decide) ?_
            refine lv_aload_n hx hb dX11_plate_67 rfl (lv_at hl 2 rfl) ?_
            obtain ⟨kk_175, hk_176⟩ := pl_at hI.2.1.1.1 hI.2.2.2.1.1
            refine va_get (D := (dC, dI)) (ci := 10) (v := .ref (d 1)) (C := RX11) (T := TX11) (N := 9) hx hb hts zl_X11_plate_X11 hown hK hP kk_175 hk_176 rfl 1 (by decide) (hts (.fieldLink RX11 15 "PageOne" "plates" "[LPageOne$Sheet;") (zat q_wsX11_plate k_wsX11_plate 113 rfl (by decide +kernel))) (fun _ h9 => h9) rfl dX11_plate_68 ?_
            refine lv_iload_n hx hb dX11_plate_71 rfl (lv_at hl 3 rfl) ?_
            obtain ⟨kk_177, hk_178⟩ := pl_at hI.2.1.2.2.1.1 hp_162
            refine va_aldq hx hb hK hP kk_177 2 hk_178 rfl (vin b_1 (by decide)) dX11_plate_72 ?_
            rw [hgp9]
            refine W.eq (g2 := F0 m 73 ls [.ref (d (1000 + P))]) rfl ?_
            refine lv_aload_n hx hb dX11_plate_73 rfl (lv_at hl 1 rfl) ?_
            obtain ⟨kk_179, hk_180⟩ := pl_at ht_164.1 hs_167
            have hFc := fr_all hD hS hA
            refine va_callv (va_runV (As := [.ref (d (10 + P))]) (rest := []) ⟨hx, hb, hml, hown, hts⟩ (y_copyFrom l dC dI q h0 d k z_46 f_47 hI (d (1000 + P)) (d (1020 + P)) (d (1040 + P)) m_158 (u.2 41 P) (u.2 42 P) gl_159 gc_160 ht_164 hs_167 ht_165 ht_166 hg_168 hgb_169 hc_170 (d (10 + P)) (d (30 + P)) (d (50 + P)) (u.2 1 P) dd_145 ii_146 gl_147 gc_148 ht_149 hs_152 ht_150 ht_151 hg_153 hgb_154 hc_155 H.size) (cwV 1 hts gX11_plate_X9_copyFrom rfl rfl rfl zh_X9_copyFrom_105 ⟨Nat.le_of_ble_eq_true rfl, Nat.le_of_ble_eq_true rfl⟩) ⟨gx_fb, va_recv hK hP (ci := 8) (q0 := kk_179) rfl hk_180, fun U hU hW => ⟨rfl, by rw [hU], px_to hU hW hP hK hN hXN, hD.weaken (fun _ _ _ _ => trivial)⟩⟩ rfl rfl hl.1 rfl (lv_room (Nat.le_of_ble_eq_true rfl)) dX11_plate_74 ⟨Nat.le_of_ble_eq_true rfl, Nat.le_of_ble_eq_true rfl⟩) hS (fun q _ h => hFc q h) hFc (fun w_181 t H1 locs ht hvm hw hB hz1 hk1 hS => ?_)
            obtain ⟨hP, hD1⟩ := hB
            rw [ht] at hP
            rw [hw.2.1] at hP hD1
            have hD := hD1.weaken (fun _ q _ h => hFc q.1 h)
            have hI := hw.2.2.1
            have hw0 := hw
            generalize w_181.2.2 = f_182 at hP hD hI hw0
            generalize H1 = H at hP hS ⊢
            have hcf := hw0.2.2.2
            have hp_183 : f_182 (d 1) = aR (q 2) 12 gp_161 := by rw [hcf]; unfold s_copy_f; rw [up_o (tg_ne hI.2.1.2.2.1 ht_166 (by decide)), up_o (tg_ne hI.2.1.2.2.1 ht_165 (by decide))]; exact hp_162
            have hs_184 : f_182 (d (1000 + P)) = .inr (8, [.ref (d (1020 + P)), .ref (d (1040 + P)), .int m_158, .int (u.2 41 P), .int (u.2 42 P)]) := by rw [hcf]; unfold s_copy_f; rw [up_o (tg_ne ht_164 ht_166 (by decide)), up_o (tg_ne ht_164 ht_165 (by decide))]; exact hs_167
            have h3m : f_182 (d 3) = f (d 3) := by rw [hcf]; unfold s_copy_f; rw [up_o (tg_ne hI.2.1.2.2.2.2.1 ht_166 (by decide)), up_o (tg_ne hI.2.1.2.2.2.2.1 ht_165 (by decide))]; exact h3m
            refine lv_aload_n hx hb dX11_plate_77 rfl (lv_at hl 2 rfl) ?_
            obtain ⟨kk_185, hk_186⟩ := pl_at hI.2.1.1.1 hI.2.2.2.1.1
            refine va_get (D := (dC, dI)) (ci := 10) (v := .ref (d 1)) (C := RX11) (T := TX11) (N := 9) hx hb hts zl_X11_plate_X11 hown hK hP kk_185 hk_186 rfl 1 (by decide) (hts (.fieldLink RX11 15 "PageOne" "plates" "[LPageOne$Sheet;") (zat q_wsX11_plate k_wsX11_plate 113 rfl (by decide +kernel))) (fun _ h9 => h9) rfl dX11_plate_78 ?_
            refine lv_iload_n hx hb dX11_plate_81 rfl (lv_at hl 3 rfl) ?_
            obtain ⟨kk_187, hk_188⟩ := pl_at hI.2.1.2.2.1.1 hp_183
            refine va_aldq hx hb hK hP kk_187 2 hk_188 rfl (vin b_1 (by decide)) dX11_plate_82 ?_
            rw [hgp9]
            refine W.eq (g2 := F0 m 83 ls [.ref (d (1000 + P))]) rfl ?_
            refine lv_aload_n hx hb dX11_plate_83 rfl (lv_at hl 2 rfl) ?_
            obtain ⟨kk_189, hk_190⟩ := pl_at hI.2.1.1.1 hI.2.2.2.1.1
            refine va_get (D := (dC, dI)) (ci := 10) (v := .int (k 2)) (C := RX11) (T := TX11) (N := 9) hx hb hts zl_X11_plate_X11 hown hK hP kk_189 hk_190 rfl 7 (by decide) (hts (.fieldLink RX11 41 "PageOne" "today" "I") (zat q_wsX11_plate k_wsX11_plate 119 rfl (by decide +kernel))) (fun _ h9 => h9) rfl dX11_plate_84 ?_
            refine lv_topi (fun x_191 ex_191 => ?_)
            obtain ⟨kk_192, hk_193⟩ := pl_at ht_164.1 hs_184
            have hD0 := hD
            refine va_put (D := (dC, dI)) (ci := 8) (v := .int x_191) (ty := .int) (C := RX9) (T := TX9) (N := 5) hx hb hts zl_X11_plate_X9 tyX9 tyX9_ok nmX9 hown hK hP hD hS kk_192 hk_193 rfl 3 (by decide) (hts (.fieldLink RX11 210 "PageOne$Sheet" "day" "I") (zat q_wsX11_plate k_wsX11_plate 96 rfl (by decide +kernel))) (fun _ h9 => h9) rfl (tyX9_ok 3 (by decide)) rfl rfl (Nat.le_of_ble_eq_true rfl) dX11_plate_87 (fun H locs hP hD hS => ?_)
            rw [pl_set hD0 ht_164.1 hs_184 hk_193] at hP hD
            obtain ⟨f_194, ef_194⟩ : ∃ y : xF, y = va_up f_182 (d (1000 + P)) (.inr (8, [.ref (d (1020 + P)), .ref (d (1040 + P)), .int m_158, .int x_191, .int (u.2 42 P)])) := ⟨_, rfl⟩
            have hI : xI q h0 d k z_46 f_194 := by rw [ef_194]; exact x_up hI ht_164 (by decide) (cO_7 ht_164.2 ⟨_, _, _, _, _, rfl, ht_165, ht_166⟩)
            have hP : va_P (dC, dI) vwCl (va_pl z_46.1 f_194) H := by rw [ef_194]; exact hP
            have hD : va_D A (va_pl z_46.1 f_194) := by rw [ef_194]; exact hD
            have hp_195 : f_194 (d 1) = aR (q 2) 12 gp_161 := by rw [ef_194, up_o (tg_ne hI.2.1.2.2.1 ht_164 (by decide))]; exact hp_183
            have hs_196 : f_194 (d (1000 + P)) = .inr (8, [.ref (d (1020 + P)), .ref (d (1040 + P)), .int m_158, .int x_191, .int (u.2 42 P)]) := by rw [ef_194]; exact up_s
            have h3m : f_194 (d 3) = f (d 3) := by rw [ef_194, up_o (tg_ne hI.2.1.2.2.2.2.1 ht_164 (by decide))]; exact h3m
            refine lv_aload_n hx hb dX11_plate_90 rfl (lv_at hl 2 rfl) ?_
            obtain ⟨kk_197, hk_198⟩ := pl_at hI.2.1.1.1 hI.2.2.2.1.1
            refine va_get (D := (dC, dI)) (ci := 10) (v := .ref (d 1)) (C := RX11) (T := TX11) (N := 9) hx hb hts zl_X11_plate_X11 hown hK hP kk_197 hk_198 rfl 1 (by decide) (hts (.fieldLink RX11 15 "PageOne" "plates" "[LPageOne$Sheet;") (zat q_wsX11_plate k_wsX11_plate 113 rfl (by decide +kernel))) (fun _ h9 => h9) rfl dX11_plate_91 ?_
            refine lv_iload_n hx hb dX11_plate_94 rfl (lv_at hl 3 rfl) ?_
            obtain ⟨kk_199, hk_200⟩ := pl_at hI.2.1.2.2.1.1 hp_195
            refine va_aldq hx hb hK hP kk_199 2 hk_200 rfl (vin b_1 (by decide)) dX11_plate_95 ?_
            rw [hgp9]
            refine W.eq (g2 := F0 m 96 ls [.ref (d (1000 + P))]) rfl ?_
            refine lv_aload_n hx hb dX11_plate_96 rfl (lv_at hl 2 rfl) ?_
            obtain ⟨kk_201, hk_202⟩ := pl_at hI.2.1.1.1 hI.2.2.2.1.1
            refine va_get (D := (dC, dI)) (ci := 10) (v := .int (k 3)) (C := RX11) (T := TX11) (N := 9) hx hb hts zl_X11_plate_X11 hown hK hP kk_201 hk_202 rfl 8 (by decide) (hts (.fieldLink RX11 44 "PageOne" "editionNow" "I") (zat q_wsX11_plate k_wsX11_plate 120 rfl (by decide +kernel))) (fun _ h9 => h9) rfl dX11_plate_97 ?_
            refine lv_topi (fun x_203 ex_203 => ?_)
            obtain ⟨kk_204, hk_205⟩ := pl_at ht_164.1 hs_196
            have hD0 := hD
            refine va_put (D := (dC, dI)) (ci := 8) (v := .int x_203) (ty := .int) (C := RX9) (T := TX9) (N := 5) hx hb hts zl_X11_plate_X9 tyX9 tyX9_ok nmX9 hown hK hP hD hS kk_204 hk_205 rfl 4 (by decide) (hts (.fieldLink RX11 213 "PageOne$Sheet" "edition" "I") (zat q_wsX11_plate k_wsX11_plate 98 rfl (by decide +kernel))) (fun _ h9 => h9) rfl (tyX9_ok 4 (by decide)) rfl rfl (Nat.le_of_ble_eq_true rfl) dX11_plate_100 (fun H locs hP hD hS => ?_)
            rw [pl_set hD0 ht_164.1 hs_196 hk_205] at hP hD
            obtain ⟨f_206, ef_206⟩ : ∃ y : xF, y = va_up f_194 (d (1000 + P)) (.inr (8, [.ref (d (1020 + P)), .ref (d (1040 + P)), .int m_158, .int x_191, .int x_203])) := ⟨_, rfl⟩
            have hI : xI q h0 d k z_46 f_206 := by rw [ef_206]; exact x_up hI ht_164 (by decide) (cO_7 ht_164.2 ⟨_, _, _, _, _, rfl, ht_165, ht_166⟩)
            have hP : va_P (dC, dI) vwCl (va_pl z_46.1 f_206) H := by rw [ef_206]; exact hP
            have hD : va_D A (va_pl z_46.1 f_206) := by rw [ef_206]; exact hD
            have hp_207 : f_206 (d 1) = aR (q 2) 12 gp_161 := by rw [ef_206, up_o (tg_ne hI.2.1.2.2.1 ht_164 (by decide))]; exact hp_195
            have hs_208 : f_206 (d (1000 + P)) = .inr (8, [.ref (d (1020 + P)), .ref (d (1040 + P)), .int m_158, .int x_191, .int x_203]) := by rw [ef_206]; exact up_s
            have h3m : f_206 (d 3) = f (d 3) := by rw [ef_206, up_o (tg_ne hI.2.1.2.2.2.2.1 ht_164 (by decide))]; exact h3m
            refine lv_iload_n hx hb dX11_plate_103 rfl (lv_at hl 0 rfl) ?_
            refine W.widen (k := 7) (n := 505) (Nat.le_of_ble_eq_true rfl) (Nat.le_of_ble_eq_true rfl) ?_
            exact W.iret (v := zr_29) hx hb hr (fun t ht hW => ⟨⟨zr_29, (k, z_46, f_206), rfl, ⟨rfl, hEz, h3m, Or.inr ⟨⟨b_1, gl_16, gc_17, (by rw [← eP]; exact el_25), (by rw [← eP]; exact ec_26), hgb_23, hzr_29, c_30, (fun h9 => c_34 (by rw [hzr_33]; exact h9)), bx_40, bx_41, (by rw [c_52] at hbM; exact hbM)⟩, d, fun _ _ => rfl, hI, fun w9 hw9 => rep_plate (f2 := f_206) hrpx hP9 (zE_rf _) (fun _ _ _ _ => rfl) (by rw [ef_206, ef_194, hcf]; unfold s_copy_f; exact fK_up (fK_up (fK_up (fK_up (fK_rf d _ _ _) (pl_nO hrpx.2.1 hP9 h40).2.1 (by decide) (Or.inr (Or.inr (Or.inl rfl)))) (pl_nO hrpx.2.1 hP9 h40).2.2 (by decide) (Or.inr (Or.inr (Or.inr rfl)))) (pl_nO hrpx.2.1 hP9 h40).1 (by decide) (Or.inr (Or.inl rfl))) (pl_nO hrpx.2.1 hP9 h40).1 (by decide) (Or.inr (Or.inl rfl))) hp_162 hp_207 hp_163 (fun _ _ _ => rfl) (pl_nO hrpx.2.1 hP9 h40).1 (pl_nO hrpx.2.1 hP9 h40).2.1 (pl_nO hrpx.2.1 hP9 h40).2.2 (by rw [← hk2, ← hk3, ← ex_191, ← ex_203]; exact hs_208) ⟨(va_cpy gl_147 gl_159 (0 : Int32).toNatClampNeg (0 : Int32).toNatClampNeg (8 : Int32).toNatClampNeg), (by rw [ef_206, up_o (tg_ne ht_165 ht_164 (by decide)), ef_194, up_o (tg_ne ht_165 ht_164 (by decide)), hcf]; unfold s_copy_f; rw [up_o (tg_ne ht_165 ht_166 (by decide)), up_s]), (fun t ht => (cpy8 t ht 8 rfl).trans (el_156 t ht))⟩ ⟨(va_cpy gc_148 gc_160 (0 : Int32).toNatClampNeg (0 : Int32).toNatClampNeg (480 : Int32).toNatClampNeg), (by rw [ef_206, up_o (tg_ne ht_166 ht_164 (by decide)), ef_194, up_o (tg_ne ht_166 ht_164 (by decide)), hcf]; unfold s_copy_f; rw [up_s]), (fun t ht => (cpy8 t ht 480 rfl).trans (ec_157 t ht))⟩ (by rw [eP]; exact hw9)⟩⟩, by rw [ht]; exact hP, hD⟩, hS.F ht⟩) hS.2.2 dX11_plate_104
        ·
          refine lv_iconst (v := (-1)) hx hb dX11_plate_43 (by decide) ?_
          refine W.widen (k := 7) (n := 505) (Nat.le_of_ble_eq_true rfl) (Nat.le_of_ble_eq_true rfl) ?_
          exact W.iret (v := (-1)) hx hb hr (fun t ht hW => ⟨⟨(-1), (k, z_46, f_47), rfl, ⟨rfl, hEz, h3m, Or.inl ⟨Or.inr ⟨b_1, gl_16, gc_17, (by rw [← eP]; exact el_25), (by rw [← eP]; exact ec_26), hgb_23, Or.inr (Or.inr ⟨bx_39, bx_40, bx_41, hbM, c_52⟩)⟩, rfl, hI, hrpx⟩⟩, by rw [ht]; exact hP, hD⟩, hS.F ht⟩) hS.2.2 dX11_plate_44
  ·
    obtain rfl : r = 0 := b_f hw b_1
    refine lv_if_ne (tgt := 9) hx hb dX11_plate_4 (by decide) (fun c_209 => absurd (by decide) c_209) (fun c_209 => ?_)
    refine lv_iconst (v := (-1)) hx hb dX11_plate_7 (by decide) ?_
    refine W.widen (k := 7) (n := 505) (Nat.le_of_ble_eq_true rfl) (Nat.le_of_ble_eq_true rfl) ?_
    exact W.iret (v := (-1)) hx hb hr (fun t ht hW => ⟨⟨(-1), (k, z, f), rfl, ⟨rfl, zE_rf z, rfl, Or.inl ⟨Or.inl (bne b_1), rfl, hI, hrp⟩⟩, by rw [ht]; exact hP, hD⟩, hS.F ht⟩) hS.2.2 dX11_plate_8
def wq (u : mS) (i : Nat) (dd : Int32) (n : Nat) : Prop := ¬ u.2 48 (80 * dd.toNatClampNeg + i) = 0 ∨ (dd = u.1 38 ∧ ∃ p, p < n ∧ prC u (nI i) p = true)
theorem wq_0 {u : mS} {i : Nat} {dd : Int32} : ¬ u.2 48 (80 * dd.toNatClampNeg + i) = 0 ↔ wq u i dd 0 := ⟨Or.inl, fun h => by rcases h with h | ⟨-, p, hp, -⟩; exact h; exact absurd hp (Nat.not_lt_zero _)⟩
theorem wq_a {u : mS} {i n : Nat} {dd a : Int32} (hg : ¬ a = 0 ↔ wq u i dd n) (h : ¬ a = 0) : ¬ (1 : Int32) = 0 ↔ wq u i dd (n + 1) := ⟨fun _ => by rcases hg.mp h with h | ⟨h, p, hp, hc⟩; exact Or.inl h; exact Or.inr ⟨h, p, by omega, hc⟩, fun _ => by decide⟩
theorem wq_y {u : mS} {i n : Nat} {dd : Int32} (hd : dd = u.1 38) (hc : prC u (nI i) n = true) : ¬ (1 : Int32) = 0 ↔ wq u i dd (n + 1) := ⟨fun _ => Or.inr ⟨hd, n, by omega, hc⟩, fun _ => by decide⟩
theorem wq_n {u : mS} {i n : Nat} {dd a : Int32} (hg : ¬ a = 0 ↔ wq u i dd n) (h : a = 0) (hc : prC u (nI i) n = false) : ¬ (0 : Int32) = 0 ↔ wq u i dd (n + 1) := by
  refine ⟨fun h => absurd rfl h, fun h2 => ?_⟩
  have h3 : ¬ wq u i dd n := fun h4 => (hg.mpr h4) h
  rcases h2 with h2 | ⟨hd, p, hp, hq⟩
  · exact absurd (Or.inl h2) h3
  · by_cases e : p = n
    · rw [e, hc] at hq; exact absurd hq (by decide)
    · exact absurd (Or.inr ⟨hd, p, by omega, hq⟩) h3
theorem wq_e {u : mS} {i n : Nat} {dd a : Int32} (hg : ¬ a = 0 ↔ wq u i dd n) (hd : ¬ dd = u.1 38) : ¬ a = 0 ↔ wpP u i dd := ⟨fun h => by rcases hg.mp h with h | ⟨h, -⟩; exact Or.inl h; exact absurd h hd, fun h => hg.mpr (by rcases h with h | ⟨h, -⟩; exact Or.inl h; exact absurd h hd)⟩
theorem e48i {i : Nat} {dd : Int32} (hi : i < 80) (hd : bw dd 0 399 = true) : (80 * dd + nI i).toNatClampNeg = 80 * dd.toNatClampNeg + i := by
  obtain ⟨D, hD, -, e⟩ := exN hd (by decide)
  have h399 : (399 : Int32).toInt = 399 := rfl
  subst e
  rw [show (80 : Int32) = nI 80 from rfl, pk_mul, nI_add, nI_clamp (by omega), nI_clamp (n := D) (by omega)]
set_option maxHeartbeats 4000000 in
set_option maxRecDepth 100000 in
theorem n_bl_in {p : Program} {l : Launch} {e : Env} {R : Room} {s : State} {m : MethodId} {args : Array Value} {below : List Frame} {meth : Method} {c : Code} {Q : State → Prop} {cells slots : Nat} {dC : Nat → ClassId} {dI : Nat → Nat → Nat} {h0 : Nat} {v : Nat → Nat} {cI cZ : ClassId} {H : Heap} {locs : List Loc} {u : mS} (hx : p.tables.exec = Jvm.exec) (hb : c.code = cX12_bill) (hml : c.maxLocals = 7) (hts : ∀ w ∈ wsX12_bill, w.before args s = true) (hown : s.vm.findClass RX12 = some m.cls) (hN : NN s) (hK : va_K (dC, dI) vwCl [(cI, .int), (cZ, .boolean)] s) (hRf : 1 ≤ R.frames) (hRl : 21 ≤ R.locals) (hRc : cells ≤ R.cells) (hRs : slots ≤ R.slots) (hP : va_P (dC, dI) vwCl (mW h0 v cI cZ u) H) {p0 p1 b9 : Int32} {j9 : Nat} (hj9 : j9 < 80) (kx110 : ∀ (a9 : Int32) (ls : Array Slot), (¬ a9 = 0 ↔ wpP u j9 p1) → lv_has ls 7 [(5, .int a9), (4, .int (nI j9)), (3, .int b9), (0, .ref h0), (1, .int p0), (2, .int p1)] → W p l e R s m args below meth c H locs cells slots Q (F0 m 110 ls [])) : ∀ (k i : Nat) (a : Int32) (ls : Array Slot), i ≤ 12 → 12 - i < k → (¬ a = 0 ↔ wq u j9 p1 i) → lv_has ls 7 [(6, .int (nI i)), (5, .int a), (4, .int (nI j9)), (3, .int b9), (0, .ref h0), (1, .int p0), (2, .int p1)] → W p l e R s m args below meth c H locs cells slots Q (F0 m 52 ls []) := by
  intro k
  induction k with
  | zero => intro i a ls h1 h2; exact absurd h2 (Nat.not_lt_zero _)
  | succ k ih =>
    intro i a ls hi hk hg hl
    refine lv_iload hx hb dX12_bill_52 (lv_at hl 0 rfl) ?_
    refine lv_bipush (v := 12) hx hb dX12_bill_54 (by decide) ?_
    refine lv_icmp_ge (tgt := 110) hx hb dX12_bill_56 (by decide) (fun c_1 => ?_) (fun c_1 => ?_)
    ·
      have hie : i = 12 := lp_eq rfl (by decide) hi c_1
      exact kx110 _ ls (by rw [hie] at hg; exact hg) (lv_sub hl [1, 2, 3, 4, 5, 6] rfl)
    ·
      have hlt : i < 12 := lp_lt rfl (by decide) hi c_1
      refine lv_iload_n hx hb dX12_bill_59 rfl (lv_at hl 6 rfl) ?_
      refine lv_aload_n hx hb dX12_bill_60 rfl (lv_at hl 4 rfl) ?_
      refine va_get (D := (dC, dI)) (ci := 11) (v := .int (u.1 38)) (C := RX12) (T := TX12) (N := 52) hx hb hts zl_X12_bill_X12 hown hK hP 0 rfl rfl 38 (by decide) (hts (.fieldLink RX12 206 "PageOneModel" "day" "I") (zat q_wsX12_bill k_wsX12_bill 920 rfl (by decide +kernel))) (fun _ h9 => h9) rfl dX12_bill_61 ?_
      refine lv_icmp_ne (tgt := 110) hx hb dX12_bill_64 (by decide) (fun c_2 => ?_) (fun c_2 => ?_)
      ·
        exact kx110 _ ls (wq_e hg c_2) (lv_sub hl [1, 2, 3, 4, 5, 6] rfl)
      ·
        refine lv_iload hx hb dX12_bill_67 (lv_at hl 1 rfl) ?_
        refine lv_if_ne (tgt := 97) hx hb dX12_bill_69 (by decide) (fun c_3 => ?_) (fun c_3 => ?_)
        ·
          refine lv_iconst (v := 1) hx hb dX12_bill_97 (by decide) ?_
          refine lv_goto (tgt := 102) hx hb dX12_bill_98 (by decide) ?_
          refine lv_istore (lv' := [(5, .int 1), (6, .int (nI i)), (4, .int (nI j9)), (3, .int b9), (0, .ref h0), (1, .int p0), (2, .int p1)]) hx hb dX12_bill_102 hl (by decide) rfl (fun ls hl => ?_)
          refine lv_iinc (v := (nI (i + 1))) (lv' := [(6, .int (nI (i + 1))), (5, .int 1), (4, .int (nI j9)), (3, .int b9), (0, .ref h0), (1, .int p0), (2, .int p1)]) hx hb dX12_bill_104 hl (k := 1) rfl (nI_1 i) (by decide) rfl (fun ls hl => ?_)
          refine lv_goto (tgt := 52) hx hb dX12_bill_107 (by decide) ?_
          exact ih (i + 1) _ ls (by omega) (by omega) (wq_a hg c_3) (lv_sub hl [0, 1, 2, 3, 4, 5, 6] rfl)
        ·
          refine lv_aload_n hx hb dX12_bill_72 rfl (lv_at hl 4 rfl) ?_
          refine lv_iload hx hb dX12_bill_73 (lv_at hl 0 rfl) ?_
          refine vp_callSi (va_runV (As := [.int (nI i)]) (rest := []) ⟨hx, hb, hml, hown, hts⟩ (m_isNow l dC dI h0 v cI cZ u (nI i) (bw11 hlt)) (cwV 1 hts gX12_bill_X12_isNow rfl rfl rfl zh_X12_isNow_15 ⟨Nat.le_trans (Nat.le_of_ble_eq_true rfl) hRf, Nat.le_trans (Nat.le_of_ble_eq_true rfl) hRl⟩) ⟨pw_fb, va_recv hK hP (ci := 11) (q0 := 0) rfl rfl, fun U hU hW => ⟨rfl, pw_to hU hW hP hK hN⟩⟩ rfl rfl hl.1 rfl (lv_room (Nat.le_of_ble_eq_true rfl)) dX12_bill_75 ⟨hRc, hRs⟩).run (fun r hw => ?_)
          rcases Bool.eq_false_or_eq_true (mNow u (nI i)) with b_4 | b_4
          ·
            obtain rfl : r = 1 := b_t hw b_4
            refine lv_if_eq (tgt := 101) hx hb dX12_bill_78 (by decide) (fun c_5 => absurd c_5 (by decide)) (fun c_5 => ?_)
            refine lv_aload_n hx hb dX12_bill_81 rfl (lv_at hl 4 rfl) ?_
            refine va_get (D := (dC, dI)) (ci := 11) (v := .ref (v 45)) (C := RX12) (T := TX12) (N := 52) hx hb hts zl_X12_bill_X12 hown hK hP 0 rfl rfl 45 (by decide) (hts (.fieldLink RX12 131 "PageOneModel" "plateColumn" "[I") (zat q_wsX12_bill k_wsX12_bill 927 rfl (by decide +kernel))) (fun _ h9 => h9) rfl dX12_bill_82 ?_
            refine lv_bipush (v := 80) hx hb dX12_bill_85 (by decide) ?_
            refine lv_iload hx hb dX12_bill_87 (lv_at hl 0 rfl) ?_
            refine lv_imul hx hb dX12_bill_89 ?_
            refine lv_iload hx hb dX12_bill_90 (lv_at hl 2 rfl) ?_
            refine lv_iadd hx hb dX12_bill_92 ?_
            refine va_iald hx hb hK hP 41 0 rfl rfl (vPl (bw79 hj9) hlt) dX12_bill_93 ?_
            refine lv_if_lt (tgt := 101) hx hb dX12_bill_94 (by decide) (fun c_6 => ?_) (fun c_6 => ?_)
            ·
              refine lv_iconst (v := 0) hx hb dX12_bill_101 (by decide) ?_
              refine lv_istore (lv' := [(5, .int 0), (6, .int (nI i)), (4, .int (nI j9)), (3, .int b9), (0, .ref h0), (1, .int p0), (2, .int p1)]) hx hb dX12_bill_102 hl (by decide) rfl (fun ls hl => ?_)
              refine lv_iinc (v := (nI (i + 1))) (lv' := [(6, .int (nI (i + 1))), (5, .int 0), (4, .int (nI j9)), (3, .int b9), (0, .ref h0), (1, .int p0), (2, .int p1)]) hx hb dX12_bill_104 hl (k := 1) rfl (nI_1 i) (by decide) rfl (fun ls hl => ?_)
              refine lv_goto (tgt := 52) hx hb dX12_bill_107 (by decide) ?_
              exact ih (i + 1) _ ls (by omega) (by omega) (wq_n hg c_3 (by unfold prC; rw [decide_eq_true c_6]; cases mNow u (nI i) <;> rfl)) (lv_sub hl [0, 1, 2, 3, 4, 5, 6] rfl)
            ·
              refine lv_iconst (v := 1) hx hb dX12_bill_97 (by decide) ?_
              refine lv_goto (tgt := 102) hx hb dX12_bill_98 (by decide) ?_
              refine lv_istore (lv' := [(5, .int 1), (6, .int (nI i)), (4, .int (nI j9)), (3, .int b9), (0, .ref h0), (1, .int p0), (2, .int p1)]) hx hb dX12_bill_102 hl (by decide) rfl (fun ls hl => ?_)
              refine lv_iinc (v := (nI (i + 1))) (lv' := [(6, .int (nI (i + 1))), (5, .int 1), (4, .int (nI j9)), (3, .int b9), (0, .ref h0), (1, .int p0), (2, .int p1)]) hx hb dX12_bill_104 hl (k := 1) rfl (nI_1 i) (by decide) rfl (fun ls hl => ?_)
              refine lv_goto (tgt := 52) hx hb dX12_bill_107 (by decide) ?_
              exact ih (i + 1) _ ls (by omega) (by omega) (wq_y c_2 (by unfold prC; rw [b_4, decide_eq_false c_6]; rfl)) (lv_sub hl [0, 1, 2, 3, 4, 5, 6] rfl)
          ·
            obtain rfl : r = 0 := b_f hw b_4
            refine lv_if_eq (tgt := 101) hx hb dX12_bill_78 (by decide) (fun c_7 => ?_) (fun c_7 => absurd (by decide) c_7)
            refine lv_iconst (v := 0) hx hb dX12_bill_101 (by decide) ?_
            refine lv_istore (lv' := [(5, .int 0), (6, .int (nI i)), (4, .int (nI j9)), (3, .int b9), (0, .ref h0), (1, .int p0), (2, .int p1)]) hx hb dX12_bill_102 hl (by decide) rfl (fun ls hl => ?_)
            refine lv_iinc (v := (nI (i + 1))) (lv' := [(6, .int (nI (i + 1))), (5, .int 0), (4, .int (nI j9)), (3, .int b9), (0, .ref h0), (1, .int p0), (2, .int p1)]) hx hb dX12_bill_104 hl (k := 1) rfl (nI_1 i) (by decide) rfl (fun ls hl => ?_)
            refine lv_goto (tgt := 52) hx hb dX12_bill_107 (by decide) ?_
            exact ih (i + 1) _ ls (by omega) (by omega) (wq_n hg c_3 (by unfold prC; rw [b_4]; rfl)) (lv_sub hl [0, 1, 2, 3, 4, 5, 6] rfl)
set_option maxHeartbeats 4000000 in
set_option maxRecDepth 100000 in
theorem n_bl_out {p : Program} {l : Launch} {e : Env} {R : Room} {s : State} {m : MethodId} {args : Array Value} {below : List Frame} {meth : Method} {c : Code} {Q : State → Prop} {cells slots : Nat} {dC : Nat → ClassId} {dI : Nat → Nat → Nat} {h0 : Nat} {v : Nat → Nat} {cI cZ : ClassId} {H : Heap} {locs : List Loc} {u : mS} (hx : p.tables.exec = Jvm.exec) (hb : c.code = cX12_bill) (hml : c.maxLocals = 7) (hts : ∀ w ∈ wsX12_bill, w.before args s = true) (hown : s.vm.findClass RX12 = some m.cls) (hN : NN s) (hK : va_K (dC, dI) vwCl [(cI, .int), (cZ, .boolean)] s) (hRf : 1 ≤ R.frames) (hRl : 21 ≤ R.locals) (hRc : cells ≤ R.cells) (hRs : slots ≤ R.slots) (hP : va_P (dC, dI) vwCl (mW h0 v cI cZ u) H) {p0 p1 : Int32} {M : Nat} (hM8 : M ≤ 80) (eM : u.1 3 = nI M) (hd9 : bw p1 0 399 = true) (kx : ∀ (a : Int32) (ls : Array Slot), a = blS u p0 p1 M → lv_has ls 7 [(4, .int (nI M)), (3, .int a), (0, .ref h0), (1, .int p0), (2, .int p1)] → W p l e R s m args below meth c H locs cells slots Q (F0 m 173 ls [])) : ∀ (k i : Nat) (a : Int32) (ls : Array Slot), i ≤ M → M - i < k → a = blS u p0 p1 i → lv_has ls 7 [(4, .int (nI i)), (3, .int a), (0, .ref h0), (1, .int p0), (2, .int p1)] → W p l e R s m args below meth c H locs cells slots Q (F0 m 26 ls []) := by
  intro k
  induction k with
  | zero => intro i a ls h1 h2; exact absurd h2 (Nat.not_lt_zero _)
  | succ k ih =>
    intro i a ls hi hk hg hl
    refine lv_iload hx hb dX12_bill_26 (lv_at hl 0 rfl) ?_
    refine lv_aload_n hx hb dX12_bill_28 rfl (lv_at hl 2 rfl) ?_
    refine va_get (D := (dC, dI)) (ci := 11) (v := .int (u.1 3)) (C := RX12) (T := TX12) (N := 52) hx hb hts zl_X12_bill_X12 hown hK hP 0 rfl rfl 3 (by decide) (hts (.fieldLink RX12 147 "PageOneModel" "items" "I") (zat q_wsX12_bill k_wsX12_bill 885 rfl (by decide +kernel))) (fun _ h9 => h9) rfl dX12_bill_29 ?_
    refine lv_topi (fun y_1 ey_1 => ?_)
    obtain rfl : y_1 = (nI M) := ey_1.trans (eM)
    refine lv_icmp_ge (tgt := 173) hx hb dX12_bill_32 (by decide) (fun c_2 => ?_) (fun c_2 => ?_)
    ·
      have hie : i = M := lp_eq rfl (by omega) hi c_2
      rw [hie] at hg hl
      exact kx _ ls hg (lv_sub hl [0, 1, 2, 3, 4] rfl)
    ·
      have hlt : i < M := lp_lt rfl (by omega) hi c_2
      refine lv_aload_n hx hb dX12_bill_35 rfl (lv_at hl 2 rfl) ?_
      refine va_get (D := (dC, dI)) (ci := 11) (v := .ref (v 48)) (C := RX12) (T := TX12) (N := 52) hx hb hts zl_X12_bill_X12 hown hK hP 0 rfl rfl 48 (by decide) (hts (.fieldLink RX12 140 "PageOneModel" "isOn" "[Z") (zat q_wsX12_bill k_wsX12_bill 930 rfl (by decide +kernel))) (fun _ h9 => h9) rfl dX12_bill_36 ?_
      refine lv_bipush (v := 80) hx hb dX12_bill_39 (by decide) ?_
      refine lv_iload_n hx hb dX12_bill_41 rfl (lv_at hl 4 rfl) ?_
      refine lv_imul hx hb dX12_bill_42 ?_
      refine lv_iload hx hb dX12_bill_43 (lv_at hl 0 rfl) ?_
      refine lv_iadd hx hb dX12_bill_45 ?_
      refine va_zald hx hb hK hP 44 1 rfl rfl (vOn (bw79 (by omega)) hd9) dX12_bill_46 ?_
      refine lv_topi (fun x_3 ex_3 => ?_)
      refine lv_istore (lv' := [(5, .int x_3), (4, .int (nI i)), (3, .int a), (0, .ref h0), (1, .int p0), (2, .int p1)]) hx hb dX12_bill_47 hl (by decide) rfl (fun ls hl => ?_)
      refine lv_iconst (v := 0) hx hb dX12_bill_49 (by decide) ?_
      refine lv_istore (lv' := [(6, .int 0), (5, .int x_3), (4, .int (nI i)), (3, .int a), (0, .ref h0), (1, .int p0), (2, .int p1)]) hx hb dX12_bill_50 hl (by decide) rfl (fun ls hl => ?_)
      refine n_bl_in (j9 := i) (b9 := a) hx hb hml hts hown hN hK hRf hRl hRc hRs hP (by omega) (fun a9 ls ha9 hl => ?_) 13 0 _ ls (by decide) (by decide) (by rw [ex_3]; rw [e48i (by omega) hd9]; exact wq_0) (lv_sub hl [0, 1, 2, 3, 4, 5, 6] rfl)
      refine lv_iload_n hx hb dX12_bill_110 rfl (lv_at hl 2 rfl) ?_
      refine lv_aload_n hx hb dX12_bill_111 rfl (lv_at hl 3 rfl) ?_
      refine va_get (D := (dC, dI)) (ci := 11) (v := .ref (v 4)) (C := RX12) (T := TX12) (N := 52) hx hb hts zl_X12_bill_X12 hown hK hP 0 rfl rfl 4 (by decide) (hts (.fieldLink RX12 19 "PageOneModel" "kind" "[I") (zat q_wsX12_bill k_wsX12_bill 886 rfl (by decide +kernel))) (fun _ h9 => h9) rfl dX12_bill_112 ?_
      refine lv_iload hx hb dX12_bill_115 (lv_at hl 1 rfl) ?_
      refine va_iald hx hb hK hP 4 0 rfl rfl (vp_in_nI (by omega) (by decide)) dX12_bill_117 ?_
      refine lv_iconst (v := 3) hx hb dX12_bill_118 (by decide) ?_
      refine lv_icmp_ne (tgt := 164) hx hb dX12_bill_119 (by decide) (fun c_4 => ?_) (fun c_4 => ?_)
      ·
        refine lv_iconst (v := 0) hx hb dX12_bill_164 (by decide) ?_
        refine lv_iadd hx hb dX12_bill_165 ?_
        refine lv_topi (fun x_5 ex_5 => ?_)
        refine lv_istore_n (lv' := [(3, .int x_5), (5, .int a9), (4, .int (nI i)), (0, .ref h0), (1, .int p0), (2, .int p1)]) hx hb dX12_bill_166 rfl hl (by decide) rfl (fun ls hl => ?_)
        refine lv_iinc (v := (nI (i + 1))) (lv' := [(4, .int (nI (i + 1))), (3, .int x_5), (5, .int a9), (0, .ref h0), (1, .int p0), (2, .int p1)]) hx hb dX12_bill_167 hl (k := 2) rfl (nI_1 i) (by decide) rfl (fun ls hl => ?_)
        refine lv_goto (tgt := 26) hx hb dX12_bill_170 (by decide) ?_
        exact ih (i + 1) _ ls (by omega) (by omega) (by rw [ex_5, hg]; have h9 := c_4; rw [nI_clamp (by omega)] at h9; rw [blS_0 (fun h8 => h9 h8.1)]; exact Int32.add_zero _) (lv_sub hl [0, 1, 3, 4, 5] rfl)
      ·
        refine lv_aload_n hx hb dX12_bill_122 rfl (lv_at hl 3 rfl) ?_
        refine va_get (D := (dC, dI)) (ci := 11) (v := .ref (v 10)) (C := RX12) (T := TX12) (N := 52) hx hb hts zl_X12_bill_X12 hown hK hP 0 rfl rfl 10 (by decide) (hts (.fieldLink RX12 37 "PageOneModel" "buyer" "[I") (zat q_wsX12_bill k_wsX12_bill 892 rfl (by decide +kernel))) (fun _ h9 => h9) rfl dX12_bill_123 ?_
        refine lv_iload hx hb dX12_bill_126 (lv_at hl 1 rfl) ?_
        refine va_iald hx hb hK hP 10 0 rfl rfl (vp_in_nI (by omega) (by decide)) dX12_bill_128 ?_
        refine lv_iload_n hx hb dX12_bill_129 rfl (lv_at hl 4 rfl) ?_
        refine lv_icmp_ne (tgt := 164) hx hb dX12_bill_130 (by decide) (fun c_6 => ?_) (fun c_6 => ?_)
        ·
          refine lv_iconst (v := 0) hx hb dX12_bill_164 (by decide) ?_
          refine lv_iadd hx hb dX12_bill_165 ?_
          refine lv_topi (fun x_7 ex_7 => ?_)
          refine lv_istore_n (lv' := [(3, .int x_7), (5, .int a9), (4, .int (nI i)), (0, .ref h0), (1, .int p0), (2, .int p1)]) hx hb dX12_bill_166 rfl hl (by decide) rfl (fun ls hl => ?_)
          refine lv_iinc (v := (nI (i + 1))) (lv' := [(4, .int (nI (i + 1))), (3, .int x_7), (5, .int a9), (0, .ref h0), (1, .int p0), (2, .int p1)]) hx hb dX12_bill_167 hl (k := 2) rfl (nI_1 i) (by decide) rfl (fun ls hl => ?_)
          refine lv_goto (tgt := 26) hx hb dX12_bill_170 (by decide) ?_
          exact ih (i + 1) _ ls (by omega) (by omega) (by rw [ex_7, hg]; have h9 := c_6; rw [nI_clamp (by omega)] at h9; rw [blS_0 (fun h8 => h9 h8.2.1)]; exact Int32.add_zero _) (lv_sub hl [0, 1, 3, 4, 5] rfl)
        ·
          refine lv_iload hx hb dX12_bill_133 (lv_at hl 0 rfl) ?_
          refine lv_if_eq (tgt := 164) hx hb dX12_bill_135 (by decide) (fun c_8 => ?_) (fun c_8 => ?_)
          ·
            refine lv_iconst (v := 0) hx hb dX12_bill_164 (by decide) ?_
            refine lv_iadd hx hb dX12_bill_165 ?_
            refine lv_topi (fun x_9 ex_9 => ?_)
            refine lv_istore_n (lv' := [(3, .int x_9), (5, .int a9), (4, .int (nI i)), (0, .ref h0), (1, .int p0), (2, .int p1)]) hx hb dX12_bill_166 rfl hl (by decide) rfl (fun ls hl => ?_)
            refine lv_iinc (v := (nI (i + 1))) (lv' := [(4, .int (nI (i + 1))), (3, .int x_9), (5, .int a9), (0, .ref h0), (1, .int p0), (2, .int p1)]) hx hb dX12_bill_167 hl (k := 2) rfl (nI_1 i) (by decide) rfl (fun ls hl => ?_)
            refine lv_goto (tgt := 26) hx hb dX12_bill_170 (by decide) ?_
            exact ih (i + 1) _ ls (by omega) (by omega) (by rw [ex_9, hg, blS_0 (fun h8 => ha9.mpr h8.2.2 c_8)]; exact Int32.add_zero _) (lv_sub hl [0, 1, 3, 4, 5] rfl)
          ·
            refine lv_aload_n hx hb dX12_bill_138 rfl (lv_at hl 3 rfl) ?_
            refine va_get (D := (dC, dI)) (ci := 11) (v := .ref (v 7)) (C := RX12) (T := TX12) (N := 52) hx hb hts zl_X12_bill_X12 hown hK hP 0 rfl rfl 7 (by decide) (hts (.fieldLink RX12 28 "PageOneModel" "wide" "[I") (zat q_wsX12_bill k_wsX12_bill 889 rfl (by decide +kernel))) (fun _ h9 => h9) rfl dX12_bill_139 ?_
            refine lv_iload hx hb dX12_bill_142 (lv_at hl 1 rfl) ?_
            refine va_iald hx hb hK hP 7 0 rfl rfl (vp_in_nI (by omega) (by decide)) dX12_bill_144 ?_
            refine lv_aload_n hx hb dX12_bill_145 rfl (lv_at hl 3 rfl) ?_
            refine va_get (D := (dC, dI)) (ci := 11) (v := .ref (v 8)) (C := RX12) (T := TX12) (N := 52) hx hb hts zl_X12_bill_X12 hown hK hP 0 rfl rfl 8 (by decide) (hts (.fieldLink RX12 31 "PageOneModel" "high" "[I") (zat q_wsX12_bill k_wsX12_bill 890 rfl (by decide +kernel))) (fun _ h9 => h9) rfl dX12_bill_146 ?_
            refine lv_iload hx hb dX12_bill_149 (lv_at hl 1 rfl) ?_
            refine va_iald hx hb hK hP 8 0 rfl rfl (vp_in_nI (by omega) (by decide)) dX12_bill_151 ?_
            refine lv_imul hx hb dX12_bill_152 ?_
            refine lv_aload_n hx hb dX12_bill_153 rfl (lv_at hl 3 rfl) ?_
            refine va_get (D := (dC, dI)) (ci := 11) (v := .ref (v 14)) (C := RX12) (T := TX12) (N := 52) hx hb hts zl_X12_bill_X12 hown hK hP 0 rfl rfl 14 (by decide) (hts (.fieldLink RX12 49 "PageOneModel" "price" "[I") (zat q_wsX12_bill k_wsX12_bill 896 rfl (by decide +kernel))) (fun _ h9 => h9) rfl dX12_bill_154 ?_
            refine lv_iload hx hb dX12_bill_157 (lv_at hl 1 rfl) ?_
            refine va_iald hx hb hK hP 14 0 rfl rfl (vp_in_nI (by omega) (by decide)) dX12_bill_159 ?_
            refine lv_imul hx hb dX12_bill_160 ?_
            refine lv_goto (tgt := 165) hx hb dX12_bill_161 (by decide) ?_
            refine lv_iadd hx hb dX12_bill_165 ?_
            refine lv_topi (fun x_10 ex_10 => ?_)
            refine lv_istore_n (lv' := [(3, .int x_10), (5, .int a9), (4, .int (nI i)), (0, .ref h0), (1, .int p0), (2, .int p1)]) hx hb dX12_bill_166 rfl hl (by decide) rfl (fun ls hl => ?_)
            refine lv_iinc (v := (nI (i + 1))) (lv' := [(4, .int (nI (i + 1))), (3, .int x_10), (5, .int a9), (0, .ref h0), (1, .int p0), (2, .int p1)]) hx hb dX12_bill_167 hl (k := 2) rfl (nI_1 i) (by decide) rfl (fun ls hl => ?_)
            refine lv_goto (tgt := 26) hx hb dX12_bill_170 (by decide) ?_
            exact ih (i + 1) _ ls (by omega) (by omega) (by rw [ex_10, hg]; have h9 := c_4; have h7 := c_6; rw [nI_clamp (by omega)] at h9 h7; rw [blS_1 ⟨h9, h7, ha9.mp c_8⟩, nI_clamp (by omega)]) (lv_sub hl [0, 1, 3, 4, 5] rfl)
set_option maxHeartbeats 4000000 in
set_option maxRecDepth 100000 in
theorem n_bill (l : Launch) (dC : Nat → ClassId) (dI : Nat → Nat → Nat) (h0 : Nat) (v : Nat → Nat) (cI cZ : ClassId) (u : mS) (p0 p1 : Int32) (hn : bw (u.1 3) 0 80 = true) (hd : bw (u.1 38) 0 399 = true) : Met l yX12_bill wsX12_bill ({ frames := 2, cells := 0, slots := 0, locals := 42 }) (va_Pc [.ref h0, .int p0, .int p1] (PW dC dI (mW h0 v cI cZ u) [(cI, .int), (cZ, .boolean)])) (vp_Si (fun r => r = mBillX u p0 p1)) 0 0 (fun _ => False) := by
  refine Met.ofW (cc := cX12_bill) (maxL := 7) (ret := (some .int)) (by decide) rfl ?_
  intro p e s m args below meth c s₁ B hml hv
  obtain ⟨rfl, hP, hK, hN⟩ := hv
  have hx := B.exec
  have hb := B.bytes
  have hr := B.returns
  have hts := atoms_spec (ws := wsX12_bill) B.pre
  have hown : s.vm.findClass RX12 = some m.cls := findClass_of_methodNamed B.named
  have hlocks := B.notSynchronized
  have hl := lv_entry ([.ref h0, .int p0, .int p1]) (n := 7) (Nat.le_of_ble_eq_true rfl)
  rw [lg_entry_eq]
  generalize (lg_sl ([.ref h0, .int p0, .int p1]) ++ List.replicate (7 - (lg_sl ([.ref h0, .int p0, .int p1])).length) Slot.unset).toArray = ls at hl ⊢
  have hl : lv_has ls 7 [(0, .ref h0), (1, .int p0), (2, .int p1)] := hl
  refine lv_iload_n hx hb dX12_bill_0 rfl (lv_at hl 1 rfl) ?_
  refine vp_callSi (va_runS (As := [.int p0]) (rest := []) ⟨hx, hb, hml, hown, hts⟩ (m_isBuyer l dC dI p0) (va_cwS 1 hts gX12_bill_X12_isBuyer rfl rfl rfl zh_X12_isBuyer_5 ⟨Nat.le_of_ble_eq_true rfl, Nat.le_of_ble_eq_true rfl⟩) ⟨pw_fb, fun U hU hW => ⟨rfl, pw_to hU hW (hP.sub (ws' := []) [] rfl) (hK.sub (tys' := []) [] rfl) hN⟩⟩ rfl rfl hl.1 rfl (lv_room (Nat.le_of_ble_eq_true rfl)) dX12_bill_1 ⟨Nat.le_of_ble_eq_true rfl, Nat.le_of_ble_eq_true rfl⟩).run (fun r hw => ?_)
  rcases Bool.eq_false_or_eq_true (bw p0 0 9) with b_1 | b_1
  ·
    obtain rfl : r = 1 := b_t hw b_1
    refine lv_if_eq (tgt := 19) hx hb dX12_bill_4 (by decide) (fun c_2 => absurd c_2 (by decide)) (fun c_2 => ?_)
    refine lv_iload_n hx hb dX12_bill_7 rfl (lv_at hl 2 rfl) ?_
    refine lv_iconst (v := 0) hx hb dX12_bill_8 (by decide) ?_
    refine lv_aload_n hx hb dX12_bill_9 rfl (lv_at hl 0 rfl) ?_
    refine va_get (D := (dC, dI)) (ci := 11) (v := .int (u.1 38)) (C := RX12) (T := TX12) (N := 52) hx hb hts zl_X12_bill_X12 hown hK hP 0 rfl rfl 38 (by decide) (hts (.fieldLink RX12 206 "PageOneModel" "day" "I") (zat q_wsX12_bill k_wsX12_bill 920 rfl (by decide +kernel))) (fun _ h9 => h9) rfl dX12_bill_10 ?_
    refine vp_callSi (va_runS (As := [.int p1, .int 0, .int (u.1 38)]) (rest := []) ⟨hx, hb, hml, hown, hts⟩ (m_in l dC dI p1 0 (u.1 38)) (va_cwS 3 hts gX12_bill_X12_in rfl rfl rfl zh_X12_in_0 ⟨Nat.le_of_ble_eq_true rfl, Nat.le_of_ble_eq_true rfl⟩) ⟨pw_fb, fun U hU hW => ⟨rfl, pw_to hU hW (hP.sub (ws' := []) [] rfl) (hK.sub (tys' := []) [] rfl) hN⟩⟩ rfl rfl hl.1 rfl (lv_room (Nat.le_of_ble_eq_true rfl)) dX12_bill_13 ⟨Nat.le_of_ble_eq_true rfl, Nat.le_of_ble_eq_true rfl⟩).run (fun r hw => ?_)
    rcases Bool.eq_false_or_eq_true (bw p1 0 (u.1 38)) with b_3 | b_3
    ·
      obtain rfl : r = 1 := b_t hw b_3
      refine lv_if_ne (tgt := 21) hx hb dX12_bill_16 (by decide) (fun c_4 => ?_) (fun c_4 => absurd c_4 (by decide))
      refine lv_iconst (v := 0) hx hb dX12_bill_21 (by decide) ?_
      refine lv_istore_n (lv' := [(3, .int 0), (0, .ref h0), (1, .int p0), (2, .int p1)]) hx hb dX12_bill_22 rfl hl (by decide) rfl (fun ls hl => ?_)
      refine lv_iconst (v := 0) hx hb dX12_bill_23 (by decide) ?_
      refine lv_istore (lv' := [(4, .int 0), (3, .int 0), (0, .ref h0), (1, .int p0), (2, .int p1)]) hx hb dX12_bill_24 hl (by decide) rfl (fun ls hl => ?_)
      obtain ⟨eK, eK2, eK3⟩ := nI_of_bw hn
      have h80 : (80 : Int32).toInt = 80 := rfl
      have hd9 : bw p1 0 399 = true := by have h1 := bw_iff.mp b_3; have h2 := bw_iff.mp hd; rw [bw_iff]; omega
      refine n_bl_out (M := (u.1 3).toNatClampNeg) hx hb hml hts hown hN hK (Nat.le_of_ble_eq_true rfl) (Nat.le_of_ble_eq_true rfl) (Nat.le_of_ble_eq_true rfl) (Nat.le_of_ble_eq_true rfl) hP (by omega) eK hd9 (fun a ls hg hl => ?_) _ 0 0 ls (Nat.zero_le _) (Nat.lt_succ_self _) rfl (lv_sub hl [0, 1, 2, 3, 4] rfl)
      refine lv_iload_n hx hb dX12_bill_173 rfl (lv_at hl 1 rfl) ?_
      exact W.iret (v := a) hx hb hr (fun t ht hW => ⟨_, rfl, (by unfold mBillX; rw [if_pos b_1, if_pos b_3]; exact hg), ht⟩) (fun q h => absurd h List.not_mem_nil) dX12_bill_174
    ·
      obtain rfl : r = 0 := b_f hw b_3
      refine lv_if_ne (tgt := 21) hx hb dX12_bill_16 (by decide) (fun c_5 => absurd (by decide) c_5) (fun c_5 => ?_)
      refine lv_iconst (v := (-1)) hx hb dX12_bill_19 (by decide) ?_
      exact W.iret (v := (-1)) hx hb hr (fun t ht hW => ⟨_, rfl, (by unfold mBillX; rw [if_neg (show ¬ bw p1 0 (u.1 38) = true from bne b_3)]; split <;> rfl), ht⟩) (fun q h => absurd h List.not_mem_nil) dX12_bill_20
  ·
    obtain rfl : r = 0 := b_f hw b_1
    refine lv_if_eq (tgt := 19) hx hb dX12_bill_4 (by decide) (fun c_6 => ?_) (fun c_6 => absurd (by decide) c_6)
    refine lv_iconst (v := (-1)) hx hb dX12_bill_19 (by decide) ?_
    exact W.iret (v := (-1)) hx hb hr (fun t ht hW => ⟨_, rfl, (by unfold mBillX; rw [if_neg (bne b_1)]), ht⟩) (fun q h => absurd h List.not_mem_nil) dX12_bill_20
/-- the desk cleared, as the reference clears it -/
theorem rep_dayS {q d u z f} (h : rep q d (cdU u) z f) : rep q d (dayS u (u.1 3).toNatClampNeg) z f := by
  have e2 : (cdU u).2 2 = fillF (u.2 2) 5760 (-2) := by
    funext j
    rfl
  have e22 : (cdU u).2 22 = fillF (u.2 22) (u.1 3).toNatClampNeg 0 := by
    funext j
    rfl
  have ek : ∀ r, r ≠ 2 → r ≠ 22 → (cdU u).2 r = u.2 r := fun r h1 h2 => by
    unfold cdU cd2 cd1
    rw [mput_other h1, mput_other h2]
  refine rep_ext h (dayS_1 u (u.1 3).toNatClampNeg).2.2.2.2 (fun r hr => ?_) (fun r r1 r2 j _ t _ => by rw [dayS_k _ _ (by omega) (by omega), ek r (by omega) (by omega)])
  by_cases h2 : r = 2
  · rw [h2, dayS_2, e2]
  · by_cases h3 : r = 22
    · rw [h3, dayS_22, e22]
    · rw [dayS_k _ _ h2 h3, ek r h2 h3]
/-- a maker keeps: where no item is, nothing is told -/
theorem nwI_mk {u w : mS} (h : nwI u) (hS : mkS u w (u.1 3).toNatClampNeg) (h3 : (w.1 3).toNatClampNeg = (u.1 3).toNatClampNeg + 1) : nwI w := by
  intro i hi h8
  obtain ⟨a, b, c, e, g⟩ := h i (by omega) h8
  have q : ∀ r, r < 4 ∨ (15 < r ∧ r ≠ 17 ∧ r ≠ 22) → w.2 r = u.2 r := hS.2.2
  exact ⟨fun t ht => by rw [q 47 (by omega)]; exact a t ht, fun t ht => by rw [q 16 (by omega)]; exact b t ht, fun t ht => by rw [q 18 (by omega), q 19 (by omega)]; exact c t ht, fun t ht => by rw [q 21 (by omega)]; exact e t ht, fun t ht => by rw [q 48 (by omega)]; exact g t ht⟩
theorem plI_c {u w : mS} (h : plI u) (hr : ∀ r, 40 ≤ r → r ≤ 46 → w.2 r = u.2 r) : plI w := by
  unfold plI plN plF at h ⊢
  rw [hr 40 (by omega) (by omega), hr 43 (by omega) (by omega), hr 44 (by omega) (by omega), hr 45 (by omega) (by omega), hr 46 (by omega) (by omega)]
  exact h
theorem nle {a b : Nat} (ha : a < 1000) (hb : b < 1000) : nI a ≤ nI b ↔ a ≤ b := by
  rw [i32_le, nI_toInt (by omega), nI_toInt (by omega)]; omega
theorem neq {a b : Nat} (ha : a < 1000) (hb : b < 1000) : nI a = nI b ↔ a = b := nI_inj (by omega) (by omega)
/-- beside, in plain numbers -/
theorem bes_iff {P X Y D N P2 X2 Y2 D2 N2 : Nat} (h1 : P < 200 ∧ X < 200 ∧ Y < 200 ∧ D < 200 ∧ N < 200) (h2 : P2 < 200 ∧ X2 < 200 ∧ Y2 < 200 ∧ D2 < 200 ∧ N2 < 200) : ¬ s_isBeside (nI P) (nI X) (nI Y) (nI D) (nI N) (nI P2) (nI X2) (nI Y2) (nI D2) (nI N2) = 0 ↔ (X + D = X2 ∨ X2 + D2 = X) ∧ P = P2 ∧ Y < Y2 + N2 ∧ Y2 < Y + N := by
  unfold s_isBeside
  rw [nI_add X D, nI_add Y2 N2, nI_add Y N, nI_add X2 D2]
  have core : ¬ (if nI P = nI P2 then (if nI (Y2 + N2) ≤ nI Y then (0 : Int32) else (if nI (Y + N) ≤ nI Y2 then 0 else 1)) else 0) = 0 ↔ P = P2 ∧ Y < Y2 + N2 ∧ Y2 < Y + N := by
    by_cases e : P = P2
    · rw [if_pos ((neq (by omega) (by omega)).mpr e)]
      by_cases a : Y2 + N2 ≤ Y
      · rw [if_pos ((nle (by omega) (by omega)).mpr a)]
        exact ⟨fun h => absurd rfl h, fun h => by omega⟩
      · rw [if_neg (fun q => a ((nle (by omega) (by omega)).mp q))]
        by_cases b : Y + N ≤ Y2
        · rw [if_pos ((nle (by omega) (by omega)).mpr b)]
          exact ⟨fun h => absurd rfl h, fun h => by omega⟩
        · rw [if_neg (fun q => b ((nle (by omega) (by omega)).mp q))]
          exact ⟨fun _ => ⟨e, by omega, by omega⟩, fun _ => by decide⟩
    · rw [if_neg (fun q => e ((neq (by omega) (by omega)).mp q))]
      exact ⟨fun h => absurd rfl h, fun h => absurd h.1 e⟩
  by_cases c1 : X + D = X2
  · rw [if_pos ((neq (by omega) (by omega)).mpr c1), core]
    exact ⟨fun h => ⟨Or.inl c1, h⟩, fun h => h.2⟩
  · rw [if_neg (fun q => c1 ((neq (by omega) (by omega)).mp q))]
    by_cases c2 : X2 + D2 = X
    · rw [if_pos ((neq (by omega) (by omega)).mpr c2), core]
      exact ⟨fun h => ⟨Or.inr c2, h⟩, fun h => h.2⟩
    · rw [if_neg (fun q => c2 ((neq (by omega) (by omega)).mp q)), ite_self]
      exact ⟨fun h => absurd rfl h, fun h => by omega⟩
/-- over or under, in plain numbers -/
theorem ovr_iff {P X Y D N P2 X2 Y2 D2 N2 : Nat} (h1 : P < 200 ∧ X < 200 ∧ Y < 200 ∧ D < 200 ∧ N < 200) (h2 : P2 < 200 ∧ X2 < 200 ∧ Y2 < 200 ∧ D2 < 200 ∧ N2 < 200) : ¬ s_isOverOrUnder (nI P) (nI X) (nI Y) (nI D) (nI N) (nI P2) (nI X2) (nI Y2) (nI D2) (nI N2) = 0 ↔ (Y + N = Y2 ∨ Y2 + N2 = Y) ∧ P = P2 ∧ X < X2 + D2 ∧ X2 < X + D := by
  unfold s_isOverOrUnder
  rw [nI_add Y N, nI_add X2 D2, nI_add X D, nI_add Y2 N2]
  have core : ¬ (if nI P = nI P2 then (if nI (X2 + D2) ≤ nI X then (0 : Int32) else (if nI (X + D) ≤ nI X2 then 0 else 1)) else 0) = 0 ↔ P = P2 ∧ X < X2 + D2 ∧ X2 < X + D := by
    by_cases e : P = P2
    · rw [if_pos ((neq (by omega) (by omega)).mpr e)]
      by_cases a : X2 + D2 ≤ X
      · rw [if_pos ((nle (by omega) (by omega)).mpr a)]
        exact ⟨fun h => absurd rfl h, fun h => by omega⟩
      · rw [if_neg (fun q => a ((nle (by omega) (by omega)).mp q))]
        by_cases b : X + D ≤ X2
        · rw [if_pos ((nle (by omega) (by omega)).mpr b)]
          exact ⟨fun h => absurd rfl h, fun h => by omega⟩
        · rw [if_neg (fun q => b ((nle (by omega) (by omega)).mp q))]
          exact ⟨fun _ => ⟨e, by omega, by omega⟩, fun _ => by decide⟩
    · rw [if_neg (fun q => e ((neq (by omega) (by omega)).mp q))]
      exact ⟨fun h => absurd rfl h, fun h => absurd h.1 e⟩
  by_cases c1 : Y + N = Y2
  · rw [if_pos ((neq (by omega) (by omega)).mpr c1), core]
    exact ⟨fun h => ⟨Or.inl c1, h⟩, fun h => h.2⟩
  · rw [if_neg (fun q => c1 ((neq (by omega) (by omega)).mp q))]
    by_cases c2 : Y2 + N2 = Y
    · rw [if_pos ((neq (by omega) (by omega)).mpr c2), core]
      exact ⟨fun h => ⟨Or.inr c2, h⟩, fun h => h.2⟩
    · rw [if_neg (fun q => c2 ((neq (by omega) (by omega)).mp q)), ite_self]
      exact ⟨fun h => absurd rfl h, fun h => by omega⟩
theorem popAll_28 : ∀ (xs : List fX) (u : mS), (popAll u xs).1 28 = u.1 28
  | [], _ => rfl
  | x :: xs, u => by
    show (popAll (popS u x) xs).1 28 = _
    rw [popAll_28 xs]
    show (mset u 36 (u.1 36 - 1)).1 28 = _
    rfl
set_option maxHeartbeats 4000000 in
set_option maxRecDepth 100000 in
theorem n_undoP (l : Launch) (dC : Nat → ClassId) (dI : Nat → Nat → Nat) (h0 : Nat) (v : Nat → Nat) (cI cZ : ClassId) (u : mS) (a : Nat) (P X Y D N : Nat) (hPP : P < 12) (hXW : X + D ≤ 8) (hYN : Y + N ≤ 60) (ha8 : a < 80) (h30 : u.2 30 (u.1 28 - 1).toNatClampNeg = nI a) (hsl : slR u (nI a) P X Y D N) (hz0 : ¬ u.1 28 = 0) (ha1 : bw (u.1 28 - 1) 0 299 = true) (h29 : u.2 29 (u.1 28 - 1).toNatClampNeg = 0) (sz : Nat) : Met l yX12_undo wsX12_undo ({ frames := 3, cells := 0, slots := 0, locals := 77 }) (va_Pc [.ref h0] (fun U => U.heap.size = sz ∧ PW dC dI (mW h0 v cI cZ u) [(cI, .int), (cZ, .boolean)] U ∧ va_D (fun _ => True) (mW h0 v cI cZ u))) (va_Qi (fun (r : Int32) (u9 : mS) => r = u.1 28 - 1 ∧ u9 = mUnstand (mBack u) (nI a) P X Y D N) (fun u9 t => va_P (dC, dI) vwCl (mW h0 v cI cZ u9) t.heap ∧ va_D (va_A (mW h0 v cI cZ u) sz) (mW h0 v cI cZ u9)) (va_A (mW h0 v cI cZ u) sz)) 0 0 (va_A (mW h0 v cI cZ u) sz) := by
  refine Met.ofW (cc := cX12_undo) (maxL := 3) (ret := (some .int)) (by decide) rfl ?_
  intro p e s m args below meth c s₁ B hml hv
  obtain ⟨rfl, hsz, ⟨hP, hK, hN⟩, hD0⟩ := hv
  have hx := B.exec
  have hb := B.bytes
  have hr := B.returns
  have hts := atoms_spec (ws := wsX12_undo) B.pre
  have hown : s.vm.findClass RX12 = some m.cls := findClass_of_methodNamed B.named
  have hlocks := B.notSynchronized
  subst hsz
  have hD := hD0.self (sz := s.heap.size)
  generalize hAe : va_A (mW h0 v cI cZ u) s.heap.size = A at hD ⊢
  have hA : ∀ q : Nat, s.heap.size ≤ q → A q := fun q h => by rw [← hAe]; exact Or.inr h
  have hS : va_S A s.heap s.heap [] := va_S.rf
  have hl := lv_entry ([.ref h0]) (n := 3) (Nat.le_of_ble_eq_true rfl)
  rw [lg_entry_eq]
  generalize (lg_sl ([.ref h0]) ++ List.replicate (3 - (lg_sl ([.ref h0])).length) Slot.unset).toArray = ls at hl ⊢
  have hl : lv_has ls 3 [(0, .ref h0)] := hl
  refine lv_aload_n hx hb dX12_undo_0 rfl (lv_at hl 0 rfl) ?_
  refine va_get (D := (dC, dI)) (ci := 11) (v := .int (u.1 28)) (C := RX12) (T := TX12) (N := 52) hx hb hts zl_X12_undo_X12 hown hK hP 0 rfl rfl 28 (by decide) (hts (.fieldLink RX12 158 "PageOneModel" "acts" "I") (zat q_wsX12_undo k_wsX12_undo 910 rfl (by decide +kernel))) (fun _ h9 => h9) rfl dX12_undo_1 ?_
  refine lv_if_ne (tgt := 9) hx hb dX12_undo_4 (by decide) (fun c_1 => ?_) (fun c_1 => absurd c_1 (hz0))
  refine lv_aload_n hx hb dX12_undo_9 rfl (lv_at hl 0 rfl) ?_
  refine lv_dup hx hb dX12_undo_10 rfl ?_
  refine va_get (D := (dC, dI)) (ci := 11) (v := .int (u.1 28)) (C := RX12) (T := TX12) (N := 52) hx hb hts zl_X12_undo_X12 hown hK hP 0 rfl rfl 28 (by decide) (hts (.fieldLink RX12 158 "PageOneModel" "acts" "I") (zat q_wsX12_undo k_wsX12_undo 910 rfl (by decide +kernel))) (fun _ h9 => h9) rfl dX12_undo_11 ?_
  refine lv_iconst (v := 1) hx hb dX12_undo_14 (by decide) ?_
  refine lv_isub hx hb dX12_undo_15 ?_
  refine va_put (D := (dC, dI)) (ci := 11) (v := .int ((u.1 28) - 1)) (ty := .int) (C := RX12) (T := TX12) (N := 52) hx hb hts zl_X12_undo_X12 tyX12 tyX12_ok nmX12 hown hK hP hD hS 0 rfl rfl 28 (by decide) (hts (.fieldLink RX12 158 "PageOneModel" "acts" "I") (zat q_wsX12_undo k_wsX12_undo 910 rfl (by decide +kernel))) (fun _ h9 => h9) rfl (tyX12_ok 28 (by decide)) rfl rfl (Nat.le_of_ble_eq_true rfl) dX12_undo_16 (fun H locs hP hD hS => ?_)
  obtain ⟨u_2, eu_2⟩ : ∃ zz : mS, zz = mset u 28 ((u.1 28) - 1) := ⟨_, rfl⟩
  have hP : va_P (dC, dI) vwCl (mW h0 v cI cZ u_2) H := by rw [eu_2]; exact hP
  have hD : va_D A (mW h0 v cI cZ u_2) := by rw [eu_2]; exact hD
  refine lv_aload_n hx hb dX12_undo_19 rfl (lv_at hl 0 rfl) ?_
  refine va_get (D := (dC, dI)) (ci := 11) (v := .ref (v 30)) (C := RX12) (T := TX12) (N := 52) hx hb hts zl_X12_undo_X12 hown hK hP 0 rfl rfl 30 (by decide) (hts (.fieldLink RX12 95 "PageOneModel" "actA" "[I") (zat q_wsX12_undo k_wsX12_undo 912 rfl (by decide +kernel))) (fun _ h9 => h9) rfl dX12_undo_20 ?_
  refine lv_aload_n hx hb dX12_undo_23 rfl (lv_at hl 0 rfl) ?_
  refine va_get (D := (dC, dI)) (ci := 11) (v := .int (u_2.1 28)) (C := RX12) (T := TX12) (N := 52) hx hb hts zl_X12_undo_X12 hown hK hP 0 rfl rfl 28 (by decide) (hts (.fieldLink RX12 158 "PageOneModel" "acts" "I") (zat q_wsX12_undo k_wsX12_undo 910 rfl (by decide +kernel))) (fun _ h9 => h9) rfl dX12_undo_24 ?_
  refine va_iald hx hb hK hP 29 0 rfl rfl (by rw [eu_2, mset_same]; exact vAct ha1) dX12_undo_27 ?_
  refine lv_topi (fun y_3 ey_3 => ?_)
  obtain rfl : y_3 = (nI a) := ey_3.trans ((by rw [eu_2, mset_same]; exact h30))
  refine lv_istore_n (lv' := [(1, .int (nI a)), (0, .ref h0)]) hx hb dX12_undo_28 rfl hl (by decide) rfl (fun ls hl => ?_)
  refine lv_aload_n hx hb dX12_undo_29 rfl (lv_at hl 1 rfl) ?_
  refine va_get (D := (dC, dI)) (ci := 11) (v := .ref (v 29)) (C := RX12) (T := TX12) (N := 52) hx hb hts zl_X12_undo_X12 hown hK hP 0 rfl rfl 29 (by decide) (hts (.fieldLink RX12 92 "PageOneModel" "actKind" "[I") (zat q_wsX12_undo k_wsX12_undo 911 rfl (by decide +kernel))) (fun _ h9 => h9) rfl dX12_undo_30 ?_
  refine lv_aload_n hx hb dX12_undo_33 rfl (lv_at hl 1 rfl) ?_
  refine va_get (D := (dC, dI)) (ci := 11) (v := .int (u_2.1 28)) (C := RX12) (T := TX12) (N := 52) hx hb hts zl_X12_undo_X12 hown hK hP 0 rfl rfl 28 (by decide) (hts (.fieldLink RX12 158 "PageOneModel" "acts" "I") (zat q_wsX12_undo k_wsX12_undo 910 rfl (by decide +kernel))) (fun _ h9 => h9) rfl dX12_undo_34 ?_
  refine va_iald hx hb hK hP 28 0 rfl rfl (by rw [eu_2, mset_same]; exact vAct ha1) dX12_undo_37 ?_
  refine lv_topi (fun y_4 ey_4 => ?_)
  obtain rfl : y_4 = 0 := ey_4.trans ((by rw [eu_2, mset_same]; exact h29))
  refine lv_tableIn (tgt := 64) (off := 26) hx hb dX12_undo_38 (by decide) (by decide) (by decide) (by decide) ?_
  refine lv_aload_n hx hb dX12_undo_64 rfl (lv_at hl 1 rfl) ?_
  refine lv_iload_n hx hb dX12_undo_65 rfl (lv_at hl 0 rfl) ?_
  have hFc := fr_all hD hS hA
  refine va_callv (va_runV (As := [.int (nI a)]) (rest := []) ⟨hx, hb, hml, hown, hts⟩ (m_unstand l dC dI h0 v cI cZ u_2 (nI a) P X Y D N hPP hXW hYN (bw79 ha8) (by rw [eu_2]; exact hsl.1) (by rw [eu_2]; exact hsl.2.1) (by rw [eu_2]; exact hsl.2.2.1) (by rw [eu_2]; exact hsl.2.2.2.1) (by rw [eu_2]; exact hsl.2.2.2.2.1) (by rw [eu_2]; exact hsl.2.2.2.2.2) H.size) (cwV 1 hts gX12_undo_X12_unstand rfl rfl rfl zh_X12_unstand_14 ⟨Nat.le_of_ble_eq_true rfl, Nat.le_of_ble_eq_true rfl⟩) ⟨gw_fb, va_recv hK hP (ci := 11) (q0 := 0) rfl rfl, fun U hU hW => ⟨rfl, by rw [hU], pw_to hU hW hP hK hN, hD.weaken (fun _ _ _ _ => trivial)⟩⟩ rfl rfl hl.1 rfl (lv_room (Nat.le_of_ble_eq_true rfl)) dX12_undo_66 ⟨Nat.le_of_ble_eq_true rfl, Nat.le_of_ble_eq_true rfl⟩) hS (fun q _ h => hFc q h) hFc (fun u_5 t H1 locs ht hvm hw hB hz1 hk1 hS => ?_)
  obtain ⟨hP, hD1⟩ := hB
  rw [ht] at hP
  have hD := hD1.weaken (fun _ q _ h => hFc q.1 h)
  generalize H1 = H at hP hS ⊢
  have eu_5 := hw
  refine lv_goto (tgt := 193) hx hb dX12_undo_69 (by decide) ?_
  refine lv_aload_n hx hb dX12_undo_193 rfl (lv_at hl 1 rfl) ?_
  refine va_get (D := (dC, dI)) (ci := 11) (v := .int (u_5.1 28)) (C := RX12) (T := TX12) (N := 52) hx hb hts zl_X12_undo_X12 hown hK hP 0 rfl rfl 28 (by decide) (hts (.fieldLink RX12 158 "PageOneModel" "acts" "I") (zat q_wsX12_undo k_wsX12_undo 910 rfl (by decide +kernel))) (fun _ h9 => h9) rfl dX12_undo_194 ?_
  exact W.iret (v := (u_5.1 28)) hx hb hr (fun t ht hW => ⟨⟨(u_5.1 28), u_5, rfl, ⟨(by rw [eu_5, eu_2]; exact back_28 u), (by rw [eu_5, eu_2]; rfl)⟩, by rw [ht]; exact hP, hD⟩, hS.F ht⟩) hS.2.2 dX12_undo_197
set_option maxHeartbeats 4000000 in
set_option maxRecDepth 100000 in
theorem n_undoL (l : Launch) (dC : Nat → ClassId) (dI : Nat → Nat → Nat) (h0 : Nat) (v : Nat → Nat) (cI cZ : ClassId) (u : mS) (a : Nat) (P X Y D N : Nat) (hPP : P < 12) (hXW : X + D ≤ 8) (hYN : Y + N ≤ 60) (ha8 : a < 80) (h30 : u.2 30 (u.1 28 - 1).toNatClampNeg = nI a) (h31 : u.2 31 (u.1 28 - 1).toNatClampNeg = nI P) (h32 : u.2 32 (u.1 28 - 1).toNatClampNeg = nI X) (h33 : u.2 33 (u.1 28 - 1).toNatClampNeg = nI Y) (h34 : u.2 34 (u.1 28 - 1).toNatClampNeg = nI D) (h35 : u.2 35 (u.1 28 - 1).toNatClampNeg = nI N) (hq5 : bw (u.2 22 (nI a).toNatClampNeg) 0 5 = true) (hz0 : ¬ u.1 28 = 0) (ha1 : bw (u.1 28 - 1) 0 299 = true) (h29 : u.2 29 (u.1 28 - 1).toNatClampNeg = 1) (sz : Nat) : Met l yX12_undo wsX12_undo ({ frames := 3, cells := 0, slots := 0, locals := 77 }) (va_Pc [.ref h0] (fun U => U.heap.size = sz ∧ PW dC dI (mW h0 v cI cZ u) [(cI, .int), (cZ, .boolean)] U ∧ va_D (fun _ => True) (mW h0 v cI cZ u))) (va_Qi (fun (r : Int32) (u9 : mS) => r = u.1 28 - 1 ∧ u9 = mStand (mBack u) (nI a) P X Y D N) (fun u9 t => va_P (dC, dI) vwCl (mW h0 v cI cZ u9) t.heap ∧ va_D (va_A (mW h0 v cI cZ u) sz) (mW h0 v cI cZ u9)) (va_A (mW h0 v cI cZ u) sz)) 0 0 (va_A (mW h0 v cI cZ u) sz) := by
  refine Met.ofW (cc := cX12_undo) (maxL := 3) (ret := (some .int)) (by decide) rfl ?_
  intro p e s m args below meth c s₁ B hml hv
  obtain ⟨rfl, hsz, ⟨hP, hK, hN⟩, hD0⟩ := hv
  have hx := B.exec
  have hb := B.bytes
  have hr := B.returns
  have hts := atoms_spec (ws := wsX12_undo) B.pre
  have hown : s.vm.findClass RX12 = some m.cls := findClass_of_methodNamed B.named
  have hlocks := B.notSynchronized
  subst hsz
  have hD := hD0.self (sz := s.heap.size)
  generalize hAe : va_A (mW h0 v cI cZ u) s.heap.size = A at hD ⊢
  have hA : ∀ q : Nat, s.heap.size ≤ q → A q := fun q h => by rw [← hAe]; exact Or.inr h
  have hS : va_S A s.heap s.heap [] := va_S.rf
  have hl := lv_entry ([.ref h0]) (n := 3) (Nat.le_of_ble_eq_true rfl)
  rw [lg_entry_eq]
  generalize (lg_sl ([.ref h0]) ++ List.replicate (3 - (lg_sl ([.ref h0])).length) Slot.unset).toArray = ls at hl ⊢
  have hl : lv_has ls 3 [(0, .ref h0)] := hl
  refine lv_aload_n hx hb dX12_undo_0 rfl (lv_at hl 0 rfl) ?_
  refine va_get (D := (dC, dI)) (ci := 11) (v := .int (u.1 28)) (C := RX12) (T := TX12) (N := 52) hx hb hts zl_X12_undo_X12 hown hK hP 0 rfl rfl 28 (by decide) (hts (.fieldLink RX12 158 "PageOneModel" "acts" "I") (zat q_wsX12_undo k_wsX12_undo 910 rfl (by decide +kernel))) (fun _ h9 => h9) rfl dX12_undo_1 ?_
  refine lv_if_ne (tgt := 9) hx hb dX12_undo_4 (by decide) (fun c_1 => ?_) (fun c_1 => absurd c_1 (hz0))
  refine lv_aload_n hx hb dX12_undo_9 rfl (lv_at hl 0 rfl) ?_
  refine lv_dup hx hb dX12_undo_10 rfl ?_
  refine va_get (D := (dC, dI)) (ci := 11) (v := .int (u.1 28)) (C := RX12) (T := TX12) (N := 52) hx hb hts zl_X12_undo_X12 hown hK hP 0 rfl rfl 28 (by decide) (hts (.fieldLink RX12 158 "PageOneModel" "acts" "I") (zat q_wsX12_undo k_wsX12_undo 910 rfl (by decide +kernel))) (fun _ h9 => h9) rfl dX12_undo_11 ?_
  refine lv_iconst (v := 1) hx hb dX12_undo_14 (by decide) ?_
  refine lv_isub hx hb dX12_undo_15 ?_
  refine va_put (D := (dC, dI)) (ci := 11) (v := .int ((u.1 28) - 1)) (ty := .int) (C := RX12) (T := TX12) (N := 52) hx hb hts zl_X12_undo_X12 tyX12 tyX12_ok nmX12 hown hK hP hD hS 0 rfl rfl 28 (by decide) (hts (.fieldLink RX12 158 "PageOneModel" "acts" "I") (zat q_wsX12_undo k_wsX12_undo 910 rfl (by decide +kernel))) (fun _ h9 => h9) rfl (tyX12_ok 28 (by decide)) rfl rfl (Nat.le_of_ble_eq_true rfl) dX12_undo_16 (fun H locs hP hD hS => ?_)
  obtain ⟨u_2, eu_2⟩ : ∃ zz : mS, zz = mset u 28 ((u.1 28) - 1) := ⟨_, rfl⟩
  have hP : va_P (dC, dI) vwCl (mW h0 v cI cZ u_2) H := by rw [eu_2]; exact hP
  have hD : va_D A (mW h0 v cI cZ u_2) := by rw [eu_2]; exact hD
  refine lv_aload_n hx hb dX12_undo_19 rfl (lv_at hl 0 rfl) ?_
  refine va_get (D := (dC, dI)) (ci := 11) (v := .ref (v 30)) (C := RX12) (T := TX12) (N := 52) hx hb hts zl_X12_undo_X12 hown hK hP 0 rfl rfl 30 (by decide) (hts (.fieldLink RX12 95 "PageOneModel" "actA" "[I") (zat q_wsX12_undo k_wsX12_undo 912 rfl (by decide +kernel))) (fun _ h9 => h9) rfl dX12_undo_20 ?_
  refine lv_aload_n hx hb dX12_undo_23 rfl (lv_at hl 0 rfl) ?_
  refine va_get (D := (dC, dI)) (ci := 11) (v := .int (u_2.1 28)) (C := RX12) (T := TX12) (N := 52) hx hb hts zl_X12_undo_X12 hown hK hP 0 rfl rfl 28 (by decide) (hts (.fieldLink RX12 158 "PageOneModel" "acts" "I") (zat q_wsX12_undo k_wsX12_undo 910 rfl (by decide +kernel))) (fun _ h9 => h9) rfl dX12_undo_24 ?_
  refine va_iald hx hb hK hP 29 0 rfl rfl (by rw [eu_2, mset_same]; exact vAct ha1) dX12_undo_27 ?_
  refine lv_topi (fun y_3 ey_3 => ?_)
  obtain rfl : y_3 = (nI a) := ey_3.trans ((by rw [eu_2, mset_same]; exact h30))
  refine lv_istore_n (lv' := [(1, .int (nI a)), (0, .ref h0)]) hx hb dX12_undo_28 rfl hl (by decide) rfl (fun ls hl => ?_)
  refine lv_aload_n hx hb dX12_undo_29 rfl (lv_at hl 1 rfl) ?_
  refine va_get (D := (dC, dI)) (ci := 11) (v := .ref (v 29)) (C := RX12) (T := TX12) (N := 52) hx hb hts zl_X12_undo_X12 hown hK hP 0 rfl rfl 29 (by decide) (hts (.fieldLink RX12 92 "PageOneModel" "actKind" "[I") (zat q_wsX12_undo k_wsX12_undo 911 rfl (by decide +kernel))) (fun _ h9 => h9) rfl dX12_undo_30 ?_
  refine lv_aload_n hx hb dX12_undo_33 rfl (lv_at hl 1 rfl) ?_
  refine va_get (D := (dC, dI)) (ci := 11) (v := .int (u_2.1 28)) (C := RX12) (T := TX12) (N := 52) hx hb hts zl_X12_undo_X12 hown hK hP 0 rfl rfl 28 (by decide) (hts (.fieldLink RX12 158 "PageOneModel" "acts" "I") (zat q_wsX12_undo k_wsX12_undo 910 rfl (by decide +kernel))) (fun _ h9 => h9) rfl dX12_undo_34 ?_
  refine va_iald hx hb hK hP 28 0 rfl rfl (by rw [eu_2, mset_same]; exact vAct ha1) dX12_undo_37 ?_
  refine lv_topi (fun y_4 ey_4 => ?_)
  obtain rfl : y_4 = 1 := ey_4.trans ((by rw [eu_2, mset_same]; exact h29))
  refine lv_tableIn (tgt := 72) (off := 34) hx hb dX12_undo_38 (by decide) (by decide) (by decide) (by decide) ?_
  refine lv_aload_n hx hb dX12_undo_72 rfl (lv_at hl 1 rfl) ?_
  refine lv_iload_n hx hb dX12_undo_73 rfl (lv_at hl 0 rfl) ?_
  refine lv_aload_n hx hb dX12_undo_74 rfl (lv_at hl 1 rfl) ?_
  refine va_get (D := (dC, dI)) (ci := 11) (v := .ref (v 31)) (C := RX12) (T := TX12) (N := 52) hx hb hts zl_X12_undo_X12 hown hK hP 0 rfl rfl 31 (by decide) (hts (.fieldLink RX12 98 "PageOneModel" "actB" "[I") (zat q_wsX12_undo k_wsX12_undo 913 rfl (by decide +kernel))) (fun _ h9 => h9) rfl dX12_undo_75 ?_
  refine lv_aload_n hx hb dX12_undo_78 rfl (lv_at hl 1 rfl) ?_
  refine va_get (D := (dC, dI)) (ci := 11) (v := .int (u_2.1 28)) (C := RX12) (T := TX12) (N := 52) hx hb hts zl_X12_undo_X12 hown hK hP 0 rfl rfl 28 (by decide) (hts (.fieldLink RX12 158 "PageOneModel" "acts" "I") (zat q_wsX12_undo k_wsX12_undo 910 rfl (by decide +kernel))) (fun _ h9 => h9) rfl dX12_undo_79 ?_
  refine va_iald hx hb hK hP 30 0 rfl rfl (by rw [eu_2, mset_same]; exact vAct ha1) dX12_undo_82 ?_
  refine lv_topi (fun y_5 ey_5 => ?_)
  obtain rfl : y_5 = (nI P) := ey_5.trans ((by rw [eu_2, mset_same]; exact h31))
  refine lv_aload_n hx hb dX12_undo_83 rfl (lv_at hl 1 rfl) ?_
  refine va_get (D := (dC, dI)) (ci := 11) (v := .ref (v 32)) (C := RX12) (T := TX12) (N := 52) hx hb hts zl_X12_undo_X12 hown hK hP 0 rfl rfl 32 (by decide) (hts (.fieldLink RX12 101 "PageOneModel" "actC" "[I") (zat q_wsX12_undo k_wsX12_undo 914 rfl (by decide +kernel))) (fun _ h9 => h9) rfl dX12_undo_84 ?_
  refine lv_aload_n hx hb dX12_undo_87 rfl (lv_at hl 1 rfl) ?_
  refine va_get (D := (dC, dI)) (ci := 11) (v := .int (u_2.1 28)) (C := RX12) (T := TX12) (N := 52) hx hb hts zl_X12_undo_X12 hown hK hP 0 rfl rfl 28 (by decide) (hts (.fieldLink RX12 158 "PageOneModel" "acts" "I") (zat q_wsX12_undo k_wsX12_undo 910 rfl (by decide +kernel))) (fun _ h9 => h9) rfl dX12_undo_88 ?_
  refine va_iald hx hb hK hP 31 0 rfl rfl (by rw [eu_2, mset_same]; exact vAct ha1) dX12_undo_91 ?_
  refine lv_topi (fun y_6 ey_6 => ?_)
  obtain rfl : y_6 = (nI X) := ey_6.trans ((by rw [eu_2, mset_same]; exact h32))
  refine lv_aload_n hx hb dX12_undo_92 rfl (lv_at hl 1 rfl) ?_
  refine va_get (D := (dC, dI)) (ci := 11) (v := .ref (v 33)) (C := RX12) (T := TX12) (N := 52) hx hb hts zl_X12_undo_X12 hown hK hP 0 rfl rfl 33 (by decide) (hts (.fieldLink RX12 104 "PageOneModel" "actD" "[I") (zat q_wsX12_undo k_wsX12_undo 915 rfl (by decide +kernel))) (fun _ h9 => h9) rfl dX12_undo_93 ?_
  refine lv_aload_n hx hb dX12_undo_96 rfl (lv_at hl 1 rfl) ?_
  refine va_get (D := (dC, dI)) (ci := 11) (v := .int (u_2.1 28)) (C := RX12) (T := TX12) (N := 52) hx hb hts zl_X12_undo_X12 hown hK hP 0 rfl rfl 28 (by decide) (hts (.fieldLink RX12 158 "PageOneModel" "acts" "I") (zat q_wsX12_undo k_wsX12_undo 910 rfl (by decide +kernel))) (fun _ h9 => h9) rfl dX12_undo_97 ?_
  refine va_iald hx hb hK hP 32 0 rfl rfl (by rw [eu_2, mset_same]; exact vAct ha1) dX12_undo_100 ?_
  refine lv_topi (fun y_7 ey_7 => ?_)
  obtain rfl : y_7 = (nI Y) := ey_7.trans ((by rw [eu_2, mset_same]; exact h33))
  refine lv_aload_n hx hb dX12_undo_101 rfl (lv_at hl 1 rfl) ?_
  refine va_get (D := (dC, dI)) (ci := 11) (v := .ref (v 34)) (C := RX12) (T := TX12) (N := 52) hx hb hts zl_X12_undo_X12 hown hK hP 0 rfl rfl 34 (by decide) (hts (.fieldLink RX12 107 "PageOneModel" "actE" "[I") (zat q_wsX12_undo k_wsX12_undo 916 rfl (by decide +kernel))) (fun _ h9 => h9) rfl dX12_undo_102 ?_
  refine lv_aload_n hx hb dX12_undo_105 rfl (lv_at hl 1 rfl) ?_
  refine va_get (D := (dC, dI)) (ci := 11) (v := .int (u_2.1 28)) (C := RX12) (T := TX12) (N := 52) hx hb hts zl_X12_undo_X12 hown hK hP 0 rfl rfl 28 (by decide) (hts (.fieldLink RX12 158 "PageOneModel" "acts" "I") (zat q_wsX12_undo k_wsX12_undo 910 rfl (by decide +kernel))) (fun _ h9 => h9) rfl dX12_undo_106 ?_
  refine va_iald hx hb hK hP 33 0 rfl rfl (by rw [eu_2, mset_same]; exact vAct ha1) dX12_undo_109 ?_
  refine lv_topi (fun y_8 ey_8 => ?_)
  obtain rfl : y_8 = (nI D) := ey_8.trans ((by rw [eu_2, mset_same]; exact h34))
  refine lv_aload_n hx hb dX12_undo_110 rfl (lv_at hl 1 rfl) ?_
  refine va_get (D := (dC, dI)) (ci := 11) (v := .ref (v 35)) (C := RX12) (T := TX12) (N := 52) hx hb hts zl_X12_undo_X12 hown hK hP 0 rfl rfl 35 (by decide) (hts (.fieldLink RX12 110 "PageOneModel" "actF" "[I") (zat q_wsX12_undo k_wsX12_undo 917 rfl (by decide +kernel))) (fun _ h9 => h9) rfl dX12_undo_111 ?_
  refine lv_aload_n hx hb dX12_undo_114 rfl (lv_at hl 1 rfl) ?_
  refine va_get (D := (dC, dI)) (ci := 11) (v := .int (u_2.1 28)) (C := RX12) (T := TX12) (N := 52) hx hb hts zl_X12_undo_X12 hown hK hP 0 rfl rfl 28 (by decide) (hts (.fieldLink RX12 158 "PageOneModel" "acts" "I") (zat q_wsX12_undo k_wsX12_undo 910 rfl (by decide +kernel))) (fun _ h9 => h9) rfl dX12_undo_115 ?_
  refine va_iald hx hb hK hP 34 0 rfl rfl (by rw [eu_2, mset_same]; exact vAct ha1) dX12_undo_118 ?_
  refine lv_topi (fun y_9 ey_9 => ?_)
  obtain rfl : y_9 = (nI N) := ey_9.trans ((by rw [eu_2, mset_same]; exact h35))
  have hFc := fr_all hD hS hA
  refine va_callv (va_runV (As := [.int (nI a), .int (nI P), .int (nI X), .int (nI Y), .int (nI D), .int (nI N)]) (rest := []) ⟨hx, hb, hml, hown, hts⟩ (m_stand l dC dI h0 v cI cZ u_2 (nI a) P X Y D N hPP hXW hYN (bw79 ha8) (by rw [eu_2]; exact hq5) H.size) (cwV 6 hts gX12_undo_X12_stand rfl rfl rfl zh_X12_stand_25 ⟨Nat.le_of_ble_eq_true rfl, Nat.le_of_ble_eq_true rfl⟩) ⟨gw_fb, va_recv hK hP (ci := 11) (q0 := 0) rfl rfl, fun U hU hW => ⟨rfl, by rw [hU], pw_to hU hW hP hK hN, hD.weaken (fun _ _ _ _ => trivial)⟩⟩ rfl rfl hl.1 rfl (lv_room (Nat.le_of_ble_eq_true rfl)) dX12_undo_119 ⟨Nat.le_of_ble_eq_true rfl, Nat.le_of_ble_eq_true rfl⟩) hS (fun q _ h => hFc q h) hFc (fun u_10 t H1 locs ht hvm hw hB hz1 hk1 hS => ?_)
  obtain ⟨hP, hD1⟩ := hB
  rw [ht] at hP
  have hD := hD1.weaken (fun _ q _ h => hFc q.1 h)
  generalize H1 = H at hP hS ⊢
  have eu_10 := hw
  refine lv_goto (tgt := 193) hx hb dX12_undo_122 (by decide) ?_
  refine lv_aload_n hx hb dX12_undo_193 rfl (lv_at hl 1 rfl) ?_
  refine va_get (D := (dC, dI)) (ci := 11) (v := .int (u_10.1 28)) (C := RX12) (T := TX12) (N := 52) hx hb hts zl_X12_undo_X12 hown hK hP 0 rfl rfl 28 (by decide) (hts (.fieldLink RX12 158 "PageOneModel" "acts" "I") (zat q_wsX12_undo k_wsX12_undo 910 rfl (by decide +kernel))) (fun _ h9 => h9) rfl dX12_undo_194 ?_
  exact W.iret (v := (u_10.1 28)) hx hb hr (fun t ht hW => ⟨⟨(u_10.1 28), u_10, rfl, ⟨(by rw [eu_10, eu_2]; exact back_28 u), (by rw [eu_10, eu_2]; rfl)⟩, by rw [ht]; exact hP, hD⟩, hS.F ht⟩) hS.2.2 dX12_undo_197
set_option maxHeartbeats 4000000 in
set_option maxRecDepth 100000 in
theorem n_undoR (l : Launch) (dC : Nat → ClassId) (dI : Nat → Nat → Nat) (h0 : Nat) (v : Nat → Nat) (cI cZ : ClassId) (u : mS) (P X Y : Nat) (hPP : P < 12) (hX8 : X < 8) (hY6 : Y < 60) (h30 : u.2 30 (u.1 28 - 1).toNatClampNeg = nI P) (h31 : u.2 31 (u.1 28 - 1).toNatClampNeg = nI X) (h32 : u.2 32 (u.1 28 - 1).toNatClampNeg = nI Y) (hz0 : ¬ u.1 28 = 0) (ha1 : bw (u.1 28 - 1) 0 299 = true) (h29 : u.2 29 (u.1 28 - 1).toNatClampNeg = 2) (sz : Nat) : Met l yX12_undo wsX12_undo ({ frames := 3, cells := 0, slots := 0, locals := 77 }) (va_Pc [.ref h0] (fun U => U.heap.size = sz ∧ PW dC dI (mW h0 v cI cZ u) [(cI, .int), (cZ, .boolean)] U ∧ va_D (fun _ => True) (mW h0 v cI cZ u))) (va_Qi (fun (r : Int32) (u9 : mS) => r = u.1 28 - 1 ∧ u9 = mst (mBack u) 2 (480 * nI P + 60 * nI X + nI Y) (-2)) (fun u9 t => va_P (dC, dI) vwCl (mW h0 v cI cZ u9) t.heap ∧ va_D (va_A (mW h0 v cI cZ u) sz) (mW h0 v cI cZ u9)) (va_A (mW h0 v cI cZ u) sz)) 0 0 (va_A (mW h0 v cI cZ u) sz) := by
  refine Met.ofW (cc := cX12_undo) (maxL := 3) (ret := (some .int)) (by decide) rfl ?_
  intro p e s m args below meth c s₁ B hml hv
  obtain ⟨rfl, hsz, ⟨hP, hK, hN⟩, hD0⟩ := hv
  have hx := B.exec
  have hb := B.bytes
  have hr := B.returns
  have hts := atoms_spec (ws := wsX12_undo) B.pre
  have hown : s.vm.findClass RX12 = some m.cls := findClass_of_methodNamed B.named
  have hlocks := B.notSynchronized
  subst hsz
  have hD := hD0.self (sz := s.heap.size)
  generalize hAe : va_A (mW h0 v cI cZ u) s.heap.size = A at hD ⊢
  have hA : ∀ q : Nat, s.heap.size ≤ q → A q := fun q h => by rw [← hAe]; exact Or.inr h
  have hS : va_S A s.heap s.heap [] := va_S.rf
  have hl := lv_entry ([.ref h0]) (n := 3) (Nat.le_of_ble_eq_true rfl)
  rw [lg_entry_eq]
  generalize (lg_sl ([.ref h0]) ++ List.replicate (3 - (lg_sl ([.ref h0])).length) Slot.unset).toArray = ls at hl ⊢
  have hl : lv_has ls 3 [(0, .ref h0)] := hl
  refine lv_aload_n hx hb dX12_undo_0 rfl (lv_at hl 0 rfl) ?_
  refine va_get (D := (dC, dI)) (ci := 11) (v := .int (u.1 28)) (C := RX12) (T := TX12) (N := 52) hx hb hts zl_X12_undo_X12 hown hK hP 0 rfl rfl 28 (by decide) (hts (.fieldLink RX12 158 "PageOneModel" "acts" "I") (zat q_wsX12_undo k_wsX12_undo 910 rfl (by decide +kernel))) (fun _ h9 => h9) rfl dX12_undo_1 ?_
  refine lv_if_ne (tgt := 9) hx hb dX12_undo_4 (by decide) (fun c_1 => ?_) (fun c_1 => absurd c_1 (hz0))
  refine lv_aload_n hx hb dX12_undo_9 rfl (lv_at hl 0 rfl) ?_
  refine lv_dup hx hb dX12_undo_10 rfl ?_
  refine va_get (D := (dC, dI)) (ci := 11) (v := .int (u.1 28)) (C := RX12) (T := TX12) (N := 52) hx hb hts zl_X12_undo_X12 hown hK hP 0 rfl rfl 28 (by decide) (hts (.fieldLink RX12 158 "PageOneModel" "acts" "I") (zat q_wsX12_undo k_wsX12_undo 910 rfl (by decide +kernel))) (fun _ h9 => h9) rfl dX12_undo_11 ?_
  refine lv_iconst (v := 1) hx hb dX12_undo_14 (by decide) ?_
  refine lv_isub hx hb dX12_undo_15 ?_
  refine va_put (D := (dC, dI)) (ci := 11) (v := .int ((u.1 28) - 1)) (ty := .int) (C := RX12) (T := TX12) (N := 52) hx hb hts zl_X12_undo_X12 tyX12 tyX12_ok nmX12 hown hK hP hD hS 0 rfl rfl 28 (by decide) (hts (.fieldLink RX12 158 "PageOneModel" "acts" "I") (zat q_wsX12_undo k_wsX12_undo 910 rfl (by decide +kernel))) (fun _ h9 => h9) rfl (tyX12_ok 28 (by decide)) rfl rfl (Nat.le_of_ble_eq_true rfl) dX12_undo_16 (fun H locs hP hD hS => ?_)
  obtain ⟨u_2, eu_2⟩ : ∃ zz : mS, zz = mset u 28 ((u.1 28) - 1) := ⟨_, rfl⟩
  have hP : va_P (dC, dI) vwCl (mW h0 v cI cZ u_2) H := by rw [eu_2]; exact hP
  have hD : va_D A (mW h0 v cI cZ u_2) := by rw [eu_2]; exact hD
  refine lv_aload_n hx hb dX12_undo_19 rfl (lv_at hl 0 rfl) ?_
  refine va_get (D := (dC, dI)) (ci := 11) (v := .ref (v 30)) (C := RX12) (T := TX12) (N := 52) hx hb hts zl_X12_undo_X12 hown hK hP 0 rfl rfl 30 (by decide) (hts (.fieldLink RX12 95 "PageOneModel" "actA" "[I") (zat q_wsX12_undo k_wsX12_undo 912 rfl (by decide +kernel))) (fun _ h9 => h9) rfl dX12_undo_20 ?_
  refine lv_aload_n hx hb dX12_undo_23 rfl (lv_at hl 0 rfl) ?_
  refine va_get (D := (dC, dI)) (ci := 11) (v := .int (u_2.1 28)) (C := RX12) (T := TX12) (N := 52) hx hb hts zl_X12_undo_X12 hown hK hP 0 rfl rfl 28 (by decide) (hts (.fieldLink RX12 158 "PageOneModel" "acts" "I") (zat q_wsX12_undo k_wsX12_undo 910 rfl (by decide +kernel))) (fun _ h9 => h9) rfl dX12_undo_24 ?_
  refine va_iald hx hb hK hP 29 0 rfl rfl (by rw [eu_2, mset_same]; exact vAct ha1) dX12_undo_27 ?_
  refine lv_topi (fun y_3 ey_3 => ?_)
  obtain rfl : y_3 = (nI P) := ey_3.trans ((by rw [eu_2, mset_same]; exact h30))
  refine lv_istore_n (lv' := [(1, .int (nI P)), (0, .ref h0)]) hx hb dX12_undo_28 rfl hl (by decide) rfl (fun ls hl => ?_)
  refine lv_aload_n hx hb dX12_undo_29 rfl (lv_at hl 1 rfl) ?_
  refine va_get (D := (dC, dI)) (ci := 11) (v := .ref (v 29)) (C := RX12) (T := TX12) (N := 52) hx hb hts zl_X12_undo_X12 hown hK hP 0 rfl rfl 29 (by decide) (hts (.fieldLink RX12 92 "PageOneModel" "actKind" "[I") (zat q_wsX12_undo k_wsX12_undo 911 rfl (by decide +kernel))) (fun _ h9 => h9) rfl dX12_undo_30 ?_
  refine lv_aload_n hx hb dX12_undo_33 rfl (lv_at hl 1 rfl) ?_
  refine va_get (D := (dC, dI)) (ci := 11) (v := .int (u_2.1 28)) (C := RX12) (T := TX12) (N := 52) hx hb hts zl_X12_undo_X12 hown hK hP 0 rfl rfl 28 (by decide) (hts (.fieldLink RX12 158 "PageOneModel" "acts" "I") (zat q_wsX12_undo k_wsX12_undo 910 rfl (by decide +kernel))) (fun _ h9 => h9) rfl dX12_undo_34 ?_
  refine va_iald hx hb hK hP 28 0 rfl rfl (by rw [eu_2, mset_same]; exact vAct ha1) dX12_undo_37 ?_
  refine lv_topi (fun y_4 ey_4 => ?_)
  obtain rfl : y_4 = 2 := ey_4.trans ((by rw [eu_2, mset_same]; exact h29))
  refine lv_tableIn (tgt := 125) (off := 87) hx hb dX12_undo_38 (by decide) (by decide) (by decide) (by decide) ?_
  refine lv_aload_n hx hb dX12_undo_125 rfl (lv_at hl 1 rfl) ?_
  refine va_get (D := (dC, dI)) (ci := 11) (v := .ref (v 2)) (C := RX12) (T := TX12) (N := 52) hx hb hts zl_X12_undo_X12 hown hK hP 0 rfl rfl 2 (by decide) (hts (.fieldLink RX12 16 "PageOneModel" "cell" "[I") (zat q_wsX12_undo k_wsX12_undo 884 rfl (by decide +kernel))) (fun _ h9 => h9) rfl dX12_undo_126 ?_
  refine lv_iload_n hx hb dX12_undo_129 rfl (lv_at hl 0 rfl) ?_
  refine lv_aload_n hx hb dX12_undo_130 rfl (lv_at hl 1 rfl) ?_
  refine va_get (D := (dC, dI)) (ci := 11) (v := .ref (v 31)) (C := RX12) (T := TX12) (N := 52) hx hb hts zl_X12_undo_X12 hown hK hP 0 rfl rfl 31 (by decide) (hts (.fieldLink RX12 98 "PageOneModel" "actB" "[I") (zat q_wsX12_undo k_wsX12_undo 913 rfl (by decide +kernel))) (fun _ h9 => h9) rfl dX12_undo_131 ?_
  refine lv_aload_n hx hb dX12_undo_134 rfl (lv_at hl 1 rfl) ?_
  refine va_get (D := (dC, dI)) (ci := 11) (v := .int (u_2.1 28)) (C := RX12) (T := TX12) (N := 52) hx hb hts zl_X12_undo_X12 hown hK hP 0 rfl rfl 28 (by decide) (hts (.fieldLink RX12 158 "PageOneModel" "acts" "I") (zat q_wsX12_undo k_wsX12_undo 910 rfl (by decide +kernel))) (fun _ h9 => h9) rfl dX12_undo_135 ?_
  refine va_iald hx hb hK hP 30 0 rfl rfl (by rw [eu_2, mset_same]; exact vAct ha1) dX12_undo_138 ?_
  refine lv_topi (fun y_5 ey_5 => ?_)
  obtain rfl : y_5 = (nI X) := ey_5.trans ((by rw [eu_2, mset_same]; exact h31))
  refine lv_aload_n hx hb dX12_undo_139 rfl (lv_at hl 1 rfl) ?_
  refine va_get (D := (dC, dI)) (ci := 11) (v := .ref (v 32)) (C := RX12) (T := TX12) (N := 52) hx hb hts zl_X12_undo_X12 hown hK hP 0 rfl rfl 32 (by decide) (hts (.fieldLink RX12 101 "PageOneModel" "actC" "[I") (zat q_wsX12_undo k_wsX12_undo 914 rfl (by decide +kernel))) (fun _ h9 => h9) rfl dX12_undo_140 ?_
  refine lv_aload_n hx hb dX12_undo_143 rfl (lv_at hl 1 rfl) ?_
  refine va_get (D := (dC, dI)) (ci := 11) (v := .int (u_2.1 28)) (C := RX12) (T := TX12) (N := 52) hx hb hts zl_X12_undo_X12 hown hK hP 0 rfl rfl 28 (by decide) (hts (.fieldLink RX12 158 "PageOneModel" "acts" "I") (zat q_wsX12_undo k_wsX12_undo 910 rfl (by decide +kernel))) (fun _ h9 => h9) rfl dX12_undo_144 ?_
  refine va_iald hx hb hK hP 31 0 rfl rfl (by rw [eu_2, mset_same]; exact vAct ha1) dX12_undo_147 ?_
  refine lv_topi (fun y_6 ey_6 => ?_)
  obtain rfl : y_6 = (nI Y) := ey_6.trans ((by rw [eu_2, mset_same]; exact h32))
  refine vp_callSi (va_runS (As := [.int (nI P), .int (nI X), .int (nI Y)]) (rest := [.ref (v 2)]) ⟨hx, hb, hml, hown, hts⟩ (m_at l dC dI (nI P) (nI X) (nI Y)) (va_cwS 3 hts gX12_undo_X12_at rfl rfl rfl zh_X12_at_7 ⟨Nat.le_of_ble_eq_true rfl, Nat.le_of_ble_eq_true rfl⟩) ⟨pw_fb, fun U hU hW => ⟨rfl, pw_to hU hW (hP.sub (ws' := []) [] rfl) (hK.sub (tys' := []) [] rfl) hN⟩⟩ rfl rfl hl.1 rfl (lv_room (Nat.le_of_ble_eq_true rfl)) dX12_undo_148 ⟨Nat.le_of_ble_eq_true rfl, Nat.le_of_ble_eq_true rfl⟩).run (fun r hw => ?_)
  obtain rfl : r = (480 * (nI P) + 60 * (nI X) + (nI Y)) := hw
  refine lv_bipush (v := (-2)) hx hb dX12_undo_151 (by decide) ?_
  refine va_iast hx hb hK hP hD hS 3 0 rfl rfl (idxV hPP hX8 hY6) dX12_undo_153 (fun H locs hP hD hS => ?_)
  obtain ⟨u_7, eu_7⟩ : ∃ zz : mS, zz = mst u_2 2 (480 * (nI P) + 60 * (nI X) + (nI Y)) (-2) := ⟨_, rfl⟩
  have hP : va_P (dC, dI) vwCl (mW h0 v cI cZ u_7) H := by rw [eu_7]; exact hP
  have hD : va_D A (mW h0 v cI cZ u_7) := by rw [eu_7]; exact hD
  refine lv_goto (tgt := 193) hx hb dX12_undo_154 (by decide) ?_
  refine lv_aload_n hx hb dX12_undo_193 rfl (lv_at hl 1 rfl) ?_
  refine va_get (D := (dC, dI)) (ci := 11) (v := .int (u_7.1 28)) (C := RX12) (T := TX12) (N := 52) hx hb hts zl_X12_undo_X12 hown hK hP 0 rfl rfl 28 (by decide) (hts (.fieldLink RX12 158 "PageOneModel" "acts" "I") (zat q_wsX12_undo k_wsX12_undo 910 rfl (by decide +kernel))) (fun _ h9 => h9) rfl dX12_undo_194 ?_
  exact W.iret (v := (u_7.1 28)) hx hb hr (fun t ht hW => ⟨⟨(u_7.1 28), u_7, rfl, ⟨(by rw [eu_7, eu_2]; exact back_28 u), (by rw [eu_7, eu_2]; rfl)⟩, by rw [ht]; exact hP, hD⟩, hS.F ht⟩) hS.2.2 dX12_undo_197
set_option maxHeartbeats 4000000 in
set_option maxRecDepth 100000 in
theorem n_undoF (l : Launch) (dC : Nat → ClassId) (dI : Nat → Nat → Nat) (h0 : Nat) (v : Nat → Nat) (cI cZ : ClassId) (u : mS) (xs : List fX) (hK8 : xs.length ≤ 1000) (h30 : u.2 30 (u.1 28 - 1).toNatClampNeg = nI xs.length) (hpop : popOK (mBack u) xs) (hz0 : ¬ u.1 28 = 0) (ha1 : bw (u.1 28 - 1) 0 299 = true) (h29 : u.2 29 (u.1 28 - 1).toNatClampNeg = 3) (sz : Nat) : Met l yX12_undo wsX12_undo ({ frames := 3, cells := 0, slots := 0, locals := 77 }) (va_Pc [.ref h0] (fun U => U.heap.size = sz ∧ PW dC dI (mW h0 v cI cZ u) [(cI, .int), (cZ, .boolean)] U ∧ va_D (fun _ => True) (mW h0 v cI cZ u))) (va_Qi (fun (r : Int32) (u9 : mS) => r = u.1 28 - 1 ∧ u9 = popAll (mBack u) xs) (fun u9 t => va_P (dC, dI) vwCl (mW h0 v cI cZ u9) t.heap ∧ va_D (va_A (mW h0 v cI cZ u) sz) (mW h0 v cI cZ u9)) (va_A (mW h0 v cI cZ u) sz)) 0 0 (va_A (mW h0 v cI cZ u) sz) := by
  refine Met.ofW (cc := cX12_undo) (maxL := 3) (ret := (some .int)) (by decide) rfl ?_
  intro p e s m args below meth c s₁ B hml hv
  obtain ⟨rfl, hsz, ⟨hP, hK, hN⟩, hD0⟩ := hv
  have hx := B.exec
  have hb := B.bytes
  have hr := B.returns
  have hts := atoms_spec (ws := wsX12_undo) B.pre
  have hown : s.vm.findClass RX12 = some m.cls := findClass_of_methodNamed B.named
  have hlocks := B.notSynchronized
  subst hsz
  have hD := hD0.self (sz := s.heap.size)
  generalize hAe : va_A (mW h0 v cI cZ u) s.heap.size = A at hD ⊢
  have hA : ∀ q : Nat, s.heap.size ≤ q → A q := fun q h => by rw [← hAe]; exact Or.inr h
  have hS : va_S A s.heap s.heap [] := va_S.rf
  have hl := lv_entry ([.ref h0]) (n := 3) (Nat.le_of_ble_eq_true rfl)
  rw [lg_entry_eq]
  generalize (lg_sl ([.ref h0]) ++ List.replicate (3 - (lg_sl ([.ref h0])).length) Slot.unset).toArray = ls at hl ⊢
  have hl : lv_has ls 3 [(0, .ref h0)] := hl
  refine lv_aload_n hx hb dX12_undo_0 rfl (lv_at hl 0 rfl) ?_
  refine va_get (D := (dC, dI)) (ci := 11) (v := .int (u.1 28)) (C := RX12) (T := TX12) (N := 52) hx hb hts zl_X12_undo_X12 hown hK hP 0 rfl rfl 28 (by decide) (hts (.fieldLink RX12 158 "PageOneModel" "acts" "I") (zat q_wsX12_undo k_wsX12_undo 910 rfl (by decide +kernel))) (fun _ h9 => h9) rfl dX12_undo_1 ?_
  refine lv_if_ne (tgt := 9) hx hb dX12_undo_4 (by decide) (fun c_1 => ?_) (fun c_1 => absurd c_1 (hz0))
  refine lv_aload_n hx hb dX12_undo_9 rfl (lv_at hl 0 rfl) ?_
  refine lv_dup hx hb dX12_undo_10 rfl ?_
  refine va_get (D := (dC, dI)) (ci := 11) (v := .int (u.1 28)) (C := RX12) (T := TX12) (N := 52) hx hb hts zl_X12_undo_X12 hown hK hP 0 rfl rfl 28 (by decide) (hts (.fieldLink RX12 158 "PageOneModel" "acts" "I") (zat q_wsX12_undo k_wsX12_undo 910 rfl (by decide +kernel))) (fun _ h9 => h9) rfl dX12_undo_11 ?_
  refine lv_iconst (v := 1) hx hb dX12_undo_14 (by decide) ?_
  refine lv_isub hx hb dX12_undo_15 ?_
  refine va_put (D := (dC, dI)) (ci := 11) (v := .int ((u.1 28) - 1)) (ty := .int) (C := RX12) (T := TX12) (N := 52) hx hb hts zl_X12_undo_X12 tyX12 tyX12_ok nmX12 hown hK hP hD hS 0 rfl rfl 28 (by decide) (hts (.fieldLink RX12 158 "PageOneModel" "acts" "I") (zat q_wsX12_undo k_wsX12_undo 910 rfl (by decide +kernel))) (fun _ h9 => h9) rfl (tyX12_ok 28 (by decide)) rfl rfl (Nat.le_of_ble_eq_true rfl) dX12_undo_16 (fun H locs hP hD hS => ?_)
  obtain ⟨u_2, eu_2⟩ : ∃ zz : mS, zz = mset u 28 ((u.1 28) - 1) := ⟨_, rfl⟩
  have hP : va_P (dC, dI) vwCl (mW h0 v cI cZ u_2) H := by rw [eu_2]; exact hP
  have hD : va_D A (mW h0 v cI cZ u_2) := by rw [eu_2]; exact hD
  refine lv_aload_n hx hb dX12_undo_19 rfl (lv_at hl 0 rfl) ?_
  refine va_get (D := (dC, dI)) (ci := 11) (v := .ref (v 30)) (C := RX12) (T := TX12) (N := 52) hx hb hts zl_X12_undo_X12 hown hK hP 0 rfl rfl 30 (by decide) (hts (.fieldLink RX12 95 "PageOneModel" "actA" "[I") (zat q_wsX12_undo k_wsX12_undo 912 rfl (by decide +kernel))) (fun _ h9 => h9) rfl dX12_undo_20 ?_
  refine lv_aload_n hx hb dX12_undo_23 rfl (lv_at hl 0 rfl) ?_
  refine va_get (D := (dC, dI)) (ci := 11) (v := .int (u_2.1 28)) (C := RX12) (T := TX12) (N := 52) hx hb hts zl_X12_undo_X12 hown hK hP 0 rfl rfl 28 (by decide) (hts (.fieldLink RX12 158 "PageOneModel" "acts" "I") (zat q_wsX12_undo k_wsX12_undo 910 rfl (by decide +kernel))) (fun _ h9 => h9) rfl dX12_undo_24 ?_
  refine va_iald hx hb hK hP 29 0 rfl rfl (by rw [eu_2, mset_same]; exact vAct ha1) dX12_undo_27 ?_
  refine lv_topi (fun y_3 ey_3 => ?_)
  obtain rfl : y_3 = (nI xs.length) := ey_3.trans ((by rw [eu_2, mset_same]; exact h30))
  refine lv_topi (fun x_4 ex_4 => ?_)
  refine lv_istore_n (lv' := [(1, .int x_4), (0, .ref h0)]) hx hb dX12_undo_28 rfl hl (by decide) rfl (fun ls hl => ?_)
  refine lv_aload_n hx hb dX12_undo_29 rfl (lv_at hl 1 rfl) ?_
  refine va_get (D := (dC, dI)) (ci := 11) (v := .ref (v 29)) (C := RX12) (T := TX12) (N := 52) hx hb hts zl_X12_undo_X12 hown hK hP 0 rfl rfl 29 (by decide) (hts (.fieldLink RX12 92 "PageOneModel" "actKind" "[I") (zat q_wsX12_undo k_wsX12_undo 911 rfl (by decide +kernel))) (fun _ h9 => h9) rfl dX12_undo_30 ?_
  refine lv_aload_n hx hb dX12_undo_33 rfl (lv_at hl 1 rfl) ?_
  refine va_get (D := (dC, dI)) (ci := 11) (v := .int (u_2.1 28)) (C := RX12) (T := TX12) (N := 52) hx hb hts zl_X12_undo_X12 hown hK hP 0 rfl rfl 28 (by decide) (hts (.fieldLink RX12 158 "PageOneModel" "acts" "I") (zat q_wsX12_undo k_wsX12_undo 910 rfl (by decide +kernel))) (fun _ h9 => h9) rfl dX12_undo_34 ?_
  refine va_iald hx hb hK hP 28 0 rfl rfl (by rw [eu_2, mset_same]; exact vAct ha1) dX12_undo_37 ?_
  refine lv_topi (fun y_5 ey_5 => ?_)
  obtain rfl : y_5 = 3 := ey_5.trans ((by rw [eu_2, mset_same]; exact h29))
  refine lv_tableOut (tgt := 157) hx hb dX12_undo_38 (by decide) (by decide) ?_
  refine lv_iconst (v := 0) hx hb dX12_undo_157 (by decide) ?_
  refine lv_istore_n (lv' := [(2, .int 0), (1, .int x_4), (0, .ref h0)]) hx hb dX12_undo_158 rfl hl (by decide) rfl (fun ls hl => ?_)
  subst ex_4
  refine m_undoF_loop (w9 := popAll (mBack u) xs) (K := xs.length) hK8 hx hb hml hts hown hN hK (Nat.le_of_ble_eq_true rfl) (Nat.le_of_ble_eq_true rfl) (Nat.le_of_ble_eq_true rfl) (Nat.le_of_ble_eq_true rfl) hA (fun u2 H locs ls hg hP hD hS hl => ?_) (xs.length + 1) 0 u_2 _ _ xs ls (Nat.zero_le _) (by omega) ⟨by rw [eu_2]; exact hpop, by rw [eu_2]; rfl, rfl⟩ hP hD hS (lv_sub hl [0, 2, 1] rfl)
  refine lv_aload_n hx hb dX12_undo_193 rfl (lv_at hl 1 rfl) ?_
  refine va_get (D := (dC, dI)) (ci := 11) (v := .int (u2.1 28)) (C := RX12) (T := TX12) (N := 52) hx hb hts zl_X12_undo_X12 hown hK hP 0 rfl rfl 28 (by decide) (hts (.fieldLink RX12 158 "PageOneModel" "acts" "I") (zat q_wsX12_undo k_wsX12_undo 910 rfl (by decide +kernel))) (fun _ h9 => h9) rfl dX12_undo_194 ?_
  exact W.iret (v := (u2.1 28)) hx hb hr (fun t ht hW => ⟨⟨(u2.1 28), u2, rfl, ⟨by rw [hg, popAll_28, back_28], hg⟩, by rw [ht]; exact hP, hD⟩, hS.F ht⟩) hS.2.2 dX12_undo_197
set_option maxHeartbeats 4000000 in
set_option maxRecDepth 100000 in
theorem n_undoN (l : Launch) (dC : Nat → ClassId) (dI : Nat → Nat → Nat) (h0 : Nat) (v : Nat → Nat) (cI cZ : ClassId) (u : mS) (hz0 : u.1 28 = 0) (sz : Nat) : Met l yX12_undo wsX12_undo ({ frames := 3, cells := 0, slots := 0, locals := 77 }) (va_Pc [.ref h0] (fun U => U.heap.size = sz ∧ PW dC dI (mW h0 v cI cZ u) [(cI, .int), (cZ, .boolean)] U ∧ va_D (fun _ => True) (mW h0 v cI cZ u))) (va_Qi (fun (r : Int32) (u9 : mS) => r = (-1) ∧ u9 = u) (fun u9 t => va_P (dC, dI) vwCl (mW h0 v cI cZ u9) t.heap ∧ va_D (va_A (mW h0 v cI cZ u) sz) (mW h0 v cI cZ u9)) (va_A (mW h0 v cI cZ u) sz)) 0 0 (va_A (mW h0 v cI cZ u) sz) := by
  refine Met.ofW (cc := cX12_undo) (maxL := 3) (ret := (some .int)) (by decide) rfl ?_
  intro p e s m args below meth c s₁ B hml hv
  obtain ⟨rfl, hsz, ⟨hP, hK, hN⟩, hD0⟩ := hv
  have hx := B.exec
  have hb := B.bytes
  have hr := B.returns
  have hts := atoms_spec (ws := wsX12_undo) B.pre
  have hown : s.vm.findClass RX12 = some m.cls := findClass_of_methodNamed B.named
  have hlocks := B.notSynchronized
  subst hsz
  have hD := hD0.self (sz := s.heap.size)
  generalize hAe : va_A (mW h0 v cI cZ u) s.heap.size = A at hD ⊢
  have hA : ∀ q : Nat, s.heap.size ≤ q → A q := fun q h => by rw [← hAe]; exact Or.inr h
  have hS : va_S A s.heap s.heap [] := va_S.rf
  have hl := lv_entry ([.ref h0]) (n := 3) (Nat.le_of_ble_eq_true rfl)
  rw [lg_entry_eq]
  generalize (lg_sl ([.ref h0]) ++ List.replicate (3 - (lg_sl ([.ref h0])).length) Slot.unset).toArray = ls at hl ⊢
  have hl : lv_has ls 3 [(0, .ref h0)] := hl
  refine lv_aload_n hx hb dX12_undo_0 rfl (lv_at hl 0 rfl) ?_
  refine va_get (D := (dC, dI)) (ci := 11) (v := .int (u.1 28)) (C := RX12) (T := TX12) (N := 52) hx hb hts zl_X12_undo_X12 hown hK hP 0 rfl rfl 28 (by decide) (hts (.fieldLink RX12 158 "PageOneModel" "acts" "I") (zat q_wsX12_undo k_wsX12_undo 910 rfl (by decide +kernel))) (fun _ h9 => h9) rfl dX12_undo_1 ?_
  refine lv_if_ne (tgt := 9) hx hb dX12_undo_4 (by decide) (fun c_1 => absurd (hz0) c_1) (fun c_1 => ?_)
  refine lv_iconst (v := (-1)) hx hb dX12_undo_7 (by decide) ?_
  exact W.iret (v := (-1)) hx hb hr (fun t ht hW => ⟨⟨(-1), u, rfl, ⟨rfl, rfl⟩, by rw [ht]; exact hP, hD⟩, hS.F ht⟩) hS.2.2 dX12_undo_8
/-- behind the piece in slot K -/
def bhK (u : mS) (P X Y : Nat) (K : Int32) : Prop := u.2 23 K.toNatClampNeg < nI P ∨ (nI P = u.2 23 K.toNatClampNeg ∧ (u.2 24 K.toNatClampNeg < nI X ∨ (nI X = u.2 24 K.toNatClampNeg ∧ ¬ nI Y < u.2 25 K.toNatClampNeg + u.2 27 K.toNatClampNeg)))
def bhR (u : mS) (p0 : Int32) (P X Y : Nat) : Prop := u.2 22 p0.toNatClampNeg ≤ 0 ∨ bhK u P X Y (6 * p0 + u.2 22 p0.toNatClampNeg - 1)
/-- the lines fit -/
def rX (w : mS) (p0 : Int32) (P : Nat) (x : Int32) : Prop := runG w p0 x ∧ ¬ w.2 15 p0.toNatClampNeg < mFrom w p0 x.toNatClampNeg + mTakes w p0 x ∧ ∀ t, t < (mTakes w p0 x).toNatClampNeg → ¬ w.2 1 (nI P).toNatClampNeg < w.2 16 (80 * p0 + nI ((mFrom w p0 x.toNatClampNeg).toNatClampNeg + t)).toNatClampNeg
def runX (u : mS) (p0 : Int32) (P X Y N : Nat) : Prop := ¬ u.2 22 p0.toNatClampNeg = 6 ∧ bhR u p0 P X Y ∧ rX (mStand u p0 P X Y 1 N) p0 P (u.2 22 p0.toNatClampNeg)
theorem bh_y {u : mS} {p0 K : Int32} {P X Y : Nat} (e : K = 6 * p0 + u.2 22 p0.toNatClampNeg - 1) (h : bhK u P X Y K) : bhR u p0 P X Y := Or.inr (by rw [← e]; exact h)
theorem bh_n {u : mS} {p0 K : Int32} {P X Y : Nat} (e : K = 6 * p0 + u.2 22 p0.toNatClampNeg - 1) (hz : ¬ u.2 22 p0.toNatClampNeg ≤ 0) (h : ¬ bhK u P X Y K) : ¬ bhR u p0 P X Y := fun q => q.elim hz (fun q => h (by rw [e]; exact q))
theorem rX_i {w : mS} {p0 x g9 : Int32} {P T a9 : Nat} (hG : runG w p0 x) (eT : mTakes w p0 x = nI T) (ea : nI a9 = mFrom w p0 x.toNatClampNeg) (hT : T ≤ 80) (ha : a9 ≤ 400) (hcl : ¬ w.2 15 p0.toNatClampNeg < nI a9 + nI T) (hq : (g9 = 1 ∧ ∀ t, t < T → ¬ w.2 1 (nI P).toNatClampNeg < w.2 16 (80 * p0 + nI (a9 + t)).toNatClampNeg) ∨ (g9 = 0 ∧ ∃ t, t < T ∧ w.2 1 (nI P).toNatClampNeg < w.2 16 (80 * p0 + nI (a9 + t)).toNatClampNeg)) : (g9 = 0 ∧ ¬ rX w p0 P x) ∨ (g9 = 1 ∧ rX w p0 P x) := by
  unfold rX
  rw [eT, ← ea, nI_clamp (n := T) (by omega), nI_clamp (n := a9) (by omega)]
  rcases hq with ⟨h1, h2⟩ | ⟨h1, t, h2, h3⟩
  · exact Or.inr ⟨h1, hG, hcl, h2⟩
  · exact Or.inl ⟨h1, fun r => r.2.2 t h2 h3⟩
set_option maxHeartbeats 4000000 in
set_option maxRecDepth 100000 in
theorem n_mr_loop {p : Program} {l : Launch} {e : Env} {R : Room} {s : State} {m : MethodId} {args : Array Value} {below : List Frame} {meth : Method} {c : Code} {Q : State → Prop} {cells slots : Nat} {dC : Nat → ClassId} {dI : Nat → Nat → Nat} {h0 : Nat} {v : Nat → Nat} {cI cZ : ClassId} {H : Heap} {locs : List Loc} {u : mS} (hx : p.tables.exec = Jvm.exec) (hb : c.code = cX12_mayRun) (hml : c.maxLocals = 10) (hts : ∀ w ∈ wsX12_mayRun, w.before args s = true) (hown : s.vm.findClass RX12 = some m.cls) (hN : NN s) (hK : va_K (dC, dI) vwCl [(cI, .int), (cZ, .boolean)] s) (hRf : 1 ≤ R.frames) (hRl : 24 ≤ R.locals) (hRc : cells ≤ R.cells) (hRs : slots ≤ R.slots) (hP : va_P (dC, dI) vwCl (mW h0 v cI cZ u) H) {p0 x6 : Int32} {P X Y N a9 T : Nat} (hi0 : bw p0 0 79 = true) (hPP : P < 12) (hl5 : bw x6 0 5 = true) (hc6 : bw (u.2 22 p0.toNatClampNeg) 0 6 = true) (eT : mTakes u p0 x6 = nI T) (ha8 : a9 + T ≤ 80) (kx271 : ∀ (g9 : Int32) (ls : Array Slot), ((g9 = 1 ∧ ∀ t, t < T → (¬ u.2 1 (nI P).toNatClampNeg < u.2 16 (80 * p0 + nI (a9 + t)).toNatClampNeg)) ∨ (g9 = 0 ∧ ∃ t, t < T ∧ (u.2 1 (nI P).toNatClampNeg < u.2 16 (80 * p0 + nI (a9 + t)).toNatClampNeg))) → lv_has ls 10 [(7, .int g9), (0, .ref h0), (1, .int p0), (2, .int (nI P)), (3, .int (nI X)), (4, .int (nI Y)), (5, .int (nI N))] → W p l e R s m args below meth c H locs cells slots Q (F0 m 271 ls [])) : ∀ (k i : Nat) (g : Int32) (ls : Array Slot), i ≤ T → T - i < k → ((g = 1 ∧ ∀ t, t < i → (¬ u.2 1 (nI P).toNatClampNeg < u.2 16 (80 * p0 + nI (a9 + t)).toNatClampNeg)) ∨ (g = 0 ∧ ∃ t, t < T ∧ (u.2 1 (nI P).toNatClampNeg < u.2 16 (80 * p0 + nI (a9 + t)).toNatClampNeg))) → lv_has ls 10 [(9, .int (nI (a9 + i))), (8, .int (nI a9)), (7, .int g), (6, .int x6), (0, .ref h0), (1, .int p0), (2, .int (nI P)), (3, .int (nI X)), (4, .int (nI Y)), (5, .int (nI N))] → W p l e R s m args below meth c H locs cells slots Q (F0 m 217 ls []) := by
  intro k
  induction k with
  | zero => intro i g ls h1 h2; exact absurd h2 (Nat.not_lt_zero _)
  | succ k ih =>
    intro i g ls hi hk hg hl
    refine lv_iload hx hb dX12_mayRun_217 (lv_at hl 0 rfl) ?_
    refine lv_iload hx hb dX12_mayRun_219 (lv_at hl 1 rfl) ?_
    refine lv_aload_n hx hb dX12_mayRun_221 rfl (lv_at hl 4 rfl) ?_
    refine lv_iload_n hx hb dX12_mayRun_222 rfl (lv_at hl 5 rfl) ?_
    refine lv_iload hx hb dX12_mayRun_223 (lv_at hl 3 rfl) ?_
    refine vp_callSi (va_runV (As := [.int p0, .int x6]) (rest := [.int (nI a9), .int (nI (a9 + i))]) ⟨hx, hb, hml, hown, hts⟩ (m_takes l dC dI h0 v cI cZ u p0 x6 hi0 hl5 hc6) (cwV 2 hts gX12_mayRun_X12_takes rfl rfl rfl zh_X12_takes_6 ⟨Nat.le_trans (Nat.le_of_ble_eq_true rfl) hRf, Nat.le_trans (Nat.le_of_ble_eq_true rfl) hRl⟩) ⟨pw_fb, va_recv hK hP (ci := 11) (q0 := 0) rfl rfl, fun U hU hW => ⟨rfl, pw_to hU hW hP hK hN⟩⟩ rfl rfl hl.1 rfl (lv_room (Nat.le_of_ble_eq_true rfl)) dX12_mayRun_225 ⟨hRc, hRs⟩).run (fun r hw => ?_)
    obtain rfl : r = nI T := hw.trans eT
    refine lv_iadd hx hb dX12_mayRun_228 ?_
    refine lv_icmp_ge (tgt := 271) hx hb dX12_mayRun_229 (by decide) (fun c_1 => ?_) (fun c_1 => ?_)
    ·
      have hie : i = T := by have := lp_eq (nI_add a9 T) (by omega) (by omega) c_1; omega
      exact kx271 _ ls (by rw [hie] at hg; exact hg) (lv_sub hl [2, 4, 5, 6, 7, 8, 9] rfl)
    ·
      have hlt : i < T := by have := lp_lt (nI_add a9 T) (by omega) (by omega) c_1; omega
      refine lv_iload hx hb dX12_mayRun_232 (lv_at hl 2 rfl) ?_
      refine lv_if_eq (tgt := 271) hx hb dX12_mayRun_234 (by decide) (fun c_2 => ?_) (fun c_2 => ?_)
      ·
        exact kx271 _ ls (hg.elim (fun h => absurd (h.1.symm.trans c_2) (by decide)) Or.inr) (lv_sub hl [2, 4, 5, 6, 7, 8, 9] rfl)
      ·
        refine lv_aload_n hx hb dX12_mayRun_237 rfl (lv_at hl 4 rfl) ?_
        refine va_get (D := (dC, dI)) (ci := 11) (v := .ref (v 16)) (C := RX12) (T := TX12) (N := 52) hx hb hts zl_X12_mayRun_X12 hown hK hP 0 rfl rfl 16 (by decide) (hts (.fieldLink RX12 55 "PageOneModel" "width" "[I") (zat q_wsX12_mayRun k_wsX12_mayRun 898 rfl (by decide +kernel))) (fun _ h9 => h9) rfl dX12_mayRun_238 ?_
        refine lv_bipush (v := 80) hx hb dX12_mayRun_241 (by decide) ?_
        refine lv_iload_n hx hb dX12_mayRun_243 rfl (lv_at hl 5 rfl) ?_
        refine lv_imul hx hb dX12_mayRun_244 ?_
        refine lv_iload hx hb dX12_mayRun_245 (lv_at hl 0 rfl) ?_
        refine lv_iadd hx hb dX12_mayRun_247 ?_
        refine va_iald hx hb hK hP 16 0 rfl rfl (vW hi0 (by omega)) dX12_mayRun_248 ?_
        refine lv_aload_n hx hb dX12_mayRun_249 rfl (lv_at hl 4 rfl) ?_
        refine va_get (D := (dC, dI)) (ci := 11) (v := .ref (v 1)) (C := RX12) (T := TX12) (N := 52) hx hb hts zl_X12_mayRun_X12 hown hK hP 0 rfl rfl 1 (by decide) (hts (.fieldLink RX12 13 "PageOneModel" "measure" "[I") (zat q_wsX12_mayRun k_wsX12_mayRun 883 rfl (by decide +kernel))) (fun _ h9 => h9) rfl dX12_mayRun_250 ?_
        refine lv_iload_n hx hb dX12_mayRun_253 rfl (lv_at hl 6 rfl) ?_
        refine va_iald hx hb hK hP 2 0 rfl rfl (vp_in_nI hPP (by decide)) dX12_mayRun_254 ?_
        refine lv_icmp_gt (tgt := 262) hx hb dX12_mayRun_255 (by decide) (fun c_3 => ?_) (fun c_3 => ?_)
        ·
          refine lv_iconst (v := 0) hx hb dX12_mayRun_262 (by decide) ?_
          refine lv_istore (lv' := [(7, .int 0), (9, .int (nI (a9 + i))), (8, .int (nI a9)), (6, .int x6), (0, .ref h0), (1, .int p0), (2, .int (nI P)), (3, .int (nI X)), (4, .int (nI Y)), (5, .int (nI N))]) hx hb dX12_mayRun_263 hl (by decide) rfl (fun ls hl => ?_)
          refine lv_iinc (v := (nI (a9 + i + 1))) (lv' := [(9, .int (nI (a9 + i + 1))), (7, .int 0), (8, .int (nI a9)), (6, .int x6), (0, .ref h0), (1, .int p0), (2, .int (nI P)), (3, .int (nI X)), (4, .int (nI Y)), (5, .int (nI N))]) hx hb dX12_mayRun_265 hl (k := 1) rfl (nI_1 _) (by decide) rfl (fun ls hl => ?_)
          refine lv_goto (tgt := 217) hx hb dX12_mayRun_268 (by decide) ?_
          exact ih (i + 1) _ ls (by omega) (by omega) (Or.inr ⟨rfl, i, hlt, c_3⟩) (lv_sub hl [0, 2, 1, 3, 4, 5, 6, 7, 8, 9] rfl)
        ·
          refine lv_iconst (v := 1) hx hb dX12_mayRun_258 (by decide) ?_
          refine lv_goto (tgt := 263) hx hb dX12_mayRun_259 (by decide) ?_
          refine lv_istore (lv' := [(7, .int 1), (9, .int (nI (a9 + i))), (8, .int (nI a9)), (6, .int x6), (0, .ref h0), (1, .int p0), (2, .int (nI P)), (3, .int (nI X)), (4, .int (nI Y)), (5, .int (nI N))]) hx hb dX12_mayRun_263 hl (by decide) rfl (fun ls hl => ?_)
          refine lv_iinc (v := (nI (a9 + i + 1))) (lv' := [(9, .int (nI (a9 + i + 1))), (7, .int 1), (8, .int (nI a9)), (6, .int x6), (0, .ref h0), (1, .int p0), (2, .int (nI P)), (3, .int (nI X)), (4, .int (nI Y)), (5, .int (nI N))]) hx hb dX12_mayRun_265 hl (k := 1) rfl (nI_1 _) (by decide) rfl (fun ls hl => ?_)
          refine lv_goto (tgt := 217) hx hb dX12_mayRun_268 (by decide) ?_
          exact ih (i + 1) _ ls (by omega) (by omega) (Or.inl ⟨rfl, fr_1 (hg.resolve_right (fun h => c_2 h.1)).2 c_3⟩) (lv_sub hl [0, 2, 1, 3, 4, 5, 6, 7, 8, 9] rfl)
set_option maxHeartbeats 4000000 in
set_option maxRecDepth 100000 in
theorem n_mayRun (l : Launch) (dC : Nat → ClassId) (dI : Nat → Nat → Nat) (h0 : Nat) (v : Nat → Nat) (cI cZ : ClassId) (u : mS) (p0 : Int32) (P X Y N : Nat) (hPP : P < 12) (hXW : X + 1 ≤ 8) (hYN : Y + N ≤ 60) (hi : bw p0 0 79 = true) (hc : bw (u.2 22 p0.toNatClampNeg) 0 6 = true) (hcm : bw (u.2 15 p0.toNatClampNeg) 0 80 = true) (hpr : ¬ u.2 22 p0.toNatClampNeg = 0 → vp_in (6 * p0 + u.2 22 p0.toNatClampNeg - 1) 480) (hfr : ¬ u.2 22 p0.toNatClampNeg = 6 → runG (mStand u p0 P X Y 1 N) p0 (u.2 22 p0.toNatClampNeg) → 0 ≤ (mFrom (mStand u p0 P X Y 1 N) p0 (u.2 22 p0.toNatClampNeg).toNatClampNeg).toInt ∧ (mFrom (mStand u p0 P X Y 1 N) p0 (u.2 22 p0.toNatClampNeg).toNatClampNeg).toInt ≤ 400 ∧ (mTakes (mStand u p0 P X Y 1 N) p0 (u.2 22 p0.toNatClampNeg)).toInt ≤ 60) (sz : Nat) : Met l yX12_mayRun wsX12_mayRun ({ frames := 3, cells := 0, slots := 0, locals := 77 }) (va_Pc [.ref h0, .int p0, .int (nI P), .int (nI X), .int (nI Y), .int (nI N)] (fun U => U.heap.size = sz ∧ PW dC dI (mW h0 v cI cZ u) [(cI, .int), (cZ, .boolean)] U ∧ va_D (fun _ => True) (mW h0 v cI cZ u))) (va_Qi (fun (r : Int32) (u9 : mS) => (r = 0 ∧ u9 = u ∧ ¬ runX u p0 P X Y N) ∨ (((r = 0 ∧ ¬ runX u p0 P X Y N) ∨ (r = 1 ∧ runX u p0 P X Y N)) ∧ ¬ u.2 22 p0.toNatClampNeg = 6 ∧ u9 = mUnstand (mStand u p0 P X Y 1 N) p0 P X Y 1 N)) (fun u9 t => va_P (dC, dI) vwCl (mW h0 v cI cZ u9) t.heap ∧ va_D (va_A (mW h0 v cI cZ u) sz) (mW h0 v cI cZ u9)) (va_A (mW h0 v cI cZ u) sz)) 0 0 (va_A (mW h0 v cI cZ u) sz) := by
  refine Met.ofW (cc := cX12_mayRun) (maxL := 10) (ret := (some .boolean)) (by decide) rfl ?_
  intro p e s m args below meth c s₁ B hml hv
  obtain ⟨rfl, hsz, ⟨hP, hK, hN⟩, hD0⟩ := hv
  have hx := B.exec
  have hb := B.bytes
  have hr := B.returns
  have hts := atoms_spec (ws := wsX12_mayRun) B.pre
  have hown : s.vm.findClass RX12 = some m.cls := findClass_of_methodNamed B.named
  have hlocks := B.notSynchronized
  subst hsz
  have hD := hD0.self (sz := s.heap.size)
  generalize hAe : va_A (mW h0 v cI cZ u) s.heap.size = A at hD ⊢
  have hA : ∀ q : Nat, s.heap.size ≤ q → A q := fun q h => by rw [← hAe]; exact Or.inr h
  have hS : va_S A s.heap s.heap [] := va_S.rf
  have hl := lv_entry ([.ref h0, .int p0, .int (nI P), .int (nI X), .int (nI Y), .int (nI N)]) (n := 10) (Nat.le_of_ble_eq_true rfl)
  rw [lg_entry_eq]
  generalize (lg_sl ([.ref h0, .int p0, .int (nI P), .int (nI X), .int (nI Y), .int (nI N)]) ++ List.replicate (10 - (lg_sl ([.ref h0, .int p0, .int (nI P), .int (nI X), .int (nI Y), .int (nI N)])).length) Slot.unset).toArray = ls at hl ⊢
  have hl : lv_has ls 10 [(0, .ref h0), (1, .int p0), (2, .int (nI P)), (3, .int (nI X)), (4, .int (nI Y)), (5, .int (nI N))] := hl
  refine lv_aload_n hx hb dX12_mayRun_0 rfl (lv_at hl 0 rfl) ?_
  refine va_get (D := (dC, dI)) (ci := 11) (v := .ref (v 22)) (C := RX12) (T := TX12) (N := 52) hx hb hts zl_X12_mayRun_X12 hown hK hP 0 rfl rfl 22 (by decide) (hts (.fieldLink RX12 74 "PageOneModel" "pieces" "[I") (zat q_wsX12_mayRun k_wsX12_mayRun 904 rfl (by decide +kernel))) (fun _ h9 => h9) rfl dX12_mayRun_1 ?_
  refine lv_iload_n hx hb dX12_mayRun_4 rfl (lv_at hl 1 rfl) ?_
  refine va_iald hx hb hK hP 22 0 rfl rfl (vin hi (by decide)) dX12_mayRun_5 ?_
  refine lv_bipush (v := 6) hx hb dX12_mayRun_6 (by decide) ?_
  refine lv_icmp_ne (tgt := 13) hx hb dX12_mayRun_8 (by decide) (fun c_1 => ?_) (fun c_1 => ?_)
  ·
    have h6 := c_1
    refine w_cut (X := fun R cells slots Q args => ∀ (ls : Array Slot), bhR u p0 P X Y → lv_has ls 10 [(0, .ref h0), (1, .int p0), (2, .int (nI P)), (3, .int (nI X)), (4, .int (nI Y)), (5, .int (nI N))] → W p l e R s m args below meth c s.heap [] cells slots Q (F0 m 115 ls [])) ?_ (fun kJ115 => ?_)
    ·
      intro ls hbh hl
      refine lv_aload_n hx hb dX12_mayRun_115 rfl (lv_at hl 0 rfl) ?_
      refine lv_iload_n hx hb dX12_mayRun_116 rfl (lv_at hl 1 rfl) ?_
      refine lv_iload_n hx hb dX12_mayRun_117 rfl (lv_at hl 2 rfl) ?_
      refine lv_iload_n hx hb dX12_mayRun_118 rfl (lv_at hl 3 rfl) ?_
      refine lv_iload hx hb dX12_mayRun_119 (lv_at hl 4 rfl) ?_
      refine lv_iconst (v := 1) hx hb dX12_mayRun_121 (by decide) ?_
      refine lv_iload hx hb dX12_mayRun_122 (lv_at hl 5 rfl) ?_
      have hFc := fr_all hD hS hA
      refine va_callv (va_runV (As := [.int p0, .int (nI P), .int (nI X), .int (nI Y), .int 1, .int (nI N)]) (rest := []) ⟨hx, hb, hml, hown, hts⟩ (m_stand l dC dI h0 v cI cZ u p0 P X Y 1 N hPP hXW hYN hi (q05 hc h6) s.heap.size) (cwV 6 hts gX12_mayRun_X12_stand rfl rfl rfl zh_X12_stand_25 ⟨Nat.le_of_ble_eq_true rfl, Nat.le_of_ble_eq_true rfl⟩) ⟨gw_fb, va_recv hK hP (ci := 11) (q0 := 0) rfl rfl, fun U hU hW => ⟨rfl, by rw [hU], pw_to hU hW hP hK hN, hD.weaken (fun _ _ _ _ => trivial)⟩⟩ rfl rfl hl.1 rfl (lv_room (Nat.le_of_ble_eq_true rfl)) dX12_mayRun_124 ⟨Nat.le_of_ble_eq_true rfl, Nat.le_of_ble_eq_true rfl⟩) hS (fun q _ h => hFc q h) hFc (fun u_2 t H1 locs ht hvm hw hB hz1 hk1 hS => ?_)
      obtain ⟨hP, hD1⟩ := hB
      rw [ht] at hP
      have hD := hD1.weaken (fun _ q _ h => hFc q.1 h)
      generalize H1 = H at hP hS ⊢
      have eu_2 := hw
      refine lv_aload_n hx hb dX12_mayRun_127 rfl (lv_at hl 0 rfl) ?_
      refine va_get (D := (dC, dI)) (ci := 11) (v := .ref (v 22)) (C := RX12) (T := TX12) (N := 52) hx hb hts zl_X12_mayRun_X12 hown hK hP 0 rfl rfl 22 (by decide) (hts (.fieldLink RX12 74 "PageOneModel" "pieces" "[I") (zat q_wsX12_mayRun k_wsX12_mayRun 904 rfl (by decide +kernel))) (fun _ h9 => h9) rfl dX12_mayRun_128 ?_
      refine lv_iload_n hx hb dX12_mayRun_131 rfl (lv_at hl 1 rfl) ?_
      refine va_iald hx hb hK hP 22 0 rfl rfl (vin hi (by decide)) dX12_mayRun_132 ?_
      refine lv_iconst (v := 1) hx hb dX12_mayRun_133 (by decide) ?_
      refine lv_isub hx hb dX12_mayRun_134 ?_
      refine lv_topi (fun x_3 ex_3 => ?_)
      refine lv_istore (lv' := [(6, .int x_3), (0, .ref h0), (1, .int p0), (2, .int (nI P)), (3, .int (nI X)), (4, .int (nI Y)), (5, .int (nI N))]) hx hb dX12_mayRun_135 hl (by decide) rfl (fun ls hl => ?_)
      have hex : x_3 = u.2 22 p0.toNatClampNeg := by rw [ex_3, eu_2, mStand_22, addsub1]
      have hl5 : bw x_3 0 5 = true := by rw [hex]; exact q05 hc h6
      have hc6 : bw (u_2.2 22 p0.toNatClampNeg) 0 6 = true := by rw [eu_2, mStand_22]; exact q16 (q05 hc h6)
      have hfr2 : runG u_2 p0 x_3 → 0 ≤ (mFrom u_2 p0 x_3.toNatClampNeg).toInt ∧ (mFrom u_2 p0 x_3.toNatClampNeg).toInt ≤ 400 ∧ (mTakes u_2 p0 x_3).toInt ≤ 60 := by rw [hex, eu_2]; exact hfr h6
      refine w_cut (X := fun R cells slots Q args => ∀ (g9 : Int32) (ls : Array Slot), ((g9 = 0 ∧ ¬ rX u_2 p0 P x_3) ∨ (g9 = 1 ∧ rX u_2 p0 P x_3)) → lv_has ls 10 [(7, .int g9), (0, .ref h0), (1, .int p0), (2, .int (nI P)), (3, .int (nI X)), (4, .int (nI Y)), (5, .int (nI N))] → W p l e R s m args below meth c H locs cells slots Q (F0 m 271 ls [])) ?_ (fun kJ271 => ?_)
      ·
        intro g9 ls hg9 hl
        refine lv_aload_n hx hb dX12_mayRun_271 rfl (lv_at hl 1 rfl) ?_
        refine lv_iload_n hx hb dX12_mayRun_272 rfl (lv_at hl 2 rfl) ?_
        obtain ⟨e23_9, e24_9, e25_9, e26_9, e27_9⟩ := mStand_sl u p0 P X Y 1 N
        rw [← eu_2] at e23_9 e24_9 e25_9 e26_9 e27_9
        have hq9 : bw (u_2.2 22 p0.toNatClampNeg - 1) 0 5 = true := by rw [eu_2, mStand_22, addsub1]; exact q05 hc h6
        have hFc := fr_all hD hS hA
        refine va_callv (va_runV (As := [.int p0]) (rest := []) ⟨hx, hb, hml, hown, hts⟩ (m_unstand l dC dI h0 v cI cZ u_2 p0 P X Y 1 N hPP hXW hYN hi hq9 e23_9 e24_9 e25_9 e26_9 e27_9 H.size) (cwV 1 hts gX12_mayRun_X12_unstand rfl rfl rfl zh_X12_unstand_14 ⟨Nat.le_of_ble_eq_true rfl, Nat.le_of_ble_eq_true rfl⟩) ⟨gw_fb, va_recv hK hP (ci := 11) (q0 := 0) rfl rfl, fun U hU hW => ⟨rfl, by rw [hU], pw_to hU hW hP hK hN, hD.weaken (fun _ _ _ _ => trivial)⟩⟩ rfl rfl hl.1 rfl (lv_room (Nat.le_of_ble_eq_true rfl)) dX12_mayRun_273 ⟨Nat.le_of_ble_eq_true rfl, Nat.le_of_ble_eq_true rfl⟩) hS (fun q _ h => hFc q h) hFc (fun u_4 t H1 locs ht hvm hw hB hz1 hk1 hS => ?_)
        obtain ⟨hP, hD1⟩ := hB
        rw [ht] at hP
        have hD := hD1.weaken (fun _ q _ h => hFc q.1 h)
        generalize H1 = H at hP hS ⊢
        have eu_4 := hw
        refine lv_iload hx hb dX12_mayRun_276 (lv_at hl 0 rfl) ?_
        exact W.zret (v := g9) hx hb hr (by rcases hg9 with ⟨h, -⟩ | ⟨h, -⟩ <;> rw [h] <;> decide) (fun t ht hW => ⟨⟨g9, u_4, rfl, (Or.inr ⟨(by rw [hex, eu_2] at hg9; exact hg9.imp (fun h => ⟨h.1, fun q => h.2 q.2.2⟩) (fun h => ⟨h.1, h6, hbh, h.2⟩)), h6, (by rw [eu_4, eu_2])⟩), by rw [ht]; exact hP, hD⟩, hS.F ht⟩) hS.2.2 dX12_mayRun_278
      ·
        refine w_cut (X := fun R cells slots Q args => ∀ (a8 : Int32) (g8 : Int32) (ls : Array Slot), ((g8 = 0 ∧ ¬ rX u_2 p0 P x_3) ∨ (g8 = 1 ∧ runG u_2 p0 x_3 ∧ a8 = mFrom u_2 p0 x_3.toNatClampNeg ∧ ¬ u_2.2 15 p0.toNatClampNeg < a8 + mTakes u_2 p0 x_3)) → lv_has ls 10 [(8, .int a8), (7, .int g8), (6, .int x_3), (0, .ref h0), (1, .int p0), (2, .int (nI P)), (3, .int (nI X)), (4, .int (nI Y)), (5, .int (nI N))] → W p l e R s m args below meth c H locs cells slots Q (F0 m 213 ls [])) ?_ (fun kJ213 => ?_)
        ·
          intro a8 g8 ls hg8 hl
          refine lv_iload hx hb dX12_mayRun_213 (lv_at hl 0 rfl) ?_
          refine lv_istore (lv' := [(9, .int a8), (8, .int a8), (7, .int g8), (6, .int x_3), (0, .ref h0), (1, .int p0), (2, .int (nI P)), (3, .int (nI X)), (4, .int (nI Y)), (5, .int (nI N))]) hx hb dX12_mayRun_215 hl (by decide) rfl (fun ls hl => ?_)
          rcases hg8 with ⟨h8, hn8⟩ | ⟨h8, hG, ea8, hcl⟩
          ·
            subst h8
            refine lv_iload hx hb dX12_mayRun_217 (lv_at hl 0 rfl) ?_
            refine lv_iload hx hb dX12_mayRun_219 (lv_at hl 1 rfl) ?_
            refine lv_aload_n hx hb dX12_mayRun_221 rfl (lv_at hl 4 rfl) ?_
            refine lv_iload_n hx hb dX12_mayRun_222 rfl (lv_at hl 5 rfl) ?_
            refine lv_iload hx hb dX12_mayRun_223 (lv_at hl 3 rfl) ?_
            refine vp_callSi (va_runV (As := [.int p0, .int x_3]) (rest := [.int a8, .int a8]) ⟨hx, hb, hml, hown, hts⟩ (m_takes l dC dI h0 v cI cZ u_2 p0 x_3 hi hl5 hc6) (cwV 2 hts gX12_mayRun_X12_takes rfl rfl rfl zh_X12_takes_6 ⟨Nat.le_of_ble_eq_true rfl, Nat.le_of_ble_eq_true rfl⟩) ⟨pw_fb, va_recv hK hP (ci := 11) (q0 := 0) rfl rfl, fun U hU hW => ⟨rfl, pw_to hU hW hP hK hN⟩⟩ rfl rfl hl.1 rfl (lv_room (Nat.le_of_ble_eq_true rfl)) dX12_mayRun_225 ⟨Nat.le_of_ble_eq_true rfl, Nat.le_of_ble_eq_true rfl⟩).run (fun r hw => ?_)
            obtain rfl : r = (mTakes u_2 p0 x_3) := hw
            refine lv_iadd hx hb dX12_mayRun_228 ?_
            refine lv_icmp_ge (tgt := 271) hx hb dX12_mayRun_229 (by decide) (fun c_5 => ?_) (fun c_5 => ?_)
            ·
              exact kJ271 _ ls (Or.inl ⟨rfl, hn8⟩) (lv_sub hl [2, 4, 5, 6, 7, 8, 9] rfl)
            ·
              refine lv_iload hx hb dX12_mayRun_232 (lv_at hl 2 rfl) ?_
              refine lv_if_eq (tgt := 271) hx hb dX12_mayRun_234 (by decide) (fun c_6 => ?_) (fun c_6 => absurd (by decide) c_6)
              exact kJ271 _ ls (Or.inl ⟨rfl, hn8⟩) (lv_sub hl [2, 4, 5, 6, 7, 8, 9] rfl)
          ·
            subst h8
            obtain ⟨h1, h2, h3⟩ := hfr2 hG
            rw [← ea8] at h1 h2
            obtain ⟨T, hT1, hT2, eT⟩ := exN (x := mTakes u_2 p0 x_3) (lo := 1) (hi := 60) (by rw [bw_iff]; refine ⟨?_, h3⟩; have := hG.1; rw [i32_lt] at this; omega) (by decide)
            obtain ⟨a9, ha1, ha2, ea9⟩ := exN (x := a8) (lo := 0) (hi := 400) (by rw [bw_iff]; exact ⟨h1, h2⟩) (by decide)
            have h400 : (400 : Int32).toInt = 400 := rfl
            have h60 : (60 : Int32).toInt = 60 := rfl
            have hcl2 := hcl
            rw [eT, ea9] at hcl2
            have ha8 : a9 + T ≤ 80 := by have hz := bw_iff.mp hcm; have h80 : (80 : Int32).toInt = 80 := rfl; rw [h80] at hz; rw [show u_2.2 15 p0.toNatClampNeg = u.2 15 p0.toNatClampNeg from by rw [eu_2]; rfl, eT, ea9, nI_add, i32_lt, nI_toInt (by omega)] at hcl; omega
            subst ea9
            exact n_mr_loop (u := u_2) (T := T) (a9 := a9) hx hb hml hts hown hN hK (Nat.le_of_ble_eq_true rfl) (Nat.le_of_ble_eq_true rfl) (Nat.le_of_ble_eq_true rfl) (Nat.le_of_ble_eq_true rfl) hP hi hPP hl5 hc6 eT ha8 (fun g9 ls hq hl => kJ271 g9 ls (rX_i hG eT ea8 (by omega) (by omega) hcl2 hq) hl) (T + 1) 0 1 ls (Nat.zero_le _) (by omega) (Or.inl ⟨rfl, fun t ht => absurd ht (Nat.not_lt_zero _)⟩) (lv_sub hl [0, 1, 2, 3, 4, 5, 6, 7, 8, 9] rfl)
        ·
          refine w_cut (X := fun R cells slots Q args => ∀ (g7 : Int32) (ls : Array Slot), ((g7 = 0 ∧ ¬ runG u_2 p0 x_3) ∨ (g7 = 1 ∧ runG u_2 p0 x_3)) → lv_has ls 10 [(7, .int g7), (6, .int x_3), (0, .ref h0), (1, .int p0), (2, .int (nI P)), (3, .int (nI X)), (4, .int (nI Y)), (5, .int (nI N))] → W p l e R s m args below meth c H locs cells slots Q (F0 m 173 ls [])) ?_ (fun kJ173 => ?_)
          ·
            intro g7 ls hg7 hl
            refine lv_aload_n hx hb dX12_mayRun_173 rfl (lv_at hl 2 rfl) ?_
            refine lv_iload_n hx hb dX12_mayRun_174 rfl (lv_at hl 3 rfl) ?_
            refine lv_iload hx hb dX12_mayRun_175 (lv_at hl 1 rfl) ?_
            refine vp_callSi (va_runV (As := [.int p0, .int x_3]) (rest := []) ⟨hx, hb, hml, hown, hts⟩ (m_from2 l dC dI h0 v cI cZ u_2 p0 x_3 hi (k56 hl5) hc6) (cwV 2 hts gX12_mayRun_X12_from rfl rfl rfl zh_X12_from_12 ⟨Nat.le_of_ble_eq_true rfl, Nat.le_of_ble_eq_true rfl⟩) ⟨pw_fb, va_recv hK hP (ci := 11) (q0 := 0) rfl rfl, fun U hU hW => ⟨rfl, pw_to hU hW hP hK hN⟩⟩ rfl rfl hl.1 rfl (lv_room (Nat.le_of_ble_eq_true rfl)) dX12_mayRun_177 ⟨Nat.le_of_ble_eq_true rfl, Nat.le_of_ble_eq_true rfl⟩).run (fun r hw => ?_)
            obtain rfl : r = (mFrom u_2 p0 (x_3 : Int32).toNatClampNeg) := hw
            refine lv_topi (fun x_7 ex_7 => ?_)
            refine lv_istore (lv' := [(8, .int x_7), (7, .int g7), (6, .int x_3), (0, .ref h0), (1, .int p0), (2, .int (nI P)), (3, .int (nI X)), (4, .int (nI Y)), (5, .int (nI N))]) hx hb dX12_mayRun_180 hl (by decide) rfl (fun ls hl => ?_)
            refine lv_iload hx hb dX12_mayRun_182 (lv_at hl 1 rfl) ?_
            refine lv_if_eq (tgt := 210) hx hb dX12_mayRun_184 (by decide) (fun c_8 => ?_) (fun c_8 => ?_)
            ·
              refine lv_iconst (v := 0) hx hb dX12_mayRun_210 (by decide) ?_
              refine lv_istore (lv' := [(7, .int 0), (8, .int x_7), (6, .int x_3), (0, .ref h0), (1, .int p0), (2, .int (nI P)), (3, .int (nI X)), (4, .int (nI Y)), (5, .int (nI N))]) hx hb dX12_mayRun_211 hl (by decide) rfl (fun ls hl => ?_)
              exact kJ213 _ _ ls (Or.inl ⟨rfl, fun h => (hg7.elim (fun q => q.2 h.1) (fun q => absurd (q.1.symm.trans c_8) (by decide)))⟩) (lv_sub hl [1, 0, 2, 3, 4, 5, 6, 7, 8] rfl)
            ·
              refine lv_iload hx hb dX12_mayRun_187 (lv_at hl 0 rfl) ?_
              refine lv_aload_n hx hb dX12_mayRun_189 rfl (lv_at hl 3 rfl) ?_
              refine lv_iload_n hx hb dX12_mayRun_190 rfl (lv_at hl 4 rfl) ?_
              refine lv_iload hx hb dX12_mayRun_191 (lv_at hl 2 rfl) ?_
              refine vp_callSi (va_runV (As := [.int p0, .int x_3]) (rest := [.int x_7]) ⟨hx, hb, hml, hown, hts⟩ (m_takes l dC dI h0 v cI cZ u_2 p0 x_3 hi hl5 hc6) (cwV 2 hts gX12_mayRun_X12_takes rfl rfl rfl zh_X12_takes_6 ⟨Nat.le_of_ble_eq_true rfl, Nat.le_of_ble_eq_true rfl⟩) ⟨pw_fb, va_recv hK hP (ci := 11) (q0 := 0) rfl rfl, fun U hU hW => ⟨rfl, pw_to hU hW hP hK hN⟩⟩ rfl rfl hl.1 rfl (lv_room (Nat.le_of_ble_eq_true rfl)) dX12_mayRun_193 ⟨Nat.le_of_ble_eq_true rfl, Nat.le_of_ble_eq_true rfl⟩).run (fun r hw => ?_)
              obtain rfl : r = (mTakes u_2 p0 x_3) := hw
              refine lv_iadd hx hb dX12_mayRun_196 ?_
              refine lv_aload_n hx hb dX12_mayRun_197 rfl (lv_at hl 3 rfl) ?_
              refine va_get (D := (dC, dI)) (ci := 11) (v := .ref (v 15)) (C := RX12) (T := TX12) (N := 52) hx hb hts zl_X12_mayRun_X12 hown hK hP 0 rfl rfl 15 (by decide) (hts (.fieldLink RX12 52 "PageOneModel" "come" "[I") (zat q_wsX12_mayRun k_wsX12_mayRun 897 rfl (by decide +kernel))) (fun _ h9 => h9) rfl dX12_mayRun_198 ?_
              refine lv_iload_n hx hb dX12_mayRun_201 rfl (lv_at hl 4 rfl) ?_
              refine va_iald hx hb hK hP 15 0 rfl rfl (vin hi (by decide)) dX12_mayRun_202 ?_
              refine lv_icmp_gt (tgt := 210) hx hb dX12_mayRun_203 (by decide) (fun c_9 => ?_) (fun c_9 => ?_)
              ·
                refine lv_iconst (v := 0) hx hb dX12_mayRun_210 (by decide) ?_
                refine lv_istore (lv' := [(7, .int 0), (8, .int x_7), (6, .int x_3), (0, .ref h0), (1, .int p0), (2, .int (nI P)), (3, .int (nI X)), (4, .int (nI Y)), (5, .int (nI N))]) hx hb dX12_mayRun_211 hl (by decide) rfl (fun ls hl => ?_)
                exact kJ213 _ _ ls (Or.inl ⟨rfl, fun h => h.2.1 (by rw [← ex_7]; exact c_9)⟩) (lv_sub hl [1, 0, 2, 3, 4, 5, 6, 7, 8] rfl)
              ·
                refine lv_iconst (v := 1) hx hb dX12_mayRun_206 (by decide) ?_
                refine lv_goto (tgt := 211) hx hb dX12_mayRun_207 (by decide) ?_
                refine lv_istore (lv' := [(7, .int 1), (8, .int x_7), (6, .int x_3), (0, .ref h0), (1, .int p0), (2, .int (nI P)), (3, .int (nI X)), (4, .int (nI Y)), (5, .int (nI N))]) hx hb dX12_mayRun_211 hl (by decide) rfl (fun ls hl => ?_)
                exact kJ213 _ _ ls (Or.inr ⟨rfl, (hg7.resolve_left (fun h => c_8 h.1)).2, ex_7, c_9⟩) (lv_sub hl [1, 0, 2, 3, 4, 5, 6, 7, 8] rfl)
          ·
            refine lv_aload_n hx hb dX12_mayRun_137 rfl (lv_at hl 1 rfl) ?_
            refine lv_iload_n hx hb dX12_mayRun_138 rfl (lv_at hl 2 rfl) ?_
            refine lv_iload hx hb dX12_mayRun_139 (lv_at hl 0 rfl) ?_
            refine vp_callSi (va_runV (As := [.int p0, .int x_3]) (rest := []) ⟨hx, hb, hml, hown, hts⟩ (m_takes l dC dI h0 v cI cZ u_2 p0 x_3 hi hl5 hc6) (cwV 2 hts gX12_mayRun_X12_takes rfl rfl rfl zh_X12_takes_6 ⟨Nat.le_of_ble_eq_true rfl, Nat.le_of_ble_eq_true rfl⟩) ⟨pw_fb, va_recv hK hP (ci := 11) (q0 := 0) rfl rfl, fun U hU hW => ⟨rfl, pw_to hU hW hP hK hN⟩⟩ rfl rfl hl.1 rfl (lv_room (Nat.le_of_ble_eq_true rfl)) dX12_mayRun_141 ⟨Nat.le_of_ble_eq_true rfl, Nat.le_of_ble_eq_true rfl⟩).run (fun r hw => ?_)
            obtain rfl : r = (mTakes u_2 p0 x_3) := hw
            refine lv_iconst (v := 1) hx hb dX12_mayRun_144 (by decide) ?_
            refine lv_icmp_lt (tgt := 170) hx hb dX12_mayRun_145 (by decide) (fun c_10 => ?_) (fun c_10 => ?_)
            ·
              refine lv_iconst (v := 0) hx hb dX12_mayRun_170 (by decide) ?_
              refine lv_istore (lv' := [(7, .int 0), (6, .int x_3), (0, .ref h0), (1, .int p0), (2, .int (nI P)), (3, .int (nI X)), (4, .int (nI Y)), (5, .int (nI N))]) hx hb dX12_mayRun_171 hl (by decide) rfl (fun ls hl => ?_)
              exact kJ173 _ ls (Or.inl ⟨rfl, fun h => h.1 c_10⟩) (lv_sub hl [0, 1, 2, 3, 4, 5, 6, 7] rfl)
            ·
              refine lv_iload hx hb dX12_mayRun_148 (lv_at hl 0 rfl) ?_
              refine lv_if_eq (tgt := 166) hx hb dX12_mayRun_150 (by decide) (fun c_11 => ?_) (fun c_11 => ?_)
              ·
                refine lv_iconst (v := 1) hx hb dX12_mayRun_166 (by decide) ?_
                refine lv_goto (tgt := 171) hx hb dX12_mayRun_167 (by decide) ?_
                refine lv_istore (lv' := [(7, .int 1), (6, .int x_3), (0, .ref h0), (1, .int p0), (2, .int (nI P)), (3, .int (nI X)), (4, .int (nI Y)), (5, .int (nI N))]) hx hb dX12_mayRun_171 hl (by decide) rfl (fun ls hl => ?_)
                exact kJ173 _ ls (Or.inr ⟨rfl, ⟨c_10, Or.inl c_11⟩⟩) (lv_sub hl [0, 1, 2, 3, 4, 5, 6, 7] rfl)
              ·
                refine lv_aload_n hx hb dX12_mayRun_153 rfl (lv_at hl 1 rfl) ?_
                refine lv_iload_n hx hb dX12_mayRun_154 rfl (lv_at hl 2 rfl) ?_
                refine lv_iload hx hb dX12_mayRun_155 (lv_at hl 0 rfl) ?_
                refine lv_iconst (v := 1) hx hb dX12_mayRun_157 (by decide) ?_
                refine lv_isub hx hb dX12_mayRun_158 ?_
                refine vp_callSi (va_runV (As := [.int p0, .int (x_3 - 1)]) (rest := []) ⟨hx, hb, hml, hown, hts⟩ (m_takes l dC dI h0 v cI cZ u_2 p0 (x_3 - 1) hi (qm1 hl5 c_11) hc6) (cwV 2 hts gX12_mayRun_X12_takes rfl rfl rfl zh_X12_takes_6 ⟨Nat.le_of_ble_eq_true rfl, Nat.le_of_ble_eq_true rfl⟩) ⟨pw_fb, va_recv hK hP (ci := 11) (q0 := 0) rfl rfl, fun U hU hW => ⟨rfl, pw_to hU hW hP hK hN⟩⟩ rfl rfl hl.1 rfl (lv_room (Nat.le_of_ble_eq_true rfl)) dX12_mayRun_159 ⟨Nat.le_of_ble_eq_true rfl, Nat.le_of_ble_eq_true rfl⟩).run (fun r hw => ?_)
                obtain rfl : r = (mTakes u_2 p0 (x_3 - 1)) := hw
                refine lv_iconst (v := 1) hx hb dX12_mayRun_162 (by decide) ?_
                refine lv_icmp_lt (tgt := 170) hx hb dX12_mayRun_163 (by decide) (fun c_12 => ?_) (fun c_12 => ?_)
                ·
                  refine lv_iconst (v := 0) hx hb dX12_mayRun_170 (by decide) ?_
                  refine lv_istore (lv' := [(7, .int 0), (6, .int x_3), (0, .ref h0), (1, .int p0), (2, .int (nI P)), (3, .int (nI X)), (4, .int (nI Y)), (5, .int (nI N))]) hx hb dX12_mayRun_171 hl (by decide) rfl (fun ls hl => ?_)
                  exact kJ173 _ ls (Or.inl ⟨rfl, fun h => h.2.elim c_11 (fun q => q c_12)⟩) (lv_sub hl [0, 1, 2, 3, 4, 5, 6, 7] rfl)
                ·
                  refine lv_iconst (v := 1) hx hb dX12_mayRun_166 (by decide) ?_
                  refine lv_goto (tgt := 171) hx hb dX12_mayRun_167 (by decide) ?_
                  refine lv_istore (lv' := [(7, .int 1), (6, .int x_3), (0, .ref h0), (1, .int p0), (2, .int (nI P)), (3, .int (nI X)), (4, .int (nI Y)), (5, .int (nI N))]) hx hb dX12_mayRun_171 hl (by decide) rfl (fun ls hl => ?_)
                  exact kJ173 _ ls (Or.inr ⟨rfl, ⟨c_10, Or.inr c_12⟩⟩) (lv_sub hl [0, 1, 2, 3, 4, 5, 6, 7] rfl)
    ·
      refine w_cut (X := fun R cells slots Q args => ∀ (g0 : Int32) (ls : Array Slot), ((g0 = 0 ∧ ¬ bhR u p0 P X Y) ∨ (g0 = 1 ∧ bhR u p0 P X Y)) → lv_has ls 10 [(7, .int g0), (0, .ref h0), (1, .int p0), (2, .int (nI P)), (3, .int (nI X)), (4, .int (nI Y)), (5, .int (nI N))] → W p l e R s m args below meth c s.heap [] cells slots Q (F0 m 108 ls [])) ?_ (fun kJ108 => ?_)
      ·
        intro g0 ls hB0 hl
        refine lv_iload hx hb dX12_mayRun_108 (lv_at hl 0 rfl) ?_
        refine lv_if_ne (tgt := 115) hx hb dX12_mayRun_110 (by decide) (fun c_13 => ?_) (fun c_13 => ?_)
        ·
          exact kJ115 ls (hB0.resolve_left (fun h => c_13 h.1)).2 (lv_sub hl [1, 2, 3, 4, 5, 6] rfl)
        ·
          refine lv_iconst (v := 0) hx hb dX12_mayRun_113 (by decide) ?_
          exact W.zret (v := 0) hx hb hr (by decide) (fun t ht hW => ⟨⟨0, u, rfl, (Or.inl ⟨rfl, rfl, fun q => hB0.elim (fun h => h.2 q.2.1) (fun h => absurd (h.1.symm.trans c_13) (by decide))⟩), by rw [ht]; exact hP, hD⟩, hS.F ht⟩) hS.2.2 dX12_mayRun_114
      ·
        refine lv_aload_n hx hb dX12_mayRun_13 rfl (lv_at hl 0 rfl) ?_
        refine va_get (D := (dC, dI)) (ci := 11) (v := .ref (v 22)) (C := RX12) (T := TX12) (N := 52) hx hb hts zl_X12_mayRun_X12 hown hK hP 0 rfl rfl 22 (by decide) (hts (.fieldLink RX12 74 "PageOneModel" "pieces" "[I") (zat q_wsX12_mayRun k_wsX12_mayRun 904 rfl (by decide +kernel))) (fun _ h9 => h9) rfl dX12_mayRun_14 ?_
        refine lv_iload_n hx hb dX12_mayRun_17 rfl (lv_at hl 1 rfl) ?_
        refine va_iald hx hb hK hP 22 0 rfl rfl (vin hi (by decide)) dX12_mayRun_18 ?_
        refine lv_if_le (tgt := 115) hx hb dX12_mayRun_19 (by decide) (fun c_14 => ?_) (fun c_14 => ?_)
        ·
          exact kJ115 ls (Or.inl c_14) (lv_sub hl [0, 1, 2, 3, 4, 5] rfl)
        ·
          refine lv_bipush (v := 6) hx hb dX12_mayRun_22 (by decide) ?_
          refine lv_iload_n hx hb dX12_mayRun_24 rfl (lv_at hl 1 rfl) ?_
          refine lv_imul hx hb dX12_mayRun_25 ?_
          refine lv_aload_n hx hb dX12_mayRun_26 rfl (lv_at hl 0 rfl) ?_
          refine va_get (D := (dC, dI)) (ci := 11) (v := .ref (v 22)) (C := RX12) (T := TX12) (N := 52) hx hb hts zl_X12_mayRun_X12 hown hK hP 0 rfl rfl 22 (by decide) (hts (.fieldLink RX12 74 "PageOneModel" "pieces" "[I") (zat q_wsX12_mayRun k_wsX12_mayRun 904 rfl (by decide +kernel))) (fun _ h9 => h9) rfl dX12_mayRun_27 ?_
          refine lv_iload_n hx hb dX12_mayRun_30 rfl (lv_at hl 1 rfl) ?_
          refine va_iald hx hb hK hP 22 0 rfl rfl (vin hi (by decide)) dX12_mayRun_31 ?_
          refine lv_iadd hx hb dX12_mayRun_32 ?_
          refine lv_iconst (v := 1) hx hb dX12_mayRun_33 (by decide) ?_
          refine lv_isub hx hb dX12_mayRun_34 ?_
          refine lv_topi (fun x_15 ex_15 => ?_)
          refine lv_istore (lv' := [(6, .int x_15), (0, .ref h0), (1, .int p0), (2, .int (nI P)), (3, .int (nI X)), (4, .int (nI Y)), (5, .int (nI N))]) hx hb dX12_mayRun_35 hl (by decide) rfl (fun ls hl => ?_)
          refine lv_iload_n hx hb dX12_mayRun_37 rfl (lv_at hl 3 rfl) ?_
          refine lv_aload_n hx hb dX12_mayRun_38 rfl (lv_at hl 1 rfl) ?_
          refine va_get (D := (dC, dI)) (ci := 11) (v := .ref (v 23)) (C := RX12) (T := TX12) (N := 52) hx hb hts zl_X12_mayRun_X12 hown hK hP 0 rfl rfl 23 (by decide) (hts (.fieldLink RX12 77 "PageOneModel" "pPage" "[I") (zat q_wsX12_mayRun k_wsX12_mayRun 905 rfl (by decide +kernel))) (fun _ h9 => h9) rfl dX12_mayRun_39 ?_
          refine lv_iload hx hb dX12_mayRun_42 (lv_at hl 0 rfl) ?_
          refine va_iald hx hb hK hP 23 0 rfl rfl (by rw [ex_15]; exact hpr (fun h => absurd (by rw [h]; decide) c_14)) dX12_mayRun_44 ?_
          refine lv_icmp_gt (tgt := 101) hx hb dX12_mayRun_45 (by decide) (fun c_16 => ?_) (fun c_16 => ?_)
          ·
            refine lv_iconst (v := 1) hx hb dX12_mayRun_101 (by decide) ?_
            refine lv_goto (tgt := 106) hx hb dX12_mayRun_102 (by decide) ?_
            refine lv_istore (lv' := [(7, .int 1), (6, .int x_15), (0, .ref h0), (1, .int p0), (2, .int (nI P)), (3, .int (nI X)), (4, .int (nI Y)), (5, .int (nI N))]) hx hb dX12_mayRun_106 hl (by decide) rfl (fun ls hl => ?_)
            exact kJ108 _ ls (Or.inr ⟨rfl, bh_y ex_15 (Or.inl c_16)⟩) (lv_sub hl [0, 2, 3, 4, 5, 6, 7] rfl)
          ·
            refine lv_iload_n hx hb dX12_mayRun_48 rfl (lv_at hl 3 rfl) ?_
            refine lv_aload_n hx hb dX12_mayRun_49 rfl (lv_at hl 1 rfl) ?_
            refine va_get (D := (dC, dI)) (ci := 11) (v := .ref (v 23)) (C := RX12) (T := TX12) (N := 52) hx hb hts zl_X12_mayRun_X12 hown hK hP 0 rfl rfl 23 (by decide) (hts (.fieldLink RX12 77 "PageOneModel" "pPage" "[I") (zat q_wsX12_mayRun k_wsX12_mayRun 905 rfl (by decide +kernel))) (fun _ h9 => h9) rfl dX12_mayRun_50 ?_
            refine lv_iload hx hb dX12_mayRun_53 (lv_at hl 0 rfl) ?_
            refine va_iald hx hb hK hP 23 0 rfl rfl (by rw [ex_15]; exact hpr (fun h => absurd (by rw [h]; decide) c_14)) dX12_mayRun_55 ?_
            refine lv_icmp_ne (tgt := 105) hx hb dX12_mayRun_56 (by decide) (fun c_17 => ?_) (fun c_17 => ?_)
            ·
              refine lv_iconst (v := 0) hx hb dX12_mayRun_105 (by decide) ?_
              refine lv_istore (lv' := [(7, .int 0), (6, .int x_15), (0, .ref h0), (1, .int p0), (2, .int (nI P)), (3, .int (nI X)), (4, .int (nI Y)), (5, .int (nI N))]) hx hb dX12_mayRun_106 hl (by decide) rfl (fun ls hl => ?_)
              exact kJ108 _ ls (Or.inl ⟨rfl, bh_n ex_15 c_14 (fun h => h.elim c_16 (fun h => c_17 h.1))⟩) (lv_sub hl [0, 2, 3, 4, 5, 6, 7] rfl)
            ·
              refine lv_iload_n hx hb dX12_mayRun_59 rfl (lv_at hl 4 rfl) ?_
              refine lv_aload_n hx hb dX12_mayRun_60 rfl (lv_at hl 1 rfl) ?_
              refine va_get (D := (dC, dI)) (ci := 11) (v := .ref (v 24)) (C := RX12) (T := TX12) (N := 52) hx hb hts zl_X12_mayRun_X12 hown hK hP 0 rfl rfl 24 (by decide) (hts (.fieldLink RX12 80 "PageOneModel" "pColumn" "[I") (zat q_wsX12_mayRun k_wsX12_mayRun 906 rfl (by decide +kernel))) (fun _ h9 => h9) rfl dX12_mayRun_61 ?_
              refine lv_iload hx hb dX12_mayRun_64 (lv_at hl 0 rfl) ?_
              refine va_iald hx hb hK hP 24 0 rfl rfl (by rw [ex_15]; exact hpr (fun h => absurd (by rw [h]; decide) c_14)) dX12_mayRun_66 ?_
              refine lv_icmp_gt (tgt := 101) hx hb dX12_mayRun_67 (by decide) (fun c_18 => ?_) (fun c_18 => ?_)
              ·
                refine lv_iconst (v := 1) hx hb dX12_mayRun_101 (by decide) ?_
                refine lv_goto (tgt := 106) hx hb dX12_mayRun_102 (by decide) ?_
                refine lv_istore (lv' := [(7, .int 1), (6, .int x_15), (0, .ref h0), (1, .int p0), (2, .int (nI P)), (3, .int (nI X)), (4, .int (nI Y)), (5, .int (nI N))]) hx hb dX12_mayRun_106 hl (by decide) rfl (fun ls hl => ?_)
                exact kJ108 _ ls (Or.inr ⟨rfl, bh_y ex_15 (Or.inr ⟨c_17, Or.inl c_18⟩)⟩) (lv_sub hl [0, 2, 3, 4, 5, 6, 7] rfl)
              ·
                refine lv_iload_n hx hb dX12_mayRun_70 rfl (lv_at hl 4 rfl) ?_
                refine lv_aload_n hx hb dX12_mayRun_71 rfl (lv_at hl 1 rfl) ?_
                refine va_get (D := (dC, dI)) (ci := 11) (v := .ref (v 24)) (C := RX12) (T := TX12) (N := 52) hx hb hts zl_X12_mayRun_X12 hown hK hP 0 rfl rfl 24 (by decide) (hts (.fieldLink RX12 80 "PageOneModel" "pColumn" "[I") (zat q_wsX12_mayRun k_wsX12_mayRun 906 rfl (by decide +kernel))) (fun _ h9 => h9) rfl dX12_mayRun_72 ?_
                refine lv_iload hx hb dX12_mayRun_75 (lv_at hl 0 rfl) ?_
                refine va_iald hx hb hK hP 24 0 rfl rfl (by rw [ex_15]; exact hpr (fun h => absurd (by rw [h]; decide) c_14)) dX12_mayRun_77 ?_
                refine lv_icmp_ne (tgt := 105) hx hb dX12_mayRun_78 (by decide) (fun c_19 => ?_) (fun c_19 => ?_)
                ·
                  refine lv_iconst (v := 0) hx hb dX12_mayRun_105 (by decide) ?_
                  refine lv_istore (lv' := [(7, .int 0), (6, .int x_15), (0, .ref h0), (1, .int p0), (2, .int (nI P)), (3, .int (nI X)), (4, .int (nI Y)), (5, .int (nI N))]) hx hb dX12_mayRun_106 hl (by decide) rfl (fun ls hl => ?_)
                  exact kJ108 _ ls (Or.inl ⟨rfl, bh_n ex_15 c_14 (fun h => h.elim c_16 (fun h => h.2.elim c_18 (fun h => c_19 h.1)))⟩) (lv_sub hl [0, 2, 3, 4, 5, 6, 7] rfl)
                ·
                  refine lv_iload hx hb dX12_mayRun_81 (lv_at hl 5 rfl) ?_
                  refine lv_aload_n hx hb dX12_mayRun_83 rfl (lv_at hl 1 rfl) ?_
                  refine va_get (D := (dC, dI)) (ci := 11) (v := .ref (v 25)) (C := RX12) (T := TX12) (N := 52) hx hb hts zl_X12_mayRun_X12 hown hK hP 0 rfl rfl 25 (by decide) (hts (.fieldLink RX12 83 "PageOneModel" "pLine" "[I") (zat q_wsX12_mayRun k_wsX12_mayRun 907 rfl (by decide +kernel))) (fun _ h9 => h9) rfl dX12_mayRun_84 ?_
                  refine lv_iload hx hb dX12_mayRun_87 (lv_at hl 0 rfl) ?_
                  refine va_iald hx hb hK hP 25 0 rfl rfl (by rw [ex_15]; exact hpr (fun h => absurd (by rw [h]; decide) c_14)) dX12_mayRun_89 ?_
                  refine lv_aload_n hx hb dX12_mayRun_90 rfl (lv_at hl 1 rfl) ?_
                  refine va_get (D := (dC, dI)) (ci := 11) (v := .ref (v 27)) (C := RX12) (T := TX12) (N := 52) hx hb hts zl_X12_mayRun_X12 hown hK hP 0 rfl rfl 27 (by decide) (hts (.fieldLink RX12 89 "PageOneModel" "pHigh" "[I") (zat q_wsX12_mayRun k_wsX12_mayRun 909 rfl (by decide +kernel))) (fun _ h9 => h9) rfl dX12_mayRun_91 ?_
                  refine lv_iload hx hb dX12_mayRun_94 (lv_at hl 0 rfl) ?_
                  refine va_iald hx hb hK hP 27 0 rfl rfl (by rw [ex_15]; exact hpr (fun h => absurd (by rw [h]; decide) c_14)) dX12_mayRun_96 ?_
                  refine lv_iadd hx hb dX12_mayRun_97 ?_
                  refine lv_icmp_lt (tgt := 105) hx hb dX12_mayRun_98 (by decide) (fun c_20 => ?_) (fun c_20 => ?_)
                  ·
                    refine lv_iconst (v := 0) hx hb dX12_mayRun_105 (by decide) ?_
                    refine lv_istore (lv' := [(7, .int 0), (6, .int x_15), (0, .ref h0), (1, .int p0), (2, .int (nI P)), (3, .int (nI X)), (4, .int (nI Y)), (5, .int (nI N))]) hx hb dX12_mayRun_106 hl (by decide) rfl (fun ls hl => ?_)
                    exact kJ108 _ ls (Or.inl ⟨rfl, bh_n ex_15 c_14 (fun h => h.elim c_16 (fun h => h.2.elim c_18 (fun h => h.2 c_20)))⟩) (lv_sub hl [0, 2, 3, 4, 5, 6, 7] rfl)
                  ·
                    refine lv_iconst (v := 1) hx hb dX12_mayRun_101 (by decide) ?_
                    refine lv_goto (tgt := 106) hx hb dX12_mayRun_102 (by decide) ?_
                    refine lv_istore (lv' := [(7, .int 1), (6, .int x_15), (0, .ref h0), (1, .int p0), (2, .int (nI P)), (3, .int (nI X)), (4, .int (nI Y)), (5, .int (nI N))]) hx hb dX12_mayRun_106 hl (by decide) rfl (fun ls hl => ?_)
                    exact kJ108 _ ls (Or.inr ⟨rfl, bh_y ex_15 (Or.inr ⟨c_17, Or.inr ⟨c_19, c_20⟩⟩)⟩) (lv_sub hl [0, 2, 3, 4, 5, 6, 7] rfl)
  ·
    refine lv_iconst (v := 0) hx hb dX12_mayRun_11 (by decide) ?_
    exact W.zret (v := 0) hx hb hr (by decide) (fun t ht hW => ⟨⟨0, u, rfl, (Or.inl ⟨rfl, rfl, fun q => q.1 c_1⟩), by rw [ht]; exact hP, hD⟩, hS.F ht⟩) hS.2.2 dX12_mayRun_12
theorem putR (u : mS) (i : Int32) (P X Y D N : Nat) : (mActs (mStand u i P X Y D N) 0 i 0 0 0 0 0).2 22 i.toNatClampNeg = u.2 22 i.toNatClampNeg + 1 := by
  rw [mActs_k _ _ _ _ _ _ _ _ (by omega), mStand_22]
noncomputable def okP0 (u : mS) (p0 p1 p2 p3 p4 : Int32) : Prop := bw p0 0 (u.1 3 - 1) = true ∧ ¬ u.1 28 = 300 ∧ (True) ∧ ¬ p4 < 1 ∧ (True) ∧ mFreeP u p1 p2 p3 1 p4 ∧ (runX u p0 p1.toNatClampNeg p2.toNatClampNeg p3.toNatClampNeg p4.toNatClampNeg)
noncomputable def okP1 (u : mS) (p0 p1 p2 p3 p4 : Int32) : Prop := bw p0 0 (u.1 3 - 1) = true ∧ ¬ u.1 28 = 300 ∧ (p4 = 0) ∧ ¬ (u.2 8 p0.toNatClampNeg) < 1 ∧ (u.2 22 p0.toNatClampNeg = 0) ∧ mFreeP u p1 p2 p3 (u.2 7 p0.toNatClampNeg) (u.2 8 p0.toNatClampNeg) ∧ (True)
noncomputable def okP2 (u : mS) (p0 p1 p2 p3 p4 : Int32) : Prop := bw p0 0 (u.1 3 - 1) = true ∧ ¬ u.1 28 = 300 ∧ (bw p4 0 (u.2 17 p0.toNatClampNeg - 1) = true) ∧ ¬ (u.2 19 (4 * p0 + p4).toNatClampNeg) < 1 ∧ (u.2 22 p0.toNatClampNeg = 0) ∧ mFreeP u p1 p2 p3 (u.2 18 (4 * p0 + p4).toNatClampNeg) (u.2 19 (4 * p0 + p4).toNatClampNeg) ∧ (True)
noncomputable def okP3 (u : mS) (p0 p1 p2 p3 p4 : Int32) : Prop := bw p0 0 (u.1 3 - 1) = true ∧ ¬ u.1 28 = 300 ∧ (p4 = 0) ∧ ¬ (u.2 8 p0.toNatClampNeg) < 1 ∧ (u.2 22 p0.toNatClampNeg = 0) ∧ mFreeP u p1 p2 p3 (u.2 7 p0.toNatClampNeg) (u.2 8 p0.toNatClampNeg) ∧ (p1 = u.2 11 p0.toNatClampNeg ∧ p2 = u.2 12 p0.toNatClampNeg ∧ p3 = u.2 13 p0.toNatClampNeg)
noncomputable def okP4 (u : mS) (p0 p1 p2 p3 p4 : Int32) : Prop := bw p0 0 (u.1 3 - 1) = true ∧ ¬ u.1 28 = 300 ∧ (True) ∧ ¬ p4 < 1 ∧ (u.2 22 p0.toNatClampNeg = 0) ∧ mFreeP u p1 p2 p3 1 p4 ∧ (bw p4 (u.2 5 p0.toNatClampNeg) (u.2 6 p0.toNatClampNeg) = true)
noncomputable def okP5 (u : mS) (p0 p1 p2 p3 p4 : Int32) : Prop := bw p0 0 (u.1 3 - 1) = true ∧ ¬ u.1 28 = 300 ∧ (p4 = 0) ∧ ¬ (u.2 8 p0.toNatClampNeg) < 1 ∧ (u.2 22 p0.toNatClampNeg = 0) ∧ mFreeP u p1 p2 p3 1 (u.2 8 p0.toNatClampNeg) ∧ (¬ mMend u p0 p1 p2 = 0)
/-- what the reference's put does: ok, columns, lines -/
def rPut (u : mS) (p0 p1 p2 p3 W H : Int32) (ok : Prop) (r : Int32) (u9 : mS) : Prop := (r = (-1) ∧ ¬ ok ∧ (u9 = u ∨ (bw p0 0 (u.1 3 - 1) = true ∧ ∃ P X Y N, p1 = nI P ∧ p2 = nI X ∧ p3 = nI Y ∧ P < 12 ∧ X + 1 ≤ 8 ∧ Y + N ≤ 60 ∧ 1 ≤ N ∧ mFreeP u (nI P) (nI X) (nI Y) 1 (nI N) ∧ ¬ u.2 22 p0.toNatClampNeg = 6 ∧ u9 = mTry u p0 P X Y N))) ∨ (ok ∧ r = u.2 22 p0.toNatClampNeg + 1 ∧ ∃ P X Y D N, p1 = nI P ∧ p2 = nI X ∧ p3 = nI Y ∧ W = nI D ∧ H = nI N ∧ P < 12 ∧ X + D ≤ 8 ∧ Y + N ≤ 60 ∧ 1 ≤ D ∧ 1 ≤ N ∧ (u9 = mActs (mStand u p0 P X Y D N) 0 p0 0 0 0 0 0 ∨ (¬ u.2 22 p0.toNatClampNeg = 6 ∧ u9 = mActs (mStand (mTry u p0 P X Y N) p0 P X Y D N) 0 p0 0 0 0 0 0)))
set_option maxHeartbeats 4000000 in
set_option maxRecDepth 100000 in
theorem n_put0 (l : Launch) (dC : Nat → ClassId) (dI : Nat → Nat → Nat) (h0 : Nat) (v : Nat → Nat) (cI cZ : ClassId) (u : mS) (p0 p1 p2 p3 p4 : Int32) (hn : bw (u.1 3) 0 80 = true) (hln : ∀ j, j < 96 → bw (u.2 0 j) 0 60 = true) (hd : bw (u.1 38) 0 399 = true) (ha : bw (u.1 28) 0 300 = true) (hpc : ∀ j, j < 80 → bw (u.2 22 j) 0 6 = true) (hcm : ∀ j, j < 80 → bw (u.2 15 j) 0 80 = true) (hsz : ∀ j, j < 80 → bw (u.2 17 j) 0 4 = true) (hfr : bw p0 0 79 = true → ∀ P X Y N : Nat, P < 12 → X + 1 ≤ 8 → 1 ≤ N → Y + N ≤ 60 → ¬ u.2 22 p0.toNatClampNeg = 6 → runG (mStand u p0 P X Y 1 N) p0 (u.2 22 p0.toNatClampNeg) → 0 ≤ (mFrom (mStand u p0 P X Y 1 N) p0 (u.2 22 p0.toNatClampNeg).toNatClampNeg).toInt ∧ (mFrom (mStand u p0 P X Y 1 N) p0 (u.2 22 p0.toNatClampNeg).toNatClampNeg).toInt ≤ 400 ∧ (mTakes (mStand u p0 P X Y 1 N) p0 (u.2 22 p0.toNatClampNeg)).toInt ≤ 60) (hK9 : bw p0 0 (u.1 3 - 1) = true → u.2 4 p0.toNatClampNeg = 0) (sz : Nat) : Met l yX12_put wsX12_put ({ frames := 4, cells := 0, slots := 0, locals := 106 }) (va_Pc [.ref h0, .int p0, .int p1, .int p2, .int p3, .int p4] (fun U => U.heap.size = sz ∧ PW dC dI (mW h0 v cI cZ u) [(cI, .int), (cZ, .boolean)] U ∧ va_D (fun _ => True) (mW h0 v cI cZ u))) (va_Qi (fun (r : Int32) (u9 : mS) => rPut u p0 p1 p2 p3 1 p4 (okP0 u p0 p1 p2 p3 p4) r u9) (fun u9 t => va_P (dC, dI) vwCl (mW h0 v cI cZ u9) t.heap ∧ va_D (va_A (mW h0 v cI cZ u) sz) (mW h0 v cI cZ u9)) (va_A (mW h0 v cI cZ u) sz)) 0 0 (va_A (mW h0 v cI cZ u) sz) := by
  refine Met.ofW (cc := cX12_put) (maxL := 10) (ret := (some .int)) (by decide) rfl ?_
  intro p e s m args below meth c s₁ B hml hv
  obtain ⟨rfl, hsz, ⟨hP, hK, hN⟩, hD0⟩ := hv
  have hx := B.exec
  have hb := B.bytes
  have hr := B.returns
  have hts := atoms_spec (ws := wsX12_put) B.pre
  have hown : s.vm.findClass RX12 = some m.cls := findClass_of_methodNamed B.named
  have hlocks := B.notSynchronized
  subst hsz
  have hD := hD0.self (sz := s.heap.size)
  generalize hAe : va_A (mW h0 v cI cZ u) s.heap.size = A at hD ⊢
  have hA : ∀ q : Nat, s.heap.size ≤ q → A q := fun q h => by rw [← hAe]; exact Or.inr h
  have hS : va_S A s.heap s.heap [] := va_S.rf
  have hl := lv_entry ([.ref h0, .int p0, .int p1, .int p2, .int p3, .int p4]) (n := 10) (Nat.le_of_ble_eq_true rfl)
  rw [lg_entry_eq]
  generalize (lg_sl ([.ref h0, .int p0, .int p1, .int p2, .int p3, .int p4]) ++ List.replicate (10 - (lg_sl ([.ref h0, .int p0, .int p1, .int p2, .int p3, .int p4])).length) Slot.unset).toArray = ls at hl ⊢
  have hl : lv_has ls 10 [(0, .ref h0), (1, .int p0), (2, .int p1), (3, .int p2), (4, .int p3), (5, .int p4)] := hl
  refine lv_aload_n hx hb dX12_put_0 rfl (lv_at hl 0 rfl) ?_
  refine lv_iload_n hx hb dX12_put_1 rfl (lv_at hl 1 rfl) ?_
  refine vp_callSi (va_runV (As := [.int p0]) (rest := []) ⟨hx, hb, hml, hown, hts⟩ (m_isItem l dC dI h0 v cI cZ u p0) (cwV 1 hts gX12_put_X12_isItem rfl rfl rfl zh_X12_isItem_1 ⟨Nat.le_of_ble_eq_true rfl, Nat.le_of_ble_eq_true rfl⟩) ⟨pw_fb, va_recv hK hP (ci := 11) (q0 := 0) rfl rfl, fun U hU hW => ⟨rfl, pw_to hU hW hP hK hN⟩⟩ rfl rfl hl.1 rfl (lv_room (Nat.le_of_ble_eq_true rfl)) dX12_put_2 ⟨Nat.le_of_ble_eq_true rfl, Nat.le_of_ble_eq_true rfl⟩).run (fun r hw => ?_)
  rcases Bool.eq_false_or_eq_true (bw p0 0 (u.1 3 - 1)) with b_1 | b_1
  ·
    obtain rfl : r = 1 := b_t hw b_1
    refine lv_if_eq (tgt := 18) hx hb dX12_put_5 (by decide) (fun c_2 => absurd c_2 (by decide)) (fun c_2 => ?_)
    refine lv_aload_n hx hb dX12_put_8 rfl (lv_at hl 0 rfl) ?_
    refine va_get (D := (dC, dI)) (ci := 11) (v := .int (u.1 28)) (C := RX12) (T := TX12) (N := 52) hx hb hts zl_X12_put_X12 hown hK hP 0 rfl rfl 28 (by decide) (hts (.fieldLink RX12 158 "PageOneModel" "acts" "I") (zat q_wsX12_put k_wsX12_put 910 rfl (by decide +kernel))) (fun _ h9 => h9) rfl dX12_put_9 ?_
    refine lv_sipush (v := 300) hx hb dX12_put_12 (by decide) ?_
    refine lv_icmp_ne (tgt := 20) hx hb dX12_put_15 (by decide) (fun c_3 => ?_) (fun c_3 => ?_)
    ·
      refine lv_aload_n hx hb dX12_put_20 rfl (lv_at hl 0 rfl) ?_
      refine va_get (D := (dC, dI)) (ci := 11) (v := .ref (v 4)) (C := RX12) (T := TX12) (N := 52) hx hb hts zl_X12_put_X12 hown hK hP 0 rfl rfl 4 (by decide) (hts (.fieldLink RX12 19 "PageOneModel" "kind" "[I") (zat q_wsX12_put k_wsX12_put 886 rfl (by decide +kernel))) (fun _ h9 => h9) rfl dX12_put_21 ?_
      refine lv_iload_n hx hb dX12_put_24 rfl (lv_at hl 1 rfl) ?_
      refine va_iald hx hb hK hP 4 0 rfl rfl (vin (it79 hn b_1) (by decide)) dX12_put_25 ?_
      refine lv_topi (fun y_4 ey_4 => ?_)
      obtain rfl : y_4 = 0 := ey_4.trans (hK9 b_1)
      refine lv_istore (lv' := [(6, .int 0), (0, .ref h0), (1, .int p0), (2, .int p1), (3, .int p2), (4, .int p3), (5, .int p4)]) hx hb dX12_put_26 hl (by decide) rfl (fun ls hl => ?_)
      refine lv_iload hx hb dX12_put_28 (lv_at hl 0 rfl) ?_
      refine lv_iconst (v := 1) hx hb dX12_put_30 (by decide) ?_
      refine lv_icmp_eq (tgt := 40) hx hb dX12_put_31 (by decide) (fun c_5 => absurd c_5 (by decide)) (fun c_5 => ?_)
      refine lv_iload hx hb dX12_put_34 (lv_at hl 0 rfl) ?_
      refine lv_iconst (v := 3) hx hb dX12_put_36 (by decide) ?_
      refine lv_icmp_ne (tgt := 49) hx hb dX12_put_37 (by decide) (fun c_6 => ?_) (fun c_6 => absurd c_6 (by decide))
      refine lv_iconst (v := 1) hx hb dX12_put_49 (by decide) ?_
      refine lv_istore (lv' := [(7, .int 1), (6, .int 0), (0, .ref h0), (1, .int p0), (2, .int p1), (3, .int p2), (4, .int p3), (5, .int p4)]) hx hb dX12_put_50 hl (by decide) rfl (fun ls hl => ?_)
      refine lv_iload hx hb dX12_put_52 (lv_at hl 1 rfl) ?_
      refine lv_if_eq (tgt := 63) hx hb dX12_put_54 (by decide) (fun c_7 => ?_) (fun c_7 => absurd (by decide) c_7)
      refine lv_iload hx hb dX12_put_63 (lv_at hl 7 rfl) ?_
      refine lv_goto (tgt := 74) hx hb dX12_put_65 (by decide) ?_
      refine lv_istore (lv' := [(8, .int p4), (7, .int 1), (6, .int 0), (0, .ref h0), (1, .int p0), (2, .int p1), (3, .int p2), (4, .int p3), (5, .int p4)]) hx hb dX12_put_74 hl (by decide) rfl (fun ls hl => ?_)
      refine lv_iload hx hb dX12_put_76 (lv_at hl 2 rfl) ?_
      refine lv_iconst (v := 2) hx hb dX12_put_78 (by decide) ?_
      refine lv_icmp_ne (tgt := 127) hx hb dX12_put_79 (by decide) (fun c_8 => ?_) (fun c_8 => absurd c_8 (by decide))
      refine lv_iload hx hb dX12_put_127 (lv_at hl 2 rfl) ?_
      refine lv_if_eq (tgt := 149) hx hb dX12_put_129 (by decide) (fun c_9 => ?_) (fun c_9 => absurd (by decide) c_9)
      refine lv_iconst (v := 1) hx hb dX12_put_149 (by decide) ?_
      refine lv_goto (tgt := 154) hx hb dX12_put_150 (by decide) ?_
      refine lv_istore (lv' := [(9, .int 1), (8, .int p4), (7, .int 1), (6, .int 0), (0, .ref h0), (1, .int p0), (2, .int p1), (3, .int p2), (4, .int p3), (5, .int p4)]) hx hb dX12_put_154 hl (by decide) rfl (fun ls hl => ?_)
      refine lv_iload hx hb dX12_put_156 (lv_at hl 0 rfl) ?_
      refine lv_if_eq (tgt := 200) hx hb dX12_put_158 (by decide) (fun c_10 => absurd c_10 (by decide)) (fun c_10 => ?_)
      refine lv_iload hx hb dX12_put_161 (lv_at hl 1 rfl) ?_
      refine lv_iconst (v := 1) hx hb dX12_put_163 (by decide) ?_
      refine lv_icmp_lt (tgt := 200) hx hb dX12_put_164 (by decide) (fun c_11 => ?_) (fun c_11 => ?_)
      ·
        refine lv_iconst (v := 0) hx hb dX12_put_200 (by decide) ?_
        refine lv_istore (lv' := [(9, .int 0), (8, .int p4), (7, .int 1), (6, .int 0), (0, .ref h0), (1, .int p0), (2, .int p1), (3, .int p2), (4, .int p3), (5, .int p4)]) hx hb dX12_put_201 hl (by decide) rfl (fun ls hl => ?_)
        refine lv_iload hx hb dX12_put_203 (lv_at hl 0 rfl) ?_
        refine lv_if_ne (tgt := 210) hx hb dX12_put_205 (by decide) (fun c_12 => absurd (by decide) c_12) (fun c_12 => ?_)
        refine lv_iconst (v := (-1)) hx hb dX12_put_208 (by decide) ?_
        exact W.iret (v := (-1)) hx hb hr (fun t ht hW => ⟨⟨(-1), u, rfl, (Or.inl ⟨rfl, (fun h => h.2.2.2.1 c_11), Or.inl rfl⟩), by rw [ht]; exact hP, hD⟩, hS.F ht⟩) hS.2.2 dX12_put_209
      ·
        refine lv_iload hx hb dX12_put_167 (lv_at hl 3 rfl) ?_
        refine lv_if_eq (tgt := 181) hx hb dX12_put_169 (by decide) (fun c_13 => ?_) (fun c_13 => absurd (by decide) c_13)
        refine lv_aload_n hx hb dX12_put_181 rfl (lv_at hl 4 rfl) ?_
        refine lv_iload_n hx hb dX12_put_182 rfl (lv_at hl 6 rfl) ?_
        refine lv_iload_n hx hb dX12_put_183 rfl (lv_at hl 7 rfl) ?_
        refine lv_iload hx hb dX12_put_184 (lv_at hl 8 rfl) ?_
        refine lv_iload hx hb dX12_put_186 (lv_at hl 2 rfl) ?_
        refine lv_iload hx hb dX12_put_188 (lv_at hl 1 rfl) ?_
        refine vp_callSi (va_runV (As := [.int p1, .int p2, .int p3, .int 1, .int p4]) (rest := []) ⟨hx, hb, hml, hown, hts⟩ (m_isFree l dC dI h0 v cI cZ u p1 p2 p3 1 p4 hln) (cwV 5 hts gX12_put_X12_isFree rfl rfl rfl zh_X12_isFree_28 ⟨Nat.le_of_ble_eq_true rfl, Nat.le_of_ble_eq_true rfl⟩) ⟨pw_fb, va_recv hK hP (ci := 11) (q0 := 0) rfl rfl, fun U hU hW => ⟨rfl, pw_to hU hW hP hK hN⟩⟩ rfl rfl hl.1 rfl (lv_room (Nat.le_of_ble_eq_true rfl)) dX12_put_190 ⟨Nat.le_of_ble_eq_true rfl, Nat.le_of_ble_eq_true rfl⟩).run (fun r hw => ?_)
        have hit := b_1
        have hi := it79 hn hit
        have h300 := c_3
        rcases hw with ⟨hw, hfree⟩ | ⟨hw, hfree⟩
        ·
          subst hw
          have hfree0 := hfree
          obtain ⟨P, X, Y, D, N, eP, eX, eY, eD, eN, hPP, hXW, hYN, hDD1, hN1⟩ := free_rect hln hfree
          subst eP eX eY
          obtain rfl : D = 1 := (nI_inj (by omega) (by decide)).mp (show nI D = nI 1 from eD.symm)
          subst eN
          refine lv_if_eq (tgt := 200) hx hb dX12_put_193 (by decide) (fun c_14 => absurd c_14 (by decide)) (fun c_14 => ?_)
          refine lv_iconst (v := 1) hx hb dX12_put_196 (by decide) ?_
          refine lv_goto (tgt := 201) hx hb dX12_put_197 (by decide) ?_
          refine lv_istore (lv' := [(9, .int 1), (8, .int (nI N)), (7, .int 1), (6, .int 0), (0, .ref h0), (1, .int p0), (2, .int (nI P)), (3, .int (nI X)), (4, .int (nI Y)), (5, .int (nI N))]) hx hb dX12_put_201 hl (by decide) rfl (fun ls hl => ?_)
          refine lv_iload hx hb dX12_put_203 (lv_at hl 0 rfl) ?_
          refine lv_if_ne (tgt := 210) hx hb dX12_put_205 (by decide) (fun c_15 => ?_) (fun c_15 => absurd c_15 (by decide))
          refine lv_iload hx hb dX12_put_210 (lv_at hl 3 rfl) ?_
          refine lv_tableIn (tgt := 252) (off := 40) hx hb dX12_put_212 (by decide) (by decide) (by decide) (by decide) ?_
          refine lv_aload_n hx hb dX12_put_252 rfl (lv_at hl 4 rfl) ?_
          refine lv_iload_n hx hb dX12_put_253 rfl (lv_at hl 5 rfl) ?_
          refine lv_iload_n hx hb dX12_put_254 rfl (lv_at hl 6 rfl) ?_
          refine lv_iload_n hx hb dX12_put_255 rfl (lv_at hl 7 rfl) ?_
          refine lv_iload hx hb dX12_put_256 (lv_at hl 8 rfl) ?_
          refine lv_iload hx hb dX12_put_258 (lv_at hl 1 rfl) ?_
          have hFc := fr_all hD hS hA
          refine va_calli (va_runV (As := [.int p0, .int (nI P), .int (nI X), .int (nI Y), .int (nI N)]) (rest := []) ⟨hx, hb, hml, hown, hts⟩ (n_mayRun l dC dI h0 v cI cZ u p0 P X Y N hPP (by omega) hYN hi (hpc _ (vlt (vin hi (by decide)))) (hcm _ (vlt (vin hi (by decide)))) (fun h => by rw [add_sub1]; exact v6a hi (k5 (hpc _ (vlt (vin hi (by decide)))) (bwS (hpc _ (vlt (vin hi (by decide)))) h)) rfl) (hfr hi P X Y N hPP (by omega) hN1 hYN) s.heap.size) (cwV 5 hts gX12_put_X12_mayRun rfl rfl rfl zh_X12_mayRun_26 ⟨Nat.le_of_ble_eq_true rfl, Nat.le_of_ble_eq_true rfl⟩) ⟨gw_fb, va_recv hK hP (ci := 11) (q0 := 0) rfl rfl, fun U hU hW => ⟨rfl, by rw [hU], pw_to hU hW hP hK hN, hD.weaken (fun _ _ _ _ => trivial)⟩⟩ rfl rfl hl.1 rfl (lv_room (Nat.le_of_ble_eq_true rfl)) dX12_put_260 ⟨Nat.le_of_ble_eq_true rfl, Nat.le_of_ble_eq_true rfl⟩) hS (fun q _ h => hFc q h) hFc (fun r u_16 t H1 locs ht hvm hw hB hz1 hk1 hS => ?_)
          obtain ⟨hP, hD1⟩ := hB
          rw [ht] at hP
          have hD := hD1.weaken (fun _ q _ h => hFc q.1 h)
          generalize H1 = H at hP hS ⊢
          generalize r = z_17 at hw ⊢
          have hrun := hw
          have hJ1 : u_16.1 28 = u.1 28 := by rcases hrun with ⟨-, h, -⟩ | ⟨-, -, h⟩ <;> rw [h] <;> rfl
          have hJ2 : u_16.2 22 p0.toNatClampNeg = u.2 22 p0.toNatClampNeg := hrun.elim (fun h => by rw [h.2.1]) (fun h => by rw [h.2.2]; exact mTry_22 _ _ _ _ _ _)
          refine lv_istore (lv' := [(9, .int z_17), (8, .int (nI N)), (7, .int 1), (6, .int 0), (0, .ref h0), (1, .int p0), (2, .int (nI P)), (3, .int (nI X)), (4, .int (nI Y)), (5, .int (nI N))]) hx hb dX12_put_263 hl (by decide) rfl (fun ls hl => ?_)
          refine lv_goto (tgt := 343) hx hb dX12_put_265 (by decide) ?_
          refine lv_iload hx hb dX12_put_343 (lv_at hl 0 rfl) ?_
          refine lv_if_ne (tgt := 350) hx hb dX12_put_345 (by decide) (fun c_18 => ?_) (fun c_18 => ?_)
          ·
            refine lv_aload_n hx hb dX12_put_350 rfl (lv_at hl 4 rfl) ?_
            refine lv_iload_n hx hb dX12_put_351 rfl (lv_at hl 5 rfl) ?_
            refine lv_iload_n hx hb dX12_put_352 rfl (lv_at hl 6 rfl) ?_
            refine lv_iload_n hx hb dX12_put_353 rfl (lv_at hl 7 rfl) ?_
            refine lv_iload hx hb dX12_put_354 (lv_at hl 8 rfl) ?_
            refine lv_iload hx hb dX12_put_356 (lv_at hl 2 rfl) ?_
            refine lv_iload hx hb dX12_put_358 (lv_at hl 1 rfl) ?_
            have hFc := fr_all hD hS hA
            refine va_callv (va_runV (As := [.int p0, .int (nI P), .int (nI X), .int (nI Y), .int 1, .int (nI N)]) (rest := []) ⟨hx, hb, hml, hown, hts⟩ (m_stand l dC dI h0 v cI cZ u_16 p0 P X Y 1 N hPP hXW hYN hi (by rw [hJ2]; exact q05 (hpc _ (vlt (vin hi (by decide)))) (hrun.elim (fun h => absurd h.1 c_18) (fun h => h.2.1))) H.size) (cwV 6 hts gX12_put_X12_stand rfl rfl rfl zh_X12_stand_25 ⟨Nat.le_of_ble_eq_true rfl, Nat.le_of_ble_eq_true rfl⟩) ⟨gw_fb, va_recv hK hP (ci := 11) (q0 := 0) rfl rfl, fun U hU hW => ⟨rfl, by rw [hU], pw_to hU hW hP hK hN, hD.weaken (fun _ _ _ _ => trivial)⟩⟩ rfl rfl hl.1 rfl (lv_room (Nat.le_of_ble_eq_true rfl)) dX12_put_360 ⟨Nat.le_of_ble_eq_true rfl, Nat.le_of_ble_eq_true rfl⟩) hS (fun q _ h => hFc q h) hFc (fun u_19 t H1 locs ht hvm hw hB hz1 hk1 hS => ?_)
            obtain ⟨hP, hD1⟩ := hB
            rw [ht] at hP
            have hD := hD1.weaken (fun _ q _ h => hFc q.1 h)
            generalize H1 = H at hP hS ⊢
            have eu_19 := hw
            refine lv_aload_n hx hb dX12_put_363 rfl (lv_at hl 4 rfl) ?_
            refine lv_iconst (v := 0) hx hb dX12_put_364 (by decide) ?_
            refine lv_iload_n hx hb dX12_put_365 rfl (lv_at hl 5 rfl) ?_
            refine lv_iconst (v := 0) hx hb dX12_put_366 (by decide) ?_
            refine lv_iconst (v := 0) hx hb dX12_put_367 (by decide) ?_
            refine lv_iconst (v := 0) hx hb dX12_put_368 (by decide) ?_
            refine lv_iconst (v := 0) hx hb dX12_put_369 (by decide) ?_
            refine lv_iconst (v := 0) hx hb dX12_put_370 (by decide) ?_
            have hFc := fr_all hD hS hA
            refine va_callv (va_runV (As := [.int 0, .int p0, .int 0, .int 0, .int 0, .int 0, .int 0]) (rest := []) ⟨hx, hb, hml, hown, hts⟩ (m_acts l dC dI h0 v cI cZ u_19 0 p0 0 0 0 0 0 (by rw [eu_19]; show bw (u_16.1 28) 0 299 = true; rw [hJ1]; exact v300 ha h300) H.size) (cwV 7 hts gX12_put_X12_acts rfl rfl rfl zh_X12_acts_10 ⟨Nat.le_of_ble_eq_true rfl, Nat.le_of_ble_eq_true rfl⟩) ⟨gw_fb, va_recv hK hP (ci := 11) (q0 := 0) rfl rfl, fun U hU hW => ⟨rfl, by rw [hU], pw_to hU hW hP hK hN, hD.weaken (fun _ _ _ _ => trivial)⟩⟩ rfl rfl hl.1 rfl (lv_room (Nat.le_of_ble_eq_true rfl)) dX12_put_371 ⟨Nat.le_of_ble_eq_true rfl, Nat.le_of_ble_eq_true rfl⟩) hS (fun q _ h => hFc q h) hFc (fun u_20 t H1 locs ht hvm hw hB hz1 hk1 hS => ?_)
            obtain ⟨hP, hD1⟩ := hB
            rw [ht] at hP
            have hD := hD1.weaken (fun _ q _ h => hFc q.1 h)
            generalize H1 = H at hP hS ⊢
            have eu_20 := hw
            refine lv_aload_n hx hb dX12_put_374 rfl (lv_at hl 4 rfl) ?_
            refine va_get (D := (dC, dI)) (ci := 11) (v := .ref (v 22)) (C := RX12) (T := TX12) (N := 52) hx hb hts zl_X12_put_X12 hown hK hP 0 rfl rfl 22 (by decide) (hts (.fieldLink RX12 74 "PageOneModel" "pieces" "[I") (zat q_wsX12_put k_wsX12_put 904 rfl (by decide +kernel))) (fun _ h9 => h9) rfl dX12_put_375 ?_
            refine lv_iload_n hx hb dX12_put_378 rfl (lv_at hl 5 rfl) ?_
            refine va_iald hx hb hK hP 22 0 rfl rfl (vin (it79 hn b_1) (by decide)) dX12_put_379 ?_
            exact W.iret (v := (u_20.2 22 (p0 : Int32).toNatClampNeg)) hx hb hr (fun t ht hW => ⟨⟨(u_20.2 22 (p0 : Int32).toNatClampNeg), u_20, rfl, (Or.inr ⟨⟨hit, h300, trivial, c_11, trivial, hfree0, (by rw [nI_clamp (by omega), nI_clamp (by omega), nI_clamp (by omega), nI_clamp (by omega)]; exact hrun.elim (fun h => absurd h.1 c_18) (fun h => h.1.elim (fun q => absurd q.1 c_18) (fun q => q.2)))⟩, (by rw [eu_20, eu_19, putR, hJ2]), P, X, Y, 1, N, rfl, rfl, rfl, rfl, rfl, hPP, hXW, hYN, hDD1, hN1, (Or.inr ⟨hrun.elim (fun h => absurd h.1 c_18) (fun h => h.2.1), by rw [eu_20, eu_19, hrun.elim (fun h => absurd h.1 c_18) (fun h => h.2.2)]; rfl⟩)⟩), by rw [ht]; exact hP, hD⟩, hS.F ht⟩) hS.2.2 dX12_put_380
          ·
            refine lv_iconst (v := (-1)) hx hb dX12_put_348 (by decide) ?_
            exact W.iret (v := (-1)) hx hb hr (fun t ht hW => ⟨⟨(-1), u_16, rfl, (Or.inl ⟨rfl, (fun h => hrun.elim (fun q => q.2.2 (by have h7 := h.2.2.2.2.2.2; rw [nI_clamp (by omega), nI_clamp (by omega), nI_clamp (by omega), nI_clamp (by omega)] at h7; exact h7)) (fun q => q.1.elim (fun q => q.2 (by have h7 := h.2.2.2.2.2.2; rw [nI_clamp (by omega), nI_clamp (by omega), nI_clamp (by omega), nI_clamp (by omega)] at h7; exact h7)) (fun q => absurd (q.1.symm.trans c_18) (by decide)))), (hrun.elim (fun q => Or.inl q.2.1) (fun q => Or.inr ⟨hit, P, X, Y, N, rfl, rfl, rfl, hPP, hXW, hYN, hN1, hfree0, q.2.1, q.2.2⟩))⟩), by rw [ht]; exact hP, hD⟩, hS.F ht⟩) hS.2.2 dX12_put_349
        ·
          subst hw
          refine lv_if_eq (tgt := 200) hx hb dX12_put_193 (by decide) (fun c_21 => ?_) (fun c_21 => absurd (by decide) c_21)
          refine lv_iconst (v := 0) hx hb dX12_put_200 (by decide) ?_
          refine lv_istore (lv' := [(9, .int 0), (8, .int p4), (7, .int 1), (6, .int 0), (0, .ref h0), (1, .int p0), (2, .int p1), (3, .int p2), (4, .int p3), (5, .int p4)]) hx hb dX12_put_201 hl (by decide) rfl (fun ls hl => ?_)
          refine lv_iload hx hb dX12_put_203 (lv_at hl 0 rfl) ?_
          refine lv_if_ne (tgt := 210) hx hb dX12_put_205 (by decide) (fun c_22 => absurd (by decide) c_22) (fun c_22 => ?_)
          refine lv_iconst (v := (-1)) hx hb dX12_put_208 (by decide) ?_
          exact W.iret (v := (-1)) hx hb hr (fun t ht hW => ⟨⟨(-1), u, rfl, (Or.inl ⟨rfl, (fun h => hfree h.2.2.2.2.2.1), Or.inl rfl⟩), by rw [ht]; exact hP, hD⟩, hS.F ht⟩) hS.2.2 dX12_put_209
    ·
      refine lv_iconst (v := (-1)) hx hb dX12_put_18 (by decide) ?_
      exact W.iret (v := (-1)) hx hb hr (fun t ht hW => ⟨⟨(-1), u, rfl, (Or.inl ⟨rfl, (fun h => h.2.1 c_3), Or.inl rfl⟩), by rw [ht]; exact hP, hD⟩, hS.F ht⟩) hS.2.2 dX12_put_19
  ·
    obtain rfl : r = 0 := b_f hw b_1
    refine lv_if_eq (tgt := 18) hx hb dX12_put_5 (by decide) (fun c_23 => ?_) (fun c_23 => absurd (by decide) c_23)
    refine lv_iconst (v := (-1)) hx hb dX12_put_18 (by decide) ?_
    exact W.iret (v := (-1)) hx hb hr (fun t ht hW => ⟨⟨(-1), u, rfl, (Or.inl ⟨rfl, (fun h => bne b_1 h.1), Or.inl rfl⟩), by rw [ht]; exact hP, hD⟩, hS.F ht⟩) hS.2.2 dX12_put_19
/-- a cell of a rectangle, by its place in the row of cells -/
def inR (r : fR) (j : Nat) : Prop := ∃ x y, x < r.2.2.2.1 ∧ y < r.2.2.2.2 ∧ j = 480 * r.1 + 60 * (r.2.1 + x) + (r.2.2.1 + y)
def setF (G : Nat → Int32) (r : fR) (x : Int32) : Nat → Int32 := setR G r.1 r.2.1 r.2.2.1 r.2.2.2.2 x r.2.2.2.1
theorem setF_in {G : Nat → Int32} {r : fR} {x : Int32} {j : Nat} (h : inR r j) : setF G r x j = x := by
  obtain ⟨a, b, ha, hb, e⟩ := h
  rw [e]; exact setR_in _ _ _ _ _ _ _ _ _ ha hb
theorem setF_out {G : Nat → Int32} {r : fR} {x : Int32} {j : Nat} (h : ¬ inR r j) : setF G r x j = G j := setR_out (fun a b ha hb e => h ⟨a, b, ha, hb, e⟩)
theorem inR_lt {r : fR} (hr : rOK r) {j : Nat} (h : inR r j) : j < 5760 := by
  obtain ⟨h1, h2, h3, -, -⟩ := hr
  obtain ⟨a, b, ha, hb, e⟩ := h
  omega
/-- the rectangle is free -/
def frG (G : Nat → Int32) (r : fR) : Prop := ∀ j, inR r j → G j = (-2)
theorem setF_re {G : Nat → Int32} {r : fR} {x y : Int32} (h : ∀ j, inR r j → G j = x) : setF (setF G r y) r x = G := by
  funext j
  by_cases hj : inR r j
  · rw [setF_in hj, h j hj]
  · rw [setF_out hj, setF_out hj]
def dj (r s : fR) : Prop := ∀ j, inR r j → ¬ inR s j
/-- cells and pieces agree -/
def agr (c : cfg) (G : Nat → Int32) : Prop := (∀ j, j < 5760 → ∀ a, a < 80 → (G j = nI a ↔ ∃ r, r ∈ c a ∧ inR r j)) ∧ (∀ j, j < 5760 → G j = (-2) ∨ G j = 100 ∨ ∃ a, a < 80 ∧ G j = nI a) ∧ ∀ a, List.Pairwise dj (c a)
theorem nI_n2 {a : Nat} (ha : a < 80) : ¬ nI a = (-2) := fun e => by
  have h := congrArg Int32.toInt e
  rw [nI_toInt (by omega)] at h
  have h2 : (-2 : Int32).toInt = -2 := rfl
  omega
theorem nI_100 {a : Nat} (ha : a < 80) : ¬ nI a = 100 := fun e => by
  have h := congrArg Int32.toInt e
  rw [nI_toInt (by omega)] at h
  have h2 : (100 : Int32).toInt = 100 := rfl
  omega
theorem agr_push {c : cfg} {G : Nat → Int32} {a : Nat} {r : fR} (h : agr c G) (ha : a < 80) (hr : rOK r) (hf : frG G r) : agr (cPush c a r) (setF G r (nI a)) := by
  obtain ⟨h1, h2, h3⟩ := h
  refine ⟨fun j hj b hb => ?_, fun j hj => ?_, fun b => ?_⟩
  · by_cases hi : inR r j
    · rw [setF_in hi]
      by_cases e : b = a
      · rw [e]
        exact ⟨fun _ => ⟨r, by rw [cPush_a]; exact List.mem_cons_self, hi⟩, fun _ => rfl⟩
      · refine ⟨fun q => absurd ((nI_inj (by omega) (by omega)).mp q).symm e, fun ⟨s, hs, hs2⟩ => ?_⟩
        rw [cPush_o e] at hs
        have q := (h1 j hj b hb).mpr ⟨s, hs, hs2⟩
        rw [hf j hi] at q
        exact absurd q.symm (nI_n2 hb)
    · rw [setF_out hi]
      by_cases e : b = a
      · rw [e, cPush_a]
        refine ⟨fun q => ?_, fun ⟨s, hs, hs2⟩ => ?_⟩
        · obtain ⟨s, hs, hs2⟩ := (h1 j hj a ha).mp q
          exact ⟨s, List.mem_cons_of_mem _ hs, hs2⟩
        · rcases List.mem_cons.mp hs with q | q
          · exact absurd (q ▸ hs2) hi
          · exact (h1 j hj a ha).mpr ⟨s, q, hs2⟩
      · rw [cPush_o e]; exact h1 j hj b hb
  · by_cases hi : inR r j
    · rw [setF_in hi]; exact Or.inr (Or.inr ⟨a, ha, rfl⟩)
    · rw [setF_out hi]; exact h2 j hj
  · by_cases e : b = a
    · rw [e, cPush_a]
      refine List.Pairwise.cons (fun s hs j hj hj2 => ?_) (h3 a)
      have q := (h1 j (inR_lt hr hj) a ha).mpr ⟨s, hs, hj2⟩
      rw [hf j hj] at q
      exact absurd q.symm (nI_n2 ha)
    · rw [cPush_o e]; exact h3 b
theorem agr_pop {c : cfg} {G : Nat → Int32} {a : Nat} {r : fR} (h : agr (cPush c a r) G) (ha : a < 80) : agr c (setF G r (-2)) := by
  obtain ⟨h1, h2, h3⟩ := h
  have h3a := h3 a
  rw [cPush_a] at h3a
  obtain ⟨h4, h5⟩ := List.pairwise_cons.mp h3a
  refine ⟨fun j hj b hb => ?_, fun j hj => ?_, fun b => ?_⟩
  · by_cases hi : inR r j
    · rw [setF_in hi]
      refine ⟨fun q => absurd q.symm (nI_n2 hb), fun ⟨s, hs, hs2⟩ => ?_⟩
      by_cases e : b = a
      · rw [e] at hs
        exact absurd hs2 (h4 s hs j hi)
      · have q := (h1 j hj b hb).mpr ⟨s, by rw [cPush_o e]; exact hs, hs2⟩
        have q2 := (h1 j hj a ha).mpr ⟨r, by rw [cPush_a]; exact List.mem_cons_self, hi⟩
        exact absurd ((nI_inj (by omega) (by omega)).mp (q.symm.trans q2)) e
    · rw [setF_out hi]
      by_cases e : b = a
      · rw [e]
        have q := h1 j hj a ha
        rw [cPush_a] at q
        refine ⟨fun q2 => ?_, fun ⟨s, hs, hs2⟩ => q.mpr ⟨s, List.mem_cons_of_mem _ hs, hs2⟩⟩
        obtain ⟨s, hs, hs2⟩ := q.mp q2
        rcases List.mem_cons.mp hs with q3 | q3
        · exact absurd (q3 ▸ hs2) hi
        · exact ⟨s, q3, hs2⟩
      · have q := h1 j hj b hb
        rw [cPush_o e] at q; exact q
  · by_cases hi : inR r j
    · rw [setF_in hi]; exact Or.inl rfl
    · rw [setF_out hi]; exact h2 j hj
  · by_cases e : b = a
    · rw [e]; exact h5
    · have q := h3 b
      rw [cPush_o e] at q; exact q
theorem agr_rule {c : cfg} {G : Nat → Int32} {r : fR} (h : agr c G) (hf : frG G r) : agr c (setF G r 100) := by
  obtain ⟨h1, h2, h3⟩ := h
  refine ⟨fun j hj b hb => ?_, fun j hj => ?_, h3⟩
  · by_cases hi : inR r j
    · rw [setF_in hi]
      refine ⟨fun q => absurd q.symm (nI_100 hb), fun q => ?_⟩
      have q2 := (h1 j hj b hb).mpr q
      rw [hf j hi] at q2
      exact absurd q2.symm (nI_n2 hb)
    · rw [setF_out hi]; exact h1 j hj b hb
  · by_cases hi : inR r j
    · rw [setF_in hi]; exact Or.inr (Or.inl rfl)
    · rw [setF_out hi]; exact h2 j hj
theorem agr_top {c : cfg} {G : Nat → Int32} {a : Nat} {r : fR} (h : agr (cPush c a r) G) (ha : a < 80) (hr : rOK r) : ∀ j, inR r j → G j = nI a := fun j hj => (h.1 j (inR_lt hr hj) a ha).mpr ⟨r, by rw [cPush_a]; exact List.mem_cons_self, hj⟩
theorem agr_nil {c : cfg} {G : Nat → Int32} (h : ∀ a, c a = []) (hG : ∀ j, j < 5760 → G j = (-2)) : agr c G := by
  refine ⟨fun j hj b hb => ?_, fun j hj => Or.inl (hG j hj), fun b => by rw [h b]; exact List.Pairwise.nil⟩
  rw [hG j hj, h b]
  exact ⟨fun q => absurd q.symm (nI_n2 hb), fun ⟨s, hs, _⟩ => absurd hs (List.not_mem_nil)⟩
/-- the lines hold the rectangle -/
def rLn (u : mS) (r : fR) : Prop := ∀ x, x < r.2.2.2.1 → r.2.2.1 + r.2.2.2.2 ≤ (u.2 0 (8 * r.1 + (r.2.1 + x))).toNatClampNeg
/-- r stands behind s -/
def bhd (r s : fR) : Prop := s.1 < r.1 ∨ (s.1 = r.1 ∧ (s.2.1 < r.2.1 ∨ (s.2.1 = r.2.1 ∧ s.2.2.1 + s.2.2.2.2 ≤ r.2.2.1)))
theorem bhd_tr {r s t : fR} (h1 : bhd r s) (h2 : bhd s t) : bhd r t := by
  unfold bhd at *; omega
/-- what the pieces of an item keep -/
def cX (u : mS) (c : cfg) : Prop := ∀ a, a < (u.1 3).toNatClampNeg → (∀ r, r ∈ c a → rLn u r) ∧ (¬ u.2 4 a = 0 → (c a).length ≤ 1) ∧ (u.2 4 a = 0 → (∀ r, r ∈ c a → r.2.2.2.1 = 1) ∧ List.Pairwise bhd (c a)) ∧ (u.2 4 a = 3 → ∀ r, r ∈ c a → u.2 11 a = nI r.1)
theorem cX_pop {u : mS} {c : cfg} {a : Nat} {r : fR} (h : cX u (cPush c a r)) : cX u c := fun b hb => by
  by_cases e : b = a
  · have q := h b hb
    rw [e] at q ⊢
    rw [cPush_a] at q
    refine ⟨fun s hs => q.1 s (List.mem_cons_of_mem _ hs), fun k => by have q2 := q.2.1 k; rw [List.length_cons] at q2; omega, fun k => ⟨fun s hs => (q.2.2.1 k).1 s (List.mem_cons_of_mem _ hs), (List.pairwise_cons.mp (q.2.2.1 k).2).2⟩, fun k s hs => q.2.2.2 k s (List.mem_cons_of_mem _ hs)⟩
  · have q := h b hb
    rw [cPush_o e] at q; exact q
theorem cX_push {u : mS} {c : cfg} {a : Nat} {r : fR} (h : cX u c) (ha : a < (u.1 3).toNatClampNeg) (h1 : rLn u r) (h2 : ¬ u.2 4 a = 0 → c a = []) (h3 : u.2 4 a = 0 → r.2.2.2.1 = 1 ∧ ∀ s, s ∈ c a → bhd r s) (h4 : u.2 4 a = 3 → u.2 11 a = nI r.1) : cX u (cPush c a r) := fun b hb => by
  by_cases e : b = a
  · rw [e, cPush_a]
    have q := h a ha
    refine ⟨fun s hs => ?_, fun k => by rw [h2 k]; exact Nat.le_refl _, fun k => ⟨fun s hs => ?_, List.Pairwise.cons (h3 k).2 (q.2.2.1 k).2⟩, fun k s hs => ?_⟩
    · rcases List.mem_cons.mp hs with g | g
      · rw [g]; exact h1
      · exact q.1 s g
    · rcases List.mem_cons.mp hs with g | g
      · rw [g]; exact (h3 k).1
      · exact (q.2.2.1 k).1 s g
    · rcases List.mem_cons.mp hs with g | g
      · rw [g]; exact h4 k
      · exact q.2.2.2 k s g
  · rw [cPush_o e]; exact h b hb
theorem cX_nil {u : mS} {c : cfg} (h : ∀ a, c a = []) : cX u c := fun b _ => by
  rw [h b]
  exact ⟨fun s hs => absurd hs List.not_mem_nil, fun _ => Nat.zero_le _, fun _ => ⟨fun s hs => absurd hs List.not_mem_nil, List.Pairwise.nil⟩, fun _ s hs => absurd hs List.not_mem_nil⟩
/-- new items, other numbers: what cX reads is the same -/
theorem cX_c {u w : mS} {c : cfg} (h : cX u c) (hn : (u.1 3).toNatClampNeg ≤ (w.1 3).toNatClampNeg) (h0 : w.2 0 = u.2 0) (h4 : ∀ a, a < (u.1 3).toNatClampNeg → w.2 4 a = u.2 4 a ∧ w.2 11 a = u.2 11 a) (hc : ∀ a, (u.1 3).toNatClampNeg ≤ a → c a = []) : cX w c := fun b hb => by
  by_cases e : b < (u.1 3).toNatClampNeg
  · have q := h b e
    unfold rLn at *
    rw [h0, (h4 b e).1, (h4 b e).2]; exact q
  · rw [hc b (by omega)]
    exact ⟨fun s hs => absurd hs List.not_mem_nil, fun _ => Nat.zero_le _, fun _ => ⟨fun s hs => absurd hs List.not_mem_nil, List.Pairwise.nil⟩, fun _ s hs => absurd hs List.not_mem_nil⟩
/-- a filler's rectangle -/
def xR (x : fX) : fR := (x.2.1, x.2.2.1, x.2.2.2.1, 1, x.2.2.2.2)
def gFill (G : Nat → Int32) : List fX → Nat → Int32
  | [] => G
  | x :: xs => setF (gFill G xs) (xR x) (nI x.1)
def frL9 (G : Nat → Int32) : List fX → Prop
  | [] => True
  | x :: xs => frL9 G xs ∧ frG (gFill G xs) (xR x)
def ruR (e : hE) : fR := (e.2.2.1.1, e.2.2.1.2.1, e.2.2.1.2.2.1, 1, 1)
/-- what an act does to pieces and cells -/
def gS9 (e : hE) (c1 : cfg) (G1 : Nat → Int32) (c : cfg) (G : Nat → Int32) : Prop := (e.1 = 0 ∧ c = cPush c1 e.2.1 e.2.2.1 ∧ G = setF G1 e.2.2.1 (nI e.2.1) ∧ frG G1 e.2.2.1 ∧ rOK e.2.2.1) ∨ (e.1 = 1 ∧ c1 = cPush c e.2.1 e.2.2.1 ∧ G = setF G1 e.2.2.1 (-2) ∧ rOK e.2.2.1) ∨ (e.1 = 2 ∧ c = c1 ∧ G = setF G1 (ruR e) 100 ∧ frG G1 (ruR e)) ∨ (e.1 = 3 ∧ c = cFill c1 e.2.2.2 ∧ G = gFill G1 e.2.2.2 ∧ frL9 G1 e.2.2.2)
/-- the history with its cells -/
def gH (u : mS) : List hE → cfg → (Nat → Int32) → Prop
  | [], c, G => (∀ a, c a = []) ∧ ∀ j, j < 5760 → G j = (-2)
  | e :: es, c, G => cX u c ∧ agr c G ∧ cOK (u.1 3).toNatClampNeg (u.2 4) c ∧ (e.1 ≠ 3 → e.1 ≠ 2 → e.2.1 < (u.1 3).toNatClampNeg) ∧ (e.1 = 2 → rLn u (ruR e)) ∧ ∃ c1 G1, gH u es c1 G1 ∧ eS (u.1 3).toNatClampNeg (u.2 4) e c1 c ∧ gS9 e c1 G1 c G
theorem gH_agr {u : mS} {es : List hE} {c : cfg} {G : Nat → Int32} (h : gH u es c G) : agr c G := by
  cases es with
  | nil => exact agr_nil h.1 h.2
  | cons e es => exact h.2.1
theorem gH_cX {u : mS} {es : List hE} {c : cfg} {G : Nat → Int32} (h : gH u es c G) : cX u c := by
  cases es with
  | nil => exact cX_nil h.1
  | cons e es => exact h.1
theorem gH_hOK {u : mS} : ∀ {es : List hE} {c : cfg} {G : Nat → Int32}, gH u es c G → hOK (u.1 3).toNatClampNeg (u.2 4) es c
  | [], _, _, h => h.1
  | _ :: _, _, _, h => ⟨h.2.2.1, h.2.2.2.2.2.choose, gH_hOK h.2.2.2.2.2.choose_spec.choose_spec.1, h.2.2.2.2.2.choose_spec.choose_spec.2.1⟩
theorem gH_c {u w : mS} (hn : (u.1 3).toNatClampNeg ≤ (w.1 3).toNatClampNeg) (h0 : w.2 0 = u.2 0) (h4 : ∀ a, a < (u.1 3).toNatClampNeg → w.2 4 a = u.2 4 a ∧ w.2 11 a = u.2 11 a) : ∀ {es : List hE} {c : cfg} {G : Nat → Int32}, gH u es c G → gH w es c G
  | [], _, _, h => h
  | e :: es, c, G, h => by
    obtain ⟨h1, h2, h3, h5, hru, c1, G1, h6, h7, h8⟩ := h
    refine ⟨cX_c h1 hn h0 h4 (fun a ha => (h3 a).1 ha), h2, cOK_mono hn (fun a ha => (h4 a ha).1) h3, fun q1 q2 => Nat.lt_of_lt_of_le (h5 q1 q2) hn, fun q => by have z := hru q; unfold rLn at *; rw [h0]; exact z, c1, G1, gH_c hn h0 h4 h6, ?_, h8⟩
    rcases h7 with q | q | q | ⟨q1, q2, q3⟩
    · exact Or.inl q
    · exact Or.inr (Or.inl q)
    · exact Or.inr (Or.inr (Or.inl q))
    · exact Or.inr (Or.inr (Or.inr ⟨q1, q2, xG_mono hn (fun a ha => (h4 a ha).1) q3⟩))
theorem gH_e {u w : mS} (h3 : w.1 3 = u.1 3) (h0 : w.2 0 = u.2 0) (h4 : w.2 4 = u.2 4) (h11 : w.2 11 = u.2 11) {es : List hE} {c : cfg} {G : Nat → Int32} (h : gH u es c G) : gH w es c G := gH_c (by rw [h3]; exact Nat.le_refl _) h0 (fun a _ => ⟨by rw [h4], by rw [h11]⟩) h
theorem rIn_of {u : mS} {r : fR} (hr : rOK r) (hl : rLn u r) : rIn u r.1 r.2.1 r.2.2.1 r.2.2.2.1 r.2.2.2.2 := ⟨hr.1, hr.2.1, hr.2.2.2.1, hr.2.2.1, hr.2.2.2.2, hl⟩
/-- the parts of a kept act, as they are taken back -/
def bkL (e : hE) : List bS := if e.1 = 0 then [(false, some e.2.1, e.2.2.1)] else if e.1 = 1 then [(true, some e.2.1, e.2.2.1)] else if e.1 = 2 then [(false, none, ruR e)] else e.2.2.2.map (fun x => (false, some x.1, xR x))
theorem acF_bkS {z : gS} {d : Nat → Nat} : ∀ {xs : List fX} {o : Option Nat}, acF z d o xs → bkS z d o (xs.map (fun x => (false, some x.1, xR x)))
  | [], _, h => h
  | _ :: _, _, h => by
    obtain ⟨a, pp, ah, h1, h2, h3, h4⟩ := h
    exact ⟨a, pp, _, ah, h1, h2, h3, acF_bkS h4⟩
theorem acE_bkS {z : gS} {d : Nat → Nat} {a : Nat} {e : hE} (h : acE z d a e) : bkS z d (some a) (bkL e) := by
  unfold bkL
  rcases h with ⟨q, pp, h1, h2⟩ | ⟨q, pp, h1, h2⟩ | ⟨q, pp, h1, h2⟩ | ⟨q, h1⟩
  · rw [if_pos q]; exact ⟨a, pp, _, none, rfl, h1, h2, rfl⟩
  · rw [if_neg (by omega), if_pos q]; exact ⟨a, pp, _, none, rfl, h1, h2, rfl⟩
  · rw [if_neg (by omega), if_neg (by omega), if_pos q]; exact ⟨a, pp, _, none, rfl, h1, h2, rfl⟩
  · rw [if_neg (by omega), if_neg (by omega), if_neg (by omega)]; exact acF_bkS h1
/-- what the reference's undo of e leaves -/
def refU (u : mS) (e : hE) : mS := if e.1 = 0 then mUnstand (mBack u) (nI e.2.1) e.2.2.1.1 e.2.2.1.2.1 e.2.2.1.2.2.1 e.2.2.1.2.2.2.1 e.2.2.1.2.2.2.2 else if e.1 = 1 then mStand (mBack u) (nI e.2.1) e.2.2.1.1 e.2.2.1.2.1 e.2.2.1.2.2.1 e.2.2.1.2.2.2.1 e.2.2.1.2.2.2.2 else if e.1 = 2 then mst (mBack u) 2 (480 * nI e.2.2.1.1 + 60 * nI e.2.2.1.2.1 + nI e.2.2.1.2.2.1) (-2) else popAll (mBack u) e.2.2.2
theorem n_undoH (l : Launch) (dC : Nat → ClassId) (dI : Nat → Nat → Nat) (h0 : Nat) (v : Nat → Nat) (cI cZ : ClassId) (u : mS) (e : hE) (es : List hE) (c : cfg) (r : rI u) (d : mH u (e :: es) c) (g : gH u (e :: es) c (u.2 2)) (sz : Nat) : Met l yX12_undo wsX12_undo ({ frames := 3, cells := 0, slots := 0, locals := 77 }) (va_Pc [.ref h0] (fun U => U.heap.size = sz ∧ PW dC dI (mW h0 v cI cZ u) [(cI, .int), (cZ, .boolean)] U ∧ va_D (fun _ => True) (mW h0 v cI cZ u))) (va_Qi (fun (r : Int32) (u9 : mS) => r = u.1 28 - 1 ∧ u9 = refU u e) (fun u9 t => va_P (dC, dI) vwCl (mW h0 v cI cZ u9) t.heap ∧ va_D (va_A (mW h0 v cI cZ u) sz) (mW h0 v cI cZ u9)) (va_A (mW h0 v cI cZ u) sz)) 0 0 (va_A (mW h0 v cI cZ u) sz) := by
  have hn := n80 r
  have a1 := d.1
  have a2 := d.2.1
  rw [List.length_cons] at a1 a2
  have hz0 : ¬ u.1 28 = 0 := fun q => by
    have q2 : (nI (es.length + 1)).toInt = 0 := by rw [← a2, q]; rfl
    rw [nI_toInt (by omega)] at q2; omega
  have ht : u.1 28 - 1 = nI es.length := by rw [a2, dn_e (by omega)]; rfl
  have ha1 : bw (u.1 28 - 1) 0 299 = true := by rw [ht]; exact bwN (by have h7 : (299 : Int32).toInt = 299 := rfl; rw [h7]; omega) (by omega)
  have htc : (u.1 28 - 1).toNatClampNeg = es.length := by rw [ht, nI_clamp (by omega)]
  obtain ⟨gx, ga, hok, gn, gr, c1, G1, g1, gs, g9⟩ := g
  have hc1 := gH_hOK g1
  have hok1 := hOK_c hc1
  obtain ⟨e1, e2, e3, e4, e5⟩ := d.2.2.2.2.1.1
  rw [← htc] at e1 e2 e3 e4 e5
  rcases g9 with ⟨q, hp, -, -, hr⟩ | ⟨q, hp, -, hr⟩ | ⟨q, hp, -, -⟩ | ⟨q, hp, -, -⟩
  · have hpa : c e.2.1 = e.2.2.1 :: c1 e.2.1 := by rw [hp, cPush_a]
    have han : e.2.1 < (u.1 3).toNatClampNeg := gn (by omega) (by omega)
    have ha : e.2.1 < 80 := by omega
    have hl : (c1 e.2.1).length ≤ 5 := by
      have z := (hok e.2.1).2.1
      rw [hpa, List.length_cons] at z
      omega
    have hm : cM u (cPush c1 e.2.1 (e.2.2.1.1, e.2.2.1.2.1, e.2.2.1.2.2.1, e.2.2.1.2.2.2.1, e.2.2.1.2.2.2.2)) := by
      have z := d.2.2.2.2.2
      rw [hp] at z; exact z
    rw [q] at e1
    refine mq (n_undoP l dC dI h0 v cI cZ u e.2.1 e.2.2.1.1 e.2.2.1.2.1 e.2.2.1.2.2.1 e.2.2.1.2.2.2.1 e.2.2.1.2.2.2.2 hr.1 hr.2.1 hr.2.2.1 ha (e2 q) (cM_slR ha hl hm) hz0 ha1 e1 sz) (fun r9 u9 he => ⟨he.1, ?_⟩)
    rw [he.2]; unfold refU; rw [if_pos q]
  · have hpa : c1 e.2.1 = e.2.2.1 :: c e.2.1 := by rw [hp, cPush_a]
    have han : e.2.1 < (u.1 3).toNatClampNeg := gn (by omega) (by omega)
    have ha : e.2.1 < 80 := by omega
    have hl : (c e.2.1).length ≤ 5 := by
      have z := (hok1 e.2.1).2.1
      rw [hpa, List.length_cons] at z
      omega
    obtain ⟨f1, f2, f3, f4, f5, f6⟩ := e3 q
    have hq5 : bw (u.2 22 (nI e.2.1).toNatClampNeg) 0 5 = true := by
      rw [nI_clamp (by omega), (d.2.2.2.2.2 e.2.1 ha).1]
      exact bwN (by have h7 : (5 : Int32).toInt = 5 := rfl; rw [h7]; omega) (by omega)
    rw [q] at e1
    refine mq (n_undoL l dC dI h0 v cI cZ u e.2.1 e.2.2.1.1 e.2.2.1.2.1 e.2.2.1.2.2.1 e.2.2.1.2.2.2.1 e.2.2.1.2.2.2.2 hr.1 hr.2.1 hr.2.2.1 ha f1 f2 f3 f4 f5 f6 hq5 hz0 ha1 e1 sz) (fun r9 u9 he => ⟨he.1, ?_⟩)
    rw [he.2]; unfold refU; rw [if_neg (by omega), if_pos q]
  · obtain ⟨f1, f2, f3⟩ := e4 q
    rw [q] at e1
    have hs3 : e.2.2.1.1 < 12 ∧ e.2.2.1.2.1 < 8 ∧ e.2.2.1.2.2.1 < 60 := by
      rcases gs with z | z | z | z
      · exact absurd z.1 (by omega)
      · exact absurd z.1 (by omega)
      · exact z.2.2
      · exact absurd z.1 (by omega)
    refine mq (n_undoR l dC dI h0 v cI cZ u e.2.2.1.1 e.2.2.1.2.1 e.2.2.1.2.2.1 hs3.1 hs3.2.1 hs3.2.2 f1 f2 f3 hz0 ha1 e1 sz) (fun r9 u9 he => ⟨he.1, ?_⟩)
    rw [he.2]; unfold refU; rw [if_neg (by omega), if_neg (by omega), if_pos q]
  · obtain ⟨f1, f2⟩ := e5 q
    have hx : xG (u.1 3).toNatClampNeg (u.2 4) c1 e.2.2.2 := by
      rcases gs with z | z | z | z
      · exact absurd z.1 (by omega)
      · exact absurd z.1 (by omega)
      · exact absurd z.1 (by omega)
      · exact z.2.2
    have hf := fil_380 hc1 hx
    have hfil : fil (e :: es) = fil es + e.2.2.2.length := by
      show fil es + (if e.1 = 3 then e.2.2.2.length else 0) = _
      rw [if_pos q]
    obtain ⟨j1, j2, j3, j4, j5, j6⟩ := pop_ind hn hok1 e.2.2.2 (mBack u) hx (F := fil es) (by omega) (by rw [back_1 u (by decide), d.2.2.1, hfil]) (fM_c (u := u) (fun _ _ => rfl) f2) (cM_rows (u := u) (fun k _ _ => rfl) (by rw [← hp]; exact d.2.2.2.2.2)) (rI_m (w := mBack u) r rfl rfl (fun _ _ => rfl))
    rw [q] at e1
    refine mq (n_undoF l dC dI h0 v cI cZ u e.2.2.2 (by omega) f1 j1 hz0 ha1 e1 sz) (fun r9 u9 he => ⟨he.1, ?_⟩)
    rw [he.2]; unfold refU; rw [if_neg (by omega), if_neg (by omega), if_neg (by omega)]
theorem mUn_cg {a b : mS} (h : a.2 = b.2) (i : Int32) (P X Y D N : Nat) : (mUnstand a i P X Y D N).2 = (mUnstand b i P X Y D N).2 := by
  obtain ⟨a1, a2⟩ := a
  obtain ⟨b1, b2⟩ := b
  have h : a2 = b2 := h
  subst h
  rfl
theorem pop_bk : ∀ (xs : List fX) (v w : mS), v.2 = w.2 → (∀ k, k ≠ 36 → v.1 k = w.1 k) → (popAll v xs).2 = (bkU w (xs.map (fun x => (false, some x.1, xR x)))).2 ∧ ∀ k, k ≠ 36 → (popAll v xs).1 k = (bkU w (xs.map (fun x => (false, some x.1, xR x)))).1 k
  | [], _, _, h1, h2 => ⟨h1, h2⟩
  | x :: xs, v, w, h1, h2 => by
    refine pop_bk xs (popS v x) (mUnstand w (nI x.1) x.2.1 x.2.2.1 x.2.2.2.1 1 x.2.2.2.2) (mUn_cg (a := mset v 36 (v.1 36 - 1)) (b := w) h1 _ _ _ _ _ _) (fun k hk => ?_)
    show (mset v 36 (v.1 36 - 1)).1 k = w.1 k
    unfold mset; exact (if_neg hk).trans (h2 k hk)
theorem pop_G {G1 : Nat → Int32} : ∀ (xs : List fX) (v : mS), v.2 2 = gFill G1 xs → frL9 G1 xs → (popAll v xs).2 2 = G1
  | [], _, h, _ => h
  | x :: xs, v, h, hf => by
    refine pop_G xs (popS v x) ?_ hf.1
    unfold popS
    rw [mUnstand_2]
    show setF (v.2 2) (xR x) (-2) = _
    rw [h]
    exact setF_re hf.2
theorem fill_bkK {u : mS} {c1 : cfg} (hn : (u.1 3).toNatClampNeg ≤ 80) : ∀ (xs : List fX) (v : mS), xG (u.1 3).toNatClampNeg (u.2 4) c1 xs → cX u (cFill c1 xs) → cM v (cFill c1 xs) → v.1 3 = u.1 3 → v.2 0 = u.2 0 → bkK v (xs.map (fun x => (false, some x.1, xR x)))
  | [], _, _, _, _, _, _ => trivial
  | x :: xs, v, hx, hX, hc, h3, h0 => by
    obtain ⟨hx1, hx2, hx3, hx4, hx5⟩ := hx
    have ha : x.1 < 80 := by omega
    have he : (cFill c1 xs x.1).length ≤ 5 := by rw [hx4]; exact Nat.zero_le _
    have hc2 : cM v (cPush (cFill c1 xs) x.1 (xR x)) := hc
    have hm2 := cM_unstand ha he hc2 x.2.1 x.2.2.1 x.2.2.2.1 1 x.2.2.2.2
    have hX2 : cX u (cPush (cFill c1 xs) x.1 (xR x)) := hX
    have hl := (hX2 x.1 hx2).1 (xR x) (by rw [cPush_a]; exact List.mem_cons_self)
    refine ⟨rIn_of (u := v) (r := xR x) hx5 (by unfold rLn at *; rw [h0]; exact hl), by rw [h3]; exact hx2, ?_, fill_bkK hn xs _ hx1 (cX_pop hX2) hm2 (by rw [mUnstand_1]; exact h3) (by rw [mUnstand_k _ _ _ _ _ _ _ (by decide) (by decide)]; exact h0)⟩
    rw [(hc2 x.1 ha).1, cPush_a, hx4]
    show 0 < (nI 1).toNatClampNeg
    rw [nI_clamp (by decide)]
    decide
/-- what an undo needs and leaves -/
theorem undo_all {u : mS} {e : hE} {es : List hE} {c : cfg} (r : rI u) (d : mH u (e :: es) c) (g : gH u (e :: es) c (u.2 2)) : bkK (mBack u) (bkL e) ∧ (∀ q d z f, rep q d (bkU (mBack u) (bkL e)) z f → rep q d (refU u e) z f) ∧ rI (refU u e) ∧ ∃ c1, mH (refU u e) es c1 ∧ gH (refU u e) es c1 ((refU u e).2 2) ∧ (∀ k, k ≠ 28 → k ≠ 36 → (refU u e).1 k = u.1 k) ∧ (refU u e).1 28 = u.1 28 - 1 ∧ ∀ k, k < 2 ∨ 2 < k → k < 22 ∨ 27 < k → (refU u e).2 k = u.2 k := by
  have hn := n80 r
  have g0 := g
  obtain ⟨gx, ga, hok, gn, gr, c1, G1, g1, gs, g9⟩ := g
  have hc1 := gH_hOK g1
  have hok1 := hOK_c hc1
  have hb := rI_m (w := mBack u) r rfl rfl (fun _ _ => rfl)
  have hfin : ∀ w : mS, rI w → (∀ k, k ≠ 28 → k ≠ 36 → w.1 k = u.1 k) → w.1 28 = u.1 28 - 1 → w.1 36 = nI (fil es) → (∀ k, k < 2 ∨ 2 < k → k < 22 ∨ 27 < k → w.2 k = u.2 k) → cM w c1 → w.2 2 = G1 → rI w ∧ ∃ c1, mH w es c1 ∧ gH w es c1 (w.2 2) ∧ (∀ k, k ≠ 28 → k ≠ 36 → w.1 k = u.1 k) ∧ w.1 28 = u.1 28 - 1 ∧ ∀ k, k < 2 ∨ 2 < k → k < 22 ∨ 27 < k → w.2 k = u.2 k := fun w hr i3 h28 h36 k2 hc hG => ⟨hr, c1, mH_old d hc1 (i3 3 (by decide) (by decide)) (k2 4 (by decide) (by decide)) h28 h36 (fun k k3 k4 => k2 k (by omega) (by omega)) hc, by rw [hG]; exact gH_e (i3 3 (by decide) (by decide)) (k2 0 (by decide) (by decide)) (k2 4 (by decide) (by decide)) (k2 11 (by decide) (by decide)) g1, i3, h28, k2⟩
  rcases g9 with ⟨q, hp, hG, hfr, hr⟩ | ⟨q, hp, hG, hr⟩ | ⟨q, hp, hG, hfr⟩ | ⟨q, hp, hG, hfr⟩
  · have han : e.2.1 < (u.1 3).toNatClampNeg := gn (by omega) (by omega)
    have ha : e.2.1 < 80 := by omega
    have hpa : c e.2.1 = e.2.2.1 :: c1 e.2.1 := by rw [hp, cPush_a]
    have hl : (c1 e.2.1).length ≤ 5 := by
      have z := (hok e.2.1).2.1
      rw [hpa, List.length_cons] at z
      omega
    have hm : cM u (cPush c1 e.2.1 e.2.2.1) := by rw [← hp]; exact d.2.2.2.2.2
    have eU : refU u e = mUnstand (mBack u) (nI e.2.1) e.2.2.1.1 e.2.2.1.2.1 e.2.2.1.2.2.1 e.2.2.1.2.2.2.1 e.2.2.1.2.2.2.2 := by unfold refU; rw [if_pos q]
    have eL : bkL e = [(false, some e.2.1, e.2.2.1)] := by unfold bkL; rw [if_pos q]
    refine ⟨?_, ?_, ?_⟩
    · rw [eL]
      refine ⟨rIn_of (u := mBack u) hr ((gx e.2.1 han).1 e.2.2.1 (by rw [hpa]; exact List.mem_cons_self)), han, ?_, trivial⟩
      show 0 < (u.2 22 e.2.1).toNatClampNeg
      rw [(hm e.2.1 ha).1, cPush_a, List.length_cons, nI_clamp (by omega)]
      omega
    · rw [eL, eU]; exact fun _ _ _ _ h => h
    · rw [eU]
      refine hfin _ (rI_unstand hb _ _ _ _ _ _) (fun k k1 k2 => back_1 u k1) (back_28 u) ?_ (fun k k1 k2 => by rw [mUnstand_k _ _ _ _ _ _ _ (by omega) (by omega)]; rfl) (cM_unstand ha hl (cM_rows (u := u) (w := mBack u) (fun k _ _ => rfl) hm) _ _ _ _ _) ?_
      · show (mBack u).1 36 = _
        rw [back_1 u (by decide), d.2.2.1, fil_no _ (by omega)]
      · rw [mUnstand_2]
        show setF (u.2 2) e.2.2.1 (-2) = G1
        rw [hG]; exact setF_re hfr
  · have han : e.2.1 < (u.1 3).toNatClampNeg := gn (by omega) (by omega)
    have ha : e.2.1 < 80 := by omega
    have hpa : c1 e.2.1 = e.2.2.1 :: c e.2.1 := by rw [hp, cPush_a]
    have hl : (c e.2.1).length ≤ 5 := by
      have z := (hok1 e.2.1).2.1
      rw [hpa, List.length_cons] at z
      omega
    have eU : refU u e = mStand (mBack u) (nI e.2.1) e.2.2.1.1 e.2.2.1.2.1 e.2.2.1.2.2.1 e.2.2.1.2.2.2.1 e.2.2.1.2.2.2.2 := by unfold refU; rw [if_neg (by omega), if_pos q]
    have eL : bkL e = [(true, some e.2.1, e.2.2.1)] := by unfold bkL; rw [if_neg (by omega), if_pos q]
    have gx1 := gH_cX g1
    have ga1 := gH_agr g1
    refine ⟨?_, ?_, ?_⟩
    · rw [eL]
      refine ⟨rIn_of (u := mBack u) hr ((gx1 e.2.1 han).1 e.2.2.1 (by rw [hpa]; exact List.mem_cons_self)), han, ?_, trivial⟩
      show (u.2 22 e.2.1).toNatClampNeg < if u.2 4 e.2.1 = 0 then 6 else 1
      rw [(d.2.2.2.2.2 e.2.1 ha).1, nI_clamp (by omega)]
      by_cases hk : u.2 4 e.2.1 = 0
      · rw [if_pos hk]; omega
      · rw [if_neg hk]
        have z := (gx1 e.2.1 han).2.1 hk
        rw [hpa, List.length_cons] at z; omega
    · rw [eL, eU]; exact fun _ _ _ _ h => h
    · rw [eU]
      refine hfin _ (rI_stand hb ha hr.2.1) (fun k k1 k2 => back_1 u k1) (back_28 u) ?_ (fun k k1 k2 => by rw [mStand_k2 _ _ _ _ _ _ _ (by omega) k2]; rfl) ?_ ?_
      · show (mBack u).1 36 = _
        rw [back_1 u (by decide), d.2.2.1, fil_no _ (by omega)]
      · rw [hp]
        exact cM_stand ha hl (fun b => (hok b).2.1) (cM_rows (u := u) (w := mBack u) (fun k _ _ => rfl) d.2.2.2.2.2) e.2.2.1.1 e.2.2.1.2.1 e.2.2.1.2.2.1 e.2.2.1.2.2.2.1 e.2.2.1.2.2.2.2
      · rw [mStand_2]
        show setF (u.2 2) e.2.2.1 (nI e.2.1) = G1
        rw [hG]
        refine setF_re ?_
        rw [hp] at ga1
        exact agr_top ga1 ha hr
  · have hs3 : e.2.2.1.1 < 12 ∧ e.2.2.1.2.1 < 8 ∧ e.2.2.1.2.2.1 < 60 := by
      rcases gs with z | z | z | z
      · exact absurd z.1 (by omega)
      · exact absurd z.1 (by omega)
      · exact z.2.2
      · exact absurd z.1 (by omega)
    have hr : rOK (ruR e) := ⟨hs3.1, by show e.2.2.1.2.1 + 1 ≤ 8; omega, by show e.2.2.1.2.2.1 + 1 ≤ 60; omega, Nat.le_refl 1, Nat.le_refl 1⟩
    have eU : refU u e = mst (mBack u) 2 (480 * nI e.2.2.1.1 + 60 * nI e.2.2.1.2.1 + nI e.2.2.1.2.2.1) (-2) := by unfold refU; rw [if_neg (by omega), if_neg (by omega), if_pos q]
    have eL : bkL e = [(false, none, ruR e)] := by unfold bkL; rw [if_neg (by omega), if_neg (by omega), if_pos q]
    have eR : setF (u.2 2) (ruR e) (-2) = upd (u.2 2) (480 * nI e.2.2.1.1 + 60 * nI e.2.2.1.2.1 + nI e.2.2.1.2.2.1).toNatClampNeg (-2) := by
      rw [idxN hs3.1 hs3.2.1 hs3.2.2, nI_clamp (by omega)]
      funext j
      show setR (u.2 2) e.2.2.1.1 e.2.2.1.2.1 e.2.2.1.2.2.1 1 (-2) 1 j = _
      unfold setR setR setC upd
      by_cases hj : j = 480 * e.2.2.1.1 + 60 * e.2.2.1.2.1 + e.2.2.1.2.2.1
      · rw [if_pos (by omega), if_pos hj]
      · rw [if_neg (by omega), if_neg hj]
    have eM : mput (mBack u) 2 (setR ((mBack u).2 2) e.2.2.1.1 e.2.2.1.2.1 e.2.2.1.2.2.1 1 (-2) 1) = refU u e := by
      rw [eU]
      show mput (mBack u) 2 (setF (u.2 2) (ruR e) (-2)) = mput (mBack u) 2 (upd (u.2 2) _ (-2))
      rw [eR]
    refine ⟨?_, ?_, ?_⟩
    · rw [eL]
      exact ⟨rIn_of (u := mBack u) hr (gr q), trivial⟩
    · rw [eL]
      intro q9 d9 z9 f9 h9
      rw [← eM]; exact h9
    · rw [eU]
      refine hfin _ ?_ (fun k k1 k2 => back_1 u k1) (back_28 u) ?_ (fun k k1 k2 => by rw [mst_other (by omega)]; rfl) (cM_rows (u := u) (fun k k1 k2 => by rw [mst_other (by omega)]; rfl) (by rw [← hp]; exact d.2.2.2.2.2)) ?_
      · generalize mBack u = z at hb
        obtain ⟨r1, r2, r3, r4, r5, r6, r7, r8⟩ := hb
        refine ⟨r1, r2, ?_, ?_, ?_, ?_, fun j hj => ?_, ?_⟩
        · rw [mst_other (by decide)]; exact r3
        · rw [mst_other (by decide)]; exact r4
        · rw [mst_other (by decide)]; exact r5
        · rw [mst_other (by decide)]; exact r6
        · rw [mst_at]
          split
          · exact fun q => absurd q (by decide)
          · exact r7 j hj
        · rw [mst_other (by decide), mst_other (by decide)]; exact r8
      · show (mBack u).1 36 = _
        rw [back_1 u (by decide), d.2.2.1, fil_no _ (by omega)]
      · rw [← eU, ← eM]
        show setF (u.2 2) (ruR e) (-2) = G1
        rw [hG]; exact setF_re hfr
  · have hx : xG (u.1 3).toNatClampNeg (u.2 4) c1 e.2.2.2 := by
      rcases gs with z | z | z | z
      · exact absurd z.1 (by omega)
      · exact absurd z.1 (by omega)
      · exact absurd z.1 (by omega)
      · exact z.2.2
    have eU : refU u e = popAll (mBack u) e.2.2.2 := by unfold refU; rw [if_neg (by omega), if_neg (by omega), if_neg (by omega)]
    have eL : bkL e = e.2.2.2.map (fun x => (false, some x.1, xR x)) := by unfold bkL; rw [if_neg (by omega), if_neg (by omega), if_neg (by omega)]
    have hf := fil_380 hc1 hx
    have hfil : fil (e :: es) = fil es + e.2.2.2.length := by
      show fil es + (if e.1 = 3 then e.2.2.2.length else 0) = _
      rw [if_pos q]
    have a1 := d.1
    rw [List.length_cons] at a1
    have f2 := (d.2.2.2.2.1.1.2.2.2.2 q).2
    have hcm : cM (mBack u) (cFill c1 e.2.2.2) := cM_rows (u := u) (fun k _ _ => rfl) (by rw [← hp]; exact d.2.2.2.2.2)
    obtain ⟨j1, j2, j3, j4, j5, j6⟩ := pop_ind hn hok1 e.2.2.2 (mBack u) hx (F := fil es) (by omega) (by rw [back_1 u (by decide), d.2.2.1, hfil]) (fM_c (u := u) (fun _ _ => rfl) f2) hcm hb
    refine ⟨?_, ?_, ?_⟩
    · rw [eL]
      exact fill_bkK hn e.2.2.2 (mBack u) hx (by rw [← hp]; exact gx) hcm (back_1 u (by decide)) rfl
    · rw [eL, eU]
      intro q9 d9 z9 f9 h9
      obtain ⟨p1, p2⟩ := pop_bk e.2.2.2 (mBack u) (mBack u) rfl (fun _ _ => rfl)
      refine rep_rows h9 (p2 3 (by decide)) (fun k _ => by rw [p1])
    · rw [eU]
      refine hfin _ j3 (fun k k1 k2 => (j5 k k2).trans (back_1 u k1)) ((j5 28 (by decide)).trans (back_28 u)) j4 (fun k k1 k2 => (j6 k (by omega) (by omega)).trans rfl) j2 ?_
      exact pop_G e.2.2.2 (mBack u) hG hfr
theorem itI {u : mS} (h : rI u) {i : Nat} (hi : i < (u.1 3).toNatClampNeg) : bw (nI i) 0 (u.1 3 - 1) = true := by
  obtain ⟨X, hX, -, eX⟩ := exN h.1 (by decide)
  have h8 : (80 : Int32).toInt = 80 := rfl
  rw [eX] at hi ⊢
  rw [nI_clamp (by omega)] at hi
  rw [dn_e (by omega)]
  exact bwN (by rw [nI_toInt (by omega)]; omega) (by omega)
theorem mst_f1 (u : mS) (k : Nat) (i x : Int32) : (mst u k i x).1 = u.1 := rfl
theorem mS_x {a b : mS} (h1 : a.1 = b.1) (h2 : ∀ r j, a.2 r j = b.2 r j) : a = b := Prod.ext h1 (funext fun r => funext fun j => h2 r j)
/-- the facts of a first printing on page p -/
def enV (w : mS) (p i t : Nat) : Int32 := if t = 0 then w.1 38 else if t = 1 then w.1 39 else if t = 2 then nI p else if t = 3 then w.2 45 (80 * p + i) else w.2 46 (80 * p + i)
noncomputable def en47 (w : mS) (p : Nat) (S : Nat → Prop) : Nat → Int32 := fun j => @ite Int32 (S (j / 5) ∧ w.2 47 (5 * (j / 5)) < 0) (Classical.propDecidable _) (enV w p (j / 5) (j % 5)) (w.2 47 j)
noncomputable def en48 (w : mS) (S : Nat → Prop) : Nat → Int32 := fun j => @ite Int32 (80 * (w.1 38).toNatClampNeg ≤ j ∧ S (j - 80 * (w.1 38).toNatClampNeg)) (Classical.propDecidable _) (vp_nar .boolean 1) (w.2 48 j)
/-- the items of S are written down for page p -/
noncomputable def enS (w : mS) (p : Nat) (S : Nat → Prop) : mS := mput (mput w 47 (en47 w p S)) 48 (en48 w S)
theorem enS_1 (w : mS) (p : Nat) (S : Nat → Prop) : (enS w p S).1 = w.1 := rfl
theorem enS_47 (w : mS) (p : Nat) (S : Nat → Prop) : (enS w p S).2 47 = en47 w p S := rfl
theorem enS_48 (w : mS) (p : Nat) (S : Nat → Prop) : (enS w p S).2 48 = en48 w S := rfl
theorem enS_o (w : mS) (p : Nat) (S : Nat → Prop) {r : Nat} (h1 : r ≠ 47) (h2 : r ≠ 48) : (enS w p S).2 r = w.2 r := by
  show (if r = 48 then _ else if r = 47 then _ else w.2 r) = w.2 r
  rw [if_neg h2, if_neg h1]
theorem enS_cg {w : mS} {p : Nat} {S T : Nat → Prop} (h : ∀ i, S i ↔ T i) : enS w p S = enS w p T := by
  have e : S = T := funext fun i => propext (h i)
  rw [e]
theorem enS_nil {w : mS} {p : Nat} {S : Nat → Prop} (h : ∀ i, ¬ S i) : enS w p S = w := by
  refine mS_x rfl (fun r j => ?_)
  by_cases h1 : r = 47
  · rw [h1, enS_47]; unfold en47; rw [if_neg (fun q => h _ q.1)]
  · by_cases h2 : r = 48
    · rw [h2, enS_48]; unfold en48; rw [if_neg (fun q => h _ q.2)]
    · rw [enS_o w p S h1 h2]
/-- five writes, one after the other -/
theorem w5 {g : Nat → Int32} {m j : Nat} {v0 v1 v2 v3 v4 : Int32} : (if j = 5 * m + 4 then v4 else if j = 5 * m + 3 then v3 else if j = 5 * m + 2 then v2 else if j = 5 * m + 1 then v1 else if j = 5 * m then v0 else g j) = if j / 5 = m then (if j % 5 = 0 then v0 else if j % 5 = 1 then v1 else if j % 5 = 2 then v2 else if j % 5 = 3 then v3 else v4) else g j := by
  by_cases h : j / 5 = m
  · rw [if_pos h]
    rcases (by omega : j % 5 = 0 ∨ j % 5 = 1 ∨ j % 5 = 2 ∨ j % 5 = 3 ∨ j % 5 = 4) with q | q | q | q | q
    · rw [if_neg (by omega), if_neg (by omega), if_neg (by omega), if_neg (by omega), if_pos (by omega), if_pos q]
    · rw [if_neg (by omega), if_neg (by omega), if_neg (by omega), if_pos (by omega), if_neg (by omega), if_pos q]
    · rw [if_neg (by omega), if_neg (by omega), if_pos (by omega), if_neg (by omega), if_neg (by omega), if_pos q]
    · rw [if_neg (by omega), if_pos (by omega), if_neg (by omega), if_neg (by omega), if_neg (by omega), if_pos q]
    · rw [if_pos (by omega), if_neg (by omega), if_neg (by omega), if_neg (by omega), if_neg (by omega)]
  · rw [if_neg h, if_neg (by omega), if_neg (by omega), if_neg (by omega), if_neg (by omega), if_neg (by omega)]
theorem i80 {p m : Nat} (hp : p < 400) (hm : m < 80) : (80 * nI p + nI m).toNatClampNeg = 80 * p + m := by
  rw [show (80 : Int32) = nI 80 from rfl, pk_mul, nI_add, nI_clamp (by omega)]
theorem i5 {m t : Nat} (hm : m < 80) (ht : t < 5) : (5 * nI m + nI t).toNatClampNeg = 5 * m + t := by
  rw [show (5 : Int32) = nI 5 from rfl, pk_mul, nI_add, nI_clamp (by omega)]
theorem i50 {m : Nat} (hm : m < 80) : (5 * nI m).toNatClampNeg = 5 * m := by
  rw [show (5 : Int32) = nI 5 from rfl, pk_mul, nI_clamp (by omega)]
/-- row 48 behind one more item -/
theorem en48_n {w : mS} {S : Nat → Prop} {m j : Nat} : (if j = 80 * (w.1 38).toNatClampNeg + m then vp_nar .boolean 1 else en48 w S j) = en48 w (fun i => S i ∨ i = m) j := by
  unfold en48
  by_cases h : j = 80 * (w.1 38).toNatClampNeg + m
  · rw [if_pos h, if_pos ⟨by omega, Or.inr (by omega)⟩]
  · rw [if_neg h]
    by_cases h2 : 80 * (w.1 38).toNatClampNeg ≤ j ∧ S (j - 80 * (w.1 38).toNatClampNeg)
    · rw [if_pos h2, if_pos ⟨h2.1, Or.inl h2.2⟩]
    · rw [if_neg h2, if_neg (fun q => q.2.elim (fun z => h2 ⟨q.1, z⟩) (fun z => h (by have := q.1; omega)))]
/-- row 47 behind one more item whose first printing stood already -/
theorem en47_o {w : mS} {p : Nat} {S : Nat → Prop} {m j : Nat} (h : S m ∨ ¬ w.2 47 (5 * m) < 0) : en47 w p S j = en47 w p (fun i => S i ∨ i = m) j := by
  unfold en47
  by_cases h2 : S (j / 5) ∧ w.2 47 (5 * (j / 5)) < 0
  · rw [if_pos h2, if_pos ⟨Or.inl h2.1, h2.2⟩]
  · rw [if_neg h2, if_neg (fun q => q.1.elim (fun z => h2 ⟨z, q.2⟩) (fun z => by
      rw [z] at q h2
      exact h.elim (fun g => h2 ⟨g, q.2⟩) (fun g => g q.2)))]
/-- row 47 behind one more item that is printed for the first time -/
theorem en47_n {w : mS} {p : Nat} {S : Nat → Prop} {m j : Nat} (h : w.2 47 (5 * m) < 0) : (if j / 5 = m then enV w p m (j % 5) else en47 w p S j) = en47 w p (fun i => S i ∨ i = m) j := by
  unfold en47
  by_cases h1 : j / 5 = m
  · rw [if_pos h1, if_pos ⟨Or.inr h1, by rw [h1]; exact h⟩, h1]
  · rw [if_neg h1]
    by_cases h2 : S (j / 5) ∧ w.2 47 (5 * (j / 5)) < 0
    · rw [if_pos h2, if_pos ⟨Or.inl h2.1, h2.2⟩]
    · rw [if_neg h2, if_neg (fun q => q.1.elim (fun z => h2 ⟨z, q.2⟩) h1)]
theorem nn0 {x : Int32} (h : 0 ≤ x) : ¬ x < 0 := fun q => by
  rw [i32_le] at h; rw [i32_lt] at q; rw [i0] at *; omega
theorem en47_at {w : mS} {p : Nat} {S : Nat → Prop} {m : Nat} (h : ¬ S m) : en47 w p S (5 * m) = w.2 47 (5 * m) := by
  unfold en47
  rw [if_neg (fun q => h (by have e : 5 * m / 5 = m := by omega
                             rw [e] at q; exact q.1))]
theorem lt_nn {x : Int32} (h : ¬ 0 ≤ x) : x < 0 := by
  rw [i32_le] at h; rw [i32_lt]; rw [i0] at *; omega
/-- the reference's step -/
theorem endI_s {w : mS} {p m : Nat} {S : Nat → Prop} (hp : p < 12) (hm : m < 80) (hd : bw (w.1 38) 0 399 = true) (hS : ¬ S m) : endI (enS w p S) (nI p) (nI m) = enS w p (fun i => S i ∨ (i = m ∧ 0 ≤ w.2 45 (80 * p + m))) := by
  unfold endI
  rw [i80 (by omega) hm, enS_o w p S (by decide) (by decide)]
  by_cases ho : 0 ≤ w.2 45 (80 * p + m)
  · rw [if_pos ho]
    rw [enS_cg (T := fun i => S i ∨ i = m) (fun i => ⟨fun q => q.elim Or.inl (fun z => Or.inr z.1), fun q => q.elim Or.inl (fun z => Or.inr ⟨z, ho⟩)⟩)]
    dsimp only
    rw [i50 hm, mst_other (by decide), enS_47, en47_at hS]
    have e48 : ∀ j, (mst (enS w p S) 48 (80 * (enS w p S).1 38 + nI m) (vp_nar .boolean 1)).2 48 j = en48 w (fun i => S i ∨ i = m) j := fun j => by
      rw [mst_at, enS_1, e48i hm hd, enS_48]; exact en48_n
    by_cases hf : 0 ≤ w.2 47 (5 * m)
    · rw [if_pos hf]
      refine mS_x rfl (fun r j => ?_)
      by_cases h1 : r = 47
      · rw [h1, mst_other (by decide), enS_47, enS_47]; exact en47_o (Or.inr (nn0 hf))
      · by_cases h2 : r = 48
        · rw [h2, e48, enS_48]
        · rw [mst_other h2, enS_o w p _ h1 h2, enS_o w p _ h1 h2]
    · rw [if_neg hf]
      refine mS_x rfl (fun r j => ?_)
      by_cases h1 : r = 47
      · subst h1
        rw [mst_at, mst_at, mst_at, mst_at, mst_at, mst_other (by decide), mst_other (by decide), mst_other (by decide), mst_other (by decide), mst_other (by decide), mst_other (by decide), mst_other (by decide), mst_other (by decide), mst_other (by decide), mst_other (by decide)]
        rw [show (4 : Int32) = nI 4 from rfl, show (3 : Int32) = nI 3 from rfl, show (2 : Int32) = nI 2 from rfl, show (1 : Int32) = nI 1 from rfl, i5 hm (by decide), i5 hm (by decide), i5 hm (by decide), i5 hm (by decide), i50 hm, w5, enS_47, enS_47, ← en47_n (lt_nn hf)]
        congr 1
      · by_cases h2 : r = 48
        · subst h2
          rw [mst_other (by decide), mst_other (by decide), mst_other (by decide), mst_other (by decide), mst_other (by decide), e48, enS_48]
        · rw [mst_other h1, mst_other h1, mst_other h1, mst_other h1, mst_other h1, mst_other h2, enS_o w p _ h1 h2, enS_o w p _ h1 h2]
  · rw [if_neg ho]
    exact enS_cg (fun i => ⟨Or.inl, fun q => q.elim id (fun z => absurd z.2 ho)⟩)
theorem endL_s {w : mS} {p : Nat} (hp : p < 12) (hd : bw (w.1 38) 0 399 = true) : ∀ n, n ≤ 80 → endL w (nI p) n = enS w p (fun i => i < n ∧ 0 ≤ w.2 45 (80 * p + i))
  | 0, _ => (enS_nil (fun i q => absurd q.1 (Nat.not_lt_zero _))).symm
  | n + 1, h => by
    show endI (endL w (nI p) n) (nI p) (nI n) = _
    rw [endL_s hp hd n (by omega), endI_s hp (by omega) hd (fun q => absurd q.1 (by omega))]
    refine enS_cg (fun i => ⟨fun q => ?_, fun q => ?_⟩)
    · rcases q with q | q
      · exact ⟨by omega, q.2⟩
      · exact ⟨by omega, by rw [q.1]; exact q.2⟩
    · by_cases e : i = n
      · exact Or.inr ⟨e, by rw [← e]; exact q.2⟩
      · exact Or.inl ⟨by omega, q.2⟩
/-- the cells before (c, l) of plate p -/
def seen (w : mS) (p c l i : Nat) : Prop := ∃ c' l', c' < 8 ∧ l' < (w.2 43 (8 * p + c')).toNatClampNeg ∧ (c' < c ∨ (c' = c ∧ l' < l)) ∧ w.2 44 (480 * p + (60 * c' + l')) = nI i
def Sx (w : mS) (p n c l i : Nat) : Prop := i < n ∧ seen w p c l i
/-- the class's step -/
theorem wdS_s {w : mS} {p c l : Nat} (hr : rI w) (hp : p < 12) (hc : c < 8) (hl : l < (w.2 43 (8 * p + c)).toNatClampNeg) (hl6 : l < 60) (hpl : plI w) (hfi : fiI w) (h40 : w.2 40 p = 1) (h41 : w.2 41 p = w.1 38) (h42 : w.2 42 p = w.1 39) : wdS p c l (enS w p (Sx w p (w.1 3).toNatClampNeg c l)) = enS w p (Sx w p (w.1 3).toNatClampNeg c (l + 1)) := by
  have hd := hr.2.1
  have hn := n80 hr
  unfold wdS
  rw [enS_o w p _ (by decide) (by decide), enS_1]
  by_cases hb : bw (w.2 44 (480 * p + (60 * c + l))) 0 (w.1 3 - 1) = true
  · rw [if_pos hb]
    obtain ⟨i, ei, hi, -⟩ := itN hr hb
    have hi8 : i < 80 := by omega
    rw [ei, nI_clamp (by omega)]
    rw [enS_cg (S := Sx w p (w.1 3).toNatClampNeg c (l + 1)) (T := fun j => Sx w p (w.1 3).toNatClampNeg c l j ∨ j = i) (fun j => ⟨fun q => by
      obtain ⟨q1, c', l', a1, a2, a3, a4⟩ := q
      by_cases e : c' = c ∧ l' = l
      · rw [e.1, e.2, ei] at a4
        exact Or.inr ((nI_inj (by omega) (by omega)).mp a4).symm
      · exact Or.inl ⟨q1, c', l', a1, a2, by omega, a4⟩, fun q => by
      rcases q with ⟨q1, c', l', a1, a2, a3, a4⟩ | q
      · exact ⟨q1, c', l', a1, a2, by omega, a4⟩
      · rw [q]; exact ⟨hi, c, l, hc, hl, Or.inr ⟨rfl, by omega⟩, ei⟩⟩)]
    generalize hS : Sx w p (w.1 3).toNatClampNeg c l = S
    have e48 : ∀ v : mS, v.2 48 = en48 w S → v.1 = w.1 → ∀ j, (mst v 48 (nI (80 * (w.1 38).toNatClampNeg + i)) (vp_nar .boolean 1)).2 48 j = en48 w (fun i9 => S i9 ∨ i9 = i) j := fun v h1 h2 j => by
      have hd9 : (w.1 38).toNatClampNeg < 400 := by
        obtain ⟨X, hX, -, eX⟩ := exN hd (by decide)
        have h3 : (399 : Int32).toInt = 399 := rfl
        rw [eX, nI_clamp (by omega)]; omega
      rw [mst_at, nI_clamp (by omega), h1]; exact en48_n
    unfold wdU
    rw [enS_47, enS_1]
    by_cases hs : S i
    · have hne : ¬ en47 w p S (5 * i) = (-1) := by
        unfold en47
        have e5 : 5 * i / 5 = i := by omega
        rw [e5]
        by_cases hf : w.2 47 (5 * i) < 0
        · rw [if_pos ⟨hs, hf⟩, show 5 * i % 5 = 0 by omega]
          intro q
          have q2 : w.1 38 = (-1) := q
          have h3 := (bw_iff.mp hd).1
          rw [q2] at h3
          exact absurd h3 (by decide)
        · rw [if_neg (fun q => hf q.2)]
          intro q; rw [q] at hf; exact hf (by decide)
      rw [if_neg hne]
      refine mS_x rfl (fun r j => ?_)
      by_cases h1 : r = 47
      · rw [h1, mst_other (by decide), enS_47, enS_47]; exact en47_o (Or.inl hs)
      · by_cases h2 : r = 48
        · rw [h2, e48 _ (enS_48 w p S) rfl, enS_48]
        · rw [mst_other h2, enS_o w p _ h1 h2, enS_o w p _ h1 h2]
    · rw [en47_at hs]
      have hfirst : w.2 45 (80 * p + i) = nI c ∧ w.2 46 (80 * p + i) = nI l := by
        rcases hpl p hp h40 i hi8 with ⟨-, hN⟩ | ⟨c', l', b1, b2, b3, b4, b5, b6⟩
        · exact absurd ei (hN c l hc hl)
        · have h1 : ¬ (c' < c ∨ (c' = c ∧ l' < l)) := fun q => hs (by rw [← hS]; exact ⟨hi, c', l', b3, b4, q, b5⟩)
          have h2 : ¬ (c < c' ∨ (c = c' ∧ l < l')) := fun q => b6 c l hc hl q ei
          have h3 : c' = c ∧ l' = l := by omega
          rw [← h3.1, ← h3.2]; exact ⟨b1, b2⟩
      by_cases hf : w.2 47 (5 * i) = (-1)
      · rw [if_pos hf]
        have hneg : w.2 47 (5 * i) < 0 := by rw [hf]; decide
        refine mS_x (((mst_f1 _ _ _ _).trans (wdF_1 (enS w p S) i (nI p) (nI (60 * c + l)) 5)).trans (enS_1 w p S)) (fun r j => ?_)
        by_cases h1 : r = 47
        · subst h1
          rw [mst_other (by decide), enS_47, ← en47_n hneg]
          unfold wdF wdF wdF wdF wdF wdF
          rw [mst_at, mst_at, mst_at, mst_at, mst_at, nI_clamp (by omega), nI_clamp (by omega), nI_clamp (by omega), nI_clamp (by omega), nI_clamp (by omega), Nat.add_zero (5 * i), w5, enS_47]
          congr 1
          have q6 := q60 ⟨c, hc⟩ ⟨l, hl6⟩
          have m0 : mPF (enS w p S) (nI p) (nI (60 * c + l)) (nI 0) = w.1 38 := by unfold mPF; rw [if_pos (by decide), nI_clamp (by omega), enS_o w p _ (by decide) (by decide), h41]
          have m1 : mPF (enS w p S) (nI p) (nI (60 * c + l)) (nI 1) = w.1 39 := by unfold mPF; rw [if_neg (by decide), if_pos (by decide), nI_clamp (by omega), enS_o w p _ (by decide) (by decide), h42]
          have m2 : mPF (enS w p S) (nI p) (nI (60 * c + l)) (nI 2) = nI p := by unfold mPF; rw [if_neg (by decide), if_neg (by decide), if_pos (by decide)]
          have m3 : mPF (enS w p S) (nI p) (nI (60 * c + l)) (nI 3) = w.2 45 (80 * p + i) := by unfold mPF; rw [if_neg (by decide), if_neg (by decide), if_neg (by decide), if_pos (by decide), hfirst.1]; exact q6.1
          have m4 : mPF (enS w p S) (nI p) (nI (60 * c + l)) (nI 4) = w.2 46 (80 * p + i) := by unfold mPF; rw [if_neg (by decide), if_neg (by decide), if_neg (by decide), if_neg (by decide), if_pos (by decide), hfirst.2]; exact q6.2
          rw [m0, m1, m2, m3, m4]
          rfl
        · by_cases h2 : r = 48
          · subst h2
            rw [e48 _ ?_ ?_, enS_48]
            · unfold wdF wdF wdF wdF wdF wdF
              rw [mst_other (by decide), mst_other (by decide), mst_other (by decide), mst_other (by decide), mst_other (by decide), enS_48]
            · exact (wdF_1 (enS w p S) i (nI p) (nI (60 * c + l)) 5).trans (enS_1 w p S)
          · rw [mst_other h2]
            unfold wdF wdF wdF wdF wdF wdF
            rw [mst_other h1, mst_other h1, mst_other h1, mst_other h1, mst_other h1, enS_o w p _ h1 h2, enS_o w p _ h1 h2]
      · rw [if_neg hf]
        have hnn : ¬ w.2 47 (5 * i) < 0 := fun q => by
          have h9 := hfi i hi8
          have e1 : (-1 : Int32).toInt = -1 := rfl
          rw [i32_lt, e1] at h9
          rw [i32_lt, i0] at q
          exact hf (Int32.toInt_inj.mp (by rw [e1]; omega))
        refine mS_x rfl (fun r j => ?_)
        by_cases h1 : r = 47
        · rw [h1, mst_other (by decide), enS_47, enS_47]; exact en47_o (Or.inr hnn)
        · by_cases h2 : r = 48
          · rw [h2, e48 _ (enS_48 w p S) rfl, enS_48]
          · rw [mst_other h2, enS_o w p _ h1 h2, enS_o w p _ h1 h2]
  · rw [if_neg hb]
    refine enS_cg (fun j => ⟨fun q => ?_, fun q => ?_⟩)
    · obtain ⟨q1, c', l', a1, a2, a3, a4⟩ := q
      exact ⟨q1, c', l', a1, a2, by omega, a4⟩
    · obtain ⟨q1, c', l', a1, a2, a3, a4⟩ := q
      by_cases e : c' = c ∧ l' = l
      · rw [e.1, e.2] at a4
        exact absurd (by rw [a4]; exact itI hr q1) hb
      · exact ⟨q1, c', l', a1, a2, by omega, a4⟩
theorem wdC_s {w : mS} {p c : Nat} (hr : rI w) (hp : p < 12) (hc : c < 8) (h6 : (w.2 43 (8 * p + c)).toNatClampNeg ≤ 60) (hpl : plI w) (hfi : fiI w) (h40 : w.2 40 p = 1) (h41 : w.2 41 p = w.1 38) (h42 : w.2 42 p = w.1 39) : ∀ l, l ≤ (w.2 43 (8 * p + c)).toNatClampNeg → wdC p c (enS w p (Sx w p (w.1 3).toNatClampNeg c 0)) l = enS w p (Sx w p (w.1 3).toNatClampNeg c l)
  | 0, _ => rfl
  | l + 1, h => by
    show wdS p c l (wdC p c (enS w p (Sx w p (w.1 3).toNatClampNeg c 0)) l) = _
    rw [wdC_s hr hp hc h6 hpl hfi h40 h41 h42 l (by omega)]
    exact wdS_s hr hp hc (by omega) (by omega) hpl hfi h40 h41 h42
theorem wdP_s {w : mS} {p : Nat} (hr : rI w) (hp : p < 12) (hpl : plI w) (hfi : fiI w) (h40 : w.2 40 p = 1) (h41 : w.2 41 p = w.1 38) (h42 : w.2 42 p = w.1 39) : ∀ c, c ≤ 8 → wdP p w c = enS w p (Sx w p (w.1 3).toNatClampNeg c 0)
  | 0, _ => (enS_nil (fun i q => by
      obtain ⟨-, c', l', a1, a2, a3, a4⟩ := q
      omega)).symm
  | c + 1, h => by
    have h6 : (w.2 43 (8 * p + c)).toNatClampNeg ≤ 60 := by
      obtain ⟨e1, e2, e3⟩ := nI_of_bw (hr.2.2.2.1 (8 * p + c) (by omega))
      have h60 : (60 : Int32).toInt = 60 := rfl
      omega
    show wdC p c (wdP p w c) (w.2 43 (8 * p + c)).toNatClampNeg = _
    rw [wdP_s hr hp hpl hfi h40 h41 h42 c (by omega), wdC_s hr hp (by omega) h6 hpl hfi h40 h41 h42 _ (Nat.le_refl _)]
    refine enS_cg (fun i => ⟨fun q => ?_, fun q => ?_⟩)
    · obtain ⟨q1, c', l', a1, a2, a3, a4⟩ := q
      exact ⟨q1, c', l', a1, a2, by omega, a4⟩
    · obtain ⟨q1, c', l', a1, a2, a3, a4⟩ := q
      refine ⟨q1, c', l', a1, a2, ?_, a4⟩
      by_cases e : c' = c
      · rw [e] at a2
        exact Or.inr ⟨e, a2⟩
      · exact Or.inl (by omega)
/-- what is on a plate: its first cell is told -/
theorem seen_45 {w : mS} {p i : Nat} (hp : p < 12) (hi : i < 80) (hpl : plI w) (h40 : w.2 40 p = 1) : seen w p 8 0 i ↔ 0 ≤ w.2 45 (80 * p + i) := by
  rcases hpl p hp h40 i hi with ⟨e, hN⟩ | ⟨c, l, e1, e2, f1, f2, f3, f4⟩
  · rw [e]
    exact ⟨fun ⟨c', l', a1, a2, a3, a4⟩ => absurd a4 (hN c' l' a1 a2), fun q => absurd q (by decide)⟩
  · rw [e1]
    refine ⟨fun _ => ?_, fun _ => ⟨c, l, f1, f2, Or.inl f1, f3⟩⟩
    rw [i32_le, i0, nI_toInt (by omega)]; omega
theorem wdP_e {w : mS} {p : Nat} (hr : rI w) (hp : p < 12) (hpl : plI w) (hfi : fiI w) (h40 : w.2 40 p = 1) (h41 : w.2 41 p = w.1 38) (h42 : w.2 42 p = w.1 39) : wdP p w 8 = endL w (nI p) (w.1 3).toNatClampNeg := by
  have hn := n80 hr
  rw [wdP_s hr hp hpl hfi h40 h41 h42 8 (Nat.le_refl _), endL_s hp hr.2.1 _ hn]
  refine enS_cg (fun i => ⟨fun q => ⟨q.1, (seen_45 hp (by have := q.1; omega) hpl h40).mp q.2⟩, fun q => ⟨q.1, (seen_45 hp (by have := q.1; omega) hpl h40).mpr q.2⟩⟩)
theorem mNow_3 {w : mS} {p : Nat} (hp : p < 12) (hpl : w.2 40 p = 0 ∨ w.2 40 p = 1) (h : mNow w (nI p) = true) : w.2 40 p = 1 ∧ w.2 41 p = w.1 38 ∧ w.2 42 p = w.1 39 := by
  unfold mNow at h
  rw [nI_clamp (by omega)] at h
  obtain ⟨h1, h2⟩ := band h
  obtain ⟨h2, h3⟩ := band h2
  refine ⟨?_, of_decide_eq_true h2, of_decide_eq_true h3⟩
  rcases hpl with q | q
  · rw [q] at h1; exact absurd h1 (by decide)
  · exact q
theorem enV_nn {w : mS} {p i : Nat} (hd : bw (w.1 38) 0 399 = true) : ¬ enV w p i 0 < (-1) := fun q => by
  have q2 : w.1 38 < (-1) := q
  have h := (bw_iff.mp hd).1
  have e1 : (-1 : Int32).toInt = -1 := rfl
  rw [i32_lt, e1] at q2
  rw [i0] at h
  omega
theorem fiI_L {w : mS} {p : Nat} (hp : p < 12) (hd : bw (w.1 38) 0 399 = true) (h : fiI w) {n : Nat} (hn : n ≤ 80) : fiI (endL w (nI p) n) := by
  intro i hi
  rw [endL_s hp hd n hn, enS_47]
  unfold en47
  have e5 : 5 * i / 5 = i := by omega
  have e6 : 5 * i % 5 = 0 := by omega
  rw [e5, e6]
  split
  · exact enV_nn hd
  · exact h i hi
/-- closing an edition: class and reference leave the same -/
theorem clE_e {u : mS} (hr : rI u) (hpl : plI u) (hfi : fiI u) (h40 : ∀ p, p < 12 → u.2 40 p = 0 ∨ u.2 40 p = 1) : ∀ n, n ≤ 12 → clE u n = endP u n ∧ fiI (endP u n)
  | 0, _ => ⟨rfl, hfi⟩
  | n + 1, h => by
    obtain ⟨h1, h2⟩ := clE_e hr hpl hfi h40 n (by omega)
    have hk := endP_k u n
    have hr2 : rI (endP u n) := rI_c hr (fun k _ => by rw [hk.1]) (fun k hk2 => hk.2 k (by unfold kR at hk2; omega) (by unfold kR at hk2; omega))
    have hpl2 : plI (endP u n) := plI_c hpl (fun r r1 r2 => hk.2 r (by omega) (by omega))
    show (if mNow (clE u n) (nI n) = true then wdP n (clE u n) 8 else clE u n) = (if mNow (endP u n) (nI n) = true then endL (endP u n) (nI n) ((u.1 3).toNatClampNeg) else endP u n) ∧ fiI (if mNow (endP u n) (nI n) = true then endL (endP u n) (nI n) ((u.1 3).toNatClampNeg) else endP u n)
    rw [h1]
    have e3 : (endP u n).1 3 = u.1 3 := by rw [hk.1]
    by_cases hn : mNow (endP u n) (nI n) = true
    · rw [if_pos hn, if_pos hn]
      obtain ⟨n1, n2, n3⟩ := mNow_3 (by omega) (by rw [hk.2 40 (by decide) (by decide)]; exact h40 n (by omega)) hn
      have e := wdP_e hr2 (by omega) hpl2 h2 n1 n2 n3
      rw [e3] at e
      refine ⟨e, fiI_L (by omega) hr2.2.1 h2 (by rw [← e3]; exact n80 hr2)⟩
    · rw [if_neg hn, if_neg hn]
      exact ⟨rfl, h2⟩
