def noL (u : mS) (p kd : Int32) : Prop := ∀ a b, a < b → b < (u.1 3).toNatClampNeg → ¬ lpC u p kd a b
def fsC (u : mS) (p kd : Int32) (i : Nat) : Prop := onP u i p ∧ faP u i kd
def noS (u : mS) (p kd : Int32) : Prop := ∀ i, i < (u.1 3).toNatClampNeg → ¬ fsC u p kd i
def isL (u : mS) (p kd x y t : Int32) : Prop := x = kd ∧ ∃ a b, y = nI a ∧ t = nI b ∧ lpM u p kd (u.1 3).toNatClampNeg a b
def isS (u : mS) (p kd x y t : Int32) : Prop := x = kd ∧ t = (-1) ∧ ∃ i, i < (u.1 3).toNatClampNeg ∧ y = nI i ∧ fsC u p kd i ∧ ∀ j, j < i → ¬ fsC u p kd j
/-- what is broken on a page, as the class finds it -/
def brM (u : mS) (p x y t : Int32) : Prop := isL u p 1 x y t ∨ (noL u p 1 ∧ (isL u p 2 x y t ∨ (noL u p 2 ∧ (isL u p 3 x y t ∨ (noL u p 3 ∧ (isS u p 4 x y t ∨ (noS u p 4 ∧ (isS u p 5 x y t ∨ (noS u p 5 ∧ x = 0 ∧ y = (-1) ∧ t = (-1))))))))))
def brP (q : Nat → ClassId) (h0 : Nat) (d : Nat → Nat) (k : Nat → Int32) (z : gS) (f : xF) (u : mS) (p : Int32) (r : Option Nat) (w : xU) : Prop := ∃ c x y t, r = some c ∧ w.1 = k ∧ zE z w.2.1 ∧ xI q h0 d k w.2.1 w.2.2 ∧ rep q d u w.2.1 w.2.2 ∧ w.2.2 (d 3) = f (d 3) ∧ tg w.2.1 c 24 ∧ w.2.2 c = .inr (1, [.int x, .int y, .int t]) ∧ brM u p x y t
set_option maxHeartbeats 4000000 in
set_option maxRecDepth 100000 in
theorem y_br_l {p : Program} {l : Launch} {e : Env} {R : Room} {s : State} {m : MethodId} {args : Array Value} {below : List Frame} {meth : Method} {c : Code} {Q : State → Prop} {cells slots : Nat} {dC : Nat → ClassId} {dI : Nat → Nat → Nat} {q : Nat → ClassId} {h0 : Nat} {d : Nat → Nat} {k : Nat → Int32} {z : gS} {f : xF} {H : Heap} {locs : List Loc} (hI : xI q h0 d k z f) (hx : p.tables.exec = Jvm.exec) (hb : c.code = cX11_breachOn) (hml : c.maxLocals = 4) (hts : ∀ w ∈ wsX11_breachOn, w.before args s = true) (hown : s.vm.findClass RX11 = some m.cls) (hN : NN s) (hXN : XN s) (hK : va_K (dC, dI) vwCl (xT q) s) (hRf : 5 ≤ R.frames) (hRl : 110 ≤ R.locals) (hRc : cells ≤ R.cells) (hRs : slots ≤ R.slots) (hP : va_P (dC, dI) vwCl (va_pl z.1 f) H) {u : mS} (hrp : rep q d u z f) (hk0 : k 0 = u.1 3) (hk1 : k 1 = u.1 28) (hk2 : k 2 = u.1 38) (hk3 : k 3 = u.1 39) {K : Nat} (hK8 : K ≤ 80) (eK : k 0 = nI K) (eKn : (u.1 3).toNatClampNeg = K) (hpcI : pcI u) {p0 p1 : Int32} (kx87 : ∀ (ls : Array Slot), (∀ j, j < K → ¬ fsC u p0 p1 j) → lv_has ls 4 [(0, .ref h0), (1, .int p0), (2, .int p1)] → W p l e R s m args below meth c H locs cells slots Q (F0 m 87 ls [])) (kx70 : ∀ (i9 : Nat) (ls : Array Slot), (i9 < K ∧ fsC u p0 p1 i9 ∧ (∀ j, j < i9 → ¬ fsC u p0 p1 j)) → lv_has ls 4 [(3, .int (nI i9)), (0, .ref h0), (1, .int p0), (2, .int p1)] → W p l e R s m args below meth c H locs cells slots Q (F0 m 70 ls [])) : ∀ (kk i : Nat) (ls : Array Slot), i ≤ K → K - i < kk → (∀ j, j < i → ¬ fsC u p0 p1 j) → lv_has ls 4 [(3, .int (nI i)), (0, .ref h0), (1, .int p0), (2, .int p1)] → W p l e R s m args below meth c H locs cells slots Q (F0 m 35 ls []) := by
  intro kk
  induction kk with
  | zero => intro i ls h1 h2; exact absurd h2 (Nat.not_lt_zero _)
  | succ kk ih =>
    intro i ls hi hkk hg hl
    refine lv_iload_n hx hb dX11_breachOn_35 rfl (lv_at hl 0 rfl) ?_
    refine lv_aload_n hx hb dX11_breachOn_36 rfl (lv_at hl 1 rfl) ?_
    obtain ⟨kk_1, hk_2⟩ := pl_at hI.2.1.1.1 hI.2.2.2.1.1
    refine va_get (D := (dC, dI)) (ci := 10) (v := .int (k 0)) (C := RX11) (T := TX11) (N := 9) hx hb hts (by decide +kernel) hown hK hP kk_1 hk_2 rfl 3 (by decide) (hts (.fieldLink RX11 24 "PageOne" "itemCount" "I") (by decide +kernel)) (fun _ h9 => h9) rfl dX11_breachOn_37 ?_
    refine lv_topi (fun y_3 ey_3 => ?_)
    obtain rfl : y_3 = (nI K) := ey_3.trans (eK)
    refine lv_icmp_ge (tgt := 87) hx hb dX11_breachOn_40 (by decide) (fun c_4 => ?_) (fun c_4 => ?_)
    ·
      have hie : i = K := lp_eq rfl (by omega) hi c_4
      exact kx87 ls (by rw [hie] at hg; exact hg) (lv_sub hl [1, 2, 3] rfl)
    ·
      have hlt : i < K := lp_lt rfl (by omega) hi c_4
      refine lv_aload_n hx hb dX11_breachOn_43 rfl (lv_at hl 1 rfl) ?_
      obtain ⟨kk_5, hk_6⟩ := pl_at hI.2.1.1.1 hI.2.2.2.1.1
      refine va_get (D := (dC, dI)) (ci := 10) (v := .ref (d 2)) (C := RX11) (T := TX11) (N := 9) hx hb hts (by decide +kernel) hown hK hP kk_5 hk_6 rfl 2 (by decide) (hts (.fieldLink RX11 20 "PageOne" "items" "[LPageOne$Item;") (by decide +kernel)) (fun _ h9 => h9) rfl dX11_breachOn_44 ?_
      refine lv_iload_n hx hb dX11_breachOn_47 rfl (lv_at hl 0 rfl) ?_
      obtain ⟨g_7, hs_8, hn_9, hg_10⟩ := x_itm hI
      obtain ⟨kk_11, hk_12⟩ := pl_at hI.2.1.2.2.2.1.1 hs_8
      refine va_aldq hx hb hK hP kk_11 3 hk_12 rfl (vp_in_nI (by omega) (by decide)) dX11_breachOn_48 ?_
      obtain ⟨b_13, hg_14⟩ := hn_9 ((nI i) : Int32).toNatClampNeg (by rw [eK, nI_clamp (by omega), nI_clamp (by omega)]; exact hlt)
      have ht_15 := hg_10 ((nI i) : Int32).toNatClampNeg (vlt (vp_in_nI (by omega) (by decide))) b_13 hg_14
      rw [hg_14]
      refine W.eq (g2 := F0 m 49 ls [.ref b_13]) rfl ?_
      have hb_16 := rI_at hrp.2.2.1 hs_8 (by rw [eKn]; exact hlt) (by rw [nI_clamp (by omega)] at hg_14; exact hg_14)
      subst hb_16
      obtain ⟨rs_17, n_18, g_19, fg_20, hit_21, hs_22, hpa_23, hps_24, h1_25, h6_26, hcb_27, hpl_28, hlg_29, hnn_30, hfa_31, hfs_32, hfe_33, hrs_34, hkt_35⟩ := it_all hI hrp.2.2.1 (by rw [eKn]; exact hlt)
      refine lv_iload_n hx hb dX11_breachOn_49 rfl (lv_at hl 2 rfl) ?_
      refine w_cut (X := fun R cells slots Q args => ∀ r : Int32, (r = (bP (onP u i p0))) → W p l e R s m args below meth c H locs cells slots Q (F0 m 53 ls (.int r :: []))) ?_ (fun kC => ?_)
      ·
        intro r hw
        obtain rfl : r = (bP (onP u i p0)) := hw
        refine lv_if_eq (tgt := 81) hx hb dX11_breachOn_53 (by decide) (fun c_131 => ?_) (fun c_131 => ?_)
        ·
          refine lv_iinc (v := (nI (i + 1))) (lv' := [(3, .int (nI (i + 1))), (0, .ref h0), (1, .int p0), (2, .int p1)]) hx hb dX11_breachOn_81 hl (k := 0) rfl (nI_1 i) (by decide) rfl (fun ls hl => ?_)
          refine lv_goto (tgt := 35) hx hb dX11_breachOn_84 (by decide) ?_
          exact ih (i + 1) ls (by omega) (by omega) (fun j hj => by rcases Nat.lt_succ_iff_lt_or_eq.mp hj with h9 | h9; exact hg j h9; subst h9; exact fun h8 => bP_0 c_131 h8.1) (lv_sub hl [0, 1, 2, 3] rfl)
        ·
          refine lv_aload_n hx hb dX11_breachOn_56 rfl (lv_at hl 1 rfl) ?_
          refine lv_aload_n hx hb dX11_breachOn_57 rfl (lv_at hl 1 rfl) ?_
          obtain ⟨kk_132, hk_133⟩ := pl_at hI.2.1.1.1 hI.2.2.2.1.1
          refine va_get (D := (dC, dI)) (ci := 10) (v := .ref (d 2)) (C := RX11) (T := TX11) (N := 9) hx hb hts (by decide +kernel) hown hK hP kk_132 hk_133 rfl 2 (by decide) (hts (.fieldLink RX11 20 "PageOne" "items" "[LPageOne$Item;") (by decide +kernel)) (fun _ h9 => h9) rfl dX11_breachOn_58 ?_
          refine lv_iload_n hx hb dX11_breachOn_61 rfl (lv_at hl 0 rfl) ?_
          obtain ⟨kk_134, hk_135⟩ := pl_at hI.2.1.2.2.2.1.1 hs_8
          refine va_aldq hx hb hK hP kk_134 3 hk_135 rfl (vp_in_nI (by omega) (by decide)) dX11_breachOn_62 ?_
          obtain ⟨b_136, hg_137⟩ := hn_9 ((nI i) : Int32).toNatClampNeg (by rw [eK, nI_clamp (by omega), nI_clamp (by omega)]; exact hlt)
          have ht_138 := hg_10 ((nI i) : Int32).toNatClampNeg (vlt (vp_in_nI (by omega) (by decide))) b_136 hg_137
          rw [hg_137]
          refine W.eq (g2 := F0 m 63 ls [.ref b_136, .ref h0]) rfl ?_
          have hb_139 := rI_at hrp.2.2.1 hs_8 (by rw [eKn]; exact hlt) (by rw [nI_clamp (by omega)] at hg_137; exact hg_137)
          subst hb_139
          obtain ⟨rs_140, n_141, g_142, fg_143, hit_144, hs_145, hpa_146, hps_147, h1_148, h6_149, hcb_150, hpl_151, hlg_152, hnn_153, hfa_154, hfs_155, hfe_156, hrs_157, hkt_158⟩ := it_all hI hrp.2.2.1 (by rw [eKn]; exact hlt)
          refine lv_iload_n hx hb dX11_breachOn_63 rfl (lv_at hl 3 rfl) ?_
          obtain ⟨kk_159, hk_160⟩ := pl_at hI.2.1.1.1 hI.2.2.2.1.1
          refine vp_callSi (va_runV (As := [.ref (d (2000 + i)), .int p1]) (rest := []) ⟨hx, hb, hml, hown, hts⟩ (y_failsAlone l dC dI q h0 d k z f hI p1 u hrp hk0 hk1 hk2 hk3 hpcI i (by rw [eKn]; exact hlt)) (cwV 2 hts gX11_breachOn_X11_failsAlone rfl rfl rfl (by decide +kernel) ⟨Nat.le_trans (Nat.le_of_ble_eq_true rfl) hRf, Nat.le_trans (Nat.le_of_ble_eq_true rfl) hRl⟩) ⟨px_fb, va_recv hK hP (ci := 10) (q0 := kk_159) rfl hk_160, fun U hU hW => ⟨rfl, px_to hU hW hP hK hN hXN⟩⟩ rfl rfl hl.1 rfl (lv_room (Nat.le_of_ble_eq_true rfl)) dX11_breachOn_64 ⟨hRc, hRs⟩).run (fun r hw => ?_)
          obtain rfl : r = (bP (faP u i p1)) := hw
          refine lv_if_eq (tgt := 81) hx hb dX11_breachOn_67 (by decide) (fun c_161 => ?_) (fun c_161 => ?_)
          ·
            refine lv_iinc (v := (nI (i + 1))) (lv' := [(3, .int (nI (i + 1))), (0, .ref h0), (1, .int p0), (2, .int p1)]) hx hb dX11_breachOn_81 hl (k := 0) rfl (nI_1 i) (by decide) rfl (fun ls hl => ?_)
            refine lv_goto (tgt := 35) hx hb dX11_breachOn_84 (by decide) ?_
            exact ih (i + 1) ls (by omega) (by omega) (fun j hj => by rcases Nat.lt_succ_iff_lt_or_eq.mp hj with h9 | h9; exact hg j h9; subst h9; exact fun h8 => bP_0 c_161 h8.2) (lv_sub hl [0, 1, 2, 3] rfl)
          ·
            exact kx70 _ ls ⟨hlt, ⟨bP_n c_131, bP_n c_161⟩, hg⟩ (lv_sub hl [0, 1, 2, 3] rfl)
      ·
        rcases x_tag hit_21 with ht9 | ht9 | ht9 | ht9 | ht9 | ht9
        ·
          obtain ⟨nu_36, kd_37, cn_38, pa_39, fa_40, l_41, m_42, hs_43, hs_44, hs_45, hs_46⟩ := x_ifl hI ht9
          obtain ⟨kk_47, hk_48⟩ := pl_at ht9.1 hs_43
          exact vp_callSi (va_runU (As := [.int p0]) (rest := []) ⟨hx, hb, hml, hown, hts⟩ (y_isOn l dC dI q h0 d k z f hI (d (2000 + i)) hit_21 (nI i) (u.2 4 i) (u.2 22 i) (d (3000 + i)) (d (4000 + i)) rs_17 hs_22 n_18 g_19 (pR u i) hpa_23 hps_24 h1_25 h6_26 hcb_27 hpl_28 p0) (va_cwU 1 hts gX11_breachOn_X4_isOn_u346X2 rfl rfl rfl rfl (by decide +kernel) ⟨Nat.le_trans (Nat.le_of_ble_eq_true rfl) hRf, Nat.le_trans (Nat.le_of_ble_eq_true rfl) hRl⟩) ⟨px_fb, va_recv hK hP (ci := 2) (q0 := kk_47) rfl hk_48, fun U hU hW => ⟨rfl, px_to hU hW hP hK hN hXN⟩⟩ rfl rfl hl.1 rfl (lv_room (Nat.le_of_ble_eq_true rfl)) dX11_breachOn_50 ⟨hRc, hRs⟩).run (fun r hw => kC r hw)
        ·
          obtain ⟨nu_49, kd_50, cn_51, pa_52, fa_53, o_54, w_55, y_56, hs_57, hs_58, hs_59, hs_60, hq_61⟩ := x_ihd hI ht9
          obtain ⟨kk_62, hk_63⟩ := pl_at ht9.1 hs_57
          exact vp_callSi (va_runU (As := [.int p0]) (rest := []) ⟨hx, hb, hml, hown, hts⟩ (y_isOn l dC dI q h0 d k z f hI (d (2000 + i)) hit_21 (nI i) (u.2 4 i) (u.2 22 i) (d (3000 + i)) (d (4000 + i)) rs_17 hs_22 n_18 g_19 (pR u i) hpa_23 hps_24 h1_25 h6_26 hcb_27 hpl_28 p0) (va_cwU 1 hts gX11_breachOn_X4_isOn_u346X3 rfl rfl rfl rfl (by decide +kernel) ⟨Nat.le_trans (Nat.le_of_ble_eq_true rfl) hRf, Nat.le_trans (Nat.le_of_ble_eq_true rfl) hRl⟩) ⟨px_fb, va_recv hK hP (ci := 3) (q0 := kk_62) rfl hk_63, fun U hU hW => ⟨rfl, px_to hU hW hP hK hN hXN⟩⟩ rfl rfl hl.1 rfl (lv_room (Nat.le_of_ble_eq_true rfl)) dX11_breachOn_50 ⟨hRc, hRs⟩).run (fun r hw => kC r hw)
        ·
          obtain ⟨nu_64, kd_65, cn_66, pa_67, fa_68, o_69, y_70, hs_71, hs_72, hs_73, hs_74, hq_75⟩ := x_ino hI ht9
          obtain ⟨kk_76, hk_77⟩ := pl_at ht9.1 hs_71
          exact vp_callSi (va_runU (As := [.int p0]) (rest := []) ⟨hx, hb, hml, hown, hts⟩ (y_isOn l dC dI q h0 d k z f hI (d (2000 + i)) hit_21 (nI i) (u.2 4 i) (u.2 22 i) (d (3000 + i)) (d (4000 + i)) rs_17 hs_22 n_18 g_19 (pR u i) hpa_23 hps_24 h1_25 h6_26 hcb_27 hpl_28 p0) (va_cwU 1 hts gX11_breachOn_X4_isOn_u346X5 rfl rfl rfl rfl (by decide +kernel) ⟨Nat.le_trans (Nat.le_of_ble_eq_true rfl) hRf, Nat.le_trans (Nat.le_of_ble_eq_true rfl) hRl⟩) ⟨px_fb, va_recv hK hP (ci := 4) (q0 := kk_76) rfl hk_77, fun U hU hW => ⟨rfl, px_to hU hW hP hK hN hXN⟩⟩ rfl rfl hl.1 rfl (lv_room (Nat.le_of_ble_eq_true rfl)) dX11_breachOn_50 ⟨hRc, hRs⟩).run (fun r hw => kC r hw)
        ·
          obtain ⟨nu_78, kd_79, cn_80, pa_81, fa_82, b_83, pr_84, sp_85, dy_86, hs_87, hs_88, hs_89, hs_90, hq_91, hq_92, hq_93⟩ := x_ipd hI ht9
          obtain ⟨kk_94, hk_95⟩ := pl_at ht9.1 hs_87
          exact vp_callSi (va_runU (As := [.int p0]) (rest := []) ⟨hx, hb, hml, hown, hts⟩ (y_isOn l dC dI q h0 d k z f hI (d (2000 + i)) hit_21 (nI i) (u.2 4 i) (u.2 22 i) (d (3000 + i)) (d (4000 + i)) rs_17 hs_22 n_18 g_19 (pR u i) hpa_23 hps_24 h1_25 h6_26 hcb_27 hpl_28 p0) (va_cwU 1 hts gX11_breachOn_X4_isOn_u346X6 rfl rfl rfl rfl (by decide +kernel) ⟨Nat.le_trans (Nat.le_of_ble_eq_true rfl) hRf, Nat.le_trans (Nat.le_of_ble_eq_true rfl) hRl⟩) ⟨px_fb, va_recv hK hP (ci := 5) (q0 := kk_94) rfl hk_95, fun U hU hW => ⟨rfl, px_to hU hW hP hK hN hXN⟩⟩ rfl rfl hl.1 rfl (lv_room (Nat.le_of_ble_eq_true rfl)) dX11_breachOn_50 ⟨hRc, hRs⟩).run (fun r hw => kC r hw)
        ·
          obtain ⟨nu_96, kd_97, cn_98, pa_99, fa_100, ww_101, hh_102, sz_103, hs_104, hs_105, hs_106, hs_107, hq_108, hq_109, hq_110⟩ := x_ipi hI ht9
          obtain ⟨kk_111, hk_112⟩ := pl_at ht9.1 hs_104
          exact vp_callSi (va_runU (As := [.int p0]) (rest := []) ⟨hx, hb, hml, hown, hts⟩ (y_isOn l dC dI q h0 d k z f hI (d (2000 + i)) hit_21 (nI i) (u.2 4 i) (u.2 22 i) (d (3000 + i)) (d (4000 + i)) rs_17 hs_22 n_18 g_19 (pR u i) hpa_23 hps_24 h1_25 h6_26 hcb_27 hpl_28 p0) (va_cwU 1 hts gX11_breachOn_X4_isOn_u346X7 rfl rfl rfl rfl (by decide +kernel) ⟨Nat.le_trans (Nat.le_of_ble_eq_true rfl) hRf, Nat.le_trans (Nat.le_of_ble_eq_true rfl) hRl⟩) ⟨px_fb, va_recv hK hP (ci := 6) (q0 := kk_111) rfl hk_112, fun U hU hW => ⟨rfl, px_to hU hW hP hK hN hXN⟩⟩ rfl rfl hl.1 rfl (lv_room (Nat.le_of_ble_eq_true rfl)) dX11_breachOn_50 ⟨hRc, hRs⟩).run (fun r hw => kC r hw)
        ·
          obtain ⟨nu_113, kd_114, cn_115, pa_116, fa_117, l_118, co_119, wd_120, nm_121, hs_122, hs_123, hs_124, hs_125, hq_126, hq_127, hq_128⟩ := x_ist hI ht9
          obtain ⟨kk_129, hk_130⟩ := pl_at ht9.1 hs_122
          exact vp_callSi (va_runU (As := [.int p0]) (rest := []) ⟨hx, hb, hml, hown, hts⟩ (y_isOn l dC dI q h0 d k z f hI (d (2000 + i)) hit_21 (nI i) (u.2 4 i) (u.2 22 i) (d (3000 + i)) (d (4000 + i)) rs_17 hs_22 n_18 g_19 (pR u i) hpa_23 hps_24 h1_25 h6_26 hcb_27 hpl_28 p0) (va_cwU 1 hts gX11_breachOn_X4_isOn_u346X10 rfl rfl rfl rfl (by decide +kernel) ⟨Nat.le_trans (Nat.le_of_ble_eq_true rfl) hRf, Nat.le_trans (Nat.le_of_ble_eq_true rfl) hRl⟩) ⟨px_fb, va_recv hK hP (ci := 9) (q0 := kk_129) rfl hk_130, fun U hU hW => ⟨rfl, px_to hU hW hP hK hN hXN⟩⟩ rfl rfl hl.1 rfl (lv_room (Nat.le_of_ble_eq_true rfl)) dX11_breachOn_50 ⟨hRc, hRs⟩).run (fun r hw => kC r hw)
set_option maxHeartbeats 4000000 in
set_option maxRecDepth 100000 in
theorem y_breachOn (l : Launch) (dC : Nat → ClassId) (dI : Nat → Nat → Nat) (q : Nat → ClassId) (h0 : Nat) (d : Nat → Nat) (k : Nat → Int32) (z : gS) (f : xF) (hI : xI q h0 d k z f) (p0 : Int32) (u : mS) (hrp : rep q d u z f) (hk0 : k 0 = u.1 3) (hk1 : k 1 = u.1 28) (hk2 : k 2 = u.1 38) (hk3 : k 3 = u.1 39) (hkB : kB u) (hpcI : pcI u) (sz : Nat) : Met l yX11_breachOn wsX11_breachOn ({ frames := 5, cells := 4, slots := 12, locals := 110 }) (va_Pc [.ref h0, .int p0] (fun U => U.heap.size = sz ∧ PX dC dI (va_pl z.1 f) (xT q) U ∧ va_D (fun _ => True) (va_pl z.1 f))) (va_Qq (fun (r : Option Nat) (w : xU) => brP q h0 d k z f u p0 r w) (fun (w : xU) t => va_P (dC, dI) vwCl (va_pl w.2.1.1 w.2.2) t.heap ∧ va_D (va_A (va_pl z.1 f) sz) (va_pl w.2.1.1 w.2.2)) (va_A (va_pl z.1 f) sz)) 4 12 (va_A (va_pl z.1 f) sz) := by
  refine Met.ofW (cc := cX11_breachOn) (maxL := 4) (ret := (some (.object "PageOne$Breach"))) (by decide) rfl ?_
  intro p e s m args below meth c s₁ B hml hv
  obtain ⟨rfl, hsz, ⟨⟨hP, hK, hN⟩, hXN⟩, hD0⟩ := hv
  have hx := B.exec
  have hb := B.bytes
  have hr := B.returns
  have hts := atoms_spec (ws := wsX11_breachOn) B.pre
  have hown : s.vm.findClass RX11 = some m.cls := findClass_of_methodNamed B.named
  have hlocks := B.notSynchronized
  subst hsz
  have hD := hD0.self (sz := s.heap.size)
  generalize hAe : va_A (va_pl z.1 f) s.heap.size = A at hD ⊢
  have hA : ∀ q : Nat, s.heap.size ≤ q → A q := fun q h => by rw [← hAe]; exact Or.inr h
  have hS : va_S A s.heap s.heap [] := va_S.rf
  have hl := lv_entry ([.ref h0, .int p0]) (n := 4) (Nat.le_of_ble_eq_true rfl)
  rw [lg_entry_eq]
  generalize (lg_sl ([.ref h0, .int p0]) ++ List.replicate (4 - (lg_sl ([.ref h0, .int p0])).length) Slot.unset).toArray = ls at hl ⊢
  have hl : lv_has ls 4 [(0, .ref h0), (1, .int p0)] := hl
  have h3m : f (d 3) = f (d 3) := rfl
  have hk1o := hk1
  refine lv_iconst (v := 1) hx hb dX11_breachOn_0 (by decide) ?_
  refine lv_istore_n (lv' := [(2, .int 1), (0, .ref h0), (1, .int p0)]) hx hb dX11_breachOn_1 rfl hl (by decide) rfl (fun ls hl => ?_)
  refine lv_iload_n hx hb dX11_breachOn_2 rfl (lv_at hl 0 rfl) ?_
  refine lv_iconst (v := 3) hx hb dX11_breachOn_3 (by decide) ?_
  refine lv_icmp_gt (tgt := 26) hx hb dX11_breachOn_4 (by decide) (fun c_1 => absurd c_1 (by decide)) (fun c_1 => ?_)
  refine lv_aload_n hx hb dX11_breachOn_7 rfl (lv_at hl 1 rfl) ?_
  refine lv_iload_n hx hb dX11_breachOn_8 rfl (lv_at hl 2 rfl) ?_
  refine lv_iload_n hx hb dX11_breachOn_9 rfl (lv_at hl 0 rfl) ?_
  obtain ⟨kk_2, hk_3⟩ := pl_at hI.2.1.1.1 hI.2.2.2.1.1
  have hFc := fr_all hD hS hA
  refine va_callq (va_runV (As := [.int p0, .int 1]) (rest := []) ⟨hx, hb, hml, hown, hts⟩ (y_leastPair l dC dI q h0 d k z f hI p0 1 u hrp hk0 hk1o hk2 hk3 hkB s.heap.size) (cwV 2 hts gX11_breachOn_X11_leastPair rfl rfl rfl (by decide +kernel) ⟨Nat.le_of_ble_eq_true rfl, Nat.le_of_ble_eq_true rfl⟩) ⟨gx_fb, va_recv hK hP (ci := 10) (q0 := kk_2) rfl hk_3, fun U hU hW => ⟨rfl, by rw [hU], px_to hU hW hP hK hN hXN, hD.weaken (fun _ _ _ _ => trivial)⟩⟩ rfl rfl hl.1 rfl (lv_room (Nat.le_of_ble_eq_true rfl)) dX11_breachOn_10 ⟨Nat.le_of_ble_eq_true rfl, Nat.le_of_ble_eq_true rfl⟩) hS (fun q _ h => hFc q h) hFc (fun r w_4 t H1 locs ht hvm hw hB hz1 hk1 hS => ?_)
  obtain ⟨hP, hD1⟩ := hB
  rw [ht] at hP
  have hD := hD1.weaken (fun _ q _ h => hFc q.1 h)
  generalize H1 = H at hP hS ⊢
  refine W.widen (k := 1) (n := 3) (Nat.le_of_ble_eq_true rfl) (Nat.le_of_ble_eq_true rfl) ?_
  rcases hw with ⟨hr9, hw, hnl1⟩ | ⟨b_5, ax_11, bx_12, hr9, -, hw2, hw3, hwr, hw9, hv_6, hv_7, hM_8⟩
  ·
    subst hr9
    subst hw
    have hP : va_P (dC, dI) vwCl (va_pl z.1 f) H := hP
    have hD : va_D A (va_pl z.1 f) := hD
    refine W.eq (g2 := F0 m 13 ls [.null]) rfl ?_
    refine lv_astore_nN (lv' := [(3, .null), (2, .int 1), (0, .ref h0), (1, .int p0)]) hx hb dX11_breachOn_13 rfl hl (by decide) rfl (fun ls hl => ?_)
    refine lv_aload_nN hx hb dX11_breachOn_14 rfl (lv_at hl 0 rfl) ?_
    refine lv_ifnullN (tgt := 20) hx hb dX11_breachOn_15 (by decide) ?_
    refine lv_iinc (v := 2) (lv' := [(2, .int 2), (3, .null), (0, .ref h0), (1, .int p0)]) hx hb dX11_breachOn_20 hl (k := 1) rfl (by decide) (by decide) rfl (fun ls hl => ?_)
    refine lv_goto (tgt := 2) hx hb dX11_breachOn_23 (by decide) ?_
    refine lv_iload_n hx hb dX11_breachOn_2 rfl (lv_at hl 0 rfl) ?_
    refine lv_iconst (v := 3) hx hb dX11_breachOn_3 (by decide) ?_
    refine lv_icmp_gt (tgt := 26) hx hb dX11_breachOn_4 (by decide) (fun c_17 => absurd c_17 (by decide)) (fun c_17 => ?_)
    refine lv_aload_n hx hb dX11_breachOn_7 rfl (lv_at hl 2 rfl) ?_
    refine lv_iload_n hx hb dX11_breachOn_8 rfl (lv_at hl 3 rfl) ?_
    refine lv_iload_n hx hb dX11_breachOn_9 rfl (lv_at hl 0 rfl) ?_
    obtain ⟨kk_18, hk_19⟩ := pl_at hI.2.1.1.1 hI.2.2.2.1.1
    have hFc := fr_all hD hS hA
    refine va_callq (va_runV (As := [.int p0, .int 2]) (rest := []) ⟨hx, hb, hml, hown, hts⟩ (y_leastPair l dC dI q h0 d k z f hI p0 2 u hrp hk0 hk1o hk2 hk3 hkB H.size) (cwV 2 hts gX11_breachOn_X11_leastPair rfl rfl rfl (by decide +kernel) ⟨Nat.le_of_ble_eq_true rfl, Nat.le_of_ble_eq_true rfl⟩) ⟨gx_fb, va_recv hK hP (ci := 10) (q0 := kk_18) rfl hk_19, fun U hU hW => ⟨rfl, by rw [hU], px_to hU hW hP hK hN hXN, hD.weaken (fun _ _ _ _ => trivial)⟩⟩ rfl rfl hl.1 rfl (lv_room (Nat.le_of_ble_eq_true rfl)) dX11_breachOn_10 ⟨Nat.le_of_ble_eq_true rfl, Nat.le_of_ble_eq_true rfl⟩) hS (fun q _ h => hFc q h) hFc (fun r w_20 t H1 locs ht hvm hw hB hz1 hk1 hS => ?_)
    obtain ⟨hP, hD1⟩ := hB
    rw [ht] at hP
    have hD := hD1.weaken (fun _ q _ h => hFc q.1 h)
    generalize H1 = H at hP hS ⊢
    refine W.widen (k := 2) (n := 6) (Nat.le_of_ble_eq_true rfl) (Nat.le_of_ble_eq_true rfl) ?_
    rcases hw with ⟨hr9, hw, hnl2⟩ | ⟨b_21, ax_27, bx_28, hr9, -, hw2, hw3, hwr, hw9, hv_22, hv_23, hM_24⟩
    ·
      subst hr9
      subst hw
      have hP : va_P (dC, dI) vwCl (va_pl z.1 f) H := hP
      have hD : va_D A (va_pl z.1 f) := hD
      refine W.eq (g2 := F0 m 13 ls [.null]) rfl ?_
      refine lv_astore_nN (lv' := [(3, .null), (2, .int 2), (0, .ref h0), (1, .int p0)]) hx hb dX11_breachOn_13 rfl hl (by decide) rfl (fun ls hl => ?_)
      refine lv_aload_nN hx hb dX11_breachOn_14 rfl (lv_at hl 0 rfl) ?_
      refine lv_ifnullN (tgt := 20) hx hb dX11_breachOn_15 (by decide) ?_
      refine lv_iinc (v := 3) (lv' := [(2, .int 3), (3, .null), (0, .ref h0), (1, .int p0)]) hx hb dX11_breachOn_20 hl (k := 1) rfl (by decide) (by decide) rfl (fun ls hl => ?_)
      refine lv_goto (tgt := 2) hx hb dX11_breachOn_23 (by decide) ?_
      refine lv_iload_n hx hb dX11_breachOn_2 rfl (lv_at hl 0 rfl) ?_
      refine lv_iconst (v := 3) hx hb dX11_breachOn_3 (by decide) ?_
      refine lv_icmp_gt (tgt := 26) hx hb dX11_breachOn_4 (by decide) (fun c_33 => absurd c_33 (by decide)) (fun c_33 => ?_)
      refine lv_aload_n hx hb dX11_breachOn_7 rfl (lv_at hl 2 rfl) ?_
      refine lv_iload_n hx hb dX11_breachOn_8 rfl (lv_at hl 3 rfl) ?_
      refine lv_iload_n hx hb dX11_breachOn_9 rfl (lv_at hl 0 rfl) ?_
      obtain ⟨kk_34, hk_35⟩ := pl_at hI.2.1.1.1 hI.2.2.2.1.1
      have hFc := fr_all hD hS hA
      refine va_callq (va_runV (As := [.int p0, .int 3]) (rest := []) ⟨hx, hb, hml, hown, hts⟩ (y_leastPair l dC dI q h0 d k z f hI p0 3 u hrp hk0 hk1o hk2 hk3 hkB H.size) (cwV 2 hts gX11_breachOn_X11_leastPair rfl rfl rfl (by decide +kernel) ⟨Nat.le_of_ble_eq_true rfl, Nat.le_of_ble_eq_true rfl⟩) ⟨gx_fb, va_recv hK hP (ci := 10) (q0 := kk_34) rfl hk_35, fun U hU hW => ⟨rfl, by rw [hU], px_to hU hW hP hK hN hXN, hD.weaken (fun _ _ _ _ => trivial)⟩⟩ rfl rfl hl.1 rfl (lv_room (Nat.le_of_ble_eq_true rfl)) dX11_breachOn_10 ⟨Nat.le_of_ble_eq_true rfl, Nat.le_of_ble_eq_true rfl⟩) hS (fun q _ h => hFc q h) hFc (fun r w_36 t H1 locs ht hvm hw hB hz1 hk1 hS => ?_)
      obtain ⟨hP, hD1⟩ := hB
      rw [ht] at hP
      have hD := hD1.weaken (fun _ q _ h => hFc q.1 h)
      generalize H1 = H at hP hS ⊢
      refine W.widen (k := 3) (n := 9) (Nat.le_of_ble_eq_true rfl) (Nat.le_of_ble_eq_true rfl) ?_
      rcases hw with ⟨hr9, hw, hnl3⟩ | ⟨b_37, ax_43, bx_44, hr9, -, hw2, hw3, hwr, hw9, hv_38, hv_39, hM_40⟩
      ·
        subst hr9
        subst hw
        have hP : va_P (dC, dI) vwCl (va_pl z.1 f) H := hP
        have hD : va_D A (va_pl z.1 f) := hD
        refine W.eq (g2 := F0 m 13 ls [.null]) rfl ?_
        refine lv_astore_nN (lv' := [(3, .null), (2, .int 3), (0, .ref h0), (1, .int p0)]) hx hb dX11_breachOn_13 rfl hl (by decide) rfl (fun ls hl => ?_)
        refine lv_aload_nN hx hb dX11_breachOn_14 rfl (lv_at hl 0 rfl) ?_
        refine lv_ifnullN (tgt := 20) hx hb dX11_breachOn_15 (by decide) ?_
        refine lv_iinc (v := 4) (lv' := [(2, .int 4), (3, .null), (0, .ref h0), (1, .int p0)]) hx hb dX11_breachOn_20 hl (k := 1) rfl (by decide) (by decide) rfl (fun ls hl => ?_)
        refine lv_goto (tgt := 2) hx hb dX11_breachOn_23 (by decide) ?_
        refine lv_iload_n hx hb dX11_breachOn_2 rfl (lv_at hl 0 rfl) ?_
        refine lv_iconst (v := 3) hx hb dX11_breachOn_3 (by decide) ?_
        refine lv_icmp_gt (tgt := 26) hx hb dX11_breachOn_4 (by decide) (fun c_49 => ?_) (fun c_49 => absurd (by decide) c_49)
        refine lv_iconst (v := 4) hx hb dX11_breachOn_26 (by decide) ?_
        refine lv_istore_n (lv' := [(2, .int 4), (3, .null), (0, .ref h0), (1, .int p0)]) hx hb dX11_breachOn_27 rfl hl (by decide) rfl (fun ls hl => ?_)
        refine lv_iload_n hx hb dX11_breachOn_28 rfl (lv_at hl 0 rfl) ?_
        refine lv_iconst (v := 5) hx hb dX11_breachOn_29 (by decide) ?_
        refine lv_icmp_gt (tgt := 93) hx hb dX11_breachOn_30 (by decide) (fun c_50 => absurd c_50 (by decide)) (fun c_50 => ?_)
        refine lv_iconst (v := 0) hx hb dX11_breachOn_33 (by decide) ?_
        refine lv_istore_n (lv' := [(3, .int 0), (2, .int 4), (0, .ref h0), (1, .int p0)]) hx hb dX11_breachOn_34 rfl hl (by decide) rfl (fun ls hl => ?_)
        obtain ⟨K, hK8, -, eK⟩ := exN hI.1.1 (by decide)
        have h80 : (80 : Int32).toInt = 80 := rfl
        have eKn : (u.1 3).toNatClampNeg = K := by rw [← hk0, eK, nI_clamp (by omega)]
        refine y_br_l (K := K) hI hx hb hml hts hown hN hXN hK (Nat.le_of_ble_eq_true rfl) (Nat.le_of_ble_eq_true rfl) (Nat.le_of_ble_eq_true rfl) (Nat.le_of_ble_eq_true rfl) hP hrp hk0 hk1o hk2 hk3 (by omega) eK eKn hpcI (fun ls hns1 hl => ?_) (fun i9 ls hye hl => ?_) (K + 1) 0 ls (Nat.zero_le _) (by omega) (fun j hj => absurd hj (Nat.not_lt_zero _)) (lv_sub hl [0, 2, 3, 1] rfl)
        ·
          refine lv_iinc (v := 5) (lv' := [(2, .int 5), (0, .ref h0), (1, .int p0)]) hx hb dX11_breachOn_87 hl (k := 2) rfl (by decide) (by decide) rfl (fun ls hl => ?_)
          refine lv_goto (tgt := 28) hx hb dX11_breachOn_90 (by decide) ?_
          refine lv_iload_n hx hb dX11_breachOn_28 rfl (lv_at hl 0 rfl) ?_
          refine lv_iconst (v := 5) hx hb dX11_breachOn_29 (by decide) ?_
          refine lv_icmp_gt (tgt := 93) hx hb dX11_breachOn_30 (by decide) (fun c_51 => absurd c_51 (by decide)) (fun c_51 => ?_)
          refine lv_iconst (v := 0) hx hb dX11_breachOn_33 (by decide) ?_
          refine lv_istore_n (lv' := [(3, .int 0), (2, .int 5), (0, .ref h0), (1, .int p0)]) hx hb dX11_breachOn_34 rfl hl (by decide) rfl (fun ls hl => ?_)
          refine y_br_l (K := K) hI hx hb hml hts hown hN hXN hK (Nat.le_of_ble_eq_true rfl) (Nat.le_of_ble_eq_true rfl) (Nat.le_of_ble_eq_true rfl) (Nat.le_of_ble_eq_true rfl) hP hrp hk0 hk1o hk2 hk3 (by omega) eK eKn hpcI (fun ls hns2 hl => ?_) (fun i9 ls hye hl => ?_) (K + 1) 0 ls (Nat.zero_le _) (by omega) (fun j hj => absurd hj (Nat.not_lt_zero _)) (lv_sub hl [0, 2, 3, 1] rfl)
          ·
            refine lv_iinc (v := 6) (lv' := [(2, .int 6), (0, .ref h0), (1, .int p0)]) hx hb dX11_breachOn_87 hl (k := 2) rfl (by decide) (by decide) rfl (fun ls hl => ?_)
            refine lv_goto (tgt := 28) hx hb dX11_breachOn_90 (by decide) ?_
            refine lv_iload_n hx hb dX11_breachOn_28 rfl (lv_at hl 0 rfl) ?_
            refine lv_iconst (v := 5) hx hb dX11_breachOn_29 (by decide) ?_
            refine lv_icmp_gt (tgt := 93) hx hb dX11_breachOn_30 (by decide) (fun c_52 => ?_) (fun c_52 => absurd (by decide) c_52)
            refine va_new (ci := 1) (fs := [.int 0, .int 0, .int 0]) (C := RX1) (T := TX1) (N := 3) hx hb hts (by decide +kernel) tyX1 tyX1_ok hown (hts (.classLink RX11 202 RX1) (by decide +kernel)) (hts (.instantiable RX1 3) (by decide +kernel)) (hts (.initialized RX1) (by decide +kernel)) hK hP hD hS hA rfl nwX1 (Nat.le_of_ble_eq_true rfl) (Nat.le_of_ble_eq_true rfl) dX11_breachOn_93 (fun q_53 H hPn hDn hS => ?_)
            have hP := vaP_l hPn
            refine W.widen (k := 4) (n := 12) (Nat.le_of_ble_eq_true rfl) (Nat.le_of_ble_eq_true rfl) ?_
            refine lv_dup hx hb dX11_breachOn_96 rfl ?_
            refine lv_iconst (v := 0) hx hb dX11_breachOn_97 (by decide) ?_
            refine lv_iconst (v := (-1)) hx hb dX11_breachOn_98 (by decide) ?_
            refine lv_iconst (v := (-1)) hx hb dX11_breachOn_99 (by decide) ?_
            have hPc := vaP_r hPn
            have hDc := vaD_r hDn
            have hFc := fr_part hDn hS hA
            refine va_callv (va_runI (As := [.int 0, .int (-1), .int (-1)]) (rest := [.ref q_53]) ⟨hx, hb, hml, hown, hts⟩ (x_Breach l dC dI q_53 0 (-1) (-1) H.size) (cwI 3 hts gX11_breachOn_X1_init rfl rfl rfl (hts (.initialized RX1) (by decide +kernel)) (hts (.methodLink RX11 353 yX1_init) (by decide +kernel)) (hts (.instanceMethod yX1_init) (by decide +kernel)) rfl (by decide +kernel) ⟨Nat.le_of_ble_eq_true rfl, Nat.le_of_ble_eq_true rfl⟩) ⟨gw_fb, fun U hU hW => ⟨rfl, by rw [hU], pw_to hU hW hPc (hK.sub (tys' := []) [] rfl) hN, hDc.weaken (fun _ _ _ _ => trivial)⟩⟩ rfl rfl hl.1 rfl (lv_room (Nat.le_of_ble_eq_true rfl)) dX11_breachOn_100 ⟨Nat.le_of_ble_eq_true rfl, Nat.le_of_ble_eq_true rfl⟩) hS (fun q _ h => hFc q h) hFc (fun u9 t H1 locs ht hvm hw hB hz1 hk1 hS => ?_)
            obtain ⟨hP1, hD1⟩ := hB
            rw [ht] at hP1
            obtain ⟨hP, hD⟩ := va_joinQ (X := [(q_53, .inr (1, [.int 0, .int 0, .int 0]))]) (cx := [(q_53, .inr (1, [.int 0, .int 0, .int 0]))]) (wr := []) (w1 := [(q_53, .inr (1, [.int 0, .int (-1), .int (-1)]))]) (pl := va_pl z.1 f) (vaP_swap hPn) (vaD_rotR hDn) [0] [] rfl rfl rfl (fun i hi => absurd hi List.not_mem_nil) hk1 hFc hP1 hD1
            generalize H1 = H at hP hS ⊢
            obtain ⟨hnm_54, hP, hD⟩ := pushC hP hD
            obtain ⟨z_55, ez_55⟩ : ∃ y : gS, y = pz z q_53 (24, 0, []) := ⟨_, rfl⟩
            obtain ⟨f_56, ef_56⟩ : ∃ y : xF, y = va_up f q_53 (.inr (1, [.int 0, .int (-1), .int (-1)])) := ⟨_, rfl⟩
            have hE_57 : zE z z_55 := by rw [ez_55]; exact pz_E hnm_54 _
            have hI : xI q h0 d k z_55 f_56 := by rw [ez_55, ef_56]; exact x_push hI hnm_54 (Or.inr (by decide : (15 : Nat) < 24)) (cO_24 (by rw [pz_s]))
            rw [show z.1 ++ [q_53] = z_55.1 from by rw [ez_55]; rfl, ← ef_56] at hP hD
            have ht_58 : tg z_55 q_53 24 := by rw [ez_55]; exact pz_t _ _ _
            have hEz : zE z z_55 := zE_tr (zE_rf z) hE_57
            have h3m : f_56 (d 3) = f (d 3) := by rw [ef_56]; exact (up_o (fun e9 => hnm_54 (by rw [← e9]; exact hrp.2.2.2.2.2.2.2.1.1.1))).trans h3m
            have hrp_59 : rep q d u z_55 f_56 := by rw [ez_55, ef_56]; exact rep_grow hrp (pz_E hnm_54 _) (oK_push (fun _ _ => rfl) (zE_rf _) hnm_54)
            refine W.eq (g2 := F0 m 103 ls [.ref q_53]) rfl ?_
            have hbc_60 : f_56 q_53 = .inr (1, [.int 0, .int (-1), .int (-1)]) := by rw [ef_56]; exact up_s
            exact W.aret (v := .ref q_53) hx hb hr (Or.inl ⟨_, rfl⟩) (Or.inr ⟨_, rfl⟩) (fun t ht hW => ⟨⟨(some q_53), (k, z_55, f_56), rfl, ⟨q_53, _, _, _, rfl, rfl, hEz, hI, hrp_59, h3m, ht_58, hbc_60, Or.inr ⟨hnl1, Or.inr ⟨hnl2, Or.inr ⟨hnl3, Or.inr ⟨(fun i hi => hns1 i (by omega)), Or.inr ⟨(fun i hi => hns2 i (by omega)), rfl, rfl, rfl⟩⟩⟩⟩⟩⟩, by rw [ht]; exact hP, hD⟩, hS.F ht⟩) hS.2.2 dX11_breachOn_103
          ·
            refine va_new (ci := 1) (fs := [.int 0, .int 0, .int 0]) (C := RX1) (T := TX1) (N := 3) hx hb hts (by decide +kernel) tyX1 tyX1_ok hown (hts (.classLink RX11 202 RX1) (by decide +kernel)) (hts (.instantiable RX1 3) (by decide +kernel)) (hts (.initialized RX1) (by decide +kernel)) hK hP hD hS hA rfl nwX1 (Nat.le_of_ble_eq_true rfl) (Nat.le_of_ble_eq_true rfl) dX11_breachOn_70 (fun q_61 H hPn hDn hS => ?_)
            have hP := vaP_l hPn
            refine W.widen (k := 4) (n := 12) (Nat.le_of_ble_eq_true rfl) (Nat.le_of_ble_eq_true rfl) ?_
            refine lv_dup hx hb dX11_breachOn_73 rfl ?_
            refine lv_iload_n hx hb dX11_breachOn_74 rfl (lv_at hl 3 rfl) ?_
            refine lv_iload_n hx hb dX11_breachOn_75 rfl (lv_at hl 0 rfl) ?_
            refine lv_iconst (v := (-1)) hx hb dX11_breachOn_76 (by decide) ?_
            have hPc := vaP_r hPn
            have hDc := vaD_r hDn
            have hFc := fr_part hDn hS hA
            refine va_callv (va_runI (As := [.int 5, .int (nI i9), .int (-1)]) (rest := [.ref q_61]) ⟨hx, hb, hml, hown, hts⟩ (x_Breach l dC dI q_61 5 (nI i9) (-1) H.size) (cwI 3 hts gX11_breachOn_X1_init rfl rfl rfl (hts (.initialized RX1) (by decide +kernel)) (hts (.methodLink RX11 353 yX1_init) (by decide +kernel)) (hts (.instanceMethod yX1_init) (by decide +kernel)) rfl (by decide +kernel) ⟨Nat.le_of_ble_eq_true rfl, Nat.le_of_ble_eq_true rfl⟩) ⟨gw_fb, fun U hU hW => ⟨rfl, by rw [hU], pw_to hU hW hPc (hK.sub (tys' := []) [] rfl) hN, hDc.weaken (fun _ _ _ _ => trivial)⟩⟩ rfl rfl hl.1 rfl (lv_room (Nat.le_of_ble_eq_true rfl)) dX11_breachOn_77 ⟨Nat.le_of_ble_eq_true rfl, Nat.le_of_ble_eq_true rfl⟩) hS (fun q _ h => hFc q h) hFc (fun u9 t H1 locs ht hvm hw hB hz1 hk1 hS => ?_)
            obtain ⟨hP1, hD1⟩ := hB
            rw [ht] at hP1
            obtain ⟨hP, hD⟩ := va_joinQ (X := [(q_61, .inr (1, [.int 0, .int 0, .int 0]))]) (cx := [(q_61, .inr (1, [.int 0, .int 0, .int 0]))]) (wr := []) (w1 := [(q_61, .inr (1, [.int 5, .int (nI i9), .int (-1)]))]) (pl := va_pl z.1 f) (vaP_swap hPn) (vaD_rotR hDn) [0] [] rfl rfl rfl (fun i hi => absurd hi List.not_mem_nil) hk1 hFc hP1 hD1
            generalize H1 = H at hP hS ⊢
            obtain ⟨hnm_62, hP, hD⟩ := pushC hP hD
            obtain ⟨z_63, ez_63⟩ : ∃ y : gS, y = pz z q_61 (24, 0, []) := ⟨_, rfl⟩
            obtain ⟨f_64, ef_64⟩ : ∃ y : xF, y = va_up f q_61 (.inr (1, [.int 5, .int (nI i9), .int (-1)])) := ⟨_, rfl⟩
            have hE_65 : zE z z_63 := by rw [ez_63]; exact pz_E hnm_62 _
            have hI : xI q h0 d k z_63 f_64 := by rw [ez_63, ef_64]; exact x_push hI hnm_62 (Or.inr (by decide : (15 : Nat) < 24)) (cO_24 (by rw [pz_s]))
            rw [show z.1 ++ [q_61] = z_63.1 from by rw [ez_63]; rfl, ← ef_64] at hP hD
            have ht_66 : tg z_63 q_61 24 := by rw [ez_63]; exact pz_t _ _ _
            have hEz : zE z z_63 := zE_tr (zE_rf z) hE_65
            have h3m : f_64 (d 3) = f (d 3) := by rw [ef_64]; exact (up_o (fun e9 => hnm_62 (by rw [← e9]; exact hrp.2.2.2.2.2.2.2.1.1.1))).trans h3m
            have hrp_67 : rep q d u z_63 f_64 := by rw [ez_63, ef_64]; exact rep_grow hrp (pz_E hnm_62 _) (oK_push (fun _ _ => rfl) (zE_rf _) hnm_62)
            refine W.eq (g2 := F0 m 80 ls [.ref q_61]) rfl ?_
            have hbc_68 : f_64 q_61 = .inr (1, [.int 5, .int (nI i9), .int (-1)]) := by rw [ef_64]; exact up_s
            exact W.aret (v := .ref q_61) hx hb hr (Or.inl ⟨_, rfl⟩) (Or.inr ⟨_, rfl⟩) (fun t ht hW => ⟨⟨(some q_61), (k, z_63, f_64), rfl, ⟨q_61, _, _, _, rfl, rfl, hEz, hI, hrp_67, h3m, ht_66, hbc_68, Or.inr ⟨hnl1, Or.inr ⟨hnl2, Or.inr ⟨hnl3, Or.inr ⟨(fun i hi => hns1 i (by omega)), Or.inl ⟨rfl, rfl, i9, by omega, rfl, hye.2.1, hye.2.2⟩⟩⟩⟩⟩⟩, by rw [ht]; exact hP, hD⟩, hS.F ht⟩) hS.2.2 dX11_breachOn_80
        ·
          refine va_new (ci := 1) (fs := [.int 0, .int 0, .int 0]) (C := RX1) (T := TX1) (N := 3) hx hb hts (by decide +kernel) tyX1 tyX1_ok hown (hts (.classLink RX11 202 RX1) (by decide +kernel)) (hts (.instantiable RX1 3) (by decide +kernel)) (hts (.initialized RX1) (by decide +kernel)) hK hP hD hS hA rfl nwX1 (Nat.le_of_ble_eq_true rfl) (Nat.le_of_ble_eq_true rfl) dX11_breachOn_70 (fun q_69 H hPn hDn hS => ?_)
          have hP := vaP_l hPn
          refine W.widen (k := 4) (n := 12) (Nat.le_of_ble_eq_true rfl) (Nat.le_of_ble_eq_true rfl) ?_
          refine lv_dup hx hb dX11_breachOn_73 rfl ?_
          refine lv_iload_n hx hb dX11_breachOn_74 rfl (lv_at hl 3 rfl) ?_
          refine lv_iload_n hx hb dX11_breachOn_75 rfl (lv_at hl 0 rfl) ?_
          refine lv_iconst (v := (-1)) hx hb dX11_breachOn_76 (by decide) ?_
          have hPc := vaP_r hPn
          have hDc := vaD_r hDn
          have hFc := fr_part hDn hS hA
          refine va_callv (va_runI (As := [.int 4, .int (nI i9), .int (-1)]) (rest := [.ref q_69]) ⟨hx, hb, hml, hown, hts⟩ (x_Breach l dC dI q_69 4 (nI i9) (-1) H.size) (cwI 3 hts gX11_breachOn_X1_init rfl rfl rfl (hts (.initialized RX1) (by decide +kernel)) (hts (.methodLink RX11 353 yX1_init) (by decide +kernel)) (hts (.instanceMethod yX1_init) (by decide +kernel)) rfl (by decide +kernel) ⟨Nat.le_of_ble_eq_true rfl, Nat.le_of_ble_eq_true rfl⟩) ⟨gw_fb, fun U hU hW => ⟨rfl, by rw [hU], pw_to hU hW hPc (hK.sub (tys' := []) [] rfl) hN, hDc.weaken (fun _ _ _ _ => trivial)⟩⟩ rfl rfl hl.1 rfl (lv_room (Nat.le_of_ble_eq_true rfl)) dX11_breachOn_77 ⟨Nat.le_of_ble_eq_true rfl, Nat.le_of_ble_eq_true rfl⟩) hS (fun q _ h => hFc q h) hFc (fun u9 t H1 locs ht hvm hw hB hz1 hk1 hS => ?_)
          obtain ⟨hP1, hD1⟩ := hB
          rw [ht] at hP1
          obtain ⟨hP, hD⟩ := va_joinQ (X := [(q_69, .inr (1, [.int 0, .int 0, .int 0]))]) (cx := [(q_69, .inr (1, [.int 0, .int 0, .int 0]))]) (wr := []) (w1 := [(q_69, .inr (1, [.int 4, .int (nI i9), .int (-1)]))]) (pl := va_pl z.1 f) (vaP_swap hPn) (vaD_rotR hDn) [0] [] rfl rfl rfl (fun i hi => absurd hi List.not_mem_nil) hk1 hFc hP1 hD1
          generalize H1 = H at hP hS ⊢
          obtain ⟨hnm_70, hP, hD⟩ := pushC hP hD
          obtain ⟨z_71, ez_71⟩ : ∃ y : gS, y = pz z q_69 (24, 0, []) := ⟨_, rfl⟩
          obtain ⟨f_72, ef_72⟩ : ∃ y : xF, y = va_up f q_69 (.inr (1, [.int 4, .int (nI i9), .int (-1)])) := ⟨_, rfl⟩
          have hE_73 : zE z z_71 := by rw [ez_71]; exact pz_E hnm_70 _
          have hI : xI q h0 d k z_71 f_72 := by rw [ez_71, ef_72]; exact x_push hI hnm_70 (Or.inr (by decide : (15 : Nat) < 24)) (cO_24 (by rw [pz_s]))
          rw [show z.1 ++ [q_69] = z_71.1 from by rw [ez_71]; rfl, ← ef_72] at hP hD
          have ht_74 : tg z_71 q_69 24 := by rw [ez_71]; exact pz_t _ _ _
          have hEz : zE z z_71 := zE_tr (zE_rf z) hE_73
          have h3m : f_72 (d 3) = f (d 3) := by rw [ef_72]; exact (up_o (fun e9 => hnm_70 (by rw [← e9]; exact hrp.2.2.2.2.2.2.2.1.1.1))).trans h3m
          have hrp_75 : rep q d u z_71 f_72 := by rw [ez_71, ef_72]; exact rep_grow hrp (pz_E hnm_70 _) (oK_push (fun _ _ => rfl) (zE_rf _) hnm_70)
          refine W.eq (g2 := F0 m 80 ls [.ref q_69]) rfl ?_
          have hbc_76 : f_72 q_69 = .inr (1, [.int 4, .int (nI i9), .int (-1)]) := by rw [ef_72]; exact up_s
          exact W.aret (v := .ref q_69) hx hb hr (Or.inl ⟨_, rfl⟩) (Or.inr ⟨_, rfl⟩) (fun t ht hW => ⟨⟨(some q_69), (k, z_71, f_72), rfl, ⟨q_69, _, _, _, rfl, rfl, hEz, hI, hrp_75, h3m, ht_74, hbc_76, Or.inr ⟨hnl1, Or.inr ⟨hnl2, Or.inr ⟨hnl3, Or.inl ⟨rfl, rfl, i9, by omega, rfl, hye.2.1, hye.2.2⟩⟩⟩⟩⟩, by rw [ht]; exact hP, hD⟩, hS.F ht⟩) hS.2.2 dX11_breachOn_80
      ·
        subst hr9
        obtain ⟨k_47, z_45, f_46⟩ := w_36
        have hP : va_P (dC, dI) vwCl (va_pl z_45.1 f_46) H := hP
        have hD : va_D A (va_pl z_45.1 f_46) := hD
        have hE_48 : zE z z_45 := hw2
        have hI : xI q h0 d k z_45 f_46 := hw3
        have hEz : zE z z_45 := zE_tr (zE_rf z) hE_48
        have ht_41 : tg z_45 b_37 24 := hv_38
        have hbc_42 : f_46 b_37 = .inr (1, [.int 3, .int (nI ax_43), .int (nI bx_44)]) := hv_39
        have hrpx : rep q d u z_45 f_46 := hwr
        have h3m : f_46 (d 3) = f (d 3) := hw9.trans h3m
        refine W.eq (g2 := F0 m 13 ls [.ref b_37]) rfl ?_
        refine lv_astore_n (lv' := [(3, .ref b_37), (2, .int 3), (0, .ref h0), (1, .int p0)]) hx hb dX11_breachOn_13 rfl hl (by decide) rfl (fun ls hl => ?_)
        refine lv_aload_n hx hb dX11_breachOn_14 rfl (lv_at hl 0 rfl) ?_
        refine lv_ifnull hx hb dX11_breachOn_15 ?_
        refine lv_aload_n hx hb dX11_breachOn_18 rfl (lv_at hl 0 rfl) ?_
        refine W.widen (k := 4) (n := 12) (Nat.le_of_ble_eq_true rfl) (Nat.le_of_ble_eq_true rfl) ?_
        exact W.aret (v := .ref b_37) hx hb hr (Or.inl ⟨_, rfl⟩) (Or.inr ⟨_, rfl⟩) (fun t ht hW => ⟨⟨(some b_37), (k, z_45, f_46), rfl, ⟨b_37, _, _, _, rfl, rfl, hEz, hI, hrpx, h3m, ht_41, hbc_42, Or.inr ⟨hnl1, Or.inr ⟨hnl2, Or.inl ⟨rfl, ax_43, bx_44, rfl, rfl, hM_40⟩⟩⟩⟩, by rw [ht]; exact hP, hD⟩, hS.F ht⟩) hS.2.2 dX11_breachOn_19
    ·
      subst hr9
      obtain ⟨k_31, z_29, f_30⟩ := w_20
      have hP : va_P (dC, dI) vwCl (va_pl z_29.1 f_30) H := hP
      have hD : va_D A (va_pl z_29.1 f_30) := hD
      have hE_32 : zE z z_29 := hw2
      have hI : xI q h0 d k z_29 f_30 := hw3
      have hEz : zE z z_29 := zE_tr (zE_rf z) hE_32
      have ht_25 : tg z_29 b_21 24 := hv_22
      have hbc_26 : f_30 b_21 = .inr (1, [.int 2, .int (nI ax_27), .int (nI bx_28)]) := hv_23
      have hrpx : rep q d u z_29 f_30 := hwr
      have h3m : f_30 (d 3) = f (d 3) := hw9.trans h3m
      refine W.eq (g2 := F0 m 13 ls [.ref b_21]) rfl ?_
      refine lv_astore_n (lv' := [(3, .ref b_21), (2, .int 2), (0, .ref h0), (1, .int p0)]) hx hb dX11_breachOn_13 rfl hl (by decide) rfl (fun ls hl => ?_)
      refine lv_aload_n hx hb dX11_breachOn_14 rfl (lv_at hl 0 rfl) ?_
      refine lv_ifnull hx hb dX11_breachOn_15 ?_
      refine lv_aload_n hx hb dX11_breachOn_18 rfl (lv_at hl 0 rfl) ?_
      refine W.widen (k := 4) (n := 12) (Nat.le_of_ble_eq_true rfl) (Nat.le_of_ble_eq_true rfl) ?_
      exact W.aret (v := .ref b_21) hx hb hr (Or.inl ⟨_, rfl⟩) (Or.inr ⟨_, rfl⟩) (fun t ht hW => ⟨⟨(some b_21), (k, z_29, f_30), rfl, ⟨b_21, _, _, _, rfl, rfl, hEz, hI, hrpx, h3m, ht_25, hbc_26, Or.inr ⟨hnl1, Or.inl ⟨rfl, ax_27, bx_28, rfl, rfl, hM_24⟩⟩⟩, by rw [ht]; exact hP, hD⟩, hS.F ht⟩) hS.2.2 dX11_breachOn_19
  ·
    subst hr9
    obtain ⟨k_15, z_13, f_14⟩ := w_4
    have hP : va_P (dC, dI) vwCl (va_pl z_13.1 f_14) H := hP
    have hD : va_D A (va_pl z_13.1 f_14) := hD
    have hE_16 : zE z z_13 := hw2
    have hI : xI q h0 d k z_13 f_14 := hw3
    have hEz : zE z z_13 := zE_tr (zE_rf z) hE_16
    have ht_9 : tg z_13 b_5 24 := hv_6
    have hbc_10 : f_14 b_5 = .inr (1, [.int 1, .int (nI ax_11), .int (nI bx_12)]) := hv_7
    have hrpx : rep q d u z_13 f_14 := hwr
    have h3m : f_14 (d 3) = f (d 3) := hw9.trans h3m
    refine W.eq (g2 := F0 m 13 ls [.ref b_5]) rfl ?_
    refine lv_astore_n (lv' := [(3, .ref b_5), (2, .int 1), (0, .ref h0), (1, .int p0)]) hx hb dX11_breachOn_13 rfl hl (by decide) rfl (fun ls hl => ?_)
    refine lv_aload_n hx hb dX11_breachOn_14 rfl (lv_at hl 0 rfl) ?_
    refine lv_ifnull hx hb dX11_breachOn_15 ?_
    refine lv_aload_n hx hb dX11_breachOn_18 rfl (lv_at hl 0 rfl) ?_
    refine W.widen (k := 4) (n := 12) (Nat.le_of_ble_eq_true rfl) (Nat.le_of_ble_eq_true rfl) ?_
    exact W.aret (v := .ref b_5) hx hb hr (Or.inl ⟨_, rfl⟩) (Or.inr ⟨_, rfl⟩) (fun t ht hW => ⟨⟨(some b_5), (k, z_13, f_14), rfl, ⟨b_5, _, _, _, rfl, rfl, hEz, hI, hrpx, h3m, ht_9, hbc_10, Or.inl ⟨rfl, ax_11, bx_12, rfl, rfl, hM_8⟩⟩, by rw [ht]; exact hP, hD⟩, hS.F ht⟩) hS.2.2 dX11_breachOn_19
def bkP (q : Nat → ClassId) (h0 : Nat) (d : Nat → Nat) (k : Nat → Int32) (z : gS) (f : xF) (u : mS) (p wh r : Int32) (w : xU) : Prop := ((¬ bw p 0 11 = true ∨ ¬ bw wh 0 2 = true) ∧ r = (-1) ∧ w = (k, z, f)) ∨ (bw p 0 11 = true ∧ bw wh 0 2 = true ∧ ∃ x y t, brM u p x y t ∧ r = (if wh = 0 then x else if wh = 1 then y else t) ∧ w.1 = k ∧ zE z w.2.1 ∧ xI q h0 d k w.2.1 w.2.2 ∧ rep q d u w.2.1 w.2.2 ∧ w.2.2 (d 3) = f (d 3))
set_option maxHeartbeats 4000000 in
set_option maxRecDepth 100000 in
theorem y_broken (l : Launch) (dC : Nat → ClassId) (dI : Nat → Nat → Nat) (q : Nat → ClassId) (h0 : Nat) (d : Nat → Nat) (k : Nat → Int32) (z : gS) (f : xF) (hI : xI q h0 d k z f) (p0 p1 : Int32) (u : mS) (hrp : rep q d u z f) (hk0 : k 0 = u.1 3) (hk1 : k 1 = u.1 28) (hk2 : k 2 = u.1 38) (hk3 : k 3 = u.1 39) (hkB : kB u) (hpcI : pcI u) (sz : Nat) : Met l yX11_broken wsX11_broken ({ frames := 6, cells := 4, slots := 12, locals := 133 }) (va_Pc [.ref h0, .int p0, .int p1] (fun U => U.heap.size = sz ∧ PX dC dI (va_pl z.1 f) (xT q) U ∧ va_D (fun _ => True) (va_pl z.1 f))) (va_Qi (fun (r : Int32) (w : xU) => bkP q h0 d k z f u p0 p1 r w) (fun (w : xU) t => va_P (dC, dI) vwCl (va_pl w.2.1.1 w.2.2) t.heap ∧ va_D (va_A (va_pl z.1 f) sz) (va_pl w.2.1.1 w.2.2)) (va_A (va_pl z.1 f) sz)) 4 12 (va_A (va_pl z.1 f) sz) := by
  refine Met.ofW (cc := cX11_broken) (maxL := 4) (ret := (some .int)) (by decide) rfl ?_
  intro p e s m args below meth c s₁ B hml hv
  obtain ⟨rfl, hsz, ⟨⟨hP, hK, hN⟩, hXN⟩, hD0⟩ := hv
  have hx := B.exec
  have hb := B.bytes
  have hr := B.returns
  have hts := atoms_spec (ws := wsX11_broken) B.pre
  have hown : s.vm.findClass RX11 = some m.cls := findClass_of_methodNamed B.named
  have hlocks := B.notSynchronized
  subst hsz
  have hD := hD0.self (sz := s.heap.size)
  generalize hAe : va_A (va_pl z.1 f) s.heap.size = A at hD ⊢
  have hA : ∀ q : Nat, s.heap.size ≤ q → A q := fun q h => by rw [← hAe]; exact Or.inr h
  have hS : va_S A s.heap s.heap [] := va_S.rf
  have hl := lv_entry ([.ref h0, .int p0, .int p1]) (n := 4) (Nat.le_of_ble_eq_true rfl)
  rw [lg_entry_eq]
  generalize (lg_sl ([.ref h0, .int p0, .int p1]) ++ List.replicate (4 - (lg_sl ([.ref h0, .int p0, .int p1])).length) Slot.unset).toArray = ls at hl ⊢
  have hl : lv_has ls 4 [(0, .ref h0), (1, .int p0), (2, .int p1)] := hl
  refine lv_iload_n hx hb dX11_broken_0 rfl (lv_at hl 1 rfl) ?_
  refine vp_callSi (va_runS (As := [.int p0]) (rest := []) ⟨hx, hb, hml, hown, hts⟩ (x_isPage l dC dI p0) (va_cwS 1 hts gX11_broken_X11_isPage rfl rfl rfl (by decide +kernel) ⟨Nat.le_of_ble_eq_true rfl, Nat.le_of_ble_eq_true rfl⟩) ⟨pw_fb, fun U hU hW => ⟨rfl, pw_to hU hW (hP.sub (ws' := []) [] rfl) (hK.sub (tys' := []) [] rfl) hN⟩⟩ rfl rfl hl.1 rfl (lv_room (Nat.le_of_ble_eq_true rfl)) dX11_broken_1 ⟨Nat.le_of_ble_eq_true rfl, Nat.le_of_ble_eq_true rfl⟩).run (fun r hw => ?_)
  rcases Bool.eq_false_or_eq_true (bw p0 0 11) with b_1 | b_1
  ·
    obtain rfl : r = 1 := b_t hw b_1
    refine lv_if_eq (tgt := 16) hx hb dX11_broken_4 (by decide) (fun c_2 => absurd c_2 (by decide)) (fun c_2 => ?_)
    refine lv_iload_n hx hb dX11_broken_7 rfl (lv_at hl 2 rfl) ?_
    refine lv_iconst (v := 0) hx hb dX11_broken_8 (by decide) ?_
    refine lv_iconst (v := 2) hx hb dX11_broken_9 (by decide) ?_
    refine vp_callSi (va_runS (As := [.int p1, .int 0, .int 2]) (rest := []) ⟨hx, hb, hml, hown, hts⟩ (x_isWithin l dC dI p1 0 2) (va_cwS 3 hts gX11_broken_X11_isWithin rfl rfl rfl (by decide +kernel) ⟨Nat.le_of_ble_eq_true rfl, Nat.le_of_ble_eq_true rfl⟩) ⟨pw_fb, fun U hU hW => ⟨rfl, pw_to hU hW (hP.sub (ws' := []) [] rfl) (hK.sub (tys' := []) [] rfl) hN⟩⟩ rfl rfl hl.1 rfl (lv_room (Nat.le_of_ble_eq_true rfl)) dX11_broken_10 ⟨Nat.le_of_ble_eq_true rfl, Nat.le_of_ble_eq_true rfl⟩).run (fun r hw => ?_)
    rcases Bool.eq_false_or_eq_true (bw p1 0 2) with b_3 | b_3
    ·
      obtain rfl : r = 1 := b_t hw b_3
      refine lv_if_ne (tgt := 18) hx hb dX11_broken_13 (by decide) (fun c_4 => ?_) (fun c_4 => absurd c_4 (by decide))
      refine lv_aload_n hx hb dX11_broken_18 rfl (lv_at hl 0 rfl) ?_
      refine lv_iload_n hx hb dX11_broken_19 rfl (lv_at hl 1 rfl) ?_
      obtain ⟨kk_5, hk_6⟩ := pl_at hI.2.1.1.1 hI.2.2.2.1.1
      have hFc := fr_all hD hS hA
      refine va_callq (va_runV (As := [.int p0]) (rest := []) ⟨hx, hb, hml, hown, hts⟩ (y_breachOn l dC dI q h0 d k z f hI p0 u hrp hk0 hk1 hk2 hk3 hkB hpcI s.heap.size) (cwV 1 hts gX11_broken_X11_breachOn rfl rfl rfl (by decide +kernel) ⟨Nat.le_of_ble_eq_true rfl, Nat.le_of_ble_eq_true rfl⟩) ⟨gx_fb, va_recv hK hP (ci := 10) (q0 := kk_5) rfl hk_6, fun U hU hW => ⟨rfl, by rw [hU], px_to hU hW hP hK hN hXN, hD.weaken (fun _ _ _ _ => trivial)⟩⟩ rfl rfl hl.1 rfl (lv_room (Nat.le_of_ble_eq_true rfl)) dX11_broken_20 ⟨Nat.le_of_ble_eq_true rfl, Nat.le_of_ble_eq_true rfl⟩) hS (fun q _ h => hFc q h) hFc (fun r w_7 t H1 locs ht hvm hw hB hz1 hk1 hS => ?_)
      obtain ⟨hP, hD1⟩ := hB
      rw [ht] at hP
      have hD := hD1.weaken (fun _ q _ h => hFc q.1 h)
      generalize H1 = H at hP hS ⊢
      refine W.widen (k := 4) (n := 12) (Nat.le_of_ble_eq_true rfl) (Nat.le_of_ble_eq_true rfl) ?_
      obtain ⟨b_8, bx_9, bx_10, bx_11, hr9, -, hw2, hw3, hwr, hw9, hv_12, hv_13, hbM⟩ := hw
      subst hr9
      obtain ⟨k_18, z_16, f_17⟩ := w_7
      have hP : va_P (dC, dI) vwCl (va_pl z_16.1 f_17) H := hP
      have hD : va_D A (va_pl z_16.1 f_17) := hD
      have hE_19 : zE z z_16 := hw2
      have hI : xI q h0 d k z_16 f_17 := hw3
      have hEz : zE z z_16 := zE_tr (zE_rf z) hE_19
      have ht_15 : tg z_16 b_8 24 := hv_12
      have hbc_14 : f_17 b_8 = .inr (1, [.int bx_9, .int bx_10, .int bx_11]) := hv_13
      have hrpx : rep q d u z_16 f_17 := hwr
      have h3m : f_17 (d 3) = f (d 3) := hw9
      refine W.eq (g2 := F0 m 23 ls [.ref b_8]) rfl ?_
      refine lv_astore_n (lv' := [(3, .ref b_8), (0, .ref h0), (1, .int p0), (2, .int p1)]) hx hb dX11_broken_23 rfl hl (by decide) rfl (fun ls hl => ?_)
      refine lv_iload_n hx hb dX11_broken_24 rfl (lv_at hl 3 rfl) ?_
      refine lv_if_ne (tgt := 33) hx hb dX11_broken_25 (by decide) (fun c_20 => ?_) (fun c_20 => ?_)
      ·
        refine lv_iload_n hx hb dX11_broken_33 rfl (lv_at hl 3 rfl) ?_
        refine lv_iconst (v := 1) hx hb dX11_broken_34 (by decide) ?_
        refine lv_icmp_ne (tgt := 45) hx hb dX11_broken_35 (by decide) (fun c_21 => ?_) (fun c_21 => ?_)
        ·
          refine lv_aload_n hx hb dX11_broken_45 rfl (lv_at hl 0 rfl) ?_
          obtain ⟨kk_22, hk_23⟩ := pl_at ht_15.1 hbc_14
          refine va_get (D := (dC, dI)) (ci := 1) (v := .int bx_11) (C := RX1) (T := TX1) (N := 3) hx hb hts (by decide +kernel) hown hK hP kk_22 hk_23 rfl 2 (by decide) (hts (.fieldLink RX11 269 "PageOne$Breach" "other" "I") (by decide +kernel)) (fun _ h9 => h9) rfl dX11_broken_46 ?_
          exact W.iret (v := bx_11) hx hb hr (fun t ht hW => ⟨⟨bx_11, (k, z_16, f_17), rfl, (Or.inr ⟨b_1, b_3, bx_9, bx_10, bx_11, hbM, ((if_neg c_20).trans (if_neg c_21)).symm, rfl, hEz, hI, hrpx, h3m⟩), by rw [ht]; exact hP, hD⟩, hS.F ht⟩) hS.2.2 dX11_broken_49
        ·
          refine lv_aload_n hx hb dX11_broken_38 rfl (lv_at hl 0 rfl) ?_
          obtain ⟨kk_24, hk_25⟩ := pl_at ht_15.1 hbc_14
          refine va_get (D := (dC, dI)) (ci := 1) (v := .int bx_10) (C := RX1) (T := TX1) (N := 3) hx hb hts (by decide +kernel) hown hK hP kk_24 hk_25 rfl 1 (by decide) (hts (.fieldLink RX11 266 "PageOne$Breach" "first" "I") (by decide +kernel)) (fun _ h9 => h9) rfl dX11_broken_39 ?_
          refine lv_goto (tgt := 49) hx hb dX11_broken_42 (by decide) ?_
          exact W.iret (v := bx_10) hx hb hr (fun t ht hW => ⟨⟨bx_10, (k, z_16, f_17), rfl, (Or.inr ⟨b_1, b_3, bx_9, bx_10, bx_11, hbM, ((if_neg c_20).trans (if_pos c_21)).symm, rfl, hEz, hI, hrpx, h3m⟩), by rw [ht]; exact hP, hD⟩, hS.F ht⟩) hS.2.2 dX11_broken_49
      ·
        refine lv_aload_n hx hb dX11_broken_28 rfl (lv_at hl 0 rfl) ?_
        obtain ⟨kk_26, hk_27⟩ := pl_at ht_15.1 hbc_14
        refine va_get (D := (dC, dI)) (ci := 1) (v := .int bx_9) (C := RX1) (T := TX1) (N := 3) hx hb hts (by decide +kernel) hown hK hP kk_26 hk_27 rfl 0 (by decide) (hts (.fieldLink RX11 201 "PageOne$Breach" "kind" "I") (by decide +kernel)) (fun _ h9 => h9) rfl dX11_broken_29 ?_
        exact W.iret (v := bx_9) hx hb hr (fun t ht hW => ⟨⟨bx_9, (k, z_16, f_17), rfl, (Or.inr ⟨b_1, b_3, bx_9, bx_10, bx_11, hbM, (if_pos c_20).symm, rfl, hEz, hI, hrpx, h3m⟩), by rw [ht]; exact hP, hD⟩, hS.F ht⟩) hS.2.2 dX11_broken_32
    ·
      obtain rfl : r = 0 := b_f hw b_3
      refine lv_if_ne (tgt := 18) hx hb dX11_broken_13 (by decide) (fun c_28 => absurd (by decide) c_28) (fun c_28 => ?_)
      refine lv_iconst (v := (-1)) hx hb dX11_broken_16 (by decide) ?_
      refine W.widen (k := 4) (n := 12) (Nat.le_of_ble_eq_true rfl) (Nat.le_of_ble_eq_true rfl) ?_
      exact W.iret (v := (-1)) hx hb hr (fun t ht hW => ⟨⟨(-1), (k, z, f), rfl, (Or.inl ⟨Or.inr (bne b_3), rfl, rfl⟩), by rw [ht]; exact hP, hD⟩, hS.F ht⟩) hS.2.2 dX11_broken_17
  ·
    obtain rfl : r = 0 := b_f hw b_1
    refine lv_if_eq (tgt := 16) hx hb dX11_broken_4 (by decide) (fun c_29 => ?_) (fun c_29 => absurd (by decide) c_29)
    refine lv_iconst (v := (-1)) hx hb dX11_broken_16 (by decide) ?_
    refine W.widen (k := 4) (n := 12) (Nat.le_of_ble_eq_true rfl) (Nat.le_of_ble_eq_true rfl) ?_
    exact W.iret (v := (-1)) hx hb hr (fun t ht hW => ⟨⟨(-1), (k, z, f), rfl, (Or.inl ⟨Or.inl (bne b_1), rfl, rfl⟩), by rw [ht]; exact hP, hD⟩, hS.F ht⟩) hS.2.2 dX11_broken_17
