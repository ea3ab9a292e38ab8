/-- an item on a page; two items that meet there -/
def onP (u : mS) (i : Nat) (p : Int32) : Prop := ∃ j, j < (u.2 22 i).toNatClampNeg ∧ pR u i j 0 = p
def mtP (u : mS) (i j : Nat) (p sw : Int32) : Prop := ∃ t, t < (u.2 22 i).toNatClampNeg ∧ s_mt (pR u i) (pR u j) (u.2 22 j) p sw t
def swA (kd : Int32) : Int32 := if kd = 3 then 1 else 0
def lpB (u : mS) (p kd : Int32) (a b : Nat) : Prop := mnP u a b kd ∧ mtP u a b p (swA kd)
def lpC (u : mS) (p kd : Int32) (a b : Nat) : Prop := onP u a p ∧ lpB u p kd a b
/-- the least pair -/
def lpM (u : mS) (p kd : Int32) (K a b : Nat) : Prop := a < b ∧ b < K ∧ lpC u p kd a b ∧ ∀ a' b', a' < b' → b' < K → (a' < a ∨ (a' = a ∧ b' < b)) → ¬ lpC u p kd a' b'
set_option maxHeartbeats 4000000 in
set_option maxRecDepth 100000 in
theorem y_lp_in {p : Program} {l : Launch} {e : Env} {R : Room} {s : State} {m : MethodId} {args : Array Value} {below : List Frame} {meth : Method} {c : Code} {Q : State → Prop} {cells slots : Nat} {dC : Nat → ClassId} {dI : Nat → Nat → Nat} {q : Nat → ClassId} {h0 : Nat} {d : Nat → Nat} {k : Nat → Int32} {z : gS} {f : xF} {H : Heap} {locs : List Loc} (hI : xI q h0 d k z f) (hx : p.tables.exec = Jvm.exec) (hb : c.code = cX11_leastPair) (hml : c.maxLocals = 5) (hts : ∀ w ∈ wsX11_leastPair, w.before args s = true) (hown : s.vm.findClass RX11 = some m.cls) (hN : NN s) (hXN : XN s) (hK : va_K (dC, dI) vwCl (xT q) s) (hRf : 3 ≤ R.frames) (hRl : 69 ≤ R.locals) (hRc : cells ≤ R.cells) (hRs : slots ≤ R.slots) (hP : va_P (dC, dI) vwCl (va_pl z.1 f) H) {u : mS} (hrp : rep q d u z f) (hk0 : k 0 = u.1 3) (hk1 : k 1 = u.1 28) (hk2 : k 2 = u.1 38) (hk3 : k 3 = u.1 39) {K : Nat} (hK8 : K ≤ 80) (eK : k 0 = nI K) (eKn : (u.1 3).toNatClampNeg = K) (hkB : kB u) {p0 p1 : Int32} {a9 : Nat} (ha9 : a9 < K) (kx109 : ∀ (ls : Array Slot), (∀ b, a9 < b → b < K → ¬ lpB u p0 p1 a9 b) → lv_has ls 5 [(3, .int (nI a9)), (0, .ref h0), (1, .int p0), (2, .int p1)] → W p l e R s m args below meth c H locs cells slots Q (F0 m 109 ls [])) (kx91 : ∀ (b9 : Nat) (ls : Array Slot), (a9 < b9 ∧ b9 < K ∧ lpB u p0 p1 a9 b9 ∧ (∀ b, a9 < b → b < b9 → ¬ lpB u p0 p1 a9 b)) → lv_has ls 5 [(4, .int (nI b9)), (3, .int (nI a9)), (0, .ref h0), (1, .int p0), (2, .int p1)] → W p l e R s m args below meth c H locs cells slots Q (F0 m 91 ls [])) : ∀ (kk i : Nat) (ls : Array Slot), i ≤ K → K - i < kk → (a9 < i ∧ (∀ b, a9 < b → b < i → ¬ lpB u p0 p1 a9 b)) → lv_has ls 5 [(4, .int (nI i)), (3, .int (nI a9)), (0, .ref h0), (1, .int p0), (2, .int p1)] → W p l e R s m args below meth c H locs cells slots Q (F0 m 31 ls []) := by
  intro kk
  induction kk with
  | zero => intro i ls h1 h2; exact absurd h2 (Nat.not_lt_zero _)
  | succ kk ih =>
    intro i ls hi hkk hg0 hl
    obtain ⟨hai, hg⟩ := hg0
    have hgl := hg
    refine lv_iload hx hb dX11_leastPair_31 (lv_at hl 0 rfl) ?_
    refine lv_aload_n hx hb dX11_leastPair_33 rfl (lv_at hl 2 rfl) ?_
    obtain ⟨kk_1, hk_2⟩ := pl_at hI.2.1.1.1 hI.2.2.2.1.1
    refine va_get (D := (dC, dI)) (ci := 10) (v := .int (k 0)) (C := RX11) (T := TX11) (N := 9) hx hb hts (by decide +kernel) hown hK hP kk_1 hk_2 rfl 3 (by decide) (hts (.fieldLink RX11 24 "PageOne" "itemCount" "I") (by decide +kernel)) (fun _ h9 => h9) rfl dX11_leastPair_34 ?_
    refine lv_topi (fun y_3 ey_3 => ?_)
    obtain rfl : y_3 = (nI K) := ey_3.trans (eK)
    refine lv_icmp_ge (tgt := 109) hx hb dX11_leastPair_37 (by decide) (fun c_4 => ?_) (fun c_4 => ?_)
    ·
      have hie : i = K := lp_eq rfl (by omega) hi c_4
      exact kx109 ls (by rw [hie] at hg; exact hg) (lv_sub hl [1, 2, 3, 4] rfl)
    ·
      have hlt : i < K := lp_lt rfl (by omega) hi c_4
      refine lv_aload_n hx hb dX11_leastPair_40 rfl (lv_at hl 2 rfl) ?_
      refine lv_aload_n hx hb dX11_leastPair_41 rfl (lv_at hl 2 rfl) ?_
      obtain ⟨kk_5, hk_6⟩ := pl_at hI.2.1.1.1 hI.2.2.2.1.1
      refine va_get (D := (dC, dI)) (ci := 10) (v := .ref (d 2)) (C := RX11) (T := TX11) (N := 9) hx hb hts (by decide +kernel) hown hK hP kk_5 hk_6 rfl 2 (by decide) (hts (.fieldLink RX11 20 "PageOne" "items" "[LPageOne$Item;") (by decide +kernel)) (fun _ h9 => h9) rfl dX11_leastPair_42 ?_
      refine lv_iload_n hx hb dX11_leastPair_45 rfl (lv_at hl 1 rfl) ?_
      obtain ⟨g_7, hs_8, hn_9, hg_10⟩ := x_itm hI
      obtain ⟨kk_11, hk_12⟩ := pl_at hI.2.1.2.2.2.1.1 hs_8
      refine va_aldq hx hb hK hP kk_11 3 hk_12 rfl (vp_in_nI (by omega) (by decide)) dX11_leastPair_46 ?_
      obtain ⟨b_13, hg_14⟩ := hn_9 ((nI a9) : Int32).toNatClampNeg (by rw [eK, nI_clamp (by omega), nI_clamp (by omega)]; exact ha9)
      have ht_15 := hg_10 ((nI a9) : Int32).toNatClampNeg (vlt (vp_in_nI (by omega) (by decide))) b_13 hg_14
      rw [hg_14]
      refine W.eq (g2 := F0 m 47 ls [.ref b_13, .ref h0]) rfl ?_
      have hb_16 := rI_at hrp.2.2.1 hs_8 (by rw [eKn]; exact ha9) (by rw [nI_clamp (by omega)] at hg_14; exact hg_14)
      subst hb_16
      obtain ⟨rs_17, n_18, g_19, fg_20, hit_21, hs_22, hpa_23, hps_24, h1_25, h6_26, hcb_27, hpl_28, hlg_29, hnn_30, hfa_31, hfs_32, hfe_33, hrs_34, hkt_35⟩ := it_all hI hrp.2.2.1 (by rw [eKn]; exact ha9)
      refine lv_aload_n hx hb dX11_leastPair_47 rfl (lv_at hl 2 rfl) ?_
      obtain ⟨kk_36, hk_37⟩ := pl_at hI.2.1.1.1 hI.2.2.2.1.1
      refine va_get (D := (dC, dI)) (ci := 10) (v := .ref (d 2)) (C := RX11) (T := TX11) (N := 9) hx hb hts (by decide +kernel) hown hK hP kk_36 hk_37 rfl 2 (by decide) (hts (.fieldLink RX11 20 "PageOne" "items" "[LPageOne$Item;") (by decide +kernel)) (fun _ h9 => h9) rfl dX11_leastPair_48 ?_
      refine lv_iload hx hb dX11_leastPair_51 (lv_at hl 0 rfl) ?_
      obtain ⟨kk_38, hk_39⟩ := pl_at hI.2.1.2.2.2.1.1 hs_8
      refine va_aldq hx hb hK hP kk_38 3 hk_39 rfl (vp_in_nI (by omega) (by decide)) dX11_leastPair_53 ?_
      obtain ⟨b_40, hg_41⟩ := hn_9 ((nI i) : Int32).toNatClampNeg (by rw [eK, nI_clamp (by omega), nI_clamp (by omega)]; exact hlt)
      have ht_42 := hg_10 ((nI i) : Int32).toNatClampNeg (vlt (vp_in_nI (by omega) (by decide))) b_40 hg_41
      rw [hg_41]
      refine W.eq (g2 := F0 m 54 ls [.ref b_40, .ref (d (2000 + a9)), .ref h0]) rfl ?_
      have hb_43 := rI_at hrp.2.2.1 hs_8 (by rw [eKn]; exact hlt) (by rw [nI_clamp (by omega)] at hg_41; exact hg_41)
      subst hb_43
      obtain ⟨rs_44, n_45, g_46, fg_47, hit_48, hs_49, hpa_50, hps_51, h1_52, h6_53, hcb_54, hpl_55, hlg_56, hnn_57, hfa_58, hfs_59, hfe_60, hrs_61, hkt_62⟩ := it_all hI hrp.2.2.1 (by rw [eKn]; exact hlt)
      refine lv_iload_n hx hb dX11_leastPair_54 rfl (lv_at hl 4 rfl) ?_
      obtain ⟨kk_63, hk_64⟩ := pl_at hI.2.1.1.1 hI.2.2.2.1.1
      refine vp_callSi (va_runV (As := [.ref (d (2000 + a9)), .ref (d (2000 + i)), .int p1]) (rest := []) ⟨hx, hb, hml, hown, hts⟩ (y_mayNotMeet l dC dI q h0 d k z f hI p1 u hrp hk0 hk1 hk2 hk3 a9 i (by rw [eKn]; exact ha9) (by rw [eKn]; exact hlt) hkB) (cwV 3 hts gX11_leastPair_X11_mayNotMeet rfl rfl rfl (by decide +kernel) ⟨Nat.le_trans (Nat.le_of_ble_eq_true rfl) hRf, Nat.le_trans (Nat.le_of_ble_eq_true rfl) hRl⟩) ⟨px_fb, va_recv hK hP (ci := 10) (q0 := kk_63) rfl hk_64, fun U hU hW => ⟨rfl, px_to hU hW hP hK hN hXN⟩⟩ rfl rfl hl.1 rfl (lv_room (Nat.le_of_ble_eq_true rfl)) dX11_leastPair_55 ⟨hRc, hRs⟩).run (fun r hw => ?_)
      obtain rfl : r = (bP (mnP u a9 i p1)) := hw
      refine lv_if_eq (tgt := 103) hx hb dX11_leastPair_58 (by decide) (fun c_65 => ?_) (fun c_65 => ?_)
      ·
        refine lv_iinc (v := (nI (i + 1))) (lv' := [(4, .int (nI (i + 1))), (3, .int (nI a9)), (0, .ref h0), (1, .int p0), (2, .int p1)]) hx hb dX11_leastPair_103 hl (k := 0) rfl (nI_1 i) (by decide) rfl (fun ls hl => ?_)
        refine lv_goto (tgt := 31) hx hb dX11_leastPair_106 (by decide) ?_
        exact ih (i + 1) ls (by omega) (by omega) ⟨by omega, (fun b hb1 hb2 => by rcases Nat.lt_succ_iff_lt_or_eq.mp hb2 with h9 | h9; exact hgl b hb1 h9; rw [h9]; exact fun h8 => bP_0 c_65 h8.1)⟩ (lv_sub hl [0, 1, 2, 3, 4] rfl)
      ·
        refine lv_aload_n hx hb dX11_leastPair_61 rfl (lv_at hl 2 rfl) ?_
        obtain ⟨kk_66, hk_67⟩ := pl_at hI.2.1.1.1 hI.2.2.2.1.1
        refine va_get (D := (dC, dI)) (ci := 10) (v := .ref (d 2)) (C := RX11) (T := TX11) (N := 9) hx hb hts (by decide +kernel) hown hK hP kk_66 hk_67 rfl 2 (by decide) (hts (.fieldLink RX11 20 "PageOne" "items" "[LPageOne$Item;") (by decide +kernel)) (fun _ h9 => h9) rfl dX11_leastPair_62 ?_
        refine lv_iload_n hx hb dX11_leastPair_65 rfl (lv_at hl 1 rfl) ?_
        obtain ⟨kk_68, hk_69⟩ := pl_at hI.2.1.2.2.2.1.1 hs_8
        refine va_aldq hx hb hK hP kk_68 3 hk_69 rfl (vp_in_nI (by omega) (by decide)) dX11_leastPair_66 ?_
        obtain ⟨b_70, hg_71⟩ := hn_9 ((nI a9) : Int32).toNatClampNeg (by rw [eK, nI_clamp (by omega), nI_clamp (by omega)]; exact ha9)
        have ht_72 := hg_10 ((nI a9) : Int32).toNatClampNeg (vlt (vp_in_nI (by omega) (by decide))) b_70 hg_71
        rw [hg_71]
        refine W.eq (g2 := F0 m 67 ls [.ref b_70]) rfl ?_
        have hb_73 := rI_at hrp.2.2.1 hs_8 (by rw [eKn]; exact ha9) (by rw [nI_clamp (by omega)] at hg_71; exact hg_71)
        subst hb_73
        obtain ⟨rs_74, n_75, g_76, fg_77, hit_78, hs_79, hpa_80, hps_81, h1_82, h6_83, hcb_84, hpl_85, hlg_86, hnn_87, hfa_88, hfs_89, hfe_90, hrs_91, hkt_92⟩ := it_all hI hrp.2.2.1 (by rw [eKn]; exact ha9)
        refine lv_aload_n hx hb dX11_leastPair_67 rfl (lv_at hl 2 rfl) ?_
        obtain ⟨kk_93, hk_94⟩ := pl_at hI.2.1.1.1 hI.2.2.2.1.1
        refine va_get (D := (dC, dI)) (ci := 10) (v := .ref (d 2)) (C := RX11) (T := TX11) (N := 9) hx hb hts (by decide +kernel) hown hK hP kk_93 hk_94 rfl 2 (by decide) (hts (.fieldLink RX11 20 "PageOne" "items" "[LPageOne$Item;") (by decide +kernel)) (fun _ h9 => h9) rfl dX11_leastPair_68 ?_
        refine lv_iload hx hb dX11_leastPair_71 (lv_at hl 0 rfl) ?_
        obtain ⟨kk_95, hk_96⟩ := pl_at hI.2.1.2.2.2.1.1 hs_8
        refine va_aldq hx hb hK hP kk_95 3 hk_96 rfl (vp_in_nI (by omega) (by decide)) dX11_leastPair_73 ?_
        obtain ⟨b_97, hg_98⟩ := hn_9 ((nI i) : Int32).toNatClampNeg (by rw [eK, nI_clamp (by omega), nI_clamp (by omega)]; exact hlt)
        have ht_99 := hg_10 ((nI i) : Int32).toNatClampNeg (vlt (vp_in_nI (by omega) (by decide))) b_97 hg_98
        rw [hg_98]
        refine W.eq (g2 := F0 m 74 ls [.ref b_97, .ref (d (2000 + a9))]) rfl ?_
        have hb_100 := rI_at hrp.2.2.1 hs_8 (by rw [eKn]; exact hlt) (by rw [nI_clamp (by omega)] at hg_98; exact hg_98)
        subst hb_100
        obtain ⟨rs_101, n_102, g_103, fg_104, hit_105, hs_106, hpa_107, hps_108, h1_109, h6_110, hcb_111, hpl_112, hlg_113, hnn_114, hfa_115, hfs_116, hfe_117, hrs_118, hkt_119⟩ := it_all hI hrp.2.2.1 (by rw [eKn]; exact hlt)
        refine lv_iload_n hx hb dX11_leastPair_74 rfl (lv_at hl 3 rfl) ?_
        refine lv_iload_n hx hb dX11_leastPair_75 rfl (lv_at hl 4 rfl) ?_
        refine lv_iconst (v := 3) hx hb dX11_leastPair_76 (by decide) ?_
        refine lv_icmp_ne (tgt := 84) hx hb dX11_leastPair_77 (by decide) (fun c_120 => ?_) (fun c_120 => ?_)
        ·
          refine lv_iconst (v := 0) hx hb dX11_leastPair_84 (by decide) ?_
          refine w_cut (X := fun R cells slots Q args => ∀ r : Int32, (r = (bP (mtP u a9 i p0 0))) → W p l e R s m args below meth c H locs cells slots Q (F0 m 88 ls (.int r :: []))) ?_ (fun kC => ?_)
          ·
            intro r hw
            obtain rfl : r = (bP (mtP u a9 i p0 0)) := hw
            refine lv_if_eq (tgt := 103) hx hb dX11_leastPair_88 (by decide) (fun c_216 => ?_) (fun c_216 => ?_)
            ·
              refine lv_iinc (v := (nI (i + 1))) (lv' := [(4, .int (nI (i + 1))), (3, .int (nI a9)), (0, .ref h0), (1, .int p0), (2, .int p1)]) hx hb dX11_leastPair_103 hl (k := 0) rfl (nI_1 i) (by decide) rfl (fun ls hl => ?_)
              refine lv_goto (tgt := 31) hx hb dX11_leastPair_106 (by decide) ?_
              exact ih (i + 1) ls (by omega) (by omega) ⟨by omega, (fun b hb1 hb2 => by rcases Nat.lt_succ_iff_lt_or_eq.mp hb2 with h9 | h9; exact hgl b hb1 h9; rw [h9]; exact fun h8 => bP_0 c_216 (by have h7 := h8.2; rw [(show swA p1 = 0 from if_neg c_120)] at h7; exact h7))⟩ (lv_sub hl [0, 1, 2, 3, 4] rfl)
            ·
              exact kx91 _ ls ⟨hai, hlt, ⟨bP_n c_65, by rw [(show swA p1 = 0 from if_neg c_120)]; exact bP_n c_216⟩, hg⟩ (lv_sub hl [0, 1, 2, 3, 4] rfl)
          ·
            rcases x_tag hit_78 with ht9 | ht9 | ht9 | ht9 | ht9 | ht9
            ·
              obtain ⟨nu_121, kd_122, cn_123, pa_124, fa_125, l_126, m_127, hs_128, hs_129, hs_130, hs_131⟩ := x_ifl hI ht9
              obtain ⟨kk_132, hk_133⟩ := pl_at ht9.1 hs_128
              exact vp_callSi (va_runU (As := [.ref (d (2000 + i)), .int p0, .int 0]) (rest := []) ⟨hx, hb, hml, hown, hts⟩ (y_meets l dC dI q h0 d k z f hI (d (2000 + a9)) hit_78 (nI a9) (u.2 4 a9) (u.2 22 a9) (d (3000 + a9)) (d (4000 + a9)) rs_74 hs_79 n_75 g_76 (pR u a9) hpa_80 hps_81 h1_82 h6_83 hcb_84 hpl_85 (d (2000 + i)) hit_105 (nI i) (u.2 4 i) (u.2 22 i) (d (3000 + i)) (d (4000 + i)) rs_101 hs_106 n_102 g_103 (pR u i) hpa_107 hps_108 h1_109 h6_110 hcb_111 hpl_112 p0 0) (va_cwU 3 hts gX11_leastPair_X4_meets_u358X2 rfl rfl rfl rfl (by decide +kernel) ⟨Nat.le_trans (Nat.le_of_ble_eq_true rfl) hRf, Nat.le_trans (Nat.le_of_ble_eq_true rfl) hRl⟩) ⟨px_fb, va_recv hK hP (ci := 2) (q0 := kk_132) rfl hk_133, fun U hU hW => ⟨rfl, px_to hU hW hP hK hN hXN⟩⟩ rfl rfl hl.1 rfl (lv_room (Nat.le_of_ble_eq_true rfl)) dX11_leastPair_85 ⟨hRc, hRs⟩).run (fun r hw => kC r hw)
            ·
              obtain ⟨nu_134, kd_135, cn_136, pa_137, fa_138, o_139, w_140, y_141, hs_142, hs_143, hs_144, hs_145, hq_146⟩ := x_ihd hI ht9
              obtain ⟨kk_147, hk_148⟩ := pl_at ht9.1 hs_142
              exact vp_callSi (va_runU (As := [.ref (d (2000 + i)), .int p0, .int 0]) (rest := []) ⟨hx, hb, hml, hown, hts⟩ (y_meets l dC dI q h0 d k z f hI (d (2000 + a9)) hit_78 (nI a9) (u.2 4 a9) (u.2 22 a9) (d (3000 + a9)) (d (4000 + a9)) rs_74 hs_79 n_75 g_76 (pR u a9) hpa_80 hps_81 h1_82 h6_83 hcb_84 hpl_85 (d (2000 + i)) hit_105 (nI i) (u.2 4 i) (u.2 22 i) (d (3000 + i)) (d (4000 + i)) rs_101 hs_106 n_102 g_103 (pR u i) hpa_107 hps_108 h1_109 h6_110 hcb_111 hpl_112 p0 0) (va_cwU 3 hts gX11_leastPair_X4_meets_u358X3 rfl rfl rfl rfl (by decide +kernel) ⟨Nat.le_trans (Nat.le_of_ble_eq_true rfl) hRf, Nat.le_trans (Nat.le_of_ble_eq_true rfl) hRl⟩) ⟨px_fb, va_recv hK hP (ci := 3) (q0 := kk_147) rfl hk_148, fun U hU hW => ⟨rfl, px_to hU hW hP hK hN hXN⟩⟩ rfl rfl hl.1 rfl (lv_room (Nat.le_of_ble_eq_true rfl)) dX11_leastPair_85 ⟨hRc, hRs⟩).run (fun r hw => kC r hw)
            ·
              obtain ⟨nu_149, kd_150, cn_151, pa_152, fa_153, o_154, y_155, hs_156, hs_157, hs_158, hs_159, hq_160⟩ := x_ino hI ht9
              obtain ⟨kk_161, hk_162⟩ := pl_at ht9.1 hs_156
              exact vp_callSi (va_runU (As := [.ref (d (2000 + i)), .int p0, .int 0]) (rest := []) ⟨hx, hb, hml, hown, hts⟩ (y_meets l dC dI q h0 d k z f hI (d (2000 + a9)) hit_78 (nI a9) (u.2 4 a9) (u.2 22 a9) (d (3000 + a9)) (d (4000 + a9)) rs_74 hs_79 n_75 g_76 (pR u a9) hpa_80 hps_81 h1_82 h6_83 hcb_84 hpl_85 (d (2000 + i)) hit_105 (nI i) (u.2 4 i) (u.2 22 i) (d (3000 + i)) (d (4000 + i)) rs_101 hs_106 n_102 g_103 (pR u i) hpa_107 hps_108 h1_109 h6_110 hcb_111 hpl_112 p0 0) (va_cwU 3 hts gX11_leastPair_X4_meets_u358X5 rfl rfl rfl rfl (by decide +kernel) ⟨Nat.le_trans (Nat.le_of_ble_eq_true rfl) hRf, Nat.le_trans (Nat.le_of_ble_eq_true rfl) hRl⟩) ⟨px_fb, va_recv hK hP (ci := 4) (q0 := kk_161) rfl hk_162, fun U hU hW => ⟨rfl, px_to hU hW hP hK hN hXN⟩⟩ rfl rfl hl.1 rfl (lv_room (Nat.le_of_ble_eq_true rfl)) dX11_leastPair_85 ⟨hRc, hRs⟩).run (fun r hw => kC r hw)
            ·
              obtain ⟨nu_163, kd_164, cn_165, pa_166, fa_167, b_168, pr_169, sp_170, dy_171, hs_172, hs_173, hs_174, hs_175, hq_176, hq_177, hq_178⟩ := x_ipd hI ht9
              obtain ⟨kk_179, hk_180⟩ := pl_at ht9.1 hs_172
              exact vp_callSi (va_runU (As := [.ref (d (2000 + i)), .int p0, .int 0]) (rest := []) ⟨hx, hb, hml, hown, hts⟩ (y_meets l dC dI q h0 d k z f hI (d (2000 + a9)) hit_78 (nI a9) (u.2 4 a9) (u.2 22 a9) (d (3000 + a9)) (d (4000 + a9)) rs_74 hs_79 n_75 g_76 (pR u a9) hpa_80 hps_81 h1_82 h6_83 hcb_84 hpl_85 (d (2000 + i)) hit_105 (nI i) (u.2 4 i) (u.2 22 i) (d (3000 + i)) (d (4000 + i)) rs_101 hs_106 n_102 g_103 (pR u i) hpa_107 hps_108 h1_109 h6_110 hcb_111 hpl_112 p0 0) (va_cwU 3 hts gX11_leastPair_X4_meets_u358X6 rfl rfl rfl rfl (by decide +kernel) ⟨Nat.le_trans (Nat.le_of_ble_eq_true rfl) hRf, Nat.le_trans (Nat.le_of_ble_eq_true rfl) hRl⟩) ⟨px_fb, va_recv hK hP (ci := 5) (q0 := kk_179) rfl hk_180, fun U hU hW => ⟨rfl, px_to hU hW hP hK hN hXN⟩⟩ rfl rfl hl.1 rfl (lv_room (Nat.le_of_ble_eq_true rfl)) dX11_leastPair_85 ⟨hRc, hRs⟩).run (fun r hw => kC r hw)
            ·
              obtain ⟨nu_181, kd_182, cn_183, pa_184, fa_185, ww_186, hh_187, sz_188, hs_189, hs_190, hs_191, hs_192, hq_193, hq_194, hq_195⟩ := x_ipi hI ht9
              obtain ⟨kk_196, hk_197⟩ := pl_at ht9.1 hs_189
              exact vp_callSi (va_runU (As := [.ref (d (2000 + i)), .int p0, .int 0]) (rest := []) ⟨hx, hb, hml, hown, hts⟩ (y_meets l dC dI q h0 d k z f hI (d (2000 + a9)) hit_78 (nI a9) (u.2 4 a9) (u.2 22 a9) (d (3000 + a9)) (d (4000 + a9)) rs_74 hs_79 n_75 g_76 (pR u a9) hpa_80 hps_81 h1_82 h6_83 hcb_84 hpl_85 (d (2000 + i)) hit_105 (nI i) (u.2 4 i) (u.2 22 i) (d (3000 + i)) (d (4000 + i)) rs_101 hs_106 n_102 g_103 (pR u i) hpa_107 hps_108 h1_109 h6_110 hcb_111 hpl_112 p0 0) (va_cwU 3 hts gX11_leastPair_X4_meets_u358X7 rfl rfl rfl rfl (by decide +kernel) ⟨Nat.le_trans (Nat.le_of_ble_eq_true rfl) hRf, Nat.le_trans (Nat.le_of_ble_eq_true rfl) hRl⟩) ⟨px_fb, va_recv hK hP (ci := 6) (q0 := kk_196) rfl hk_197, fun U hU hW => ⟨rfl, px_to hU hW hP hK hN hXN⟩⟩ rfl rfl hl.1 rfl (lv_room (Nat.le_of_ble_eq_true rfl)) dX11_leastPair_85 ⟨hRc, hRs⟩).run (fun r hw => kC r hw)
            ·
              obtain ⟨nu_198, kd_199, cn_200, pa_201, fa_202, l_203, co_204, wd_205, nm_206, hs_207, hs_208, hs_209, hs_210, hq_211, hq_212, hq_213⟩ := x_ist hI ht9
              obtain ⟨kk_214, hk_215⟩ := pl_at ht9.1 hs_207
              exact vp_callSi (va_runU (As := [.ref (d (2000 + i)), .int p0, .int 0]) (rest := []) ⟨hx, hb, hml, hown, hts⟩ (y_meets l dC dI q h0 d k z f hI (d (2000 + a9)) hit_78 (nI a9) (u.2 4 a9) (u.2 22 a9) (d (3000 + a9)) (d (4000 + a9)) rs_74 hs_79 n_75 g_76 (pR u a9) hpa_80 hps_81 h1_82 h6_83 hcb_84 hpl_85 (d (2000 + i)) hit_105 (nI i) (u.2 4 i) (u.2 22 i) (d (3000 + i)) (d (4000 + i)) rs_101 hs_106 n_102 g_103 (pR u i) hpa_107 hps_108 h1_109 h6_110 hcb_111 hpl_112 p0 0) (va_cwU 3 hts gX11_leastPair_X4_meets_u358X10 rfl rfl rfl rfl (by decide +kernel) ⟨Nat.le_trans (Nat.le_of_ble_eq_true rfl) hRf, Nat.le_trans (Nat.le_of_ble_eq_true rfl) hRl⟩) ⟨px_fb, va_recv hK hP (ci := 9) (q0 := kk_214) rfl hk_215, fun U hU hW => ⟨rfl, px_to hU hW hP hK hN hXN⟩⟩ rfl rfl hl.1 rfl (lv_room (Nat.le_of_ble_eq_true rfl)) dX11_leastPair_85 ⟨hRc, hRs⟩).run (fun r hw => kC r hw)
        ·
          refine lv_iconst (v := 1) hx hb dX11_leastPair_80 (by decide) ?_
          refine lv_goto (tgt := 85) hx hb dX11_leastPair_81 (by decide) ?_
          refine w_cut (X := fun R cells slots Q args => ∀ r : Int32, (r = (bP (mtP u a9 i p0 1))) → W p l e R s m args below meth c H locs cells slots Q (F0 m 88 ls (.int r :: []))) ?_ (fun kC => ?_)
          ·
            intro r hw
            obtain rfl : r = (bP (mtP u a9 i p0 1)) := hw
            refine lv_if_eq (tgt := 103) hx hb dX11_leastPair_88 (by decide) (fun c_312 => ?_) (fun c_312 => ?_)
            ·
              refine lv_iinc (v := (nI (i + 1))) (lv' := [(4, .int (nI (i + 1))), (3, .int (nI a9)), (0, .ref h0), (1, .int p0), (2, .int p1)]) hx hb dX11_leastPair_103 hl (k := 0) rfl (nI_1 i) (by decide) rfl (fun ls hl => ?_)
              refine lv_goto (tgt := 31) hx hb dX11_leastPair_106 (by decide) ?_
              exact ih (i + 1) ls (by omega) (by omega) ⟨by omega, (fun b hb1 hb2 => by rcases Nat.lt_succ_iff_lt_or_eq.mp hb2 with h9 | h9; exact hgl b hb1 h9; rw [h9]; exact fun h8 => bP_0 c_312 (by have h7 := h8.2; rw [(show swA p1 = 1 from if_pos c_120)] at h7; exact h7))⟩ (lv_sub hl [0, 1, 2, 3, 4] rfl)
            ·
              exact kx91 _ ls ⟨hai, hlt, ⟨bP_n c_65, by rw [(show swA p1 = 1 from if_pos c_120)]; exact bP_n c_312⟩, hg⟩ (lv_sub hl [0, 1, 2, 3, 4] rfl)
          ·
            rcases x_tag hit_78 with ht9 | ht9 | ht9 | ht9 | ht9 | ht9
            ·
              obtain ⟨nu_217, kd_218, cn_219, pa_220, fa_221, l_222, m_223, hs_224, hs_225, hs_226, hs_227⟩ := x_ifl hI ht9
              obtain ⟨kk_228, hk_229⟩ := pl_at ht9.1 hs_224
              exact vp_callSi (va_runU (As := [.ref (d (2000 + i)), .int p0, .int 1]) (rest := []) ⟨hx, hb, hml, hown, hts⟩ (y_meets l dC dI q h0 d k z f hI (d (2000 + a9)) hit_78 (nI a9) (u.2 4 a9) (u.2 22 a9) (d (3000 + a9)) (d (4000 + a9)) rs_74 hs_79 n_75 g_76 (pR u a9) hpa_80 hps_81 h1_82 h6_83 hcb_84 hpl_85 (d (2000 + i)) hit_105 (nI i) (u.2 4 i) (u.2 22 i) (d (3000 + i)) (d (4000 + i)) rs_101 hs_106 n_102 g_103 (pR u i) hpa_107 hps_108 h1_109 h6_110 hcb_111 hpl_112 p0 1) (va_cwU 3 hts gX11_leastPair_X4_meets_u358X2 rfl rfl rfl rfl (by decide +kernel) ⟨Nat.le_trans (Nat.le_of_ble_eq_true rfl) hRf, Nat.le_trans (Nat.le_of_ble_eq_true rfl) hRl⟩) ⟨px_fb, va_recv hK hP (ci := 2) (q0 := kk_228) rfl hk_229, fun U hU hW => ⟨rfl, px_to hU hW hP hK hN hXN⟩⟩ rfl rfl hl.1 rfl (lv_room (Nat.le_of_ble_eq_true rfl)) dX11_leastPair_85 ⟨hRc, hRs⟩).run (fun r hw => kC r hw)
            ·
              obtain ⟨nu_230, kd_231, cn_232, pa_233, fa_234, o_235, w_236, y_237, hs_238, hs_239, hs_240, hs_241, hq_242⟩ := x_ihd hI ht9
              obtain ⟨kk_243, hk_244⟩ := pl_at ht9.1 hs_238
              exact vp_callSi (va_runU (As := [.ref (d (2000 + i)), .int p0, .int 1]) (rest := []) ⟨hx, hb, hml, hown, hts⟩ (y_meets l dC dI q h0 d k z f hI (d (2000 + a9)) hit_78 (nI a9) (u.2 4 a9) (u.2 22 a9) (d (3000 + a9)) (d (4000 + a9)) rs_74 hs_79 n_75 g_76 (pR u a9) hpa_80 hps_81 h1_82 h6_83 hcb_84 hpl_85 (d (2000 + i)) hit_105 (nI i) (u.2 4 i) (u.2 22 i) (d (3000 + i)) (d (4000 + i)) rs_101 hs_106 n_102 g_103 (pR u i) hpa_107 hps_108 h1_109 h6_110 hcb_111 hpl_112 p0 1) (va_cwU 3 hts gX11_leastPair_X4_meets_u358X3 rfl rfl rfl rfl (by decide +kernel) ⟨Nat.le_trans (Nat.le_of_ble_eq_true rfl) hRf, Nat.le_trans (Nat.le_of_ble_eq_true rfl) hRl⟩) ⟨px_fb, va_recv hK hP (ci := 3) (q0 := kk_243) rfl hk_244, fun U hU hW => ⟨rfl, px_to hU hW hP hK hN hXN⟩⟩ rfl rfl hl.1 rfl (lv_room (Nat.le_of_ble_eq_true rfl)) dX11_leastPair_85 ⟨hRc, hRs⟩).run (fun r hw => kC r hw)
            ·
              obtain ⟨nu_245, kd_246, cn_247, pa_248, fa_249, o_250, y_251, hs_252, hs_253, hs_254, hs_255, hq_256⟩ := x_ino hI ht9
              obtain ⟨kk_257, hk_258⟩ := pl_at ht9.1 hs_252
              exact vp_callSi (va_runU (As := [.ref (d (2000 + i)), .int p0, .int 1]) (rest := []) ⟨hx, hb, hml, hown, hts⟩ (y_meets l dC dI q h0 d k z f hI (d (2000 + a9)) hit_78 (nI a9) (u.2 4 a9) (u.2 22 a9) (d (3000 + a9)) (d (4000 + a9)) rs_74 hs_79 n_75 g_76 (pR u a9) hpa_80 hps_81 h1_82 h6_83 hcb_84 hpl_85 (d (2000 + i)) hit_105 (nI i) (u.2 4 i) (u.2 22 i) (d (3000 + i)) (d (4000 + i)) rs_101 hs_106 n_102 g_103 (pR u i) hpa_107 hps_108 h1_109 h6_110 hcb_111 hpl_112 p0 1) (va_cwU 3 hts gX11_leastPair_X4_meets_u358X5 rfl rfl rfl rfl (by decide +kernel) ⟨Nat.le_trans (Nat.le_of_ble_eq_true rfl) hRf, Nat.le_trans (Nat.le_of_ble_eq_true rfl) hRl⟩) ⟨px_fb, va_recv hK hP (ci := 4) (q0 := kk_257) rfl hk_258, fun U hU hW => ⟨rfl, px_to hU hW hP hK hN hXN⟩⟩ rfl rfl hl.1 rfl (lv_room (Nat.le_of_ble_eq_true rfl)) dX11_leastPair_85 ⟨hRc, hRs⟩).run (fun r hw => kC r hw)
            ·
              obtain ⟨nu_259, kd_260, cn_261, pa_262, fa_263, b_264, pr_265, sp_266, dy_267, hs_268, hs_269, hs_270, hs_271, hq_272, hq_273, hq_274⟩ := x_ipd hI ht9
              obtain ⟨kk_275, hk_276⟩ := pl_at ht9.1 hs_268
              exact vp_callSi (va_runU (As := [.ref (d (2000 + i)), .int p0, .int 1]) (rest := []) ⟨hx, hb, hml, hown, hts⟩ (y_meets l dC dI q h0 d k z f hI (d (2000 + a9)) hit_78 (nI a9) (u.2 4 a9) (u.2 22 a9) (d (3000 + a9)) (d (4000 + a9)) rs_74 hs_79 n_75 g_76 (pR u a9) hpa_80 hps_81 h1_82 h6_83 hcb_84 hpl_85 (d (2000 + i)) hit_105 (nI i) (u.2 4 i) (u.2 22 i) (d (3000 + i)) (d (4000 + i)) rs_101 hs_106 n_102 g_103 (pR u i) hpa_107 hps_108 h1_109 h6_110 hcb_111 hpl_112 p0 1) (va_cwU 3 hts gX11_leastPair_X4_meets_u358X6 rfl rfl rfl rfl (by decide +kernel) ⟨Nat.le_trans (Nat.le_of_ble_eq_true rfl) hRf, Nat.le_trans (Nat.le_of_ble_eq_true rfl) hRl⟩) ⟨px_fb, va_recv hK hP (ci := 5) (q0 := kk_275) rfl hk_276, fun U hU hW => ⟨rfl, px_to hU hW hP hK hN hXN⟩⟩ rfl rfl hl.1 rfl (lv_room (Nat.le_of_ble_eq_true rfl)) dX11_leastPair_85 ⟨hRc, hRs⟩).run (fun r hw => kC r hw)
            ·
              obtain ⟨nu_277, kd_278, cn_279, pa_280, fa_281, ww_282, hh_283, sz_284, hs_285, hs_286, hs_287, hs_288, hq_289, hq_290, hq_291⟩ := x_ipi hI ht9
              obtain ⟨kk_292, hk_293⟩ := pl_at ht9.1 hs_285
              exact vp_callSi (va_runU (As := [.ref (d (2000 + i)), .int p0, .int 1]) (rest := []) ⟨hx, hb, hml, hown, hts⟩ (y_meets l dC dI q h0 d k z f hI (d (2000 + a9)) hit_78 (nI a9) (u.2 4 a9) (u.2 22 a9) (d (3000 + a9)) (d (4000 + a9)) rs_74 hs_79 n_75 g_76 (pR u a9) hpa_80 hps_81 h1_82 h6_83 hcb_84 hpl_85 (d (2000 + i)) hit_105 (nI i) (u.2 4 i) (u.2 22 i) (d (3000 + i)) (d (4000 + i)) rs_101 hs_106 n_102 g_103 (pR u i) hpa_107 hps_108 h1_109 h6_110 hcb_111 hpl_112 p0 1) (va_cwU 3 hts gX11_leastPair_X4_meets_u358X7 rfl rfl rfl rfl (by decide +kernel) ⟨Nat.le_trans (Nat.le_of_ble_eq_true rfl) hRf, Nat.le_trans (Nat.le_of_ble_eq_true rfl) hRl⟩) ⟨px_fb, va_recv hK hP (ci := 6) (q0 := kk_292) rfl hk_293, fun U hU hW => ⟨rfl, px_to hU hW hP hK hN hXN⟩⟩ rfl rfl hl.1 rfl (lv_room (Nat.le_of_ble_eq_true rfl)) dX11_leastPair_85 ⟨hRc, hRs⟩).run (fun r hw => kC r hw)
            ·
              obtain ⟨nu_294, kd_295, cn_296, pa_297, fa_298, l_299, co_300, wd_301, nm_302, hs_303, hs_304, hs_305, hs_306, hq_307, hq_308, hq_309⟩ := x_ist hI ht9
              obtain ⟨kk_310, hk_311⟩ := pl_at ht9.1 hs_303
              exact vp_callSi (va_runU (As := [.ref (d (2000 + i)), .int p0, .int 1]) (rest := []) ⟨hx, hb, hml, hown, hts⟩ (y_meets l dC dI q h0 d k z f hI (d (2000 + a9)) hit_78 (nI a9) (u.2 4 a9) (u.2 22 a9) (d (3000 + a9)) (d (4000 + a9)) rs_74 hs_79 n_75 g_76 (pR u a9) hpa_80 hps_81 h1_82 h6_83 hcb_84 hpl_85 (d (2000 + i)) hit_105 (nI i) (u.2 4 i) (u.2 22 i) (d (3000 + i)) (d (4000 + i)) rs_101 hs_106 n_102 g_103 (pR u i) hpa_107 hps_108 h1_109 h6_110 hcb_111 hpl_112 p0 1) (va_cwU 3 hts gX11_leastPair_X4_meets_u358X10 rfl rfl rfl rfl (by decide +kernel) ⟨Nat.le_trans (Nat.le_of_ble_eq_true rfl) hRf, Nat.le_trans (Nat.le_of_ble_eq_true rfl) hRl⟩) ⟨px_fb, va_recv hK hP (ci := 9) (q0 := kk_310) rfl hk_311, fun U hU hW => ⟨rfl, px_to hU hW hP hK hN hXN⟩⟩ rfl rfl hl.1 rfl (lv_room (Nat.le_of_ble_eq_true rfl)) dX11_leastPair_85 ⟨hRc, hRs⟩).run (fun r hw => kC r hw)
set_option maxHeartbeats 4000000 in
set_option maxRecDepth 100000 in
theorem y_lp_out {p : Program} {l : Launch} {e : Env} {R : Room} {s : State} {m : MethodId} {args : Array Value} {below : List Frame} {meth : Method} {c : Code} {Q : State → Prop} {cells slots : Nat} {dC : Nat → ClassId} {dI : Nat → Nat → Nat} {q : Nat → ClassId} {h0 : Nat} {d : Nat → Nat} {k : Nat → Int32} {z : gS} {f : xF} {H : Heap} {locs : List Loc} (hI : xI q h0 d k z f) (hx : p.tables.exec = Jvm.exec) (hb : c.code = cX11_leastPair) (hml : c.maxLocals = 5) (hts : ∀ w ∈ wsX11_leastPair, w.before args s = true) (hown : s.vm.findClass RX11 = some m.cls) (hN : NN s) (hXN : XN s) (hK : va_K (dC, dI) vwCl (xT q) s) (hRf : 3 ≤ R.frames) (hRl : 69 ≤ R.locals) (hRc : cells ≤ R.cells) (hRs : slots ≤ R.slots) (hP : va_P (dC, dI) vwCl (va_pl z.1 f) H) {u : mS} (hrp : rep q d u z f) (hk0 : k 0 = u.1 3) (hk1 : k 1 = u.1 28) (hk2 : k 2 = u.1 38) (hk3 : k 3 = u.1 39) {K : Nat} (hK8 : K ≤ 80) (eK : k 0 = nI K) (eKn : (u.1 3).toNatClampNeg = K) (hkB : kB u) {p0 p1 : Int32} (kx115 : ∀ (ls : Array Slot), (∀ a b, a < K → a < b → b < K → ¬ lpC u p0 p1 a b) → lv_has ls 5 [(0, .ref h0), (1, .int p0), (2, .int p1)] → W p l e R s m args below meth c H locs cells slots Q (F0 m 115 ls [])) (kx91 : ∀ (a9 : Nat) (b9 : Nat) (ls : Array Slot), lpM u p0 p1 K a9 b9 → lv_has ls 5 [(4, .int (nI b9)), (3, .int (nI a9)), (0, .ref h0), (1, .int p0), (2, .int p1)] → W p l e R s m args below meth c H locs cells slots Q (F0 m 91 ls [])) : ∀ (kk i : Nat) (ls : Array Slot), i ≤ K → K - i < kk → (∀ a b, a < i → a < b → b < K → ¬ lpC u p0 p1 a b) → lv_has ls 5 [(3, .int (nI i)), (0, .ref h0), (1, .int p0), (2, .int p1)] → W p l e R s m args below meth c H locs cells slots Q (F0 m 2 ls []) := by
  intro kk
  induction kk with
  | zero => intro i ls h1 h2; exact absurd h2 (Nat.not_lt_zero _)
  | succ kk ih =>
    intro i ls hi hkk hg hl
    refine lv_iload_n hx hb dX11_leastPair_2 rfl (lv_at hl 0 rfl) ?_
    refine lv_aload_n hx hb dX11_leastPair_3 rfl (lv_at hl 1 rfl) ?_
    obtain ⟨kk_1, hk_2⟩ := pl_at hI.2.1.1.1 hI.2.2.2.1.1
    refine va_get (D := (dC, dI)) (ci := 10) (v := .int (k 0)) (C := RX11) (T := TX11) (N := 9) hx hb hts (by decide +kernel) hown hK hP kk_1 hk_2 rfl 3 (by decide) (hts (.fieldLink RX11 24 "PageOne" "itemCount" "I") (by decide +kernel)) (fun _ h9 => h9) rfl dX11_leastPair_4 ?_
    refine lv_topi (fun y_3 ey_3 => ?_)
    obtain rfl : y_3 = (nI K) := ey_3.trans (eK)
    refine lv_icmp_ge (tgt := 115) hx hb dX11_leastPair_7 (by decide) (fun c_4 => ?_) (fun c_4 => ?_)
    ·
      have hie : i = K := lp_eq rfl (by omega) hi c_4
      exact kx115 ls (by rw [hie] at hg; exact hg) (lv_sub hl [1, 2, 3] rfl)
    ·
      have hlt : i < K := lp_lt rfl (by omega) hi c_4
      refine lv_aload_n hx hb dX11_leastPair_10 rfl (lv_at hl 1 rfl) ?_
      obtain ⟨kk_5, hk_6⟩ := pl_at hI.2.1.1.1 hI.2.2.2.1.1
      refine va_get (D := (dC, dI)) (ci := 10) (v := .ref (d 2)) (C := RX11) (T := TX11) (N := 9) hx hb hts (by decide +kernel) hown hK hP kk_5 hk_6 rfl 2 (by decide) (hts (.fieldLink RX11 20 "PageOne" "items" "[LPageOne$Item;") (by decide +kernel)) (fun _ h9 => h9) rfl dX11_leastPair_11 ?_
      refine lv_iload_n hx hb dX11_leastPair_14 rfl (lv_at hl 0 rfl) ?_
      obtain ⟨g_7, hs_8, hn_9, hg_10⟩ := x_itm hI
      obtain ⟨kk_11, hk_12⟩ := pl_at hI.2.1.2.2.2.1.1 hs_8
      refine va_aldq hx hb hK hP kk_11 3 hk_12 rfl (vp_in_nI (by omega) (by decide)) dX11_leastPair_15 ?_
      obtain ⟨b_13, hg_14⟩ := hn_9 ((nI i) : Int32).toNatClampNeg (by rw [eK, nI_clamp (by omega), nI_clamp (by omega)]; exact hlt)
      have ht_15 := hg_10 ((nI i) : Int32).toNatClampNeg (vlt (vp_in_nI (by omega) (by decide))) b_13 hg_14
      rw [hg_14]
      refine W.eq (g2 := F0 m 16 ls [.ref b_13]) rfl ?_
      have hb_16 := rI_at hrp.2.2.1 hs_8 (by rw [eKn]; exact hlt) (by rw [nI_clamp (by omega)] at hg_14; exact hg_14)
      subst hb_16
      obtain ⟨rs_17, n_18, g_19, fg_20, hit_21, hs_22, hpa_23, hps_24, h1_25, h6_26, hcb_27, hpl_28, hlg_29, hnn_30, hfa_31, hfs_32, hfe_33, hrs_34, hkt_35⟩ := it_all hI hrp.2.2.1 (by rw [eKn]; exact hlt)
      refine lv_iload_n hx hb dX11_leastPair_16 rfl (lv_at hl 2 rfl) ?_
      refine w_cut (X := fun R cells slots Q args => ∀ r : Int32, (r = (bP (onP u i p0))) → W p l e R s m args below meth c H locs cells slots Q (F0 m 20 ls (.int r :: []))) ?_ (fun kC => ?_)
      ·
        intro r hw
        obtain rfl : r = (bP (onP u i p0)) := hw
        refine lv_if_ne (tgt := 26) hx hb dX11_leastPair_20 (by decide) (fun c_131 => ?_) (fun c_131 => ?_)
        ·
          refine lv_iload_n hx hb dX11_leastPair_26 rfl (lv_at hl 0 rfl) ?_
          refine lv_iconst (v := 1) hx hb dX11_leastPair_27 (by decide) ?_
          refine lv_iadd hx hb dX11_leastPair_28 ?_
          refine lv_topi (fun y_132 ey_132 => ?_)
          obtain rfl : y_132 = (nI (i + 1)) := ey_132.trans (nI_1 i)
          refine lv_istore (lv' := [(4, .int (nI (i + 1))), (3, .int (nI i)), (0, .ref h0), (1, .int p0), (2, .int p1)]) hx hb dX11_leastPair_29 hl (by decide) rfl (fun ls hl => ?_)
          refine y_lp_in (K := K) (a9 := i) hI hx hb hml hts hown hN hXN hK hRf hRl hRc hRs hP hrp hk0 hk1 hk2 hk3 hK8 eK eKn hkB hlt (fun ls hno hl => ?_) (fun b9 ls hye hl => ?_) (K + 1) (i + 1) ls (by omega) (by omega) ⟨by omega, fun b h1 h2 => by omega⟩ (lv_sub hl [0, 1, 2, 3, 4] rfl)
          ·
            refine lv_iinc (v := (nI (i + 1))) (lv' := [(3, .int (nI (i + 1))), (0, .ref h0), (1, .int p0), (2, .int p1)]) hx hb dX11_leastPair_109 hl (k := 0) rfl (nI_1 i) (by decide) rfl (fun ls hl => ?_)
            refine lv_goto (tgt := 2) hx hb dX11_leastPair_112 (by decide) ?_
            exact ih (i + 1) ls (by omega) (by omega) (fun a b h1 h2 h3 => by rcases Nat.lt_succ_iff_lt_or_eq.mp h1 with h9 | h9; exact hg a b h9 h2 h3; subst h9; exact fun h8 => hno b h2 h3 h8.2) (lv_sub hl [0, 1, 2, 3] rfl)
          ·
            exact kx91 _ _ ls ⟨hye.1, hye.2.1, ⟨bP_n c_131, hye.2.2.1⟩, fun a b h1 h2 h3 => by rcases h3 with h3 | ⟨h3, h4⟩; exact hg a b h3 h1 h2; subst h3; exact fun h8 => hye.2.2.2 b h1 h4 h8.2⟩ (lv_sub hl [0, 1, 2, 3, 4] rfl)
        ·
          refine lv_goto (tgt := 109) hx hb dX11_leastPair_23 (by decide) ?_
          refine lv_iinc (v := (nI (i + 1))) (lv' := [(3, .int (nI (i + 1))), (0, .ref h0), (1, .int p0), (2, .int p1)]) hx hb dX11_leastPair_109 hl (k := 0) rfl (nI_1 i) (by decide) rfl (fun ls hl => ?_)
          refine lv_goto (tgt := 2) hx hb dX11_leastPair_112 (by decide) ?_
          exact ih (i + 1) ls (by omega) (by omega) (fun a b h1 h2 h3 => by rcases Nat.lt_succ_iff_lt_or_eq.mp h1 with h9 | h9; exact hg a b h9 h2 h3; subst h9; exact fun h8 => bP_0 c_131 h8.1) (lv_sub hl [0, 1, 2, 3] rfl)
      ·
        rcases x_tag hit_21 with ht9 | ht9 | ht9 | ht9 | ht9 | ht9
        ·
          obtain ⟨nu_36, kd_37, cn_38, pa_39, fa_40, l_41, m_42, hs_43, hs_44, hs_45, hs_46⟩ := x_ifl hI ht9
          obtain ⟨kk_47, hk_48⟩ := pl_at ht9.1 hs_43
          exact vp_callSi (va_runU (As := [.int p0]) (rest := []) ⟨hx, hb, hml, hown, hts⟩ (y_isOn l dC dI q h0 d k z f hI (d (2000 + i)) hit_21 (nI i) (u.2 4 i) (u.2 22 i) (d (3000 + i)) (d (4000 + i)) rs_17 hs_22 n_18 g_19 (pR u i) hpa_23 hps_24 h1_25 h6_26 hcb_27 hpl_28 p0) (va_cwU 1 hts gX11_leastPair_X4_isOn_u346X2 rfl rfl rfl rfl (by decide +kernel) ⟨Nat.le_trans (Nat.le_of_ble_eq_true rfl) hRf, Nat.le_trans (Nat.le_of_ble_eq_true rfl) hRl⟩) ⟨px_fb, va_recv hK hP (ci := 2) (q0 := kk_47) rfl hk_48, fun U hU hW => ⟨rfl, px_to hU hW hP hK hN hXN⟩⟩ rfl rfl hl.1 rfl (lv_room (Nat.le_of_ble_eq_true rfl)) dX11_leastPair_17 ⟨hRc, hRs⟩).run (fun r hw => kC r hw)
        ·
          obtain ⟨nu_49, kd_50, cn_51, pa_52, fa_53, o_54, w_55, y_56, hs_57, hs_58, hs_59, hs_60, hq_61⟩ := x_ihd hI ht9
          obtain ⟨kk_62, hk_63⟩ := pl_at ht9.1 hs_57
          exact vp_callSi (va_runU (As := [.int p0]) (rest := []) ⟨hx, hb, hml, hown, hts⟩ (y_isOn l dC dI q h0 d k z f hI (d (2000 + i)) hit_21 (nI i) (u.2 4 i) (u.2 22 i) (d (3000 + i)) (d (4000 + i)) rs_17 hs_22 n_18 g_19 (pR u i) hpa_23 hps_24 h1_25 h6_26 hcb_27 hpl_28 p0) (va_cwU 1 hts gX11_leastPair_X4_isOn_u346X3 rfl rfl rfl rfl (by decide +kernel) ⟨Nat.le_trans (Nat.le_of_ble_eq_true rfl) hRf, Nat.le_trans (Nat.le_of_ble_eq_true rfl) hRl⟩) ⟨px_fb, va_recv hK hP (ci := 3) (q0 := kk_62) rfl hk_63, fun U hU hW => ⟨rfl, px_to hU hW hP hK hN hXN⟩⟩ rfl rfl hl.1 rfl (lv_room (Nat.le_of_ble_eq_true rfl)) dX11_leastPair_17 ⟨hRc, hRs⟩).run (fun r hw => kC r hw)
        ·
          obtain ⟨nu_64, kd_65, cn_66, pa_67, fa_68, o_69, y_70, hs_71, hs_72, hs_73, hs_74, hq_75⟩ := x_ino hI ht9
          obtain ⟨kk_76, hk_77⟩ := pl_at ht9.1 hs_71
          exact vp_callSi (va_runU (As := [.int p0]) (rest := []) ⟨hx, hb, hml, hown, hts⟩ (y_isOn l dC dI q h0 d k z f hI (d (2000 + i)) hit_21 (nI i) (u.2 4 i) (u.2 22 i) (d (3000 + i)) (d (4000 + i)) rs_17 hs_22 n_18 g_19 (pR u i) hpa_23 hps_24 h1_25 h6_26 hcb_27 hpl_28 p0) (va_cwU 1 hts gX11_leastPair_X4_isOn_u346X5 rfl rfl rfl rfl (by decide +kernel) ⟨Nat.le_trans (Nat.le_of_ble_eq_true rfl) hRf, Nat.le_trans (Nat.le_of_ble_eq_true rfl) hRl⟩) ⟨px_fb, va_recv hK hP (ci := 4) (q0 := kk_76) rfl hk_77, fun U hU hW => ⟨rfl, px_to hU hW hP hK hN hXN⟩⟩ rfl rfl hl.1 rfl (lv_room (Nat.le_of_ble_eq_true rfl)) dX11_leastPair_17 ⟨hRc, hRs⟩).run (fun r hw => kC r hw)
        ·
          obtain ⟨nu_78, kd_79, cn_80, pa_81, fa_82, b_83, pr_84, sp_85, dy_86, hs_87, hs_88, hs_89, hs_90, hq_91, hq_92, hq_93⟩ := x_ipd hI ht9
          obtain ⟨kk_94, hk_95⟩ := pl_at ht9.1 hs_87
          exact vp_callSi (va_runU (As := [.int p0]) (rest := []) ⟨hx, hb, hml, hown, hts⟩ (y_isOn l dC dI q h0 d k z f hI (d (2000 + i)) hit_21 (nI i) (u.2 4 i) (u.2 22 i) (d (3000 + i)) (d (4000 + i)) rs_17 hs_22 n_18 g_19 (pR u i) hpa_23 hps_24 h1_25 h6_26 hcb_27 hpl_28 p0) (va_cwU 1 hts gX11_leastPair_X4_isOn_u346X6 rfl rfl rfl rfl (by decide +kernel) ⟨Nat.le_trans (Nat.le_of_ble_eq_true rfl) hRf, Nat.le_trans (Nat.le_of_ble_eq_true rfl) hRl⟩) ⟨px_fb, va_recv hK hP (ci := 5) (q0 := kk_94) rfl hk_95, fun U hU hW => ⟨rfl, px_to hU hW hP hK hN hXN⟩⟩ rfl rfl hl.1 rfl (lv_room (Nat.le_of_ble_eq_true rfl)) dX11_leastPair_17 ⟨hRc, hRs⟩).run (fun r hw => kC r hw)
        ·
          obtain ⟨nu_96, kd_97, cn_98, pa_99, fa_100, ww_101, hh_102, sz_103, hs_104, hs_105, hs_106, hs_107, hq_108, hq_109, hq_110⟩ := x_ipi hI ht9
          obtain ⟨kk_111, hk_112⟩ := pl_at ht9.1 hs_104
          exact vp_callSi (va_runU (As := [.int p0]) (rest := []) ⟨hx, hb, hml, hown, hts⟩ (y_isOn l dC dI q h0 d k z f hI (d (2000 + i)) hit_21 (nI i) (u.2 4 i) (u.2 22 i) (d (3000 + i)) (d (4000 + i)) rs_17 hs_22 n_18 g_19 (pR u i) hpa_23 hps_24 h1_25 h6_26 hcb_27 hpl_28 p0) (va_cwU 1 hts gX11_leastPair_X4_isOn_u346X7 rfl rfl rfl rfl (by decide +kernel) ⟨Nat.le_trans (Nat.le_of_ble_eq_true rfl) hRf, Nat.le_trans (Nat.le_of_ble_eq_true rfl) hRl⟩) ⟨px_fb, va_recv hK hP (ci := 6) (q0 := kk_111) rfl hk_112, fun U hU hW => ⟨rfl, px_to hU hW hP hK hN hXN⟩⟩ rfl rfl hl.1 rfl (lv_room (Nat.le_of_ble_eq_true rfl)) dX11_leastPair_17 ⟨hRc, hRs⟩).run (fun r hw => kC r hw)
        ·
          obtain ⟨nu_113, kd_114, cn_115, pa_116, fa_117, l_118, co_119, wd_120, nm_121, hs_122, hs_123, hs_124, hs_125, hq_126, hq_127, hq_128⟩ := x_ist hI ht9
          obtain ⟨kk_129, hk_130⟩ := pl_at ht9.1 hs_122
          exact vp_callSi (va_runU (As := [.int p0]) (rest := []) ⟨hx, hb, hml, hown, hts⟩ (y_isOn l dC dI q h0 d k z f hI (d (2000 + i)) hit_21 (nI i) (u.2 4 i) (u.2 22 i) (d (3000 + i)) (d (4000 + i)) rs_17 hs_22 n_18 g_19 (pR u i) hpa_23 hps_24 h1_25 h6_26 hcb_27 hpl_28 p0) (va_cwU 1 hts gX11_leastPair_X4_isOn_u346X10 rfl rfl rfl rfl (by decide +kernel) ⟨Nat.le_trans (Nat.le_of_ble_eq_true rfl) hRf, Nat.le_trans (Nat.le_of_ble_eq_true rfl) hRl⟩) ⟨px_fb, va_recv hK hP (ci := 9) (q0 := kk_129) rfl hk_130, fun U hU hW => ⟨rfl, px_to hU hW hP hK hN hXN⟩⟩ rfl rfl hl.1 rfl (lv_room (Nat.le_of_ble_eq_true rfl)) dX11_leastPair_17 ⟨hRc, hRs⟩).run (fun r hw => kC r hw)
/-- what leastPair answers -/
def lpP (q : Nat → ClassId) (h0 : Nat) (d : Nat → Nat) (k : Nat → Int32) (z : gS) (f : xF) (u : mS) (p kd : Int32) (r : Option Nat) (w : xU) : Prop := (r = none ∧ w = (k, z, f) ∧ ∀ a b, a < b → b < (u.1 3).toNatClampNeg → ¬ lpC u p kd a b) ∨ (∃ c a b, r = some c ∧ w.1 = k ∧ zE z w.2.1 ∧ xI q h0 d k w.2.1 w.2.2 ∧ rep q d u w.2.1 w.2.2 ∧ w.2.2 (d 3) = f (d 3) ∧ tg w.2.1 c 24 ∧ w.2.2 c = .inr (1, [.int kd, .int (nI a), .int (nI b)]) ∧ lpM u p kd (u.1 3).toNatClampNeg a b)
set_option maxHeartbeats 4000000 in
set_option maxRecDepth 100000 in
theorem y_leastPair (l : Launch) (dC : Nat → ClassId) (dI : Nat → Nat → Nat) (q : Nat → ClassId) (h0 : Nat) (d : Nat → Nat) (k : Nat → Int32) (z : gS) (f : xF) (hI : xI q h0 d k z f) (p0 p1 : Int32) (u : mS) (hrp : rep q d u z f) (hk0 : k 0 = u.1 3) (hk1 : k 1 = u.1 28) (hk2 : k 2 = u.1 38) (hk3 : k 3 = u.1 39) (hkB : kB u) (sz : Nat) : Met l yX11_leastPair wsX11_leastPair ({ frames := 3, cells := 1, slots := 3, locals := 69 }) (va_Pc [.ref h0, .int p0, .int p1] (fun U => U.heap.size = sz ∧ PX dC dI (va_pl z.1 f) (xT q) U ∧ va_D (fun _ => True) (va_pl z.1 f))) (va_Qq (fun (r : Option Nat) (w : xU) => lpP q h0 d k z f u p0 p1 r w) (fun (w : xU) t => va_P (dC, dI) vwCl (va_pl w.2.1.1 w.2.2) t.heap ∧ va_D (va_A (va_pl z.1 f) sz) (va_pl w.2.1.1 w.2.2)) (va_A (va_pl z.1 f) sz)) 1 3 (va_A (va_pl z.1 f) sz) := by
  refine Met.ofW (cc := cX11_leastPair) (maxL := 5) (ret := (some (.object "PageOne$Breach"))) (by decide) rfl ?_
  intro p e s m args below meth c s₁ B hml hv
  obtain ⟨rfl, hsz, ⟨⟨hP, hK, hN⟩, hXN⟩, hD0⟩ := hv
  have hx := B.exec
  have hb := B.bytes
  have hr := B.returns
  have hts := atoms_spec (ws := wsX11_leastPair) B.pre
  have hown : s.vm.findClass RX11 = some m.cls := findClass_of_methodNamed B.named
  have hlocks := B.notSynchronized
  subst hsz
  have hD := hD0.self (sz := s.heap.size)
  generalize hAe : va_A (va_pl z.1 f) s.heap.size = A at hD ⊢
  have hA : ∀ q : Nat, s.heap.size ≤ q → A q := fun q h => by rw [← hAe]; exact Or.inr h
  have hS : va_S A s.heap s.heap [] := va_S.rf
  have hl := lv_entry ([.ref h0, .int p0, .int p1]) (n := 5) (Nat.le_of_ble_eq_true rfl)
  rw [lg_entry_eq]
  generalize (lg_sl ([.ref h0, .int p0, .int p1]) ++ List.replicate (5 - (lg_sl ([.ref h0, .int p0, .int p1])).length) Slot.unset).toArray = ls at hl ⊢
  have hl : lv_has ls 5 [(0, .ref h0), (1, .int p0), (2, .int p1)] := hl
  have h3m : f (d 3) = f (d 3) := rfl
  refine lv_iconst (v := 0) hx hb dX11_leastPair_0 (by decide) ?_
  refine lv_istore_n (lv' := [(3, .int 0), (0, .ref h0), (1, .int p0), (2, .int p1)]) hx hb dX11_leastPair_1 rfl hl (by decide) rfl (fun ls hl => ?_)
  obtain ⟨K, hK8, -, eK⟩ := exN hI.1.1 (by decide)
  have h80 : (80 : Int32).toInt = 80 := rfl
  have eKn : (u.1 3).toNatClampNeg = K := by rw [← hk0, eK, nI_clamp (by omega)]
  refine y_lp_out (K := K) hI hx hb hml hts hown hN hXN hK (Nat.le_of_ble_eq_true rfl) (Nat.le_of_ble_eq_true rfl) (Nat.le_of_ble_eq_true rfl) (Nat.le_of_ble_eq_true rfl) hP hrp hk0 hk1 hk2 hk3 (by omega) eK eKn hkB (fun ls hno hl => ?_) (fun a9 b9 ls hye hl => ?_) (K + 1) 0 ls (Nat.zero_le _) (by omega) (fun a b h1 => absurd h1 (Nat.not_lt_zero _)) (lv_sub hl [0, 1, 2, 3] rfl)
  ·
    refine lv_null hx hb dX11_leastPair_115 ?_
    refine W.widen (k := 1) (n := 3) (Nat.le_of_ble_eq_true rfl) (Nat.le_of_ble_eq_true rfl) ?_
    exact W.aret (v := .null) hx hb hr (Or.inl ⟨_, rfl⟩) (Or.inl rfl) (fun t ht hW => ⟨⟨none, (k, z, f), rfl, (Or.inl ⟨rfl, rfl, fun a b h1 h2 => hno a b (by omega) h1 (by omega)⟩), by rw [ht]; exact hP, hD⟩, hS.F ht⟩) hS.2.2 dX11_leastPair_116
  ·
    refine va_new (ci := 1) (fs := [.int 0, .int 0, .int 0]) (C := RX1) (T := TX1) (N := 3) hx hb hts (by decide +kernel) tyX1 tyX1_ok hown (hts (.classLink RX11 202 RX1) (by decide +kernel)) (hts (.instantiable RX1 3) (by decide +kernel)) (hts (.initialized RX1) (by decide +kernel)) hK hP hD hS hA rfl nwX1 (Nat.le_of_ble_eq_true rfl) (Nat.le_of_ble_eq_true rfl) dX11_leastPair_91 (fun q_1 H hPn hDn hS => ?_)
    have hP := vaP_l hPn
    refine W.widen (k := 1) (n := 3) (Nat.le_of_ble_eq_true rfl) (Nat.le_of_ble_eq_true rfl) ?_
    refine lv_dup hx hb dX11_leastPair_94 rfl ?_
    refine lv_iload_n hx hb dX11_leastPair_95 rfl (lv_at hl 4 rfl) ?_
    refine lv_iload_n hx hb dX11_leastPair_96 rfl (lv_at hl 1 rfl) ?_
    refine lv_iload hx hb dX11_leastPair_97 (lv_at hl 0 rfl) ?_
    have hPc := vaP_r hPn
    have hDc := vaD_r hDn
    have hFc := fr_part hDn hS hA
    refine va_callv (va_runI (As := [.int p1, .int (nI a9), .int (nI b9)]) (rest := [.ref q_1]) ⟨hx, hb, hml, hown, hts⟩ (x_Breach l dC dI q_1 p1 (nI a9) (nI b9) H.size) (cwI 3 hts gX11_leastPair_X1_init rfl rfl rfl (hts (.initialized RX1) (by decide +kernel)) (hts (.methodLink RX11 353 yX1_init) (by decide +kernel)) (hts (.instanceMethod yX1_init) (by decide +kernel)) rfl (by decide +kernel) ⟨Nat.le_of_ble_eq_true rfl, Nat.le_of_ble_eq_true rfl⟩) ⟨gw_fb, fun U hU hW => ⟨rfl, by rw [hU], pw_to hU hW hPc (hK.sub (tys' := []) [] rfl) hN, hDc.weaken (fun _ _ _ _ => trivial)⟩⟩ rfl rfl hl.1 rfl (lv_room (Nat.le_of_ble_eq_true rfl)) dX11_leastPair_99 ⟨Nat.le_of_ble_eq_true rfl, Nat.le_of_ble_eq_true rfl⟩) hS (fun q _ h => hFc q h) hFc (fun u9 t H1 locs ht hvm hw hB hz1 hk1 hS => ?_)
    obtain ⟨hP1, hD1⟩ := hB
    rw [ht] at hP1
    obtain ⟨hP, hD⟩ := va_joinQ (X := [(q_1, .inr (1, [.int 0, .int 0, .int 0]))]) (cx := [(q_1, .inr (1, [.int 0, .int 0, .int 0]))]) (wr := []) (w1 := [(q_1, .inr (1, [.int p1, .int (nI a9), .int (nI b9)]))]) (pl := va_pl z.1 f) (vaP_swap hPn) (vaD_rotR hDn) [0] [] rfl rfl rfl (fun i hi => absurd hi List.not_mem_nil) hk1 hFc hP1 hD1
    generalize H1 = H at hP hS ⊢
    obtain ⟨hnm_2, hP, hD⟩ := pushC hP hD
    obtain ⟨z_3, ez_3⟩ : ∃ y : gS, y = pz z q_1 (24, 0, []) := ⟨_, rfl⟩
    obtain ⟨f_4, ef_4⟩ : ∃ y : xF, y = va_up f q_1 (.inr (1, [.int p1, .int (nI a9), .int (nI b9)])) := ⟨_, rfl⟩
    have hE_5 : zE z z_3 := by rw [ez_3]; exact pz_E hnm_2 _
    have hI : xI q h0 d k z_3 f_4 := by rw [ez_3, ef_4]; exact x_push hI hnm_2 (Or.inr (by decide : (15 : Nat) < 24)) (cO_24 (by rw [pz_s]))
    rw [show z.1 ++ [q_1] = z_3.1 from by rw [ez_3]; rfl, ← ef_4] at hP hD
    have ht_6 : tg z_3 q_1 24 := by rw [ez_3]; exact pz_t _ _ _
    have hEz : zE z z_3 := zE_tr (zE_rf z) hE_5
    have h3m : f_4 (d 3) = f (d 3) := by rw [ef_4]; exact (up_o (fun e9 => hnm_2 (by rw [← e9]; exact hrp.2.2.2.2.2.2.2.1.1.1))).trans h3m
    have hrp_7 : rep q d u z_3 f_4 := by rw [ez_3, ef_4]; exact rep_grow hrp (pz_E hnm_2 _) (oK_push (fun _ _ => rfl) (zE_rf _) hnm_2)
    refine W.eq (g2 := F0 m 102 ls [.ref q_1]) rfl ?_
    have hbc_8 : f_4 q_1 = .inr (1, [.int p1, .int (nI a9), .int (nI b9)]) := by rw [ef_4]; exact up_s
    exact W.aret (v := .ref q_1) hx hb hr (Or.inl ⟨_, rfl⟩) (Or.inr ⟨_, rfl⟩) (fun t ht hW => ⟨⟨(some q_1), (k, z_3, f_4), rfl, (Or.inr ⟨q_1, a9, b9, rfl, rfl, hEz, hI, hrp_7, h3m, ht_6, hbc_8, by rw [eKn]; exact hye⟩), by rw [ht]; exact hP, hD⟩, hS.F ht⟩) hS.2.2 dX11_leastPair_102
