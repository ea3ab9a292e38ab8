set_option maxHeartbeats 4000000 in
set_option maxRecDepth 100000 in
theorem y_cd1 {p : Program} {l : Launch} {e : Env} {R : Room} {s : State} {m : MethodId} {args : Array Value} {below : List Frame} {meth : Method} {c : Code} {Q : State → Prop} {cells slots : Nat} {dC : Nat → ClassId} {dI : Nat → Nat → Nat} {q : Nat → ClassId} {h0 : Nat} {d : Nat → Nat} {k : Nat → Int32} {z : gS} {f0 : xF} {u : mS} (hk0 : k 0 = u.1 3) {K : Nat} (hK8 : K ≤ 80) (eK : k 0 = nI K) (eKn : (u.1 3).toNatClampNeg = K) {A : Nat → Prop} {H0 : Heap} (hx : p.tables.exec = Jvm.exec) (hb : c.code = cX11_clearDesk) (hml : c.maxLocals = 2) (hts : ∀ w ∈ wsX11_clearDesk, w.before args s = true) (hown : s.vm.findClass RX11 = some m.cls) (hN : NN s) (hXN : XN s) (hK : va_K (dC, dI) vwCl (xT q) s) (hRf : 1 ≤ R.frames) (hRl : 21 ≤ R.locals) (hRc : cells ≤ R.cells) (hRs : slots ≤ R.slots) (hA : ∀ q : Nat, H0.size ≤ q → A q) (kx25 : ∀ (f : xF) (H : Heap) (locs : List Loc) (ls : Array Slot), (rep q d (cd1 u K) z f ∧ f (d 3) = f0 (d 3)) → xI q h0 d k z f → va_P (dC, dI) vwCl (va_pl z.1 f) H → va_D A (va_pl z.1 f) → va_S A H0 H locs → lv_has ls 2 [(0, .ref h0)] → W p l e R s m args below meth c H locs cells slots Q (F0 m 25 ls [])) : ∀ (kk i : Nat) (f : xF) (H : Heap) (locs : List Loc) (ls : Array Slot), i ≤ K → K - i < kk → (rep q d (cd1 u i) z f ∧ f (d 3) = f0 (d 3)) → xI q h0 d k z f → va_P (dC, dI) vwCl (va_pl z.1 f) H → va_D A (va_pl z.1 f) → va_S A H0 H locs → lv_has ls 2 [(1, .int (nI i)), (0, .ref h0)] → W p l e R s m args below meth c H locs cells slots Q (F0 m 2 ls []) := by
  intro kk
  induction kk with
  | zero => intro i f H locs ls h1 h2; exact absurd h2 (Nat.not_lt_zero _)
  | succ kk ih =>
    intro i f H locs ls hi hkk hg hI hP hD hS hl
    obtain ⟨ui, eui⟩ : ∃ y : mS, y = cd1 u i := ⟨_, rfl⟩
    have hrpi : rep q d ui z f := by rw [eui]; exact hg.1
    have hu1 : ui.1 = u.1 := by rw [eui]; rfl
    refine lv_iload_n hx hb dX11_clearDesk_2 rfl (lv_at hl 0 rfl) ?_
    refine lv_aload_n hx hb dX11_clearDesk_3 rfl (lv_at hl 1 rfl) ?_
    obtain ⟨kk_1, hk_2⟩ := pl_at hI.2.1.1.1 hI.2.2.2.1.1
    refine va_get (D := (dC, dI)) (ci := 10) (v := .int (k 0)) (C := RX11) (T := TX11) (N := 9) hx hb hts (by decide +kernel) hown hK hP kk_1 hk_2 rfl 3 (by decide) (hts (.fieldLink RX11 24 "PageOne" "itemCount" "I") (by decide +kernel)) (fun _ h9 => h9) rfl dX11_clearDesk_4 ?_
    refine lv_topi (fun y_3 ey_3 => ?_)
    obtain rfl : y_3 = (nI K) := ey_3.trans (eK)
    refine lv_icmp_ge (tgt := 25) hx hb dX11_clearDesk_7 (by decide) (fun c_4 => ?_) (fun c_4 => ?_)
    ·
      have hie : i = K := lp_eq rfl (by omega) hi c_4
      exact kx25 _ _ _ ls (by rw [hie] at hg; exact hg) hI hP hD hS (lv_sub hl [1] rfl)
    ·
      have hlt : i < K := lp_lt rfl (by omega) hi c_4
      refine lv_aload_n hx hb dX11_clearDesk_10 rfl (lv_at hl 1 rfl) ?_
      obtain ⟨kk_5, hk_6⟩ := pl_at hI.2.1.1.1 hI.2.2.2.1.1
      refine va_get (D := (dC, dI)) (ci := 10) (v := .ref (d 2)) (C := RX11) (T := TX11) (N := 9) hx hb hts (by decide +kernel) hown hK hP kk_5 hk_6 rfl 2 (by decide) (hts (.fieldLink RX11 20 "PageOne" "items" "[LPageOne$Item;") (by decide +kernel)) (fun _ h9 => h9) rfl dX11_clearDesk_11 ?_
      refine lv_iload_n hx hb dX11_clearDesk_14 rfl (lv_at hl 0 rfl) ?_
      obtain ⟨g_7, hs_8, hn_9, hg_10⟩ := x_itm hI
      obtain ⟨kk_11, hk_12⟩ := pl_at hI.2.1.2.2.2.1.1 hs_8
      refine va_aldq hx hb hK hP kk_11 3 hk_12 rfl (vp_in_nI (by omega) (by decide)) dX11_clearDesk_15 ?_
      obtain ⟨b_13, hg_14⟩ := hn_9 ((nI i) : Int32).toNatClampNeg (by rw [eK, nI_clamp (by omega), nI_clamp (by omega)]; exact hlt)
      have ht_15 := hg_10 ((nI i) : Int32).toNatClampNeg (vlt (vp_in_nI (by omega) (by decide))) b_13 hg_14
      rw [hg_14]
      refine W.eq (g2 := F0 m 16 ls [.ref b_13]) rfl ?_
      have hii : i < (ui.1 3).toNatClampNeg := by rw [hu1, eKn]; exact hlt
      have hb_16 := rI_at hrpi.2.2.1 hs_8 hii (by rw [nI_clamp (by omega)] at hg_14; exact hg_14)
      subst hb_16
      obtain ⟨rs_17, n_18, g_19, fg_20, hit_21, hs_22, hpa_23, hps_24, h1_25, h6_26, hcb_27, hpl_28, hlg_29, hnn_30, hfa_31, hfs_32, hfe_33, hrs_34, hkt_35⟩ := it_all hI hrpi.2.2.1 hii
      have hIp := hI
      have hFc := fr_all hD hS hA
      refine w_cut (X := fun R cells slots Q args => ∀ (w9 : xU) (H : Heap) (locs : List Loc), (w9.1 = k ∧ w9.2.1 = z ∧ xI q h0 d k z w9.2.2 ∧ ∃ g2, w9.2.2 = va_up (va_up f (d (3000 + i)) (aR (q 5) n_18 g2)) (d (2000 + i)) (.inr (ciT (z.2 (d (2000 + i))).1, itF (nI i) (ui.2 4 i) (d (3000 + i)) 0 (d (4000 + i)) rs_17))) → va_P (dC, dI) vwCl (va_pl w9.2.1.1 w9.2.2) H → va_D A (va_pl w9.2.1.1 w9.2.2) → va_S A H0 H locs → W p l e R s m args below meth c H locs (cells + 0) (slots + 0) Q (F0 m 19 ls ([]))) ?_ (fun kC => ?_)
      ·
        intro w_36 H locs hw hP hD hS
        rw [hw.2.1] at hP hD
        have hI := hw.2.2.1
        have hw0 := hw
        generalize w_36.2.2 = f_132 at hP hD hI hw0
        refine lv_iinc (v := (nI (i + 1))) (lv' := [(1, .int (nI (i + 1))), (0, .ref h0)]) hx hb dX11_clearDesk_19 hl (k := 0) rfl (nI_1 i) (by decide) rfl (fun ls hl => ?_)
        refine lv_goto (tgt := 2) hx hb dX11_clearDesk_22 (by decide) ?_
        exact ih (i + 1) _ _ _ ls (by omega) (by omega) (by obtain ⟨-, -, -, g2, hf2⟩ := hw0; refine ⟨?_, ?_⟩; rw [← cd1_s u (by omega), ← eui, hf2]; exact rep_all hIp hrpi (by rw [hu1, ← hk0]; exact hI.1.1) hii hnn_30 hs_22 hps_24; rw [hf2, up_o (Ne.symm (itm_ne hit_21 hI.2.1.2.2.2.2.1 (by decide))), up_o (tg_ne hI.2.1.2.2.2.2.1 hpa_23 (by decide))]; exact hg.2) hI hP hD hS (lv_sub hl [0, 1] rfl)
      ·
        rcases x_tag hit_21 with ht9 | ht9 | ht9 | ht9 | ht9 | ht9
        ·
          obtain ⟨nu_37, kd_38, cn_39, pa_40, fa_41, l_42, m_43, hs_44, hs_45, hs_46, hs_47⟩ := x_ifl hI ht9
          obtain ⟨kk_48, hk_49⟩ := pl_at ht9.1 hs_44
          exact va_callv (va_runU (As := []) (rest := []) ⟨hx, hb, hml, hown, hts⟩ (y_loseAll l dC dI q h0 d k z f hI (d (2000 + i)) hit_21 (nI i) (ui.2 4 i) (ui.2 22 i) (d (3000 + i)) (d (4000 + i)) rs_17 hs_22 n_18 g_19 hpa_23 hps_24 h1_25 h6_26 hcb_27 (fun j hj => by obtain ⟨b9, it9, e9, -⟩ := hpl_28 j hj; exact ⟨b9, e9⟩) hlg_29 H.size) (va_cwU 0 hts gX11_clearDesk_X4_loseAll_u336X2 rfl rfl rfl rfl (by decide +kernel) ⟨Nat.le_trans (Nat.le_of_ble_eq_true rfl) hRf, Nat.le_trans (Nat.le_of_ble_eq_true rfl) hRl⟩) ⟨gx_fb, va_recv hK hP (ci := 2) (q0 := kk_48) rfl hk_49, fun U hU hW => ⟨rfl, by rw [hU], px_to hU hW hP hK hN hXN, hD.weaken (fun _ _ _ _ => trivial)⟩⟩ rfl rfl hl.1 rfl (lv_room (Nat.le_of_ble_eq_true rfl)) dX11_clearDesk_16 ⟨hRc, hRs⟩) hS (fun q _ h => hFc q h) hFc (fun w9 t H1 locs ht hvm hw hB hz1 hk1 hS => kC w9 H1 locs hw (by rw [← ht]; exact hB.1) (hB.2.weaken (fun _ q _ h => hFc q.1 h)) hS)
        ·
          obtain ⟨nu_50, kd_51, cn_52, pa_53, fa_54, o_55, w_56, y_57, hs_58, hs_59, hs_60, hs_61, hq_62⟩ := x_ihd hI ht9
          obtain ⟨kk_63, hk_64⟩ := pl_at ht9.1 hs_58
          exact va_callv (va_runU (As := []) (rest := []) ⟨hx, hb, hml, hown, hts⟩ (y_loseAll l dC dI q h0 d k z f hI (d (2000 + i)) hit_21 (nI i) (ui.2 4 i) (ui.2 22 i) (d (3000 + i)) (d (4000 + i)) rs_17 hs_22 n_18 g_19 hpa_23 hps_24 h1_25 h6_26 hcb_27 (fun j hj => by obtain ⟨b9, it9, e9, -⟩ := hpl_28 j hj; exact ⟨b9, e9⟩) hlg_29 H.size) (va_cwU 0 hts gX11_clearDesk_X4_loseAll_u336X3 rfl rfl rfl rfl (by decide +kernel) ⟨Nat.le_trans (Nat.le_of_ble_eq_true rfl) hRf, Nat.le_trans (Nat.le_of_ble_eq_true rfl) hRl⟩) ⟨gx_fb, va_recv hK hP (ci := 3) (q0 := kk_63) rfl hk_64, fun U hU hW => ⟨rfl, by rw [hU], px_to hU hW hP hK hN hXN, hD.weaken (fun _ _ _ _ => trivial)⟩⟩ rfl rfl hl.1 rfl (lv_room (Nat.le_of_ble_eq_true rfl)) dX11_clearDesk_16 ⟨hRc, hRs⟩) hS (fun q _ h => hFc q h) hFc (fun w9 t H1 locs ht hvm hw hB hz1 hk1 hS => kC w9 H1 locs hw (by rw [← ht]; exact hB.1) (hB.2.weaken (fun _ q _ h => hFc q.1 h)) hS)
        ·
          obtain ⟨nu_65, kd_66, cn_67, pa_68, fa_69, o_70, y_71, hs_72, hs_73, hs_74, hs_75, hq_76⟩ := x_ino hI ht9
          obtain ⟨kk_77, hk_78⟩ := pl_at ht9.1 hs_72
          exact va_callv (va_runU (As := []) (rest := []) ⟨hx, hb, hml, hown, hts⟩ (y_loseAll l dC dI q h0 d k z f hI (d (2000 + i)) hit_21 (nI i) (ui.2 4 i) (ui.2 22 i) (d (3000 + i)) (d (4000 + i)) rs_17 hs_22 n_18 g_19 hpa_23 hps_24 h1_25 h6_26 hcb_27 (fun j hj => by obtain ⟨b9, it9, e9, -⟩ := hpl_28 j hj; exact ⟨b9, e9⟩) hlg_29 H.size) (va_cwU 0 hts gX11_clearDesk_X4_loseAll_u336X5 rfl rfl rfl rfl (by decide +kernel) ⟨Nat.le_trans (Nat.le_of_ble_eq_true rfl) hRf, Nat.le_trans (Nat.le_of_ble_eq_true rfl) hRl⟩) ⟨gx_fb, va_recv hK hP (ci := 4) (q0 := kk_77) rfl hk_78, fun U hU hW => ⟨rfl, by rw [hU], px_to hU hW hP hK hN hXN, hD.weaken (fun _ _ _ _ => trivial)⟩⟩ rfl rfl hl.1 rfl (lv_room (Nat.le_of_ble_eq_true rfl)) dX11_clearDesk_16 ⟨hRc, hRs⟩) hS (fun q _ h => hFc q h) hFc (fun w9 t H1 locs ht hvm hw hB hz1 hk1 hS => kC w9 H1 locs hw (by rw [← ht]; exact hB.1) (hB.2.weaken (fun _ q _ h => hFc q.1 h)) hS)
        ·
          obtain ⟨nu_79, kd_80, cn_81, pa_82, fa_83, b_84, pr_85, sp_86, dy_87, hs_88, hs_89, hs_90, hs_91, hq_92, hq_93, hq_94⟩ := x_ipd hI ht9
          obtain ⟨kk_95, hk_96⟩ := pl_at ht9.1 hs_88
          exact va_callv (va_runU (As := []) (rest := []) ⟨hx, hb, hml, hown, hts⟩ (y_loseAll l dC dI q h0 d k z f hI (d (2000 + i)) hit_21 (nI i) (ui.2 4 i) (ui.2 22 i) (d (3000 + i)) (d (4000 + i)) rs_17 hs_22 n_18 g_19 hpa_23 hps_24 h1_25 h6_26 hcb_27 (fun j hj => by obtain ⟨b9, it9, e9, -⟩ := hpl_28 j hj; exact ⟨b9, e9⟩) hlg_29 H.size) (va_cwU 0 hts gX11_clearDesk_X4_loseAll_u336X6 rfl rfl rfl rfl (by decide +kernel) ⟨Nat.le_trans (Nat.le_of_ble_eq_true rfl) hRf, Nat.le_trans (Nat.le_of_ble_eq_true rfl) hRl⟩) ⟨gx_fb, va_recv hK hP (ci := 5) (q0 := kk_95) rfl hk_96, fun U hU hW => ⟨rfl, by rw [hU], px_to hU hW hP hK hN hXN, hD.weaken (fun _ _ _ _ => trivial)⟩⟩ rfl rfl hl.1 rfl (lv_room (Nat.le_of_ble_eq_true rfl)) dX11_clearDesk_16 ⟨hRc, hRs⟩) hS (fun q _ h => hFc q h) hFc (fun w9 t H1 locs ht hvm hw hB hz1 hk1 hS => kC w9 H1 locs hw (by rw [← ht]; exact hB.1) (hB.2.weaken (fun _ q _ h => hFc q.1 h)) hS)
        ·
          obtain ⟨nu_97, kd_98, cn_99, pa_100, fa_101, ww_102, hh_103, sz_104, hs_105, hs_106, hs_107, hs_108, hq_109, hq_110, hq_111⟩ := x_ipi hI ht9
          obtain ⟨kk_112, hk_113⟩ := pl_at ht9.1 hs_105
          exact va_callv (va_runU (As := []) (rest := []) ⟨hx, hb, hml, hown, hts⟩ (y_loseAll l dC dI q h0 d k z f hI (d (2000 + i)) hit_21 (nI i) (ui.2 4 i) (ui.2 22 i) (d (3000 + i)) (d (4000 + i)) rs_17 hs_22 n_18 g_19 hpa_23 hps_24 h1_25 h6_26 hcb_27 (fun j hj => by obtain ⟨b9, it9, e9, -⟩ := hpl_28 j hj; exact ⟨b9, e9⟩) hlg_29 H.size) (va_cwU 0 hts gX11_clearDesk_X4_loseAll_u336X7 rfl rfl rfl rfl (by decide +kernel) ⟨Nat.le_trans (Nat.le_of_ble_eq_true rfl) hRf, Nat.le_trans (Nat.le_of_ble_eq_true rfl) hRl⟩) ⟨gx_fb, va_recv hK hP (ci := 6) (q0 := kk_112) rfl hk_113, fun U hU hW => ⟨rfl, by rw [hU], px_to hU hW hP hK hN hXN, hD.weaken (fun _ _ _ _ => trivial)⟩⟩ rfl rfl hl.1 rfl (lv_room (Nat.le_of_ble_eq_true rfl)) dX11_clearDesk_16 ⟨hRc, hRs⟩) hS (fun q _ h => hFc q h) hFc (fun w9 t H1 locs ht hvm hw hB hz1 hk1 hS => kC w9 H1 locs hw (by rw [← ht]; exact hB.1) (hB.2.weaken (fun _ q _ h => hFc q.1 h)) hS)
        ·
          obtain ⟨nu_114, kd_115, cn_116, pa_117, fa_118, l_119, co_120, wd_121, nm_122, hs_123, hs_124, hs_125, hs_126, hq_127, hq_128, hq_129⟩ := x_ist hI ht9
          obtain ⟨kk_130, hk_131⟩ := pl_at ht9.1 hs_123
          exact va_callv (va_runU (As := []) (rest := []) ⟨hx, hb, hml, hown, hts⟩ (y_loseAll l dC dI q h0 d k z f hI (d (2000 + i)) hit_21 (nI i) (ui.2 4 i) (ui.2 22 i) (d (3000 + i)) (d (4000 + i)) rs_17 hs_22 n_18 g_19 hpa_23 hps_24 h1_25 h6_26 hcb_27 (fun j hj => by obtain ⟨b9, it9, e9, -⟩ := hpl_28 j hj; exact ⟨b9, e9⟩) hlg_29 H.size) (va_cwU 0 hts gX11_clearDesk_X4_loseAll_u336X10 rfl rfl rfl rfl (by decide +kernel) ⟨Nat.le_trans (Nat.le_of_ble_eq_true rfl) hRf, Nat.le_trans (Nat.le_of_ble_eq_true rfl) hRl⟩) ⟨gx_fb, va_recv hK hP (ci := 9) (q0 := kk_130) rfl hk_131, fun U hU hW => ⟨rfl, by rw [hU], px_to hU hW hP hK hN hXN, hD.weaken (fun _ _ _ _ => trivial)⟩⟩ rfl rfl hl.1 rfl (lv_room (Nat.le_of_ble_eq_true rfl)) dX11_clearDesk_16 ⟨hRc, hRs⟩) hS (fun q _ h => hFc q h) hFc (fun w9 t H1 locs ht hvm hw hB hz1 hk1 hS => kC w9 H1 locs hw (by rw [← ht]; exact hB.1) (hB.2.weaken (fun _ q _ h => hFc q.1 h)) hS)
set_option maxHeartbeats 4000000 in
set_option maxRecDepth 100000 in
theorem y_cd2 {p : Program} {l : Launch} {e : Env} {R : Room} {s : State} {m : MethodId} {args : Array Value} {below : List Frame} {meth : Method} {c : Code} {Q : State → Prop} {cells slots : Nat} {dC : Nat → ClassId} {dI : Nat → Nat → Nat} {q : Nat → ClassId} {h0 : Nat} {d : Nat → Nat} {k : Nat → Int32} {z : gS} {f0 : xF} {u : mS} {A : Nat → Prop} {H0 : Heap} (hx : p.tables.exec = Jvm.exec) (hb : c.code = cX11_clearDesk) (hml : c.maxLocals = 2) (hts : ∀ w ∈ wsX11_clearDesk, w.before args s = true) (hown : s.vm.findClass RX11 = some m.cls) (hN : NN s) (hXN : XN s) (hK : va_K (dC, dI) vwCl (xT q) s) (hRf : 2 ≤ R.frames) (hRl : 43 ≤ R.locals) (hRc : cells ≤ R.cells) (hRs : slots ≤ R.slots) (hA : ∀ q : Nat, H0.size ≤ q → A q) (kx48 : ∀ (f : xF) (H : Heap) (locs : List Loc) (ls : Array Slot), (rep q d (cd2 u 12) z f ∧ f (d 3) = f0 (d 3)) → xI q h0 d k z f → va_P (dC, dI) vwCl (va_pl z.1 f) H → va_D A (va_pl z.1 f) → va_S A H0 H locs → lv_has ls 2 [(0, .ref h0)] → W p l e R s m args below meth c H locs cells slots Q (F0 m 48 ls [])) : ∀ (kk i : Nat) (f : xF) (H : Heap) (locs : List Loc) (ls : Array Slot), i ≤ 12 → 12 - i < kk → (rep q d (cd2 u i) z f ∧ f (d 3) = f0 (d 3)) → xI q h0 d k z f → va_P (dC, dI) vwCl (va_pl z.1 f) H → va_D A (va_pl z.1 f) → va_S A H0 H locs → lv_has ls 2 [(1, .int (nI i)), (0, .ref h0)] → W p l e R s m args below meth c H locs cells slots Q (F0 m 27 ls []) := by
  intro kk
  induction kk with
  | zero => intro i f H locs ls h1 h2; exact absurd h2 (Nat.not_lt_zero _)
  | succ kk ih =>
    intro i f H locs ls hi hkk hg hI hP hD hS hl
    obtain ⟨ui, eui⟩ : ∃ y : mS, y = cd2 u i := ⟨_, rfl⟩
    have hrpi : rep q d ui z f := by rw [eui]; exact hg.1
    refine lv_iload_n hx hb dX11_clearDesk_27 rfl (lv_at hl 0 rfl) ?_
    refine lv_bipush (v := 12) hx hb dX11_clearDesk_28 (by decide) ?_
    refine lv_icmp_ge (tgt := 48) hx hb dX11_clearDesk_30 (by decide) (fun c_1 => ?_) (fun c_1 => ?_)
    ·
      have hie : i = 12 := lp_eq rfl (by decide) hi c_1
      exact kx48 _ _ _ ls (by rw [hie] at hg; exact hg) hI hP hD hS (lv_sub hl [1] rfl)
    ·
      have hlt : i < 12 := lp_lt rfl (by decide) hi c_1
      refine lv_aload_n hx hb dX11_clearDesk_33 rfl (lv_at hl 1 rfl) ?_
      obtain ⟨kk_2, hk_3⟩ := pl_at hI.2.1.1.1 hI.2.2.2.1.1
      refine va_get (D := (dC, dI)) (ci := 10) (v := .ref (d 0)) (C := RX11) (T := TX11) (N := 9) hx hb hts (by decide +kernel) hown hK hP kk_2 hk_3 rfl 0 (by decide) (hts (.fieldLink RX11 11 "PageOne" "pages" "[LPageOne$Sheet;") (by decide +kernel)) (fun _ h9 => h9) rfl dX11_clearDesk_34 ?_
      refine lv_iload_n hx hb dX11_clearDesk_37 rfl (lv_at hl 0 rfl) ?_
      obtain ⟨g_4, hs_5, hg_6⟩ := x_pg hI hI.2.1.2.1
      obtain ⟨kk_7, hk_8⟩ := pl_at hI.2.1.2.1.1 hs_5
      refine va_aldq hx hb hK hP kk_7 2 hk_8 rfl (vp_in_nI hlt (by decide)) dX11_clearDesk_38 ?_
      obtain ⟨b_9, hg_10, ht_11⟩ := hg_6 _ (vlt (vp_in_nI hlt (by decide)))
      rw [hg_10]
      refine W.eq (g2 := F0 m 39 ls [.ref b_9]) rfl ?_
      have hb_12 := pg_at hrpi.1 hs_5 hlt (by rw [nI_clamp (by omega)] at hg_10; exact hg_10)
      subst hb_12
      obtain ⟨dd_13, ii_14, gl_15, gc_16, ht_17, ht_18, ht_19, hs_20, hg_21, hgb_22, hc_23, el_24, ec_25⟩ := pg_all hI hrpi.1 hlt
      obtain ⟨kk_26, hk_27⟩ := pl_at ht_17.1 hs_20
      have hFc := fr_all hD hS hA
      refine va_callv (va_runV (As := []) (rest := []) ⟨hx, hb, hml, hown, hts⟩ (y_clear l dC dI q h0 d k z f hI (d (10 + i)) (d (30 + i)) (d (50 + i)) (ui.2 1 i) dd_13 ii_14 gl_15 gc_16 ht_17 hs_20 ht_18 ht_19 hg_21 hgb_22 hc_23 H.size) (cwV 0 hts gX11_clearDesk_X9_clear rfl rfl rfl (by decide +kernel) ⟨Nat.le_trans (Nat.le_of_ble_eq_true rfl) hRf, Nat.le_trans (Nat.le_of_ble_eq_true rfl) hRl⟩) ⟨gx_fb, va_recv hK hP (ci := 8) (q0 := kk_26) rfl hk_27, fun U hU hW => ⟨rfl, by rw [hU], px_to hU hW hP hK hN hXN, hD.weaken (fun _ _ _ _ => trivial)⟩⟩ rfl rfl hl.1 rfl (lv_room (Nat.le_of_ble_eq_true rfl)) dX11_clearDesk_39 ⟨hRc, hRs⟩) hS (fun q _ h => hFc q h) hFc (fun w_28 t H1 locs ht hvm hw hB hz1 hk1 hS => ?_)
      obtain ⟨hP, hD1⟩ := hB
      rw [ht] at hP
      rw [hw.2.1] at hP hD1
      have hD := hD1.weaken (fun _ q _ h => hFc q.1 h)
      have hI := hw.2.2.1
      have hw0 := hw
      generalize w_28.2.2 = f_29 at hP hD hI hw0
      generalize H1 = H at hP hS ⊢
      refine lv_iinc (v := (nI (i + 1))) (lv' := [(1, .int (nI (i + 1))), (0, .ref h0)]) hx hb dX11_clearDesk_42 hl (k := 0) rfl (nI_1 i) (by decide) rfl (fun ls hl => ?_)
      refine lv_goto (tgt := 27) hx hb dX11_clearDesk_45 (by decide) ?_
      exact ih (i + 1) _ _ _ ls (by omega) (by omega) (by obtain ⟨-, -, -, g2, hf2, hg2⟩ := hw0; refine ⟨?_, ?_⟩; rw [← cd2_s u i, ← eui, hf2]; exact rep_clear hrpi hlt hg2; rw [hf2, up_o (tg_ne hI.2.1.2.2.2.2.1 ht_19 (by decide))]; exact hg.2) hI hP hD hS (lv_sub hl [0, 1] rfl)
set_option maxHeartbeats 4000000 in
set_option maxRecDepth 100000 in
theorem y_cd3 {p : Program} {l : Launch} {e : Env} {R : Room} {s : State} {m : MethodId} {args : Array Value} {below : List Frame} {meth : Method} {c : Code} {Q : State → Prop} {cells slots : Nat} {dC : Nat → ClassId} {dI : Nat → Nat → Nat} {q : Nat → ClassId} {h0 : Nat} {d : Nat → Nat} {k : Nat → Int32} {z : gS} {u : mS} {K : Nat} (hK3 : K ≤ 300) (eK : k 1 = nI K) {A : Nat → Prop} {H0 : Heap} (hx : p.tables.exec = Jvm.exec) (hb : c.code = cX11_clearDesk) (hml : c.maxLocals = 2) (hts : ∀ w ∈ wsX11_clearDesk, w.before args s = true) (hown : s.vm.findClass RX11 = some m.cls) (hN : NN s) (hXN : XN s) (hK : va_K (dC, dI) vwCl (xT q) s) (hA : ∀ q : Nat, H0.size ≤ q → A q) (kx71 : ∀ (f : xF) (H : Heap) (locs : List Loc) (ls : Array Slot), (rep q d u z f ∧ ∃ g, f (d 3) = aR (q 4) 300 g) → xI q h0 d k z f → va_P (dC, dI) vwCl (va_pl z.1 f) H → va_D A (va_pl z.1 f) → va_S A H0 H locs → lv_has ls 2 [(0, .ref h0)] → W p l e R s m args below meth c H locs cells slots Q (F0 m 71 ls [])) : ∀ (kk i : Nat) (f : xF) (H : Heap) (locs : List Loc) (ls : Array Slot), i ≤ K → K - i < kk → (rep q d u z f ∧ ∃ g, f (d 3) = aR (q 4) 300 g) → xI q h0 d k z f → va_P (dC, dI) vwCl (va_pl z.1 f) H → va_D A (va_pl z.1 f) → va_S A H0 H locs → lv_has ls 2 [(1, .int (nI i)), (0, .ref h0)] → W p l e R s m args below meth c H locs cells slots Q (F0 m 50 ls []) := by
  intro kk
  induction kk with
  | zero => intro i f H locs ls h1 h2; exact absurd h2 (Nat.not_lt_zero _)
  | succ kk ih =>
    intro i f H locs ls hi hkk hg hI hP hD hS hl
    refine lv_iload_n hx hb dX11_clearDesk_50 rfl (lv_at hl 0 rfl) ?_
    refine lv_aload_n hx hb dX11_clearDesk_51 rfl (lv_at hl 1 rfl) ?_
    obtain ⟨kk_1, hk_2⟩ := pl_at hI.2.1.1.1 hI.2.2.2.1.1
    refine va_get (D := (dC, dI)) (ci := 10) (v := .int (k 1)) (C := RX11) (T := TX11) (N := 9) hx hb hts (by decide +kernel) hown hK hP kk_1 hk_2 rfl 5 (by decide) (hts (.fieldLink RX11 34 "PageOne" "actCount" "I") (by decide +kernel)) (fun _ h9 => h9) rfl dX11_clearDesk_52 ?_
    refine lv_topi (fun y_3 ey_3 => ?_)
    obtain rfl : y_3 = (nI K) := ey_3.trans (eK)
    refine lv_icmp_ge (tgt := 71) hx hb dX11_clearDesk_55 (by decide) (fun c_4 => ?_) (fun c_4 => ?_)
    ·
      have hie : i = K := lp_eq rfl (by omega) hi c_4
      exact kx71 _ _ _ ls hg hI hP hD hS (lv_sub hl [1] rfl)
    ·
      have hlt : i < K := lp_lt rfl (by omega) hi c_4
      refine lv_aload_n hx hb dX11_clearDesk_58 rfl (lv_at hl 1 rfl) ?_
      obtain ⟨kk_5, hk_6⟩ := pl_at hI.2.1.1.1 hI.2.2.2.1.1
      refine va_get (D := (dC, dI)) (ci := 10) (v := .ref (d 3)) (C := RX11) (T := TX11) (N := 9) hx hb hts (by decide +kernel) hown hK hP kk_5 hk_6 rfl 4 (by decide) (hts (.fieldLink RX11 30 "PageOne" "acts" "[LPageOne$Act;") (by decide +kernel)) (fun _ h9 => h9) rfl dX11_clearDesk_59 ?_
      refine lv_iload_n hx hb dX11_clearDesk_62 rfl (lv_at hl 0 rfl) ?_
      refine lv_null hx hb dX11_clearDesk_63 ?_
      obtain ⟨g_7, hs_8, hg_9⟩ := x_ac hI hI.2.1.2.2.2.2.1
      obtain ⟨kk_10, hk_11⟩ := pl_at hI.2.1.2.2.2.2.1.1 hs_8
      have hD0 := hD
      refine va_astqN hx hb hK hP hD hS kk_10 4 hk_11 rfl (vp_in_nI (by omega) (by decide)) dX11_clearDesk_64 (fun H locs hP hD hS => ?_)
      rw [pl_set hD0 hI.2.1.2.2.2.2.1.1 hs_8 hk_11] at hP hD
      obtain ⟨f_12, ef_12⟩ : ∃ y : xF, y = va_up f (d 3) (aR (q 4) 300 (va_up g_7 ((nI i) : Int32).toNatClampNeg none)) := ⟨_, rfl⟩
      have hI : xI q h0 d k z f_12 := by rw [ef_12]; exact x_up hI hI.2.1.2.2.2.2.1 (by decide) (cO_5 hI.2.1.2.2.2.2.1.2 ⟨_, rfl, ty_up hg_9 ty_n⟩)
      have hP : va_P (dC, dI) vwCl (va_pl z.1 f_12) H := by rw [ef_12]; exact hP
      have hD : va_D A (va_pl z.1 f_12) := by rw [ef_12]; exact hD
      refine lv_iinc (v := (nI (i + 1))) (lv' := [(1, .int (nI (i + 1))), (0, .ref h0)]) hx hb dX11_clearDesk_65 hl (k := 0) rfl (nI_1 i) (by decide) rfl (fun ls hl => ?_)
      refine lv_goto (tgt := 50) hx hb dX11_clearDesk_68 (by decide) ?_
      exact ih (i + 1) _ _ _ ls (by omega) (by omega) ⟨by rw [ef_12]; exact rep_3 hg.1 (fK_up (fK_rf d z _ _) hg.1.2.2.2.2.2.2.2.1 (by decide) rfl), _, by rw [ef_12]; exact up_s⟩ hI hP hD hS (lv_sub hl [0, 1] rfl)
def cdU (u : mS) : mS := cd2 (cd1 u (u.1 3).toNatClampNeg) 12
set_option maxHeartbeats 4000000 in
set_option maxRecDepth 100000 in
theorem y_clearDesk (l : Launch) (dC : Nat → ClassId) (dI : Nat → Nat → Nat) (q : Nat → ClassId) (h0 : Nat) (d : Nat → Nat) (k : Nat → Int32) (z : gS) (f : xF) (hI : xI q h0 d k z f) (u : mS) (hrp : rep q d u z f) (hk0 : k 0 = u.1 3) (hk1 : k 1 = u.1 28) (hk2 : k 2 = u.1 38) (hk3 : k 3 = u.1 39) (hz0 : (z.2 h0).2.1 = 0) (sz : Nat) : Met l yX11_clearDesk wsX11_clearDesk ({ frames := 2, cells := 0, slots := 0, locals := 43 }) (va_Pc [.ref h0] (fun U => U.heap.size = sz ∧ PX dC dI (va_pl z.1 f) (xT q) U ∧ va_D (fun _ => True) (va_pl z.1 f))) (va_Qv (fun (w : xU) => w.1 = kup k 1 0 ∧ w.2.1 = z ∧ xI q h0 d w.1 z w.2.2 ∧ rep q d (cdU u) z w.2.2 ∧ ∃ g, w.2.2 (d 3) = aR (q 4) 300 g) (fun (w : xU) t => va_P (dC, dI) vwCl (va_pl w.2.1.1 w.2.2) t.heap ∧ va_D (va_A (va_pl z.1 f) sz) (va_pl w.2.1.1 w.2.2)) (va_A (va_pl z.1 f) sz)) 0 0 (va_A (va_pl z.1 f) sz) := by
  refine Met.ofW (cc := cX11_clearDesk) (maxL := 2) (ret := none) (by decide) rfl ?_
  intro p e s m args below meth c s₁ B hml hv
  obtain ⟨rfl, hsz, ⟨⟨hP, hK, hN⟩, hXN⟩, hD0⟩ := hv
  have hx := B.exec
  have hb := B.bytes
  have hr := B.returns
  have hts := atoms_spec (ws := wsX11_clearDesk) B.pre
  have hown : s.vm.findClass RX11 = some m.cls := findClass_of_methodNamed B.named
  have hlocks := B.notSynchronized
  subst hsz
  have hD := hD0.self (sz := s.heap.size)
  generalize hAe : va_A (va_pl z.1 f) s.heap.size = A at hD ⊢
  have hA : ∀ q : Nat, s.heap.size ≤ q → A q := fun q h => by rw [← hAe]; exact Or.inr h
  have hS : va_S A s.heap s.heap [] := va_S.rf
  have hl := lv_entry ([.ref h0]) (n := 2) (Nat.le_of_ble_eq_true rfl)
  rw [lg_entry_eq]
  generalize (lg_sl ([.ref h0]) ++ List.replicate (2 - (lg_sl ([.ref h0])).length) Slot.unset).toArray = ls at hl ⊢
  have hl : lv_has ls 2 [(0, .ref h0)] := hl
  have hIo := hI
  refine lv_iconst (v := 0) hx hb dX11_clearDesk_0 (by decide) ?_
  refine lv_istore_n (lv' := [(1, .int 0), (0, .ref h0)]) hx hb dX11_clearDesk_1 rfl hl (by decide) rfl (fun ls hl => ?_)
  obtain ⟨K, hK8, -, eK⟩ := exN hI.1.1 (by decide)
  have h80 : (80 : Int32).toInt = 80 := rfl
  obtain ⟨K2, hK3, -, eK2⟩ := exN hI.1.2.1 (by decide)
  have h300 : (300 : Int32).toInt = 300 := rfl
  have eKn : (u.1 3).toNatClampNeg = K := by rw [← hk0, eK, nI_clamp (by omega)]
  refine y_cd1 (f0 := f) (u := u) (K := K) hk0 (by omega) eK eKn hx hb hml hts hown hN hXN hK (Nat.le_of_ble_eq_true rfl) (Nat.le_of_ble_eq_true rfl) (Nat.le_of_ble_eq_true rfl) (Nat.le_of_ble_eq_true rfl) hA (fun f1 H locs ls hg1 hI hP hD hS hl => ?_) (K + 1) 0 _ _ _ ls (Nat.zero_le _) (by omega) ⟨by rw [cd1_0]; exact hrp, rfl⟩ hI hP hD hS (lv_sub hl [0, 1] rfl)
  refine lv_iconst (v := 0) hx hb dX11_clearDesk_25 (by decide) ?_
  refine lv_istore_n (lv' := [(1, .int 0), (0, .ref h0)]) hx hb dX11_clearDesk_26 rfl hl (by decide) rfl (fun ls hl => ?_)
  refine y_cd2 (f0 := f) (u := cd1 u K) hx hb hml hts hown hN hXN hK (Nat.le_of_ble_eq_true rfl) (Nat.le_of_ble_eq_true rfl) (Nat.le_of_ble_eq_true rfl) (Nat.le_of_ble_eq_true rfl) hA (fun f2 H locs ls hg2 hI hP hD hS hl => ?_) 13 0 _ _ _ ls (by decide) (by decide) ⟨by rw [cd2_0]; exact hg1.1, hg1.2⟩ hI hP hD hS (lv_sub hl [0, 1] rfl)
  refine lv_iconst (v := 0) hx hb dX11_clearDesk_48 (by decide) ?_
  refine lv_istore_n (lv' := [(1, .int 0), (0, .ref h0)]) hx hb dX11_clearDesk_49 rfl hl (by decide) rfl (fun ls hl => ?_)
  refine y_cd3 (u := cd2 (cd1 u K) 12) (K := K2) (by omega) eK2 hx hb hml hts hown hN hXN hK hA (fun f3 H locs ls hg3 hI hP hD hS hl => ?_) (K2 + 1) 0 _ _ _ ls (Nat.zero_le _) (by omega) ⟨hg2.1, by rw [hg2.2]; obtain ⟨g, hg, -⟩ := x_ac hIo hIo.2.1.2.2.2.2.1; exact ⟨g, hg⟩⟩ hI hP hD hS (lv_sub hl [0, 1] rfl)
  have hI3 := hI
  refine lv_aload_n hx hb dX11_clearDesk_71 rfl (lv_at hl 0 rfl) ?_
  refine lv_iconst (v := 0) hx hb dX11_clearDesk_72 (by decide) ?_
  obtain ⟨kk_1, hk_2⟩ := pl_at hI.2.1.1.1 hI.2.2.2.1.1
  have hD0 := hD
  refine va_put (D := (dC, dI)) (ci := 10) (v := .int 0) (ty := .int) (C := RX11) (T := TX11) (N := 9) hx hb hts (by decide +kernel) tyX11 tyX11_ok nmX11 hown hK hP hD hS kk_1 hk_2 rfl 5 (by decide) (hts (.fieldLink RX11 34 "PageOne" "actCount" "I") (by decide +kernel)) (fun _ h9 => h9) rfl (by decide +kernel) rfl rfl (Nat.le_of_ble_eq_true rfl) dX11_clearDesk_73 (fun H locs hP hD hS => ?_)
  obtain ⟨k_3, ek_3⟩ : ∃ y : Nat → Int32, y = kup k 1 0 := ⟨_, rfl⟩
  rw [pl_set hD0 hI.2.1.1.1 hI.2.2.2.1.1 hk_2] at hP hD
  obtain ⟨f_4, ef_4⟩ : ∃ y : xF, y = va_up f3 h0 (.inr (10, dkF d k_3)) := ⟨_, rfl⟩
  have hP : va_P (dC, dI) vwCl (va_pl z.1 f_4) H := by rw [ef_4, ek_3]; exact hP
  have hD : va_D A (va_pl z.1 f_4) := by rw [ef_4, ek_3]; exact hD
  have hI : xI q h0 d k_3 z f_4 := by rw [ef_4]; exact x_dk hI (by rw [ek_3]; exact ⟨hI.1.1, by rw [kup_s]; decide, hI.1.2.2⟩) (by rw [ek_3]; exact Nat.le_refl _)
  exact W.vret hx hb hr (fun t ht hW => ⟨⟨(k_3, z, f_4), rfl, ⟨by rw [ek_3], rfl, hI, by show rep q d (cdU u) z f_4; unfold cdU; rw [eKn, ef_4]; exact rep_h0 hg3.1 hI3 hz0, by obtain ⟨-, g, hg⟩ := hg3; exact ⟨g, by show f_4 (d 3) = _; rw [ef_4, up_o (tg_ne hI3.2.1.2.2.2.2.1 hI3.2.1.1 (by decide))]; exact hg⟩⟩, by rw [ht]; exact hP, hD⟩, hS.F ht⟩) hS.2.2 dX11_clearDesk_76
