set_option maxHeartbeats 4000000 in
set_option maxRecDepth 100000 in
theorem x_cd1 {p : Program} {l : Launch} {e : Env} {R : Room} {s : State} {m : MethodId} {args : Array Value} {below : List Frame} {meth : Method} {c : Code} {Q : State → Prop} {cells slots : Nat} {dC : Nat → ClassId} {dI : Nat → Nat → Nat} {q : Nat → ClassId} {h0 : Nat} {d : Nat → Nat} {k : Nat → Int32} {z : gS} {K : Nat} (hK8 : K ≤ 80) (eK : k 0 = nI K) {A : Nat → Prop} {H0 : Heap} (hx : p.tables.exec = Jvm.exec) (hb : c.code = cX11_clearDesk) (hml : c.maxLocals = 2) (hts : ∀ w ∈ wsX11_clearDesk, w.before args s = true) (hown : s.vm.findClass RX11 = some m.cls) (hN : NN s) (hXN : XN s) (hK : va_K (dC, dI) vwCl (xT q) s) (hRf : 1 ≤ R.frames) (hRl : 21 ≤ R.locals) (hRc : cells ≤ R.cells) (hRs : slots ≤ R.slots) (hA : ∀ q : Nat, H0.size ≤ q → A q) (kx25 : ∀ (f : xF) (H : Heap) (locs : List Loc) (ls : Array Slot), xI q h0 d k z f → va_P (dC, dI) vwCl (va_pl z.1 f) H → va_D A (va_pl z.1 f) → va_S A H0 H locs → lv_has ls 2 [(0, .ref h0)] → W p l e R s m args below meth c H locs cells slots Q (F0 m 25 ls [])) : ∀ (kk i : Nat) (f : xF) (H : Heap) (locs : List Loc) (ls : Array Slot), i ≤ K → K - i < kk → xI q h0 d k z f → va_P (dC, dI) vwCl (va_pl z.1 f) H → va_D A (va_pl z.1 f) → va_S A H0 H locs → lv_has ls 2 [(1, .int (nI i)), (0, .ref h0)] → W p l e R s m args below meth c H locs cells slots Q (F0 m 2 ls []) := by
  intro kk
  induction kk with
  | zero => intro i f H locs ls h1 h2; exact absurd h2 (Nat.not_lt_zero _)
  | succ kk ih =>
    intro i f H locs ls hi hkk hI hP hD hS hl
    refine lv_iload_n hx hb dX11_clearDesk_2 rfl (lv_at hl 0 rfl) ?_
    refine lv_aload_n hx hb dX11_clearDesk_3 rfl (lv_at hl 1 rfl) ?_
    obtain ⟨kk_1, hk_2⟩ := pl_at hI.2.1.1.1 hI.2.2.2.1.1
    refine va_get (D := (dC, dI)) (ci := 10) (v := .int (k 0)) (C := RX11) (T := TX11) (N := 9) hx hb hts (by decide +kernel) hown hK hP kk_1 hk_2 rfl 3 (by decide) (hts (.fieldLink RX11 24 "PageOne" "itemCount" "I") (by decide +kernel)) (fun _ h9 => h9) rfl dX11_clearDesk_4 ?_
    refine lv_topi (fun y_3 ey_3 => ?_)
    obtain rfl : y_3 = (nI K) := ey_3.trans (eK)
    refine lv_icmp_ge (tgt := 25) hx hb dX11_clearDesk_7 (by decide) (fun c_4 => ?_) (fun c_4 => ?_)
    ·
      have hie : i = K := lp_eq rfl (by omega) hi c_4
      exact kx25 _ _ _ ls hI hP hD hS (lv_sub hl [1] rfl)
    ·
      have hlt : i < K := lp_lt rfl (by omega) hi c_4
      refine lv_aload_n hx hb dX11_clearDesk_10 rfl (lv_at hl 1 rfl) ?_
      obtain ⟨kk_5, hk_6⟩ := pl_at hI.2.1.1.1 hI.2.2.2.1.1
      refine va_get (D := (dC, dI)) (ci := 10) (v := .ref (d 2)) (C := RX11) (T := TX11) (N := 9) hx hb hts (by decide +kernel) hown hK hP kk_5 hk_6 rfl 2 (by decide) (hts (.fieldLink RX11 20 "PageOne" "items" "[LPageOne$Item;") (by decide +kernel)) (fun _ h9 => h9) rfl dX11_clearDesk_11 ?_
      refine lv_iload_n hx hb dX11_clearDesk_14 rfl (lv_at hl 0 rfl) ?_
      obtain ⟨g_7, hs_8, hn_9, hg_10⟩ := x_itm hI
      obtain ⟨kk_11, hk_12⟩ := pl_at hI.2.1.2.2.2.1.1 hs_8
      refine va_aldq hx hb hK hP kk_11 3 hk_12 rfl (vp_in_nI (by omega) (by decide)) dX11_clearDesk_15 ?_
      obtain ⟨b_13, hg_14⟩ := hn_9 ((nI i) : Int32).toNatClampNeg (by rw [eK, nI_clamp (by omega), nI_clamp (by omega)]; exact hlt)
      have ht_15 := hg_10 ((nI i) : Int32).toNatClampNeg (vlt (vp_in_nI (by omega) (by decide))) b_13 hg_14
      rw [hg_14]
      refine W.eq (g2 := F0 m 16 ls [.ref b_13]) rfl ?_
      have hFc := fr_all hD hS hA
      refine w_cut (X := fun R cells slots Q args => ∀ (w9 : xU) (H : Heap) (locs : List Loc), (w9.1 = k ∧ w9.2.1 = z ∧ xI q h0 d k z w9.2.2) → va_P (dC, dI) vwCl (va_pl w9.2.1.1 w9.2.2) H → va_D A (va_pl w9.2.1.1 w9.2.2) → va_S A H0 H locs → W p l e R s m args below meth c H locs (cells + 0) (slots + 0) Q (F0 m 19 ls ([]))) ?_ (fun kC => ?_)
      ·
        intro w_16 H locs hw hP hD hS
        rw [hw.2.1] at hP hD
        have hI := hw.2.2
        generalize w_16.2.2 = f_112 at hP hD hI
        refine lv_iinc (v := (nI (i + 1))) (lv' := [(1, .int (nI (i + 1))), (0, .ref h0)]) hx hb dX11_clearDesk_19 hl (k := 0) rfl (nI_1 i) (by decide) rfl (fun ls hl => ?_)
        refine lv_goto (tgt := 2) hx hb dX11_clearDesk_22 (by decide) ?_
        exact ih (i + 1) _ _ _ ls (by omega) (by omega) hI hP hD hS (lv_sub hl [0, 1] rfl)
      ·
        rcases x_tag ht_15 with ht9 | ht9 | ht9 | ht9 | ht9 | ht9
        ·
          obtain ⟨nu_17, kd_18, cn_19, pa_20, fa_21, l_22, m_23, hs_24, hs_25, hs_26, hs_27⟩ := x_ifl hI ht9
          obtain ⟨kk_28, hk_29⟩ := pl_at ht9.1 hs_24
          exact va_callv (va_runU (As := []) (rest := []) ⟨hx, hb, hml, hown, hts⟩ (x_loseAll l dC dI q h0 d k z f hI b_13 ht_15 H.size) (va_cwU 0 hts gX11_clearDesk_X4_loseAll_u336X2 rfl rfl rfl rfl (by decide +kernel) ⟨Nat.le_trans (Nat.le_of_ble_eq_true rfl) hRf, Nat.le_trans (Nat.le_of_ble_eq_true rfl) hRl⟩) ⟨gx_fb, va_recv hK hP (ci := 2) (q0 := kk_28) rfl hk_29, fun U hU hW => ⟨rfl, by rw [hU], px_to hU hW hP hK hN hXN, hD.weaken (fun _ _ _ _ => trivial)⟩⟩ rfl rfl hl.1 rfl (lv_room (Nat.le_of_ble_eq_true rfl)) dX11_clearDesk_16 ⟨hRc, hRs⟩) hS (fun q _ h => hFc q h) hFc (fun w9 t H1 locs ht hvm hw hB hz1 hk1 hS => kC w9 H1 locs hw (by rw [← ht]; exact hB.1) (hB.2.weaken (fun _ q _ h => hFc q.1 h)) hS)
        ·
          obtain ⟨nu_30, kd_31, cn_32, pa_33, fa_34, o_35, w_36, y_37, hs_38, hs_39, hs_40, hs_41, hq_42⟩ := x_ihd hI ht9
          obtain ⟨kk_43, hk_44⟩ := pl_at ht9.1 hs_38
          exact va_callv (va_runU (As := []) (rest := []) ⟨hx, hb, hml, hown, hts⟩ (x_loseAll l dC dI q h0 d k z f hI b_13 ht_15 H.size) (va_cwU 0 hts gX11_clearDesk_X4_loseAll_u336X3 rfl rfl rfl rfl (by decide +kernel) ⟨Nat.le_trans (Nat.le_of_ble_eq_true rfl) hRf, Nat.le_trans (Nat.le_of_ble_eq_true rfl) hRl⟩) ⟨gx_fb, va_recv hK hP (ci := 3) (q0 := kk_43) rfl hk_44, fun U hU hW => ⟨rfl, by rw [hU], px_to hU hW hP hK hN hXN, hD.weaken (fun _ _ _ _ => trivial)⟩⟩ rfl rfl hl.1 rfl (lv_room (Nat.le_of_ble_eq_true rfl)) dX11_clearDesk_16 ⟨hRc, hRs⟩) hS (fun q _ h => hFc q h) hFc (fun w9 t H1 locs ht hvm hw hB hz1 hk1 hS => kC w9 H1 locs hw (by rw [← ht]; exact hB.1) (hB.2.weaken (fun _ q _ h => hFc q.1 h)) hS)
        ·
          obtain ⟨nu_45, kd_46, cn_47, pa_48, fa_49, o_50, y_51, hs_52, hs_53, hs_54, hs_55, hq_56⟩ := x_ino hI ht9
          obtain ⟨kk_57, hk_58⟩ := pl_at ht9.1 hs_52
          exact va_callv (va_runU (As := []) (rest := []) ⟨hx, hb, hml, hown, hts⟩ (x_loseAll l dC dI q h0 d k z f hI b_13 ht_15 H.size) (va_cwU 0 hts gX11_clearDesk_X4_loseAll_u336X5 rfl rfl rfl rfl (by decide +kernel) ⟨Nat.le_trans (Nat.le_of_ble_eq_true rfl) hRf, Nat.le_trans (Nat.le_of_ble_eq_true rfl) hRl⟩) ⟨gx_fb, va_recv hK hP (ci := 4) (q0 := kk_57) rfl hk_58, fun U hU hW => ⟨rfl, by rw [hU], px_to hU hW hP hK hN hXN, hD.weaken (fun _ _ _ _ => trivial)⟩⟩ rfl rfl hl.1 rfl (lv_room (Nat.le_of_ble_eq_true rfl)) dX11_clearDesk_16 ⟨hRc, hRs⟩) hS (fun q _ h => hFc q h) hFc (fun w9 t H1 locs ht hvm hw hB hz1 hk1 hS => kC w9 H1 locs hw (by rw [← ht]; exact hB.1) (hB.2.weaken (fun _ q _ h => hFc q.1 h)) hS)
        ·
          obtain ⟨nu_59, kd_60, cn_61, pa_62, fa_63, b_64, pr_65, sp_66, dy_67, hs_68, hs_69, hs_70, hs_71, hq_72, hq_73, hq_74⟩ := x_ipd hI ht9
          obtain ⟨kk_75, hk_76⟩ := pl_at ht9.1 hs_68
          exact va_callv (va_runU (As := []) (rest := []) ⟨hx, hb, hml, hown, hts⟩ (x_loseAll l dC dI q h0 d k z f hI b_13 ht_15 H.size) (va_cwU 0 hts gX11_clearDesk_X4_loseAll_u336X6 rfl rfl rfl rfl (by decide +kernel) ⟨Nat.le_trans (Nat.le_of_ble_eq_true rfl) hRf, Nat.le_trans (Nat.le_of_ble_eq_true rfl) hRl⟩) ⟨gx_fb, va_recv hK hP (ci := 5) (q0 := kk_75) rfl hk_76, fun U hU hW => ⟨rfl, by rw [hU], px_to hU hW hP hK hN hXN, hD.weaken (fun _ _ _ _ => trivial)⟩⟩ rfl rfl hl.1 rfl (lv_room (Nat.le_of_ble_eq_true rfl)) dX11_clearDesk_16 ⟨hRc, hRs⟩) hS (fun q _ h => hFc q h) hFc (fun w9 t H1 locs ht hvm hw hB hz1 hk1 hS => kC w9 H1 locs hw (by rw [← ht]; exact hB.1) (hB.2.weaken (fun _ q _ h => hFc q.1 h)) hS)
        ·
          obtain ⟨nu_77, kd_78, cn_79, pa_80, fa_81, ww_82, hh_83, sz_84, hs_85, hs_86, hs_87, hs_88, hq_89, hq_90, hq_91⟩ := x_ipi hI ht9
          obtain ⟨kk_92, hk_93⟩ := pl_at ht9.1 hs_85
          exact va_callv (va_runU (As := []) (rest := []) ⟨hx, hb, hml, hown, hts⟩ (x_loseAll l dC dI q h0 d k z f hI b_13 ht_15 H.size) (va_cwU 0 hts gX11_clearDesk_X4_loseAll_u336X7 rfl rfl rfl rfl (by decide +kernel) ⟨Nat.le_trans (Nat.le_of_ble_eq_true rfl) hRf, Nat.le_trans (Nat.le_of_ble_eq_true rfl) hRl⟩) ⟨gx_fb, va_recv hK hP (ci := 6) (q0 := kk_92) rfl hk_93, fun U hU hW => ⟨rfl, by rw [hU], px_to hU hW hP hK hN hXN, hD.weaken (fun _ _ _ _ => trivial)⟩⟩ rfl rfl hl.1 rfl (lv_room (Nat.le_of_ble_eq_true rfl)) dX11_clearDesk_16 ⟨hRc, hRs⟩) hS (fun q _ h => hFc q h) hFc (fun w9 t H1 locs ht hvm hw hB hz1 hk1 hS => kC w9 H1 locs hw (by rw [← ht]; exact hB.1) (hB.2.weaken (fun _ q _ h => hFc q.1 h)) hS)
        ·
          obtain ⟨nu_94, kd_95, cn_96, pa_97, fa_98, l_99, co_100, wd_101, nm_102, hs_103, hs_104, hs_105, hs_106, hq_107, hq_108, hq_109⟩ := x_ist hI ht9
          obtain ⟨kk_110, hk_111⟩ := pl_at ht9.1 hs_103
          exact va_callv (va_runU (As := []) (rest := []) ⟨hx, hb, hml, hown, hts⟩ (x_loseAll l dC dI q h0 d k z f hI b_13 ht_15 H.size) (va_cwU 0 hts gX11_clearDesk_X4_loseAll_u336X10 rfl rfl rfl rfl (by decide +kernel) ⟨Nat.le_trans (Nat.le_of_ble_eq_true rfl) hRf, Nat.le_trans (Nat.le_of_ble_eq_true rfl) hRl⟩) ⟨gx_fb, va_recv hK hP (ci := 9) (q0 := kk_110) rfl hk_111, fun U hU hW => ⟨rfl, by rw [hU], px_to hU hW hP hK hN hXN, hD.weaken (fun _ _ _ _ => trivial)⟩⟩ rfl rfl hl.1 rfl (lv_room (Nat.le_of_ble_eq_true rfl)) dX11_clearDesk_16 ⟨hRc, hRs⟩) hS (fun q _ h => hFc q h) hFc (fun w9 t H1 locs ht hvm hw hB hz1 hk1 hS => kC w9 H1 locs hw (by rw [← ht]; exact hB.1) (hB.2.weaken (fun _ q _ h => hFc q.1 h)) hS)
set_option maxHeartbeats 4000000 in
set_option maxRecDepth 100000 in
theorem x_cd2 {p : Program} {l : Launch} {e : Env} {R : Room} {s : State} {m : MethodId} {args : Array Value} {below : List Frame} {meth : Method} {c : Code} {Q : State → Prop} {cells slots : Nat} {dC : Nat → ClassId} {dI : Nat → Nat → Nat} {q : Nat → ClassId} {h0 : Nat} {d : Nat → Nat} {k : Nat → Int32} {z : gS} {A : Nat → Prop} {H0 : Heap} (hx : p.tables.exec = Jvm.exec) (hb : c.code = cX11_clearDesk) (hml : c.maxLocals = 2) (hts : ∀ w ∈ wsX11_clearDesk, w.before args s = true) (hown : s.vm.findClass RX11 = some m.cls) (hN : NN s) (hXN : XN s) (hK : va_K (dC, dI) vwCl (xT q) s) (hRf : 2 ≤ R.frames) (hRl : 43 ≤ R.locals) (hRc : cells ≤ R.cells) (hRs : slots ≤ R.slots) (hA : ∀ q : Nat, H0.size ≤ q → A q) (kx48 : ∀ (f : xF) (H : Heap) (locs : List Loc) (ls : Array Slot), xI q h0 d k z f → va_P (dC, dI) vwCl (va_pl z.1 f) H → va_D A (va_pl z.1 f) → va_S A H0 H locs → lv_has ls 2 [(0, .ref h0)] → W p l e R s m args below meth c H locs cells slots Q (F0 m 48 ls [])) : ∀ (kk i : Nat) (f : xF) (H : Heap) (locs : List Loc) (ls : Array Slot), i ≤ 12 → 12 - i < kk → xI q h0 d k z f → va_P (dC, dI) vwCl (va_pl z.1 f) H → va_D A (va_pl z.1 f) → va_S A H0 H locs → lv_has ls 2 [(1, .int (nI i)), (0, .ref h0)] → W p l e R s m args below meth c H locs cells slots Q (F0 m 27 ls []) := by
  intro kk
  induction kk with
  | zero => intro i f H locs ls h1 h2; exact absurd h2 (Nat.not_lt_zero _)
  | succ kk ih =>
    intro i f H locs ls hi hkk hI hP hD hS hl
    refine lv_iload_n hx hb dX11_clearDesk_27 rfl (lv_at hl 0 rfl) ?_
    refine lv_bipush (v := 12) hx hb dX11_clearDesk_28 (by decide) ?_
    refine lv_icmp_ge (tgt := 48) hx hb dX11_clearDesk_30 (by decide) (fun c_1 => ?_) (fun c_1 => ?_)
    ·
      have hie : i = 12 := lp_eq rfl (by decide) hi c_1
      exact kx48 _ _ _ ls hI hP hD hS (lv_sub hl [1] rfl)
    ·
      have hlt : i < 12 := lp_lt rfl (by decide) hi c_1
      refine lv_aload_n hx hb dX11_clearDesk_33 rfl (lv_at hl 1 rfl) ?_
      obtain ⟨kk_2, hk_3⟩ := pl_at hI.2.1.1.1 hI.2.2.2.1.1
      refine va_get (D := (dC, dI)) (ci := 10) (v := .ref (d 0)) (C := RX11) (T := TX11) (N := 9) hx hb hts (by decide +kernel) hown hK hP kk_2 hk_3 rfl 0 (by decide) (hts (.fieldLink RX11 11 "PageOne" "pages" "[LPageOne$Sheet;") (by decide +kernel)) (fun _ h9 => h9) rfl dX11_clearDesk_34 ?_
      refine lv_iload_n hx hb dX11_clearDesk_37 rfl (lv_at hl 0 rfl) ?_
      obtain ⟨g_4, hs_5, hg_6⟩ := x_pg hI hI.2.1.2.1
      obtain ⟨kk_7, hk_8⟩ := pl_at hI.2.1.2.1.1 hs_5
      refine va_aldq hx hb hK hP kk_7 2 hk_8 rfl (vp_in_nI hlt (by decide)) dX11_clearDesk_38 ?_
      obtain ⟨b_9, hg_10, ht_11⟩ := hg_6 _ (vlt (vp_in_nI hlt (by decide)))
      rw [hg_10]
      refine W.eq (g2 := F0 m 39 ls [.ref b_9]) rfl ?_
      obtain ⟨la_12, ca_13, m_14, dd_15, ii_16, hs_17, ht_18, ht_19⟩ := x_sh hI ht_11
      obtain ⟨kk_20, hk_21⟩ := pl_at ht_11.1 hs_17
      have hFc := fr_all hD hS hA
      refine va_callv (va_runV (As := []) (rest := []) ⟨hx, hb, hml, hown, hts⟩ (x_clear l dC dI q h0 d k z f hI b_9 ht_11 H.size) (cwV 0 hts gX11_clearDesk_X9_clear rfl rfl rfl (by decide +kernel) ⟨Nat.le_trans (Nat.le_of_ble_eq_true rfl) hRf, Nat.le_trans (Nat.le_of_ble_eq_true rfl) hRl⟩) ⟨gx_fb, va_recv hK hP (ci := 8) (q0 := kk_20) rfl hk_21, fun U hU hW => ⟨rfl, by rw [hU], px_to hU hW hP hK hN hXN, hD.weaken (fun _ _ _ _ => trivial)⟩⟩ rfl rfl hl.1 rfl (lv_room (Nat.le_of_ble_eq_true rfl)) dX11_clearDesk_39 ⟨hRc, hRs⟩) hS (fun q _ h => hFc q h) hFc (fun w_22 t H1 locs ht hvm hw hB hz1 hk1 hS => ?_)
      obtain ⟨hP, hD1⟩ := hB
      rw [ht] at hP
      rw [hw.2.1] at hP hD1
      have hD := hD1.weaken (fun _ q _ h => hFc q.1 h)
      have hI := hw.2.2
      have hw0 := hw
      generalize w_22.2.2 = f_23 at hP hD hI hw0
      generalize H1 = H at hP hS ⊢
      refine lv_iinc (v := (nI (i + 1))) (lv' := [(1, .int (nI (i + 1))), (0, .ref h0)]) hx hb dX11_clearDesk_42 hl (k := 0) rfl (nI_1 i) (by decide) rfl (fun ls hl => ?_)
      refine lv_goto (tgt := 27) hx hb dX11_clearDesk_45 (by decide) ?_
      exact ih (i + 1) _ _ _ ls (by omega) (by omega) hI hP hD hS (lv_sub hl [0, 1] rfl)
set_option maxHeartbeats 4000000 in
set_option maxRecDepth 100000 in
theorem x_cd3 {p : Program} {l : Launch} {e : Env} {R : Room} {s : State} {m : MethodId} {args : Array Value} {below : List Frame} {meth : Method} {c : Code} {Q : State → Prop} {cells slots : Nat} {dC : Nat → ClassId} {dI : Nat → Nat → Nat} {q : Nat → ClassId} {h0 : Nat} {d : Nat → Nat} {k : Nat → Int32} {z : gS} {K : Nat} (hK3 : K ≤ 300) (eK : k 1 = nI K) {A : Nat → Prop} {H0 : Heap} (hx : p.tables.exec = Jvm.exec) (hb : c.code = cX11_clearDesk) (hml : c.maxLocals = 2) (hts : ∀ w ∈ wsX11_clearDesk, w.before args s = true) (hown : s.vm.findClass RX11 = some m.cls) (hN : NN s) (hXN : XN s) (hK : va_K (dC, dI) vwCl (xT q) s) (hA : ∀ q : Nat, H0.size ≤ q → A q) (kx71 : ∀ (f : xF) (H : Heap) (locs : List Loc) (ls : Array Slot), xI q h0 d k z f → va_P (dC, dI) vwCl (va_pl z.1 f) H → va_D A (va_pl z.1 f) → va_S A H0 H locs → lv_has ls 2 [(0, .ref h0)] → W p l e R s m args below meth c H locs cells slots Q (F0 m 71 ls [])) : ∀ (kk i : Nat) (f : xF) (H : Heap) (locs : List Loc) (ls : Array Slot), i ≤ K → K - i < kk → xI q h0 d k z f → va_P (dC, dI) vwCl (va_pl z.1 f) H → va_D A (va_pl z.1 f) → va_S A H0 H locs → lv_has ls 2 [(1, .int (nI i)), (0, .ref h0)] → W p l e R s m args below meth c H locs cells slots Q (F0 m 50 ls []) := by
  intro kk
  induction kk with
  | zero => intro i f H locs ls h1 h2; exact absurd h2 (Nat.not_lt_zero _)
  | succ kk ih =>
    intro i f H locs ls hi hkk hI hP hD hS hl
    refine lv_iload_n hx hb dX11_clearDesk_50 rfl (lv_at hl 0 rfl) ?_
    refine lv_aload_n hx hb dX11_clearDesk_51 rfl (lv_at hl 1 rfl) ?_
    obtain ⟨kk_1, hk_2⟩ := pl_at hI.2.1.1.1 hI.2.2.2.1.1
    refine va_get (D := (dC, dI)) (ci := 10) (v := .int (k 1)) (C := RX11) (T := TX11) (N := 9) hx hb hts (by decide +kernel) hown hK hP kk_1 hk_2 rfl 5 (by decide) (hts (.fieldLink RX11 34 "PageOne" "actCount" "I") (by decide +kernel)) (fun _ h9 => h9) rfl dX11_clearDesk_52 ?_
    refine lv_topi (fun y_3 ey_3 => ?_)
    obtain rfl : y_3 = (nI K) := ey_3.trans (eK)
    refine lv_icmp_ge (tgt := 71) hx hb dX11_clearDesk_55 (by decide) (fun c_4 => ?_) (fun c_4 => ?_)
    ·
      have hie : i = K := lp_eq rfl (by omega) hi c_4
      exact kx71 _ _ _ ls hI hP hD hS (lv_sub hl [1] rfl)
    ·
      have hlt : i < K := lp_lt rfl (by omega) hi c_4
      refine lv_aload_n hx hb dX11_clearDesk_58 rfl (lv_at hl 1 rfl) ?_
      obtain ⟨kk_5, hk_6⟩ := pl_at hI.2.1.1.1 hI.2.2.2.1.1
      refine va_get (D := (dC, dI)) (ci := 10) (v := .ref (d 3)) (C := RX11) (T := TX11) (N := 9) hx hb hts (by decide +kernel) hown hK hP kk_5 hk_6 rfl 4 (by decide) (hts (.fieldLink RX11 30 "PageOne" "acts" "[LPageOne$Act;") (by decide +kernel)) (fun _ h9 => h9) rfl dX11_clearDesk_59 ?_
      refine lv_iload_n hx hb dX11_clearDesk_62 rfl (lv_at hl 0 rfl) ?_
      refine lv_null hx hb dX11_clearDesk_63 ?_
      obtain ⟨g_7, hs_8, hg_9⟩ := x_ac hI hI.2.1.2.2.2.2.1
      obtain ⟨kk_10, hk_11⟩ := pl_at hI.2.1.2.2.2.2.1.1 hs_8
      have hD0 := hD
      refine va_astqN hx hb hK hP hD hS kk_10 4 hk_11 rfl (vp_in_nI (by omega) (by decide)) dX11_clearDesk_64 (fun H locs hP hD hS => ?_)
      rw [pl_set hD0 hI.2.1.2.2.2.2.1.1 hs_8 hk_11] at hP hD
      obtain ⟨f_12, ef_12⟩ : ∃ y : xF, y = va_up f (d 3) (aR (q 4) 300 (va_up g_7 ((nI i) : Int32).toNatClampNeg none)) := ⟨_, rfl⟩
      have hI : xI q h0 d k z f_12 := by rw [ef_12]; exact x_up hI hI.2.1.2.2.2.2.1 (by decide) (cO_5 hI.2.1.2.2.2.2.1.2 ⟨_, rfl, ty_up hg_9 ty_n⟩)
      have hP : va_P (dC, dI) vwCl (va_pl z.1 f_12) H := by rw [ef_12]; exact hP
      have hD : va_D A (va_pl z.1 f_12) := by rw [ef_12]; exact hD
      refine lv_iinc (v := (nI (i + 1))) (lv' := [(1, .int (nI (i + 1))), (0, .ref h0)]) hx hb dX11_clearDesk_65 hl (k := 0) rfl (nI_1 i) (by decide) rfl (fun ls hl => ?_)
      refine lv_goto (tgt := 50) hx hb dX11_clearDesk_68 (by decide) ?_
      exact ih (i + 1) _ _ _ ls (by omega) (by omega) hI hP hD hS (lv_sub hl [0, 1] rfl)
set_option maxHeartbeats 4000000 in
set_option maxRecDepth 100000 in
theorem x_clearDesk (l : Launch) (dC : Nat → ClassId) (dI : Nat → Nat → Nat) (q : Nat → ClassId) (h0 : Nat) (d : Nat → Nat) (k : Nat → Int32) (z : gS) (f : xF) (hI : xI q h0 d k z f) (sz : Nat) : Met l yX11_clearDesk wsX11_clearDesk ({ frames := 2, cells := 0, slots := 0, locals := 43 }) (va_Pc [.ref h0] (fun U => U.heap.size = sz ∧ PX dC dI (va_pl z.1 f) (xT q) U ∧ va_D (fun _ => True) (va_pl z.1 f))) (va_Qv (fun (w : xU) => (∀ j, j ≠ 1 → w.1 j = k j) ∧ w.2.1 = z ∧ xI q h0 d w.1 z w.2.2) (fun (w : xU) t => va_P (dC, dI) vwCl (va_pl w.2.1.1 w.2.2) t.heap ∧ va_D (va_A (va_pl z.1 f) sz) (va_pl w.2.1.1 w.2.2)) (va_A (va_pl z.1 f) sz)) 0 0 (va_A (va_pl z.1 f) sz) := by
  refine Met.ofW (cc := cX11_clearDesk) (maxL := 2) (ret := none) (by decide) rfl ?_
  intro p e s m args below meth c s₁ B hml hv
  obtain ⟨rfl, hsz, ⟨⟨hP, hK, hN⟩, hXN⟩, hD0⟩ := hv
  have hx := B.exec
  have hb := B.bytes
  have hr := B.returns
  have hts := atoms_spec (ws := wsX11_clearDesk) B.pre
  have hown : s.vm.findClass RX11 = some m.cls := findClass_of_methodNamed B.named
  have hlocks := B.notSynchronized
  subst hsz
  have hD := hD0.self (sz := s.heap.size)
  generalize hAe : va_A (va_pl z.1 f) s.heap.size = A at hD ⊢
  have hA : ∀ q : Nat, s.heap.size ≤ q → A q := fun q h => by rw [← hAe]; exact Or.inr h
  have hS : va_S A s.heap s.heap [] := va_S.rf
  have hl := lv_entry ([.ref h0]) (n := 2) (Nat.le_of_ble_eq_true rfl)
  rw [lg_entry_eq]
  generalize (lg_sl ([.ref h0]) ++ List.replicate (2 - (lg_sl ([.ref h0])).length) Slot.unset).toArray = ls at hl ⊢
  have hl : lv_has ls 2 [(0, .ref h0)] := hl
  refine lv_iconst (v := 0) hx hb dX11_clearDesk_0 (by decide) ?_
  refine lv_istore_n (lv' := [(1, .int 0), (0, .ref h0)]) hx hb dX11_clearDesk_1 rfl hl (by decide) rfl (fun ls hl => ?_)
  obtain ⟨K, hK8, -, eK⟩ := exN hI.1.1 (by decide)
  have h80 : (80 : Int32).toInt = 80 := rfl
  obtain ⟨K2, hK3, -, eK2⟩ := exN hI.1.2.1 (by decide)
  have h300 : (300 : Int32).toInt = 300 := rfl
  refine x_cd1 (K := K) (by omega) eK hx hb hml hts hown hN hXN hK (Nat.le_of_ble_eq_true rfl) (Nat.le_of_ble_eq_true rfl) (Nat.le_of_ble_eq_true rfl) (Nat.le_of_ble_eq_true rfl) hA (fun f H locs ls hI hP hD hS hl => ?_) (K + 1) 0 _ _ _ ls (Nat.zero_le _) (by omega) hI hP hD hS (lv_sub hl [0, 1] rfl)
  refine lv_iconst (v := 0) hx hb dX11_clearDesk_25 (by decide) ?_
  refine lv_istore_n (lv' := [(1, .int 0), (0, .ref h0)]) hx hb dX11_clearDesk_26 rfl hl (by decide) rfl (fun ls hl => ?_)
  refine x_cd2 hx hb hml hts hown hN hXN hK (Nat.le_of_ble_eq_true rfl) (Nat.le_of_ble_eq_true rfl) (Nat.le_of_ble_eq_true rfl) (Nat.le_of_ble_eq_true rfl) hA (fun f H locs ls hI hP hD hS hl => ?_) 13 0 _ _ _ ls (by decide) (by decide) hI hP hD hS (lv_sub hl [0, 1] rfl)
  refine lv_iconst (v := 0) hx hb dX11_clearDesk_48 (by decide) ?_
  refine lv_istore_n (lv' := [(1, .int 0), (0, .ref h0)]) hx hb dX11_clearDesk_49 rfl hl (by decide) rfl (fun ls hl => ?_)
  refine x_cd3 (K := K2) (by omega) eK2 hx hb hml hts hown hN hXN hK hA (fun f H locs ls hI hP hD hS hl => ?_) (K2 + 1) 0 _ _ _ ls (Nat.zero_le _) (by omega) hI hP hD hS (lv_sub hl [0, 1] rfl)
  refine lv_aload_n hx hb dX11_clearDesk_71 rfl (lv_at hl 0 rfl) ?_
  refine lv_iconst (v := 0) hx hb dX11_clearDesk_72 (by decide) ?_
  obtain ⟨kk_1, hk_2⟩ := pl_at hI.2.1.1.1 hI.2.2.2.1.1
  have hD0 := hD
  refine va_put (D := (dC, dI)) (ci := 10) (v := .int 0) (ty := .int) (C := RX11) (T := TX11) (N := 9) hx hb hts (by decide +kernel) tyX11 tyX11_ok nmX11 hown hK hP hD hS kk_1 hk_2 rfl 5 (by decide) (hts (.fieldLink RX11 34 "PageOne" "actCount" "I") (by decide +kernel)) (fun _ h9 => h9) rfl (by decide +kernel) rfl rfl (Nat.le_of_ble_eq_true rfl) dX11_clearDesk_73 (fun H locs hP hD hS => ?_)
  obtain ⟨k_3, ek_3⟩ : ∃ y : Nat → Int32, y = kup k 1 0 := ⟨_, rfl⟩
  rw [pl_set hD0 hI.2.1.1.1 hI.2.2.2.1.1 hk_2] at hP hD
  obtain ⟨f_4, ef_4⟩ : ∃ y : xF, y = va_up f h0 (.inr (10, dkF d k_3)) := ⟨_, rfl⟩
  have hP : va_P (dC, dI) vwCl (va_pl z.1 f_4) H := by rw [ef_4, ek_3]; exact hP
  have hD : va_D A (va_pl z.1 f_4) := by rw [ef_4, ek_3]; exact hD
  have hI : xI q h0 d k_3 z f_4 := by rw [ef_4]; exact x_dk hI (by rw [ek_3]; exact ⟨hI.1.1, by rw [kup_s]; decide, hI.1.2.2⟩) (by rw [ek_3]; exact Nat.le_refl _)
  exact W.vret hx hb hr (fun t ht hW => ⟨⟨(k_3, z, f_4), rfl, ⟨fun j hj => by rw [ek_3]; exact kup_o hj, rfl, hI⟩, by rw [ht]; exact hP, hD⟩, hS.F ht⟩) hS.2.2 dX11_clearDesk_76
set_option maxHeartbeats 4000000 in
set_option maxRecDepth 100000 in
theorem x_edition (l : Launch) (dC : Nat → ClassId) (dI : Nat → Nat → Nat) (q : Nat → ClassId) (h0 : Nat) (d : Nat → Nat) (k : Nat → Int32) (z : gS) (f : xF) (hI : xI q h0 d k z f) (sz : Nat) : Met l yX11_edition wsX11_edition ({ frames := 5, cells := 0, slots := 0, locals := 110 }) (va_Pc [.ref h0] (fun U => U.heap.size = sz ∧ PX dC dI (va_pl z.1 f) (xT q) U ∧ va_D (fun _ => True) (va_pl z.1 f))) (va_Qi (fun (r : Int32) (w : xU) => ((¬ k 3 < 7 ∧ r = -1 ∧ w.1 = k) ∨ (k 3 < 7 ∧ r = k 3 + 1 ∧ w.1 = kup k 3 (k 3 + 1))) ∧ w.2.1 = z ∧ xI q h0 d w.1 z w.2.2) (fun (w : xU) t => va_P (dC, dI) vwCl (va_pl w.2.1.1 w.2.2) t.heap ∧ va_D (va_A (va_pl z.1 f) sz) (va_pl w.2.1.1 w.2.2)) (va_A (va_pl z.1 f) sz)) 0 0 (va_A (va_pl z.1 f) sz) := by
  refine Met.ofW (cc := cX11_edition) (maxL := 1) (ret := (some .int)) (by decide) rfl ?_
  intro p e s m args below meth c s₁ B hml hv
  obtain ⟨rfl, hsz, ⟨⟨hP, hK, hN⟩, hXN⟩, hD0⟩ := hv
  have hx := B.exec
  have hb := B.bytes
  have hr := B.returns
  have hts := atoms_spec (ws := wsX11_edition) B.pre
  have hown : s.vm.findClass RX11 = some m.cls := findClass_of_methodNamed B.named
  have hlocks := B.notSynchronized
  subst hsz
  have hD := hD0.self (sz := s.heap.size)
  generalize hAe : va_A (va_pl z.1 f) s.heap.size = A at hD ⊢
  have hA : ∀ q : Nat, s.heap.size ≤ q → A q := fun q h => by rw [← hAe]; exact Or.inr h
  have hS : va_S A s.heap s.heap [] := va_S.rf
  have hl := lv_entry ([.ref h0]) (n := 1) (Nat.le_of_ble_eq_true rfl)
  rw [lg_entry_eq]
  generalize (lg_sl ([.ref h0]) ++ List.replicate (1 - (lg_sl ([.ref h0])).length) Slot.unset).toArray = ls at hl ⊢
  have hl : lv_has ls 1 [(0, .ref h0)] := hl
  refine lv_aload_n hx hb dX11_edition_0 rfl (lv_at hl 0 rfl) ?_
  obtain ⟨kk_1, hk_2⟩ := pl_at hI.2.1.1.1 hI.2.2.2.1.1
  refine va_get (D := (dC, dI)) (ci := 10) (v := .int (k 3)) (C := RX11) (T := TX11) (N := 9) hx hb hts (by decide +kernel) hown hK hP kk_1 hk_2 rfl 8 (by decide) (hts (.fieldLink RX11 44 "PageOne" "editionNow" "I") (by decide +kernel)) (fun _ h9 => h9) rfl dX11_edition_1 ?_
  refine lv_bipush (v := 7) hx hb dX11_edition_4 (by decide) ?_
  refine lv_icmp_lt (tgt := 11) hx hb dX11_edition_6 (by decide) (fun c_3 => ?_) (fun c_3 => ?_)
  ·
    refine lv_aload_n hx hb dX11_edition_11 rfl (lv_at hl 0 rfl) ?_
    obtain ⟨kk_4, hk_5⟩ := pl_at hI.2.1.1.1 hI.2.2.2.1.1
    have hFc := fr_all hD hS hA
    refine va_callv (va_runV (As := []) (rest := []) ⟨hx, hb, hml, hown, hts⟩ (x_closeEdition l dC dI q h0 d k z f hI s.heap.size) (cwV 0 hts gX11_edition_X11_closeEdition rfl rfl rfl (by decide +kernel) ⟨Nat.le_of_ble_eq_true rfl, Nat.le_of_ble_eq_true rfl⟩) ⟨gx_fb, va_recv hK hP (ci := 10) (q0 := kk_4) rfl hk_5, fun U hU hW => ⟨rfl, by rw [hU], px_to hU hW hP hK hN hXN, hD.weaken (fun _ _ _ _ => trivial)⟩⟩ rfl rfl hl.1 rfl (lv_room (Nat.le_of_ble_eq_true rfl)) dX11_edition_12 ⟨Nat.le_of_ble_eq_true rfl, Nat.le_of_ble_eq_true rfl⟩) hS (fun q _ h => hFc q h) hFc (fun w_6 t H1 locs ht hvm hw hB hz1 hk1 hS => ?_)
    obtain ⟨hP, hD1⟩ := hB
    rw [ht] at hP
    rw [hw.2.1] at hP hD1
    have hD := hD1.weaken (fun _ q _ h => hFc q.1 h)
    have hI := hw.2.2
    have hw0 := hw
    generalize w_6.2.2 = f_7 at hP hD hI hw0
    generalize H1 = H at hP hS ⊢
    refine lv_aload_n hx hb dX11_edition_15 rfl (lv_at hl 0 rfl) ?_
    refine lv_dup hx hb dX11_edition_16 rfl ?_
    obtain ⟨kk_8, hk_9⟩ := pl_at hI.2.1.1.1 hI.2.2.2.1.1
    refine va_get (D := (dC, dI)) (ci := 10) (v := .int (k 3)) (C := RX11) (T := TX11) (N := 9) hx hb hts (by decide +kernel) hown hK hP kk_8 hk_9 rfl 8 (by decide) (hts (.fieldLink RX11 44 "PageOne" "editionNow" "I") (by decide +kernel)) (fun _ h9 => h9) rfl dX11_edition_17 ?_
    refine lv_iconst (v := 1) hx hb dX11_edition_20 (by decide) ?_
    refine lv_iadd hx hb dX11_edition_21 ?_
    refine lv_topi (fun x_10 ex_10 => ?_)
    obtain ⟨kk_11, hk_12⟩ := pl_at hI.2.1.1.1 hI.2.2.2.1.1
    have hD0 := hD
    refine va_put (D := (dC, dI)) (ci := 10) (v := .int x_10) (ty := .int) (C := RX11) (T := TX11) (N := 9) hx hb hts (by decide +kernel) tyX11 tyX11_ok nmX11 hown hK hP hD hS kk_11 hk_12 rfl 8 (by decide) (hts (.fieldLink RX11 44 "PageOne" "editionNow" "I") (by decide +kernel)) (fun _ h9 => h9) rfl (by decide +kernel) rfl rfl (Nat.le_of_ble_eq_true rfl) dX11_edition_22 (fun H locs hP hD hS => ?_)
    obtain ⟨k_13, ek_13⟩ : ∃ y : Nat → Int32, y = kup k 3 x_10 := ⟨_, rfl⟩
    rw [pl_set hD0 hI.2.1.1.1 hI.2.2.2.1.1 hk_12] at hP hD
    obtain ⟨f_14, ef_14⟩ : ∃ y : xF, y = va_up f_7 h0 (.inr (10, dkF d k_13)) := ⟨_, rfl⟩
    have hP : va_P (dC, dI) vwCl (va_pl z.1 f_14) H := by rw [ef_14, ek_13]; exact hP
    have hD : va_D A (va_pl z.1 f_14) := by rw [ef_14, ek_13]; exact hD
    have hI : xI q h0 d k_13 z f_14 := by rw [ef_14]; exact x_dk hI (by rw [ek_13]; exact ⟨hI.1.1, hI.1.2.1, hI.1.2.2⟩) (by rw [ek_13]; exact Nat.le_refl _)
    refine lv_aload_n hx hb dX11_edition_25 rfl (lv_at hl 0 rfl) ?_
    obtain ⟨kk_15, hk_16⟩ := pl_at hI.2.1.1.1 hI.2.2.2.1.1
    refine va_get (D := (dC, dI)) (ci := 10) (v := .int (k_13 3)) (C := RX11) (T := TX11) (N := 9) hx hb hts (by decide +kernel) hown hK hP kk_15 hk_16 rfl 8 (by decide) (hts (.fieldLink RX11 44 "PageOne" "editionNow" "I") (by decide +kernel)) (fun _ h9 => h9) rfl dX11_edition_26 ?_
    exact W.iret (v := (k_13 3)) hx hb hr (fun t ht hW => ⟨⟨(k_13 3), (k_13, z, f_14), rfl, ⟨Or.inr ⟨c_3, by rw [ek_13, kup_s, ex_10], by rw [ek_13, ex_10]⟩, rfl, hI⟩, by rw [ht]; exact hP, hD⟩, hS.F ht⟩) hS.2.2 dX11_edition_29
  ·
    refine lv_iconst (v := (-1)) hx hb dX11_edition_9 (by decide) ?_
    exact W.iret (v := (-1)) hx hb hr (fun t ht hW => ⟨⟨(-1), (k, z, f), rfl, ⟨Or.inl ⟨c_3, rfl, rfl⟩, rfl, hI⟩, by rw [ht]; exact hP, hD⟩, hS.F ht⟩) hS.2.2 dX11_edition_10
theorem d399b {x : Int32} (h : bw x 0 399 = true) (h9 : x < 399) : bw (x + 1) 0 399 = true := d399 h (fun e => by rw [e] at h9; exact absurd h9 (by decide))
set_option maxHeartbeats 4000000 in
set_option maxRecDepth 100000 in
theorem x_day (l : Launch) (dC : Nat → ClassId) (dI : Nat → Nat → Nat) (q : Nat → ClassId) (h0 : Nat) (d : Nat → Nat) (k : Nat → Int32) (z : gS) (f : xF) (hI : xI q h0 d k z f) (sz : Nat) : Met l yX11_day wsX11_day ({ frames := 5, cells := 0, slots := 0, locals := 110 }) (va_Pc [.ref h0] (fun U => U.heap.size = sz ∧ PX dC dI (va_pl z.1 f) (xT q) U ∧ va_D (fun _ => True) (va_pl z.1 f))) (va_Qi (fun (r : Int32) (w : xU) => ((¬ k 2 < 399 ∧ r = -1 ∧ w.1 = k) ∨ (k 2 < 399 ∧ r = k 2 + 1 ∧ w.1 2 = k 2 + 1 ∧ w.1 3 = 0)) ∧ w.2.1 = z ∧ xI q h0 d w.1 z w.2.2) (fun (w : xU) t => va_P (dC, dI) vwCl (va_pl w.2.1.1 w.2.2) t.heap ∧ va_D (va_A (va_pl z.1 f) sz) (va_pl w.2.1.1 w.2.2)) (va_A (va_pl z.1 f) sz)) 0 0 (va_A (va_pl z.1 f) sz) := by
  refine Met.ofW (cc := cX11_day) (maxL := 1) (ret := (some .int)) (by decide) rfl ?_
  intro p e s m args below meth c s₁ B hml hv
  obtain ⟨rfl, hsz, ⟨⟨hP, hK, hN⟩, hXN⟩, hD0⟩ := hv
  have hx := B.exec
  have hb := B.bytes
  have hr := B.returns
  have hts := atoms_spec (ws := wsX11_day) B.pre
  have hown : s.vm.findClass RX11 = some m.cls := findClass_of_methodNamed B.named
  have hlocks := B.notSynchronized
  subst hsz
  have hD := hD0.self (sz := s.heap.size)
  generalize hAe : va_A (va_pl z.1 f) s.heap.size = A at hD ⊢
  have hA : ∀ q : Nat, s.heap.size ≤ q → A q := fun q h => by rw [← hAe]; exact Or.inr h
  have hS : va_S A s.heap s.heap [] := va_S.rf
  have hl := lv_entry ([.ref h0]) (n := 1) (Nat.le_of_ble_eq_true rfl)
  rw [lg_entry_eq]
  generalize (lg_sl ([.ref h0]) ++ List.replicate (1 - (lg_sl ([.ref h0])).length) Slot.unset).toArray = ls at hl ⊢
  have hl : lv_has ls 1 [(0, .ref h0)] := hl
  have hk2b : bw (k 2) 0 399 = true := hI.1.2.2
  refine lv_aload_n hx hb dX11_day_0 rfl (lv_at hl 0 rfl) ?_
  obtain ⟨kk_1, hk_2⟩ := pl_at hI.2.1.1.1 hI.2.2.2.1.1
  refine va_get (D := (dC, dI)) (ci := 10) (v := .int (k 2)) (C := RX11) (T := TX11) (N := 9) hx hb hts (by decide +kernel) hown hK hP kk_1 hk_2 rfl 7 (by decide) (hts (.fieldLink RX11 41 "PageOne" "today" "I") (by decide +kernel)) (fun _ h9 => h9) rfl dX11_day_1 ?_
  refine lv_sipush (v := 399) hx hb dX11_day_4 (by decide) ?_
  refine lv_icmp_lt (tgt := 12) hx hb dX11_day_7 (by decide) (fun c_3 => ?_) (fun c_3 => ?_)
  ·
    refine lv_aload_n hx hb dX11_day_12 rfl (lv_at hl 0 rfl) ?_
    obtain ⟨kk_4, hk_5⟩ := pl_at hI.2.1.1.1 hI.2.2.2.1.1
    have hFc := fr_all hD hS hA
    refine va_callv (va_runV (As := []) (rest := []) ⟨hx, hb, hml, hown, hts⟩ (x_closeEdition l dC dI q h0 d k z f hI s.heap.size) (cwV 0 hts gX11_day_X11_closeEdition rfl rfl rfl (by decide +kernel) ⟨Nat.le_of_ble_eq_true rfl, Nat.le_of_ble_eq_true rfl⟩) ⟨gx_fb, va_recv hK hP (ci := 10) (q0 := kk_4) rfl hk_5, fun U hU hW => ⟨rfl, by rw [hU], px_to hU hW hP hK hN hXN, hD.weaken (fun _ _ _ _ => trivial)⟩⟩ rfl rfl hl.1 rfl (lv_room (Nat.le_of_ble_eq_true rfl)) dX11_day_13 ⟨Nat.le_of_ble_eq_true rfl, Nat.le_of_ble_eq_true rfl⟩) hS (fun q _ h => hFc q h) hFc (fun w_6 t H1 locs ht hvm hw hB hz1 hk1 hS => ?_)
    obtain ⟨hP, hD1⟩ := hB
    rw [ht] at hP
    rw [hw.2.1] at hP hD1
    have hD := hD1.weaken (fun _ q _ h => hFc q.1 h)
    have hI := hw.2.2
    have hw0 := hw
    generalize w_6.2.2 = f_7 at hP hD hI hw0
    generalize H1 = H at hP hS ⊢
    refine lv_aload_n hx hb dX11_day_16 rfl (lv_at hl 0 rfl) ?_
    obtain ⟨kk_8, hk_9⟩ := pl_at hI.2.1.1.1 hI.2.2.2.1.1
    have hFc := fr_all hD hS hA
    refine va_callv (va_runV (As := []) (rest := []) ⟨hx, hb, hml, hown, hts⟩ (x_clearDesk l dC dI q h0 d k z f_7 hI H.size) (cwV 0 hts gX11_day_X11_clearDesk rfl rfl rfl (by decide +kernel) ⟨Nat.le_of_ble_eq_true rfl, Nat.le_of_ble_eq_true rfl⟩) ⟨gx_fb, va_recv hK hP (ci := 10) (q0 := kk_8) rfl hk_9, fun U hU hW => ⟨rfl, by rw [hU], px_to hU hW hP hK hN hXN, hD.weaken (fun _ _ _ _ => trivial)⟩⟩ rfl rfl hl.1 rfl (lv_room (Nat.le_of_ble_eq_true rfl)) dX11_day_17 ⟨Nat.le_of_ble_eq_true rfl, Nat.le_of_ble_eq_true rfl⟩) hS (fun q _ h => hFc q h) hFc (fun w_10 t H1 locs ht hvm hw hB hz1 hk1 hS => ?_)
    obtain ⟨hP, hD1⟩ := hB
    rw [ht] at hP
    rw [hw.2.1] at hP hD1
    have hD := hD1.weaken (fun _ q _ h => hFc q.1 h)
    have hI := hw.2.2
    have hw0 := hw
    generalize w_10.1 = k_12 at hI hw0
    generalize w_10.2.2 = f_11 at hP hD hI hw0
    generalize H1 = H at hP hS ⊢
    have hkd := hw0.1
    refine lv_aload_n hx hb dX11_day_20 rfl (lv_at hl 0 rfl) ?_
    refine lv_iconst (v := 0) hx hb dX11_day_21 (by decide) ?_
    obtain ⟨kk_13, hk_14⟩ := pl_at hI.2.1.1.1 hI.2.2.2.1.1
    have hD0 := hD
    refine va_put (D := (dC, dI)) (ci := 10) (v := .int 0) (ty := .int) (C := RX11) (T := TX11) (N := 9) hx hb hts (by decide +kernel) tyX11 tyX11_ok nmX11 hown hK hP hD hS kk_13 hk_14 rfl 8 (by decide) (hts (.fieldLink RX11 44 "PageOne" "editionNow" "I") (by decide +kernel)) (fun _ h9 => h9) rfl (by decide +kernel) rfl rfl (Nat.le_of_ble_eq_true rfl) dX11_day_22 (fun H locs hP hD hS => ?_)
    obtain ⟨k_15, ek_15⟩ : ∃ y : Nat → Int32, y = kup k_12 3 0 := ⟨_, rfl⟩
    rw [pl_set hD0 hI.2.1.1.1 hI.2.2.2.1.1 hk_14] at hP hD
    obtain ⟨f_16, ef_16⟩ : ∃ y : xF, y = va_up f_11 h0 (.inr (10, dkF d k_15)) := ⟨_, rfl⟩
    have hP : va_P (dC, dI) vwCl (va_pl z.1 f_16) H := by rw [ef_16, ek_15]; exact hP
    have hD : va_D A (va_pl z.1 f_16) := by rw [ef_16, ek_15]; exact hD
    have hI : xI q h0 d k_15 z f_16 := by rw [ef_16]; exact x_dk hI (by rw [ek_15]; exact ⟨hI.1.1, hI.1.2.1, hI.1.2.2⟩) (by rw [ek_15]; exact Nat.le_refl _)
    refine lv_aload_n hx hb dX11_day_25 rfl (lv_at hl 0 rfl) ?_
    refine lv_dup hx hb dX11_day_26 rfl ?_
    obtain ⟨kk_17, hk_18⟩ := pl_at hI.2.1.1.1 hI.2.2.2.1.1
    refine va_get (D := (dC, dI)) (ci := 10) (v := .int (k_15 2)) (C := RX11) (T := TX11) (N := 9) hx hb hts (by decide +kernel) hown hK hP kk_17 hk_18 rfl 7 (by decide) (hts (.fieldLink RX11 41 "PageOne" "today" "I") (by decide +kernel)) (fun _ h9 => h9) rfl dX11_day_27 ?_
    refine lv_iconst (v := 1) hx hb dX11_day_30 (by decide) ?_
    refine lv_iadd hx hb dX11_day_31 ?_
    refine lv_topi (fun x_19 ex_19 => ?_)
    obtain ⟨kk_20, hk_21⟩ := pl_at hI.2.1.1.1 hI.2.2.2.1.1
    have hD0 := hD
    refine va_put (D := (dC, dI)) (ci := 10) (v := .int x_19) (ty := .int) (C := RX11) (T := TX11) (N := 9) hx hb hts (by decide +kernel) tyX11 tyX11_ok nmX11 hown hK hP hD hS kk_20 hk_21 rfl 7 (by decide) (hts (.fieldLink RX11 41 "PageOne" "today" "I") (by decide +kernel)) (fun _ h9 => h9) rfl (by decide +kernel) rfl rfl (Nat.le_of_ble_eq_true rfl) dX11_day_32 (fun H locs hP hD hS => ?_)
    obtain ⟨k_22, ek_22⟩ : ∃ y : Nat → Int32, y = kup k_15 2 x_19 := ⟨_, rfl⟩
    have hk2d : k_15 2 = k 2 := by rw [ek_15]; exact (kup_o (by decide)).trans (hkd 2 (by decide))
    rw [pl_set hD0 hI.2.1.1.1 hI.2.2.2.1.1 hk_21] at hP hD
    obtain ⟨f_23, ef_23⟩ : ∃ y : xF, y = va_up f_16 h0 (.inr (10, dkF d k_22)) := ⟨_, rfl⟩
    have hP : va_P (dC, dI) vwCl (va_pl z.1 f_23) H := by rw [ef_23, ek_22]; exact hP
    have hD : va_D A (va_pl z.1 f_23) := by rw [ef_23, ek_22]; exact hD
    have hI : xI q h0 d k_22 z f_23 := by rw [ef_23]; exact x_dk hI (by rw [ek_22]; exact ⟨hI.1.1, hI.1.2.1, by rw [kup_s, ex_19, hk2d]; exact d399b hk2b c_3⟩) (by rw [ek_22]; exact Nat.le_refl _)
    refine lv_aload_n hx hb dX11_day_35 rfl (lv_at hl 0 rfl) ?_
    obtain ⟨kk_24, hk_25⟩ := pl_at hI.2.1.1.1 hI.2.2.2.1.1
    refine va_get (D := (dC, dI)) (ci := 10) (v := .int (k_22 2)) (C := RX11) (T := TX11) (N := 9) hx hb hts (by decide +kernel) hown hK hP kk_24 hk_25 rfl 7 (by decide) (hts (.fieldLink RX11 41 "PageOne" "today" "I") (by decide +kernel)) (fun _ h9 => h9) rfl dX11_day_36 ?_
    exact W.iret (v := (k_22 2)) hx hb hr (fun t ht hW => ⟨⟨(k_22 2), (k_22, z, f_23), rfl, ⟨Or.inr ⟨c_3, by rw [ek_22, kup_s, ex_19, hk2d], by show k_22 2 = _; rw [ek_22, kup_s, ex_19, hk2d], by show k_22 3 = _; rw [ek_22]; exact (kup_o (by decide : (3 : Nat) ≠ 2)).trans (by rw [ek_15]; exact kup_s _ _ _)⟩, rfl, hI⟩, by rw [ht]; exact hP, hD⟩, hS.F ht⟩) hS.2.2 dX11_day_39
  ·
    refine lv_iconst (v := (-1)) hx hb dX11_day_10 (by decide) ?_
    exact W.iret (v := (-1)) hx hb hr (fun t ht hW => ⟨⟨(-1), (k, z, f), rfl, ⟨Or.inl ⟨c_3, rfl, rfl⟩, rfl, hI⟩, by rw [ht]; exact hP, hD⟩, hS.F ht⟩) hS.2.2 dX11_day_11
