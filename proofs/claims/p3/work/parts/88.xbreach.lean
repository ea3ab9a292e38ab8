set_option maxHeartbeats 4000000 in
set_option maxRecDepth 100000 in
theorem x_br_l {p : Program} {l : Launch} {e : Env} {R : Room} {s : State} {m : MethodId} {args : Array Value} {below : List Frame} {meth : Method} {c : Code} {Q : State → Prop} {cells slots : Nat} {dC : Nat → ClassId} {dI : Nat → Nat → Nat} {q : Nat → ClassId} {h0 : Nat} {d : Nat → Nat} {k : Nat → Int32} {z : gS} {f : xF} {H : Heap} {locs : List Loc} (hI : xI q h0 d k z f) (hx : p.tables.exec = Jvm.exec) (hb : c.code = cX11_breachOn) (hml : c.maxLocals = 4) (hts : ∀ w ∈ wsX11_breachOn, w.before args s = true) (hown : s.vm.findClass RX11 = some m.cls) (hN : NN s) (hXN : XN s) (hK : va_K (dC, dI) vwCl (xT q) s) (hRf : 5 ≤ R.frames) (hRl : 110 ≤ R.locals) (hRc : cells ≤ R.cells) (hRs : slots ≤ R.slots) (hP : va_P (dC, dI) vwCl (va_pl z.1 f) H) {K : Nat} (hK8 : K ≤ 80) (eK : k 0 = nI K) {p0 p1 : Int32} (kx87 : ∀ (ls : Array Slot), lv_has ls 4 [(0, .ref h0), (1, .int p0), (2, .int p1)] → W p l e R s m args below meth c H locs cells slots Q (F0 m 87 ls [])) (kx70 : ∀ (i9 : Int32) (ls : Array Slot), lv_has ls 4 [(3, .int i9), (0, .ref h0), (1, .int p0), (2, .int p1)] → W p l e R s m args below meth c H locs cells slots Q (F0 m 70 ls [])) : ∀ (kk i : Nat) (ls : Array Slot), i ≤ K → K - i < kk → lv_has ls 4 [(3, .int (nI i)), (0, .ref h0), (1, .int p0), (2, .int p1)] → W p l e R s m args below meth c H locs cells slots Q (F0 m 35 ls []) := by
  intro kk
  induction kk with
  | zero => intro i ls h1 h2; exact absurd h2 (Nat.not_lt_zero _)
  | succ kk ih =>
    intro i ls hi hkk hl
    refine lv_iload_n hx hb dX11_breachOn_35 rfl (lv_at hl 0 rfl) ?_
    refine lv_aload_n hx hb dX11_breachOn_36 rfl (lv_at hl 1 rfl) ?_
    obtain ⟨kk_1, hk_2⟩ := pl_at hI.2.1.1.1 hI.2.2.2.1.1
    refine va_get (D := (dC, dI)) (ci := 10) (v := .int (k 0)) (C := RX11) (T := TX11) (N := 9) hx hb hts (by decide +kernel) hown hK hP kk_1 hk_2 rfl 3 (by decide) (hts (.fieldLink RX11 24 "PageOne" "itemCount" "I") (by decide +kernel)) (fun _ h9 => h9) rfl dX11_breachOn_37 ?_
    refine lv_topi (fun y_3 ey_3 => ?_)
    obtain rfl : y_3 = (nI K) := ey_3.trans (eK)
    refine lv_icmp_ge (tgt := 87) hx hb dX11_breachOn_40 (by decide) (fun c_4 => ?_) (fun c_4 => ?_)
    ·
      have hie : i = K := lp_eq rfl (by omega) hi c_4
      exact kx87 ls (lv_sub hl [1, 2, 3] rfl)
    ·
      have hlt : i < K := lp_lt rfl (by omega) hi c_4
      refine lv_aload_n hx hb dX11_breachOn_43 rfl (lv_at hl 1 rfl) ?_
      obtain ⟨kk_5, hk_6⟩ := pl_at hI.2.1.1.1 hI.2.2.2.1.1
      refine va_get (D := (dC, dI)) (ci := 10) (v := .ref (d 2)) (C := RX11) (T := TX11) (N := 9) hx hb hts (by decide +kernel) hown hK hP kk_5 hk_6 rfl 2 (by decide) (hts (.fieldLink RX11 20 "PageOne" "items" "[LPageOne$Item;") (by decide +kernel)) (fun _ h9 => h9) rfl dX11_breachOn_44 ?_
      refine lv_iload_n hx hb dX11_breachOn_47 rfl (lv_at hl 0 rfl) ?_
      obtain ⟨g_7, hs_8, hn_9, hg_10⟩ := x_itm hI
      obtain ⟨kk_11, hk_12⟩ := pl_at hI.2.1.2.2.2.1.1 hs_8
      refine va_aldq hx hb hK hP kk_11 3 hk_12 rfl (vp_in_nI (by omega) (by decide)) dX11_breachOn_48 ?_
      obtain ⟨b_13, hg_14⟩ := hn_9 ((nI i) : Int32).toNatClampNeg (by rw [eK, nI_clamp (by omega), nI_clamp (by omega)]; exact hlt)
      have ht_15 := hg_10 ((nI i) : Int32).toNatClampNeg (vlt (vp_in_nI (by omega) (by decide))) b_13 hg_14
      rw [hg_14]
      refine W.eq (g2 := F0 m 49 ls [.ref b_13]) rfl ?_
      refine lv_iload_n hx hb dX11_breachOn_49 rfl (lv_at hl 2 rfl) ?_
      refine w_cut (X := fun R cells slots Q args => ∀ r : Int32, (r = 0 ∨ r = 1) → W p l e R s m args below meth c H locs cells slots Q (F0 m 53 ls (.int r :: []))) ?_ (fun kC => ?_)
      ·
        intro r hw
        rcases hw with hw | hw
        ·
          subst hw
          refine lv_if_eq (tgt := 81) hx hb dX11_breachOn_53 (by decide) (fun c_111 => ?_) (fun c_111 => absurd (by decide) c_111)
          refine lv_iinc (v := (nI (i + 1))) (lv' := [(3, .int (nI (i + 1))), (0, .ref h0), (1, .int p0), (2, .int p1)]) hx hb dX11_breachOn_81 hl (k := 0) rfl (nI_1 i) (by decide) rfl (fun ls hl => ?_)
          refine lv_goto (tgt := 35) hx hb dX11_breachOn_84 (by decide) ?_
          exact ih (i + 1) ls (by omega) (by omega) (lv_sub hl [0, 1, 2, 3] rfl)
        ·
          subst hw
          refine lv_if_eq (tgt := 81) hx hb dX11_breachOn_53 (by decide) (fun c_112 => absurd c_112 (by decide)) (fun c_112 => ?_)
          refine lv_aload_n hx hb dX11_breachOn_56 rfl (lv_at hl 1 rfl) ?_
          refine lv_aload_n hx hb dX11_breachOn_57 rfl (lv_at hl 1 rfl) ?_
          obtain ⟨kk_113, hk_114⟩ := pl_at hI.2.1.1.1 hI.2.2.2.1.1
          refine va_get (D := (dC, dI)) (ci := 10) (v := .ref (d 2)) (C := RX11) (T := TX11) (N := 9) hx hb hts (by decide +kernel) hown hK hP kk_113 hk_114 rfl 2 (by decide) (hts (.fieldLink RX11 20 "PageOne" "items" "[LPageOne$Item;") (by decide +kernel)) (fun _ h9 => h9) rfl dX11_breachOn_58 ?_
          refine lv_iload_n hx hb dX11_breachOn_61 rfl (lv_at hl 0 rfl) ?_
          obtain ⟨kk_115, hk_116⟩ := pl_at hI.2.1.2.2.2.1.1 hs_8
          refine va_aldq hx hb hK hP kk_115 3 hk_116 rfl (vp_in_nI (by omega) (by decide)) dX11_breachOn_62 ?_
          obtain ⟨b_117, hg_118⟩ := hn_9 ((nI i) : Int32).toNatClampNeg (by rw [eK, nI_clamp (by omega), nI_clamp (by omega)]; exact hlt)
          have ht_119 := hg_10 ((nI i) : Int32).toNatClampNeg (vlt (vp_in_nI (by omega) (by decide))) b_117 hg_118
          rw [hg_118]
          refine W.eq (g2 := F0 m 63 ls [.ref b_117, .ref h0]) rfl ?_
          refine lv_iload_n hx hb dX11_breachOn_63 rfl (lv_at hl 3 rfl) ?_
          obtain ⟨kk_120, hk_121⟩ := pl_at hI.2.1.1.1 hI.2.2.2.1.1
          refine vp_callSi (va_runV (As := [.ref b_117, .int p1]) (rest := []) ⟨hx, hb, hml, hown, hts⟩ (x_failsAlone l dC dI q h0 d k z f hI b_117 p1 ht_119) (cwV 2 hts gX11_breachOn_X11_failsAlone rfl rfl rfl (by decide +kernel) ⟨Nat.le_trans (Nat.le_of_ble_eq_true rfl) hRf, Nat.le_trans (Nat.le_of_ble_eq_true rfl) hRl⟩) ⟨px_fb, va_recv hK hP (ci := 10) (q0 := kk_120) rfl hk_121, fun U hU hW => ⟨rfl, px_to hU hW hP hK hN hXN⟩⟩ rfl rfl hl.1 rfl (lv_room (Nat.le_of_ble_eq_true rfl)) dX11_breachOn_64 ⟨hRc, hRs⟩).run (fun r hw => ?_)
          rcases hw with hw | hw
          ·
            subst hw
            refine lv_if_eq (tgt := 81) hx hb dX11_breachOn_67 (by decide) (fun c_122 => ?_) (fun c_122 => absurd (by decide) c_122)
            refine lv_iinc (v := (nI (i + 1))) (lv' := [(3, .int (nI (i + 1))), (0, .ref h0), (1, .int p0), (2, .int p1)]) hx hb dX11_breachOn_81 hl (k := 0) rfl (nI_1 i) (by decide) rfl (fun ls hl => ?_)
            refine lv_goto (tgt := 35) hx hb dX11_breachOn_84 (by decide) ?_
            exact ih (i + 1) ls (by omega) (by omega) (lv_sub hl [0, 1, 2, 3] rfl)
          ·
            subst hw
            refine lv_if_eq (tgt := 81) hx hb dX11_breachOn_67 (by decide) (fun c_123 => absurd c_123 (by decide)) (fun c_123 => ?_)
            exact kx70 _ ls (lv_sub hl [0, 1, 2, 3] rfl)
      ·
        rcases x_tag ht_15 with ht9 | ht9 | ht9 | ht9 | ht9 | ht9
        ·
          obtain ⟨nu_16, kd_17, cn_18, pa_19, fa_20, l_21, m_22, hs_23, hs_24, hs_25, hs_26⟩ := x_ifl hI ht9
          obtain ⟨kk_27, hk_28⟩ := pl_at ht9.1 hs_23
          exact vp_callSi (va_runU (As := [.int p0]) (rest := []) ⟨hx, hb, hml, hown, hts⟩ (x_isOn l dC dI q h0 d k z f hI b_13 p0 ht_15) (va_cwU 1 hts gX11_breachOn_X4_isOn_u346X2 rfl rfl rfl rfl (by decide +kernel) ⟨Nat.le_trans (Nat.le_of_ble_eq_true rfl) hRf, Nat.le_trans (Nat.le_of_ble_eq_true rfl) hRl⟩) ⟨px_fb, va_recv hK hP (ci := 2) (q0 := kk_27) rfl hk_28, fun U hU hW => ⟨rfl, px_to hU hW hP hK hN hXN⟩⟩ rfl rfl hl.1 rfl (lv_room (Nat.le_of_ble_eq_true rfl)) dX11_breachOn_50 ⟨hRc, hRs⟩).run (fun r hw => kC r hw)
        ·
          obtain ⟨nu_29, kd_30, cn_31, pa_32, fa_33, o_34, w_35, y_36, hs_37, hs_38, hs_39, hs_40, hq_41⟩ := x_ihd hI ht9
          obtain ⟨kk_42, hk_43⟩ := pl_at ht9.1 hs_37
          exact vp_callSi (va_runU (As := [.int p0]) (rest := []) ⟨hx, hb, hml, hown, hts⟩ (x_isOn l dC dI q h0 d k z f hI b_13 p0 ht_15) (va_cwU 1 hts gX11_breachOn_X4_isOn_u346X3 rfl rfl rfl rfl (by decide +kernel) ⟨Nat.le_trans (Nat.le_of_ble_eq_true rfl) hRf, Nat.le_trans (Nat.le_of_ble_eq_true rfl) hRl⟩) ⟨px_fb, va_recv hK hP (ci := 3) (q0 := kk_42) rfl hk_43, fun U hU hW => ⟨rfl, px_to hU hW hP hK hN hXN⟩⟩ rfl rfl hl.1 rfl (lv_room (Nat.le_of_ble_eq_true rfl)) dX11_breachOn_50 ⟨hRc, hRs⟩).run (fun r hw => kC r hw)
        ·
          obtain ⟨nu_44, kd_45, cn_46, pa_47, fa_48, o_49, y_50, hs_51, hs_52, hs_53, hs_54, hq_55⟩ := x_ino hI ht9
          obtain ⟨kk_56, hk_57⟩ := pl_at ht9.1 hs_51
          exact vp_callSi (va_runU (As := [.int p0]) (rest := []) ⟨hx, hb, hml, hown, hts⟩ (x_isOn l dC dI q h0 d k z f hI b_13 p0 ht_15) (va_cwU 1 hts gX11_breachOn_X4_isOn_u346X5 rfl rfl rfl rfl (by decide +kernel) ⟨Nat.le_trans (Nat.le_of_ble_eq_true rfl) hRf, Nat.le_trans (Nat.le_of_ble_eq_true rfl) hRl⟩) ⟨px_fb, va_recv hK hP (ci := 4) (q0 := kk_56) rfl hk_57, fun U hU hW => ⟨rfl, px_to hU hW hP hK hN hXN⟩⟩ rfl rfl hl.1 rfl (lv_room (Nat.le_of_ble_eq_true rfl)) dX11_breachOn_50 ⟨hRc, hRs⟩).run (fun r hw => kC r hw)
        ·
          obtain ⟨nu_58, kd_59, cn_60, pa_61, fa_62, b_63, pr_64, sp_65, dy_66, hs_67, hs_68, hs_69, hs_70, hq_71, hq_72, hq_73⟩ := x_ipd hI ht9
          obtain ⟨kk_74, hk_75⟩ := pl_at ht9.1 hs_67
          exact vp_callSi (va_runU (As := [.int p0]) (rest := []) ⟨hx, hb, hml, hown, hts⟩ (x_isOn l dC dI q h0 d k z f hI b_13 p0 ht_15) (va_cwU 1 hts gX11_breachOn_X4_isOn_u346X6 rfl rfl rfl rfl (by decide +kernel) ⟨Nat.le_trans (Nat.le_of_ble_eq_true rfl) hRf, Nat.le_trans (Nat.le_of_ble_eq_true rfl) hRl⟩) ⟨px_fb, va_recv hK hP (ci := 5) (q0 := kk_74) rfl hk_75, fun U hU hW => ⟨rfl, px_to hU hW hP hK hN hXN⟩⟩ rfl rfl hl.1 rfl (lv_room (Nat.le_of_ble_eq_true rfl)) dX11_breachOn_50 ⟨hRc, hRs⟩).run (fun r hw => kC r hw)
        ·
          obtain ⟨nu_76, kd_77, cn_78, pa_79, fa_80, ww_81, hh_82, sz_83, hs_84, hs_85, hs_86, hs_87, hq_88, hq_89, hq_90⟩ := x_ipi hI ht9
          obtain ⟨kk_91, hk_92⟩ := pl_at ht9.1 hs_84
          exact vp_callSi (va_runU (As := [.int p0]) (rest := []) ⟨hx, hb, hml, hown, hts⟩ (x_isOn l dC dI q h0 d k z f hI b_13 p0 ht_15) (va_cwU 1 hts gX11_breachOn_X4_isOn_u346X7 rfl rfl rfl rfl (by decide +kernel) ⟨Nat.le_trans (Nat.le_of_ble_eq_true rfl) hRf, Nat.le_trans (Nat.le_of_ble_eq_true rfl) hRl⟩) ⟨px_fb, va_recv hK hP (ci := 6) (q0 := kk_91) rfl hk_92, fun U hU hW => ⟨rfl, px_to hU hW hP hK hN hXN⟩⟩ rfl rfl hl.1 rfl (lv_room (Nat.le_of_ble_eq_true rfl)) dX11_breachOn_50 ⟨hRc, hRs⟩).run (fun r hw => kC r hw)
        ·
          obtain ⟨nu_93, kd_94, cn_95, pa_96, fa_97, l_98, co_99, wd_100, nm_101, hs_102, hs_103, hs_104, hs_105, hq_106, hq_107, hq_108⟩ := x_ist hI ht9
          obtain ⟨kk_109, hk_110⟩ := pl_at ht9.1 hs_102
          exact vp_callSi (va_runU (As := [.int p0]) (rest := []) ⟨hx, hb, hml, hown, hts⟩ (x_isOn l dC dI q h0 d k z f hI b_13 p0 ht_15) (va_cwU 1 hts gX11_breachOn_X4_isOn_u346X10 rfl rfl rfl rfl (by decide +kernel) ⟨Nat.le_trans (Nat.le_of_ble_eq_true rfl) hRf, Nat.le_trans (Nat.le_of_ble_eq_true rfl) hRl⟩) ⟨px_fb, va_recv hK hP (ci := 9) (q0 := kk_109) rfl hk_110, fun U hU hW => ⟨rfl, px_to hU hW hP hK hN hXN⟩⟩ rfl rfl hl.1 rfl (lv_room (Nat.le_of_ble_eq_true rfl)) dX11_breachOn_50 ⟨hRc, hRs⟩).run (fun r hw => kC r hw)
set_option maxHeartbeats 4000000 in
set_option maxRecDepth 100000 in
theorem x_breachOn (l : Launch) (dC : Nat → ClassId) (dI : Nat → Nat → Nat) (q : Nat → ClassId) (h0 : Nat) (d : Nat → Nat) (k : Nat → Int32) (z : gS) (f : xF) (hI : xI q h0 d k z f) (p0 : Int32) (sz : Nat) : Met l yX11_breachOn wsX11_breachOn ({ frames := 5, cells := 4, slots := 12, locals := 110 }) (va_Pc [.ref h0, .int p0] (fun U => U.heap.size = sz ∧ PX dC dI (va_pl z.1 f) (xT q) U ∧ va_D (fun _ => True) (va_pl z.1 f))) (va_Qq (fun (r : Option Nat) (w : xU) => w.1 = k ∧ zE z w.2.1 ∧ xI q h0 d k w.2.1 w.2.2 ∧ ∃ b, r = some b ∧ bch w.2.1 w.2.2 b) (fun (w : xU) t => va_P (dC, dI) vwCl (va_pl w.2.1.1 w.2.2) t.heap ∧ va_D (va_A (va_pl z.1 f) sz) (va_pl w.2.1.1 w.2.2)) (va_A (va_pl z.1 f) sz)) 4 12 (va_A (va_pl z.1 f) sz) := by
  refine Met.ofW (cc := cX11_breachOn) (maxL := 4) (ret := (some (.object "PageOne$Breach"))) (by decide) rfl ?_
  intro p e s m args below meth c s₁ B hml hv
  obtain ⟨rfl, hsz, ⟨⟨hP, hK, hN⟩, hXN⟩, hD0⟩ := hv
  have hx := B.exec
  have hb := B.bytes
  have hr := B.returns
  have hts := atoms_spec (ws := wsX11_breachOn) B.pre
  have hown : s.vm.findClass RX11 = some m.cls := findClass_of_methodNamed B.named
  have hlocks := B.notSynchronized
  subst hsz
  have hD := hD0.self (sz := s.heap.size)
  generalize hAe : va_A (va_pl z.1 f) s.heap.size = A at hD ⊢
  have hA : ∀ q : Nat, s.heap.size ≤ q → A q := fun q h => by rw [← hAe]; exact Or.inr h
  have hS : va_S A s.heap s.heap [] := va_S.rf
  have hl := lv_entry ([.ref h0, .int p0]) (n := 4) (Nat.le_of_ble_eq_true rfl)
  rw [lg_entry_eq]
  generalize (lg_sl ([.ref h0, .int p0]) ++ List.replicate (4 - (lg_sl ([.ref h0, .int p0])).length) Slot.unset).toArray = ls at hl ⊢
  have hl : lv_has ls 4 [(0, .ref h0), (1, .int p0)] := hl
  refine lv_iconst (v := 1) hx hb dX11_breachOn_0 (by decide) ?_
  refine lv_istore_n (lv' := [(2, .int 1), (0, .ref h0), (1, .int p0)]) hx hb dX11_breachOn_1 rfl hl (by decide) rfl (fun ls hl => ?_)
  refine lv_iload_n hx hb dX11_breachOn_2 rfl (lv_at hl 0 rfl) ?_
  refine lv_iconst (v := 3) hx hb dX11_breachOn_3 (by decide) ?_
  refine lv_icmp_gt (tgt := 26) hx hb dX11_breachOn_4 (by decide) (fun c_1 => absurd c_1 (by decide)) (fun c_1 => ?_)
  refine lv_aload_n hx hb dX11_breachOn_7 rfl (lv_at hl 1 rfl) ?_
  refine lv_iload_n hx hb dX11_breachOn_8 rfl (lv_at hl 2 rfl) ?_
  refine lv_iload_n hx hb dX11_breachOn_9 rfl (lv_at hl 0 rfl) ?_
  obtain ⟨kk_2, hk_3⟩ := pl_at hI.2.1.1.1 hI.2.2.2.1.1
  have hFc := fr_all hD hS hA
  refine va_callq (va_runV (As := [.int p0, .int 1]) (rest := []) ⟨hx, hb, hml, hown, hts⟩ (x_leastPair l dC dI q h0 d k z f hI p0 1 s.heap.size) (cwV 2 hts gX11_breachOn_X11_leastPair rfl rfl rfl (by decide +kernel) ⟨Nat.le_of_ble_eq_true rfl, Nat.le_of_ble_eq_true rfl⟩) ⟨gx_fb, va_recv hK hP (ci := 10) (q0 := kk_2) rfl hk_3, fun U hU hW => ⟨rfl, by rw [hU], px_to hU hW hP hK hN hXN, hD.weaken (fun _ _ _ _ => trivial)⟩⟩ rfl rfl hl.1 rfl (lv_room (Nat.le_of_ble_eq_true rfl)) dX11_breachOn_10 ⟨Nat.le_of_ble_eq_true rfl, Nat.le_of_ble_eq_true rfl⟩) hS (fun q _ h => hFc q h) hFc (fun r w_4 t H1 locs ht hvm hw hB hz1 hk1 hS => ?_)
  obtain ⟨hP, hD1⟩ := hB
  rw [ht] at hP
  have hD := hD1.weaken (fun _ q _ h => hFc q.1 h)
  generalize H1 = H at hP hS ⊢
  refine W.widen (k := 1) (n := 3) (Nat.le_of_ble_eq_true rfl) (Nat.le_of_ble_eq_true rfl) ?_
  rcases hw with ⟨hr9, hw⟩ | ⟨b_5, hr9, -, hw2, hw3, hv_9, bx_6, bx_7, bx_8, hv_10⟩
  ·
    subst hr9
    subst hw
    have hP : va_P (dC, dI) vwCl (va_pl z.1 f) H := hP
    have hD : va_D A (va_pl z.1 f) := hD
    refine W.eq (g2 := F0 m 13 ls [.null]) rfl ?_
    refine lv_astore_nN (lv' := [(3, .null), (2, .int 1), (0, .ref h0), (1, .int p0)]) hx hb dX11_breachOn_13 rfl hl (by decide) rfl (fun ls hl => ?_)
    refine lv_aload_nN hx hb dX11_breachOn_14 rfl (lv_at hl 0 rfl) ?_
    refine lv_ifnullN (tgt := 20) hx hb dX11_breachOn_15 (by decide) ?_
    refine lv_iinc (v := 2) (lv' := [(2, .int 2), (3, .null), (0, .ref h0), (1, .int p0)]) hx hb dX11_breachOn_20 hl (k := 1) rfl (by decide) (by decide) rfl (fun ls hl => ?_)
    refine lv_goto (tgt := 2) hx hb dX11_breachOn_23 (by decide) ?_
    refine lv_iload_n hx hb dX11_breachOn_2 rfl (lv_at hl 0 rfl) ?_
    refine lv_iconst (v := 3) hx hb dX11_breachOn_3 (by decide) ?_
    refine lv_icmp_gt (tgt := 26) hx hb dX11_breachOn_4 (by decide) (fun c_17 => absurd c_17 (by decide)) (fun c_17 => ?_)
    refine lv_aload_n hx hb dX11_breachOn_7 rfl (lv_at hl 2 rfl) ?_
    refine lv_iload_n hx hb dX11_breachOn_8 rfl (lv_at hl 3 rfl) ?_
    refine lv_iload_n hx hb dX11_breachOn_9 rfl (lv_at hl 0 rfl) ?_
    obtain ⟨kk_18, hk_19⟩ := pl_at hI.2.1.1.1 hI.2.2.2.1.1
    have hFc := fr_all hD hS hA
    refine va_callq (va_runV (As := [.int p0, .int 2]) (rest := []) ⟨hx, hb, hml, hown, hts⟩ (x_leastPair l dC dI q h0 d k z f hI p0 2 H.size) (cwV 2 hts gX11_breachOn_X11_leastPair rfl rfl rfl (by decide +kernel) ⟨Nat.le_of_ble_eq_true rfl, Nat.le_of_ble_eq_true rfl⟩) ⟨gx_fb, va_recv hK hP (ci := 10) (q0 := kk_18) rfl hk_19, fun U hU hW => ⟨rfl, by rw [hU], px_to hU hW hP hK hN hXN, hD.weaken (fun _ _ _ _ => trivial)⟩⟩ rfl rfl hl.1 rfl (lv_room (Nat.le_of_ble_eq_true rfl)) dX11_breachOn_10 ⟨Nat.le_of_ble_eq_true rfl, Nat.le_of_ble_eq_true rfl⟩) hS (fun q _ h => hFc q h) hFc (fun r w_20 t H1 locs ht hvm hw hB hz1 hk1 hS => ?_)
    obtain ⟨hP, hD1⟩ := hB
    rw [ht] at hP
    have hD := hD1.weaken (fun _ q _ h => hFc q.1 h)
    generalize H1 = H at hP hS ⊢
    refine W.widen (k := 2) (n := 6) (Nat.le_of_ble_eq_true rfl) (Nat.le_of_ble_eq_true rfl) ?_
    rcases hw with ⟨hr9, hw⟩ | ⟨b_21, hr9, -, hw2, hw3, hv_25, bx_22, bx_23, bx_24, hv_26⟩
    ·
      subst hr9
      subst hw
      have hP : va_P (dC, dI) vwCl (va_pl z.1 f) H := hP
      have hD : va_D A (va_pl z.1 f) := hD
      refine W.eq (g2 := F0 m 13 ls [.null]) rfl ?_
      refine lv_astore_nN (lv' := [(3, .null), (2, .int 2), (0, .ref h0), (1, .int p0)]) hx hb dX11_breachOn_13 rfl hl (by decide) rfl (fun ls hl => ?_)
      refine lv_aload_nN hx hb dX11_breachOn_14 rfl (lv_at hl 0 rfl) ?_
      refine lv_ifnullN (tgt := 20) hx hb dX11_breachOn_15 (by decide) ?_
      refine lv_iinc (v := 3) (lv' := [(2, .int 3), (3, .null), (0, .ref h0), (1, .int p0)]) hx hb dX11_breachOn_20 hl (k := 1) rfl (by decide) (by decide) rfl (fun ls hl => ?_)
      refine lv_goto (tgt := 2) hx hb dX11_breachOn_23 (by decide) ?_
      refine lv_iload_n hx hb dX11_breachOn_2 rfl (lv_at hl 0 rfl) ?_
      refine lv_iconst (v := 3) hx hb dX11_breachOn_3 (by decide) ?_
      refine lv_icmp_gt (tgt := 26) hx hb dX11_breachOn_4 (by decide) (fun c_33 => absurd c_33 (by decide)) (fun c_33 => ?_)
      refine lv_aload_n hx hb dX11_breachOn_7 rfl (lv_at hl 2 rfl) ?_
      refine lv_iload_n hx hb dX11_breachOn_8 rfl (lv_at hl 3 rfl) ?_
      refine lv_iload_n hx hb dX11_breachOn_9 rfl (lv_at hl 0 rfl) ?_
      obtain ⟨kk_34, hk_35⟩ := pl_at hI.2.1.1.1 hI.2.2.2.1.1
      have hFc := fr_all hD hS hA
      refine va_callq (va_runV (As := [.int p0, .int 3]) (rest := []) ⟨hx, hb, hml, hown, hts⟩ (x_leastPair l dC dI q h0 d k z f hI p0 3 H.size) (cwV 2 hts gX11_breachOn_X11_leastPair rfl rfl rfl (by decide +kernel) ⟨Nat.le_of_ble_eq_true rfl, Nat.le_of_ble_eq_true rfl⟩) ⟨gx_fb, va_recv hK hP (ci := 10) (q0 := kk_34) rfl hk_35, fun U hU hW => ⟨rfl, by rw [hU], px_to hU hW hP hK hN hXN, hD.weaken (fun _ _ _ _ => trivial)⟩⟩ rfl rfl hl.1 rfl (lv_room (Nat.le_of_ble_eq_true rfl)) dX11_breachOn_10 ⟨Nat.le_of_ble_eq_true rfl, Nat.le_of_ble_eq_true rfl⟩) hS (fun q _ h => hFc q h) hFc (fun r w_36 t H1 locs ht hvm hw hB hz1 hk1 hS => ?_)
      obtain ⟨hP, hD1⟩ := hB
      rw [ht] at hP
      have hD := hD1.weaken (fun _ q _ h => hFc q.1 h)
      generalize H1 = H at hP hS ⊢
      refine W.widen (k := 3) (n := 9) (Nat.le_of_ble_eq_true rfl) (Nat.le_of_ble_eq_true rfl) ?_
      rcases hw with ⟨hr9, hw⟩ | ⟨b_37, hr9, -, hw2, hw3, hv_41, bx_38, bx_39, bx_40, hv_42⟩
      ·
        subst hr9
        subst hw
        have hP : va_P (dC, dI) vwCl (va_pl z.1 f) H := hP
        have hD : va_D A (va_pl z.1 f) := hD
        refine W.eq (g2 := F0 m 13 ls [.null]) rfl ?_
        refine lv_astore_nN (lv' := [(3, .null), (2, .int 3), (0, .ref h0), (1, .int p0)]) hx hb dX11_breachOn_13 rfl hl (by decide) rfl (fun ls hl => ?_)
        refine lv_aload_nN hx hb dX11_breachOn_14 rfl (lv_at hl 0 rfl) ?_
        refine lv_ifnullN (tgt := 20) hx hb dX11_breachOn_15 (by decide) ?_
        refine lv_iinc (v := 4) (lv' := [(2, .int 4), (3, .null), (0, .ref h0), (1, .int p0)]) hx hb dX11_breachOn_20 hl (k := 1) rfl (by decide) (by decide) rfl (fun ls hl => ?_)
        refine lv_goto (tgt := 2) hx hb dX11_breachOn_23 (by decide) ?_
        refine lv_iload_n hx hb dX11_breachOn_2 rfl (lv_at hl 0 rfl) ?_
        refine lv_iconst (v := 3) hx hb dX11_breachOn_3 (by decide) ?_
        refine lv_icmp_gt (tgt := 26) hx hb dX11_breachOn_4 (by decide) (fun c_49 => ?_) (fun c_49 => absurd (by decide) c_49)
        refine lv_iconst (v := 4) hx hb dX11_breachOn_26 (by decide) ?_
        refine lv_istore_n (lv' := [(2, .int 4), (3, .null), (0, .ref h0), (1, .int p0)]) hx hb dX11_breachOn_27 rfl hl (by decide) rfl (fun ls hl => ?_)
        refine lv_iload_n hx hb dX11_breachOn_28 rfl (lv_at hl 0 rfl) ?_
        refine lv_iconst (v := 5) hx hb dX11_breachOn_29 (by decide) ?_
        refine lv_icmp_gt (tgt := 93) hx hb dX11_breachOn_30 (by decide) (fun c_50 => absurd c_50 (by decide)) (fun c_50 => ?_)
        refine lv_iconst (v := 0) hx hb dX11_breachOn_33 (by decide) ?_
        refine lv_istore_n (lv' := [(3, .int 0), (2, .int 4), (0, .ref h0), (1, .int p0)]) hx hb dX11_breachOn_34 rfl hl (by decide) rfl (fun ls hl => ?_)
        obtain ⟨K, hK8, -, eK⟩ := exN hI.1.1 (by decide)
        have h80 : (80 : Int32).toInt = 80 := rfl
        refine x_br_l (K := K) hI hx hb hml hts hown hN hXN hK (Nat.le_of_ble_eq_true rfl) (Nat.le_of_ble_eq_true rfl) (Nat.le_of_ble_eq_true rfl) (Nat.le_of_ble_eq_true rfl) hP (by omega) eK (fun ls hl => ?_) (fun i9 ls hl => ?_) (K + 1) 0 ls (Nat.zero_le _) (by omega) (lv_sub hl [0, 2, 3, 1] rfl)
        ·
          refine lv_iinc (v := 5) (lv' := [(2, .int 5), (0, .ref h0), (1, .int p0)]) hx hb dX11_breachOn_87 hl (k := 2) rfl (by decide) (by decide) rfl (fun ls hl => ?_)
          refine lv_goto (tgt := 28) hx hb dX11_breachOn_90 (by decide) ?_
          refine lv_iload_n hx hb dX11_breachOn_28 rfl (lv_at hl 0 rfl) ?_
          refine lv_iconst (v := 5) hx hb dX11_breachOn_29 (by decide) ?_
          refine lv_icmp_gt (tgt := 93) hx hb dX11_breachOn_30 (by decide) (fun c_51 => absurd c_51 (by decide)) (fun c_51 => ?_)
          refine lv_iconst (v := 0) hx hb dX11_breachOn_33 (by decide) ?_
          refine lv_istore_n (lv' := [(3, .int 0), (2, .int 5), (0, .ref h0), (1, .int p0)]) hx hb dX11_breachOn_34 rfl hl (by decide) rfl (fun ls hl => ?_)
          obtain ⟨K, hK8, -, eK⟩ := exN hI.1.1 (by decide)
          have h80 : (80 : Int32).toInt = 80 := rfl
          refine x_br_l (K := K) hI hx hb hml hts hown hN hXN hK (Nat.le_of_ble_eq_true rfl) (Nat.le_of_ble_eq_true rfl) (Nat.le_of_ble_eq_true rfl) (Nat.le_of_ble_eq_true rfl) hP (by omega) eK (fun ls hl => ?_) (fun i9 ls hl => ?_) (K + 1) 0 ls (Nat.zero_le _) (by omega) (lv_sub hl [0, 2, 3, 1] rfl)
          ·
            refine lv_iinc (v := 6) (lv' := [(2, .int 6), (0, .ref h0), (1, .int p0)]) hx hb dX11_breachOn_87 hl (k := 2) rfl (by decide) (by decide) rfl (fun ls hl => ?_)
            refine lv_goto (tgt := 28) hx hb dX11_breachOn_90 (by decide) ?_
            refine lv_iload_n hx hb dX11_breachOn_28 rfl (lv_at hl 0 rfl) ?_
            refine lv_iconst (v := 5) hx hb dX11_breachOn_29 (by decide) ?_
            refine lv_icmp_gt (tgt := 93) hx hb dX11_breachOn_30 (by decide) (fun c_52 => ?_) (fun c_52 => absurd (by decide) c_52)
            refine va_new (ci := 1) (fs := [.int 0, .int 0, .int 0]) (C := RX1) (T := TX1) (N := 3) hx hb hts (by decide +kernel) tyX1 tyX1_ok hown (hts (.classLink RX11 202 RX1) (by decide +kernel)) (hts (.instantiable RX1 3) (by decide +kernel)) (hts (.initialized RX1) (by decide +kernel)) hK hP hD hS hA rfl nwX1 (Nat.le_of_ble_eq_true rfl) (Nat.le_of_ble_eq_true rfl) dX11_breachOn_93 (fun q_53 H hPn hDn hS => ?_)
            have hP := vaP_l hPn
            refine W.widen (k := 4) (n := 12) (Nat.le_of_ble_eq_true rfl) (Nat.le_of_ble_eq_true rfl) ?_
            refine lv_dup hx hb dX11_breachOn_96 rfl ?_
            refine lv_iconst (v := 0) hx hb dX11_breachOn_97 (by decide) ?_
            refine lv_iconst (v := (-1)) hx hb dX11_breachOn_98 (by decide) ?_
            refine lv_iconst (v := (-1)) hx hb dX11_breachOn_99 (by decide) ?_
            have hPc := vaP_r hPn
            have hDc := vaD_r hDn
            have hFc := fr_part hDn hS hA
            refine va_callv (va_runI (As := [.int 0, .int (-1), .int (-1)]) (rest := [.ref q_53]) ⟨hx, hb, hml, hown, hts⟩ (x_Breach l dC dI q_53 0 (-1) (-1) H.size) (cwI 3 hts gX11_breachOn_X1_init rfl rfl rfl (hts (.initialized RX1) (by decide +kernel)) (hts (.methodLink RX11 353 yX1_init) (by decide +kernel)) (hts (.instanceMethod yX1_init) (by decide +kernel)) rfl (by decide +kernel) ⟨Nat.le_of_ble_eq_true rfl, Nat.le_of_ble_eq_true rfl⟩) ⟨gw_fb, fun U hU hW => ⟨rfl, by rw [hU], pw_to hU hW hPc (hK.sub (tys' := []) [] rfl) hN, hDc.weaken (fun _ _ _ _ => trivial)⟩⟩ rfl rfl hl.1 rfl (lv_room (Nat.le_of_ble_eq_true rfl)) dX11_breachOn_100 ⟨Nat.le_of_ble_eq_true rfl, Nat.le_of_ble_eq_true rfl⟩) hS (fun q _ h => hFc q h) hFc (fun u t H1 locs ht hvm hw hB hz1 hk1 hS => ?_)
            obtain ⟨hP1, hD1⟩ := hB
            rw [ht] at hP1
            obtain ⟨hP, hD⟩ := va_joinQ (X := [(q_53, .inr (1, [.int 0, .int 0, .int 0]))]) (cx := [(q_53, .inr (1, [.int 0, .int 0, .int 0]))]) (wr := []) (w1 := [(q_53, .inr (1, [.int 0, .int (-1), .int (-1)]))]) (pl := va_pl z.1 f) (vaP_swap hPn) (vaD_rotR hDn) [0] [] rfl rfl rfl (fun i hi => absurd hi List.not_mem_nil) hk1 hFc hP1 hD1
            generalize H1 = H at hP hS ⊢
            obtain ⟨hnm_54, hP, hD⟩ := pushC hP hD
            obtain ⟨z_55, ez_55⟩ : ∃ y : gS, y = pz z q_53 (24, 0, []) := ⟨_, rfl⟩
            obtain ⟨f_56, ef_56⟩ : ∃ y : xF, y = va_up f q_53 (.inr (1, [.int 0, .int (-1), .int (-1)])) := ⟨_, rfl⟩
            have hE_57 : zE z z_55 := by rw [ez_55]; exact pz_E hnm_54 _
            have hI : xI q h0 d k z_55 f_56 := by rw [ez_55, ef_56]; exact x_push hI hnm_54 (Or.inr (by decide : (15 : Nat) < 24)) (cO_24 (by rw [pz_s]))
            rw [show z.1 ++ [q_53] = z_55.1 from by rw [ez_55]; rfl, ← ef_56] at hP hD
            have ht_58 : tg z_55 q_53 24 := by rw [ez_55]; exact pz_t _ _ _
            have hEz : zE z z_55 := zE_tr (zE_rf z) hE_57
            refine W.eq (g2 := F0 m 103 ls [.ref q_53]) rfl ?_
            have hbc_59 : f_56 q_53 = .inr (1, [.int 0, .int (-1), .int (-1)]) := by rw [ef_56]; exact up_s
            exact W.aret (v := .ref q_53) hx hb hr (Or.inl ⟨_, rfl⟩) (Or.inr ⟨_, rfl⟩) (fun t ht hW => ⟨⟨(some q_53), (k, z_55, f_56), rfl, ⟨rfl, hEz, hI, q_53, rfl, ht_58, _, _, _, hbc_59⟩, by rw [ht]; exact hP, hD⟩, hS.F ht⟩) hS.2.2 dX11_breachOn_103
          ·
            refine va_new (ci := 1) (fs := [.int 0, .int 0, .int 0]) (C := RX1) (T := TX1) (N := 3) hx hb hts (by decide +kernel) tyX1 tyX1_ok hown (hts (.classLink RX11 202 RX1) (by decide +kernel)) (hts (.instantiable RX1 3) (by decide +kernel)) (hts (.initialized RX1) (by decide +kernel)) hK hP hD hS hA rfl nwX1 (Nat.le_of_ble_eq_true rfl) (Nat.le_of_ble_eq_true rfl) dX11_breachOn_70 (fun q_60 H hPn hDn hS => ?_)
            have hP := vaP_l hPn
            refine W.widen (k := 4) (n := 12) (Nat.le_of_ble_eq_true rfl) (Nat.le_of_ble_eq_true rfl) ?_
            refine lv_dup hx hb dX11_breachOn_73 rfl ?_
            refine lv_iload_n hx hb dX11_breachOn_74 rfl (lv_at hl 3 rfl) ?_
            refine lv_iload_n hx hb dX11_breachOn_75 rfl (lv_at hl 0 rfl) ?_
            refine lv_iconst (v := (-1)) hx hb dX11_breachOn_76 (by decide) ?_
            have hPc := vaP_r hPn
            have hDc := vaD_r hDn
            have hFc := fr_part hDn hS hA
            refine va_callv (va_runI (As := [.int 5, .int i9, .int (-1)]) (rest := [.ref q_60]) ⟨hx, hb, hml, hown, hts⟩ (x_Breach l dC dI q_60 5 i9 (-1) H.size) (cwI 3 hts gX11_breachOn_X1_init rfl rfl rfl (hts (.initialized RX1) (by decide +kernel)) (hts (.methodLink RX11 353 yX1_init) (by decide +kernel)) (hts (.instanceMethod yX1_init) (by decide +kernel)) rfl (by decide +kernel) ⟨Nat.le_of_ble_eq_true rfl, Nat.le_of_ble_eq_true rfl⟩) ⟨gw_fb, fun U hU hW => ⟨rfl, by rw [hU], pw_to hU hW hPc (hK.sub (tys' := []) [] rfl) hN, hDc.weaken (fun _ _ _ _ => trivial)⟩⟩ rfl rfl hl.1 rfl (lv_room (Nat.le_of_ble_eq_true rfl)) dX11_breachOn_77 ⟨Nat.le_of_ble_eq_true rfl, Nat.le_of_ble_eq_true rfl⟩) hS (fun q _ h => hFc q h) hFc (fun u t H1 locs ht hvm hw hB hz1 hk1 hS => ?_)
            obtain ⟨hP1, hD1⟩ := hB
            rw [ht] at hP1
            obtain ⟨hP, hD⟩ := va_joinQ (X := [(q_60, .inr (1, [.int 0, .int 0, .int 0]))]) (cx := [(q_60, .inr (1, [.int 0, .int 0, .int 0]))]) (wr := []) (w1 := [(q_60, .inr (1, [.int 5, .int i9, .int (-1)]))]) (pl := va_pl z.1 f) (vaP_swap hPn) (vaD_rotR hDn) [0] [] rfl rfl rfl (fun i hi => absurd hi List.not_mem_nil) hk1 hFc hP1 hD1
            generalize H1 = H at hP hS ⊢
            obtain ⟨hnm_61, hP, hD⟩ := pushC hP hD
            obtain ⟨z_62, ez_62⟩ : ∃ y : gS, y = pz z q_60 (24, 0, []) := ⟨_, rfl⟩
            obtain ⟨f_63, ef_63⟩ : ∃ y : xF, y = va_up f q_60 (.inr (1, [.int 5, .int i9, .int (-1)])) := ⟨_, rfl⟩
            have hE_64 : zE z z_62 := by rw [ez_62]; exact pz_E hnm_61 _
            have hI : xI q h0 d k z_62 f_63 := by rw [ez_62, ef_63]; exact x_push hI hnm_61 (Or.inr (by decide : (15 : Nat) < 24)) (cO_24 (by rw [pz_s]))
            rw [show z.1 ++ [q_60] = z_62.1 from by rw [ez_62]; rfl, ← ef_63] at hP hD
            have ht_65 : tg z_62 q_60 24 := by rw [ez_62]; exact pz_t _ _ _
            have hEz : zE z z_62 := zE_tr (zE_rf z) hE_64
            refine W.eq (g2 := F0 m 80 ls [.ref q_60]) rfl ?_
            have hbc_66 : f_63 q_60 = .inr (1, [.int 5, .int i9, .int (-1)]) := by rw [ef_63]; exact up_s
            exact W.aret (v := .ref q_60) hx hb hr (Or.inl ⟨_, rfl⟩) (Or.inr ⟨_, rfl⟩) (fun t ht hW => ⟨⟨(some q_60), (k, z_62, f_63), rfl, ⟨rfl, hEz, hI, q_60, rfl, ht_65, _, _, _, hbc_66⟩, by rw [ht]; exact hP, hD⟩, hS.F ht⟩) hS.2.2 dX11_breachOn_80
        ·
          refine va_new (ci := 1) (fs := [.int 0, .int 0, .int 0]) (C := RX1) (T := TX1) (N := 3) hx hb hts (by decide +kernel) tyX1 tyX1_ok hown (hts (.classLink RX11 202 RX1) (by decide +kernel)) (hts (.instantiable RX1 3) (by decide +kernel)) (hts (.initialized RX1) (by decide +kernel)) hK hP hD hS hA rfl nwX1 (Nat.le_of_ble_eq_true rfl) (Nat.le_of_ble_eq_true rfl) dX11_breachOn_70 (fun q_67 H hPn hDn hS => ?_)
          have hP := vaP_l hPn
          refine W.widen (k := 4) (n := 12) (Nat.le_of_ble_eq_true rfl) (Nat.le_of_ble_eq_true rfl) ?_
          refine lv_dup hx hb dX11_breachOn_73 rfl ?_
          refine lv_iload_n hx hb dX11_breachOn_74 rfl (lv_at hl 3 rfl) ?_
          refine lv_iload_n hx hb dX11_breachOn_75 rfl (lv_at hl 0 rfl) ?_
          refine lv_iconst (v := (-1)) hx hb dX11_breachOn_76 (by decide) ?_
          have hPc := vaP_r hPn
          have hDc := vaD_r hDn
          have hFc := fr_part hDn hS hA
          refine va_callv (va_runI (As := [.int 4, .int i9, .int (-1)]) (rest := [.ref q_67]) ⟨hx, hb, hml, hown, hts⟩ (x_Breach l dC dI q_67 4 i9 (-1) H.size) (cwI 3 hts gX11_breachOn_X1_init rfl rfl rfl (hts (.initialized RX1) (by decide +kernel)) (hts (.methodLink RX11 353 yX1_init) (by decide +kernel)) (hts (.instanceMethod yX1_init) (by decide +kernel)) rfl (by decide +kernel) ⟨Nat.le_of_ble_eq_true rfl, Nat.le_of_ble_eq_true rfl⟩) ⟨gw_fb, fun U hU hW => ⟨rfl, by rw [hU], pw_to hU hW hPc (hK.sub (tys' := []) [] rfl) hN, hDc.weaken (fun _ _ _ _ => trivial)⟩⟩ rfl rfl hl.1 rfl (lv_room (Nat.le_of_ble_eq_true rfl)) dX11_breachOn_77 ⟨Nat.le_of_ble_eq_true rfl, Nat.le_of_ble_eq_true rfl⟩) hS (fun q _ h => hFc q h) hFc (fun u t H1 locs ht hvm hw hB hz1 hk1 hS => ?_)
          obtain ⟨hP1, hD1⟩ := hB
          rw [ht] at hP1
          obtain ⟨hP, hD⟩ := va_joinQ (X := [(q_67, .inr (1, [.int 0, .int 0, .int 0]))]) (cx := [(q_67, .inr (1, [.int 0, .int 0, .int 0]))]) (wr := []) (w1 := [(q_67, .inr (1, [.int 4, .int i9, .int (-1)]))]) (pl := va_pl z.1 f) (vaP_swap hPn) (vaD_rotR hDn) [0] [] rfl rfl rfl (fun i hi => absurd hi List.not_mem_nil) hk1 hFc hP1 hD1
          generalize H1 = H at hP hS ⊢
          obtain ⟨hnm_68, hP, hD⟩ := pushC hP hD
          obtain ⟨z_69, ez_69⟩ : ∃ y : gS, y = pz z q_67 (24, 0, []) := ⟨_, rfl⟩
          obtain ⟨f_70, ef_70⟩ : ∃ y : xF, y = va_up f q_67 (.inr (1, [.int 4, .int i9, .int (-1)])) := ⟨_, rfl⟩
          have hE_71 : zE z z_69 := by rw [ez_69]; exact pz_E hnm_68 _
          have hI : xI q h0 d k z_69 f_70 := by rw [ez_69, ef_70]; exact x_push hI hnm_68 (Or.inr (by decide : (15 : Nat) < 24)) (cO_24 (by rw [pz_s]))
          rw [show z.1 ++ [q_67] = z_69.1 from by rw [ez_69]; rfl, ← ef_70] at hP hD
          have ht_72 : tg z_69 q_67 24 := by rw [ez_69]; exact pz_t _ _ _
          have hEz : zE z z_69 := zE_tr (zE_rf z) hE_71
          refine W.eq (g2 := F0 m 80 ls [.ref q_67]) rfl ?_
          have hbc_73 : f_70 q_67 = .inr (1, [.int 4, .int i9, .int (-1)]) := by rw [ef_70]; exact up_s
          exact W.aret (v := .ref q_67) hx hb hr (Or.inl ⟨_, rfl⟩) (Or.inr ⟨_, rfl⟩) (fun t ht hW => ⟨⟨(some q_67), (k, z_69, f_70), rfl, ⟨rfl, hEz, hI, q_67, rfl, ht_72, _, _, _, hbc_73⟩, by rw [ht]; exact hP, hD⟩, hS.F ht⟩) hS.2.2 dX11_breachOn_80
      ·
        subst hr9
        obtain ⟨k_47, z_45, f_46⟩ := w_36
        have hP : va_P (dC, dI) vwCl (va_pl z_45.1 f_46) H := hP
        have hD : va_D A (va_pl z_45.1 f_46) := hD
        have hE_48 : zE z z_45 := hw2
        have hI : xI q h0 d k z_45 f_46 := hw3
        have hEz : zE z z_45 := zE_tr (zE_rf z) hE_48
        have ht_44 : tg z_45 b_37 24 := hv_41
        have hbc_43 : f_46 b_37 = .inr (1, [.int bx_38, .int bx_39, .int bx_40]) := hv_42
        refine W.eq (g2 := F0 m 13 ls [.ref b_37]) rfl ?_
        refine lv_astore_n (lv' := [(3, .ref b_37), (2, .int 3), (0, .ref h0), (1, .int p0)]) hx hb dX11_breachOn_13 rfl hl (by decide) rfl (fun ls hl => ?_)
        refine lv_aload_n hx hb dX11_breachOn_14 rfl (lv_at hl 0 rfl) ?_
        refine lv_ifnull hx hb dX11_breachOn_15 ?_
        refine lv_aload_n hx hb dX11_breachOn_18 rfl (lv_at hl 0 rfl) ?_
        refine W.widen (k := 4) (n := 12) (Nat.le_of_ble_eq_true rfl) (Nat.le_of_ble_eq_true rfl) ?_
        exact W.aret (v := .ref b_37) hx hb hr (Or.inl ⟨_, rfl⟩) (Or.inr ⟨_, rfl⟩) (fun t ht hW => ⟨⟨(some b_37), (k, z_45, f_46), rfl, ⟨rfl, hEz, hI, b_37, rfl, ht_44, _, _, _, hbc_43⟩, by rw [ht]; exact hP, hD⟩, hS.F ht⟩) hS.2.2 dX11_breachOn_19
    ·
      subst hr9
      obtain ⟨k_31, z_29, f_30⟩ := w_20
      have hP : va_P (dC, dI) vwCl (va_pl z_29.1 f_30) H := hP
      have hD : va_D A (va_pl z_29.1 f_30) := hD
      have hE_32 : zE z z_29 := hw2
      have hI : xI q h0 d k z_29 f_30 := hw3
      have hEz : zE z z_29 := zE_tr (zE_rf z) hE_32
      have ht_28 : tg z_29 b_21 24 := hv_25
      have hbc_27 : f_30 b_21 = .inr (1, [.int bx_22, .int bx_23, .int bx_24]) := hv_26
      refine W.eq (g2 := F0 m 13 ls [.ref b_21]) rfl ?_
      refine lv_astore_n (lv' := [(3, .ref b_21), (2, .int 2), (0, .ref h0), (1, .int p0)]) hx hb dX11_breachOn_13 rfl hl (by decide) rfl (fun ls hl => ?_)
      refine lv_aload_n hx hb dX11_breachOn_14 rfl (lv_at hl 0 rfl) ?_
      refine lv_ifnull hx hb dX11_breachOn_15 ?_
      refine lv_aload_n hx hb dX11_breachOn_18 rfl (lv_at hl 0 rfl) ?_
      refine W.widen (k := 4) (n := 12) (Nat.le_of_ble_eq_true rfl) (Nat.le_of_ble_eq_true rfl) ?_
      exact W.aret (v := .ref b_21) hx hb hr (Or.inl ⟨_, rfl⟩) (Or.inr ⟨_, rfl⟩) (fun t ht hW => ⟨⟨(some b_21), (k, z_29, f_30), rfl, ⟨rfl, hEz, hI, b_21, rfl, ht_28, _, _, _, hbc_27⟩, by rw [ht]; exact hP, hD⟩, hS.F ht⟩) hS.2.2 dX11_breachOn_19
  ·
    subst hr9
    obtain ⟨k_15, z_13, f_14⟩ := w_4
    have hP : va_P (dC, dI) vwCl (va_pl z_13.1 f_14) H := hP
    have hD : va_D A (va_pl z_13.1 f_14) := hD
    have hE_16 : zE z z_13 := hw2
    have hI : xI q h0 d k z_13 f_14 := hw3
    have hEz : zE z z_13 := zE_tr (zE_rf z) hE_16
    have ht_12 : tg z_13 b_5 24 := hv_9
    have hbc_11 : f_14 b_5 = .inr (1, [.int bx_6, .int bx_7, .int bx_8]) := hv_10
    refine W.eq (g2 := F0 m 13 ls [.ref b_5]) rfl ?_
    refine lv_astore_n (lv' := [(3, .ref b_5), (2, .int 1), (0, .ref h0), (1, .int p0)]) hx hb dX11_breachOn_13 rfl hl (by decide) rfl (fun ls hl => ?_)
    refine lv_aload_n hx hb dX11_breachOn_14 rfl (lv_at hl 0 rfl) ?_
    refine lv_ifnull hx hb dX11_breachOn_15 ?_
    refine lv_aload_n hx hb dX11_breachOn_18 rfl (lv_at hl 0 rfl) ?_
    refine W.widen (k := 4) (n := 12) (Nat.le_of_ble_eq_true rfl) (Nat.le_of_ble_eq_true rfl) ?_
    exact W.aret (v := .ref b_5) hx hb hr (Or.inl ⟨_, rfl⟩) (Or.inr ⟨_, rfl⟩) (fun t ht hW => ⟨⟨(some b_5), (k, z_13, f_14), rfl, ⟨rfl, hEz, hI, b_5, rfl, ht_12, _, _, _, hbc_11⟩, by rw [ht]; exact hP, hD⟩, hS.F ht⟩) hS.2.2 dX11_breachOn_19
set_option maxHeartbeats 4000000 in
set_option maxRecDepth 100000 in
theorem x_broken (l : Launch) (dC : Nat → ClassId) (dI : Nat → Nat → Nat) (q : Nat → ClassId) (h0 : Nat) (d : Nat → Nat) (k : Nat → Int32) (z : gS) (f : xF) (hI : xI q h0 d k z f) (p0 p1 : Int32) (sz : Nat) : Met l yX11_broken wsX11_broken ({ frames := 6, cells := 4, slots := 12, locals := 133 }) (va_Pc [.ref h0, .int p0, .int p1] (fun U => U.heap.size = sz ∧ PX dC dI (va_pl z.1 f) (xT q) U ∧ va_D (fun _ => True) (va_pl z.1 f))) (va_Qi (fun (r : Int32) (w : xU) => w.1 = k ∧ zE z w.2.1 ∧ xI q h0 d k w.2.1 w.2.2) (fun (w : xU) t => va_P (dC, dI) vwCl (va_pl w.2.1.1 w.2.2) t.heap ∧ va_D (va_A (va_pl z.1 f) sz) (va_pl w.2.1.1 w.2.2)) (va_A (va_pl z.1 f) sz)) 4 12 (va_A (va_pl z.1 f) sz) := by
  refine Met.ofW (cc := cX11_broken) (maxL := 4) (ret := (some .int)) (by decide) rfl ?_
  intro p e s m args below meth c s₁ B hml hv
  obtain ⟨rfl, hsz, ⟨⟨hP, hK, hN⟩, hXN⟩, hD0⟩ := hv
  have hx := B.exec
  have hb := B.bytes
  have hr := B.returns
  have hts := atoms_spec (ws := wsX11_broken) B.pre
  have hown : s.vm.findClass RX11 = some m.cls := findClass_of_methodNamed B.named
  have hlocks := B.notSynchronized
  subst hsz
  have hD := hD0.self (sz := s.heap.size)
  generalize hAe : va_A (va_pl z.1 f) s.heap.size = A at hD ⊢
  have hA : ∀ q : Nat, s.heap.size ≤ q → A q := fun q h => by rw [← hAe]; exact Or.inr h
  have hS : va_S A s.heap s.heap [] := va_S.rf
  have hl := lv_entry ([.ref h0, .int p0, .int p1]) (n := 4) (Nat.le_of_ble_eq_true rfl)
  rw [lg_entry_eq]
  generalize (lg_sl ([.ref h0, .int p0, .int p1]) ++ List.replicate (4 - (lg_sl ([.ref h0, .int p0, .int p1])).length) Slot.unset).toArray = ls at hl ⊢
  have hl : lv_has ls 4 [(0, .ref h0), (1, .int p0), (2, .int p1)] := hl
  refine lv_iload_n hx hb dX11_broken_0 rfl (lv_at hl 1 rfl) ?_
  refine vp_callSi (va_runS (As := [.int p0]) (rest := []) ⟨hx, hb, hml, hown, hts⟩ (x_isPage l dC dI p0) (va_cwS 1 hts gX11_broken_X11_isPage rfl rfl rfl (by decide +kernel) ⟨Nat.le_of_ble_eq_true rfl, Nat.le_of_ble_eq_true rfl⟩) ⟨pw_fb, fun U hU hW => ⟨rfl, pw_to hU hW (hP.sub (ws' := []) [] rfl) (hK.sub (tys' := []) [] rfl) hN⟩⟩ rfl rfl hl.1 rfl (lv_room (Nat.le_of_ble_eq_true rfl)) dX11_broken_1 ⟨Nat.le_of_ble_eq_true rfl, Nat.le_of_ble_eq_true rfl⟩).run (fun r hw => ?_)
  rcases Bool.eq_false_or_eq_true (bw p0 0 11) with b_1 | b_1
  ·
    obtain rfl : r = 1 := b_t hw b_1
    refine lv_if_eq (tgt := 16) hx hb dX11_broken_4 (by decide) (fun c_2 => absurd c_2 (by decide)) (fun c_2 => ?_)
    refine lv_iload_n hx hb dX11_broken_7 rfl (lv_at hl 2 rfl) ?_
    refine lv_iconst (v := 0) hx hb dX11_broken_8 (by decide) ?_
    refine lv_iconst (v := 2) hx hb dX11_broken_9 (by decide) ?_
    refine vp_callSi (va_runS (As := [.int p1, .int 0, .int 2]) (rest := []) ⟨hx, hb, hml, hown, hts⟩ (x_isWithin l dC dI p1 0 2) (va_cwS 3 hts gX11_broken_X11_isWithin rfl rfl rfl (by decide +kernel) ⟨Nat.le_of_ble_eq_true rfl, Nat.le_of_ble_eq_true rfl⟩) ⟨pw_fb, fun U hU hW => ⟨rfl, pw_to hU hW (hP.sub (ws' := []) [] rfl) (hK.sub (tys' := []) [] rfl) hN⟩⟩ rfl rfl hl.1 rfl (lv_room (Nat.le_of_ble_eq_true rfl)) dX11_broken_10 ⟨Nat.le_of_ble_eq_true rfl, Nat.le_of_ble_eq_true rfl⟩).run (fun r hw => ?_)
    rcases Bool.eq_false_or_eq_true (bw p1 0 2) with b_3 | b_3
    ·
      obtain rfl : r = 1 := b_t hw b_3
      refine lv_if_ne (tgt := 18) hx hb dX11_broken_13 (by decide) (fun c_4 => ?_) (fun c_4 => absurd c_4 (by decide))
      refine lv_aload_n hx hb dX11_broken_18 rfl (lv_at hl 0 rfl) ?_
      refine lv_iload_n hx hb dX11_broken_19 rfl (lv_at hl 1 rfl) ?_
      obtain ⟨kk_5, hk_6⟩ := pl_at hI.2.1.1.1 hI.2.2.2.1.1
      have hFc := fr_all hD hS hA
      refine va_callq (va_runV (As := [.int p0]) (rest := []) ⟨hx, hb, hml, hown, hts⟩ (x_breachOn l dC dI q h0 d k z f hI p0 s.heap.size) (cwV 1 hts gX11_broken_X11_breachOn rfl rfl rfl (by decide +kernel) ⟨Nat.le_of_ble_eq_true rfl, Nat.le_of_ble_eq_true rfl⟩) ⟨gx_fb, va_recv hK hP (ci := 10) (q0 := kk_5) rfl hk_6, fun U hU hW => ⟨rfl, by rw [hU], px_to hU hW hP hK hN hXN, hD.weaken (fun _ _ _ _ => trivial)⟩⟩ rfl rfl hl.1 rfl (lv_room (Nat.le_of_ble_eq_true rfl)) dX11_broken_20 ⟨Nat.le_of_ble_eq_true rfl, Nat.le_of_ble_eq_true rfl⟩) hS (fun q _ h => hFc q h) hFc (fun r w_7 t H1 locs ht hvm hw hB hz1 hk1 hS => ?_)
      obtain ⟨hP, hD1⟩ := hB
      rw [ht] at hP
      have hD := hD1.weaken (fun _ q _ h => hFc q.1 h)
      generalize H1 = H at hP hS ⊢
      refine W.widen (k := 4) (n := 12) (Nat.le_of_ble_eq_true rfl) (Nat.le_of_ble_eq_true rfl) ?_
      obtain ⟨-, hw2, hw3, b_8, hr9, hv_12, bx_9, bx_10, bx_11, hv_13⟩ := hw
      subst hr9
      obtain ⟨k_18, z_16, f_17⟩ := w_7
      have hP : va_P (dC, dI) vwCl (va_pl z_16.1 f_17) H := hP
      have hD : va_D A (va_pl z_16.1 f_17) := hD
      have hE_19 : zE z z_16 := hw2
      have hI : xI q h0 d k z_16 f_17 := hw3
      have hEz : zE z z_16 := zE_tr (zE_rf z) hE_19
      have ht_15 : tg z_16 b_8 24 := hv_12
      have hbc_14 : f_17 b_8 = .inr (1, [.int bx_9, .int bx_10, .int bx_11]) := hv_13
      refine W.eq (g2 := F0 m 23 ls [.ref b_8]) rfl ?_
      refine lv_astore_n (lv' := [(3, .ref b_8), (0, .ref h0), (1, .int p0), (2, .int p1)]) hx hb dX11_broken_23 rfl hl (by decide) rfl (fun ls hl => ?_)
      refine lv_iload_n hx hb dX11_broken_24 rfl (lv_at hl 3 rfl) ?_
      refine lv_if_ne (tgt := 33) hx hb dX11_broken_25 (by decide) (fun c_20 => ?_) (fun c_20 => ?_)
      ·
        refine lv_iload_n hx hb dX11_broken_33 rfl (lv_at hl 3 rfl) ?_
        refine lv_iconst (v := 1) hx hb dX11_broken_34 (by decide) ?_
        refine lv_icmp_ne (tgt := 45) hx hb dX11_broken_35 (by decide) (fun c_21 => ?_) (fun c_21 => ?_)
        ·
          refine lv_aload_n hx hb dX11_broken_45 rfl (lv_at hl 0 rfl) ?_
          obtain ⟨kk_22, hk_23⟩ := pl_at ht_15.1 hbc_14
          refine va_get (D := (dC, dI)) (ci := 1) (v := .int bx_11) (C := RX1) (T := TX1) (N := 3) hx hb hts (by decide +kernel) hown hK hP kk_22 hk_23 rfl 2 (by decide) (hts (.fieldLink RX11 269 "PageOne$Breach" "other" "I") (by decide +kernel)) (fun _ h9 => h9) rfl dX11_broken_46 ?_
          exact W.iret (v := bx_11) hx hb hr (fun t ht hW => ⟨⟨bx_11, (k, z_16, f_17), rfl, ⟨rfl, hEz, hI⟩, by rw [ht]; exact hP, hD⟩, hS.F ht⟩) hS.2.2 dX11_broken_49
        ·
          refine lv_aload_n hx hb dX11_broken_38 rfl (lv_at hl 0 rfl) ?_
          obtain ⟨kk_24, hk_25⟩ := pl_at ht_15.1 hbc_14
          refine va_get (D := (dC, dI)) (ci := 1) (v := .int bx_10) (C := RX1) (T := TX1) (N := 3) hx hb hts (by decide +kernel) hown hK hP kk_24 hk_25 rfl 1 (by decide) (hts (.fieldLink RX11 266 "PageOne$Breach" "first" "I") (by decide +kernel)) (fun _ h9 => h9) rfl dX11_broken_39 ?_
          refine lv_goto (tgt := 49) hx hb dX11_broken_42 (by decide) ?_
          exact W.iret (v := bx_10) hx hb hr (fun t ht hW => ⟨⟨bx_10, (k, z_16, f_17), rfl, ⟨rfl, hEz, hI⟩, by rw [ht]; exact hP, hD⟩, hS.F ht⟩) hS.2.2 dX11_broken_49
      ·
        refine lv_aload_n hx hb dX11_broken_28 rfl (lv_at hl 0 rfl) ?_
        obtain ⟨kk_26, hk_27⟩ := pl_at ht_15.1 hbc_14
        refine va_get (D := (dC, dI)) (ci := 1) (v := .int bx_9) (C := RX1) (T := TX1) (N := 3) hx hb hts (by decide +kernel) hown hK hP kk_26 hk_27 rfl 0 (by decide) (hts (.fieldLink RX11 201 "PageOne$Breach" "kind" "I") (by decide +kernel)) (fun _ h9 => h9) rfl dX11_broken_29 ?_
        exact W.iret (v := bx_9) hx hb hr (fun t ht hW => ⟨⟨bx_9, (k, z_16, f_17), rfl, ⟨rfl, hEz, hI⟩, by rw [ht]; exact hP, hD⟩, hS.F ht⟩) hS.2.2 dX11_broken_32
    ·
      obtain rfl : r = 0 := b_f hw b_3
      refine lv_if_ne (tgt := 18) hx hb dX11_broken_13 (by decide) (fun c_28 => absurd (by decide) c_28) (fun c_28 => ?_)
      refine lv_iconst (v := (-1)) hx hb dX11_broken_16 (by decide) ?_
      refine W.widen (k := 4) (n := 12) (Nat.le_of_ble_eq_true rfl) (Nat.le_of_ble_eq_true rfl) ?_
      exact W.iret (v := (-1)) hx hb hr (fun t ht hW => ⟨⟨(-1), (k, z, f), rfl, ⟨rfl, zE_rf z, hI⟩, by rw [ht]; exact hP, hD⟩, hS.F ht⟩) hS.2.2 dX11_broken_17
  ·
    obtain rfl : r = 0 := b_f hw b_1
    refine lv_if_eq (tgt := 16) hx hb dX11_broken_4 (by decide) (fun c_29 => ?_) (fun c_29 => absurd (by decide) c_29)
    refine lv_iconst (v := (-1)) hx hb dX11_broken_16 (by decide) ?_
    refine W.widen (k := 4) (n := 12) (Nat.le_of_ble_eq_true rfl) (Nat.le_of_ble_eq_true rfl) ?_
    exact W.iret (v := (-1)) hx hb hr (fun t ht hW => ⟨⟨(-1), (k, z, f), rfl, ⟨rfl, zE_rf z, hI⟩, by rw [ht]; exact hP, hD⟩, hS.F ht⟩) hS.2.2 dX11_broken_17
