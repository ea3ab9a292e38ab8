set_option maxHeartbeats 4000000 in
set_option maxRecDepth 100000 in
theorem x_bill_l {p : Program} {l : Launch} {e : Env} {R : Room} {s : State} {m : MethodId} {args : Array Value} {below : List Frame} {meth : Method} {c : Code} {Q : State → Prop} {cells slots : Nat} {dC : Nat → ClassId} {dI : Nat → Nat → Nat} {q : Nat → ClassId} {h0 : Nat} {d : Nat → Nat} {k : Nat → Int32} {z : gS} {f : xF} {H : Heap} {locs : List Loc} (hI : xI q h0 d k z f) (hx : p.tables.exec = Jvm.exec) (hb : c.code = cX11_bill) (hml : c.maxLocals = 7) (hts : ∀ w ∈ wsX11_bill, w.before args s = true) (hown : s.vm.findClass RX11 = some m.cls) (hN : NN s) (hXN : XN s) (hK : va_K (dC, dI) vwCl (xT q) s) (hRf : 5 ≤ R.frames) (hRl : 110 ≤ R.locals) (hRc : cells ≤ R.cells) (hRs : slots ≤ R.slots) (hP : va_P (dC, dI) vwCl (va_pl z.1 f) H) {K : Nat} (hK8 : K ≤ 80) (eK : k 0 = nI K) {p0 p1 : Int32} (hd9 : bw p1 0 399 = true) (kx92 : ∀ (a9 : Int32) (ls : Array Slot), lv_has ls 7 [(3, .int a9), (0, .ref h0), (1, .int p0), (2, .int p1)] → W p l e R s m args below meth c H locs cells slots Q (F0 m 92 ls [])) : ∀ (kk i : Nat) (a : Int32) (ls : Array Slot), i ≤ K → K - i < kk → lv_has ls 7 [(4, .int (nI i)), (3, .int a), (0, .ref h0), (1, .int p0), (2, .int p1)] → W p l e R s m args below meth c H locs cells slots Q (F0 m 26 ls []) := by
  intro kk
  induction kk with
  | zero => intro i a ls h1 h2; exact absurd h2 (Nat.not_lt_zero _)
  | succ kk ih =>
    intro i a ls hi hkk hl
    refine lv_iload hx hb dX11_bill_26 (lv_at hl 0 rfl) ?_
    refine lv_aload_n hx hb dX11_bill_28 rfl (lv_at hl 2 rfl) ?_
    obtain ⟨kk_1, hk_2⟩ := pl_at hI.2.1.1.1 hI.2.2.2.1.1
    refine va_get (D := (dC, dI)) (ci := 10) (v := .int (k 0)) (C := RX11) (T := TX11) (N := 9) hx hb hts (by decide +kernel) hown hK hP kk_1 hk_2 rfl 3 (by decide) (hts (.fieldLink RX11 24 "PageOne" "itemCount" "I") (by decide +kernel)) (fun _ h9 => h9) rfl dX11_bill_29 ?_
    refine lv_topi (fun y_3 ey_3 => ?_)
    obtain rfl : y_3 = (nI K) := ey_3.trans (eK)
    refine lv_icmp_ge (tgt := 92) hx hb dX11_bill_32 (by decide) (fun c_4 => ?_) (fun c_4 => ?_)
    ·
      have hie : i = K := lp_eq rfl (by omega) hi c_4
      exact kx92 _ ls (lv_sub hl [1, 2, 3, 4] rfl)
    ·
      have hlt : i < K := lp_lt rfl (by omega) hi c_4
      refine lv_aload_n hx hb dX11_bill_35 rfl (lv_at hl 2 rfl) ?_
      obtain ⟨kk_5, hk_6⟩ := pl_at hI.2.1.1.1 hI.2.2.2.1.1
      refine va_get (D := (dC, dI)) (ci := 10) (v := .ref (d 2)) (C := RX11) (T := TX11) (N := 9) hx hb hts (by decide +kernel) hown hK hP kk_5 hk_6 rfl 2 (by decide) (hts (.fieldLink RX11 20 "PageOne" "items" "[LPageOne$Item;") (by decide +kernel)) (fun _ h9 => h9) rfl dX11_bill_36 ?_
      refine lv_iload hx hb dX11_bill_39 (lv_at hl 0 rfl) ?_
      obtain ⟨g_7, hs_8, hn_9, hg_10⟩ := x_itm hI
      obtain ⟨kk_11, hk_12⟩ := pl_at hI.2.1.2.2.2.1.1 hs_8
      refine va_aldq hx hb hK hP kk_11 3 hk_12 rfl (vp_in_nI (by omega) (by decide)) dX11_bill_41 ?_
      obtain ⟨b_13, hg_14⟩ := hn_9 ((nI i) : Int32).toNatClampNeg (by rw [eK, nI_clamp (by omega), nI_clamp (by omega)]; exact hlt)
      have ht_15 := hg_10 ((nI i) : Int32).toNatClampNeg (vlt (vp_in_nI (by omega) (by decide))) b_13 hg_14
      rw [hg_14]
      refine W.eq (g2 := F0 m 42 ls [.ref b_13]) rfl ?_
      refine lv_astore (lv' := [(6, .ref b_13), (4, .int (nI i)), (3, .int a), (0, .ref h0), (1, .int p0), (2, .int p1)]) hx hb dX11_bill_42 hl (by decide) rfl (fun ls hl => ?_)
      refine lv_aload hx hb dX11_bill_44 (lv_at hl 0 rfl) ?_
      rcases Classical.em (tg z b_13 13) with ht9 | ht9
      ·
        have ht_16 := ht9
        obtain ⟨nu_18, kd_19, cn_20, pa_21, fa_22, b_23, pr_24, sp_25, dy_26, hs_27, hs_28, hs_29, hs_30, hq_31, hq_32, hq_33⟩ := x_ipd hI ht_16
        obtain ⟨kk_34, hk_35⟩ := pl_at ht_16.1 hs_27
        refine va_instS hx hb hown (hts (.classLink RX11 104 "PageOne$Paid") (by decide +kernel)) (hK.1 5 (RX6, TX6, 9) rfl).2 (va_recv hK hP (ci := 5) (q0 := kk_34) rfl hk_35) dX11_bill_46 ?_
        refine lv_if_eq (tgt := 86) hx hb dX11_bill_49 (by decide) (fun c_36 => absurd c_36 (by decide)) (fun c_36 => ?_)
        refine lv_aload hx hb dX11_bill_52 (lv_at hl 0 rfl) ?_
        obtain ⟨kk_37, hk_38⟩ := pl_at ht_16.1 hs_27
        refine va_castS hx hb hown (hts (.classLink RX11 104 "PageOne$Paid") (by decide +kernel)) (hK.1 5 (RX6, TX6, 9) rfl).2 (va_recv hK hP (ci := 5) (q0 := kk_37) rfl hk_38) dX11_bill_54 ?_
        refine lv_astore (lv' := [(5, .ref b_13), (6, .ref b_13), (4, .int (nI i)), (3, .int a), (0, .ref h0), (1, .int p0), (2, .int p1)]) hx hb dX11_bill_57 hl (by decide) rfl (fun ls hl => ?_)
        refine lv_aload hx hb dX11_bill_59 (lv_at hl 0 rfl) ?_
        obtain ⟨kk_39, hk_40⟩ := pl_at ht_16.1 hs_27
        refine va_get (D := (dC, dI)) (ci := 5) (v := .int b_23) (C := RX6) (T := TX6) (N := 9) hx hb hts (by decide +kernel) hown hK hP kk_39 hk_40 rfl 5 (by decide) (hts (.fieldLink RX11 260 "PageOne$Paid" "buyer" "I") (by decide +kernel)) (fun _ h9 => h9) rfl dX11_bill_61 ?_
        refine lv_iload_n hx hb dX11_bill_64 rfl (lv_at hl 5 rfl) ?_
        refine lv_icmp_ne (tgt := 86) hx hb dX11_bill_65 (by decide) (fun c_41 => ?_) (fun c_41 => ?_)
        ·
          refine lv_iinc (v := (nI (i + 1))) (lv' := [(4, .int (nI (i + 1))), (5, .ref b_13), (6, .ref b_13), (3, .int a), (0, .ref h0), (1, .int p0), (2, .int p1)]) hx hb dX11_bill_86 hl (k := 2) rfl (nI_1 i) (by decide) rfl (fun ls hl => ?_)
          refine lv_goto (tgt := 26) hx hb dX11_bill_89 (by decide) ?_
          exact ih (i + 1) _ ls (by omega) (by omega) (lv_sub hl [0, 3, 4, 5, 6] rfl)
        ·
          refine lv_aload_n hx hb dX11_bill_68 rfl (lv_at hl 4 rfl) ?_
          refine lv_aload hx hb dX11_bill_69 (lv_at hl 0 rfl) ?_
          refine lv_iload_n hx hb dX11_bill_71 rfl (lv_at hl 6 rfl) ?_
          obtain ⟨kk_42, hk_43⟩ := pl_at hI.2.1.1.1 hI.2.2.2.1.1
          refine vp_callSi (va_runV (As := [.ref b_13, .int p1]) (rest := []) ⟨hx, hb, hml, hown, hts⟩ (x_wasPrintedOn l dC dI q h0 d k z f hI b_13 p1 ht_16 hd9) (cwV 2 hts gX11_bill_X11_wasPrintedOn rfl rfl rfl (by decide +kernel) ⟨Nat.le_trans (Nat.le_of_ble_eq_true rfl) hRf, Nat.le_trans (Nat.le_of_ble_eq_true rfl) hRl⟩) ⟨px_fb, va_recv hK hP (ci := 10) (q0 := kk_42) rfl hk_43, fun U hU hW => ⟨rfl, px_to hU hW hP hK hN hXN⟩⟩ rfl rfl hl.1 rfl (lv_room (Nat.le_of_ble_eq_true rfl)) dX11_bill_72 ⟨hRc, hRs⟩).run (fun r hw => ?_)
          rcases hw with hw | hw
          ·
            subst hw
            refine lv_if_eq (tgt := 86) hx hb dX11_bill_75 (by decide) (fun c_44 => ?_) (fun c_44 => absurd (by decide) c_44)
            refine lv_iinc (v := (nI (i + 1))) (lv' := [(4, .int (nI (i + 1))), (5, .ref b_13), (6, .ref b_13), (3, .int a), (0, .ref h0), (1, .int p0), (2, .int p1)]) hx hb dX11_bill_86 hl (k := 2) rfl (nI_1 i) (by decide) rfl (fun ls hl => ?_)
            refine lv_goto (tgt := 26) hx hb dX11_bill_89 (by decide) ?_
            exact ih (i + 1) _ ls (by omega) (by omega) (lv_sub hl [0, 3, 4, 5, 6] rfl)
          ·
            subst hw
            refine lv_if_eq (tgt := 86) hx hb dX11_bill_75 (by decide) (fun c_45 => absurd c_45 (by decide)) (fun c_45 => ?_)
            refine lv_iload_n hx hb dX11_bill_78 rfl (lv_at hl 3 rfl) ?_
            refine lv_aload hx hb dX11_bill_79 (lv_at hl 0 rfl) ?_
            obtain ⟨kk_46, hk_47⟩ := pl_at ht_16.1 hs_27
            refine vp_callSi (va_runV (As := []) (rest := [.int a]) ⟨hx, hb, hml, hown, hts⟩ (x_cost l dC dI q h0 d k z f hI b_13 ht_16) (cwV 0 hts gX11_bill_X6_cost rfl rfl rfl (by decide +kernel) ⟨Nat.le_trans (Nat.le_of_ble_eq_true rfl) hRf, Nat.le_trans (Nat.le_of_ble_eq_true rfl) hRl⟩) ⟨px_fb, va_recv hK hP (ci := 5) (q0 := kk_46) rfl hk_47, fun U hU hW => ⟨rfl, px_to hU hW hP hK hN hXN⟩⟩ rfl rfl hl.1 rfl (lv_room (Nat.le_of_ble_eq_true rfl)) dX11_bill_81 ⟨hRc, hRs⟩).run (fun r hw => ?_)
            generalize r = zr_48 at hw ⊢
            have hzr_48 := hw
            refine lv_iadd hx hb dX11_bill_84 ?_
            refine lv_topi (fun x_49 ex_49 => ?_)
            refine lv_istore_n (lv' := [(3, .int x_49), (5, .ref b_13), (6, .ref b_13), (4, .int (nI i)), (0, .ref h0), (1, .int p0), (2, .int p1)]) hx hb dX11_bill_85 rfl hl (by decide) rfl (fun ls hl => ?_)
            refine lv_iinc (v := (nI (i + 1))) (lv' := [(4, .int (nI (i + 1))), (3, .int x_49), (5, .ref b_13), (6, .ref b_13), (0, .ref h0), (1, .int p0), (2, .int p1)]) hx hb dX11_bill_86 hl (k := 3) rfl (nI_1 i) (by decide) rfl (fun ls hl => ?_)
            refine lv_goto (tgt := 26) hx hb dX11_bill_89 (by decide) ?_
            exact ih (i + 1) _ ls (by omega) (by omega) (lv_sub hl [0, 1, 4, 5, 6] rfl)
      ·
        have hn_17 := ht9
        refine w_then (F0 m 49 ls [.int 0]) (fun hgo => ?_) ?_
        ·
          rcases x_tag ht_15 with ht8 | ht8 | ht8 | ht8 | ht8 | ht8
          ·
            obtain ⟨nu_50, kd_51, cn_52, pa_53, fa_54, l_55, m_56, hs_57, hs_58, hs_59, hs_60⟩ := x_ifl hI ht8
            obtain ⟨kk_61, hk_62⟩ := pl_at ht8.1 hs_57
            exact va_instNo hx hb hown (hts (.classLink RX11 104 "PageOne$Paid") (by decide +kernel)) hXN.n_X2_X6 (va_recv hK hP (ci := 2) (q0 := kk_61) rfl hk_62) dX11_bill_46 hgo
          ·
            obtain ⟨nu_63, kd_64, cn_65, pa_66, fa_67, o_68, w_69, y_70, hs_71, hs_72, hs_73, hs_74, hq_75⟩ := x_ihd hI ht8
            obtain ⟨kk_76, hk_77⟩ := pl_at ht8.1 hs_71
            exact va_instNo hx hb hown (hts (.classLink RX11 104 "PageOne$Paid") (by decide +kernel)) hXN.n_X3_X6 (va_recv hK hP (ci := 3) (q0 := kk_76) rfl hk_77) dX11_bill_46 hgo
          ·
            obtain ⟨nu_78, kd_79, cn_80, pa_81, fa_82, o_83, y_84, hs_85, hs_86, hs_87, hs_88, hq_89⟩ := x_ino hI ht8
            obtain ⟨kk_90, hk_91⟩ := pl_at ht8.1 hs_85
            exact va_instNo hx hb hown (hts (.classLink RX11 104 "PageOne$Paid") (by decide +kernel)) hXN.n_X5_X6 (va_recv hK hP (ci := 4) (q0 := kk_90) rfl hk_91) dX11_bill_46 hgo
          ·
            exact absurd ht8 ht9
          ·
            obtain ⟨nu_92, kd_93, cn_94, pa_95, fa_96, ww_97, hh_98, sz_99, hs_100, hs_101, hs_102, hs_103, hq_104, hq_105, hq_106⟩ := x_ipi hI ht8
            obtain ⟨kk_107, hk_108⟩ := pl_at ht8.1 hs_100
            exact va_instNo hx hb hown (hts (.classLink RX11 104 "PageOne$Paid") (by decide +kernel)) hXN.n_X7_X6 (va_recv hK hP (ci := 6) (q0 := kk_107) rfl hk_108) dX11_bill_46 hgo
          ·
            obtain ⟨nu_109, kd_110, cn_111, pa_112, fa_113, l_114, co_115, wd_116, nm_117, hs_118, hs_119, hs_120, hs_121, hq_122, hq_123, hq_124⟩ := x_ist hI ht8
            obtain ⟨kk_125, hk_126⟩ := pl_at ht8.1 hs_118
            exact va_instNo hx hb hown (hts (.classLink RX11 104 "PageOne$Paid") (by decide +kernel)) hXN.n_X10_X6 (va_recv hK hP (ci := 9) (q0 := kk_125) rfl hk_126) dX11_bill_46 hgo
        ·
          refine lv_if_eq (tgt := 86) hx hb dX11_bill_49 (by decide) (fun c_127 => ?_) (fun c_127 => absurd (by decide) c_127)
          refine lv_iinc (v := (nI (i + 1))) (lv' := [(4, .int (nI (i + 1))), (6, .ref b_13), (3, .int a), (0, .ref h0), (1, .int p0), (2, .int p1)]) hx hb dX11_bill_86 hl (k := 1) rfl (nI_1 i) (by decide) rfl (fun ls hl => ?_)
          refine lv_goto (tgt := 26) hx hb dX11_bill_89 (by decide) ?_
          exact ih (i + 1) _ ls (by omega) (by omega) (lv_sub hl [0, 2, 3, 4, 5] rfl)
set_option maxHeartbeats 4000000 in
set_option maxRecDepth 100000 in
theorem x_bill (l : Launch) (dC : Nat → ClassId) (dI : Nat → Nat → Nat) (q : Nat → ClassId) (h0 : Nat) (d : Nat → Nat) (k : Nat → Int32) (z : gS) (f : xF) (hI : xI q h0 d k z f) (p0 p1 : Int32) : Met l yX11_bill wsX11_bill ({ frames := 5, cells := 0, slots := 0, locals := 110 }) (va_Pc [.ref h0, .int p0, .int p1] (PX dC dI (va_pl z.1 f) (xT q))) (vp_Si (fun r => True)) 0 0 (fun _ => False) := by
  refine Met.ofW (cc := cX11_bill) (maxL := 7) (ret := (some .int)) (by decide) rfl ?_
  intro p e s m args below meth c s₁ B hml hv
  obtain ⟨rfl, ⟨hP, hK, hN⟩, hXN⟩ := hv
  have hx := B.exec
  have hb := B.bytes
  have hr := B.returns
  have hts := atoms_spec (ws := wsX11_bill) B.pre
  have hown : s.vm.findClass RX11 = some m.cls := findClass_of_methodNamed B.named
  have hlocks := B.notSynchronized
  have hl := lv_entry ([.ref h0, .int p0, .int p1]) (n := 7) (Nat.le_of_ble_eq_true rfl)
  rw [lg_entry_eq]
  generalize (lg_sl ([.ref h0, .int p0, .int p1]) ++ List.replicate (7 - (lg_sl ([.ref h0, .int p0, .int p1])).length) Slot.unset).toArray = ls at hl ⊢
  have hl : lv_has ls 7 [(0, .ref h0), (1, .int p0), (2, .int p1)] := hl
  refine lv_iload_n hx hb dX11_bill_0 rfl (lv_at hl 1 rfl) ?_
  refine vp_callSi (va_runS (As := [.int p0]) (rest := []) ⟨hx, hb, hml, hown, hts⟩ (x_isBuyer l dC dI p0) (va_cwS 1 hts gX11_bill_X11_isBuyer rfl rfl rfl (by decide +kernel) ⟨Nat.le_of_ble_eq_true rfl, Nat.le_of_ble_eq_true rfl⟩) ⟨pw_fb, fun U hU hW => ⟨rfl, pw_to hU hW (hP.sub (ws' := []) [] rfl) (hK.sub (tys' := []) [] rfl) hN⟩⟩ rfl rfl hl.1 rfl (lv_room (Nat.le_of_ble_eq_true rfl)) dX11_bill_1 ⟨Nat.le_of_ble_eq_true rfl, Nat.le_of_ble_eq_true rfl⟩).run (fun r hw => ?_)
  rcases Bool.eq_false_or_eq_true (bw p0 0 9) with b_1 | b_1
  ·
    obtain rfl : r = 1 := b_t hw b_1
    refine lv_if_eq (tgt := 19) hx hb dX11_bill_4 (by decide) (fun c_2 => absurd c_2 (by decide)) (fun c_2 => ?_)
    refine lv_iload_n hx hb dX11_bill_7 rfl (lv_at hl 2 rfl) ?_
    refine lv_iconst (v := 0) hx hb dX11_bill_8 (by decide) ?_
    refine lv_aload_n hx hb dX11_bill_9 rfl (lv_at hl 0 rfl) ?_
    obtain ⟨kk_3, hk_4⟩ := pl_at hI.2.1.1.1 hI.2.2.2.1.1
    refine va_get (D := (dC, dI)) (ci := 10) (v := .int (k 2)) (C := RX11) (T := TX11) (N := 9) hx hb hts (by decide +kernel) hown hK hP kk_3 hk_4 rfl 7 (by decide) (hts (.fieldLink RX11 41 "PageOne" "today" "I") (by decide +kernel)) (fun _ h9 => h9) rfl dX11_bill_10 ?_
    refine vp_callSi (va_runS (As := [.int p1, .int 0, .int (k 2)]) (rest := []) ⟨hx, hb, hml, hown, hts⟩ (x_isWithin l dC dI p1 0 (k 2)) (va_cwS 3 hts gX11_bill_X11_isWithin rfl rfl rfl (by decide +kernel) ⟨Nat.le_of_ble_eq_true rfl, Nat.le_of_ble_eq_true rfl⟩) ⟨pw_fb, fun U hU hW => ⟨rfl, pw_to hU hW (hP.sub (ws' := []) [] rfl) (hK.sub (tys' := []) [] rfl) hN⟩⟩ rfl rfl hl.1 rfl (lv_room (Nat.le_of_ble_eq_true rfl)) dX11_bill_13 ⟨Nat.le_of_ble_eq_true rfl, Nat.le_of_ble_eq_true rfl⟩).run (fun r hw => ?_)
    rcases Bool.eq_false_or_eq_true (bw p1 0 (k 2)) with b_5 | b_5
    ·
      obtain rfl : r = 1 := b_t hw b_5
      refine lv_if_ne (tgt := 21) hx hb dX11_bill_16 (by decide) (fun c_6 => ?_) (fun c_6 => absurd c_6 (by decide))
      refine lv_iconst (v := 0) hx hb dX11_bill_21 (by decide) ?_
      refine lv_istore_n (lv' := [(3, .int 0), (0, .ref h0), (1, .int p0), (2, .int p1)]) hx hb dX11_bill_22 rfl hl (by decide) rfl (fun ls hl => ?_)
      refine lv_iconst (v := 0) hx hb dX11_bill_23 (by decide) ?_
      refine lv_istore (lv' := [(4, .int 0), (3, .int 0), (0, .ref h0), (1, .int p0), (2, .int p1)]) hx hb dX11_bill_24 hl (by decide) rfl (fun ls hl => ?_)
      have hd9 : bw p1 0 399 = true := by have h1 := bw_iff.mp b_5; have h2 := bw_iff.mp hI.1.2.2; rw [bw_iff]; omega
      obtain ⟨K, hK8, -, eK⟩ := exN hI.1.1 (by decide)
      have h80 : (80 : Int32).toInt = 80 := rfl
      refine x_bill_l (K := K) hI hx hb hml hts hown hN hXN hK (Nat.le_of_ble_eq_true rfl) (Nat.le_of_ble_eq_true rfl) (Nat.le_of_ble_eq_true rfl) (Nat.le_of_ble_eq_true rfl) hP (by omega) eK hd9 (fun a9 ls hl => ?_) (K + 1) 0 _ ls (Nat.zero_le _) (by omega) (lv_sub hl [0, 1, 2, 3, 4] rfl)
      refine lv_iload_n hx hb dX11_bill_92 rfl (lv_at hl 0 rfl) ?_
      exact W.iret (v := a9) hx hb hr (fun t ht hW => ⟨_, rfl, trivial, ht⟩) (fun q h => absurd h List.not_mem_nil) dX11_bill_93
    ·
      obtain rfl : r = 0 := b_f hw b_5
      refine lv_if_ne (tgt := 21) hx hb dX11_bill_16 (by decide) (fun c_7 => absurd (by decide) c_7) (fun c_7 => ?_)
      refine lv_iconst (v := (-1)) hx hb dX11_bill_19 (by decide) ?_
      exact W.iret (v := (-1)) hx hb hr (fun t ht hW => ⟨_, rfl, trivial, ht⟩) (fun q h => absurd h List.not_mem_nil) dX11_bill_20
  ·
    obtain rfl : r = 0 := b_f hw b_1
    refine lv_if_eq (tgt := 19) hx hb dX11_bill_4 (by decide) (fun c_8 => ?_) (fun c_8 => absurd (by decide) c_8)
    refine lv_iconst (v := (-1)) hx hb dX11_bill_19 (by decide) ?_
    exact W.iret (v := (-1)) hx hb hr (fun t ht hW => ⟨_, rfl, trivial, ht⟩) (fun q h => absurd h List.not_mem_nil) dX11_bill_20
