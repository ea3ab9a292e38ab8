set_option maxHeartbeats 4000000 in
set_option maxRecDepth 100000 in
theorem y_bill_l {p : Program} {l : Launch} {e : Env} {R : Room} {s : State} {m : MethodId} {args : Array Value} {below : List Frame} {meth : Method} {c : Code} {Q : State → Prop} {cells slots : Nat} {dC : Nat → ClassId} {dI : Nat → Nat → Nat} {q : Nat → ClassId} {h0 : Nat} {d : Nat → Nat} {k : Nat → Int32} {z : gS} {f : xF} {H : Heap} {locs : List Loc} (hI : xI q h0 d k z f) (hx : p.tables.exec = Jvm.exec) (hb : c.code = cX11_bill) (hml : c.maxLocals = 7) (hts : ∀ w ∈ wsX11_bill, w.before args s = true) (hown : s.vm.findClass RX11 = some m.cls) (hN : NN s) (hXN : XN s) (hK : va_K (dC, dI) vwCl (xT q) s) (hRf : 5 ≤ R.frames) (hRl : 110 ≤ R.locals) (hRc : cells ≤ R.cells) (hRs : slots ≤ R.slots) (hP : va_P (dC, dI) vwCl (va_pl z.1 f) H) {u : mS} (hrp : rep q d u z f) (hk0 : k 0 = u.1 3) (hk1 : k 1 = u.1 28) (hk2 : k 2 = u.1 38) (hk3 : k 3 = u.1 39) {K : Nat} (hK8 : K ≤ 80) (eK : k 0 = nI K) (eKn : (u.1 3).toNatClampNeg = K) {p0 p1 : Int32} (hd9 : bw p1 0 399 = true) (hpi : plI u) (hsd : sdI u) (kx92 : ∀ (a9 : Int32) (ls : Array Slot), a9 = blS u p0 p1 K → lv_has ls 7 [(3, .int a9), (0, .ref h0), (1, .int p0), (2, .int p1)] → W p l e R s m args below meth c H locs cells slots Q (F0 m 92 ls [])) : ∀ (kk i : Nat) (a : Int32) (ls : Array Slot), i ≤ K → K - i < kk → a = blS u p0 p1 i → lv_has ls 7 [(4, .int (nI i)), (3, .int a), (0, .ref h0), (1, .int p0), (2, .int p1)] → W p l e R s m args below meth c H locs cells slots Q (F0 m 26 ls []) := by
  intro kk
  induction kk with
  | zero => intro i a ls h1 h2; exact absurd h2 (Nat.not_lt_zero _)
  | succ kk ih =>
    intro i a ls hi hkk hg hl
    refine lv_iload hx hb dX11_bill_26 (lv_at hl 0 rfl) ?_
    refine lv_aload_n hx hb dX11_bill_28 rfl (lv_at hl 2 rfl) ?_
    obtain ⟨kk_1, hk_2⟩ := pl_at hI.2.1.1.1 hI.2.2.2.1.1
    refine va_get (D := (dC, dI)) (ci := 10) (v := .int (k 0)) (C := RX11) (T := TX11) (N := 9) hx hb hts (by decide +kernel) hown hK hP kk_1 hk_2 rfl 3 (by decide) (hts (.fieldLink RX11 24 "PageOne" "itemCount" "I") (by decide +kernel)) (fun _ h9 => h9) rfl dX11_bill_29 ?_
    refine lv_topi (fun y_3 ey_3 => ?_)
    obtain rfl : y_3 = (nI K) := ey_3.trans (eK)
    refine lv_icmp_ge (tgt := 92) hx hb dX11_bill_32 (by decide) (fun c_4 => ?_) (fun c_4 => ?_)
    ·
      have hie : i = K := lp_eq rfl (by omega) hi c_4
      exact kx92 _ ls (by rw [← hie]; exact hg) (lv_sub hl [1, 2, 3, 4] rfl)
    ·
      have hlt : i < K := lp_lt rfl (by omega) hi c_4
      refine lv_aload_n hx hb dX11_bill_35 rfl (lv_at hl 2 rfl) ?_
      obtain ⟨kk_5, hk_6⟩ := pl_at hI.2.1.1.1 hI.2.2.2.1.1
      refine va_get (D := (dC, dI)) (ci := 10) (v := .ref (d 2)) (C := RX11) (T := TX11) (N := 9) hx hb hts (by decide +kernel) hown hK hP kk_5 hk_6 rfl 2 (by decide) (hts (.fieldLink RX11 20 "PageOne" "items" "[LPageOne$Item;") (by decide +kernel)) (fun _ h9 => h9) rfl dX11_bill_36 ?_
      refine lv_iload hx hb dX11_bill_39 (lv_at hl 0 rfl) ?_
      obtain ⟨g_7, hs_8, hn_9, hg_10⟩ := x_itm hI
      obtain ⟨kk_11, hk_12⟩ := pl_at hI.2.1.2.2.2.1.1 hs_8
      refine va_aldq hx hb hK hP kk_11 3 hk_12 rfl (vp_in_nI (by omega) (by decide)) dX11_bill_41 ?_
      obtain ⟨b_13, hg_14⟩ := hn_9 ((nI i) : Int32).toNatClampNeg (by rw [eK, nI_clamp (by omega), nI_clamp (by omega)]; exact hlt)
      have ht_15 := hg_10 ((nI i) : Int32).toNatClampNeg (vlt (vp_in_nI (by omega) (by decide))) b_13 hg_14
      rw [hg_14]
      refine W.eq (g2 := F0 m 42 ls [.ref b_13]) rfl ?_
      have hb_16 := rI_at hrp.2.2.1 hs_8 (by rw [eKn]; exact hlt) (by rw [nI_clamp (by omega)] at hg_14; exact hg_14)
      subst hb_16
      obtain ⟨rs_17, n_18, g_19, fg_20, hit_21, hs_22, hpa_23, hps_24, h1_25, h6_26, hcb_27, hpl_28, hlg_29, hnn_30, hfa_31, hfs_32, hfe_33, hrs_34, hkt_35⟩ := it_all hI hrp.2.2.1 (by rw [eKn]; exact hlt)
      refine lv_astore (lv' := [(6, .ref (d (2000 + i))), (4, .int (nI i)), (3, .int a), (0, .ref h0), (1, .int p0), (2, .int p1)]) hx hb dX11_bill_42 hl (by decide) rfl (fun ls hl => ?_)
      refine lv_aload hx hb dX11_bill_44 (lv_at hl 0 rfl) ?_
      rcases Classical.em (tg z (d (2000 + i)) 13) with ht9 | ht9
      ·
        have ht_36 := ht9
        have hkd_38 : u.2 4 i = 3 := (kT_k (kd_05 hrp.2.2.1 (by rw [eKn]; exact hlt)).1 (kd_05 hrp.2.2.1 (by rw [eKn]; exact hlt)).2).2.2.2.1 (hkt_35.symm.trans ht_36.2)
        obtain ⟨hx_49, hx_50, hx_51, hx_52, hx_53, hx_54⟩ := hrs_34.2.2.2.1 hkd_38
        have hs_58 : f (d (2000 + i)) = .inr (5, [.int (nI i), .int (u.2 4 i), .ref (d (3000 + i)), .int (u.2 22 i), .ref (d (4000 + i)), .int (u.2 10 i), .int (u.2 14 i), .ref (d (5000 + i)), .ref (d (6000 + i))]) := by rw [hs_22, ht_36.2, hx_49]; rfl
        obtain ⟨kk_59, hk_60⟩ := pl_at ht_36.1 hs_58
        refine va_instS hx hb hown (hts (.classLink RX11 104 "PageOne$Paid") (by decide +kernel)) (hK.1 5 (RX6, TX6, 9) rfl).2 (va_recv hK hP (ci := 5) (q0 := kk_59) rfl hk_60) dX11_bill_46 ?_
        refine lv_if_eq (tgt := 86) hx hb dX11_bill_49 (by decide) (fun c_61 => absurd c_61 (by decide)) (fun c_61 => ?_)
        refine lv_aload hx hb dX11_bill_52 (lv_at hl 0 rfl) ?_
        obtain ⟨kk_62, hk_63⟩ := pl_at ht_36.1 hs_58
        refine va_castS hx hb hown (hts (.classLink RX11 104 "PageOne$Paid") (by decide +kernel)) (hK.1 5 (RX6, TX6, 9) rfl).2 (va_recv hK hP (ci := 5) (q0 := kk_62) rfl hk_63) dX11_bill_54 ?_
        refine lv_astore (lv' := [(5, .ref (d (2000 + i))), (6, .ref (d (2000 + i))), (4, .int (nI i)), (3, .int a), (0, .ref h0), (1, .int p0), (2, .int p1)]) hx hb dX11_bill_57 hl (by decide) rfl (fun ls hl => ?_)
        refine lv_aload hx hb dX11_bill_59 (lv_at hl 0 rfl) ?_
        obtain ⟨kk_64, hk_65⟩ := pl_at ht_36.1 hs_58
        refine va_get (D := (dC, dI)) (ci := 5) (v := .int (u.2 10 i)) (C := RX6) (T := TX6) (N := 9) hx hb hts (by decide +kernel) hown hK hP kk_64 hk_65 rfl 5 (by decide) (hts (.fieldLink RX11 260 "PageOne$Paid" "buyer" "I") (by decide +kernel)) (fun _ h9 => h9) rfl dX11_bill_61 ?_
        refine lv_iload_n hx hb dX11_bill_64 rfl (lv_at hl 5 rfl) ?_
        refine lv_icmp_ne (tgt := 86) hx hb dX11_bill_65 (by decide) (fun c_66 => ?_) (fun c_66 => ?_)
        ·
          refine lv_iinc (v := (nI (i + 1))) (lv' := [(4, .int (nI (i + 1))), (5, .ref (d (2000 + i))), (6, .ref (d (2000 + i))), (3, .int a), (0, .ref h0), (1, .int p0), (2, .int p1)]) hx hb dX11_bill_86 hl (k := 2) rfl (nI_1 i) (by decide) rfl (fun ls hl => ?_)
          refine lv_goto (tgt := 26) hx hb dX11_bill_89 (by decide) ?_
          exact ih (i + 1) _ ls (by omega) (by omega) (by rw [hg]; exact (blS_0 (fun h9 => c_66 h9.2.1)).symm) (lv_sub hl [0, 3, 4, 5, 6] rfl)
        ·
          refine lv_aload_n hx hb dX11_bill_68 rfl (lv_at hl 4 rfl) ?_
          refine lv_aload hx hb dX11_bill_69 (lv_at hl 0 rfl) ?_
          refine lv_iload_n hx hb dX11_bill_71 rfl (lv_at hl 6 rfl) ?_
          obtain ⟨kk_67, hk_68⟩ := pl_at hI.2.1.1.1 hI.2.2.2.1.1
          refine vp_callSi (va_runV (As := [.ref (d (2000 + i)), .int p1]) (rest := []) ⟨hx, hb, hml, hown, hts⟩ (y_wasPrintedOn l dC dI q h0 d k z f hI p1 hd9 u hrp hk0 hk1 hk2 hk3 hpi hsd i (by rw [eKn]; exact hlt) hkd_38) (cwV 2 hts gX11_bill_X11_wasPrintedOn rfl rfl rfl (by decide +kernel) ⟨Nat.le_trans (Nat.le_of_ble_eq_true rfl) hRf, Nat.le_trans (Nat.le_of_ble_eq_true rfl) hRl⟩) ⟨px_fb, va_recv hK hP (ci := 10) (q0 := kk_67) rfl hk_68, fun U hU hW => ⟨rfl, px_to hU hW hP hK hN hXN⟩⟩ rfl rfl hl.1 rfl (lv_room (Nat.le_of_ble_eq_true rfl)) dX11_bill_72 ⟨hRc, hRs⟩).run (fun r hw => ?_)
          obtain rfl : r = (bP (wpP u i p1)) := hw
          refine lv_if_eq (tgt := 86) hx hb dX11_bill_75 (by decide) (fun c_69 => ?_) (fun c_69 => ?_)
          ·
            refine lv_iinc (v := (nI (i + 1))) (lv' := [(4, .int (nI (i + 1))), (5, .ref (d (2000 + i))), (6, .ref (d (2000 + i))), (3, .int a), (0, .ref h0), (1, .int p0), (2, .int p1)]) hx hb dX11_bill_86 hl (k := 2) rfl (nI_1 i) (by decide) rfl (fun ls hl => ?_)
            refine lv_goto (tgt := 26) hx hb dX11_bill_89 (by decide) ?_
            exact ih (i + 1) _ ls (by omega) (by omega) (by rw [hg]; exact (blS_0 (fun h9 => bP_0 c_69 h9.2.2)).symm) (lv_sub hl [0, 3, 4, 5, 6] rfl)
          ·
            refine lv_iload_n hx hb dX11_bill_78 rfl (lv_at hl 3 rfl) ?_
            refine lv_aload hx hb dX11_bill_79 (lv_at hl 0 rfl) ?_
            obtain ⟨kk_70, hk_71⟩ := pl_at ht_36.1 hs_58
            refine vp_callSi (va_runV (As := []) (rest := [.int a]) ⟨hx, hb, hml, hown, hts⟩ (y_cost l dC dI q h0 d k z f hI (d (2000 + i)) (d (3000 + i)) (d (4000 + i)) (d (5000 + i)) (d (6000 + i)) (nI i) (u.2 4 i) (u.2 22 i) (u.2 10 i) (u.2 14 i) ht_36 hs_58 none (u.2 11 i) (u.2 12 i) (u.2 13 i) (u.2 7 i) (u.2 8 i) hx_50) (cwV 0 hts gX11_bill_X6_cost rfl rfl rfl (by decide +kernel) ⟨Nat.le_trans (Nat.le_of_ble_eq_true rfl) hRf, Nat.le_trans (Nat.le_of_ble_eq_true rfl) hRl⟩) ⟨px_fb, va_recv hK hP (ci := 5) (q0 := kk_70) rfl hk_71, fun U hU hW => ⟨rfl, px_to hU hW hP hK hN hXN⟩⟩ rfl rfl hl.1 rfl (lv_room (Nat.le_of_ble_eq_true rfl)) dX11_bill_81 ⟨hRc, hRs⟩).run (fun r hw => ?_)
            obtain rfl : r = (u.2 7 i * u.2 8 i * u.2 14 i) := hw
            refine lv_iadd hx hb dX11_bill_84 ?_
            refine lv_topi (fun x_72 ex_72 => ?_)
            refine lv_istore_n (lv' := [(3, .int x_72), (5, .ref (d (2000 + i))), (6, .ref (d (2000 + i))), (4, .int (nI i)), (0, .ref h0), (1, .int p0), (2, .int p1)]) hx hb dX11_bill_85 rfl hl (by decide) rfl (fun ls hl => ?_)
            refine lv_iinc (v := (nI (i + 1))) (lv' := [(4, .int (nI (i + 1))), (3, .int x_72), (5, .ref (d (2000 + i))), (6, .ref (d (2000 + i))), (0, .ref h0), (1, .int p0), (2, .int p1)]) hx hb dX11_bill_86 hl (k := 3) rfl (nI_1 i) (by decide) rfl (fun ls hl => ?_)
            refine lv_goto (tgt := 26) hx hb dX11_bill_89 (by decide) ?_
            exact ih (i + 1) _ ls (by omega) (by omega) (by rw [ex_72, hg]; exact (blS_1 ⟨hkd_38, c_66, bP_n c_69⟩).symm) (lv_sub hl [0, 1, 4, 5, 6] rfl)
      ·
        have hn_37 := ht9
        have hkd_38 : ¬ u.2 4 i = 3 := fun e9 => ht9 ⟨hit_21.1, by rw [hkt_35, e9]; rfl⟩
        refine w_then (F0 m 49 ls [.int 0]) (fun hgo => ?_) ?_
        ·
          rcases x_tag hit_21 with ht8 | ht8 | ht8 | ht8 | ht8 | ht8
          ·
            obtain ⟨nu_73, kd_74, cn_75, pa_76, fa_77, l_78, m_79, hs_80, hs_81, hs_82, hs_83⟩ := x_ifl hI ht8
            obtain ⟨kk_84, hk_85⟩ := pl_at ht8.1 hs_80
            exact va_instNo hx hb hown (hts (.classLink RX11 104 "PageOne$Paid") (by decide +kernel)) hXN.n_X2_X6 (va_recv hK hP (ci := 2) (q0 := kk_84) rfl hk_85) dX11_bill_46 hgo
          ·
            obtain ⟨nu_86, kd_87, cn_88, pa_89, fa_90, o_91, w_92, y_93, hs_94, hs_95, hs_96, hs_97, hq_98⟩ := x_ihd hI ht8
            obtain ⟨kk_99, hk_100⟩ := pl_at ht8.1 hs_94
            exact va_instNo hx hb hown (hts (.classLink RX11 104 "PageOne$Paid") (by decide +kernel)) hXN.n_X3_X6 (va_recv hK hP (ci := 3) (q0 := kk_99) rfl hk_100) dX11_bill_46 hgo
          ·
            obtain ⟨nu_101, kd_102, cn_103, pa_104, fa_105, o_106, y_107, hs_108, hs_109, hs_110, hs_111, hq_112⟩ := x_ino hI ht8
            obtain ⟨kk_113, hk_114⟩ := pl_at ht8.1 hs_108
            exact va_instNo hx hb hown (hts (.classLink RX11 104 "PageOne$Paid") (by decide +kernel)) hXN.n_X5_X6 (va_recv hK hP (ci := 4) (q0 := kk_113) rfl hk_114) dX11_bill_46 hgo
          ·
            exact absurd ht8 ht9
          ·
            obtain ⟨nu_115, kd_116, cn_117, pa_118, fa_119, ww_120, hh_121, sz_122, hs_123, hs_124, hs_125, hs_126, hq_127, hq_128, hq_129⟩ := x_ipi hI ht8
            obtain ⟨kk_130, hk_131⟩ := pl_at ht8.1 hs_123
            exact va_instNo hx hb hown (hts (.classLink RX11 104 "PageOne$Paid") (by decide +kernel)) hXN.n_X7_X6 (va_recv hK hP (ci := 6) (q0 := kk_130) rfl hk_131) dX11_bill_46 hgo
          ·
            obtain ⟨nu_132, kd_133, cn_134, pa_135, fa_136, l_137, co_138, wd_139, nm_140, hs_141, hs_142, hs_143, hs_144, hq_145, hq_146, hq_147⟩ := x_ist hI ht8
            obtain ⟨kk_148, hk_149⟩ := pl_at ht8.1 hs_141
            exact va_instNo hx hb hown (hts (.classLink RX11 104 "PageOne$Paid") (by decide +kernel)) hXN.n_X10_X6 (va_recv hK hP (ci := 9) (q0 := kk_148) rfl hk_149) dX11_bill_46 hgo
        ·
          refine lv_if_eq (tgt := 86) hx hb dX11_bill_49 (by decide) (fun c_150 => ?_) (fun c_150 => absurd (by decide) c_150)
          refine lv_iinc (v := (nI (i + 1))) (lv' := [(4, .int (nI (i + 1))), (6, .ref (d (2000 + i))), (3, .int a), (0, .ref h0), (1, .int p0), (2, .int p1)]) hx hb dX11_bill_86 hl (k := 1) rfl (nI_1 i) (by decide) rfl (fun ls hl => ?_)
          refine lv_goto (tgt := 26) hx hb dX11_bill_89 (by decide) ?_
          exact ih (i + 1) _ ls (by omega) (by omega) (by rw [hg]; exact (blS_0 (fun h9 => hkd_38 h9.1)).symm) (lv_sub hl [0, 2, 3, 4, 5] rfl)
noncomputable def mBillX (u : mS) (b dd : Int32) : Int32 := if bw b 0 9 = true then (if bw dd 0 (u.1 38) = true then blS u b dd (u.1 3).toNatClampNeg else (-1)) else (-1)
set_option maxHeartbeats 4000000 in
set_option maxRecDepth 100000 in
theorem y_bill (l : Launch) (dC : Nat → ClassId) (dI : Nat → Nat → Nat) (q : Nat → ClassId) (h0 : Nat) (d : Nat → Nat) (k : Nat → Int32) (z : gS) (f : xF) (hI : xI q h0 d k z f) (p0 p1 : Int32) (u : mS) (hrp : rep q d u z f) (hk0 : k 0 = u.1 3) (hk1 : k 1 = u.1 28) (hk2 : k 2 = u.1 38) (hk3 : k 3 = u.1 39) (hpi : plI u) (hsd : sdI u) : Met l yX11_bill wsX11_bill ({ frames := 5, cells := 0, slots := 0, locals := 110 }) (va_Pc [.ref h0, .int p0, .int p1] (PX dC dI (va_pl z.1 f) (xT q))) (vp_Si (fun r => r = mBillX u p0 p1)) 0 0 (fun _ => False) := by
  refine Met.ofW (cc := cX11_bill) (maxL := 7) (ret := (some .int)) (by decide) rfl ?_
  intro p e s m args below meth c s₁ B hml hv
  obtain ⟨rfl, ⟨hP, hK, hN⟩, hXN⟩ := hv
  have hx := B.exec
  have hb := B.bytes
  have hr := B.returns
  have hts := atoms_spec (ws := wsX11_bill) B.pre
  have hown : s.vm.findClass RX11 = some m.cls := findClass_of_methodNamed B.named
  have hlocks := B.notSynchronized
  have hl := lv_entry ([.ref h0, .int p0, .int p1]) (n := 7) (Nat.le_of_ble_eq_true rfl)
  rw [lg_entry_eq]
  generalize (lg_sl ([.ref h0, .int p0, .int p1]) ++ List.replicate (7 - (lg_sl ([.ref h0, .int p0, .int p1])).length) Slot.unset).toArray = ls at hl ⊢
  have hl : lv_has ls 7 [(0, .ref h0), (1, .int p0), (2, .int p1)] := hl
  refine lv_iload_n hx hb dX11_bill_0 rfl (lv_at hl 1 rfl) ?_
  refine vp_callSi (va_runS (As := [.int p0]) (rest := []) ⟨hx, hb, hml, hown, hts⟩ (x_isBuyer l dC dI p0) (va_cwS 1 hts gX11_bill_X11_isBuyer rfl rfl rfl (by decide +kernel) ⟨Nat.le_of_ble_eq_true rfl, Nat.le_of_ble_eq_true rfl⟩) ⟨pw_fb, fun U hU hW => ⟨rfl, pw_to hU hW (hP.sub (ws' := []) [] rfl) (hK.sub (tys' := []) [] rfl) hN⟩⟩ rfl rfl hl.1 rfl (lv_room (Nat.le_of_ble_eq_true rfl)) dX11_bill_1 ⟨Nat.le_of_ble_eq_true rfl, Nat.le_of_ble_eq_true rfl⟩).run (fun r hw => ?_)
  rcases Bool.eq_false_or_eq_true (bw p0 0 9) with b_1 | b_1
  ·
    obtain rfl : r = 1 := b_t hw b_1
    refine lv_if_eq (tgt := 19) hx hb dX11_bill_4 (by decide) (fun c_2 => absurd c_2 (by decide)) (fun c_2 => ?_)
    refine lv_iload_n hx hb dX11_bill_7 rfl (lv_at hl 2 rfl) ?_
    refine lv_iconst (v := 0) hx hb dX11_bill_8 (by decide) ?_
    refine lv_aload_n hx hb dX11_bill_9 rfl (lv_at hl 0 rfl) ?_
    obtain ⟨kk_3, hk_4⟩ := pl_at hI.2.1.1.1 hI.2.2.2.1.1
    refine va_get (D := (dC, dI)) (ci := 10) (v := .int (k 2)) (C := RX11) (T := TX11) (N := 9) hx hb hts (by decide +kernel) hown hK hP kk_3 hk_4 rfl 7 (by decide) (hts (.fieldLink RX11 41 "PageOne" "today" "I") (by decide +kernel)) (fun _ h9 => h9) rfl dX11_bill_10 ?_
    refine vp_callSi (va_runS (As := [.int p1, .int 0, .int (k 2)]) (rest := []) ⟨hx, hb, hml, hown, hts⟩ (x_isWithin l dC dI p1 0 (k 2)) (va_cwS 3 hts gX11_bill_X11_isWithin rfl rfl rfl (by decide +kernel) ⟨Nat.le_of_ble_eq_true rfl, Nat.le_of_ble_eq_true rfl⟩) ⟨pw_fb, fun U hU hW => ⟨rfl, pw_to hU hW (hP.sub (ws' := []) [] rfl) (hK.sub (tys' := []) [] rfl) hN⟩⟩ rfl rfl hl.1 rfl (lv_room (Nat.le_of_ble_eq_true rfl)) dX11_bill_13 ⟨Nat.le_of_ble_eq_true rfl, Nat.le_of_ble_eq_true rfl⟩).run (fun r hw => ?_)
    rcases Bool.eq_false_or_eq_true (bw p1 0 (k 2)) with b_5 | b_5
    ·
      obtain rfl : r = 1 := b_t hw b_5
      refine lv_if_ne (tgt := 21) hx hb dX11_bill_16 (by decide) (fun c_6 => ?_) (fun c_6 => absurd c_6 (by decide))
      refine lv_iconst (v := 0) hx hb dX11_bill_21 (by decide) ?_
      refine lv_istore_n (lv' := [(3, .int 0), (0, .ref h0), (1, .int p0), (2, .int p1)]) hx hb dX11_bill_22 rfl hl (by decide) rfl (fun ls hl => ?_)
      refine lv_iconst (v := 0) hx hb dX11_bill_23 (by decide) ?_
      refine lv_istore (lv' := [(4, .int 0), (3, .int 0), (0, .ref h0), (1, .int p0), (2, .int p1)]) hx hb dX11_bill_24 hl (by decide) rfl (fun ls hl => ?_)
      have hd9 : bw p1 0 399 = true := by have h1 := bw_iff.mp b_5; have h2 := bw_iff.mp hI.1.2.2; rw [bw_iff]; omega
      obtain ⟨K, hK8, -, eK⟩ := exN hI.1.1 (by decide)
      have h80 : (80 : Int32).toInt = 80 := rfl
      have eKn : (u.1 3).toNatClampNeg = K := by rw [← hk0, eK, nI_clamp (by omega)]
      refine y_bill_l (K := K) hI hx hb hml hts hown hN hXN hK (Nat.le_of_ble_eq_true rfl) (Nat.le_of_ble_eq_true rfl) (Nat.le_of_ble_eq_true rfl) (Nat.le_of_ble_eq_true rfl) hP hrp hk0 hk1 hk2 hk3 (by omega) eK eKn hd9 hpi hsd (fun a9 ls ha9 hl => ?_) (K + 1) 0 _ ls (Nat.zero_le _) (by omega) rfl (lv_sub hl [0, 1, 2, 3, 4] rfl)
      refine lv_iload_n hx hb dX11_bill_92 rfl (lv_at hl 0 rfl) ?_
      exact W.iret (v := a9) hx hb hr (fun t ht hW => ⟨_, rfl, (by unfold mBillX; rw [if_pos b_1, if_pos (by rw [← hk2]; exact b_5), eKn]; exact ha9), ht⟩) (fun q h => absurd h List.not_mem_nil) dX11_bill_93
    ·
      obtain rfl : r = 0 := b_f hw b_5
      refine lv_if_ne (tgt := 21) hx hb dX11_bill_16 (by decide) (fun c_7 => absurd (by decide) c_7) (fun c_7 => ?_)
      refine lv_iconst (v := (-1)) hx hb dX11_bill_19 (by decide) ?_
      exact W.iret (v := (-1)) hx hb hr (fun t ht hW => ⟨_, rfl, (by unfold mBillX; rw [if_neg (show ¬ bw p1 0 (u.1 38) = true from fun h9 => bne b_5 (by rw [hk2]; exact h9))]; split <;> rfl), ht⟩) (fun q h => absurd h List.not_mem_nil) dX11_bill_20
  ·
    obtain rfl : r = 0 := b_f hw b_1
    refine lv_if_eq (tgt := 19) hx hb dX11_bill_4 (by decide) (fun c_8 => ?_) (fun c_8 => absurd (by decide) c_8)
    refine lv_iconst (v := (-1)) hx hb dX11_bill_19 (by decide) ?_
    exact W.iret (v := (-1)) hx hb hr (fun t ht hW => ⟨_, rfl, (by unfold mBillX; rw [if_neg (bne b_1)]), ht⟩) (fun q h => absurd h List.not_mem_nil) dX11_bill_20
