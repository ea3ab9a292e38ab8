set_option maxHeartbeats 4000000 in
set_option maxRecDepth 100000 in
theorem x_hasNotice_l {p : Program} {l : Launch} {e : Env} {R : Room} {s : State} {m : MethodId} {args : Array Value} {below : List Frame} {meth : Method} {c : Code} {Q : State → Prop} {cells slots : Nat} {dC : Nat → ClassId} {dI : Nat → Nat → Nat} {q : Nat → ClassId} {h0 : Nat} {d : Nat → Nat} {k : Nat → Int32} {z : gS} {f : xF} {H : Heap} {locs : List Loc} (hI : xI q h0 d k z f) (hx : p.tables.exec = Jvm.exec) (hb : c.code = cX11_hasNotice) (hml : c.maxLocals = 5) (hts : ∀ w ∈ wsX11_hasNotice, w.before args s = true) (hown : s.vm.findClass RX11 = some m.cls) (hN : NN s) (hXN : XN s) (hK : va_K (dC, dI) vwCl (xT q) s) (hP : va_P (dC, dI) vwCl (va_pl z.1 f) H) {K : Nat} (hK8 : K ≤ 80) (eK : k 0 = nI K) {c0 : Nat} (hc0 : itm z c0) (kx48 : ∀ (ls : Array Slot), lv_has ls 5 [(0, .ref h0), (1, .ref c0)] → W p l e R s m args below meth c H locs cells slots Q (F0 m 48 ls [])) (kx40 : ∀ (ls : Array Slot), lv_has ls 5 [(0, .ref h0), (1, .ref c0)] → W p l e R s m args below meth c H locs cells slots Q (F0 m 40 ls [])) : ∀ (kk i : Nat) (ls : Array Slot), i ≤ K → K - i < kk → lv_has ls 5 [(2, .int (nI i)), (0, .ref h0), (1, .ref c0)] → W p l e R s m args below meth c H locs cells slots Q (F0 m 2 ls []) := by
  intro kk
  induction kk with
  | zero => intro i ls h1 h2; exact absurd h2 (Nat.not_lt_zero _)
  | succ kk ih =>
    intro i ls hi hkk hl
    refine lv_iload_n hx hb dX11_hasNotice_2 rfl (lv_at hl 0 rfl) ?_
    refine lv_aload_n hx hb dX11_hasNotice_3 rfl (lv_at hl 1 rfl) ?_
    obtain ⟨kk_1, hk_2⟩ := pl_at hI.2.1.1.1 hI.2.2.2.1.1
    refine va_get (D := (dC, dI)) (ci := 10) (v := .int (k 0)) (C := RX11) (T := TX11) (N := 9) hx hb hts (by decide +kernel) hown hK hP kk_1 hk_2 rfl 3 (by decide) (hts (.fieldLink RX11 24 "PageOne" "itemCount" "I") (by decide +kernel)) (fun _ h9 => h9) rfl dX11_hasNotice_4 ?_
    refine lv_topi (fun y_3 ey_3 => ?_)
    obtain rfl : y_3 = (nI K) := ey_3.trans (eK)
    refine lv_icmp_ge (tgt := 48) hx hb dX11_hasNotice_7 (by decide) (fun c_4 => ?_) (fun c_4 => ?_)
    ·
      have hie : i = K := lp_eq rfl (by omega) hi c_4
      exact kx48 ls (lv_sub hl [1, 2] rfl)
    ·
      have hlt : i < K := lp_lt rfl (by omega) hi c_4
      refine lv_aload_n hx hb dX11_hasNotice_10 rfl (lv_at hl 1 rfl) ?_
      obtain ⟨kk_5, hk_6⟩ := pl_at hI.2.1.1.1 hI.2.2.2.1.1
      refine va_get (D := (dC, dI)) (ci := 10) (v := .ref (d 2)) (C := RX11) (T := TX11) (N := 9) hx hb hts (by decide +kernel) hown hK hP kk_5 hk_6 rfl 2 (by decide) (hts (.fieldLink RX11 20 "PageOne" "items" "[LPageOne$Item;") (by decide +kernel)) (fun _ h9 => h9) rfl dX11_hasNotice_11 ?_
      refine lv_iload_n hx hb dX11_hasNotice_14 rfl (lv_at hl 0 rfl) ?_
      obtain ⟨g_7, hs_8, hn_9, hg_10⟩ := x_itm hI
      obtain ⟨kk_11, hk_12⟩ := pl_at hI.2.1.2.2.2.1.1 hs_8
      refine va_aldq hx hb hK hP kk_11 3 hk_12 rfl (vp_in_nI (by omega) (by decide)) dX11_hasNotice_15 ?_
      obtain ⟨b_13, hg_14⟩ := hn_9 ((nI i) : Int32).toNatClampNeg (by rw [eK, nI_clamp (by omega), nI_clamp (by omega)]; exact hlt)
      have ht_15 := hg_10 ((nI i) : Int32).toNatClampNeg (vlt (vp_in_nI (by omega) (by decide))) b_13 hg_14
      rw [hg_14]
      refine W.eq (g2 := F0 m 16 ls [.ref b_13]) rfl ?_
      refine lv_astore (lv' := [(4, .ref b_13), (2, .int (nI i)), (0, .ref h0), (1, .ref c0)]) hx hb dX11_hasNotice_16 hl (by decide) rfl (fun ls hl => ?_)
      refine lv_aload hx hb dX11_hasNotice_18 (lv_at hl 0 rfl) ?_
      rcases Classical.em (tg z b_13 12) with ht9 | ht9
      ·
        have ht_16 := ht9
        obtain ⟨nu_18, kd_19, cn_20, pa_21, fa_22, o_23, y_24, hs_25, hs_26, hs_27, hs_28, hq_29⟩ := x_ino hI ht_16
        obtain ⟨kk_30, hk_31⟩ := pl_at ht_16.1 hs_25
        refine va_instS hx hb hown (hts (.classLink RX11 119 RX5) (by decide +kernel)) (hK.1 4 (RX5, TX5, 7) rfl).2 (va_recv hK hP (ci := 4) (q0 := kk_30) rfl hk_31) dX11_hasNotice_20 ?_
        refine lv_if_eq (tgt := 42) hx hb dX11_hasNotice_23 (by decide) (fun c_32 => absurd c_32 (by decide)) (fun c_32 => ?_)
        refine lv_aload hx hb dX11_hasNotice_26 (lv_at hl 0 rfl) ?_
        obtain ⟨kk_33, hk_34⟩ := pl_at ht_16.1 hs_25
        refine va_castS hx hb hown (hts (.classLink RX11 119 RX5) (by decide +kernel)) (hK.1 4 (RX5, TX5, 7) rfl).2 (va_recv hK hP (ci := 4) (q0 := kk_33) rfl hk_34) dX11_hasNotice_28 ?_
        refine lv_astore_n (lv' := [(3, .ref b_13), (4, .ref b_13), (2, .int (nI i)), (0, .ref h0), (1, .ref c0)]) hx hb dX11_hasNotice_31 rfl hl (by decide) rfl (fun ls hl => ?_)
        refine lv_aload_n hx hb dX11_hasNotice_32 rfl (lv_at hl 0 rfl) ?_
        obtain ⟨kk_35, hk_36⟩ := pl_at ht_16.1 hs_25
        refine va_get (D := (dC, dI)) (ci := 4) (v := .ref o_23) (C := RX5) (T := TX5) (N := 7) hx hb hts (by decide +kernel) hown hK hP kk_35 hk_36 rfl 5 (by decide) (hts (.fieldLink RX11 288 "PageOne$Notice" "mended" "LPageOne$Item;") (by decide +kernel)) (fun _ h9 => h9) rfl dX11_hasNotice_33 ?_
        refine lv_aload_n hx hb dX11_hasNotice_36 rfl (lv_at hl 4 rfl) ?_
        refine lv_acmp_ne (rx := some o_23) (ry := some c0) (tgt := 42) hx hb dX11_hasNotice_37 (by decide) (fun _ => ?_) (fun _ => ?_)
        ·
          refine lv_iinc (v := (nI (i + 1))) (lv' := [(2, .int (nI (i + 1))), (3, .ref b_13), (4, .ref b_13), (0, .ref h0), (1, .ref c0)]) hx hb dX11_hasNotice_42 hl (k := 2) rfl (nI_1 i) (by decide) rfl (fun ls hl => ?_)
          refine lv_goto (tgt := 2) hx hb dX11_hasNotice_45 (by decide) ?_
          exact ih (i + 1) ls (by omega) (by omega) (lv_sub hl [0, 3, 4] rfl)
        ·
          exact kx40 ls (lv_sub hl [3, 4] rfl)
      ·
        have hn_17 := ht9
        refine w_then (F0 m 23 ls [.int 0]) (fun hgo => ?_) ?_
        ·
          rcases x_tag ht_15 with ht8 | ht8 | ht8 | ht8 | ht8 | ht8
          ·
            obtain ⟨nu_37, kd_38, cn_39, pa_40, fa_41, l_42, m_43, hs_44, hs_45, hs_46, hs_47⟩ := x_ifl hI ht8
            obtain ⟨kk_48, hk_49⟩ := pl_at ht8.1 hs_44
            exact va_instNo hx hb hown (hts (.classLink RX11 119 RX5) (by decide +kernel)) hXN.n_X2_X5 (va_recv hK hP (ci := 2) (q0 := kk_48) rfl hk_49) dX11_hasNotice_20 hgo
          ·
            obtain ⟨nu_50, kd_51, cn_52, pa_53, fa_54, o_55, w_56, y_57, hs_58, hs_59, hs_60, hs_61, hq_62⟩ := x_ihd hI ht8
            obtain ⟨kk_63, hk_64⟩ := pl_at ht8.1 hs_58
            exact va_instNo hx hb hown (hts (.classLink RX11 119 RX5) (by decide +kernel)) hXN.n_X3_X5 (va_recv hK hP (ci := 3) (q0 := kk_63) rfl hk_64) dX11_hasNotice_20 hgo
          ·
            exact absurd ht8 ht9
          ·
            obtain ⟨nu_65, kd_66, cn_67, pa_68, fa_69, b_70, pr_71, sp_72, dy_73, hs_74, hs_75, hs_76, hs_77, hq_78, hq_79, hq_80⟩ := x_ipd hI ht8
            obtain ⟨kk_81, hk_82⟩ := pl_at ht8.1 hs_74
            exact va_instNo hx hb hown (hts (.classLink RX11 119 RX5) (by decide +kernel)) hXN.n_X6_X5 (va_recv hK hP (ci := 5) (q0 := kk_81) rfl hk_82) dX11_hasNotice_20 hgo
          ·
            obtain ⟨nu_83, kd_84, cn_85, pa_86, fa_87, ww_88, hh_89, sz_90, hs_91, hs_92, hs_93, hs_94, hq_95, hq_96, hq_97⟩ := x_ipi hI ht8
            obtain ⟨kk_98, hk_99⟩ := pl_at ht8.1 hs_91
            exact va_instNo hx hb hown (hts (.classLink RX11 119 RX5) (by decide +kernel)) hXN.n_X7_X5 (va_recv hK hP (ci := 6) (q0 := kk_98) rfl hk_99) dX11_hasNotice_20 hgo
          ·
            obtain ⟨nu_100, kd_101, cn_102, pa_103, fa_104, l_105, co_106, wd_107, nm_108, hs_109, hs_110, hs_111, hs_112, hq_113, hq_114, hq_115⟩ := x_ist hI ht8
            obtain ⟨kk_116, hk_117⟩ := pl_at ht8.1 hs_109
            exact va_instNo hx hb hown (hts (.classLink RX11 119 RX5) (by decide +kernel)) hXN.n_X10_X5 (va_recv hK hP (ci := 9) (q0 := kk_116) rfl hk_117) dX11_hasNotice_20 hgo
        ·
          refine lv_if_eq (tgt := 42) hx hb dX11_hasNotice_23 (by decide) (fun c_118 => ?_) (fun c_118 => absurd (by decide) c_118)
          refine lv_iinc (v := (nI (i + 1))) (lv' := [(2, .int (nI (i + 1))), (4, .ref b_13), (0, .ref h0), (1, .ref c0)]) hx hb dX11_hasNotice_42 hl (k := 1) rfl (nI_1 i) (by decide) rfl (fun ls hl => ?_)
          refine lv_goto (tgt := 2) hx hb dX11_hasNotice_45 (by decide) ?_
          exact ih (i + 1) ls (by omega) (by omega) (lv_sub hl [0, 2, 3] rfl)
set_option maxHeartbeats 4000000 in
set_option maxRecDepth 100000 in
theorem x_hasNotice (l : Launch) (dC : Nat → ClassId) (dI : Nat → Nat → Nat) (q : Nat → ClassId) (h0 : Nat) (d : Nat → Nat) (k : Nat → Int32) (z : gS) (f : xF) (hI : xI q h0 d k z f) (c0 : Nat) (hc0 : itm z c0) : Met l yX11_hasNotice wsX11_hasNotice ({ frames := 0, cells := 0, slots := 0, locals := 0 }) (va_Pc [.ref h0, .ref c0] (PX dC dI (va_pl z.1 f) (xT q))) (vp_Si (fun r => r = 0 ∨ r = 1)) 0 0 (fun _ => False) := by
  refine Met.ofW (cc := cX11_hasNotice) (maxL := 5) (ret := (some .boolean)) (by decide) rfl ?_
  intro p e s m args below meth c s₁ B hml hv
  obtain ⟨rfl, ⟨hP, hK, hN⟩, hXN⟩ := hv
  have hx := B.exec
  have hb := B.bytes
  have hr := B.returns
  have hts := atoms_spec (ws := wsX11_hasNotice) B.pre
  have hown : s.vm.findClass RX11 = some m.cls := findClass_of_methodNamed B.named
  have hlocks := B.notSynchronized
  have hl := lv_entry ([.ref h0, .ref c0]) (n := 5) (Nat.le_of_ble_eq_true rfl)
  rw [lg_entry_eq]
  generalize (lg_sl ([.ref h0, .ref c0]) ++ List.replicate (5 - (lg_sl ([.ref h0, .ref c0])).length) Slot.unset).toArray = ls at hl ⊢
  have hl : lv_has ls 5 [(0, .ref h0), (1, .ref c0)] := hl
  refine lv_iconst (v := 0) hx hb dX11_hasNotice_0 (by decide) ?_
  refine lv_istore_n (lv' := [(2, .int 0), (0, .ref h0), (1, .ref c0)]) hx hb dX11_hasNotice_1 rfl hl (by decide) rfl (fun ls hl => ?_)
  obtain ⟨K, hK8, -, eK⟩ := exN hI.1.1 (by decide)
  have h80 : (80 : Int32).toInt = 80 := rfl
  refine x_hasNotice_l (K := K) hI hx hb hml hts hown hN hXN hK hP (by omega) eK hc0 (fun ls hl => ?_) (fun ls hl => ?_) (K + 1) 0 ls (Nat.zero_le _) (by omega) (lv_sub hl [0, 1, 2] rfl)
  ·
    refine lv_iconst (v := 0) hx hb dX11_hasNotice_48 (by decide) ?_
    exact W.zret (v := 0) hx hb hr (by decide) (fun t ht hW => ⟨_, rfl, (by decide), ht⟩) (fun q h => absurd h List.not_mem_nil) dX11_hasNotice_49
  ·
    refine lv_iconst (v := 1) hx hb dX11_hasNotice_40 (by decide) ?_
    exact W.zret (v := 1) hx hb hr (by decide) (fun t ht hW => ⟨_, rfl, (by decide), ht⟩) (fun q h => absurd h List.not_mem_nil) dX11_hasNotice_41
set_option maxHeartbeats 4000000 in
set_option maxRecDepth 100000 in
theorem x_ownerOf (l : Launch) (dC : Nat → ClassId) (dI : Nat → Nat → Nat) (q : Nat → ClassId) (h0 : Nat) (d : Nat → Nat) (k : Nat → Int32) (z : gS) (f : xF) (hI : xI q h0 d k z f) (c0 : Nat) (hc0 : itm z c0) : Met l yX11_ownerOf wsX11_ownerOf ({ frames := 0, cells := 0, slots := 0, locals := 0 }) (va_Pc [.ref h0, .ref c0] (PX dC dI (va_pl z.1 f) (xT q))) (vp_Si (fun r => True)) 0 0 (fun _ => False) := by
  refine Met.ofW (cc := cX11_ownerOf) (maxL := 3) (ret := (some .int)) (by decide) rfl ?_
  intro p e s m args below meth c s₁ B hml hv
  obtain ⟨rfl, ⟨hP, hK, hN⟩, hXN⟩ := hv
  have hx := B.exec
  have hb := B.bytes
  have hr := B.returns
  have hts := atoms_spec (ws := wsX11_ownerOf) B.pre
  have hown : s.vm.findClass RX11 = some m.cls := findClass_of_methodNamed B.named
  have hlocks := B.notSynchronized
  have hl := lv_entry ([.ref h0, .ref c0]) (n := 3) (Nat.le_of_ble_eq_true rfl)
  rw [lg_entry_eq]
  generalize (lg_sl ([.ref h0, .ref c0]) ++ List.replicate (3 - (lg_sl ([.ref h0, .ref c0])).length) Slot.unset).toArray = ls at hl ⊢
  have hl : lv_has ls 3 [(0, .ref h0), (1, .ref c0)] := hl
  refine lv_aload_n hx hb dX11_ownerOf_0 rfl (lv_at hl 1 rfl) ?_
  rcases Classical.em (tg z c0 11) with ht9 | ht9
  ·
    have ht_1 := ht9
    obtain ⟨nu_3, kd_4, cn_5, pa_6, fa_7, o_8, w_9, y_10, hs_11, hs_12, hs_13, hs_14, hq_15⟩ := x_ihd hI ht_1
    obtain ⟨kk_16, hk_17⟩ := pl_at ht_1.1 hs_11
    refine va_instS hx hb hown (hts (.classLink RX11 83 "PageOne$Head") (by decide +kernel)) (hK.1 3 (RX3, TX3, 8) rfl).2 (va_recv hK hP (ci := 3) (q0 := kk_16) rfl hk_17) dX11_ownerOf_1 ?_
    refine lv_if_eq (tgt := 20) hx hb dX11_ownerOf_4 (by decide) (fun c_18 => absurd c_18 (by decide)) (fun c_18 => ?_)
    refine lv_aload_n hx hb dX11_ownerOf_7 rfl (lv_at hl 1 rfl) ?_
    obtain ⟨kk_19, hk_20⟩ := pl_at ht_1.1 hs_11
    refine va_castS hx hb hown (hts (.classLink RX11 83 "PageOne$Head") (by decide +kernel)) (hK.1 3 (RX3, TX3, 8) rfl).2 (va_recv hK hP (ci := 3) (q0 := kk_19) rfl hk_20) dX11_ownerOf_8 ?_
    refine lv_astore_n (lv' := [(2, .ref c0), (0, .ref h0), (1, .ref c0)]) hx hb dX11_ownerOf_11 rfl hl (by decide) rfl (fun ls hl => ?_)
    refine lv_aload_n hx hb dX11_ownerOf_12 rfl (lv_at hl 0 rfl) ?_
    obtain ⟨kk_21, hk_22⟩ := pl_at ht_1.1 hs_11
    refine va_get (D := (dC, dI)) (ci := 3) (v := .ref o_8) (C := RX3) (T := TX3) (N := 8) hx hb hts (by decide +kernel) hown hK hP kk_21 hk_22 rfl 5 (by decide) (hts (.fieldLink RX11 292 "PageOne$Head" "owner" "LPageOne$Story;") (by decide +kernel)) (fun _ h9 => h9) rfl dX11_ownerOf_13 ?_
    obtain ⟨nu_23, kd_24, cn_25, pa_26, fa_27, l_28, co_29, wd_30, nm_31, hs_32, hs_33, hs_34, hs_35, hq_36, hq_37, hq_38⟩ := x_ist hI hq_15
    obtain ⟨kk_39, hk_40⟩ := pl_at hq_15.1 hs_32
    refine va_get (D := (dC, dI)) (ci := 9) (v := .int nu_23) (C := RX10) (T := TX10) (N := 9) hx hb hts (by decide +kernel) hown hK hP kk_39 hk_40 rfl 0 (by decide) (hts (.fieldLink RX11 296 "PageOne$Story" "number" "I") (by decide +kernel)) (fun x9 h9 => u_same (hts (.sameField "PageOne$Story" "PageOne$Item" "number" "I") (by decide +kernel)) x9 h9) rfl dX11_ownerOf_16 ?_
    exact W.iret (v := nu_23) hx hb hr (fun t ht hW => ⟨_, rfl, trivial, ht⟩) (fun q h => absurd h List.not_mem_nil) dX11_ownerOf_19
  ·
    have hn_2 := ht9
    refine w_then (F0 m 4 ls [.int 0]) (fun hgo => ?_) ?_
    ·
      rcases x_tag hc0 with ht8 | ht8 | ht8 | ht8 | ht8 | ht8
      ·
        obtain ⟨nu_41, kd_42, cn_43, pa_44, fa_45, l_46, m_47, hs_48, hs_49, hs_50, hs_51⟩ := x_ifl hI ht8
        obtain ⟨kk_52, hk_53⟩ := pl_at ht8.1 hs_48
        exact va_instNo hx hb hown (hts (.classLink RX11 83 "PageOne$Head") (by decide +kernel)) hXN.n_X2_X3 (va_recv hK hP (ci := 2) (q0 := kk_52) rfl hk_53) dX11_ownerOf_1 hgo
      ·
        exact absurd ht8 ht9
      ·
        obtain ⟨nu_54, kd_55, cn_56, pa_57, fa_58, o_59, y_60, hs_61, hs_62, hs_63, hs_64, hq_65⟩ := x_ino hI ht8
        obtain ⟨kk_66, hk_67⟩ := pl_at ht8.1 hs_61
        exact va_instNo hx hb hown (hts (.classLink RX11 83 "PageOne$Head") (by decide +kernel)) hXN.n_X5_X3 (va_recv hK hP (ci := 4) (q0 := kk_66) rfl hk_67) dX11_ownerOf_1 hgo
      ·
        obtain ⟨nu_68, kd_69, cn_70, pa_71, fa_72, b_73, pr_74, sp_75, dy_76, hs_77, hs_78, hs_79, hs_80, hq_81, hq_82, hq_83⟩ := x_ipd hI ht8
        obtain ⟨kk_84, hk_85⟩ := pl_at ht8.1 hs_77
        exact va_instNo hx hb hown (hts (.classLink RX11 83 "PageOne$Head") (by decide +kernel)) hXN.n_X6_X3 (va_recv hK hP (ci := 5) (q0 := kk_84) rfl hk_85) dX11_ownerOf_1 hgo
      ·
        obtain ⟨nu_86, kd_87, cn_88, pa_89, fa_90, ww_91, hh_92, sz_93, hs_94, hs_95, hs_96, hs_97, hq_98, hq_99, hq_100⟩ := x_ipi hI ht8
        obtain ⟨kk_101, hk_102⟩ := pl_at ht8.1 hs_94
        exact va_instNo hx hb hown (hts (.classLink RX11 83 "PageOne$Head") (by decide +kernel)) hXN.n_X7_X3 (va_recv hK hP (ci := 6) (q0 := kk_101) rfl hk_102) dX11_ownerOf_1 hgo
      ·
        obtain ⟨nu_103, kd_104, cn_105, pa_106, fa_107, l_108, co_109, wd_110, nm_111, hs_112, hs_113, hs_114, hs_115, hq_116, hq_117, hq_118⟩ := x_ist hI ht8
        obtain ⟨kk_119, hk_120⟩ := pl_at ht8.1 hs_112
        exact va_instNo hx hb hown (hts (.classLink RX11 83 "PageOne$Head") (by decide +kernel)) hXN.n_X10_X3 (va_recv hK hP (ci := 9) (q0 := kk_119) rfl hk_120) dX11_ownerOf_1 hgo
    ·
      refine lv_if_eq (tgt := 20) hx hb dX11_ownerOf_4 (by decide) (fun c_121 => ?_) (fun c_121 => absurd (by decide) c_121)
      refine lv_aload_n hx hb dX11_ownerOf_20 rfl (lv_at hl 1 rfl) ?_
      rcases Classical.em (tg z c0 12) with ht9 | ht9
      ·
        have ht_122 := ht9
        obtain ⟨nu_124, kd_125, cn_126, pa_127, fa_128, o_129, y_130, hs_131, hs_132, hs_133, hs_134, hq_135⟩ := x_ino hI ht_122
        obtain ⟨kk_136, hk_137⟩ := pl_at ht_122.1 hs_131
        refine va_instS hx hb hown (hts (.classLink RX11 119 RX5) (by decide +kernel)) (hK.1 4 (RX5, TX5, 7) rfl).2 (va_recv hK hP (ci := 4) (q0 := kk_136) rfl hk_137) dX11_ownerOf_21 ?_
        refine lv_if_eq (tgt := 42) hx hb dX11_ownerOf_24 (by decide) (fun c_138 => absurd c_138 (by decide)) (fun c_138 => ?_)
        refine lv_aload_n hx hb dX11_ownerOf_27 rfl (lv_at hl 1 rfl) ?_
        obtain ⟨kk_139, hk_140⟩ := pl_at ht_122.1 hs_131
        refine va_castS hx hb hown (hts (.classLink RX11 119 RX5) (by decide +kernel)) (hK.1 4 (RX5, TX5, 7) rfl).2 (va_recv hK hP (ci := 4) (q0 := kk_139) rfl hk_140) dX11_ownerOf_28 ?_
        refine lv_astore_n (lv' := [(2, .ref c0), (0, .ref h0), (1, .ref c0)]) hx hb dX11_ownerOf_31 rfl hl (by decide) rfl (fun ls hl => ?_)
        refine lv_aload_n hx hb dX11_ownerOf_32 rfl (lv_at hl 0 rfl) ?_
        obtain ⟨kk_141, hk_142⟩ := pl_at ht_122.1 hs_131
        refine va_get (D := (dC, dI)) (ci := 4) (v := .ref o_129) (C := RX5) (T := TX5) (N := 7) hx hb hts (by decide +kernel) hown hK hP kk_141 hk_142 rfl 5 (by decide) (hts (.fieldLink RX11 288 "PageOne$Notice" "mended" "LPageOne$Item;") (by decide +kernel)) (fun _ h9 => h9) rfl dX11_ownerOf_33 ?_
        obtain ⟨nu_143, kd_144, cn_145, pa_146, fa_147, rs_148, hs_149, hs_150, hs_151, hs_152, hs_153⟩ := x_im hI hq_135
        obtain ⟨kk_154, hk_155⟩ := pl_at hq_135.1 hs_149
        refine w_then (F0 m 39 ls [.int nu_143]) (fun hgo => ?_) ?_
        ·
          rcases x_tag hq_135 with ht9 | ht9 | ht9 | ht9 | ht9 | ht9
          ·
            rw [ht9.2] at hk_155
            exact va_get (D := (dC, dI)) (ci := 2) (v := .int nu_143) (C := RX2) (T := TX2) (N := 7) hx hb hts (by decide +kernel) hown hK hP kk_154 hk_155 rfl 0 (by decide) (hts (.fieldLink RX11 285 "PageOne$Item" "number" "I") (by decide +kernel)) (fun _ h9 => h9) rfl dX11_ownerOf_36 hgo
          ·
            rw [ht9.2] at hk_155
            exact va_get (D := (dC, dI)) (ci := 3) (v := .int nu_143) (C := RX3) (T := TX3) (N := 8) hx hb hts (by decide +kernel) hown hK hP kk_154 hk_155 rfl 0 (by decide) (hts (.fieldLink RX11 285 "PageOne$Item" "number" "I") (by decide +kernel)) (fun _ h9 => h9) rfl dX11_ownerOf_36 hgo
          ·
            rw [ht9.2] at hk_155
            exact va_get (D := (dC, dI)) (ci := 4) (v := .int nu_143) (C := RX5) (T := TX5) (N := 7) hx hb hts (by decide +kernel) hown hK hP kk_154 hk_155 rfl 0 (by decide) (hts (.fieldLink RX11 285 "PageOne$Item" "number" "I") (by decide +kernel)) (fun _ h9 => h9) rfl dX11_ownerOf_36 hgo
          ·
            rw [ht9.2] at hk_155
            exact va_get (D := (dC, dI)) (ci := 5) (v := .int nu_143) (C := RX6) (T := TX6) (N := 9) hx hb hts (by decide +kernel) hown hK hP kk_154 hk_155 rfl 0 (by decide) (hts (.fieldLink RX11 285 "PageOne$Item" "number" "I") (by decide +kernel)) (fun _ h9 => h9) rfl dX11_ownerOf_36 hgo
          ·
            rw [ht9.2] at hk_155
            exact va_get (D := (dC, dI)) (ci := 6) (v := .int nu_143) (C := RX7) (T := TX7) (N := 8) hx hb hts (by decide +kernel) hown hK hP kk_154 hk_155 rfl 0 (by decide) (hts (.fieldLink RX11 285 "PageOne$Item" "number" "I") (by decide +kernel)) (fun _ h9 => h9) rfl dX11_ownerOf_36 hgo
          ·
            rw [ht9.2] at hk_155
            exact va_get (D := (dC, dI)) (ci := 9) (v := .int nu_143) (C := RX10) (T := TX10) (N := 9) hx hb hts (by decide +kernel) hown hK hP kk_154 hk_155 rfl 0 (by decide) (hts (.fieldLink RX11 285 "PageOne$Item" "number" "I") (by decide +kernel)) (fun _ h9 => h9) rfl dX11_ownerOf_36 hgo
        ·
          refine lv_goto (tgt := 43) hx hb dX11_ownerOf_39 (by decide) ?_
          exact W.iret (v := nu_143) hx hb hr (fun t ht hW => ⟨_, rfl, trivial, ht⟩) (fun q h => absurd h List.not_mem_nil) dX11_ownerOf_43
      ·
        have hn_123 := ht9
        refine w_then (F0 m 24 ls [.int 0]) (fun hgo => ?_) ?_
        ·
          rcases x_tag hc0 with ht8 | ht8 | ht8 | ht8 | ht8 | ht8
          ·
            obtain ⟨nu_156, kd_157, cn_158, pa_159, fa_160, l_161, m_162, hs_163, hs_164, hs_165, hs_166⟩ := x_ifl hI ht8
            obtain ⟨kk_167, hk_168⟩ := pl_at ht8.1 hs_163
            exact va_instNo hx hb hown (hts (.classLink RX11 119 RX5) (by decide +kernel)) hXN.n_X2_X5 (va_recv hK hP (ci := 2) (q0 := kk_167) rfl hk_168) dX11_ownerOf_21 hgo
          ·
            obtain ⟨nu_169, kd_170, cn_171, pa_172, fa_173, o_174, w_175, y_176, hs_177, hs_178, hs_179, hs_180, hq_181⟩ := x_ihd hI ht8
            obtain ⟨kk_182, hk_183⟩ := pl_at ht8.1 hs_177
            exact va_instNo hx hb hown (hts (.classLink RX11 119 RX5) (by decide +kernel)) hXN.n_X3_X5 (va_recv hK hP (ci := 3) (q0 := kk_182) rfl hk_183) dX11_ownerOf_21 hgo
          ·
            exact absurd ht8 ht9
          ·
            obtain ⟨nu_184, kd_185, cn_186, pa_187, fa_188, b_189, pr_190, sp_191, dy_192, hs_193, hs_194, hs_195, hs_196, hq_197, hq_198, hq_199⟩ := x_ipd hI ht8
            obtain ⟨kk_200, hk_201⟩ := pl_at ht8.1 hs_193
            exact va_instNo hx hb hown (hts (.classLink RX11 119 RX5) (by decide +kernel)) hXN.n_X6_X5 (va_recv hK hP (ci := 5) (q0 := kk_200) rfl hk_201) dX11_ownerOf_21 hgo
          ·
            obtain ⟨nu_202, kd_203, cn_204, pa_205, fa_206, ww_207, hh_208, sz_209, hs_210, hs_211, hs_212, hs_213, hq_214, hq_215, hq_216⟩ := x_ipi hI ht8
            obtain ⟨kk_217, hk_218⟩ := pl_at ht8.1 hs_210
            exact va_instNo hx hb hown (hts (.classLink RX11 119 RX5) (by decide +kernel)) hXN.n_X7_X5 (va_recv hK hP (ci := 6) (q0 := kk_217) rfl hk_218) dX11_ownerOf_21 hgo
          ·
            obtain ⟨nu_219, kd_220, cn_221, pa_222, fa_223, l_224, co_225, wd_226, nm_227, hs_228, hs_229, hs_230, hs_231, hq_232, hq_233, hq_234⟩ := x_ist hI ht8
            obtain ⟨kk_235, hk_236⟩ := pl_at ht8.1 hs_228
            exact va_instNo hx hb hown (hts (.classLink RX11 119 RX5) (by decide +kernel)) hXN.n_X10_X5 (va_recv hK hP (ci := 9) (q0 := kk_235) rfl hk_236) dX11_ownerOf_21 hgo
        ·
          refine lv_if_eq (tgt := 42) hx hb dX11_ownerOf_24 (by decide) (fun c_237 => ?_) (fun c_237 => absurd (by decide) c_237)
          refine lv_iconst (v := (-1)) hx hb dX11_ownerOf_42 (by decide) ?_
          exact W.iret (v := (-1)) hx hb hr (fun t ht hW => ⟨_, rfl, trivial, ht⟩) (fun q h => absurd h List.not_mem_nil) dX11_ownerOf_43
