theorem d_inj {q d u z f} (h : rIs q d u z f) {i j : Nat} (hi : i < (u.1 3).toNatClampNeg) (hj : j < (u.1 3).toNatClampNeg) (e : d (2000 + i) = d (2000 + j)) : i = j := Classical.byContradiction fun n => nO_ne (h.2 i hi).1 (h.2 j hj).1 (by omega) e
theorem nI_inj2 {a b : Nat} (ha : a < 2 ^ 31) (hb : b < 2 ^ 31) (e : nI a = nI b) : a = b := by rw [← nI_clamp ha, ← nI_clamp hb, e]
def hnP (u : mS) (i0 j : Nat) : Prop := u.2 4 j = 5 ∧ u.2 9 j = nI i0
theorem w80i {u : mS} {k : Nat → Int32} (h : bw (k 0) 0 80 = true) (hk : k 0 = u.1 3) : (u.1 3).toNatClampNeg ≤ 80 := by
  rw [hk] at h
  obtain ⟨c1, c2, c3⟩ := nI_of_bw h
  have e : (80 : Int32).toInt = 80 := rfl
  omega
set_option maxHeartbeats 4000000 in
set_option maxRecDepth 100000 in
theorem y_hasNotice_l {p : Program} {l : Launch} {e : Env} {R : Room} {s : State} {m : MethodId} {args : Array Value} {below : List Frame} {meth : Method} {c : Code} {Q : State → Prop} {cells slots : Nat} {dC : Nat → ClassId} {dI : Nat → Nat → Nat} {q : Nat → ClassId} {h0 : Nat} {d : Nat → Nat} {k : Nat → Int32} {z : gS} {f : xF} {H : Heap} {locs : List Loc} (hI : xI q h0 d k z f) (hx : p.tables.exec = Jvm.exec) (hb : c.code = cX11_hasNotice) (hml : c.maxLocals = 5) (hts : ∀ w ∈ wsX11_hasNotice, w.before args s = true) (hown : s.vm.findClass RX11 = some m.cls) (hN : NN s) (hXN : XN s) (hK : va_K (dC, dI) vwCl (xT q) s) (hP : va_P (dC, dI) vwCl (va_pl z.1 f) H) {u : mS} (hrp : rep q d u z f) (hk0 : k 0 = u.1 3) {K : Nat} (hK8 : K ≤ 80) (eK : k 0 = nI K) (eKn : (u.1 3).toNatClampNeg = K) {i0 : Nat} (hi0 : i0 < (u.1 3).toNatClampNeg) (kx48 : ∀ (ls : Array Slot), (∀ j, j < K → ¬ hnP u i0 j) → lv_has ls 5 [(0, .ref h0), (1, .ref (d (2000 + i0)))] → W p l e R s m args below meth c H locs cells slots Q (F0 m 48 ls [])) (kx40 : ∀ (ls : Array Slot), (∃ j, j < (u.1 3).toNatClampNeg ∧ hnP u i0 j) → lv_has ls 5 [(0, .ref h0), (1, .ref (d (2000 + i0)))] → W p l e R s m args below meth c H locs cells slots Q (F0 m 40 ls [])) : ∀ (kk i : Nat) (ls : Array Slot), i ≤ K → K - i < kk → (∀ j, j < i → ¬ hnP u i0 j) → lv_has ls 5 [(2, .int (nI i)), (0, .ref h0), (1, .ref (d (2000 + i0)))] → W p l e R s m args below meth c H locs cells slots Q (F0 m 2 ls []) := by
  intro kk
  induction kk with
  | zero => intro i ls h1 h2; exact absurd h2 (Nat.not_lt_zero _)
  | succ kk ih =>
    intro i ls hi hkk hg hl
    refine lv_iload_n hx hb dX11_hasNotice_2 rfl (lv_at hl 0 rfl) ?_
    refine lv_aload_n hx hb dX11_hasNotice_3 rfl (lv_at hl 1 rfl) ?_
    obtain ⟨kk_1, hk_2⟩ := pl_at hI.2.1.1.1 hI.2.2.2.1.1
    refine va_get (D := (dC, dI)) (ci := 10) (v := .int (k 0)) (C := RX11) (T := TX11) (N := 9) hx hb hts (by decide +kernel) hown hK hP kk_1 hk_2 rfl 3 (by decide) (hts (.fieldLink RX11 24 "PageOne" "itemCount" "I") (by decide +kernel)) (fun _ h9 => h9) rfl dX11_hasNotice_4 ?_
    refine lv_topi (fun y_3 ey_3 => ?_)
    obtain rfl : y_3 = (nI K) := ey_3.trans (eK)
    refine lv_icmp_ge (tgt := 48) hx hb dX11_hasNotice_7 (by decide) (fun c_4 => ?_) (fun c_4 => ?_)
    ·
      have hie : i = K := lp_eq rfl (by omega) hi c_4
      exact kx48 ls (by rw [← hie]; exact hg) (lv_sub hl [1, 2] rfl)
    ·
      have hlt : i < K := lp_lt rfl (by omega) hi c_4
      refine lv_aload_n hx hb dX11_hasNotice_10 rfl (lv_at hl 1 rfl) ?_
      obtain ⟨kk_5, hk_6⟩ := pl_at hI.2.1.1.1 hI.2.2.2.1.1
      refine va_get (D := (dC, dI)) (ci := 10) (v := .ref (d 2)) (C := RX11) (T := TX11) (N := 9) hx hb hts (by decide +kernel) hown hK hP kk_5 hk_6 rfl 2 (by decide) (hts (.fieldLink RX11 20 "PageOne" "items" "[LPageOne$Item;") (by decide +kernel)) (fun _ h9 => h9) rfl dX11_hasNotice_11 ?_
      refine lv_iload_n hx hb dX11_hasNotice_14 rfl (lv_at hl 0 rfl) ?_
      obtain ⟨g_7, hs_8, hn_9, hg_10⟩ := x_itm hI
      obtain ⟨kk_11, hk_12⟩ := pl_at hI.2.1.2.2.2.1.1 hs_8
      refine va_aldq hx hb hK hP kk_11 3 hk_12 rfl (vp_in_nI (by omega) (by decide)) dX11_hasNotice_15 ?_
      obtain ⟨b_13, hg_14⟩ := hn_9 ((nI i) : Int32).toNatClampNeg (by rw [eK, nI_clamp (by omega), nI_clamp (by omega)]; exact hlt)
      have ht_15 := hg_10 ((nI i) : Int32).toNatClampNeg (vlt (vp_in_nI (by omega) (by decide))) b_13 hg_14
      rw [hg_14]
      refine W.eq (g2 := F0 m 16 ls [.ref b_13]) rfl ?_
      have hb_16 := rI_at hrp.2.2.1 hs_8 (by rw [eKn]; exact hlt) (by rw [nI_clamp (by omega)] at hg_14; exact hg_14)
      subst hb_16
      obtain ⟨rs_17, n_18, g_19, fg_20, hit_21, hs_22, hpa_23, hps_24, h1_25, h6_26, hcb_27, hpl_28, hlg_29, hnn_30, hfa_31, hfs_32, hfe_33, hrs_34, hkt_35⟩ := it_all hI hrp.2.2.1 (by rw [eKn]; exact hlt)
      refine lv_astore (lv' := [(4, .ref (d (2000 + i))), (2, .int (nI i)), (0, .ref h0), (1, .ref (d (2000 + i0)))]) hx hb dX11_hasNotice_16 hl (by decide) rfl (fun ls hl => ?_)
      refine lv_aload hx hb dX11_hasNotice_18 (lv_at hl 0 rfl) ?_
      rcases Classical.em (tg z (d (2000 + i)) 12) with ht9 | ht9
      ·
        have ht_36 := ht9
        have hkd_38 : u.2 4 i = 5 := (kT_k (kd_05 hrp.2.2.1 (by rw [eKn]; exact hlt)).1 (kd_05 hrp.2.2.1 (by rw [eKn]; exact hlt)).2).2.2.2.2.2 (hkt_35.symm.trans ht_36.2)
        obtain ⟨o_59, hx_49, hx_50, hx_51⟩ := hrs_34.2.2.2.2.2 hkd_38
        have hs_58 : f (d (2000 + i)) = .inr (4, [.int (nI i), .int (u.2 4 i), .ref (d (3000 + i)), .int (u.2 22 i), .ref (d (4000 + i)), .ref (d (2000 + o_59)), .int (u.2 8 i)]) := by rw [hs_22, ht_36.2, hx_51]; rfl
        have hit_60 := rI_itm hrp.2.2.1 hx_49
        obtain ⟨kk_61, hk_62⟩ := pl_at ht_36.1 hs_58
        refine va_instS hx hb hown (hts (.classLink RX11 119 RX5) (by decide +kernel)) (hK.1 4 (RX5, TX5, 7) rfl).2 (va_recv hK hP (ci := 4) (q0 := kk_61) rfl hk_62) dX11_hasNotice_20 ?_
        refine lv_if_eq (tgt := 42) hx hb dX11_hasNotice_23 (by decide) (fun c_63 => absurd c_63 (by decide)) (fun c_63 => ?_)
        refine lv_aload hx hb dX11_hasNotice_26 (lv_at hl 0 rfl) ?_
        obtain ⟨kk_64, hk_65⟩ := pl_at ht_36.1 hs_58
        refine va_castS hx hb hown (hts (.classLink RX11 119 RX5) (by decide +kernel)) (hK.1 4 (RX5, TX5, 7) rfl).2 (va_recv hK hP (ci := 4) (q0 := kk_64) rfl hk_65) dX11_hasNotice_28 ?_
        refine lv_astore_n (lv' := [(3, .ref (d (2000 + i))), (4, .ref (d (2000 + i))), (2, .int (nI i)), (0, .ref h0), (1, .ref (d (2000 + i0)))]) hx hb dX11_hasNotice_31 rfl hl (by decide) rfl (fun ls hl => ?_)
        refine lv_aload_n hx hb dX11_hasNotice_32 rfl (lv_at hl 0 rfl) ?_
        obtain ⟨kk_66, hk_67⟩ := pl_at ht_36.1 hs_58
        refine va_get (D := (dC, dI)) (ci := 4) (v := .ref (d (2000 + o_59))) (C := RX5) (T := TX5) (N := 7) hx hb hts (by decide +kernel) hown hK hP kk_66 hk_67 rfl 5 (by decide) (hts (.fieldLink RX11 288 "PageOne$Notice" "mended" "LPageOne$Item;") (by decide +kernel)) (fun _ h9 => h9) rfl dX11_hasNotice_33 ?_
        refine lv_aload_n hx hb dX11_hasNotice_36 rfl (lv_at hl 4 rfl) ?_
        refine lv_acmp_ne (rx := some (d (2000 + o_59))) (ry := some (d (2000 + i0))) (tgt := 42) hx hb dX11_hasNotice_37 (by decide) (fun c_68 => ?_) (fun c_68 => ?_)
        ·
          refine lv_iinc (v := (nI (i + 1))) (lv' := [(2, .int (nI (i + 1))), (3, .ref (d (2000 + i))), (4, .ref (d (2000 + i))), (0, .ref h0), (1, .ref (d (2000 + i0)))]) hx hb dX11_hasNotice_42 hl (k := 2) rfl (nI_1 i) (by decide) rfl (fun ls hl => ?_)
          refine lv_goto (tgt := 2) hx hb dX11_hasNotice_45 (by decide) ?_
          exact ih (i + 1) ls (by omega) (by omega) (fun j hj => by rcases Nat.lt_succ_iff_lt_or_eq.mp hj with h9 | h9; exact hg j h9; subst h9; exact fun h8 => c_68 (by rw [nI_inj2 (by have := w80i hI.1.1 hk0; omega) (by have := w80i hI.1.1 hk0; omega) (hx_50.symm.trans h8.2)])) (lv_sub hl [0, 3, 4] rfl)
        ·
          exact kx40 ls ⟨i, by rw [eKn]; exact hlt, hkd_38, by rw [hx_50, d_inj hrp.2.2.1 hx_49 hi0 (Option.some.inj c_68)]⟩ (lv_sub hl [3, 4] rfl)
      ·
        have hn_37 := ht9
        have hkd_38 : ¬ u.2 4 i = 5 := fun e9 => ht9 ⟨hit_21.1, by rw [hkt_35, e9]; rfl⟩
        refine w_then (F0 m 23 ls [.int 0]) (fun hgo => ?_) ?_
        ·
          rcases x_tag hit_21 with ht8 | ht8 | ht8 | ht8 | ht8 | ht8
          ·
            obtain ⟨nu_69, kd_70, cn_71, pa_72, fa_73, l_74, m_75, hs_76, hs_77, hs_78, hs_79⟩ := x_ifl hI ht8
            obtain ⟨kk_80, hk_81⟩ := pl_at ht8.1 hs_76
            exact va_instNo hx hb hown (hts (.classLink RX11 119 RX5) (by decide +kernel)) hXN.n_X2_X5 (va_recv hK hP (ci := 2) (q0 := kk_80) rfl hk_81) dX11_hasNotice_20 hgo
          ·
            obtain ⟨nu_82, kd_83, cn_84, pa_85, fa_86, o_87, w_88, y_89, hs_90, hs_91, hs_92, hs_93, hq_94⟩ := x_ihd hI ht8
            obtain ⟨kk_95, hk_96⟩ := pl_at ht8.1 hs_90
            exact va_instNo hx hb hown (hts (.classLink RX11 119 RX5) (by decide +kernel)) hXN.n_X3_X5 (va_recv hK hP (ci := 3) (q0 := kk_95) rfl hk_96) dX11_hasNotice_20 hgo
          ·
            exact absurd ht8 ht9
          ·
            obtain ⟨nu_97, kd_98, cn_99, pa_100, fa_101, b_102, pr_103, sp_104, dy_105, hs_106, hs_107, hs_108, hs_109, hq_110, hq_111, hq_112⟩ := x_ipd hI ht8
            obtain ⟨kk_113, hk_114⟩ := pl_at ht8.1 hs_106
            exact va_instNo hx hb hown (hts (.classLink RX11 119 RX5) (by decide +kernel)) hXN.n_X6_X5 (va_recv hK hP (ci := 5) (q0 := kk_113) rfl hk_114) dX11_hasNotice_20 hgo
          ·
            obtain ⟨nu_115, kd_116, cn_117, pa_118, fa_119, ww_120, hh_121, sz_122, hs_123, hs_124, hs_125, hs_126, hq_127, hq_128, hq_129⟩ := x_ipi hI ht8
            obtain ⟨kk_130, hk_131⟩ := pl_at ht8.1 hs_123
            exact va_instNo hx hb hown (hts (.classLink RX11 119 RX5) (by decide +kernel)) hXN.n_X7_X5 (va_recv hK hP (ci := 6) (q0 := kk_130) rfl hk_131) dX11_hasNotice_20 hgo
          ·
            obtain ⟨nu_132, kd_133, cn_134, pa_135, fa_136, l_137, co_138, wd_139, nm_140, hs_141, hs_142, hs_143, hs_144, hq_145, hq_146, hq_147⟩ := x_ist hI ht8
            obtain ⟨kk_148, hk_149⟩ := pl_at ht8.1 hs_141
            exact va_instNo hx hb hown (hts (.classLink RX11 119 RX5) (by decide +kernel)) hXN.n_X10_X5 (va_recv hK hP (ci := 9) (q0 := kk_148) rfl hk_149) dX11_hasNotice_20 hgo
        ·
          refine lv_if_eq (tgt := 42) hx hb dX11_hasNotice_23 (by decide) (fun c_150 => ?_) (fun c_150 => absurd (by decide) c_150)
          refine lv_iinc (v := (nI (i + 1))) (lv' := [(2, .int (nI (i + 1))), (4, .ref (d (2000 + i))), (0, .ref h0), (1, .ref (d (2000 + i0)))]) hx hb dX11_hasNotice_42 hl (k := 1) rfl (nI_1 i) (by decide) rfl (fun ls hl => ?_)
          refine lv_goto (tgt := 2) hx hb dX11_hasNotice_45 (by decide) ?_
          exact ih (i + 1) ls (by omega) (by omega) (fun j hj => by rcases Nat.lt_succ_iff_lt_or_eq.mp hj with h9 | h9; exact hg j h9; subst h9; exact fun h8 => hkd_38 h8.1) (lv_sub hl [0, 2, 3] rfl)
set_option maxHeartbeats 4000000 in
set_option maxRecDepth 100000 in
theorem y_hasNotice (l : Launch) (dC : Nat → ClassId) (dI : Nat → Nat → Nat) (q : Nat → ClassId) (h0 : Nat) (d : Nat → Nat) (k : Nat → Int32) (z : gS) (f : xF) (hI : xI q h0 d k z f) (u : mS) (hrp : rep q d u z f) (hk0 : k 0 = u.1 3) (hk1 : k 1 = u.1 28) (hk2 : k 2 = u.1 38) (hk3 : k 3 = u.1 39) (i0 : Nat) (hi0 : i0 < (u.1 3).toNatClampNeg) : Met l yX11_hasNotice wsX11_hasNotice ({ frames := 0, cells := 0, slots := 0, locals := 0 }) (va_Pc [.ref h0, .ref (d (2000 + i0))] (PX dC dI (va_pl z.1 f) (xT q))) (vp_Si (fun r => (r = 0 ∧ ¬ mHasN u (nI i0)) ∨ (r = 1 ∧ mHasN u (nI i0)))) 0 0 (fun _ => False) := by
  refine Met.ofW (cc := cX11_hasNotice) (maxL := 5) (ret := (some .boolean)) (by decide) rfl ?_
  intro p e s m args below meth c s₁ B hml hv
  obtain ⟨rfl, ⟨hP, hK, hN⟩, hXN⟩ := hv
  have hx := B.exec
  have hb := B.bytes
  have hr := B.returns
  have hts := atoms_spec (ws := wsX11_hasNotice) B.pre
  have hown : s.vm.findClass RX11 = some m.cls := findClass_of_methodNamed B.named
  have hlocks := B.notSynchronized
  have hl := lv_entry ([.ref h0, .ref (d (2000 + i0))]) (n := 5) (Nat.le_of_ble_eq_true rfl)
  rw [lg_entry_eq]
  generalize (lg_sl ([.ref h0, .ref (d (2000 + i0))]) ++ List.replicate (5 - (lg_sl ([.ref h0, .ref (d (2000 + i0))])).length) Slot.unset).toArray = ls at hl ⊢
  have hl : lv_has ls 5 [(0, .ref h0), (1, .ref (d (2000 + i0)))] := hl
  refine lv_iconst (v := 0) hx hb dX11_hasNotice_0 (by decide) ?_
  refine lv_istore_n (lv' := [(2, .int 0), (0, .ref h0), (1, .ref (d (2000 + i0)))]) hx hb dX11_hasNotice_1 rfl hl (by decide) rfl (fun ls hl => ?_)
  obtain ⟨K, hK8, -, eK⟩ := exN hI.1.1 (by decide)
  have h80 : (80 : Int32).toInt = 80 := rfl
  have eKn : (u.1 3).toNatClampNeg = K := by rw [← hk0, eK, nI_clamp (by omega)]
  refine y_hasNotice_l (K := K) hI hx hb hml hts hown hN hXN hK hP hrp hk0 (by omega) eK eKn hi0 (fun ls hno hl => ?_) (fun ls hye hl => ?_) (K + 1) 0 ls (Nat.zero_le _) (by omega) (fun j hj => absurd hj (Nat.not_lt_zero _)) (lv_sub hl [0, 1, 2] rfl)
  ·
    refine lv_iconst (v := 0) hx hb dX11_hasNotice_48 (by decide) ?_
    exact W.zret (v := 0) hx hb hr (by decide) (fun t ht hW => ⟨_, rfl, (Or.inl ⟨rfl, fun ⟨j, h1, h2⟩ => hno j (by omega) h2⟩), ht⟩) (fun q h => absurd h List.not_mem_nil) dX11_hasNotice_49
  ·
    refine lv_iconst (v := 1) hx hb dX11_hasNotice_40 (by decide) ?_
    exact W.zret (v := 1) hx hb hr (by decide) (fun t ht hW => ⟨_, rfl, (Or.inr ⟨rfl, hye⟩), ht⟩) (fun q h => absurd h List.not_mem_nil) dX11_hasNotice_41
