theorem cO_24 {q : Nat → ClassId} {z : gS} {a : Nat} {e : va_E} (h : (z.2 a).1 = 24) : cO q z a e := cO_of h ⟨fun x => absurd x (by decide), fun x => absurd x (by decide), fun x => absurd x (by decide), fun x => absurd x (by decide), fun x => absurd x (by decide), fun x => absurd x (by decide), fun x => absurd x (by decide), fun x => absurd x (by decide), fun _ y => absurd y (by decide), fun x => absurd x (by decide), fun x => absurd x (by decide), fun x => absurd x (by decide), fun x => absurd x (by decide), fun x => absurd x (by decide), fun x => absurd x (by decide), fun x => absurd x (by decide), fun x => absurd x (by decide)⟩
/-- a finding about a page, and its cell -/
def bch (z : gS) (f : xF) (b : Nat) : Prop := tg z b 24 ∧ ∃ x y t : Int32, f b = .inr (1, [.int x, .int y, .int t])
theorem vaP_3 {D : va_G} {cl : List vw_C} {c1 c2 : Nat × va_E} {pl : va_W} {H : Heap} (h : va_P D cl (([] ++ [c2]) ++ (pl ++ [c1])) H) : va_P D cl (c2 :: ([c1] ++ pl)) H := by
  intro k q hk
  have hm : q ∈ (([] ++ [c2]) ++ (pl ++ [c1])) := by
    rcases List.mem_cons.mp (List.mem_of_getElem? hk) with y | y
    · rw [y]; exact List.mem_append_left _ (List.mem_append_right _ List.mem_cons_self)
    · rcases List.mem_append.mp y with y | y
      · exact List.mem_append_right _ (List.mem_append_right _ y)
      · exact List.mem_append_right _ (List.mem_append_left _ y)
  obtain ⟨i, hi⟩ := List.getElem?_of_mem hm
  exact h i q hi
theorem vaD_sw {A : Nat → Prop} {c1 c2 : Nat × va_E} {r : va_W} (h : va_D A (c1 :: c2 :: r)) : va_D A (c2 :: c1 :: r) := by
  refine va_D.by h (fun k => if k = 0 then 1 else if k = 1 then 0 else k) (fun k q hk => ?_) (fun i j hi hj hij => ?_)
  · match k, hk with
    | 0, hk => exact hk
    | 1, hk => exact hk
    | k + 2, hk => exact hk
  · by_cases i0 : i = 0
    · rw [if_pos i0] at hij
      by_cases j0 : j = 0
      · omega
      · rw [if_neg j0] at hij
        by_cases j1 : j = 1
        · rw [if_pos j1] at hij; omega
        · rw [if_neg j1] at hij; omega
    · rw [if_neg i0] at hij
      by_cases i1 : i = 1
      · rw [if_pos i1] at hij
        by_cases j0 : j = 0
        · rw [if_pos j0] at hij; omega
        · rw [if_neg j0] at hij
          by_cases j1 : j = 1
          · omega
          · rw [if_neg j1] at hij; omega
      · rw [if_neg i1] at hij
        by_cases j0 : j = 0
        · rw [if_pos j0] at hij; omega
        · rw [if_neg j0] at hij
          by_cases j1 : j = 1
          · rw [if_pos j1] at hij; omega
          · rw [if_neg j1] at hij; omega
theorem vaD_3 {A : Nat → Prop} {c1 c2 : Nat × va_E} {pl : va_W} (h : va_D A (([] ++ [c2]) ++ (pl ++ [c1]))) : va_D A (c2 :: ([c1] ++ pl)) := vaD_sw (vaD_rotR (r := c2 :: pl) h)
theorem up_up {f : xF} {a : Nat} {x y : va_E} : va_up (va_up f a x) a y = va_up f a y := by
  funext b
  unfold va_up
  by_cases e : b = a
  · rw [if_pos e, if_pos e]
  · rw [if_neg e, if_neg e, if_neg e]
theorem cO_acA {q : Nat → ClassId} {z : gS} {a p b : Nat} {l n : Int32} (hp : lgP z p) (hb : tg z b 23) (ha : a ∉ z.1) : cO q (pz z a (23, (z.2 b).2.1 + 1, [.ref p, .int l, .ref b, .int n])) a (.inr (0, [.ref p, .int l, .ref b, .int n])) := by
  refine cO_23 (by rw [pz_s]) ⟨by rw [pz_s], p, l, n, some b, by rw [pz_s]; rfl, zE_lg (pz_E ha _) hp, ty_s ⟨zE_tg (pz_E ha _) hb, ?_⟩⟩
  rw [pz_s, zE_o (pz_E ha _) hb.1]
  exact Nat.lt_succ_self _
theorem nI_sb {i r : Nat} (h : r ≤ i) (hi : i ≤ 61) : nI i - nI r = nI (i - r) := sw_in (k := ((i - r : Nat) : Int)) (by rw [subI (by rw [nI_toInt (by omega), nI_toInt (by omega)]; omega) (by rw [nI_toInt (by omega), nI_toInt (by omega)]; omega), nI_toInt (by omega), nI_toInt (by omega)]; omega) (by rw [nI_toInt (by omega)])
theorem le60 {v : Int32} {i : Nat} (hi : i ≤ 61) (h : bw v 0 60 = true) (c : ¬ v < nI i) : i ≤ 60 := by
  have e60 : (60 : Int32).toInt = 60 := rfl
  have h1 := bw_iff.mp h
  rw [i0, e60] at h1
  rw [i32_lt, nI_toInt (by omega)] at c
  omega
theorem b60n {r : Nat} (h : r ≤ 60) : bw (nI r) 0 60 = true := bwN (by have e60 : (60 : Int32).toInt = 60 := rfl; rw [e60]; omega) (by omega)
theorem b7n {r : Nat} (h : r < 8) : bw (nI r) 0 7 = true := bwN (by have e60 : (7 : Int32).toInt = 7 := rfl; rw [e60]; omega) (by omega)
theorem b87 {x y w : Int32} (h : bw x 0 y = true) (hy : y = 8 - w) (hw : bw w 1 8 = true) : bw x 0 7 = true := by
  have e8 : (8 : Int32).toInt = 8 := rfl
  have e7 : (7 : Int32).toInt = 7 := rfl
  have h1 := bw_iff.mp h
  have h2 := bw_iff.mp hw
  rw [i1, e8] at h2
  rw [hy, i0, subI (by rw [e8]; omega) (by rw [e8]; omega), e8] at h1
  rw [bw_iff, i0, e7]; omega
theorem b60 {x y w : Int32} (h : bw x 0 y = true) (hy : y = 60 - w) (hw : bw w 1 60 = true) : bw x 0 60 = true := by
  have e8 : (60 : Int32).toInt = 60 := rfl
  have h1 := bw_iff.mp h
  have h2 := bw_iff.mp hw
  rw [i1, e8] at h2
  rw [hy, i0, subI (by rw [e8]; omega) (by rw [e8]; omega), e8] at h1
  rw [bw_iff, i0, e8]; omega
theorem ban {a b : Bool} (h : (a && b) = true) : a = true ∧ b = true := by
  cases a <;> cases b <;> first | exact ⟨rfl, rfl⟩ | exact absurd h (by decide)
theorem b1to0 {x y : Int32} (h : bw x 1 y = true) : bw x 0 y = true := by
  have h1 := bw_iff.mp h
  rw [i1] at h1
  rw [bw_iff, i0]; omega
set_option maxHeartbeats 4000000 in
set_option maxRecDepth 100000 in
theorem x_fillerFor_l {p : Program} {l : Launch} {e : Env} {R : Room} {s : State} {m : MethodId} {args : Array Value} {below : List Frame} {meth : Method} {c : Code} {Q : State → Prop} {cells slots : Nat} {dC : Nat → ClassId} {dI : Nat → Nat → Nat} {q : Nat → ClassId} {h0 : Nat} {d : Nat → Nat} {k : Nat → Int32} {z : gS} {f : xF} {H : Heap} {locs : List Loc} (hI : xI q h0 d k z f) (hx : p.tables.exec = Jvm.exec) (hb : c.code = cX11_fillerFor) (hml : c.maxLocals = 5) (hts : ∀ w ∈ wsX11_fillerFor, w.before args s = true) (hown : s.vm.findClass RX11 = some m.cls) (hN : NN s) (hXN : XN s) (hK : va_K (dC, dI) vwCl (xT q) s) (hRf : 1 ≤ R.frames) (hRl : 22 ≤ R.locals) (hRc : cells ≤ R.cells) (hRs : slots ≤ R.slots) (hP : va_P (dC, dI) vwCl (va_pl z.1 f) H) {K : Nat} (hK8 : K ≤ 80) (eK : k 0 = nI K) {p0 : Int32} (kx62 : ∀ (ls : Array Slot), lv_has ls 5 [(0, .ref h0), (1, .int p0)] → W p l e R s m args below meth c H locs cells slots Q (F0 m 62 ls [])) (kx54 : ∀ (b9 : Nat) (ls : Array Slot), tg z b9 10 → lv_has ls 5 [(3, .ref b9), (0, .ref h0), (1, .int p0)] → W p l e R s m args below meth c H locs cells slots Q (F0 m 54 ls [])) : ∀ (kk i : Nat) (ls : Array Slot), i ≤ K → K - i < kk → lv_has ls 5 [(2, .int (nI i)), (0, .ref h0), (1, .int p0)] → W p l e R s m args below meth c H locs cells slots Q (F0 m 2 ls []) := by
  intro kk
  induction kk with
  | zero => intro i ls h1 h2; exact absurd h2 (Nat.not_lt_zero _)
  | succ kk ih =>
    intro i ls hi hkk hl
    refine lv_iload_n hx hb dX11_fillerFor_2 rfl (lv_at hl 0 rfl) ?_
    refine lv_aload_n hx hb dX11_fillerFor_3 rfl (lv_at hl 1 rfl) ?_
    obtain ⟨kk_1, hk_2⟩ := pl_at hI.2.1.1.1 hI.2.2.2.1.1
    refine va_get (D := (dC, dI)) (ci := 10) (v := .int (k 0)) (C := RX11) (T := TX11) (N := 9) hx hb hts (by decide +kernel) hown hK hP kk_1 hk_2 rfl 3 (by decide) (hts (.fieldLink RX11 24 "PageOne" "itemCount" "I") (by decide +kernel)) (fun _ h9 => h9) rfl dX11_fillerFor_4 ?_
    refine lv_topi (fun y_3 ey_3 => ?_)
    obtain rfl : y_3 = (nI K) := ey_3.trans (eK)
    refine lv_icmp_ge (tgt := 62) hx hb dX11_fillerFor_7 (by decide) (fun c_4 => ?_) (fun c_4 => ?_)
    ·
      have hie : i = K := lp_eq rfl (by omega) hi c_4
      exact kx62 ls (lv_sub hl [1, 2] rfl)
    ·
      have hlt : i < K := lp_lt rfl (by omega) hi c_4
      refine lv_aload_n hx hb dX11_fillerFor_10 rfl (lv_at hl 1 rfl) ?_
      obtain ⟨kk_5, hk_6⟩ := pl_at hI.2.1.1.1 hI.2.2.2.1.1
      refine va_get (D := (dC, dI)) (ci := 10) (v := .ref (d 2)) (C := RX11) (T := TX11) (N := 9) hx hb hts (by decide +kernel) hown hK hP kk_5 hk_6 rfl 2 (by decide) (hts (.fieldLink RX11 20 "PageOne" "items" "[LPageOne$Item;") (by decide +kernel)) (fun _ h9 => h9) rfl dX11_fillerFor_11 ?_
      refine lv_iload_n hx hb dX11_fillerFor_14 rfl (lv_at hl 0 rfl) ?_
      obtain ⟨g_7, hs_8, hn_9, hg_10⟩ := x_itm hI
      obtain ⟨kk_11, hk_12⟩ := pl_at hI.2.1.2.2.2.1.1 hs_8
      refine va_aldq hx hb hK hP kk_11 3 hk_12 rfl (vp_in_nI (by omega) (by decide)) dX11_fillerFor_15 ?_
      obtain ⟨b_13, hg_14⟩ := hn_9 ((nI i) : Int32).toNatClampNeg (by rw [eK, nI_clamp (by omega), nI_clamp (by omega)]; exact hlt)
      have ht_15 := hg_10 ((nI i) : Int32).toNatClampNeg (vlt (vp_in_nI (by omega) (by decide))) b_13 hg_14
      rw [hg_14]
      refine W.eq (g2 := F0 m 16 ls [.ref b_13]) rfl ?_
      refine lv_astore (lv' := [(4, .ref b_13), (2, .int (nI i)), (0, .ref h0), (1, .int p0)]) hx hb dX11_fillerFor_16 hl (by decide) rfl (fun ls hl => ?_)
      refine lv_aload hx hb dX11_fillerFor_18 (lv_at hl 0 rfl) ?_
      rcases Classical.em (tg z b_13 10) with ht9 | ht9
      ·
        have ht_16 := ht9
        obtain ⟨nu_18, kd_19, cn_20, pa_21, fa_22, l_23, m_24, hs_25, hs_26, hs_27, hs_28⟩ := x_ifl hI ht_16
        obtain ⟨kk_29, hk_30⟩ := pl_at ht_16.1 hs_25
        refine va_instS hx hb hown (hts (.classLink RX11 114 "PageOne$Filler") (by decide +kernel)) (hK.1 2 (RX2, TX2, 7) rfl).2 (va_recv hK hP (ci := 2) (q0 := kk_29) rfl hk_30) dX11_fillerFor_20 ?_
        refine lv_if_eq (tgt := 56) hx hb dX11_fillerFor_23 (by decide) (fun c_31 => absurd c_31 (by decide)) (fun c_31 => ?_)
        refine lv_aload hx hb dX11_fillerFor_26 (lv_at hl 0 rfl) ?_
        obtain ⟨kk_32, hk_33⟩ := pl_at ht_16.1 hs_25
        refine va_castS hx hb hown (hts (.classLink RX11 114 "PageOne$Filler") (by decide +kernel)) (hK.1 2 (RX2, TX2, 7) rfl).2 (va_recv hK hP (ci := 2) (q0 := kk_32) rfl hk_33) dX11_fillerFor_28 ?_
        refine lv_astore_n (lv' := [(3, .ref b_13), (4, .ref b_13), (2, .int (nI i)), (0, .ref h0), (1, .int p0)]) hx hb dX11_fillerFor_31 rfl hl (by decide) rfl (fun ls hl => ?_)
        refine lv_aload_n hx hb dX11_fillerFor_32 rfl (lv_at hl 0 rfl) ?_
        obtain ⟨nu_34, kd_35, cn_36, pa_37, fa_38, rs_39, hs_40, hs_41, hs_42, hs_43, hs_44⟩ := x_im hI (tg_itm ht_16 (by decide))
        obtain ⟨n_45, g_46, hs_47, h1_48, h6_49, hc_50, hn_51, hg_52⟩ := x_pcs hI (tg_itm ht_16 (by decide)) rfl hs_40
        obtain ⟨nu_53, kd_54, cn_55, pa_56, fa_57, l_58, m_59, hs_60, hs_61, hs_62, hs_63⟩ := x_ifl hI ht_16
        obtain ⟨kk_64, hk_65⟩ := pl_at ht_16.1 hs_60
        refine vp_callSi (va_runU (As := []) (rest := []) ⟨hx, hb, hml, hown, hts⟩ (x_hasRoom l dC dI q h0 d k z f hI b_13 (tg_itm ht_16 (by decide)) nu_34 kd_35 cn_36 pa_37 fa_38 rs_39 hs_40 n_45 g_46 hs_47 hs_41) (va_cwU 0 hts gX11_fillerFor_X4_hasRoom_u329X2 rfl rfl rfl rfl (by decide +kernel) ⟨Nat.le_trans (Nat.le_of_ble_eq_true rfl) hRf, Nat.le_trans (Nat.le_of_ble_eq_true rfl) hRl⟩) ⟨px_fb, va_recv hK hP (ci := 2) (q0 := kk_64) rfl hk_65, fun U hU hW => ⟨rfl, px_to hU hW hP hK hN hXN⟩⟩ rfl rfl hl.1 rfl (lv_room (Nat.le_of_ble_eq_true rfl)) dX11_fillerFor_33 ⟨hRc, hRs⟩).run (fun r hw => ?_)
        rcases hw with hw | ⟨hw, hroom⟩
        ·
          subst hw
          refine lv_if_eq (tgt := 56) hx hb dX11_fillerFor_36 (by decide) (fun c_66 => ?_) (fun c_66 => absurd (by decide) c_66)
          refine lv_iinc (v := (nI (i + 1))) (lv' := [(2, .int (nI (i + 1))), (3, .ref b_13), (4, .ref b_13), (0, .ref h0), (1, .int p0)]) hx hb dX11_fillerFor_56 hl (k := 2) rfl (nI_1 i) (by decide) rfl (fun ls hl => ?_)
          refine lv_goto (tgt := 2) hx hb dX11_fillerFor_59 (by decide) ?_
          exact ih (i + 1) ls (by omega) (by omega) (lv_sub hl [0, 3, 4] rfl)
        ·
          subst hw
          refine lv_if_eq (tgt := 56) hx hb dX11_fillerFor_36 (by decide) (fun c_67 => absurd c_67 (by decide)) (fun c_67 => ?_)
          refine lv_iload_n hx hb dX11_fillerFor_39 rfl (lv_at hl 4 rfl) ?_
          refine lv_aload_n hx hb dX11_fillerFor_40 rfl (lv_at hl 0 rfl) ?_
          obtain ⟨kk_68, hk_69⟩ := pl_at ht_16.1 hs_60
          refine va_get (D := (dC, dI)) (ci := 2) (v := .int l_58) (C := RX2) (T := TX2) (N := 7) hx hb hts (by decide +kernel) hown hK hP kk_68 hk_69 rfl 5 (by decide) (hts (.fieldLink RX11 330 "PageOne$Filler" "least" "I") (by decide +kernel)) (fun _ h9 => h9) rfl dX11_fillerFor_41 ?_
          refine lv_aload_n hx hb dX11_fillerFor_44 rfl (lv_at hl 0 rfl) ?_
          obtain ⟨kk_70, hk_71⟩ := pl_at ht_16.1 hs_60
          refine va_get (D := (dC, dI)) (ci := 2) (v := .int m_59) (C := RX2) (T := TX2) (N := 7) hx hb hts (by decide +kernel) hown hK hP kk_70 hk_71 rfl 6 (by decide) (hts (.fieldLink RX11 333 "PageOne$Filler" "most" "I") (by decide +kernel)) (fun _ h9 => h9) rfl dX11_fillerFor_45 ?_
          refine vp_callSi (va_runS (As := [.int p0, .int l_58, .int m_59]) (rest := []) ⟨hx, hb, hml, hown, hts⟩ (x_isWithin l dC dI p0 l_58 m_59) (va_cwS 3 hts gX11_fillerFor_X11_isWithin rfl rfl rfl (by decide +kernel) ⟨Nat.le_trans (Nat.le_of_ble_eq_true rfl) hRf, Nat.le_trans (Nat.le_of_ble_eq_true rfl) hRl⟩) ⟨pw_fb, fun U hU hW => ⟨rfl, pw_to hU hW (hP.sub (ws' := []) [] rfl) (hK.sub (tys' := []) [] rfl) hN⟩⟩ rfl rfl hl.1 rfl (lv_room (Nat.le_of_ble_eq_true rfl)) dX11_fillerFor_48 ⟨hRc, hRs⟩).run (fun r hw => ?_)
          rcases Bool.eq_false_or_eq_true (bw p0 l_58 m_59) with b_72 | b_72
          ·
            obtain rfl : r = 1 := b_t hw b_72
            refine lv_if_eq (tgt := 56) hx hb dX11_fillerFor_51 (by decide) (fun c_73 => absurd c_73 (by decide)) (fun c_73 => ?_)
            exact kx54 _ ls ht_16 (lv_sub hl [0, 3, 4] rfl)
          ·
            obtain rfl : r = 0 := b_f hw b_72
            refine lv_if_eq (tgt := 56) hx hb dX11_fillerFor_51 (by decide) (fun c_74 => ?_) (fun c_74 => absurd (by decide) c_74)
            refine lv_iinc (v := (nI (i + 1))) (lv' := [(2, .int (nI (i + 1))), (3, .ref b_13), (4, .ref b_13), (0, .ref h0), (1, .int p0)]) hx hb dX11_fillerFor_56 hl (k := 2) rfl (nI_1 i) (by decide) rfl (fun ls hl => ?_)
            refine lv_goto (tgt := 2) hx hb dX11_fillerFor_59 (by decide) ?_
            exact ih (i + 1) ls (by omega) (by omega) (lv_sub hl [0, 3, 4] rfl)
      ·
        have hn_17 := ht9
        refine w_then (F0 m 23 ls [.int 0]) (fun hgo => ?_) ?_
        ·
          rcases x_tag ht_15 with ht8 | ht8 | ht8 | ht8 | ht8 | ht8
          ·
            exact absurd ht8 ht9
          ·
            obtain ⟨nu_75, kd_76, cn_77, pa_78, fa_79, o_80, w_81, y_82, hs_83, hs_84, hs_85, hs_86, hq_87⟩ := x_ihd hI ht8
            obtain ⟨kk_88, hk_89⟩ := pl_at ht8.1 hs_83
            exact va_instNo hx hb hown (hts (.classLink RX11 114 "PageOne$Filler") (by decide +kernel)) hXN.n_X3_X2 (va_recv hK hP (ci := 3) (q0 := kk_88) rfl hk_89) dX11_fillerFor_20 hgo
          ·
            obtain ⟨nu_90, kd_91, cn_92, pa_93, fa_94, o_95, y_96, hs_97, hs_98, hs_99, hs_100, hq_101⟩ := x_ino hI ht8
            obtain ⟨kk_102, hk_103⟩ := pl_at ht8.1 hs_97
            exact va_instNo hx hb hown (hts (.classLink RX11 114 "PageOne$Filler") (by decide +kernel)) hXN.n_X5_X2 (va_recv hK hP (ci := 4) (q0 := kk_102) rfl hk_103) dX11_fillerFor_20 hgo
          ·
            obtain ⟨nu_104, kd_105, cn_106, pa_107, fa_108, b_109, pr_110, sp_111, dy_112, hs_113, hs_114, hs_115, hs_116, hq_117, hq_118, hq_119⟩ := x_ipd hI ht8
            obtain ⟨kk_120, hk_121⟩ := pl_at ht8.1 hs_113
            exact va_instNo hx hb hown (hts (.classLink RX11 114 "PageOne$Filler") (by decide +kernel)) hXN.n_X6_X2 (va_recv hK hP (ci := 5) (q0 := kk_120) rfl hk_121) dX11_fillerFor_20 hgo
          ·
            obtain ⟨nu_122, kd_123, cn_124, pa_125, fa_126, ww_127, hh_128, sz_129, hs_130, hs_131, hs_132, hs_133, hq_134, hq_135, hq_136⟩ := x_ipi hI ht8
            obtain ⟨kk_137, hk_138⟩ := pl_at ht8.1 hs_130
            exact va_instNo hx hb hown (hts (.classLink RX11 114 "PageOne$Filler") (by decide +kernel)) hXN.n_X7_X2 (va_recv hK hP (ci := 6) (q0 := kk_137) rfl hk_138) dX11_fillerFor_20 hgo
          ·
            obtain ⟨nu_139, kd_140, cn_141, pa_142, fa_143, l_144, co_145, wd_146, nm_147, hs_148, hs_149, hs_150, hs_151, hq_152, hq_153, hq_154⟩ := x_ist hI ht8
            obtain ⟨kk_155, hk_156⟩ := pl_at ht8.1 hs_148
            exact va_instNo hx hb hown (hts (.classLink RX11 114 "PageOne$Filler") (by decide +kernel)) hXN.n_X10_X2 (va_recv hK hP (ci := 9) (q0 := kk_155) rfl hk_156) dX11_fillerFor_20 hgo
        ·
          refine lv_if_eq (tgt := 56) hx hb dX11_fillerFor_23 (by decide) (fun c_157 => ?_) (fun c_157 => absurd (by decide) c_157)
          refine lv_iinc (v := (nI (i + 1))) (lv' := [(2, .int (nI (i + 1))), (4, .ref b_13), (0, .ref h0), (1, .int p0)]) hx hb dX11_fillerFor_56 hl (k := 1) rfl (nI_1 i) (by decide) rfl (fun ls hl => ?_)
          refine lv_goto (tgt := 2) hx hb dX11_fillerFor_59 (by decide) ?_
          exact ih (i + 1) ls (by omega) (by omega) (lv_sub hl [0, 2, 3] rfl)
set_option maxHeartbeats 4000000 in
set_option maxRecDepth 100000 in
theorem x_fillerFor (l : Launch) (dC : Nat → ClassId) (dI : Nat → Nat → Nat) (q : Nat → ClassId) (h0 : Nat) (d : Nat → Nat) (k : Nat → Int32) (z : gS) (f : xF) (hI : xI q h0 d k z f) (p0 : Int32) : Met l yX11_fillerFor wsX11_fillerFor ({ frames := 1, cells := 0, slots := 0, locals := 22 }) (va_Pc [.ref h0, .int p0] (PX dC dI (va_pl z.1 f) (xT q))) (va_Sq (fun r => ∀ b, r = some b → tg z b 10)) 0 0 (fun _ => False) := by
  refine Met.ofW (cc := cX11_fillerFor) (maxL := 5) (ret := (some (.object "PageOne$Filler"))) (by decide) rfl ?_
  intro p e s m args below meth c s₁ B hml hv
  obtain ⟨rfl, ⟨hP, hK, hN⟩, hXN⟩ := hv
  have hx := B.exec
  have hb := B.bytes
  have hr := B.returns
  have hts := atoms_spec (ws := wsX11_fillerFor) B.pre
  have hown : s.vm.findClass RX11 = some m.cls := findClass_of_methodNamed B.named
  have hlocks := B.notSynchronized
  have hl := lv_entry ([.ref h0, .int p0]) (n := 5) (Nat.le_of_ble_eq_true rfl)
  rw [lg_entry_eq]
  generalize (lg_sl ([.ref h0, .int p0]) ++ List.replicate (5 - (lg_sl ([.ref h0, .int p0])).length) Slot.unset).toArray = ls at hl ⊢
  have hl : lv_has ls 5 [(0, .ref h0), (1, .int p0)] := hl
  refine lv_iconst (v := 0) hx hb dX11_fillerFor_0 (by decide) ?_
  refine lv_istore_n (lv' := [(2, .int 0), (0, .ref h0), (1, .int p0)]) hx hb dX11_fillerFor_1 rfl hl (by decide) rfl (fun ls hl => ?_)
  obtain ⟨K, hK8, -, eK⟩ := exN hI.1.1 (by decide)
  have h80 : (80 : Int32).toInt = 80 := rfl
  refine x_fillerFor_l (K := K) hI hx hb hml hts hown hN hXN hK (Nat.le_of_ble_eq_true rfl) (Nat.le_of_ble_eq_true rfl) (Nat.le_of_ble_eq_true rfl) (Nat.le_of_ble_eq_true rfl) hP (by omega) eK (fun ls hl => ?_) (fun b9 ls hb9 hl => ?_) (K + 1) 0 ls (Nat.zero_le _) (by omega) (lv_sub hl [0, 1, 2] rfl)
  ·
    refine lv_null hx hb dX11_fillerFor_62 ?_
    exact W.aret (v := .null) hx hb hr (Or.inl ⟨_, rfl⟩) (Or.inl rfl) (fun t ht hW => ⟨none, rfl, ty_n, ht⟩) (fun q h => absurd h List.not_mem_nil) dX11_fillerFor_63
  ·
    refine lv_aload_n hx hb dX11_fillerFor_54 rfl (lv_at hl 0 rfl) ?_
    exact W.aret (v := .ref b9) hx hb hr (Or.inl ⟨_, rfl⟩) (Or.inr ⟨_, rfl⟩) (fun t ht hW => ⟨some b9, rfl, (ty_s hb9), ht⟩) (fun q h => absurd h List.not_mem_nil) dX11_fillerFor_55
