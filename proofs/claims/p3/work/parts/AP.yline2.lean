theorem mK_no {u : mS} {p kd : Int32} (h : ¬ bw p 0 (u.1 3 - 1) = true) : mKind u p kd = false := by
  unfold mKind; cases hb : bw p 0 (u.1 3 - 1) with
  | false => rfl
  | true => exact absurd hb h
theorem mK_it {u : mS} {i : Nat} {kd : Int32} (hn : bw (u.1 3) 0 80 = true) (hi : i < (u.1 3).toNatClampNeg) : mKind u (nI i) kd = decide (u.2 4 i = kd) := by
  have h2 := bw_it hn hi
  unfold mKind; rw [h2.1, nI_clamp (by omega), Bool.true_and]
theorem line_n {u : mS} {p x : Int32} (h : mKind u p 0 = false) : mLine u p x = (-1, u) := by
  unfold mLine; rw [h, if_neg (by decide)]
theorem line_x {u : mS} {p x : Int32} (h : ¬ bw x 1 200 = true) : mLine u p x = (-1, u) := by
  unfold mLine; rw [if_neg h]; split <;> rfl
theorem line_y {q d u z f f2} {i : Nat} {x r : Int32} {gw : Nat → Int32} (h : rep q d u z f) (hu : rI u) (hi : i < (u.1 3).toNatClampNeg) (hk : u.2 4 i = 0) (hx : bw x 1 200 = true) (hw : f (d (5000 + i)) = aI (q 0) 80 gw) (hr : r = s_takeIn x (u.2 15 i)) (hf : f2 = s_takeIn_f q f (d (2000 + i)) (d (3000 + i)) (d (4000 + i)) (d (5000 + i)) (d (6000 + i)) x (nI i) (u.2 4 i) (u.2 22 i) (u.2 5 i) (u.2 15 i) gw) : r = (mLine u (nI i) x).1 ∧ rep q d (mLine u (nI i) x).2 z f2 := by
  have h2 := bw_it hu.1 hi
  have hco := hu.2.2.2.2.1 i h2.2
  have eI : (nI i).toNatClampNeg = i := nI_clamp (by omega)
  have hK : mKind u (nI i) 0 = true := by rw [mK_it hu.1 hi, hk]; rfl
  have e80 : (80 : Int32).toInt = 80 := rfl
  by_cases c : u.2 15 i < 80
  · have n80 : ¬ u.2 15 i = 80 := fun e => by rw [e, i32_lt] at c; omega
    have e : mLine u (nI i) x = ((u.2 15 i + 1), mst (mst u 16 (80 * nI i + u.2 15 i) x) 15 (nI i) (u.2 15 i + 1)) := by
      unfold mLine
      rw [if_pos hK, if_pos hx, eI, if_neg n80]
      have e1 : (mst u 16 (80 * nI i + u.2 15 i) x).2 15 i = u.2 15 i := by rw [mst_other (by decide)]
      show ((mst (mst u 16 (80 * nI i + u.2 15 i) x) 15 (nI i) ((mst u 16 (80 * nI i + u.2 15 i) x).2 15 i + 1)).2 15 i, _) = _
      rw [e1, mst_at, eI, if_pos rfl]
    rw [e, hr, hf]
    unfold s_takeIn s_takeIn_f
    rw [if_pos c, if_pos c]
    exact ⟨rfl, rep_line h hu.1 hi hk hco c x hw⟩
  · have y80 : u.2 15 i = 80 := by
      have h3 := bw_iff.mp hco
      rw [i32_lt] at c
      exact Int32.toInt_inj.mp (by omega)
    have e : mLine u (nI i) x = (-1, u) := by
      unfold mLine
      rw [if_pos hK, if_pos hx, eI, if_pos y80]
    rw [e, hr, hf]
    unfold s_takeIn s_takeIn_f
    rw [if_neg c, if_neg c]
    exact ⟨rfl, h⟩
set_option maxHeartbeats 4000000 in
set_option maxRecDepth 100000 in
theorem y_line (l : Launch) (dC : Nat → ClassId) (dI : Nat → Nat → Nat) (q : Nat → ClassId) (h0 : Nat) (d : Nat → Nat) (k : Nat → Int32) (z : gS) (f : xF) (hI : xI q h0 d k z f) (p0 p1 : Int32) (u : mS) (hrp : rep q d u z f) (hk0 : k 0 = u.1 3) (hk1 : k 1 = u.1 28) (hk2 : k 2 = u.1 38) (hk3 : k 3 = u.1 39) (hu : rI u) (sz : Nat) : Met l yX11_line wsX11_line ({ frames := 2, cells := 0, slots := 0, locals := 43 }) (va_Pc [.ref h0, .int p0, .int p1] (fun U => U.heap.size = sz ∧ PX dC dI (va_pl z.1 f) (xT q) U ∧ va_D (fun _ => True) (va_pl z.1 f))) (va_Qi (fun (r : Int32) (w : xU) => w.1 = k ∧ w.2.1 = z ∧ xI q h0 d k z w.2.2 ∧ r = (mLine u p0 p1).1 ∧ rep q d (mLine u p0 p1).2 z w.2.2) (fun (w : xU) t => va_P (dC, dI) vwCl (va_pl w.2.1.1 w.2.2) t.heap ∧ va_D (va_A (va_pl z.1 f) sz) (va_pl w.2.1.1 w.2.2)) (va_A (va_pl z.1 f) sz)) 0 0 (va_A (va_pl z.1 f) sz) := by
  refine Met.ofW (cc := cX11_line) (maxL := 5) (ret := (some .int)) (by decide) rfl ?_
  intro p e s m args below meth c s₁ B hml hv
  obtain ⟨rfl, hsz, ⟨⟨hP, hK, hN⟩, hXN⟩, hD0⟩ := hv
  have hx := B.exec
  have hb := B.bytes
  have hr := B.returns
  have hts := atoms_spec (ws := wsX11_line) B.pre
  have hown : s.vm.findClass RX11 = some m.cls := findClass_of_methodNamed B.named
  have hlocks := B.notSynchronized
  subst hsz
  have hD := hD0.self (sz := s.heap.size)
  generalize hAe : va_A (va_pl z.1 f) s.heap.size = A at hD ⊢
  have hA : ∀ q : Nat, s.heap.size ≤ q → A q := fun q h => by rw [← hAe]; exact Or.inr h
  have hS : va_S A s.heap s.heap [] := va_S.rf
  have hl := lv_entry ([.ref h0, .int p0, .int p1]) (n := 5) (Nat.le_of_ble_eq_true rfl)
  rw [lg_entry_eq]
  generalize (lg_sl ([.ref h0, .int p0, .int p1]) ++ List.replicate (5 - (lg_sl ([.ref h0, .int p0, .int p1])).length) Slot.unset).toArray = ls at hl ⊢
  have hl : lv_has ls 5 [(0, .ref h0), (1, .int p0), (2, .int p1)] := hl
  refine lv_aload_n hx hb dX11_line_0 rfl (lv_at hl 0 rfl) ?_
  refine lv_iload_n hx hb dX11_line_1 rfl (lv_at hl 1 rfl) ?_
  obtain ⟨kk_1, hk_2⟩ := pl_at hI.2.1.1.1 hI.2.2.2.1.1
  refine va_csq (va_runV (As := [.int p0]) (rest := []) ⟨hx, hb, hml, hown, hts⟩ (y_itemOf l dC dI q h0 d k z f hI p0 u hrp hk0 hk1 hk2 hk3) (cwV 1 hts gX11_line_X11_itemOf rfl rfl rfl (by decide +kernel) ⟨Nat.le_of_ble_eq_true rfl, Nat.le_of_ble_eq_true rfl⟩) ⟨px_fb, va_recv hK hP (ci := 10) (q0 := kk_1) rfl hk_2, fun U hU hW => ⟨rfl, px_to hU hW hP hK hN hXN⟩⟩ rfl rfl hl.1 rfl (lv_room (Nat.le_of_ble_eq_true rfl)) dX11_line_2 ⟨Nat.le_of_ble_eq_true rfl, Nat.le_of_ble_eq_true rfl⟩).run (fun r hw => ?_)
  rcases hw with ⟨hr9, hn9⟩ | ⟨i_3, hi_4, ep_5, hr9⟩
  ·
    subst hr9
    have hno_25 := hn9
    refine W.eq (g2 := F0 m 5 ls [.null]) rfl ?_
    refine lv_astoreN (lv' := [(4, .null), (0, .ref h0), (1, .int p0), (2, .int p1)]) hx hb dX11_line_5 hl (by decide) rfl (fun ls hl => ?_)
    refine lv_aloadN hx hb dX11_line_7 (lv_at hl 0 rfl) ?_
    refine lv_instN hx hb dX11_line_9 ?_
    refine lv_if_eq (tgt := 32) hx hb dX11_line_12 (by decide) (fun c_26 => ?_) (fun c_26 => absurd (by decide) c_26)
    refine lv_iconst (v := (-1)) hx hb dX11_line_32 (by decide) ?_
    exact W.iret (v := (-1)) hx hb hr (fun t ht hW => ⟨⟨(-1), (k, z, f), rfl, ⟨rfl, rfl, hI, by rw [line_n (mK_no hno_25)], by rw [line_n (mK_no hno_25)]; exact hrp⟩, by rw [ht]; exact hP, hD⟩, hS.F ht⟩) hS.2.2 dX11_line_33
  ·
    subst hr9
    obtain ⟨rs_6, n_7, g_8, fg_9, hit_10, hs_11, hpa_12, hps_13, h1_14, h6_15, hcb_16, hpl_17, hlg_18, hnn_19, hfa_20, hfs_21, hfe_22, hrs_23, hkt_24⟩ := it_all hI hrp.2.2.1 hi_4
    refine W.eq (g2 := F0 m 5 ls [.ref (d (2000 + i_3))]) rfl ?_
    refine lv_astore (lv' := [(4, .ref (d (2000 + i_3))), (0, .ref h0), (1, .int p0), (2, .int p1)]) hx hb dX11_line_5 hl (by decide) rfl (fun ls hl => ?_)
    refine lv_aload hx hb dX11_line_7 (lv_at hl 0 rfl) ?_
    rcases Classical.em (tg z (d (2000 + i_3)) 15) with ht9 | ht9
    ·
      have ht_27 := ht9
      have hkd_29 : u.2 4 i_3 = 0 := (kT_k (kd_05 hrp.2.2.1 hi_4).1 (kd_05 hrp.2.2.1 hi_4).2).1 (hkt_24.symm.trans ht_27.2)
      obtain ⟨hx_30, hx_31, hx_32, ⟨hx_33, hx_34, hx_35⟩, hx_36, hx_37, hx_38⟩ := hrs_23.1 hkd_29
      have hs_39 : f (d (2000 + i_3)) = .inr (9, [.int (nI i_3), .int (u.2 4 i_3), .ref (d (3000 + i_3)), .int (u.2 22 i_3), .ref (d (4000 + i_3)), .int (u.2 5 i_3), .ref (d (5000 + i_3)), .int (u.2 15 i_3), .ref (d (6000 + i_3))]) := by rw [hs_11, ht_27.2, hx_30]; rfl
      obtain ⟨kk_40, hk_41⟩ := pl_at ht_27.1 hs_39
      refine va_instS hx hb hown (hts (.classLink RX11 66 "PageOne$Story") (by decide +kernel)) (hK.1 9 (RX10, TX10, 9) rfl).2 (va_recv hK hP (ci := 9) (q0 := kk_40) rfl hk_41) dX11_line_9 ?_
      refine lv_if_eq (tgt := 32) hx hb dX11_line_12 (by decide) (fun c_42 => absurd c_42 (by decide)) (fun c_42 => ?_)
      refine lv_aload hx hb dX11_line_15 (lv_at hl 0 rfl) ?_
      obtain ⟨kk_43, hk_44⟩ := pl_at ht_27.1 hs_39
      refine va_castS hx hb hown (hts (.classLink RX11 66 "PageOne$Story") (by decide +kernel)) (hK.1 9 (RX10, TX10, 9) rfl).2 (va_recv hK hP (ci := 9) (q0 := kk_43) rfl hk_44) dX11_line_17 ?_
      refine lv_astore_n (lv' := [(3, .ref (d (2000 + i_3))), (4, .ref (d (2000 + i_3))), (0, .ref h0), (1, .int p0), (2, .int p1)]) hx hb dX11_line_20 rfl hl (by decide) rfl (fun ls hl => ?_)
      refine lv_iload_n hx hb dX11_line_21 rfl (lv_at hl 4 rfl) ?_
      refine lv_iconst (v := 1) hx hb dX11_line_22 (by decide) ?_
      refine lv_sipush (v := 200) hx hb dX11_line_23 (by decide) ?_
      refine vp_callSi (va_runS (As := [.int p1, .int 1, .int 200]) (rest := []) ⟨hx, hb, hml, hown, hts⟩ (x_isWithin l dC dI p1 1 200) (va_cwS 3 hts gX11_line_X11_isWithin rfl rfl rfl (by decide +kernel) ⟨Nat.le_of_ble_eq_true rfl, Nat.le_of_ble_eq_true rfl⟩) ⟨pw_fb, fun U hU hW => ⟨rfl, pw_to hU hW (hP.sub (ws' := []) [] rfl) (hK.sub (tys' := []) [] rfl) hN⟩⟩ rfl rfl hl.1 rfl (lv_room (Nat.le_of_ble_eq_true rfl)) dX11_line_26 ⟨Nat.le_of_ble_eq_true rfl, Nat.le_of_ble_eq_true rfl⟩).run (fun r hw => ?_)
      rcases Bool.eq_false_or_eq_true (bw p1 1 200) with b_45 | b_45
      ·
        obtain rfl : r = 1 := b_t hw b_45
        refine lv_if_ne (tgt := 34) hx hb dX11_line_29 (by decide) (fun c_46 => ?_) (fun c_46 => absurd c_46 (by decide))
        refine lv_aload_n hx hb dX11_line_34 rfl (lv_at hl 0 rfl) ?_
        refine lv_iload_n hx hb dX11_line_35 rfl (lv_at hl 4 rfl) ?_
        obtain ⟨kk_47, hk_48⟩ := pl_at ht_27.1 hs_39
        have hFc := fr_all hD hS hA
        refine va_calli (va_runV (As := [.int p1]) (rest := []) ⟨hx, hb, hml, hown, hts⟩ (y_takeIn l dC dI q h0 d k z f hI (d (2000 + i_3)) (d (3000 + i_3)) (d (4000 + i_3)) (d (5000 + i_3)) (d (6000 + i_3)) (nI i_3) (u.2 4 i_3) (u.2 22 i_3) (u.2 5 i_3) (u.2 15 i_3) ht_27 hs_39 p1 hx_33 hx_31.1 hx_34 hx_32.1 hpa_12 hfa_20 (hu.2.2.2.2.1 i_3 (bw_it hu.1 hi_4).2) s.heap.size) (cwV 1 hts gX11_line_X10_takeIn rfl rfl rfl (by decide +kernel) ⟨Nat.le_of_ble_eq_true rfl, Nat.le_of_ble_eq_true rfl⟩) ⟨gx_fb, va_recv hK hP (ci := 9) (q0 := kk_47) rfl hk_48, fun U hU hW => ⟨rfl, by rw [hU], px_to hU hW hP hK hN hXN, hD.weaken (fun _ _ _ _ => trivial)⟩⟩ rfl rfl hl.1 rfl (lv_room (Nat.le_of_ble_eq_true rfl)) dX11_line_36 ⟨Nat.le_of_ble_eq_true rfl, Nat.le_of_ble_eq_true rfl⟩) hS (fun q _ h => hFc q h) hFc (fun r w_49 t H1 locs ht hvm hw hB hz1 hk1 hS => ?_)
        obtain ⟨hP, hD1⟩ := hB
        rw [ht] at hP
        rw [hw.2.1] at hP hD1
        have hD := hD1.weaken (fun _ q _ h => hFc q.1 h)
        have hI := hw.2.2.1
        have hw0 := hw
        generalize w_49.2.2 = f_50 at hP hD hI hw0
        generalize H1 = H at hP hS ⊢
        generalize r = zr_51 at hw hw0 ⊢
        exact W.iret (v := zr_51) hx hb hr (fun t ht hW => ⟨⟨zr_51, (k, z, f_50), rfl, ⟨rfl, rfl, hI, by rw [ep_5]; exact line_y hrp hu hi_4 hkd_29 b_45 hx_34 hw0.2.2.2.1 hw0.2.2.2.2⟩, by rw [ht]; exact hP, hD⟩, hS.F ht⟩) hS.2.2 dX11_line_39
      ·
        obtain rfl : r = 0 := b_f hw b_45
        refine lv_if_ne (tgt := 34) hx hb dX11_line_29 (by decide) (fun c_52 => absurd (by decide) c_52) (fun c_52 => ?_)
        refine lv_iconst (v := (-1)) hx hb dX11_line_32 (by decide) ?_
        exact W.iret (v := (-1)) hx hb hr (fun t ht hW => ⟨⟨(-1), (k, z, f), rfl, ⟨rfl, rfl, hI, by rw [(line_x (bne b_45))], by rw [(line_x (bne b_45))]; exact hrp⟩, by rw [ht]; exact hP, hD⟩, hS.F ht⟩) hS.2.2 dX11_line_33
    ·
      have hn_28 := ht9
      have hkd_29 : ¬ u.2 4 i_3 = 0 := fun e9 => ht9 ⟨hit_10.1, by rw [hkt_24, e9]; rfl⟩
      refine w_then (F0 m 12 ls [.int 0]) (fun hgo => ?_) ?_
      ·
        rcases x_tag hit_10 with ht8 | ht8 | ht8 | ht8 | ht8 | ht8
        ·
          obtain ⟨nu_53, kd_54, cn_55, pa_56, fa_57, l_58, m_59, hs_60, hs_61, hs_62, hs_63⟩ := x_ifl hI ht8
          obtain ⟨kk_64, hk_65⟩ := pl_at ht8.1 hs_60
          exact va_instNo hx hb hown (hts (.classLink RX11 66 "PageOne$Story") (by decide +kernel)) hXN.n_X2_X10 (va_recv hK hP (ci := 2) (q0 := kk_64) rfl hk_65) dX11_line_9 hgo
        ·
          obtain ⟨nu_66, kd_67, cn_68, pa_69, fa_70, o_71, w_72, y_73, hs_74, hs_75, hs_76, hs_77, hq_78⟩ := x_ihd hI ht8
          obtain ⟨kk_79, hk_80⟩ := pl_at ht8.1 hs_74
          exact va_instNo hx hb hown (hts (.classLink RX11 66 "PageOne$Story") (by decide +kernel)) hXN.n_X3_X10 (va_recv hK hP (ci := 3) (q0 := kk_79) rfl hk_80) dX11_line_9 hgo
        ·
          obtain ⟨nu_81, kd_82, cn_83, pa_84, fa_85, o_86, y_87, hs_88, hs_89, hs_90, hs_91, hq_92⟩ := x_ino hI ht8
          obtain ⟨kk_93, hk_94⟩ := pl_at ht8.1 hs_88
          exact va_instNo hx hb hown (hts (.classLink RX11 66 "PageOne$Story") (by decide +kernel)) hXN.n_X5_X10 (va_recv hK hP (ci := 4) (q0 := kk_93) rfl hk_94) dX11_line_9 hgo
        ·
          obtain ⟨nu_95, kd_96, cn_97, pa_98, fa_99, b_100, pr_101, sp_102, dy_103, hs_104, hs_105, hs_106, hs_107, hq_108, hq_109, hq_110⟩ := x_ipd hI ht8
          obtain ⟨kk_111, hk_112⟩ := pl_at ht8.1 hs_104
          exact va_instNo hx hb hown (hts (.classLink RX11 66 "PageOne$Story") (by decide +kernel)) hXN.n_X6_X10 (va_recv hK hP (ci := 5) (q0 := kk_111) rfl hk_112) dX11_line_9 hgo
        ·
          obtain ⟨nu_113, kd_114, cn_115, pa_116, fa_117, ww_118, hh_119, sz_120, hs_121, hs_122, hs_123, hs_124, hq_125, hq_126, hq_127⟩ := x_ipi hI ht8
          obtain ⟨kk_128, hk_129⟩ := pl_at ht8.1 hs_121
          exact va_instNo hx hb hown (hts (.classLink RX11 66 "PageOne$Story") (by decide +kernel)) hXN.n_X7_X10 (va_recv hK hP (ci := 6) (q0 := kk_128) rfl hk_129) dX11_line_9 hgo
        ·
          exact absurd ht8 ht9
      ·
        refine lv_if_eq (tgt := 32) hx hb dX11_line_12 (by decide) (fun c_130 => ?_) (fun c_130 => absurd (by decide) c_130)
        refine lv_iconst (v := (-1)) hx hb dX11_line_32 (by decide) ?_
        exact W.iret (v := (-1)) hx hb hr (fun t ht hW => ⟨⟨(-1), (k, z, f), rfl, ⟨rfl, rfl, hI, by rw [(line_n (by rw [ep_5, mK_it hu.1 hi_4]; exact decide_eq_false hkd_29))], by rw [(line_n (by rw [ep_5, mK_it hu.1 hi_4]; exact decide_eq_false hkd_29))]; exact hrp⟩, by rw [ht]; exact hP, hD⟩, hS.F ht⟩) hS.2.2 dX11_line_33
