theorem tg_nq {z : gS} {a b s t : Nat} (h : tg z a s) (h2 : tg z b t) (hn : s ≠ t) : a ≠ b := fun e => hn (by rw [← h.2, ← h2.2, e])
theorem d3_o {q : Nat → ClassId} {d : Nat → Nat} {u : mS} {z : gS} {f : xF} (h : rep q d u z f) : nO d z 3 5 := h.2.2.2.2.2.2.2.1
theorem takeIn_d3 {q : Nat → ClassId} {f f2 : xF} {a3 a0 pa fa wd nm : Nat} {p0 nu kd cn lz co : Int32} {gw : Nat → Int32} (h1 : a3 ≠ wd) (h2 : a3 ≠ a0) (hf : f2 = s_takeIn_f q f a0 pa fa wd nm p0 nu kd cn lz co gw) : f2 a3 = f a3 := by
  rw [hf]
  unfold s_takeIn_f
  split
  · rw [up_o h2, up_o h1]
  · rfl
theorem takeSize_d3 {q : Nat → ClassId} {f f2 : xF} {a3 a0 pa fa ww hh : Nat} {p0 p1 nu kd cn sn : Int32} {gw gh : Nat → Int32} (h1 : a3 ≠ ww) (h3 : a3 ≠ hh) (h2 : a3 ≠ a0) (hf : f2 = s_takeSize_f q f a0 pa fa ww hh p0 p1 nu kd cn sn gw gh) : f2 a3 = f a3 := by
  rw [hf]
  unfold s_takeSize_f
  split
  · rw [up_o h2, up_o h3, up_o h1]
  · rfl
set_option maxHeartbeats 4000000 in
set_option maxRecDepth 100000 in
theorem v_line (l : Launch) (dC : Nat → ClassId) (dI : Nat → Nat → Nat) (q : Nat → ClassId) (h0 : Nat) (d : Nat → Nat) (k : Nat → Int32) (z : gS) (f : xF) (hI : xI q h0 d k z f) (p0 p1 : Int32) (u : mS) (hrp : rep q d u z f) (hk0 : k 0 = u.1 3) (hk1 : k 1 = u.1 28) (hk2 : k 2 = u.1 38) (hk3 : k 3 = u.1 39) (hu : rI u) (sz : Nat) : Met l yX11_line wsX11_line ({ frames := 2, cells := 0, slots := 0, locals := 43 }) (va_Pc [.ref h0, .int p0, .int p1] (fun U => U.heap.size = sz ∧ PX dC dI (va_pl z.1 f) (xT q) U ∧ va_D (fun _ => True) (va_pl z.1 f))) (va_Qi (fun (r : Int32) (w : xU) => w.2.2 (d 3) = f (d 3) ∧ w.1 = k ∧ w.2.1 = z ∧ xI q h0 d k z w.2.2 ∧ r = (mLine u p0 p1).1 ∧ rep q d (mLine u p0 p1).2 z w.2.2) (fun (w : xU) t => va_P (dC, dI) vwCl (va_pl w.2.1.1 w.2.2) t.heap ∧ va_D (va_A (va_pl z.1 f) sz) (va_pl w.2.1.1 w.2.2)) (va_A (va_pl z.1 f) sz)) 0 0 (va_A (va_pl z.1 f) sz) := by
  refine Met.ofW (cc := cX11_line) (maxL := 5) (ret := (some .int)) (by decide) rfl ?_
  intro p e s m args below meth c s₁ B hml hv
  obtain ⟨rfl, hsz, ⟨⟨hP, hK, hN⟩, hXN⟩, hD0⟩ := hv
  have hx := B.exec
  have hb := B.bytes
  have hr := B.returns
  have hts := atoms_spec (ws := wsX11_line) B.pre
  have hown : s.vm.findClass RX11 = some m.cls := findClass_of_methodNamed B.named
  have hlocks := B.notSynchronized
  subst hsz
  have hD := hD0.self (sz := s.heap.size)
  generalize hAe : va_A (va_pl z.1 f) s.heap.size = A at hD ⊢
  have hA : ∀ q : Nat, s.heap.size ≤ q → A q := fun q h => by rw [← hAe]; exact Or.inr h
  have hS : va_S A s.heap s.heap [] := va_S.rf
  have hl := lv_entry ([.ref h0, .int p0, .int p1]) (n := 5) (Nat.le_of_ble_eq_true rfl)
  rw [lg_entry_eq]
  generalize (lg_sl ([.ref h0, .int p0, .int p1]) ++ List.replicate (5 - (lg_sl ([.ref h0, .int p0, .int p1])).length) Slot.unset).toArray = ls at hl ⊢
  have hl : lv_has ls 5 [(0, .ref h0), (1, .int p0), (2, .int p1)] := hl
  refine lv_aload_n hx hb dX11_line_0 rfl (lv_at hl 0 rfl) ?_
  refine lv_iload_n hx hb dX11_line_1 rfl (lv_at hl 1 rfl) ?_
  obtain ⟨kk_1, hk_2⟩ := pl_at hI.2.1.1.1 hI.2.2.2.1.1
  refine va_csq (va_runV (As := [.int p0]) (rest := []) ⟨hx, hb, hml, hown, hts⟩ (y_itemOf l dC dI q h0 d k z f hI p0 u hrp hk0 hk1 hk2 hk3) (cwV 1 hts gX11_line_X11_itemOf rfl rfl rfl (by decide +kernel) ⟨Nat.le_of_ble_eq_true rfl, Nat.le_of_ble_eq_true rfl⟩) ⟨px_fb, va_recv hK hP (ci := 10) (q0 := kk_1) rfl hk_2, fun U hU hW => ⟨rfl, px_to hU hW hP hK hN hXN⟩⟩ rfl rfl hl.1 rfl (lv_room (Nat.le_of_ble_eq_true rfl)) dX11_line_2 ⟨Nat.le_of_ble_eq_true rfl, Nat.le_of_ble_eq_true rfl⟩).run (fun r hw => ?_)
  rcases hw with ⟨hr9, hn9⟩ | ⟨i_3, hi_4, ep_5, hr9⟩
  ·
    subst hr9
    have hno_25 := hn9
    refine W.eq (g2 := F0 m 5 ls [.null]) rfl ?_
    refine lv_astoreN (lv' := [(4, .null), (0, .ref h0), (1, .int p0), (2, .int p1)]) hx hb dX11_line_5 hl (by decide) rfl (fun ls hl => ?_)
    refine lv_aloadN hx hb dX11_line_7 (lv_at hl 0 rfl) ?_
    refine lv_instN hx hb dX11_line_9 ?_
    refine lv_if_eq (tgt := 32) hx hb dX11_line_12 (by decide) (fun c_26 => ?_) (fun c_26 => absurd (by decide) c_26)
    refine lv_iconst (v := (-1)) hx hb dX11_line_32 (by decide) ?_
    exact W.iret (v := (-1)) hx hb hr (fun t ht hW => ⟨⟨(-1), (k, z, f), rfl, ⟨rfl, rfl, rfl, hI, by rw [line_n (mK_no hno_25)], by rw [line_n (mK_no hno_25)]; exact hrp⟩, by rw [ht]; exact hP, hD⟩, hS.F ht⟩) hS.2.2 dX11_line_33
  ·
    subst hr9
    obtain ⟨rs_6, n_7, g_8, fg_9, hit_10, hs_11, hpa_12, hps_13, h1_14, h6_15, hcb_16, hpl_17, hlg_18, hnn_19, hfa_20, hfs_21, hfe_22, hrs_23, hkt_24⟩ := it_all hI hrp.2.2.1 hi_4
    refine W.eq (g2 := F0 m 5 ls [.ref (d (2000 + i_3))]) rfl ?_
    refine lv_astore (lv' := [(4, .ref (d (2000 + i_3))), (0, .ref h0), (1, .int p0), (2, .int p1)]) hx hb dX11_line_5 hl (by decide) rfl (fun ls hl => ?_)
    refine lv_aload hx hb dX11_line_7 (lv_at hl 0 rfl) ?_
    rcases Classical.em (tg z (d (2000 + i_3)) 15) with ht9 | ht9
    ·
      have ht_27 := ht9
      have hkd_29 : u.2 4 i_3 = 0 := (kT_k (kd_05 hrp.2.2.1 hi_4).1 (kd_05 hrp.2.2.1 hi_4).2).1 (hkt_24.symm.trans ht_27.2)
      obtain ⟨hx_30, hx_31, hx_32, ⟨hx_33, hx_34, hx_35⟩, hx_36, hx_37, hx_38⟩ := hrs_23.1 hkd_29
      have hs_39 : f (d (2000 + i_3)) = .inr (9, [.int (nI i_3), .int (u.2 4 i_3), .ref (d (3000 + i_3)), .int (u.2 22 i_3), .ref (d (4000 + i_3)), .int (u.2 5 i_3), .ref (d (5000 + i_3)), .int (u.2 15 i_3), .ref (d (6000 + i_3))]) := by rw [hs_11, ht_27.2, hx_30]; rfl
      obtain ⟨kk_50, hk_51⟩ := pl_at ht_27.1 hs_39
      refine va_instS hx hb hown (hts (.classLink RX11 66 "PageOne$Story") (by decide +kernel)) (hK.1 9 (RX10, TX10, 9) rfl).2 (va_recv hK hP (ci := 9) (q0 := kk_50) rfl hk_51) dX11_line_9 ?_
      refine lv_if_eq (tgt := 32) hx hb dX11_line_12 (by decide) (fun c_52 => absurd c_52 (by decide)) (fun c_52 => ?_)
      refine lv_aload hx hb dX11_line_15 (lv_at hl 0 rfl) ?_
      obtain ⟨kk_53, hk_54⟩ := pl_at ht_27.1 hs_39
      refine va_castS hx hb hown (hts (.classLink RX11 66 "PageOne$Story") (by decide +kernel)) (hK.1 9 (RX10, TX10, 9) rfl).2 (va_recv hK hP (ci := 9) (q0 := kk_53) rfl hk_54) dX11_line_17 ?_
      refine lv_astore_n (lv' := [(3, .ref (d (2000 + i_3))), (4, .ref (d (2000 + i_3))), (0, .ref h0), (1, .int p0), (2, .int p1)]) hx hb dX11_line_20 rfl hl (by decide) rfl (fun ls hl => ?_)
      refine lv_iload_n hx hb dX11_line_21 rfl (lv_at hl 4 rfl) ?_
      refine lv_iconst (v := 1) hx hb dX11_line_22 (by decide) ?_
      refine lv_sipush (v := 200) hx hb dX11_line_23 (by decide) ?_
      refine vp_callSi (va_runS (As := [.int p1, .int 1, .int 200]) (rest := []) ⟨hx, hb, hml, hown, hts⟩ (x_isWithin l dC dI p1 1 200) (va_cwS 3 hts gX11_line_X11_isWithin rfl rfl rfl (by decide +kernel) ⟨Nat.le_of_ble_eq_true rfl, Nat.le_of_ble_eq_true rfl⟩) ⟨pw_fb, fun U hU hW => ⟨rfl, pw_to hU hW (hP.sub (ws' := []) [] rfl) (hK.sub (tys' := []) [] rfl) hN⟩⟩ rfl rfl hl.1 rfl (lv_room (Nat.le_of_ble_eq_true rfl)) dX11_line_26 ⟨Nat.le_of_ble_eq_true rfl, Nat.le_of_ble_eq_true rfl⟩).run (fun r hw => ?_)
      rcases Bool.eq_false_or_eq_true (bw p1 1 200) with b_55 | b_55
      ·
        obtain rfl : r = 1 := b_t hw b_55
        refine lv_if_ne (tgt := 34) hx hb dX11_line_29 (by decide) (fun c_56 => ?_) (fun c_56 => absurd c_56 (by decide))
        refine lv_aload_n hx hb dX11_line_34 rfl (lv_at hl 0 rfl) ?_
        refine lv_iload_n hx hb dX11_line_35 rfl (lv_at hl 4 rfl) ?_
        obtain ⟨kk_57, hk_58⟩ := pl_at ht_27.1 hs_39
        have hFc := fr_all hD hS hA
        refine va_calli (va_runV (As := [.int p1]) (rest := []) ⟨hx, hb, hml, hown, hts⟩ (y_takeIn l dC dI q h0 d k z f hI (d (2000 + i_3)) (d (3000 + i_3)) (d (4000 + i_3)) (d (5000 + i_3)) (d (6000 + i_3)) (nI i_3) (u.2 4 i_3) (u.2 22 i_3) (u.2 5 i_3) (u.2 15 i_3) ht_27 hs_39 p1 hx_33 hx_31.1 hx_34 hx_32.1 hpa_12 hfa_20 (hu.2.2.2.2.1 i_3 (bw_it hu.1 hi_4).2) s.heap.size) (cwV 1 hts gX11_line_X10_takeIn rfl rfl rfl (by decide +kernel) ⟨Nat.le_of_ble_eq_true rfl, Nat.le_of_ble_eq_true rfl⟩) ⟨gx_fb, va_recv hK hP (ci := 9) (q0 := kk_57) rfl hk_58, fun U hU hW => ⟨rfl, by rw [hU], px_to hU hW hP hK hN hXN, hD.weaken (fun _ _ _ _ => trivial)⟩⟩ rfl rfl hl.1 rfl (lv_room (Nat.le_of_ble_eq_true rfl)) dX11_line_36 ⟨Nat.le_of_ble_eq_true rfl, Nat.le_of_ble_eq_true rfl⟩) hS (fun q _ h => hFc q h) hFc (fun r w_59 t H1 locs ht hvm hw hB hz1 hk1 hS => ?_)
        obtain ⟨hP, hD1⟩ := hB
        rw [ht] at hP
        rw [hw.2.1] at hP hD1
        have hD := hD1.weaken (fun _ q _ h => hFc q.1 h)
        have hI := hw.2.2.1
        have hw0 := hw
        generalize w_59.2.2 = f_60 at hP hD hI hw0
        generalize H1 = H at hP hS ⊢
        generalize r = zr_61 at hw hw0 ⊢
        exact W.iret (v := zr_61) hx hb hr (fun t ht hW => ⟨⟨zr_61, (k, z, f_60), rfl, ⟨(takeIn_d3 (nO_ne (d3_o hrp) hx_31 (by omega)) (nO_ne (d3_o hrp) (hrp.2.2.1.2 _ hi_4).1 (by omega)) hw0.2.2.2.2), rfl, rfl, hI, by rw [ep_5]; exact line_y hrp hu hi_4 hkd_29 b_55 hx_34 hw0.2.2.2.1 hw0.2.2.2.2⟩, by rw [ht]; exact hP, hD⟩, hS.F ht⟩) hS.2.2 dX11_line_39
      ·
        obtain rfl : r = 0 := b_f hw b_55
        refine lv_if_ne (tgt := 34) hx hb dX11_line_29 (by decide) (fun c_62 => absurd (by decide) c_62) (fun c_62 => ?_)
        refine lv_iconst (v := (-1)) hx hb dX11_line_32 (by decide) ?_
        exact W.iret (v := (-1)) hx hb hr (fun t ht hW => ⟨⟨(-1), (k, z, f), rfl, ⟨rfl, rfl, rfl, hI, by rw [(line_x (bne b_55))], by rw [(line_x (bne b_55))]; exact hrp⟩, by rw [ht]; exact hP, hD⟩, hS.F ht⟩) hS.2.2 dX11_line_33
    ·
      have hn_28 := ht9
      have hkd_29 : ¬ u.2 4 i_3 = 0 := fun e9 => ht9 ⟨hit_10.1, by rw [hkt_24, e9]; rfl⟩
      refine w_then (F0 m 12 ls [.int 0]) (fun hgo => ?_) ?_
      ·
        rcases x_tag hit_10 with ht8 | ht8 | ht8 | ht8 | ht8 | ht8
        ·
          obtain ⟨nu_63, kd_64, cn_65, pa_66, fa_67, l_68, m_69, hs_70, hs_71, hs_72, hs_73⟩ := x_ifl hI ht8
          obtain ⟨kk_74, hk_75⟩ := pl_at ht8.1 hs_70
          exact va_instNo hx hb hown (hts (.classLink RX11 66 "PageOne$Story") (by decide +kernel)) hXN.n_X2_X10 (va_recv hK hP (ci := 2) (q0 := kk_74) rfl hk_75) dX11_line_9 hgo
        ·
          obtain ⟨nu_76, kd_77, cn_78, pa_79, fa_80, o_81, w_82, y_83, hs_84, hs_85, hs_86, hs_87, hq_88⟩ := x_ihd hI ht8
          obtain ⟨kk_89, hk_90⟩ := pl_at ht8.1 hs_84
          exact va_instNo hx hb hown (hts (.classLink RX11 66 "PageOne$Story") (by decide +kernel)) hXN.n_X3_X10 (va_recv hK hP (ci := 3) (q0 := kk_89) rfl hk_90) dX11_line_9 hgo
        ·
          obtain ⟨nu_91, kd_92, cn_93, pa_94, fa_95, o_96, y_97, hs_98, hs_99, hs_100, hs_101, hq_102⟩ := x_ino hI ht8
          obtain ⟨kk_103, hk_104⟩ := pl_at ht8.1 hs_98
          exact va_instNo hx hb hown (hts (.classLink RX11 66 "PageOne$Story") (by decide +kernel)) hXN.n_X5_X10 (va_recv hK hP (ci := 4) (q0 := kk_103) rfl hk_104) dX11_line_9 hgo
        ·
          obtain ⟨nu_105, kd_106, cn_107, pa_108, fa_109, b_110, pr_111, sp_112, dy_113, hs_114, hs_115, hs_116, hs_117, hq_118, hq_119, hq_120⟩ := x_ipd hI ht8
          obtain ⟨kk_121, hk_122⟩ := pl_at ht8.1 hs_114
          exact va_instNo hx hb hown (hts (.classLink RX11 66 "PageOne$Story") (by decide +kernel)) hXN.n_X6_X10 (va_recv hK hP (ci := 5) (q0 := kk_121) rfl hk_122) dX11_line_9 hgo
        ·
          obtain ⟨nu_123, kd_124, cn_125, pa_126, fa_127, ww_128, hh_129, sz_130, hs_131, hs_132, hs_133, hs_134, hq_135, hq_136, hq_137⟩ := x_ipi hI ht8
          obtain ⟨kk_138, hk_139⟩ := pl_at ht8.1 hs_131
          exact va_instNo hx hb hown (hts (.classLink RX11 66 "PageOne$Story") (by decide +kernel)) hXN.n_X7_X10 (va_recv hK hP (ci := 6) (q0 := kk_138) rfl hk_139) dX11_line_9 hgo
        ·
          exact absurd ht8 ht9
      ·
        refine lv_if_eq (tgt := 32) hx hb dX11_line_12 (by decide) (fun c_140 => ?_) (fun c_140 => absurd (by decide) c_140)
        refine lv_iconst (v := (-1)) hx hb dX11_line_32 (by decide) ?_
        exact W.iret (v := (-1)) hx hb hr (fun t ht hW => ⟨⟨(-1), (k, z, f), rfl, ⟨rfl, rfl, rfl, hI, by rw [(line_n (by rw [ep_5, mK_it hu.1 hi_4]; exact decide_eq_false hkd_29))], by rw [(line_n (by rw [ep_5, mK_it hu.1 hi_4]; exact decide_eq_false hkd_29))]; exact hrp⟩, by rw [ht]; exact hP, hD⟩, hS.F ht⟩) hS.2.2 dX11_line_33
set_option maxHeartbeats 4000000 in
set_option maxRecDepth 100000 in
theorem v_size (l : Launch) (dC : Nat → ClassId) (dI : Nat → Nat → Nat) (q : Nat → ClassId) (h0 : Nat) (d : Nat → Nat) (k : Nat → Int32) (z : gS) (f : xF) (hI : xI q h0 d k z f) (p0 p1 p2 : Int32) (u : mS) (hrp : rep q d u z f) (hk0 : k 0 = u.1 3) (hk1 : k 1 = u.1 28) (hk2 : k 2 = u.1 38) (hk3 : k 3 = u.1 39) (hu : rI u) (sz : Nat) : Met l yX11_size wsX11_size ({ frames := 2, cells := 0, slots := 0, locals := 43 }) (va_Pc [.ref h0, .int p0, .int p1, .int p2] (fun U => U.heap.size = sz ∧ PX dC dI (va_pl z.1 f) (xT q) U ∧ va_D (fun _ => True) (va_pl z.1 f))) (va_Qi (fun (r : Int32) (w : xU) => w.2.2 (d 3) = f (d 3) ∧ w.1 = k ∧ w.2.1 = z ∧ xI q h0 d k z w.2.2 ∧ r = (mSize u p0 p1 p2).1 ∧ rep q d (mSize u p0 p1 p2).2 z w.2.2) (fun (w : xU) t => va_P (dC, dI) vwCl (va_pl w.2.1.1 w.2.2) t.heap ∧ va_D (va_A (va_pl z.1 f) sz) (va_pl w.2.1.1 w.2.2)) (va_A (va_pl z.1 f) sz)) 0 0 (va_A (va_pl z.1 f) sz) := by
  refine Met.ofW (cc := cX11_size) (maxL := 6) (ret := (some .int)) (by decide) rfl ?_
  intro p e s m args below meth c s₁ B hml hv
  obtain ⟨rfl, hsz, ⟨⟨hP, hK, hN⟩, hXN⟩, hD0⟩ := hv
  have hx := B.exec
  have hb := B.bytes
  have hr := B.returns
  have hts := atoms_spec (ws := wsX11_size) B.pre
  have hown : s.vm.findClass RX11 = some m.cls := findClass_of_methodNamed B.named
  have hlocks := B.notSynchronized
  subst hsz
  have hD := hD0.self (sz := s.heap.size)
  generalize hAe : va_A (va_pl z.1 f) s.heap.size = A at hD ⊢
  have hA : ∀ q : Nat, s.heap.size ≤ q → A q := fun q h => by rw [← hAe]; exact Or.inr h
  have hS : va_S A s.heap s.heap [] := va_S.rf
  have hl := lv_entry ([.ref h0, .int p0, .int p1, .int p2]) (n := 6) (Nat.le_of_ble_eq_true rfl)
  rw [lg_entry_eq]
  generalize (lg_sl ([.ref h0, .int p0, .int p1, .int p2]) ++ List.replicate (6 - (lg_sl ([.ref h0, .int p0, .int p1, .int p2])).length) Slot.unset).toArray = ls at hl ⊢
  have hl : lv_has ls 6 [(0, .ref h0), (1, .int p0), (2, .int p1), (3, .int p2)] := hl
  refine lv_aload_n hx hb dX11_size_0 rfl (lv_at hl 0 rfl) ?_
  refine lv_iload_n hx hb dX11_size_1 rfl (lv_at hl 1 rfl) ?_
  obtain ⟨kk_1, hk_2⟩ := pl_at hI.2.1.1.1 hI.2.2.2.1.1
  refine va_csq (va_runV (As := [.int p0]) (rest := []) ⟨hx, hb, hml, hown, hts⟩ (y_itemOf l dC dI q h0 d k z f hI p0 u hrp hk0 hk1 hk2 hk3) (cwV 1 hts gX11_size_X11_itemOf rfl rfl rfl (by decide +kernel) ⟨Nat.le_of_ble_eq_true rfl, Nat.le_of_ble_eq_true rfl⟩) ⟨px_fb, va_recv hK hP (ci := 10) (q0 := kk_1) rfl hk_2, fun U hU hW => ⟨rfl, px_to hU hW hP hK hN hXN⟩⟩ rfl rfl hl.1 rfl (lv_room (Nat.le_of_ble_eq_true rfl)) dX11_size_2 ⟨Nat.le_of_ble_eq_true rfl, Nat.le_of_ble_eq_true rfl⟩).run (fun r hw => ?_)
  rcases hw with ⟨hr9, hn9⟩ | ⟨i_3, hi_4, ep_5, hr9⟩
  ·
    subst hr9
    have hno_25 := hn9
    refine W.eq (g2 := F0 m 5 ls [.null]) rfl ?_
    refine lv_astoreN (lv' := [(5, .null), (0, .ref h0), (1, .int p0), (2, .int p1), (3, .int p2)]) hx hb dX11_size_5 hl (by decide) rfl (fun ls hl => ?_)
    refine lv_aloadN hx hb dX11_size_7 (lv_at hl 0 rfl) ?_
    refine lv_instN hx hb dX11_size_9 ?_
    refine lv_if_eq (tgt := 30) hx hb dX11_size_12 (by decide) (fun c_26 => ?_) (fun c_26 => absurd (by decide) c_26)
    refine lv_iconst (v := (-1)) hx hb dX11_size_30 (by decide) ?_
    exact W.iret (v := (-1)) hx hb hr (fun t ht hW => ⟨⟨(-1), (k, z, f), rfl, ⟨rfl, rfl, rfl, hI, by rw [size_n (mK_no hno_25)], by rw [size_n (mK_no hno_25)]; exact hrp⟩, by rw [ht]; exact hP, hD⟩, hS.F ht⟩) hS.2.2 dX11_size_31
  ·
    subst hr9
    obtain ⟨rs_6, n_7, g_8, fg_9, hit_10, hs_11, hpa_12, hps_13, h1_14, h6_15, hcb_16, hpl_17, hlg_18, hnn_19, hfa_20, hfs_21, hfe_22, hrs_23, hkt_24⟩ := it_all hI hrp.2.2.1 hi_4
    refine W.eq (g2 := F0 m 5 ls [.ref (d (2000 + i_3))]) rfl ?_
    refine lv_astore (lv' := [(5, .ref (d (2000 + i_3))), (0, .ref h0), (1, .int p0), (2, .int p1), (3, .int p2)]) hx hb dX11_size_5 hl (by decide) rfl (fun ls hl => ?_)
    refine lv_aload hx hb dX11_size_7 (lv_at hl 0 rfl) ?_
    rcases Classical.em (tg z (d (2000 + i_3)) 14) with ht9 | ht9
    ·
      have ht_27 := ht9
      have hkd_29 : u.2 4 i_3 = 2 := (kT_k (kd_05 hrp.2.2.1 hi_4).1 (kd_05 hrp.2.2.1 hi_4).2).2.2.1 (hkt_24.symm.trans ht_27.2)
      obtain ⟨hx_30, hx_31, hx_32, ⟨hx_33, hx_34, hx_35⟩, hx_36, hx_37, hx_38⟩ := hrs_23.2.2.1 hkd_29
      have hs_39 : f (d (2000 + i_3)) = .inr (6, [.int (nI i_3), .int (u.2 4 i_3), .ref (d (3000 + i_3)), .int (u.2 22 i_3), .ref (d (4000 + i_3)), .ref (d (5000 + i_3)), .ref (d (6000 + i_3)), .int (u.2 17 i_3)]) := by rw [hs_11, ht_27.2, hx_30]; rfl
      obtain ⟨kk_50, hk_51⟩ := pl_at ht_27.1 hs_39
      refine va_instS hx hb hown (hts (.classLink RX11 88 "PageOne$Picture") (by decide +kernel)) (hK.1 6 (RX7, TX7, 8) rfl).2 (va_recv hK hP (ci := 6) (q0 := kk_50) rfl hk_51) dX11_size_9 ?_
      refine lv_if_eq (tgt := 30) hx hb dX11_size_12 (by decide) (fun c_52 => absurd c_52 (by decide)) (fun c_52 => ?_)
      refine lv_aload hx hb dX11_size_15 (lv_at hl 0 rfl) ?_
      obtain ⟨kk_53, hk_54⟩ := pl_at ht_27.1 hs_39
      refine va_castS hx hb hown (hts (.classLink RX11 88 "PageOne$Picture") (by decide +kernel)) (hK.1 6 (RX7, TX7, 8) rfl).2 (va_recv hK hP (ci := 6) (q0 := kk_53) rfl hk_54) dX11_size_17 ?_
      refine lv_astore (lv' := [(4, .ref (d (2000 + i_3))), (5, .ref (d (2000 + i_3))), (0, .ref h0), (1, .int p0), (2, .int p1), (3, .int p2)]) hx hb dX11_size_20 hl (by decide) rfl (fun ls hl => ?_)
      refine lv_iload_n hx hb dX11_size_22 rfl (lv_at hl 4 rfl) ?_
      refine lv_iload_n hx hb dX11_size_23 rfl (lv_at hl 5 rfl) ?_
      refine vp_callSi (va_runS (As := [.int p1, .int p2]) (rest := []) ⟨hx, hb, hml, hown, hts⟩ (x_isSquare l dC dI p1 p2) (va_cwS 2 hts gX11_size_X11_isSquare rfl rfl rfl (by decide +kernel) ⟨Nat.le_of_ble_eq_true rfl, Nat.le_of_ble_eq_true rfl⟩) ⟨pw_fb, fun U hU hW => ⟨rfl, pw_to hU hW (hP.sub (ws' := []) [] rfl) (hK.sub (tys' := []) [] rfl) hN⟩⟩ rfl rfl hl.1 rfl (lv_room (Nat.le_of_ble_eq_true rfl)) dX11_size_24 ⟨Nat.le_of_ble_eq_true rfl, Nat.le_of_ble_eq_true rfl⟩).run (fun r hw => ?_)
      rcases Bool.eq_false_or_eq_true ((bw p1 1 8 && bw p2 1 60)) with b_55 | b_55
      ·
        obtain rfl : r = 1 := b_t hw b_55
        refine lv_if_ne (tgt := 32) hx hb dX11_size_27 (by decide) (fun c_56 => ?_) (fun c_56 => absurd c_56 (by decide))
        refine lv_aload hx hb dX11_size_32 (lv_at hl 0 rfl) ?_
        refine lv_iload_n hx hb dX11_size_34 rfl (lv_at hl 4 rfl) ?_
        refine lv_iload_n hx hb dX11_size_35 rfl (lv_at hl 5 rfl) ?_
        obtain ⟨kk_57, hk_58⟩ := pl_at ht_27.1 hs_39
        have hFc := fr_all hD hS hA
        refine va_calli (va_runV (As := [.int p1, .int p2]) (rest := []) ⟨hx, hb, hml, hown, hts⟩ (y_takeSize l dC dI q h0 d k z f hI (d (2000 + i_3)) (d (3000 + i_3)) (d (4000 + i_3)) (d (5000 + i_3)) (d (6000 + i_3)) (nI i_3) (u.2 4 i_3) (u.2 22 i_3) (u.2 17 i_3) ht_27 hs_39 p1 p2 hx_33 hx_36 hx_31.1 hx_34 hx_32.1 hx_37 hpa_12 hfa_20 (hu.2.2.2.2.2.1 i_3 (bw_it hu.1 hi_4).2) (nO_ne hx_31 hx_32 (by omega)) s.heap.size) (cwV 2 hts gX11_size_X7_takeSize rfl rfl rfl (by decide +kernel) ⟨Nat.le_of_ble_eq_true rfl, Nat.le_of_ble_eq_true rfl⟩) ⟨gx_fb, va_recv hK hP (ci := 6) (q0 := kk_57) rfl hk_58, fun U hU hW => ⟨rfl, by rw [hU], px_to hU hW hP hK hN hXN, hD.weaken (fun _ _ _ _ => trivial)⟩⟩ rfl rfl hl.1 rfl (lv_room (Nat.le_of_ble_eq_true rfl)) dX11_size_36 ⟨Nat.le_of_ble_eq_true rfl, Nat.le_of_ble_eq_true rfl⟩) hS (fun q _ h => hFc q h) hFc (fun r w_59 t H1 locs ht hvm hw hB hz1 hk1 hS => ?_)
        obtain ⟨hP, hD1⟩ := hB
        rw [ht] at hP
        rw [hw.2.1] at hP hD1
        have hD := hD1.weaken (fun _ q _ h => hFc q.1 h)
        have hI := hw.2.2.1
        have hw0 := hw
        generalize w_59.2.2 = f_60 at hP hD hI hw0
        generalize H1 = H at hP hS ⊢
        generalize r = zr_61 at hw hw0 ⊢
        exact W.iret (v := zr_61) hx hb hr (fun t ht hW => ⟨⟨zr_61, (k, z, f_60), rfl, ⟨(takeSize_d3 (nO_ne (d3_o hrp) hx_31 (by omega)) (nO_ne (d3_o hrp) hx_32 (by omega)) (nO_ne (d3_o hrp) (hrp.2.2.1.2 _ hi_4).1 (by omega)) hw0.2.2.2.2), rfl, rfl, hI, by rw [ep_5]; exact size_y hrp hu hi_4 hkd_29 (Bool.and_eq_true _ _ ▸ b_55).1 (Bool.and_eq_true _ _ ▸ b_55).2 hx_34 hx_37 hw0.2.2.2.1 hw0.2.2.2.2⟩, by rw [ht]; exact hP, hD⟩, hS.F ht⟩) hS.2.2 dX11_size_39
      ·
        obtain rfl : r = 0 := b_f hw b_55
        refine lv_if_ne (tgt := 32) hx hb dX11_size_27 (by decide) (fun c_62 => absurd (by decide) c_62) (fun c_62 => ?_)
        refine lv_iconst (v := (-1)) hx hb dX11_size_30 (by decide) ?_
        exact W.iret (v := (-1)) hx hb hr (fun t ht hW => ⟨⟨(-1), (k, z, f), rfl, ⟨rfl, rfl, rfl, hI, by rw [(size_x (fun e9 => absurd (by rw [Bool.and_eq_true]; exact e9) (bne b_55)))], by rw [(size_x (fun e9 => absurd (by rw [Bool.and_eq_true]; exact e9) (bne b_55)))]; exact hrp⟩, by rw [ht]; exact hP, hD⟩, hS.F ht⟩) hS.2.2 dX11_size_31
    ·
      have hn_28 := ht9
      have hkd_29 : ¬ u.2 4 i_3 = 2 := fun e9 => ht9 ⟨hit_10.1, by rw [hkt_24, e9]; rfl⟩
      refine w_then (F0 m 12 ls [.int 0]) (fun hgo => ?_) ?_
      ·
        rcases x_tag hit_10 with ht8 | ht8 | ht8 | ht8 | ht8 | ht8
        ·
          obtain ⟨nu_63, kd_64, cn_65, pa_66, fa_67, l_68, m_69, hs_70, hs_71, hs_72, hs_73⟩ := x_ifl hI ht8
          obtain ⟨kk_74, hk_75⟩ := pl_at ht8.1 hs_70
          exact va_instNo hx hb hown (hts (.classLink RX11 88 "PageOne$Picture") (by decide +kernel)) hXN.n_X2_X7 (va_recv hK hP (ci := 2) (q0 := kk_74) rfl hk_75) dX11_size_9 hgo
        ·
          obtain ⟨nu_76, kd_77, cn_78, pa_79, fa_80, o_81, w_82, y_83, hs_84, hs_85, hs_86, hs_87, hq_88⟩ := x_ihd hI ht8
          obtain ⟨kk_89, hk_90⟩ := pl_at ht8.1 hs_84
          exact va_instNo hx hb hown (hts (.classLink RX11 88 "PageOne$Picture") (by decide +kernel)) hXN.n_X3_X7 (va_recv hK hP (ci := 3) (q0 := kk_89) rfl hk_90) dX11_size_9 hgo
        ·
          obtain ⟨nu_91, kd_92, cn_93, pa_94, fa_95, o_96, y_97, hs_98, hs_99, hs_100, hs_101, hq_102⟩ := x_ino hI ht8
          obtain ⟨kk_103, hk_104⟩ := pl_at ht8.1 hs_98
          exact va_instNo hx hb hown (hts (.classLink RX11 88 "PageOne$Picture") (by decide +kernel)) hXN.n_X5_X7 (va_recv hK hP (ci := 4) (q0 := kk_103) rfl hk_104) dX11_size_9 hgo
        ·
          obtain ⟨nu_105, kd_106, cn_107, pa_108, fa_109, b_110, pr_111, sp_112, dy_113, hs_114, hs_115, hs_116, hs_117, hq_118, hq_119, hq_120⟩ := x_ipd hI ht8
          obtain ⟨kk_121, hk_122⟩ := pl_at ht8.1 hs_114
          exact va_instNo hx hb hown (hts (.classLink RX11 88 "PageOne$Picture") (by decide +kernel)) hXN.n_X6_X7 (va_recv hK hP (ci := 5) (q0 := kk_121) rfl hk_122) dX11_size_9 hgo
        ·
          exact absurd ht8 ht9
        ·
          obtain ⟨nu_123, kd_124, cn_125, pa_126, fa_127, l_128, co_129, wd_130, nm_131, hs_132, hs_133, hs_134, hs_135, hq_136, hq_137, hq_138⟩ := x_ist hI ht8
          obtain ⟨kk_139, hk_140⟩ := pl_at ht8.1 hs_132
          exact va_instNo hx hb hown (hts (.classLink RX11 88 "PageOne$Picture") (by decide +kernel)) hXN.n_X10_X7 (va_recv hK hP (ci := 9) (q0 := kk_139) rfl hk_140) dX11_size_9 hgo
      ·
        refine lv_if_eq (tgt := 30) hx hb dX11_size_12 (by decide) (fun c_141 => ?_) (fun c_141 => absurd (by decide) c_141)
        refine lv_iconst (v := (-1)) hx hb dX11_size_30 (by decide) ?_
        exact W.iret (v := (-1)) hx hb hr (fun t ht hW => ⟨⟨(-1), (k, z, f), rfl, ⟨rfl, rfl, rfl, hI, by rw [(size_n (by rw [ep_5, mK_it hu.1 hi_4]; exact decide_eq_false hkd_29))], by rw [(size_n (by rw [ep_5, mK_it hu.1 hi_4]; exact decide_eq_false hkd_29))]; exact hrp⟩, by rw [ht]; exact hP, hD⟩, hS.F ht⟩) hS.2.2 dX11_size_31
set_option maxHeartbeats 4000000 in
set_option maxRecDepth 100000 in
theorem v_names (l : Launch) (dC : Nat → ClassId) (dI : Nat → Nat → Nat) (q : Nat → ClassId) (h0 : Nat) (d : Nat → Nat) (k : Nat → Int32) (z : gS) (f : xF) (hI : xI q h0 d k z f) (p0 p1 : Int32) (u : mS) (hrp : rep q d u z f) (hk0 : k 0 = u.1 3) (hk1 : k 1 = u.1 28) (hk2 : k 2 = u.1 38) (hk3 : k 3 = u.1 39) (hu : rI u) (sz : Nat) : Met l yX11_names wsX11_names ({ frames := 2, cells := 0, slots := 0, locals := 43 }) (va_Pc [.ref h0, .int p0, .int p1] (fun U => U.heap.size = sz ∧ PX dC dI (va_pl z.1 f) (xT q) U ∧ va_D (fun _ => True) (va_pl z.1 f))) (va_Qi (fun (r : Int32) (w : xU) => w.2.2 (d 3) = f (d 3) ∧ w.1 = k ∧ w.2.1 = z ∧ xI q h0 d k z w.2.2 ∧ r = (mNames u p0 p1).1 ∧ rep q d (mNames u p0 p1).2 z w.2.2) (fun (w : xU) t => va_P (dC, dI) vwCl (va_pl w.2.1.1 w.2.2) t.heap ∧ va_D (va_A (va_pl z.1 f) sz) (va_pl w.2.1.1 w.2.2)) (va_A (va_pl z.1 f) sz)) 0 0 (va_A (va_pl z.1 f) sz) := by
  refine Met.ofW (cc := cX11_names) (maxL := 5) (ret := (some .boolean)) (by decide) rfl ?_
  intro p e s m args below meth c s₁ B hml hv
  obtain ⟨rfl, hsz, ⟨⟨hP, hK, hN⟩, hXN⟩, hD0⟩ := hv
  have hx := B.exec
  have hb := B.bytes
  have hr := B.returns
  have hts := atoms_spec (ws := wsX11_names) B.pre
  have hown : s.vm.findClass RX11 = some m.cls := findClass_of_methodNamed B.named
  have hlocks := B.notSynchronized
  subst hsz
  have hD := hD0.self (sz := s.heap.size)
  generalize hAe : va_A (va_pl z.1 f) s.heap.size = A at hD ⊢
  have hA : ∀ q : Nat, s.heap.size ≤ q → A q := fun q h => by rw [← hAe]; exact Or.inr h
  have hS : va_S A s.heap s.heap [] := va_S.rf
  have hl := lv_entry ([.ref h0, .int p0, .int p1]) (n := 5) (Nat.le_of_ble_eq_true rfl)
  rw [lg_entry_eq]
  generalize (lg_sl ([.ref h0, .int p0, .int p1]) ++ List.replicate (5 - (lg_sl ([.ref h0, .int p0, .int p1])).length) Slot.unset).toArray = ls at hl ⊢
  have hl : lv_has ls 5 [(0, .ref h0), (1, .int p0), (2, .int p1)] := hl
  refine lv_aload_n hx hb dX11_names_0 rfl (lv_at hl 0 rfl) ?_
  refine lv_iload_n hx hb dX11_names_1 rfl (lv_at hl 1 rfl) ?_
  obtain ⟨kk_1, hk_2⟩ := pl_at hI.2.1.1.1 hI.2.2.2.1.1
  refine va_csq (va_runV (As := [.int p0]) (rest := []) ⟨hx, hb, hml, hown, hts⟩ (y_itemOf l dC dI q h0 d k z f hI p0 u hrp hk0 hk1 hk2 hk3) (cwV 1 hts gX11_names_X11_itemOf rfl rfl rfl (by decide +kernel) ⟨Nat.le_of_ble_eq_true rfl, Nat.le_of_ble_eq_true rfl⟩) ⟨px_fb, va_recv hK hP (ci := 10) (q0 := kk_1) rfl hk_2, fun U hU hW => ⟨rfl, px_to hU hW hP hK hN hXN⟩⟩ rfl rfl hl.1 rfl (lv_room (Nat.le_of_ble_eq_true rfl)) dX11_names_2 ⟨Nat.le_of_ble_eq_true rfl, Nat.le_of_ble_eq_true rfl⟩).run (fun r hw => ?_)
  rcases hw with ⟨hr9, hn9⟩ | ⟨i_3, hi_4, ep_5, hr9⟩
  ·
    subst hr9
    have hno_25 := hn9
    refine W.eq (g2 := F0 m 5 ls [.null]) rfl ?_
    refine lv_astoreN (lv' := [(4, .null), (0, .ref h0), (1, .int p0), (2, .int p1)]) hx hb dX11_names_5 hl (by decide) rfl (fun ls hl => ?_)
    refine lv_aloadN hx hb dX11_names_7 (lv_at hl 0 rfl) ?_
    refine lv_instN hx hb dX11_names_9 ?_
    refine lv_if_eq (tgt := 37) hx hb dX11_names_12 (by decide) (fun c_26 => ?_) (fun c_26 => absurd (by decide) c_26)
    refine lv_iconst (v := 0) hx hb dX11_names_37 (by decide) ?_
    exact W.zret (v := 0) hx hb hr (by decide) (fun t ht hW => ⟨⟨0, (k, z, f), rfl, ⟨rfl, rfl, rfl, hI, by rw [names_n (mK_no hno_25)], by rw [names_n (mK_no hno_25)]; exact hrp⟩, by rw [ht]; exact hP, hD⟩, hS.F ht⟩) hS.2.2 dX11_names_38
  ·
    subst hr9
    obtain ⟨rs_6, n_7, g_8, fg_9, hit_10, hs_11, hpa_12, hps_13, h1_14, h6_15, hcb_16, hpl_17, hlg_18, hnn_19, hfa_20, hfs_21, hfe_22, hrs_23, hkt_24⟩ := it_all hI hrp.2.2.1 hi_4
    refine W.eq (g2 := F0 m 5 ls [.ref (d (2000 + i_3))]) rfl ?_
    refine lv_astore (lv' := [(4, .ref (d (2000 + i_3))), (0, .ref h0), (1, .int p0), (2, .int p1)]) hx hb dX11_names_5 hl (by decide) rfl (fun ls hl => ?_)
    refine lv_aload hx hb dX11_names_7 (lv_at hl 0 rfl) ?_
    rcases Classical.em (tg z (d (2000 + i_3)) 15) with ht9 | ht9
    ·
      have ht_27 := ht9
      have hkd_29 : u.2 4 i_3 = 0 := (kT_k (kd_05 hrp.2.2.1 hi_4).1 (kd_05 hrp.2.2.1 hi_4).2).1 (hkt_24.symm.trans ht_27.2)
      obtain ⟨hx_30, hx_31, hx_32, ⟨hx_33, hx_34, hx_35⟩, hx_36, hx_37, hx_38⟩ := hrs_23.1 hkd_29
      have hs_39 : f (d (2000 + i_3)) = .inr (9, [.int (nI i_3), .int (u.2 4 i_3), .ref (d (3000 + i_3)), .int (u.2 22 i_3), .ref (d (4000 + i_3)), .int (u.2 5 i_3), .ref (d (5000 + i_3)), .int (u.2 15 i_3), .ref (d (6000 + i_3))]) := by rw [hs_11, ht_27.2, hx_30]; rfl
      obtain ⟨kk_50, hk_51⟩ := pl_at ht_27.1 hs_39
      refine va_instS hx hb hown (hts (.classLink RX11 66 "PageOne$Story") (by decide +kernel)) (hK.1 9 (RX10, TX10, 9) rfl).2 (va_recv hK hP (ci := 9) (q0 := kk_50) rfl hk_51) dX11_names_9 ?_
      refine lv_if_eq (tgt := 37) hx hb dX11_names_12 (by decide) (fun c_52 => absurd c_52 (by decide)) (fun c_52 => ?_)
      refine lv_aload hx hb dX11_names_15 (lv_at hl 0 rfl) ?_
      obtain ⟨kk_53, hk_54⟩ := pl_at ht_27.1 hs_39
      refine va_castS hx hb hown (hts (.classLink RX11 66 "PageOne$Story") (by decide +kernel)) (hK.1 9 (RX10, TX10, 9) rfl).2 (va_recv hK hP (ci := 9) (q0 := kk_53) rfl hk_54) dX11_names_17 ?_
      refine lv_astore_n (lv' := [(3, .ref (d (2000 + i_3))), (4, .ref (d (2000 + i_3))), (0, .ref h0), (1, .int p0), (2, .int p1)]) hx hb dX11_names_20 rfl hl (by decide) rfl (fun ls hl => ?_)
      refine lv_iload_n hx hb dX11_names_21 rfl (lv_at hl 4 rfl) ?_
      refine vp_callSi (va_runS (As := [.int p1]) (rest := []) ⟨hx, hb, hml, hown, hts⟩ (x_isBuyer l dC dI p1) (va_cwS 1 hts gX11_names_X11_isBuyer rfl rfl rfl (by decide +kernel) ⟨Nat.le_of_ble_eq_true rfl, Nat.le_of_ble_eq_true rfl⟩) ⟨pw_fb, fun U hU hW => ⟨rfl, pw_to hU hW (hP.sub (ws' := []) [] rfl) (hK.sub (tys' := []) [] rfl) hN⟩⟩ rfl rfl hl.1 rfl (lv_room (Nat.le_of_ble_eq_true rfl)) dX11_names_22 ⟨Nat.le_of_ble_eq_true rfl, Nat.le_of_ble_eq_true rfl⟩).run (fun r hw => ?_)
      rcases Bool.eq_false_or_eq_true (bw p1 0 9) with b_55 | b_55
      ·
        obtain rfl : r = 1 := b_t hw b_55
        refine lv_if_eq (tgt := 37) hx hb dX11_names_25 (by decide) (fun c_56 => absurd c_56 (by decide)) (fun c_56 => ?_)
        refine lv_aload_n hx hb dX11_names_28 rfl (lv_at hl 0 rfl) ?_
        obtain ⟨kk_57, hk_58⟩ := pl_at ht_27.1 hs_39
        refine va_get (D := (dC, dI)) (ci := 9) (v := .ref (d (6000 + i_3))) (C := RX10) (T := TX10) (N := 9) hx hb hts (by decide +kernel) hown hK hP kk_57 hk_58 rfl 8 (by decide) (hts (.fieldLink RX11 135 "PageOne$Story" "named" "[Z") (by decide +kernel)) (fun _ h9 => h9) rfl dX11_names_29 ?_
        refine lv_iload_n hx hb dX11_names_32 rfl (lv_at hl 4 rfl) ?_
        obtain ⟨kk_59, hk_60⟩ := pl_at hx_32.1.1 hx_37
        refine va_zald hx hb hK hP kk_59 1 hk_60 rfl (vin b_55 (by decide)) dX11_names_33 ?_
        refine lv_if_eq (tgt := 39) hx hb dX11_names_34 (by decide) (fun c_61 => ?_) (fun c_61 => ?_)
        ·
          refine lv_aload_n hx hb dX11_names_39 rfl (lv_at hl 0 rfl) ?_
          obtain ⟨kk_62, hk_63⟩ := pl_at ht_27.1 hs_39
          refine va_get (D := (dC, dI)) (ci := 9) (v := .ref (d (6000 + i_3))) (C := RX10) (T := TX10) (N := 9) hx hb hts (by decide +kernel) hown hK hP kk_62 hk_63 rfl 8 (by decide) (hts (.fieldLink RX11 135 "PageOne$Story" "named" "[Z") (by decide +kernel)) (fun _ h9 => h9) rfl dX11_names_40 ?_
          refine lv_iload_n hx hb dX11_names_43 rfl (lv_at hl 4 rfl) ?_
          refine lv_iconst (v := 1) hx hb dX11_names_44 (by decide) ?_
          obtain ⟨kk_64, hk_65⟩ := pl_at hx_32.1.1 hx_37
          have hD0 := hD
          refine va_zast hx hb hK hP hD hS kk_64 1 hk_65 rfl (vin b_55 (by decide)) dX11_names_45 (fun H locs hP hD hS => ?_)
          rw [pl_set hD0 hx_32.1.1 hx_37 hk_65] at hP hD
          obtain ⟨f_66, ef_66⟩ : ∃ y : xF, y = va_up f (d (6000 + i_3)) (aI (q 1) 10 (upd hx_36 (p1 : Int32).toNatClampNeg (vp_nar .boolean 1))) := ⟨_, rfl⟩
          have hI : xI q h0 d k z f_66 := by rw [ef_66]; exact x_up hI hx_32.1 (by decide) (cO_19 hx_32.1.2 ⟨_, rfl⟩)
          have hP : va_P (dC, dI) vwCl (va_pl z.1 f_66) H := by rw [ef_66]; exact hP
          have hD : va_D A (va_pl z.1 f_66) := by rw [ef_66]; exact hD
          refine lv_iconst (v := 1) hx hb dX11_names_46 (by decide) ?_
          exact W.zret (v := 1) hx hb hr (by decide) (fun t ht hW => ⟨⟨1, (k, z, f_66), rfl, ⟨(by show f_66 (d 3) = f (d 3); rw [ef_66]; exact up_o (nO_ne (d3_o hrp) hx_32 (by omega))), rfl, rfl, hI, by rw [ep_5]; show _ ∧ rep q d _ z f_66; rw [ef_66]; exact (names_y hrp hu hi_4 hkd_29 b_55 hx_37 hx_38).1 c_61⟩, by rw [ht]; exact hP, hD⟩, hS.F ht⟩) hS.2.2 dX11_names_47
        ·
          refine lv_iconst (v := 0) hx hb dX11_names_37 (by decide) ?_
          exact W.zret (v := 0) hx hb hr (by decide) (fun t ht hW => ⟨⟨0, (k, z, f), rfl, ⟨rfl, rfl, rfl, hI, by rw [ep_5]; exact (names_y hrp hu hi_4 hkd_29 b_55 hx_37 hx_38).2 c_61⟩, by rw [ht]; exact hP, hD⟩, hS.F ht⟩) hS.2.2 dX11_names_38
      ·
        obtain rfl : r = 0 := b_f hw b_55
        refine lv_if_eq (tgt := 37) hx hb dX11_names_25 (by decide) (fun c_67 => ?_) (fun c_67 => absurd (by decide) c_67)
        refine lv_iconst (v := 0) hx hb dX11_names_37 (by decide) ?_
        exact W.zret (v := 0) hx hb hr (by decide) (fun t ht hW => ⟨⟨0, (k, z, f), rfl, ⟨rfl, rfl, rfl, hI, by rw [(names_x (bne b_55))], by rw [(names_x (bne b_55))]; exact hrp⟩, by rw [ht]; exact hP, hD⟩, hS.F ht⟩) hS.2.2 dX11_names_38
    ·
      have hn_28 := ht9
      have hkd_29 : ¬ u.2 4 i_3 = 0 := fun e9 => ht9 ⟨hit_10.1, by rw [hkt_24, e9]; rfl⟩
      refine w_then (F0 m 12 ls [.int 0]) (fun hgo => ?_) ?_
      ·
        rcases x_tag hit_10 with ht8 | ht8 | ht8 | ht8 | ht8 | ht8
        ·
          obtain ⟨nu_68, kd_69, cn_70, pa_71, fa_72, l_73, m_74, hs_75, hs_76, hs_77, hs_78⟩ := x_ifl hI ht8
          obtain ⟨kk_79, hk_80⟩ := pl_at ht8.1 hs_75
          exact va_instNo hx hb hown (hts (.classLink RX11 66 "PageOne$Story") (by decide +kernel)) hXN.n_X2_X10 (va_recv hK hP (ci := 2) (q0 := kk_79) rfl hk_80) dX11_names_9 hgo
        ·
          obtain ⟨nu_81, kd_82, cn_83, pa_84, fa_85, o_86, w_87, y_88, hs_89, hs_90, hs_91, hs_92, hq_93⟩ := x_ihd hI ht8
          obtain ⟨kk_94, hk_95⟩ := pl_at ht8.1 hs_89
          exact va_instNo hx hb hown (hts (.classLink RX11 66 "PageOne$Story") (by decide +kernel)) hXN.n_X3_X10 (va_recv hK hP (ci := 3) (q0 := kk_94) rfl hk_95) dX11_names_9 hgo
        ·
          obtain ⟨nu_96, kd_97, cn_98, pa_99, fa_100, o_101, y_102, hs_103, hs_104, hs_105, hs_106, hq_107⟩ := x_ino hI ht8
          obtain ⟨kk_108, hk_109⟩ := pl_at ht8.1 hs_103
          exact va_instNo hx hb hown (hts (.classLink RX11 66 "PageOne$Story") (by decide +kernel)) hXN.n_X5_X10 (va_recv hK hP (ci := 4) (q0 := kk_108) rfl hk_109) dX11_names_9 hgo
        ·
          obtain ⟨nu_110, kd_111, cn_112, pa_113, fa_114, b_115, pr_116, sp_117, dy_118, hs_119, hs_120, hs_121, hs_122, hq_123, hq_124, hq_125⟩ := x_ipd hI ht8
          obtain ⟨kk_126, hk_127⟩ := pl_at ht8.1 hs_119
          exact va_instNo hx hb hown (hts (.classLink RX11 66 "PageOne$Story") (by decide +kernel)) hXN.n_X6_X10 (va_recv hK hP (ci := 5) (q0 := kk_126) rfl hk_127) dX11_names_9 hgo
        ·
          obtain ⟨nu_128, kd_129, cn_130, pa_131, fa_132, ww_133, hh_134, sz_135, hs_136, hs_137, hs_138, hs_139, hq_140, hq_141, hq_142⟩ := x_ipi hI ht8
          obtain ⟨kk_143, hk_144⟩ := pl_at ht8.1 hs_136
          exact va_instNo hx hb hown (hts (.classLink RX11 66 "PageOne$Story") (by decide +kernel)) hXN.n_X7_X10 (va_recv hK hP (ci := 6) (q0 := kk_143) rfl hk_144) dX11_names_9 hgo
        ·
          exact absurd ht8 ht9
      ·
        refine lv_if_eq (tgt := 37) hx hb dX11_names_12 (by decide) (fun c_145 => ?_) (fun c_145 => absurd (by decide) c_145)
        refine lv_iconst (v := 0) hx hb dX11_names_37 (by decide) ?_
        exact W.zret (v := 0) hx hb hr (by decide) (fun t ht hW => ⟨⟨0, (k, z, f), rfl, ⟨rfl, rfl, rfl, hI, by rw [(names_n (by rw [ep_5, mK_it hu.1 hi_4]; exact decide_eq_false hkd_29))], by rw [(names_n (by rw [ep_5, mK_it hu.1 hi_4]; exact decide_eq_false hkd_29))]; exact hrp⟩, by rw [ht]; exact hP, hD⟩, hS.F ht⟩) hS.2.2 dX11_names_38
set_option maxHeartbeats 4000000 in
set_option maxRecDepth 100000 in
theorem v_rival (l : Launch) (dC : Nat → ClassId) (dI : Nat → Nat → Nat) (q : Nat → ClassId) (h0 : Nat) (d : Nat → Nat) (k : Nat → Int32) (z : gS) (f : xF) (hI : xI q h0 d k z f) (p0 p1 : Int32) (u : mS) (hrp : rep q d u z f) (hk0 : k 0 = u.1 3) (hk1 : k 1 = u.1 28) (hk2 : k 2 = u.1 38) (hk3 : k 3 = u.1 39) (hu : rI u) (g : Nat → Int32) (hg6 : f (d 4) = aI (q 1) 100 g) (hz6 : ∀ j, g j = 0 ∨ g j = 1) (sz : Nat) : Met l yX11_rival wsX11_rival ({ frames := 2, cells := 0, slots := 0, locals := 42 }) (va_Pc [.ref h0, .int p0, .int p1] (fun U => U.heap.size = sz ∧ PX dC dI (va_pl z.1 f) (xT q) U ∧ va_D (fun _ => True) (va_pl z.1 f))) (va_Qi (fun (r : Int32) (w : xU) => w.2.2 (d 3) = f (d 3) ∧ w.1 = k ∧ w.2.1 = z ∧ xI q h0 d k z w.2.2 ∧ r = (mRival u p0 p1).1 ∧ rep q d (mRival u p0 p1).2 z w.2.2) (fun (w : xU) t => va_P (dC, dI) vwCl (va_pl w.2.1.1 w.2.2) t.heap ∧ va_D (va_A (va_pl z.1 f) sz) (va_pl w.2.1.1 w.2.2)) (va_A (va_pl z.1 f) sz)) 0 0 (va_A (va_pl z.1 f) sz) := by
  refine Met.ofW (cc := cX11_rival) (maxL := 3) (ret := (some .boolean)) (by decide) rfl ?_
  intro p e s m args below meth c s₁ B hml hv
  obtain ⟨rfl, hsz, ⟨⟨hP, hK, hN⟩, hXN⟩, hD0⟩ := hv
  have hx := B.exec
  have hb := B.bytes
  have hr := B.returns
  have hts := atoms_spec (ws := wsX11_rival) B.pre
  have hown : s.vm.findClass RX11 = some m.cls := findClass_of_methodNamed B.named
  have hlocks := B.notSynchronized
  subst hsz
  have hD := hD0.self (sz := s.heap.size)
  generalize hAe : va_A (va_pl z.1 f) s.heap.size = A at hD ⊢
  have hA : ∀ q : Nat, s.heap.size ≤ q → A q := fun q h => by rw [← hAe]; exact Or.inr h
  have hS : va_S A s.heap s.heap [] := va_S.rf
  have hl := lv_entry ([.ref h0, .int p0, .int p1]) (n := 3) (Nat.le_of_ble_eq_true rfl)
  rw [lg_entry_eq]
  generalize (lg_sl ([.ref h0, .int p0, .int p1]) ++ List.replicate (3 - (lg_sl ([.ref h0, .int p0, .int p1])).length) Slot.unset).toArray = ls at hl ⊢
  have hl : lv_has ls 3 [(0, .ref h0), (1, .int p0), (2, .int p1)] := hl
  refine lv_iload_n hx hb dX11_rival_0 rfl (lv_at hl 1 rfl) ?_
  refine vp_callSi (va_runS (As := [.int p0]) (rest := []) ⟨hx, hb, hml, hown, hts⟩ (x_isBuyer l dC dI p0) (va_cwS 1 hts gX11_rival_X11_isBuyer rfl rfl rfl (by decide +kernel) ⟨Nat.le_of_ble_eq_true rfl, Nat.le_of_ble_eq_true rfl⟩) ⟨pw_fb, fun U hU hW => ⟨rfl, pw_to hU hW (hP.sub (ws' := []) [] rfl) (hK.sub (tys' := []) [] rfl) hN⟩⟩ rfl rfl hl.1 rfl (lv_room (Nat.le_of_ble_eq_true rfl)) dX11_rival_1 ⟨Nat.le_of_ble_eq_true rfl, Nat.le_of_ble_eq_true rfl⟩).run (fun r hw => ?_)
  rcases Bool.eq_false_or_eq_true (bw p0 0 9) with b_1 | b_1
  ·
    obtain rfl : r = 1 := b_t hw b_1
    refine lv_if_eq (tgt := 28) hx hb dX11_rival_4 (by decide) (fun c_2 => absurd c_2 (by decide)) (fun c_2 => ?_)
    refine lv_iload_n hx hb dX11_rival_7 rfl (lv_at hl 2 rfl) ?_
    refine vp_callSi (va_runS (As := [.int p1]) (rest := []) ⟨hx, hb, hml, hown, hts⟩ (x_isBuyer l dC dI p1) (va_cwS 1 hts gX11_rival_X11_isBuyer rfl rfl rfl (by decide +kernel) ⟨Nat.le_of_ble_eq_true rfl, Nat.le_of_ble_eq_true rfl⟩) ⟨pw_fb, fun U hU hW => ⟨rfl, pw_to hU hW (hP.sub (ws' := []) [] rfl) (hK.sub (tys' := []) [] rfl) hN⟩⟩ rfl rfl hl.1 rfl (lv_room (Nat.le_of_ble_eq_true rfl)) dX11_rival_8 ⟨Nat.le_of_ble_eq_true rfl, Nat.le_of_ble_eq_true rfl⟩).run (fun r hw => ?_)
    rcases Bool.eq_false_or_eq_true (bw p1 0 9) with b_3 | b_3
    ·
      obtain rfl : r = 1 := b_t hw b_3
      refine lv_if_eq (tgt := 28) hx hb dX11_rival_11 (by decide) (fun c_4 => absurd c_4 (by decide)) (fun c_4 => ?_)
      refine lv_iload_n hx hb dX11_rival_14 rfl (lv_at hl 1 rfl) ?_
      refine lv_iload_n hx hb dX11_rival_15 rfl (lv_at hl 2 rfl) ?_
      refine lv_icmp_eq (tgt := 28) hx hb dX11_rival_16 (by decide) (fun c_5 => ?_) (fun c_5 => ?_)
      ·
        refine lv_iconst (v := 0) hx hb dX11_rival_28 (by decide) ?_
        exact W.zret (v := 0) hx hb hr (by decide) (fun t ht hW => ⟨⟨0, (k, z, f), rfl, ⟨rfl, rfl, rfl, hI, by rw [(rival_e c_5)], by rw [(rival_e c_5)]; exact hrp⟩, by rw [ht]; exact hP, hD⟩, hS.F ht⟩) hS.2.2 dX11_rival_29
      ·
        refine lv_aload_n hx hb dX11_rival_19 rfl (lv_at hl 0 rfl) ?_
        refine lv_iload_n hx hb dX11_rival_20 rfl (lv_at hl 1 rfl) ?_
        refine lv_iload_n hx hb dX11_rival_21 rfl (lv_at hl 2 rfl) ?_
        obtain ⟨kk_6, hk_7⟩ := pl_at hI.2.1.1.1 hI.2.2.2.1.1
        refine vp_callSi (va_runV (As := [.int p0, .int p1]) (rest := []) ⟨hx, hb, hml, hown, hts⟩ (y_areRivals l dC dI q h0 d k z f hI p0 p1 b_1 b_3 g hg6 hz6) (cwV 2 hts gX11_rival_X11_areRivals rfl rfl rfl (by decide +kernel) ⟨Nat.le_of_ble_eq_true rfl, Nat.le_of_ble_eq_true rfl⟩) ⟨px_fb, va_recv hK hP (ci := 10) (q0 := kk_6) rfl hk_7, fun U hU hW => ⟨rfl, px_to hU hW hP hK hN hXN⟩⟩ rfl rfl hl.1 rfl (lv_room (Nat.le_of_ble_eq_true rfl)) dX11_rival_22 ⟨Nat.le_of_ble_eq_true rfl, Nat.le_of_ble_eq_true rfl⟩).run (fun r hw => ?_)
        obtain rfl : r = g (p0 * 10 + p1 : Int32).toNatClampNeg := hw
        refine lv_if_eq (tgt := 30) hx hb dX11_rival_25 (by decide) (fun c_8 => ?_) (fun c_8 => ?_)
        ·
          refine lv_aload_n hx hb dX11_rival_30 rfl (lv_at hl 0 rfl) ?_
          obtain ⟨kk_9, hk_10⟩ := pl_at hI.2.1.1.1 hI.2.2.2.1.1
          refine va_get (D := (dC, dI)) (ci := 10) (v := .ref (d 4)) (C := RX11) (T := TX11) (N := 9) hx hb hts (by decide +kernel) hown hK hP kk_9 hk_10 rfl 6 (by decide) (hts (.fieldLink RX11 37 "PageOne" "rivals" "[Z") (by decide +kernel)) (fun _ h9 => h9) rfl dX11_rival_31 ?_
          refine lv_iload_n hx hb dX11_rival_34 rfl (lv_at hl 1 rfl) ?_
          refine lv_bipush (v := 10) hx hb dX11_rival_35 (by decide) ?_
          refine lv_imul hx hb dX11_rival_37 ?_
          refine lv_iload_n hx hb dX11_rival_38 rfl (lv_at hl 2 rfl) ?_
          refine lv_iadd hx hb dX11_rival_39 ?_
          refine lv_iconst (v := 1) hx hb dX11_rival_40 (by decide) ?_
          obtain ⟨kk_11, hk_12⟩ := pl_at hI.2.1.2.2.2.2.2.1 hg6
          have hD0 := hD
          refine va_zast hx hb hK hP hD hS kk_11 1 hk_12 rfl (vin2 b_1 b_3) dX11_rival_41 (fun H locs hP hD hS => ?_)
          rw [pl_set hD0 hI.2.1.2.2.2.2.2.1 hg6 hk_12] at hP hD
          obtain ⟨f_13, ef_13⟩ : ∃ y : xF, y = va_up f (d 4) (aI (q 1) 100 (upd g (((p0 * 10) + p1) : Int32).toNatClampNeg (vp_nar .boolean 1))) := ⟨_, rfl⟩
          have hI : xI q h0 d k z f_13 := by rw [ef_13]; exact x_up hI hI.2.1.2.2.2.2.2 (by decide) (cO_6 hI.2.1.2.2.2.2.2.2 ⟨_, rfl, z_up hz6⟩)
          have hP : va_P (dC, dI) vwCl (va_pl z.1 f_13) H := by rw [ef_13]; exact hP
          have hD : va_D A (va_pl z.1 f_13) := by rw [ef_13]; exact hD
          refine lv_aload_n hx hb dX11_rival_42 rfl (lv_at hl 0 rfl) ?_
          obtain ⟨kk_14, hk_15⟩ := pl_at hI.2.1.1.1 hI.2.2.2.1.1
          refine va_get (D := (dC, dI)) (ci := 10) (v := .ref (d 4)) (C := RX11) (T := TX11) (N := 9) hx hb hts (by decide +kernel) hown hK hP kk_14 hk_15 rfl 6 (by decide) (hts (.fieldLink RX11 37 "PageOne" "rivals" "[Z") (by decide +kernel)) (fun _ h9 => h9) rfl dX11_rival_43 ?_
          refine lv_iload_n hx hb dX11_rival_46 rfl (lv_at hl 2 rfl) ?_
          refine lv_bipush (v := 10) hx hb dX11_rival_47 (by decide) ?_
          refine lv_imul hx hb dX11_rival_49 ?_
          refine lv_iload_n hx hb dX11_rival_50 rfl (lv_at hl 1 rfl) ?_
          refine lv_iadd hx hb dX11_rival_51 ?_
          refine lv_iconst (v := 1) hx hb dX11_rival_52 (by decide) ?_
          obtain ⟨g_16, hs_17, hz_18⟩ := x_ri hI hI.2.1.2.2.2.2.2
          obtain ⟨kk_19, hk_20⟩ := pl_at hI.2.1.2.2.2.2.2.1 hs_17
          have hD0 := hD
          refine va_zast hx hb hK hP hD hS kk_19 1 hk_20 rfl (vin2 b_3 b_1) dX11_rival_53 (fun H locs hP hD hS => ?_)
          rw [pl_set hD0 hI.2.1.2.2.2.2.2.1 hs_17 hk_20] at hP hD
          obtain ⟨f_21, ef_21⟩ : ∃ y : xF, y = va_up f_13 (d 4) (aI (q 1) 100 (upd g_16 (((p1 * 10) + p0) : Int32).toNatClampNeg (vp_nar .boolean 1))) := ⟨_, rfl⟩
          have hI : xI q h0 d k z f_21 := by rw [ef_21]; exact x_up hI hI.2.1.2.2.2.2.2 (by decide) (cO_6 hI.2.1.2.2.2.2.2.2 ⟨_, rfl, z_up hz_18⟩)
          have hP : va_P (dC, dI) vwCl (va_pl z.1 f_21) H := by rw [ef_21]; exact hP
          have hD : va_D A (va_pl z.1 f_21) := by rw [ef_21]; exact hD
          refine lv_iconst (v := 1) hx hb dX11_rival_54 (by decide) ?_
          exact W.zret (v := 1) hx hb hr (by decide) (fun t ht hW => ⟨⟨1, (k, z, f_21), rfl, ⟨(by show f_21 (d 3) = f (d 3); rw [ef_21, up_o (nO_ne (d3_o hrp) hrp.2.2.2.2.2.2.2.2 (by omega)), ef_13]; exact up_o (nO_ne (d3_o hrp) hrp.2.2.2.2.2.2.2.2 (by omega))), rfl, rfl, hI, (rival_y hrp b_1 b_3 c_5 hg6).2 c_8 _ _ _ ef_13 hs_17 ef_21⟩, by rw [ht]; exact hP, hD⟩, hS.F ht⟩) hS.2.2 dX11_rival_55
        ·
          refine lv_iconst (v := 0) hx hb dX11_rival_28 (by decide) ?_
          exact W.zret (v := 0) hx hb hr (by decide) (fun t ht hW => ⟨⟨0, (k, z, f), rfl, ⟨rfl, rfl, rfl, hI, (rival_y hrp b_1 b_3 c_5 hg6).1 c_8⟩, by rw [ht]; exact hP, hD⟩, hS.F ht⟩) hS.2.2 dX11_rival_29
    ·
      obtain rfl : r = 0 := b_f hw b_3
      refine lv_if_eq (tgt := 28) hx hb dX11_rival_11 (by decide) (fun c_22 => ?_) (fun c_22 => absurd (by decide) c_22)
      refine lv_iconst (v := 0) hx hb dX11_rival_28 (by decide) ?_
      exact W.zret (v := 0) hx hb hr (by decide) (fun t ht hW => ⟨⟨0, (k, z, f), rfl, ⟨rfl, rfl, rfl, hI, by rw [(rival_b (bne b_3))], by rw [(rival_b (bne b_3))]; exact hrp⟩, by rw [ht]; exact hP, hD⟩, hS.F ht⟩) hS.2.2 dX11_rival_29
  ·
    obtain rfl : r = 0 := b_f hw b_1
    refine lv_if_eq (tgt := 28) hx hb dX11_rival_4 (by decide) (fun c_23 => ?_) (fun c_23 => absurd (by decide) c_23)
    refine lv_iconst (v := 0) hx hb dX11_rival_28 (by decide) ?_
    exact W.zret (v := 0) hx hb hr (by decide) (fun t ht hW => ⟨⟨0, (k, z, f), rfl, ⟨rfl, rfl, rfl, hI, by rw [(rival_a (bne b_1))], by rw [(rival_a (bne b_1))]; exact hrp⟩, by rw [ht]; exact hP, hD⟩, hS.F ht⟩) hS.2.2 dX11_rival_29
set_option maxHeartbeats 4000000 in
set_option maxRecDepth 100000 in
theorem v_column (l : Launch) (dC : Nat → ClassId) (dI : Nat → Nat → Nat) (q : Nat → ClassId) (h0 : Nat) (d : Nat → Nat) (k : Nat → Int32) (z : gS) (f : xF) (hI : xI q h0 d k z f) (p0 p1 p2 : Int32) (u : mS) (hrp : rep q d u z f) (hk0 : k 0 = u.1 3) (hk1 : k 1 = u.1 28) (hk2 : k 2 = u.1 38) (hk3 : k 3 = u.1 39) (hbr : u.1 28 ≤ 0 → ∀ j, j < 5760 → u.2 2 j = (-2)) (sz : Nat) : Met l yX11_column wsX11_column ({ frames := 2, cells := 0, slots := 0, locals := 42 }) (va_Pc [.ref h0, .int p0, .int p1, .int p2] (fun U => U.heap.size = sz ∧ PX dC dI (va_pl z.1 f) (xT q) U ∧ va_D (fun _ => True) (va_pl z.1 f))) (va_Qi (fun (r : Int32) (w : xU) => w.2.2 (d 3) = f (d 3) ∧ w.1 = k ∧ w.2.1 = z ∧ xI q h0 d k z w.2.2 ∧ r = (mColumn u p0 p1 p2).1 ∧ rep q d (mColumn u p0 p1 p2).2 z w.2.2) (fun (w : xU) t => va_P (dC, dI) vwCl (va_pl w.2.1.1 w.2.2) t.heap ∧ va_D (va_A (va_pl z.1 f) sz) (va_pl w.2.1.1 w.2.2)) (va_A (va_pl z.1 f) sz)) 0 0 (va_A (va_pl z.1 f) sz) := by
  refine Met.ofW (cc := cX11_column) (maxL := 4) (ret := (some .boolean)) (by decide) rfl ?_
  intro p e s m args below meth c s₁ B hml hv
  obtain ⟨rfl, hsz, ⟨⟨hP, hK, hN⟩, hXN⟩, hD0⟩ := hv
  have hx := B.exec
  have hb := B.bytes
  have hr := B.returns
  have hts := atoms_spec (ws := wsX11_column) B.pre
  have hown : s.vm.findClass RX11 = some m.cls := findClass_of_methodNamed B.named
  have hlocks := B.notSynchronized
  subst hsz
  have hD := hD0.self (sz := s.heap.size)
  generalize hAe : va_A (va_pl z.1 f) s.heap.size = A at hD ⊢
  have hA : ∀ q : Nat, s.heap.size ≤ q → A q := fun q h => by rw [← hAe]; exact Or.inr h
  have hS : va_S A s.heap s.heap [] := va_S.rf
  have hl := lv_entry ([.ref h0, .int p0, .int p1, .int p2]) (n := 4) (Nat.le_of_ble_eq_true rfl)
  rw [lg_entry_eq]
  generalize (lg_sl ([.ref h0, .int p0, .int p1, .int p2]) ++ List.replicate (4 - (lg_sl ([.ref h0, .int p0, .int p1, .int p2])).length) Slot.unset).toArray = ls at hl ⊢
  have hl : lv_has ls 4 [(0, .ref h0), (1, .int p0), (2, .int p1), (3, .int p2)] := hl
  refine lv_iload_n hx hb dX11_column_0 rfl (lv_at hl 1 rfl) ?_
  refine vp_callSi (va_runS (As := [.int p0]) (rest := []) ⟨hx, hb, hml, hown, hts⟩ (x_isPage l dC dI p0) (va_cwS 1 hts gX11_column_X11_isPage rfl rfl rfl (by decide +kernel) ⟨Nat.le_of_ble_eq_true rfl, Nat.le_of_ble_eq_true rfl⟩) ⟨pw_fb, fun U hU hW => ⟨rfl, pw_to hU hW (hP.sub (ws' := []) [] rfl) (hK.sub (tys' := []) [] rfl) hN⟩⟩ rfl rfl hl.1 rfl (lv_room (Nat.le_of_ble_eq_true rfl)) dX11_column_1 ⟨Nat.le_of_ble_eq_true rfl, Nat.le_of_ble_eq_true rfl⟩).run (fun r hw => ?_)
  rcases Bool.eq_false_or_eq_true (bw p0 0 11) with b_1 | b_1
  ·
    obtain rfl : r = 1 := b_t hw b_1
    refine lv_if_eq (tgt := 31) hx hb dX11_column_4 (by decide) (fun c_2 => absurd c_2 (by decide)) (fun c_2 => ?_)
    refine lv_iload_n hx hb dX11_column_7 rfl (lv_at hl 2 rfl) ?_
    refine vp_callSi (va_runS (As := [.int p1]) (rest := []) ⟨hx, hb, hml, hown, hts⟩ (x_isColumn l dC dI p1) (va_cwS 1 hts gX11_column_X11_isColumn rfl rfl rfl (by decide +kernel) ⟨Nat.le_of_ble_eq_true rfl, Nat.le_of_ble_eq_true rfl⟩) ⟨pw_fb, fun U hU hW => ⟨rfl, pw_to hU hW (hP.sub (ws' := []) [] rfl) (hK.sub (tys' := []) [] rfl) hN⟩⟩ rfl rfl hl.1 rfl (lv_room (Nat.le_of_ble_eq_true rfl)) dX11_column_8 ⟨Nat.le_of_ble_eq_true rfl, Nat.le_of_ble_eq_true rfl⟩).run (fun r hw => ?_)
    rcases Bool.eq_false_or_eq_true (bw p1 0 7) with b_3 | b_3
    ·
      obtain rfl : r = 1 := b_t hw b_3
      refine lv_if_eq (tgt := 31) hx hb dX11_column_11 (by decide) (fun c_4 => absurd c_4 (by decide)) (fun c_4 => ?_)
      refine lv_iload_n hx hb dX11_column_14 rfl (lv_at hl 3 rfl) ?_
      refine lv_iconst (v := 0) hx hb dX11_column_15 (by decide) ?_
      refine lv_bipush (v := 60) hx hb dX11_column_16 (by decide) ?_
      refine vp_callSi (va_runS (As := [.int p2, .int 0, .int 60]) (rest := []) ⟨hx, hb, hml, hown, hts⟩ (x_isWithin l dC dI p2 0 60) (va_cwS 3 hts gX11_column_X11_isWithin rfl rfl rfl (by decide +kernel) ⟨Nat.le_of_ble_eq_true rfl, Nat.le_of_ble_eq_true rfl⟩) ⟨pw_fb, fun U hU hW => ⟨rfl, pw_to hU hW (hP.sub (ws' := []) [] rfl) (hK.sub (tys' := []) [] rfl) hN⟩⟩ rfl rfl hl.1 rfl (lv_room (Nat.le_of_ble_eq_true rfl)) dX11_column_18 ⟨Nat.le_of_ble_eq_true rfl, Nat.le_of_ble_eq_true rfl⟩).run (fun r hw => ?_)
      rcases Bool.eq_false_or_eq_true (bw p2 0 60) with b_5 | b_5
      ·
        obtain rfl : r = 1 := b_t hw b_5
        refine lv_if_eq (tgt := 31) hx hb dX11_column_21 (by decide) (fun c_6 => absurd c_6 (by decide)) (fun c_6 => ?_)
        refine lv_aload_n hx hb dX11_column_24 rfl (lv_at hl 0 rfl) ?_
        obtain ⟨kk_7, hk_8⟩ := pl_at hI.2.1.1.1 hI.2.2.2.1.1
        refine va_get (D := (dC, dI)) (ci := 10) (v := .int (k 1)) (C := RX11) (T := TX11) (N := 9) hx hb hts (by decide +kernel) hown hK hP kk_7 hk_8 rfl 5 (by decide) (hts (.fieldLink RX11 34 "PageOne" "actCount" "I") (by decide +kernel)) (fun _ h9 => h9) rfl dX11_column_25 ?_
        refine lv_if_le (tgt := 33) hx hb dX11_column_28 (by decide) (fun c_9 => ?_) (fun c_9 => ?_)
        ·
          refine lv_aload_n hx hb dX11_column_33 rfl (lv_at hl 0 rfl) ?_
          obtain ⟨kk_10, hk_11⟩ := pl_at hI.2.1.1.1 hI.2.2.2.1.1
          refine va_get (D := (dC, dI)) (ci := 10) (v := .ref (d 0)) (C := RX11) (T := TX11) (N := 9) hx hb hts (by decide +kernel) hown hK hP kk_10 hk_11 rfl 0 (by decide) (hts (.fieldLink RX11 11 "PageOne" "pages" "[LPageOne$Sheet;") (by decide +kernel)) (fun _ h9 => h9) rfl dX11_column_34 ?_
          refine lv_iload_n hx hb dX11_column_37 rfl (lv_at hl 1 rfl) ?_
          obtain ⟨g_12, hs_13, hg_14⟩ := x_pg hI hI.2.1.2.1
          obtain ⟨kk_15, hk_16⟩ := pl_at hI.2.1.2.1.1 hs_13
          refine va_aldq hx hb hK hP kk_15 2 hk_16 rfl (vin b_1 (by decide)) dX11_column_38 ?_
          obtain ⟨b_17, hg_18, ht_19⟩ := hg_14 _ (vlt (vin b_1 (by decide)))
          rw [hg_18]
          refine W.eq (g2 := F0 m 39 ls [.ref b_17]) rfl ?_
          obtain ⟨la_20, ca_21, m_22, dd_23, ii_24, hs_25, ht_26, ht_27⟩ := x_sh hI ht_19
          obtain ⟨kk_28, hk_29⟩ := pl_at ht_19.1 hs_25
          refine va_get (D := (dC, dI)) (ci := 8) (v := .ref la_20) (C := RX9) (T := TX9) (N := 5) hx hb hts (by decide +kernel) hown hK hP kk_28 hk_29 rfl 0 (by decide) (hts (.fieldLink RX11 59 "PageOne$Sheet" "lines" "[I") (by decide +kernel)) (fun _ h9 => h9) rfl dX11_column_39 ?_
          refine lv_iload_n hx hb dX11_column_42 rfl (lv_at hl 2 rfl) ?_
          refine lv_iload_n hx hb dX11_column_43 rfl (lv_at hl 3 rfl) ?_
          obtain ⟨g_30, hs_31, hg_32⟩ := x_ln hI ht_26
          obtain ⟨kk_33, hk_34⟩ := pl_at ht_26.1 hs_31
          have hD0 := hD
          refine va_iast hx hb hK hP hD hS kk_33 0 hk_34 rfl (vin b_3 (by decide)) dX11_column_44 (fun H locs hP hD hS => ?_)
          rw [pl_set hD0 ht_26.1 hs_31 hk_34] at hP hD
          obtain ⟨f_35, ef_35⟩ : ∃ y : xF, y = va_up f la_20 (aI (q 0) 8 (upd g_30 (p1 : Int32).toNatClampNeg p2)) := ⟨_, rfl⟩
          have hI : xI q h0 d k z f_35 := by rw [ef_35]; exact x_up hI ht_26 (by decide) (cO_8 ht_26.2 ⟨_, rfl, ln_up hg_32 b_5⟩)
          have hP : va_P (dC, dI) vwCl (va_pl z.1 f_35) H := by rw [ef_35]; exact hP
          have hD : va_D A (va_pl z.1 f_35) := by rw [ef_35]; exact hD
          refine lv_iconst (v := 1) hx hb dX11_column_45 (by decide) ?_
          exact W.zret (v := 1) hx hb hr (by decide) (fun t ht hW => ⟨⟨1, (k, z, f_35), rfl, ⟨(by show f_35 (d 3) = f (d 3); rw [ef_35]; exact up_o (tg_nq hI.2.1.2.2.2.2.1 ht_26 (by decide))), rfl, rfl, hI, by show _ ∧ rep q d _ z f_35; rw [ef_35]; exact column_y hrp b_1 b_3 b_5 (by rw [← hk1]; exact c_9) hbr hs_13 hg_18 hs_25 hs_31⟩, by rw [ht]; exact hP, hD⟩, hS.F ht⟩) hS.2.2 dX11_column_46
        ·
          refine lv_iconst (v := 0) hx hb dX11_column_31 (by decide) ?_
          exact W.zret (v := 0) hx hb hr (by decide) (fun t ht hW => ⟨⟨0, (k, z, f), rfl, ⟨rfl, rfl, rfl, hI, by rw [(column_0 (fun h9 => c_9 (by rw [hk1]; exact h9.2.2.2)))], by rw [(column_0 (fun h9 => c_9 (by rw [hk1]; exact h9.2.2.2)))]; exact hrp⟩, by rw [ht]; exact hP, hD⟩, hS.F ht⟩) hS.2.2 dX11_column_32
      ·
        obtain rfl : r = 0 := b_f hw b_5
        refine lv_if_eq (tgt := 31) hx hb dX11_column_21 (by decide) (fun c_36 => ?_) (fun c_36 => absurd (by decide) c_36)
        refine lv_iconst (v := 0) hx hb dX11_column_31 (by decide) ?_
        exact W.zret (v := 0) hx hb hr (by decide) (fun t ht hW => ⟨⟨0, (k, z, f), rfl, ⟨rfl, rfl, rfl, hI, by rw [(column_0 (fun h9 => bne b_5 h9.2.2.1))], by rw [(column_0 (fun h9 => bne b_5 h9.2.2.1))]; exact hrp⟩, by rw [ht]; exact hP, hD⟩, hS.F ht⟩) hS.2.2 dX11_column_32
    ·
      obtain rfl : r = 0 := b_f hw b_3
      refine lv_if_eq (tgt := 31) hx hb dX11_column_11 (by decide) (fun c_37 => ?_) (fun c_37 => absurd (by decide) c_37)
      refine lv_iconst (v := 0) hx hb dX11_column_31 (by decide) ?_
      exact W.zret (v := 0) hx hb hr (by decide) (fun t ht hW => ⟨⟨0, (k, z, f), rfl, ⟨rfl, rfl, rfl, hI, by rw [(column_0 (fun h9 => bne b_3 h9.2.1))], by rw [(column_0 (fun h9 => bne b_3 h9.2.1))]; exact hrp⟩, by rw [ht]; exact hP, hD⟩, hS.F ht⟩) hS.2.2 dX11_column_32
  ·
    obtain rfl : r = 0 := b_f hw b_1
    refine lv_if_eq (tgt := 31) hx hb dX11_column_4 (by decide) (fun c_38 => ?_) (fun c_38 => absurd (by decide) c_38)
    refine lv_iconst (v := 0) hx hb dX11_column_31 (by decide) ?_
    exact W.zret (v := 0) hx hb hr (by decide) (fun t ht hW => ⟨⟨0, (k, z, f), rfl, ⟨rfl, rfl, rfl, hI, by rw [(column_0 (fun h9 => bne b_1 h9.1))], by rw [(column_0 (fun h9 => bne b_1 h9.1))]; exact hrp⟩, by rw [ht]; exact hP, hD⟩, hS.F ht⟩) hS.2.2 dX11_column_32
set_option maxHeartbeats 4000000 in
set_option maxRecDepth 100000 in
theorem v_measure (l : Launch) (dC : Nat → ClassId) (dI : Nat → Nat → Nat) (q : Nat → ClassId) (h0 : Nat) (d : Nat → Nat) (k : Nat → Int32) (z : gS) (f : xF) (hI : xI q h0 d k z f) (p0 p1 : Int32) (u : mS) (hrp : rep q d u z f) (hk0 : k 0 = u.1 3) (hk1 : k 1 = u.1 28) (hk2 : k 2 = u.1 38) (hk3 : k 3 = u.1 39) (hbr : u.1 28 ≤ 0 → ∀ j, j < 5760 → u.2 2 j = (-2)) (sz : Nat) : Met l yX11_measure wsX11_measure ({ frames := 2, cells := 0, slots := 0, locals := 42 }) (va_Pc [.ref h0, .int p0, .int p1] (fun U => U.heap.size = sz ∧ PX dC dI (va_pl z.1 f) (xT q) U ∧ va_D (fun _ => True) (va_pl z.1 f))) (va_Qi (fun (r : Int32) (w : xU) => w.2.2 (d 3) = f (d 3) ∧ w.1 = k ∧ w.2.1 = z ∧ xI q h0 d k z w.2.2 ∧ r = (mMeasure u p0 p1).1 ∧ rep q d (mMeasure u p0 p1).2 z w.2.2) (fun (w : xU) t => va_P (dC, dI) vwCl (va_pl w.2.1.1 w.2.2) t.heap ∧ va_D (va_A (va_pl z.1 f) sz) (va_pl w.2.1.1 w.2.2)) (va_A (va_pl z.1 f) sz)) 0 0 (va_A (va_pl z.1 f) sz) := by
  refine Met.ofW (cc := cX11_measure) (maxL := 3) (ret := (some .boolean)) (by decide) rfl ?_
  intro p e s m args below meth c s₁ B hml hv
  obtain ⟨rfl, hsz, ⟨⟨hP, hK, hN⟩, hXN⟩, hD0⟩ := hv
  have hx := B.exec
  have hb := B.bytes
  have hr := B.returns
  have hts := atoms_spec (ws := wsX11_measure) B.pre
  have hown : s.vm.findClass RX11 = some m.cls := findClass_of_methodNamed B.named
  have hlocks := B.notSynchronized
  subst hsz
  have hD := hD0.self (sz := s.heap.size)
  generalize hAe : va_A (va_pl z.1 f) s.heap.size = A at hD ⊢
  have hA : ∀ q : Nat, s.heap.size ≤ q → A q := fun q h => by rw [← hAe]; exact Or.inr h
  have hS : va_S A s.heap s.heap [] := va_S.rf
  have hl := lv_entry ([.ref h0, .int p0, .int p1]) (n := 3) (Nat.le_of_ble_eq_true rfl)
  rw [lg_entry_eq]
  generalize (lg_sl ([.ref h0, .int p0, .int p1]) ++ List.replicate (3 - (lg_sl ([.ref h0, .int p0, .int p1])).length) Slot.unset).toArray = ls at hl ⊢
  have hl : lv_has ls 3 [(0, .ref h0), (1, .int p0), (2, .int p1)] := hl
  refine lv_iload_n hx hb dX11_measure_0 rfl (lv_at hl 1 rfl) ?_
  refine vp_callSi (va_runS (As := [.int p0]) (rest := []) ⟨hx, hb, hml, hown, hts⟩ (x_isPage l dC dI p0) (va_cwS 1 hts gX11_measure_X11_isPage rfl rfl rfl (by decide +kernel) ⟨Nat.le_of_ble_eq_true rfl, Nat.le_of_ble_eq_true rfl⟩) ⟨pw_fb, fun U hU hW => ⟨rfl, pw_to hU hW (hP.sub (ws' := []) [] rfl) (hK.sub (tys' := []) [] rfl) hN⟩⟩ rfl rfl hl.1 rfl (lv_room (Nat.le_of_ble_eq_true rfl)) dX11_measure_1 ⟨Nat.le_of_ble_eq_true rfl, Nat.le_of_ble_eq_true rfl⟩).run (fun r hw => ?_)
  rcases Bool.eq_false_or_eq_true (bw p0 0 11) with b_1 | b_1
  ·
    obtain rfl : r = 1 := b_t hw b_1
    refine lv_if_eq (tgt := 25) hx hb dX11_measure_4 (by decide) (fun c_2 => absurd c_2 (by decide)) (fun c_2 => ?_)
    refine lv_iload_n hx hb dX11_measure_7 rfl (lv_at hl 2 rfl) ?_
    refine lv_iconst (v := 1) hx hb dX11_measure_8 (by decide) ?_
    refine lv_sipush (v := 200) hx hb dX11_measure_9 (by decide) ?_
    refine vp_callSi (va_runS (As := [.int p1, .int 1, .int 200]) (rest := []) ⟨hx, hb, hml, hown, hts⟩ (x_isWithin l dC dI p1 1 200) (va_cwS 3 hts gX11_measure_X11_isWithin rfl rfl rfl (by decide +kernel) ⟨Nat.le_of_ble_eq_true rfl, Nat.le_of_ble_eq_true rfl⟩) ⟨pw_fb, fun U hU hW => ⟨rfl, pw_to hU hW (hP.sub (ws' := []) [] rfl) (hK.sub (tys' := []) [] rfl) hN⟩⟩ rfl rfl hl.1 rfl (lv_room (Nat.le_of_ble_eq_true rfl)) dX11_measure_12 ⟨Nat.le_of_ble_eq_true rfl, Nat.le_of_ble_eq_true rfl⟩).run (fun r hw => ?_)
    rcases Bool.eq_false_or_eq_true (bw p1 1 200) with b_3 | b_3
    ·
      obtain rfl : r = 1 := b_t hw b_3
      refine lv_if_eq (tgt := 25) hx hb dX11_measure_15 (by decide) (fun c_4 => absurd c_4 (by decide)) (fun c_4 => ?_)
      refine lv_aload_n hx hb dX11_measure_18 rfl (lv_at hl 0 rfl) ?_
      obtain ⟨kk_5, hk_6⟩ := pl_at hI.2.1.1.1 hI.2.2.2.1.1
      refine va_get (D := (dC, dI)) (ci := 10) (v := .int (k 1)) (C := RX11) (T := TX11) (N := 9) hx hb hts (by decide +kernel) hown hK hP kk_5 hk_6 rfl 5 (by decide) (hts (.fieldLink RX11 34 "PageOne" "actCount" "I") (by decide +kernel)) (fun _ h9 => h9) rfl dX11_measure_19 ?_
      refine lv_if_le (tgt := 27) hx hb dX11_measure_22 (by decide) (fun c_7 => ?_) (fun c_7 => ?_)
      ·
        refine lv_aload_n hx hb dX11_measure_27 rfl (lv_at hl 0 rfl) ?_
        obtain ⟨kk_8, hk_9⟩ := pl_at hI.2.1.1.1 hI.2.2.2.1.1
        refine va_get (D := (dC, dI)) (ci := 10) (v := .ref (d 0)) (C := RX11) (T := TX11) (N := 9) hx hb hts (by decide +kernel) hown hK hP kk_8 hk_9 rfl 0 (by decide) (hts (.fieldLink RX11 11 "PageOne" "pages" "[LPageOne$Sheet;") (by decide +kernel)) (fun _ h9 => h9) rfl dX11_measure_28 ?_
        refine lv_iload_n hx hb dX11_measure_31 rfl (lv_at hl 1 rfl) ?_
        obtain ⟨g_10, hs_11, hg_12⟩ := x_pg hI hI.2.1.2.1
        obtain ⟨kk_13, hk_14⟩ := pl_at hI.2.1.2.1.1 hs_11
        refine va_aldq hx hb hK hP kk_13 2 hk_14 rfl (vin b_1 (by decide)) dX11_measure_32 ?_
        obtain ⟨b_15, hg_16, ht_17⟩ := hg_12 _ (vlt (vin b_1 (by decide)))
        rw [hg_16]
        refine W.eq (g2 := F0 m 33 ls [.ref b_15]) rfl ?_
        refine lv_iload_n hx hb dX11_measure_33 rfl (lv_at hl 2 rfl) ?_
        obtain ⟨la_18, ca_19, m_20, dd_21, ii_22, hs_23, ht_24, ht_25⟩ := x_sh hI ht_17
        obtain ⟨kk_26, hk_27⟩ := pl_at ht_17.1 hs_23
        have hD0 := hD
        refine va_put (D := (dC, dI)) (ci := 8) (v := .int p1) (ty := .int) (C := RX9) (T := TX9) (N := 5) hx hb hts (by decide +kernel) tyX9 tyX9_ok nmX9 hown hK hP hD hS kk_26 hk_27 rfl 2 (by decide) (hts (.fieldLink RX11 63 "PageOne$Sheet" "measure" "I") (by decide +kernel)) (fun _ h9 => h9) rfl (by decide +kernel) rfl rfl (Nat.le_of_ble_eq_true rfl) dX11_measure_34 (fun H locs hP hD hS => ?_)
        rw [pl_set hD0 ht_17.1 hs_23 hk_27] at hP hD
        obtain ⟨f_28, ef_28⟩ : ∃ y : xF, y = va_up f b_15 (.inr (8, [.ref la_18, .ref ca_19, .int p1, .int dd_21, .int ii_22])) := ⟨_, rfl⟩
        have hI : xI q h0 d k z f_28 := by rw [ef_28]; exact x_up hI ht_17 (by decide) (cO_7 ht_17.2 ⟨_, _, _, _, _, rfl, ht_24, ht_25⟩)
        have hP : va_P (dC, dI) vwCl (va_pl z.1 f_28) H := by rw [ef_28]; exact hP
        have hD : va_D A (va_pl z.1 f_28) := by rw [ef_28]; exact hD
        refine lv_iconst (v := 1) hx hb dX11_measure_37 (by decide) ?_
        exact W.zret (v := 1) hx hb hr (by decide) (fun t ht hW => ⟨⟨1, (k, z, f_28), rfl, ⟨(by show f_28 (d 3) = f (d 3); rw [ef_28]; exact up_o (tg_nq hI.2.1.2.2.2.2.1 ht_17 (by decide))), rfl, rfl, hI, by show _ ∧ rep q d _ z f_28; rw [ef_28]; exact measure_y hrp b_1 b_3 (by rw [← hk1]; exact c_7) hbr hs_11 hg_16 hs_23⟩, by rw [ht]; exact hP, hD⟩, hS.F ht⟩) hS.2.2 dX11_measure_38
      ·
        refine lv_iconst (v := 0) hx hb dX11_measure_25 (by decide) ?_
        exact W.zret (v := 0) hx hb hr (by decide) (fun t ht hW => ⟨⟨0, (k, z, f), rfl, ⟨rfl, rfl, rfl, hI, by rw [(measure_0 (fun h9 => c_7 (by rw [hk1]; exact h9.2.2)))], by rw [(measure_0 (fun h9 => c_7 (by rw [hk1]; exact h9.2.2)))]; exact hrp⟩, by rw [ht]; exact hP, hD⟩, hS.F ht⟩) hS.2.2 dX11_measure_26
    ·
      obtain rfl : r = 0 := b_f hw b_3
      refine lv_if_eq (tgt := 25) hx hb dX11_measure_15 (by decide) (fun c_29 => ?_) (fun c_29 => absurd (by decide) c_29)
      refine lv_iconst (v := 0) hx hb dX11_measure_25 (by decide) ?_
      exact W.zret (v := 0) hx hb hr (by decide) (fun t ht hW => ⟨⟨0, (k, z, f), rfl, ⟨rfl, rfl, rfl, hI, by rw [(measure_0 (fun h9 => bne b_3 h9.2.1))], by rw [(measure_0 (fun h9 => bne b_3 h9.2.1))]; exact hrp⟩, by rw [ht]; exact hP, hD⟩, hS.F ht⟩) hS.2.2 dX11_measure_26
  ·
    obtain rfl : r = 0 := b_f hw b_1
    refine lv_if_eq (tgt := 25) hx hb dX11_measure_4 (by decide) (fun c_30 => ?_) (fun c_30 => absurd (by decide) c_30)
    refine lv_iconst (v := 0) hx hb dX11_measure_25 (by decide) ?_
    exact W.zret (v := 0) hx hb hr (by decide) (fun t ht hW => ⟨⟨0, (k, z, f), rfl, ⟨rfl, rfl, rfl, hI, by rw [(measure_0 (fun h9 => bne b_1 h9.1))], by rw [(measure_0 (fun h9 => bne b_1 h9.1))]; exact hrp⟩, by rw [ht]; exact hP, hD⟩, hS.F ht⟩) hS.2.2 dX11_measure_26
