set_option maxHeartbeats 4000000 in
set_option maxRecDepth 100000 in
theorem x_stand (l : Launch) (dC : Nat → ClassId) (dI : Nat → Nat → Nat) (q : Nat → ClassId) (h0 : Nat) (d : Nat → Nat) (k : Nat → Int32) (z : gS) (f : xF) (hI : xI q h0 d k z f) (b0 : Nat) (hb0 : lgP z b0) (sz : Nat) : Met l yX11_stand wsX11_stand ({ frames := 4, cells := 0, slots := 0, locals := 88 }) (va_Pc [.ref h0, .ref b0] (fun U => U.heap.size = sz ∧ PX dC dI (va_pl z.1 f) (xT q) U ∧ va_D (fun _ => True) (va_pl z.1 f))) (va_Qv (fun (w : xU) => w.1 = k ∧ w.2.1 = z ∧ xI q h0 d k z w.2.2) (fun (w : xU) t => va_P (dC, dI) vwCl (va_pl w.2.1.1 w.2.2) t.heap ∧ va_D (va_A (va_pl z.1 f) sz) (va_pl w.2.1.1 w.2.2)) (va_A (va_pl z.1 f) sz)) 0 0 (va_A (va_pl z.1 f) sz) := by
  refine Met.ofW (cc := cX11_stand) (maxL := 2) (ret := none) (by decide) rfl ?_
  intro p e s m args below meth c s₁ B hml hv
  obtain ⟨rfl, hsz, ⟨⟨hP, hK, hN⟩, hXN⟩, hD0⟩ := hv
  have hx := B.exec
  have hb := B.bytes
  have hr := B.returns
  have hts := atoms_spec (ws := wsX11_stand) B.pre
  have hown : s.vm.findClass RX11 = some m.cls := findClass_of_methodNamed B.named
  have hlocks := B.notSynchronized
  subst hsz
  have hD := hD0.self (sz := s.heap.size)
  generalize hAe : va_A (va_pl z.1 f) s.heap.size = A at hD ⊢
  have hA : ∀ q : Nat, s.heap.size ≤ q → A q := fun q h => by rw [← hAe]; exact Or.inr h
  have hS : va_S A s.heap s.heap [] := va_S.rf
  have hl := lv_entry ([.ref h0, .ref b0]) (n := 2) (Nat.le_of_ble_eq_true rfl)
  rw [lg_entry_eq]
  generalize (lg_sl ([.ref h0, .ref b0]) ++ List.replicate (2 - (lg_sl ([.ref h0, .ref b0])).length) Slot.unset).toArray = ls at hl ⊢
  have hl : lv_has ls 2 [(0, .ref h0), (1, .ref b0)] := hl
  refine lv_aload_n hx hb dX11_stand_0 rfl (lv_at hl 0 rfl) ?_
  obtain ⟨kk_1, hk_2⟩ := pl_at hI.2.1.1.1 hI.2.2.2.1.1
  refine va_get (D := (dC, dI)) (ci := 10) (v := .ref (d 0)) (C := RX11) (T := TX11) (N := 9) hx hb hts (by decide +kernel) hown hK hP kk_1 hk_2 rfl 0 (by decide) (hts (.fieldLink RX11 11 "PageOne" "pages" "[LPageOne$Sheet;") (by decide +kernel)) (fun _ h9 => h9) rfl dX11_stand_1 ?_
  refine lv_aload_n hx hb dX11_stand_4 rfl (lv_at hl 1 rfl) ?_
  have hcp := hb0
  obtain ⟨it_3, P_4, X_5, Y_6, D_7, N_8, hp_9, hb_10, hb_11, hb_12, hb_13⟩ := hcp
  obtain ⟨kk_14, hk_15⟩ := pl_at hp_9.1.1 (x_pcF hI hp_9)
  refine va_get (D := (dC, dI)) (ci := 7) (v := .int P_4) (C := RX8) (T := TX8) (N := 6) hx hb hts (by decide +kernel) hown hK hP kk_14 hk_15 rfl 1 (by decide) (hts (.fieldLink RX11 229 "PageOne$Piece" "page" "I") (by decide +kernel)) (fun _ h9 => h9) rfl dX11_stand_5 ?_
  obtain ⟨g_16, hs_17, hg_18⟩ := x_pg hI hI.2.1.2.1
  obtain ⟨kk_19, hk_20⟩ := pl_at hI.2.1.2.1.1 hs_17
  refine va_aldq hx hb hK hP kk_19 2 hk_20 rfl (vin (x_pcB hI hp_9).1 (by decide)) dX11_stand_8 ?_
  obtain ⟨b_21, hg_22, ht_23⟩ := hg_18 _ (vlt (vin (x_pcB hI hp_9).1 (by decide)))
  rw [hg_22]
  refine W.eq (g2 := F0 m 9 ls [.ref b_21]) rfl ?_
  refine lv_aload_n hx hb dX11_stand_9 rfl (lv_at hl 1 rfl) ?_
  refine lv_aload_n hx hb dX11_stand_10 rfl (lv_at hl 1 rfl) ?_
  obtain ⟨kk_24, hk_25⟩ := pl_at hp_9.1.1 (x_pcF hI hp_9)
  refine vp_callSi (va_runV (As := []) (rest := [.ref b0, .ref b_21]) ⟨hx, hb, hml, hown, hts⟩ (x_sign l dC dI q h0 d k z f hI b0 hp_9.1) (cwV 0 hts gX11_stand_X8_sign rfl rfl rfl (by decide +kernel) ⟨Nat.le_of_ble_eq_true rfl, Nat.le_of_ble_eq_true rfl⟩) ⟨px_fb, va_recv hK hP (ci := 7) (q0 := kk_24) rfl hk_25, fun U hU hW => ⟨rfl, px_to hU hW hP hK hN hXN⟩⟩ rfl rfl hl.1 rfl (lv_room (Nat.le_of_ble_eq_true rfl)) dX11_stand_11 ⟨Nat.le_of_ble_eq_true rfl, Nat.le_of_ble_eq_true rfl⟩).run (fun r hw => ?_)
  generalize r = zr_26 at hw ⊢
  have hzr_26 := hw
  obtain ⟨la_27, ca_28, m_29, dd_30, ii_31, hs_32, ht_33, ht_34⟩ := x_sh hI ht_23
  obtain ⟨kk_35, hk_36⟩ := pl_at ht_23.1 hs_32
  have hFc := fr_all hD hS hA
  refine va_callv (va_runV (As := [.ref b0, .int zr_26]) (rest := []) ⟨hx, hb, hml, hown, hts⟩ (x_mark l dC dI q h0 d k z f hI b_21 zr_26 ht_23 b0 it_3 P_4 X_5 Y_6 D_7 N_8 hp_9 hb_10 hb_11 hb_12 hb_13 s.heap.size) (cwV 2 hts gX11_stand_X9_mark rfl rfl rfl (by decide +kernel) ⟨Nat.le_of_ble_eq_true rfl, Nat.le_of_ble_eq_true rfl⟩) ⟨gx_fb, va_recv hK hP (ci := 8) (q0 := kk_35) rfl hk_36, fun U hU hW => ⟨rfl, by rw [hU], px_to hU hW hP hK hN hXN, hD.weaken (fun _ _ _ _ => trivial)⟩⟩ rfl rfl hl.1 rfl (lv_room (Nat.le_of_ble_eq_true rfl)) dX11_stand_14 ⟨Nat.le_of_ble_eq_true rfl, Nat.le_of_ble_eq_true rfl⟩) hS (fun q _ h => hFc q h) hFc (fun w_37 t H1 locs ht hvm hw hB hz1 hk1 hS => ?_)
  obtain ⟨hP, hD1⟩ := hB
  rw [ht] at hP
  rw [hw.2.1] at hP hD1
  have hD := hD1.weaken (fun _ q _ h => hFc q.1 h)
  have hI := hw.2.2
  have hw0 := hw
  generalize w_37.2.2 = f_38 at hP hD hI hw0
  generalize H1 = H at hP hS ⊢
  refine lv_aload_n hx hb dX11_stand_17 rfl (lv_at hl 1 rfl) ?_
  obtain ⟨kk_39, hk_40⟩ := pl_at hp_9.1.1 (x_pcF hI hp_9)
  refine va_get (D := (dC, dI)) (ci := 7) (v := va_rf it_3) (C := RX8) (T := TX8) (N := 6) hx hb hts (by decide +kernel) hown hK hP kk_39 hk_40 rfl 0 (by decide) (hts (.fieldLink RX11 304 "PageOne$Piece" "item" "LPageOne$Item;") (by decide +kernel)) (fun _ h9 => h9) rfl dX11_stand_18 ?_
  rcases it_3 with _ | b_41
  ·
    refine W.eq (g2 := F0 m 21 ls [.null]) rfl ?_
    refine lv_ifnullN (tgt := 32) hx hb dX11_stand_21 (by decide) ?_
    exact W.vret hx hb hr (fun t ht hW => ⟨⟨(k, z, f_38), rfl, ⟨rfl, rfl, hI⟩, by rw [ht]; exact hP, hD⟩, hS.F ht⟩) hS.2.2 dX11_stand_32
  ·
    refine W.eq (g2 := F0 m 21 ls [.ref b_41]) rfl ?_
    have ht_42 := (x_pcB hI hp_9).2 b_41 rfl
    refine lv_ifnull hx hb dX11_stand_21 ?_
    refine lv_aload_n hx hb dX11_stand_24 rfl (lv_at hl 1 rfl) ?_
    obtain ⟨kk_43, hk_44⟩ := pl_at hp_9.1.1 (x_pcF hI hp_9)
    refine va_get (D := (dC, dI)) (ci := 7) (v := .ref b_41) (C := RX8) (T := TX8) (N := 6) hx hb hts (by decide +kernel) hown hK hP kk_43 hk_44 rfl 0 (by decide) (hts (.fieldLink RX11 304 "PageOne$Piece" "item" "LPageOne$Item;") (by decide +kernel)) (fun _ h9 => h9) rfl dX11_stand_25 ?_
    refine lv_aload_n hx hb dX11_stand_28 rfl (lv_at hl 1 rfl) ?_
    have hFc := fr_all hD hS hA
    refine w_cut (X := fun R cells slots Q args => ∀ (w9 : xU) (H : Heap) (locs : List Loc), (w9.1 = k ∧ w9.2.1 = z ∧ xI q h0 d k z w9.2.2) → va_P (dC, dI) vwCl (va_pl w9.2.1.1 w9.2.2) H → va_D A (va_pl w9.2.1.1 w9.2.2) → va_S A s.heap H locs → W p l e R s m args below meth c H locs (cells + 0) (slots + 0) Q (F0 m 32 ls ([]))) ?_ (fun kC => ?_)
    ·
      intro w_45 H locs hw hP hD hS
      rw [hw.2.1] at hP hD
      have hI := hw.2.2
      generalize w_45.2.2 = f_141 at hP hD hI
      exact W.vret hx hb hr (fun t ht hW => ⟨⟨(k, z, f_141), rfl, ⟨rfl, rfl, hI⟩, by rw [ht]; exact hP, hD⟩, hS.F ht⟩) hS.2.2 dX11_stand_32
    ·
      rcases x_tag ht_42 with ht9 | ht9 | ht9 | ht9 | ht9 | ht9
      ·
        obtain ⟨nu_46, kd_47, cn_48, pa_49, fa_50, l_51, m_52, hs_53, hs_54, hs_55, hs_56⟩ := x_ifl hI ht9
        obtain ⟨kk_57, hk_58⟩ := pl_at ht9.1 hs_53
        exact va_callv (va_runU (As := [.ref b0]) (rest := []) ⟨hx, hb, hml, hown, hts⟩ (x_gain l dC dI q h0 d k z f_38 hI b_41 ht_42 b0 hb0 H.size) (va_cwU 1 hts gX11_stand_X4_gain_u307X2 rfl rfl rfl rfl (by decide +kernel) ⟨Nat.le_of_ble_eq_true rfl, Nat.le_of_ble_eq_true rfl⟩) ⟨gx_fb, va_recv hK hP (ci := 2) (q0 := kk_57) rfl hk_58, fun U hU hW => ⟨rfl, by rw [hU], px_to hU hW hP hK hN hXN, hD.weaken (fun _ _ _ _ => trivial)⟩⟩ rfl rfl hl.1 rfl (lv_room (Nat.le_of_ble_eq_true rfl)) dX11_stand_29 ⟨Nat.le_of_ble_eq_true rfl, Nat.le_of_ble_eq_true rfl⟩) hS (fun q _ h => hFc q h) hFc (fun w9 t H1 locs ht hvm hw hB hz1 hk1 hS => kC w9 H1 locs hw (by rw [← ht]; exact hB.1) (hB.2.weaken (fun _ q _ h => hFc q.1 h)) hS)
      ·
        obtain ⟨nu_59, kd_60, cn_61, pa_62, fa_63, o_64, w_65, y_66, hs_67, hs_68, hs_69, hs_70, hq_71⟩ := x_ihd hI ht9
        obtain ⟨kk_72, hk_73⟩ := pl_at ht9.1 hs_67
        exact va_callv (va_runU (As := [.ref b0]) (rest := []) ⟨hx, hb, hml, hown, hts⟩ (x_gain l dC dI q h0 d k z f_38 hI b_41 ht_42 b0 hb0 H.size) (va_cwU 1 hts gX11_stand_X4_gain_u307X3 rfl rfl rfl rfl (by decide +kernel) ⟨Nat.le_of_ble_eq_true rfl, Nat.le_of_ble_eq_true rfl⟩) ⟨gx_fb, va_recv hK hP (ci := 3) (q0 := kk_72) rfl hk_73, fun U hU hW => ⟨rfl, by rw [hU], px_to hU hW hP hK hN hXN, hD.weaken (fun _ _ _ _ => trivial)⟩⟩ rfl rfl hl.1 rfl (lv_room (Nat.le_of_ble_eq_true rfl)) dX11_stand_29 ⟨Nat.le_of_ble_eq_true rfl, Nat.le_of_ble_eq_true rfl⟩) hS (fun q _ h => hFc q h) hFc (fun w9 t H1 locs ht hvm hw hB hz1 hk1 hS => kC w9 H1 locs hw (by rw [← ht]; exact hB.1) (hB.2.weaken (fun _ q _ h => hFc q.1 h)) hS)
      ·
        obtain ⟨nu_74, kd_75, cn_76, pa_77, fa_78, o_79, y_80, hs_81, hs_82, hs_83, hs_84, hq_85⟩ := x_ino hI ht9
        obtain ⟨kk_86, hk_87⟩ := pl_at ht9.1 hs_81
        exact va_callv (va_runU (As := [.ref b0]) (rest := []) ⟨hx, hb, hml, hown, hts⟩ (x_gain l dC dI q h0 d k z f_38 hI b_41 ht_42 b0 hb0 H.size) (va_cwU 1 hts gX11_stand_X4_gain_u307X5 rfl rfl rfl rfl (by decide +kernel) ⟨Nat.le_of_ble_eq_true rfl, Nat.le_of_ble_eq_true rfl⟩) ⟨gx_fb, va_recv hK hP (ci := 4) (q0 := kk_86) rfl hk_87, fun U hU hW => ⟨rfl, by rw [hU], px_to hU hW hP hK hN hXN, hD.weaken (fun _ _ _ _ => trivial)⟩⟩ rfl rfl hl.1 rfl (lv_room (Nat.le_of_ble_eq_true rfl)) dX11_stand_29 ⟨Nat.le_of_ble_eq_true rfl, Nat.le_of_ble_eq_true rfl⟩) hS (fun q _ h => hFc q h) hFc (fun w9 t H1 locs ht hvm hw hB hz1 hk1 hS => kC w9 H1 locs hw (by rw [← ht]; exact hB.1) (hB.2.weaken (fun _ q _ h => hFc q.1 h)) hS)
      ·
        obtain ⟨nu_88, kd_89, cn_90, pa_91, fa_92, b_93, pr_94, sp_95, dy_96, hs_97, hs_98, hs_99, hs_100, hq_101, hq_102, hq_103⟩ := x_ipd hI ht9
        obtain ⟨kk_104, hk_105⟩ := pl_at ht9.1 hs_97
        exact va_callv (va_runU (As := [.ref b0]) (rest := []) ⟨hx, hb, hml, hown, hts⟩ (x_gain l dC dI q h0 d k z f_38 hI b_41 ht_42 b0 hb0 H.size) (va_cwU 1 hts gX11_stand_X4_gain_u307X6 rfl rfl rfl rfl (by decide +kernel) ⟨Nat.le_of_ble_eq_true rfl, Nat.le_of_ble_eq_true rfl⟩) ⟨gx_fb, va_recv hK hP (ci := 5) (q0 := kk_104) rfl hk_105, fun U hU hW => ⟨rfl, by rw [hU], px_to hU hW hP hK hN hXN, hD.weaken (fun _ _ _ _ => trivial)⟩⟩ rfl rfl hl.1 rfl (lv_room (Nat.le_of_ble_eq_true rfl)) dX11_stand_29 ⟨Nat.le_of_ble_eq_true rfl, Nat.le_of_ble_eq_true rfl⟩) hS (fun q _ h => hFc q h) hFc (fun w9 t H1 locs ht hvm hw hB hz1 hk1 hS => kC w9 H1 locs hw (by rw [← ht]; exact hB.1) (hB.2.weaken (fun _ q _ h => hFc q.1 h)) hS)
      ·
        obtain ⟨nu_106, kd_107, cn_108, pa_109, fa_110, ww_111, hh_112, sz_113, hs_114, hs_115, hs_116, hs_117, hq_118, hq_119, hq_120⟩ := x_ipi hI ht9
        obtain ⟨kk_121, hk_122⟩ := pl_at ht9.1 hs_114
        exact va_callv (va_runU (As := [.ref b0]) (rest := []) ⟨hx, hb, hml, hown, hts⟩ (x_gain l dC dI q h0 d k z f_38 hI b_41 ht_42 b0 hb0 H.size) (va_cwU 1 hts gX11_stand_X4_gain_u307X7 rfl rfl rfl rfl (by decide +kernel) ⟨Nat.le_of_ble_eq_true rfl, Nat.le_of_ble_eq_true rfl⟩) ⟨gx_fb, va_recv hK hP (ci := 6) (q0 := kk_121) rfl hk_122, fun U hU hW => ⟨rfl, by rw [hU], px_to hU hW hP hK hN hXN, hD.weaken (fun _ _ _ _ => trivial)⟩⟩ rfl rfl hl.1 rfl (lv_room (Nat.le_of_ble_eq_true rfl)) dX11_stand_29 ⟨Nat.le_of_ble_eq_true rfl, Nat.le_of_ble_eq_true rfl⟩) hS (fun q _ h => hFc q h) hFc (fun w9 t H1 locs ht hvm hw hB hz1 hk1 hS => kC w9 H1 locs hw (by rw [← ht]; exact hB.1) (hB.2.weaken (fun _ q _ h => hFc q.1 h)) hS)
      ·
        obtain ⟨nu_123, kd_124, cn_125, pa_126, fa_127, l_128, co_129, wd_130, nm_131, hs_132, hs_133, hs_134, hs_135, hq_136, hq_137, hq_138⟩ := x_ist hI ht9
        obtain ⟨kk_139, hk_140⟩ := pl_at ht9.1 hs_132
        exact va_callv (va_runU (As := [.ref b0]) (rest := []) ⟨hx, hb, hml, hown, hts⟩ (x_gain l dC dI q h0 d k z f_38 hI b_41 ht_42 b0 hb0 H.size) (va_cwU 1 hts gX11_stand_X4_gain_u307X10 rfl rfl rfl rfl (by decide +kernel) ⟨Nat.le_of_ble_eq_true rfl, Nat.le_of_ble_eq_true rfl⟩) ⟨gx_fb, va_recv hK hP (ci := 9) (q0 := kk_139) rfl hk_140, fun U hU hW => ⟨rfl, by rw [hU], px_to hU hW hP hK hN hXN, hD.weaken (fun _ _ _ _ => trivial)⟩⟩ rfl rfl hl.1 rfl (lv_room (Nat.le_of_ble_eq_true rfl)) dX11_stand_29 ⟨Nat.le_of_ble_eq_true rfl, Nat.le_of_ble_eq_true rfl⟩) hS (fun q _ h => hFc q h) hFc (fun w9 t H1 locs ht hvm hw hB hz1 hk1 hS => kC w9 H1 locs hw (by rw [← ht]; exact hB.1) (hB.2.weaken (fun _ q _ h => hFc q.1 h)) hS)
set_option maxHeartbeats 4000000 in
set_option maxRecDepth 100000 in
theorem x_takeOff (l : Launch) (dC : Nat → ClassId) (dI : Nat → Nat → Nat) (q : Nat → ClassId) (h0 : Nat) (d : Nat → Nat) (k : Nat → Int32) (z : gS) (f : xF) (hI : xI q h0 d k z f) (b0 : Nat) (hb0 : lgP z b0) (sz : Nat) : Met l yX11_takeOff wsX11_takeOff ({ frames := 4, cells := 0, slots := 0, locals := 88 }) (va_Pc [.ref h0, .ref b0] (fun U => U.heap.size = sz ∧ PX dC dI (va_pl z.1 f) (xT q) U ∧ va_D (fun _ => True) (va_pl z.1 f))) (va_Qv (fun (w : xU) => w.1 = k ∧ w.2.1 = z ∧ xI q h0 d k z w.2.2) (fun (w : xU) t => va_P (dC, dI) vwCl (va_pl w.2.1.1 w.2.2) t.heap ∧ va_D (va_A (va_pl z.1 f) sz) (va_pl w.2.1.1 w.2.2)) (va_A (va_pl z.1 f) sz)) 0 0 (va_A (va_pl z.1 f) sz) := by
  refine Met.ofW (cc := cX11_takeOff) (maxL := 2) (ret := none) (by decide) rfl ?_
  intro p e s m args below meth c s₁ B hml hv
  obtain ⟨rfl, hsz, ⟨⟨hP, hK, hN⟩, hXN⟩, hD0⟩ := hv
  have hx := B.exec
  have hb := B.bytes
  have hr := B.returns
  have hts := atoms_spec (ws := wsX11_takeOff) B.pre
  have hown : s.vm.findClass RX11 = some m.cls := findClass_of_methodNamed B.named
  have hlocks := B.notSynchronized
  subst hsz
  have hD := hD0.self (sz := s.heap.size)
  generalize hAe : va_A (va_pl z.1 f) s.heap.size = A at hD ⊢
  have hA : ∀ q : Nat, s.heap.size ≤ q → A q := fun q h => by rw [← hAe]; exact Or.inr h
  have hS : va_S A s.heap s.heap [] := va_S.rf
  have hl := lv_entry ([.ref h0, .ref b0]) (n := 2) (Nat.le_of_ble_eq_true rfl)
  rw [lg_entry_eq]
  generalize (lg_sl ([.ref h0, .ref b0]) ++ List.replicate (2 - (lg_sl ([.ref h0, .ref b0])).length) Slot.unset).toArray = ls at hl ⊢
  have hl : lv_has ls 2 [(0, .ref h0), (1, .ref b0)] := hl
  refine lv_aload_n hx hb dX11_takeOff_0 rfl (lv_at hl 0 rfl) ?_
  obtain ⟨kk_1, hk_2⟩ := pl_at hI.2.1.1.1 hI.2.2.2.1.1
  refine va_get (D := (dC, dI)) (ci := 10) (v := .ref (d 0)) (C := RX11) (T := TX11) (N := 9) hx hb hts (by decide +kernel) hown hK hP kk_1 hk_2 rfl 0 (by decide) (hts (.fieldLink RX11 11 "PageOne" "pages" "[LPageOne$Sheet;") (by decide +kernel)) (fun _ h9 => h9) rfl dX11_takeOff_1 ?_
  refine lv_aload_n hx hb dX11_takeOff_4 rfl (lv_at hl 1 rfl) ?_
  have hcp := hb0
  obtain ⟨it_3, P_4, X_5, Y_6, D_7, N_8, hp_9, hb_10, hb_11, hb_12, hb_13⟩ := hcp
  obtain ⟨kk_14, hk_15⟩ := pl_at hp_9.1.1 (x_pcF hI hp_9)
  refine va_get (D := (dC, dI)) (ci := 7) (v := .int P_4) (C := RX8) (T := TX8) (N := 6) hx hb hts (by decide +kernel) hown hK hP kk_14 hk_15 rfl 1 (by decide) (hts (.fieldLink RX11 229 "PageOne$Piece" "page" "I") (by decide +kernel)) (fun _ h9 => h9) rfl dX11_takeOff_5 ?_
  obtain ⟨g_16, hs_17, hg_18⟩ := x_pg hI hI.2.1.2.1
  obtain ⟨kk_19, hk_20⟩ := pl_at hI.2.1.2.1.1 hs_17
  refine va_aldq hx hb hK hP kk_19 2 hk_20 rfl (vin (x_pcB hI hp_9).1 (by decide)) dX11_takeOff_8 ?_
  obtain ⟨b_21, hg_22, ht_23⟩ := hg_18 _ (vlt (vin (x_pcB hI hp_9).1 (by decide)))
  rw [hg_22]
  refine W.eq (g2 := F0 m 9 ls [.ref b_21]) rfl ?_
  refine lv_aload_n hx hb dX11_takeOff_9 rfl (lv_at hl 1 rfl) ?_
  refine lv_bipush (v := (-2)) hx hb dX11_takeOff_10 (by decide) ?_
  obtain ⟨la_24, ca_25, m_26, dd_27, ii_28, hs_29, ht_30, ht_31⟩ := x_sh hI ht_23
  obtain ⟨kk_32, hk_33⟩ := pl_at ht_23.1 hs_29
  have hFc := fr_all hD hS hA
  refine va_callv (va_runV (As := [.ref b0, .int (-2)]) (rest := []) ⟨hx, hb, hml, hown, hts⟩ (x_mark l dC dI q h0 d k z f hI b_21 (-2) ht_23 b0 it_3 P_4 X_5 Y_6 D_7 N_8 hp_9 hb_10 hb_11 hb_12 hb_13 s.heap.size) (cwV 2 hts gX11_takeOff_X9_mark rfl rfl rfl (by decide +kernel) ⟨Nat.le_of_ble_eq_true rfl, Nat.le_of_ble_eq_true rfl⟩) ⟨gx_fb, va_recv hK hP (ci := 8) (q0 := kk_32) rfl hk_33, fun U hU hW => ⟨rfl, by rw [hU], px_to hU hW hP hK hN hXN, hD.weaken (fun _ _ _ _ => trivial)⟩⟩ rfl rfl hl.1 rfl (lv_room (Nat.le_of_ble_eq_true rfl)) dX11_takeOff_12 ⟨Nat.le_of_ble_eq_true rfl, Nat.le_of_ble_eq_true rfl⟩) hS (fun q _ h => hFc q h) hFc (fun w_34 t H1 locs ht hvm hw hB hz1 hk1 hS => ?_)
  obtain ⟨hP, hD1⟩ := hB
  rw [ht] at hP
  rw [hw.2.1] at hP hD1
  have hD := hD1.weaken (fun _ q _ h => hFc q.1 h)
  have hI := hw.2.2
  have hw0 := hw
  generalize w_34.2.2 = f_35 at hP hD hI hw0
  generalize H1 = H at hP hS ⊢
  refine lv_aload_n hx hb dX11_takeOff_15 rfl (lv_at hl 1 rfl) ?_
  obtain ⟨kk_36, hk_37⟩ := pl_at hp_9.1.1 (x_pcF hI hp_9)
  refine va_get (D := (dC, dI)) (ci := 7) (v := va_rf it_3) (C := RX8) (T := TX8) (N := 6) hx hb hts (by decide +kernel) hown hK hP kk_36 hk_37 rfl 0 (by decide) (hts (.fieldLink RX11 304 "PageOne$Piece" "item" "LPageOne$Item;") (by decide +kernel)) (fun _ h9 => h9) rfl dX11_takeOff_16 ?_
  rcases it_3 with _ | b_38
  ·
    refine W.eq (g2 := F0 m 19 ls [.null]) rfl ?_
    refine lv_ifnullN (tgt := 29) hx hb dX11_takeOff_19 (by decide) ?_
    exact W.vret hx hb hr (fun t ht hW => ⟨⟨(k, z, f_35), rfl, ⟨rfl, rfl, hI⟩, by rw [ht]; exact hP, hD⟩, hS.F ht⟩) hS.2.2 dX11_takeOff_29
  ·
    refine W.eq (g2 := F0 m 19 ls [.ref b_38]) rfl ?_
    have ht_39 := (x_pcB hI hp_9).2 b_38 rfl
    refine lv_ifnull hx hb dX11_takeOff_19 ?_
    refine lv_aload_n hx hb dX11_takeOff_22 rfl (lv_at hl 1 rfl) ?_
    obtain ⟨kk_40, hk_41⟩ := pl_at hp_9.1.1 (x_pcF hI hp_9)
    refine va_get (D := (dC, dI)) (ci := 7) (v := .ref b_38) (C := RX8) (T := TX8) (N := 6) hx hb hts (by decide +kernel) hown hK hP kk_40 hk_41 rfl 0 (by decide) (hts (.fieldLink RX11 304 "PageOne$Piece" "item" "LPageOne$Item;") (by decide +kernel)) (fun _ h9 => h9) rfl dX11_takeOff_23 ?_
    have hFc := fr_all hD hS hA
    refine w_cut (X := fun R cells slots Q args => ∀ (w9 : xU) (H : Heap) (locs : List Loc), (w9.1 = k ∧ w9.2.1 = z ∧ xI q h0 d k z w9.2.2) → va_P (dC, dI) vwCl (va_pl w9.2.1.1 w9.2.2) H → va_D A (va_pl w9.2.1.1 w9.2.2) → va_S A s.heap H locs → W p l e R s m args below meth c H locs (cells + 0) (slots + 0) Q (F0 m 29 ls ([]))) ?_ (fun kC => ?_)
    ·
      intro w_42 H locs hw hP hD hS
      rw [hw.2.1] at hP hD
      have hI := hw.2.2
      generalize w_42.2.2 = f_138 at hP hD hI
      exact W.vret hx hb hr (fun t ht hW => ⟨⟨(k, z, f_138), rfl, ⟨rfl, rfl, hI⟩, by rw [ht]; exact hP, hD⟩, hS.F ht⟩) hS.2.2 dX11_takeOff_29
    ·
      rcases x_tag ht_39 with ht9 | ht9 | ht9 | ht9 | ht9 | ht9
      ·
        obtain ⟨nu_43, kd_44, cn_45, pa_46, fa_47, l_48, m_49, hs_50, hs_51, hs_52, hs_53⟩ := x_ifl hI ht9
        obtain ⟨kk_54, hk_55⟩ := pl_at ht9.1 hs_50
        exact va_callv (va_runU (As := []) (rest := []) ⟨hx, hb, hml, hown, hts⟩ (x_loseLast l dC dI q h0 d k z f_35 hI b_38 ht_39 H.size) (va_cwU 0 hts gX11_takeOff_X4_loseLast_u310X2 rfl rfl rfl rfl (by decide +kernel) ⟨Nat.le_of_ble_eq_true rfl, Nat.le_of_ble_eq_true rfl⟩) ⟨gx_fb, va_recv hK hP (ci := 2) (q0 := kk_54) rfl hk_55, fun U hU hW => ⟨rfl, by rw [hU], px_to hU hW hP hK hN hXN, hD.weaken (fun _ _ _ _ => trivial)⟩⟩ rfl rfl hl.1 rfl (lv_room (Nat.le_of_ble_eq_true rfl)) dX11_takeOff_26 ⟨Nat.le_of_ble_eq_true rfl, Nat.le_of_ble_eq_true rfl⟩) hS (fun q _ h => hFc q h) hFc (fun w9 t H1 locs ht hvm hw hB hz1 hk1 hS => kC w9 H1 locs hw (by rw [← ht]; exact hB.1) (hB.2.weaken (fun _ q _ h => hFc q.1 h)) hS)
      ·
        obtain ⟨nu_56, kd_57, cn_58, pa_59, fa_60, o_61, w_62, y_63, hs_64, hs_65, hs_66, hs_67, hq_68⟩ := x_ihd hI ht9
        obtain ⟨kk_69, hk_70⟩ := pl_at ht9.1 hs_64
        exact va_callv (va_runU (As := []) (rest := []) ⟨hx, hb, hml, hown, hts⟩ (x_loseLast l dC dI q h0 d k z f_35 hI b_38 ht_39 H.size) (va_cwU 0 hts gX11_takeOff_X4_loseLast_u310X3 rfl rfl rfl rfl (by decide +kernel) ⟨Nat.le_of_ble_eq_true rfl, Nat.le_of_ble_eq_true rfl⟩) ⟨gx_fb, va_recv hK hP (ci := 3) (q0 := kk_69) rfl hk_70, fun U hU hW => ⟨rfl, by rw [hU], px_to hU hW hP hK hN hXN, hD.weaken (fun _ _ _ _ => trivial)⟩⟩ rfl rfl hl.1 rfl (lv_room (Nat.le_of_ble_eq_true rfl)) dX11_takeOff_26 ⟨Nat.le_of_ble_eq_true rfl, Nat.le_of_ble_eq_true rfl⟩) hS (fun q _ h => hFc q h) hFc (fun w9 t H1 locs ht hvm hw hB hz1 hk1 hS => kC w9 H1 locs hw (by rw [← ht]; exact hB.1) (hB.2.weaken (fun _ q _ h => hFc q.1 h)) hS)
      ·
        obtain ⟨nu_71, kd_72, cn_73, pa_74, fa_75, o_76, y_77, hs_78, hs_79, hs_80, hs_81, hq_82⟩ := x_ino hI ht9
        obtain ⟨kk_83, hk_84⟩ := pl_at ht9.1 hs_78
        exact va_callv (va_runU (As := []) (rest := []) ⟨hx, hb, hml, hown, hts⟩ (x_loseLast l dC dI q h0 d k z f_35 hI b_38 ht_39 H.size) (va_cwU 0 hts gX11_takeOff_X4_loseLast_u310X5 rfl rfl rfl rfl (by decide +kernel) ⟨Nat.le_of_ble_eq_true rfl, Nat.le_of_ble_eq_true rfl⟩) ⟨gx_fb, va_recv hK hP (ci := 4) (q0 := kk_83) rfl hk_84, fun U hU hW => ⟨rfl, by rw [hU], px_to hU hW hP hK hN hXN, hD.weaken (fun _ _ _ _ => trivial)⟩⟩ rfl rfl hl.1 rfl (lv_room (Nat.le_of_ble_eq_true rfl)) dX11_takeOff_26 ⟨Nat.le_of_ble_eq_true rfl, Nat.le_of_ble_eq_true rfl⟩) hS (fun q _ h => hFc q h) hFc (fun w9 t H1 locs ht hvm hw hB hz1 hk1 hS => kC w9 H1 locs hw (by rw [← ht]; exact hB.1) (hB.2.weaken (fun _ q _ h => hFc q.1 h)) hS)
      ·
        obtain ⟨nu_85, kd_86, cn_87, pa_88, fa_89, b_90, pr_91, sp_92, dy_93, hs_94, hs_95, hs_96, hs_97, hq_98, hq_99, hq_100⟩ := x_ipd hI ht9
        obtain ⟨kk_101, hk_102⟩ := pl_at ht9.1 hs_94
        exact va_callv (va_runU (As := []) (rest := []) ⟨hx, hb, hml, hown, hts⟩ (x_loseLast l dC dI q h0 d k z f_35 hI b_38 ht_39 H.size) (va_cwU 0 hts gX11_takeOff_X4_loseLast_u310X6 rfl rfl rfl rfl (by decide +kernel) ⟨Nat.le_of_ble_eq_true rfl, Nat.le_of_ble_eq_true rfl⟩) ⟨gx_fb, va_recv hK hP (ci := 5) (q0 := kk_101) rfl hk_102, fun U hU hW => ⟨rfl, by rw [hU], px_to hU hW hP hK hN hXN, hD.weaken (fun _ _ _ _ => trivial)⟩⟩ rfl rfl hl.1 rfl (lv_room (Nat.le_of_ble_eq_true rfl)) dX11_takeOff_26 ⟨Nat.le_of_ble_eq_true rfl, Nat.le_of_ble_eq_true rfl⟩) hS (fun q _ h => hFc q h) hFc (fun w9 t H1 locs ht hvm hw hB hz1 hk1 hS => kC w9 H1 locs hw (by rw [← ht]; exact hB.1) (hB.2.weaken (fun _ q _ h => hFc q.1 h)) hS)
      ·
        obtain ⟨nu_103, kd_104, cn_105, pa_106, fa_107, ww_108, hh_109, sz_110, hs_111, hs_112, hs_113, hs_114, hq_115, hq_116, hq_117⟩ := x_ipi hI ht9
        obtain ⟨kk_118, hk_119⟩ := pl_at ht9.1 hs_111
        exact va_callv (va_runU (As := []) (rest := []) ⟨hx, hb, hml, hown, hts⟩ (x_loseLast l dC dI q h0 d k z f_35 hI b_38 ht_39 H.size) (va_cwU 0 hts gX11_takeOff_X4_loseLast_u310X7 rfl rfl rfl rfl (by decide +kernel) ⟨Nat.le_of_ble_eq_true rfl, Nat.le_of_ble_eq_true rfl⟩) ⟨gx_fb, va_recv hK hP (ci := 6) (q0 := kk_118) rfl hk_119, fun U hU hW => ⟨rfl, by rw [hU], px_to hU hW hP hK hN hXN, hD.weaken (fun _ _ _ _ => trivial)⟩⟩ rfl rfl hl.1 rfl (lv_room (Nat.le_of_ble_eq_true rfl)) dX11_takeOff_26 ⟨Nat.le_of_ble_eq_true rfl, Nat.le_of_ble_eq_true rfl⟩) hS (fun q _ h => hFc q h) hFc (fun w9 t H1 locs ht hvm hw hB hz1 hk1 hS => kC w9 H1 locs hw (by rw [← ht]; exact hB.1) (hB.2.weaken (fun _ q _ h => hFc q.1 h)) hS)
      ·
        obtain ⟨nu_120, kd_121, cn_122, pa_123, fa_124, l_125, co_126, wd_127, nm_128, hs_129, hs_130, hs_131, hs_132, hq_133, hq_134, hq_135⟩ := x_ist hI ht9
        obtain ⟨kk_136, hk_137⟩ := pl_at ht9.1 hs_129
        exact va_callv (va_runU (As := []) (rest := []) ⟨hx, hb, hml, hown, hts⟩ (x_loseLast l dC dI q h0 d k z f_35 hI b_38 ht_39 H.size) (va_cwU 0 hts gX11_takeOff_X4_loseLast_u310X10 rfl rfl rfl rfl (by decide +kernel) ⟨Nat.le_of_ble_eq_true rfl, Nat.le_of_ble_eq_true rfl⟩) ⟨gx_fb, va_recv hK hP (ci := 9) (q0 := kk_136) rfl hk_137, fun U hU hW => ⟨rfl, by rw [hU], px_to hU hW hP hK hN hXN, hD.weaken (fun _ _ _ _ => trivial)⟩⟩ rfl rfl hl.1 rfl (lv_room (Nat.le_of_ble_eq_true rfl)) dX11_takeOff_26 ⟨Nat.le_of_ble_eq_true rfl, Nat.le_of_ble_eq_true rfl⟩) hS (fun q _ h => hFc q h) hFc (fun w9 t H1 locs ht hvm hw hB hz1 hk1 hS => kC w9 H1 locs hw (by rw [← ht]; exact hB.1) (hB.2.weaken (fun _ q _ h => hFc q.1 h)) hS)
