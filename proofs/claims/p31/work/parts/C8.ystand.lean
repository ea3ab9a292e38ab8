theorem gU_mput (u : mS) (S : Nat → Int32) (i : Int32) (P X Y D N : Nat) {r : Nat} (h : r ≠ 2) : (gU (mput u 2 S) i P X Y D N).2 r = (gU u i P X Y D N).2 r := by
  have hm : ∀ r, r ≠ 2 → (mput u 2 S).2 r = u.2 r := fun r hr => mput_other hr
  by_cases h1 : r < 22 ∨ 27 < r
  · rw [gU_k _ _ _ _ _ _ _ h1, gU_k _ _ _ _ _ _ _ h1, hm r h]
  · funext j
    obtain ⟨p1, p2, p3, p4, p5⟩ := gU_p (mput u 2 S) i P X Y D N j
    obtain ⟨q1, q2, q3, q4, q5⟩ := gU_p u i P X Y D N j
    rcases (show r = 22 ∨ r = 23 ∨ r = 24 ∨ r = 25 ∨ r = 26 ∨ r = 27 by omega) with e | e | e | e | e | e <;> subst e
    · rw [gU_22, gU_22, hm 22 (by decide)]
    · rw [p1, q1, hm 22 (by decide), hm 23 (by decide)]
    · rw [p2, q2, hm 22 (by decide), hm 24 (by decide)]
    · rw [p3, q3, hm 22 (by decide), hm 25 (by decide)]
    · rw [p4, q4, hm 22 (by decide), hm 26 (by decide)]
    · rw [p5, q5, hm 22 (by decide), hm 27 (by decide)]
theorem rep_std {q d u z f} {i : Int32} {P X Y D N : Nat} (h : rep q d (gU (mput u 2 (setR (u.2 2) P X Y N i D)) i P X Y D N) z f) : rep q d (mStand u i P X Y D N) z f := by
  have e : ∀ r, (mStand u i P X Y D N).2 r = (gU (mput u 2 (setR (u.2 2) P X Y N i D)) i P X Y D N).2 r := fun r => by
    by_cases h2 : r = 2
    · subst h2
      rw [mStand_2, gU_k _ _ _ _ _ _ _ (by decide)]; rfl
    · rw [gU_mput _ _ _ _ _ _ _ _ h2, mStand_gU, mput_other h2]
  exact rep_ext h rfl (fun r _ => e r) (fun r _ _ j _ t _ => by rw [e r])
theorem rep_ust {q d u z f} {i : Int32} {P X Y D N : Nat} (h : rep q d (lU (mput u 2 (setR (u.2 2) P X Y N (-2) D)) i) z f) : rep q d (mUnstand u i P X Y D N) z f := by
  have e : ∀ r, (mUnstand u i P X Y D N).2 r = (lU (mput u 2 (setR (u.2 2) P X Y N (-2) D)) i).2 r := fun r => by
    by_cases h2 : r = 2
    · subst h2
      rw [mUnstand_2]
      unfold lU
      rw [mst_other (by decide)]; rfl
    · rw [mUnstand_lU, mput_other h2]
      unfold lU
      funext j
      by_cases h3 : r = 22
      · subst h3
        rw [mst_at, mst_at]; rfl
      · rw [mst_other h3, mst_other h3, mput_other h2]
  exact rep_ext h rfl (fun r _ => e r) (fun r _ _ j _ t _ => by rw [e r])
theorem gain_3 {q z f} {a pa fa b0 n x : Nat} {nu kd cn : Int32} {rs : List Value} {g : Nat → Option Nat} (h1 : x ≠ a) (h2 : x ≠ pa) : s_gain_f q z f a pa fa b0 n nu kd cn rs g x = f x := by
  unfold s_gain_f
  split
  · rfl
  · rw [up_o h1, up_o h2]
theorem lose_3 {q z f} {a pa fa n x : Nat} {nu kd cn : Int32} {rs : List Value} {g : Nat → Option Nat} (h1 : x ≠ a) (h2 : x ≠ pa) : s_lose_f q z f a pa fa n nu kd cn rs g x = f x := by
  unfold s_lose_f
  split
  · rfl
  · rw [up_o h2, up_o h1]
theorem nIm1 {a : Nat} (h : a < 80) : ¬ nI a = (-1) := fun e => by
  have := congrArg Int32.toInt e
  rw [nI_toInt (by omega), show (-1 : Int32).toInt = -1 from rfl] at this
  omega
theorem hrmL {c : Int32} {n m : Nat} (h6 : n ≤ 6) (h : bw c 0 (nI n) = true) (e : n = m) (hm : c.toNatClampNeg < m) : c < nI n := by
  obtain ⟨e1, e2⟩ := cnN h6 h
  rw [i32_lt, e1, nI_toInt (by omega), nI_toInt (by omega)]
  omega
theorem posL {c : Int32} {n : Nat} (h6 : n ≤ 6) (h : bw c 0 (nI n) = true) (hm : 0 < c.toNatClampNeg) : ¬ c ≤ 0 := by
  obtain ⟨e1, e2⟩ := cnN h6 h
  rw [i32_le, e1, nI_toInt (by omega), i0]
  omega
set_option maxHeartbeats 4000000 in
set_option maxRecDepth 100000 in
theorem y_standI (l : Launch) (dC : Nat → ClassId) (dI : Nat → Nat → Nat) (q : Nat → ClassId) (h0 : Nat) (d : Nat → Nat) (k : Nat → Int32) (z : gS) (f : xF) (hI : xI q h0 d k z f) (b0 P X Y D N : Nat) (u : mS) (hrp : rep q d u z f) (hk0 : k 0 = u.1 3) (hk1 : k 1 = u.1 28) (hk2 : k 2 = u.1 38) (hk3 : k 3 = u.1 39) (hP9 : P < 12) (hX : X + D ≤ 8) (hD1 : 1 ≤ D) (hY : Y + N ≤ 60) (hin : ∀ a, a < D → Y + N ≤ (u.2 0 (8 * P + (X + a))).toNatClampNeg) (hne : ∀ j, j < 5760 → ¬ u.2 2 j = (-1)) (i0 : Nat) (hi0 : i0 < (u.1 3).toNatClampNeg) (hpc : pcS z b0 (some (d (2000 + i0))) (nI P) (nI X) (nI Y) (nI D) (nI N)) (hrm : (u.2 22 i0).toNatClampNeg < (if u.2 4 i0 = 0 then 6 else 1)) (sz : Nat) : Met l yX11_stand wsX11_stand ({ frames := 4, cells := 0, slots := 0, locals := 88 }) (va_Pc [.ref h0, .ref b0] (fun U => U.heap.size = sz ∧ PX dC dI (va_pl z.1 f) (xT q) U ∧ va_D (fun _ => True) (va_pl z.1 f))) (va_Qv (fun (w : xU) => w.1 = k ∧ w.2.1 = z ∧ xI q h0 d k z w.2.2 ∧ rep q d (mStand u (nI i0) P X Y D N) z w.2.2 ∧ w.2.2 (d 3) = f (d 3)) (fun (w : xU) t => va_P (dC, dI) vwCl (va_pl w.2.1.1 w.2.2) t.heap ∧ va_D (va_A (va_pl z.1 f) sz) (va_pl w.2.1.1 w.2.2)) (va_A (va_pl z.1 f) sz)) 0 0 (va_A (va_pl z.1 f) sz) := by
  refine Met.ofW (cc := cX11_stand) (maxL := 2) (ret := none) (by decide) rfl ?_
  intro p e s m args below meth c s₁ B hml hv
  obtain ⟨rfl, hsz, ⟨⟨hP, hK, hN⟩, hXN⟩, hD0⟩ := hv
  have hx := B.exec
  have hb := B.bytes
  have hr := B.returns
  have hts := atoms_spec (ws := wsX11_stand) B.pre
  have hown : s.vm.findClass RX11 = some m.cls := findClass_of_methodNamed B.named
  have hlocks := B.notSynchronized
  subst hsz
  have hD := hD0.self (sz := s.heap.size)
  generalize hAe : va_A (va_pl z.1 f) s.heap.size = A at hD ⊢
  have hA : ∀ q : Nat, s.heap.size ≤ q → A q := fun q h => by rw [← hAe]; exact Or.inr h
  have hS : va_S A s.heap s.heap [] := va_S.rf
  have hl := lv_entry ([.ref h0, .ref b0]) (n := 2) (Nat.le_of_ble_eq_true rfl)
  rw [lg_entry_eq]
  generalize (lg_sl ([.ref h0, .ref b0]) ++ List.replicate (2 - (lg_sl ([.ref h0, .ref b0])).length) Slot.unset).toArray = ls at hl ⊢
  have hl : lv_has ls 2 [(0, .ref h0), (1, .ref b0)] := hl
  have hlgb := lg_of hpc ⟨b7n (by omega), b60n (by omega), bwN (by have e8 : (8 : Int32).toInt = 8 := rfl; rw [e8]; omega) (by omega), b60n (by omega)⟩
  obtain ⟨rs_1, n_2, g_3, fg_4, hit_5, hs_6, hpa_7, hps_8, h1_9, h6_10, hcb_11, hpl_12, hlg_13, hnn_14, hfa_15, hfs_16, hfe_17, hrs_18, hkt_19⟩ := it_all hI hrp.2.2.1 hi0
  have hi8 : i0 < 80 := by have := w80i hI.1.1 hk0; omega
  refine lv_aload_n hx hb dX11_stand_0 rfl (lv_at hl 0 rfl) ?_
  obtain ⟨kk_20, hk_21⟩ := pl_at hI.2.1.1.1 hI.2.2.2.1.1
  refine va_get (D := (dC, dI)) (ci := 10) (v := .ref (d 0)) (C := RX11) (T := TX11) (N := 9) hx hb hts zl_X11_stand_X11 hown hK hP kk_20 hk_21 rfl 0 (by decide) (hts (.fieldLink RX11 11 "PageOne" "pages" "[LPageOne$Sheet;") (zat q_wsX11_stand k_wsX11_stand 112 rfl (by decide +kernel))) (fun _ h9 => h9) rfl dX11_stand_1 ?_
  refine lv_aload_n hx hb dX11_stand_4 rfl (lv_at hl 1 rfl) ?_
  obtain ⟨kk_22, hk_23⟩ := pl_at hpc.1.1 (x_pcF hI hpc)
  refine va_get (D := (dC, dI)) (ci := 7) (v := .int (nI P)) (C := RX8) (T := TX8) (N := 6) hx hb hts zl_X11_stand_X8 hown hK hP kk_22 hk_23 rfl 1 (by decide) (hts (.fieldLink RX11 229 "PageOne$Piece" "page" "I") (zat q_wsX11_stand k_wsX11_stand 321 rfl (by decide +kernel))) (fun _ h9 => h9) rfl dX11_stand_5 ?_
  obtain ⟨g_24, hs_25, hg_26⟩ := x_pg hI hI.2.1.2.1
  obtain ⟨kk_27, hk_28⟩ := pl_at hI.2.1.2.1.1 hs_25
  refine va_aldq hx hb hK hP kk_27 2 hk_28 rfl (vp_in_nI hP9 (by decide)) dX11_stand_8 ?_
  obtain ⟨b_29, hg_30, ht_31⟩ := hg_26 _ (vlt (vp_in_nI hP9 (by decide)))
  rw [hg_30]
  refine W.eq (g2 := F0 m 9 ls [.ref b_29]) rfl ?_
  have hb_32 := pg_at hrp.1 hs_25 hP9 (by rw [nI_clamp (by omega)] at hg_30; exact hg_30)
  subst hb_32
  obtain ⟨dd_33, ii_34, gl_35, gc_36, ht_37, ht_38, ht_39, hs_40, hg_41, hgb_42, hc_43, el_44, ec_45⟩ := pg_all hI hrp.1 hP9
  refine lv_aload_n hx hb dX11_stand_9 rfl (lv_at hl 1 rfl) ?_
  refine lv_aload_n hx hb dX11_stand_10 rfl (lv_at hl 1 rfl) ?_
  obtain ⟨kk_46, hk_47⟩ := pl_at hpc.1.1 (x_pcF hI hpc)
  refine vp_callSi (va_runV (As := []) (rest := [.ref b0, .ref (d (10 + P))]) ⟨hx, hb, hml, hown, hts⟩ (y_signS l dC dI q h0 d k z f hI b0 (d (2000 + i0)) (nI P) (nI X) (nI Y) (nI D) (nI N) hpc hit_5 (nI i0) (u.2 4 i0) (u.2 22 i0) (d (3000 + i0)) (d (4000 + i0)) rs_1 hs_6) (cwV 0 hts gX11_stand_X8_sign rfl rfl rfl zh_X8_sign_55 ⟨Nat.le_of_ble_eq_true rfl, Nat.le_of_ble_eq_true rfl⟩) ⟨px_fb, va_recv hK hP (ci := 7) (q0 := kk_46) rfl hk_47, fun U hU hW => ⟨rfl, px_to hU hW hP hK hN hXN⟩⟩ rfl rfl hl.1 rfl (lv_room (Nat.le_of_ble_eq_true rfl)) dX11_stand_11 ⟨Nat.le_of_ble_eq_true rfl, Nat.le_of_ble_eq_true rfl⟩).run (fun r hw => ?_)
  obtain rfl : r = nI i0 := hw
  obtain ⟨kk_48, hk_49⟩ := pl_at ht_37.1 hs_40
  have hFc := fr_all hD hS hA
  refine va_callv (va_runV (As := [.ref b0, .int (nI i0)]) (rest := []) ⟨hx, hb, hml, hown, hts⟩ (y_mark l dC dI q h0 d k z f hI (d (10 + P)) (d (30 + P)) (d (50 + P)) (u.2 1 P) dd_33 ii_34 gl_35 gc_36 ht_37 hs_40 ht_38 ht_39 hg_41 hgb_42 hc_43 (nI i0) b0 (some (d (2000 + i0))) (nI P) X Y D N hpc (by omega) (by omega) (by omega) (by omega) hX (fun a ha => by rw [el_44 (X + a) (by omega)]; exact hin a ha) (fun j hj => by rw [ec_45 j hj]; exact hne _ (by omega)) (nIm1 hi8) s.heap.size) (cwV 2 hts gX11_stand_X9_mark rfl rfl rfl zh_X9_mark_56 ⟨Nat.le_of_ble_eq_true rfl, Nat.le_of_ble_eq_true rfl⟩) ⟨gx_fb, va_recv hK hP (ci := 8) (q0 := kk_48) rfl hk_49, fun U hU hW => ⟨rfl, by rw [hU], px_to hU hW hP hK hN hXN, hD.weaken (fun _ _ _ _ => trivial)⟩⟩ rfl rfl hl.1 rfl (lv_room (Nat.le_of_ble_eq_true rfl)) dX11_stand_14 ⟨Nat.le_of_ble_eq_true rfl, Nat.le_of_ble_eq_true rfl⟩) hS (fun q _ h => hFc q h) hFc (fun w_50 t H1 locs ht hvm hw hB hz1 hk1 hS => ?_)
  obtain ⟨hP, hD1⟩ := hB
  rw [ht] at hP
  rw [hw.2.1] at hP hD1
  have hD := hD1.weaken (fun _ q _ h => hFc q.1 h)
  have hI := hw.2.2.1
  have hw0 := hw
  generalize w_50.2.2 = f_51 at hP hD hI hw0
  generalize H1 = H at hP hS ⊢
  obtain ⟨u2, eu2⟩ : ∃ y : mS, y = mput u 2 (setR (u.2 2) P X Y N (nI i0) D) := ⟨_, rfl⟩
  have hrp2 : rep q d u2 z f_51 := by rw [eu2, hw0.2.2.2]; exact rep_mark hrp hP9 hX hY hc_43
  have h3m : f_51 (d 3) = f (d 3) := by rw [hw0.2.2.2]; exact up_o (tg_ne hrp.2.2.2.2.2.2.2.1.1 ht_39 (by decide))
  have hI2 := hI
  have hi2 : i0 < (u2.1 3).toNatClampNeg := by rw [eu2]; exact hi0
  obtain ⟨rs_52, n_53, g_54, fg_55, hit_56, hs_57, hpa_58, hps_59, h1_60, h6_61, hcb_62, hpl_63, hlg_64, hnn_65, hfa_66, hfs_67, hfe_68, hrs_69, hkt_70⟩ := it_all hI hrp2.2.2.1 hi2
  refine lv_aload_n hx hb dX11_stand_17 rfl (lv_at hl 1 rfl) ?_
  obtain ⟨kk_71, hk_72⟩ := pl_at hpc.1.1 (x_pcF hI hpc)
  refine va_get (D := (dC, dI)) (ci := 7) (v := .ref (d (2000 + i0))) (C := RX8) (T := TX8) (N := 6) hx hb hts zl_X11_stand_X8 hown hK hP kk_71 hk_72 rfl 0 (by decide) (hts (.fieldLink RX11 304 "PageOne$Piece" "item" "LPageOne$Item;") (zat q_wsX11_stand k_wsX11_stand 316 rfl (by decide +kernel))) (fun _ h9 => h9) rfl dX11_stand_18 ?_
  refine lv_ifnull hx hb dX11_stand_21 ?_
  refine lv_aload_n hx hb dX11_stand_24 rfl (lv_at hl 1 rfl) ?_
  obtain ⟨kk_73, hk_74⟩ := pl_at hpc.1.1 (x_pcF hI hpc)
  refine va_get (D := (dC, dI)) (ci := 7) (v := .ref (d (2000 + i0))) (C := RX8) (T := TX8) (N := 6) hx hb hts zl_X11_stand_X8 hown hK hP kk_73 hk_74 rfl 0 (by decide) (hts (.fieldLink RX11 304 "PageOne$Piece" "item" "LPageOne$Item;") (zat q_wsX11_stand k_wsX11_stand 316 rfl (by decide +kernel))) (fun _ h9 => h9) rfl dX11_stand_25 ?_
  refine lv_aload_n hx hb dX11_stand_28 rfl (lv_at hl 1 rfl) ?_
  have hFc := fr_all hD hS hA
  refine w_cut (X := fun R cells slots Q args => ∀ (w9 : xU) (H : Heap) (locs : List Loc), (w9.1 = k ∧ w9.2.1 = z ∧ xI q h0 d k z w9.2.2 ∧ w9.2.2 = s_gain_f q z f_51 (d (2000 + i0)) (d (3000 + i0)) (d (4000 + i0)) b0 n_53 (nI i0) (u2.2 4 i0) (u2.2 22 i0) rs_52 g_54) → va_P (dC, dI) vwCl (va_pl w9.2.1.1 w9.2.2) H → va_D A (va_pl w9.2.1.1 w9.2.2) → va_S A s.heap H locs → W p l e R s m args below meth c H locs (cells + 0) (slots + 0) Q (F0 m 32 ls ([]))) ?_ (fun kC => ?_)
  ·
    intro w_75 H locs hw hP hD hS
    rw [hw.2.1] at hP hD
    have hI := hw.2.2.1
    have hw0 := hw
    generalize w_75.2.2 = f_171 at hP hD hI hw0
    exact W.vret hx hb hr (fun t ht hW => ⟨⟨(k, z, f_171), rfl, ⟨rfl, rfl, hI, by subst eu2; rw [hw0.2.2.2]; unfold s_gain_f; rw [if_neg (fun h9 => bP_0 h9 (hrmL h6_61 hcb_62 hnn_65 hrm))]; exact rep_std (rep_gain hI2 hrp2 (by show bw (u.1 3) 0 80 = true; rw [← hk0]; exact hI.1.1) hi0 hnn_65 hs_57 hps_59 hcb_62 (by rw [hnn_65]; exact hrm) hpc), by show f_171 (d 3) = f (d 3); rw [hw0.2.2.2, gain_3 (Ne.symm (itm_ne hit_56 hrp.2.2.2.2.2.2.2.1.1 (by decide))) (tg_ne hrp.2.2.2.2.2.2.2.1.1 hpa_58 (by decide))]; exact h3m⟩, by rw [ht]; exact hP, hD⟩, hS.F ht⟩) hS.2.2 dX11_stand_32
  ·
    rcases x_tag hit_56 with ht9 | ht9 | ht9 | ht9 | ht9 | ht9
    ·
      obtain ⟨nu_76, kd_77, cn_78, pa_79, fa_80, l_81, m_82, hs_83, hs_84, hs_85, hs_86⟩ := x_ifl hI ht9
      obtain ⟨kk_87, hk_88⟩ := pl_at ht9.1 hs_83
      exact va_callv (va_runU (As := [.ref b0]) (rest := []) ⟨hx, hb, hml, hown, hts⟩ (y_gain l dC dI q h0 d k z f_51 hI (d (2000 + i0)) hit_56 (nI i0) (u2.2 4 i0) (u2.2 22 i0) (d (3000 + i0)) (d (4000 + i0)) rs_52 hs_57 n_53 g_54 hpa_58 hps_59 h1_60 h6_61 hcb_62 (fun j hj => by obtain ⟨b9, it9, e9, -⟩ := hpl_63 j hj; exact ⟨b9, e9⟩) hlg_64 b0 hlgb H.size) (va_cwU 1 hts gX11_stand_X4_gain_u307X2 rfl rfl rfl rfl zu_57 ⟨Nat.le_of_ble_eq_true rfl, Nat.le_of_ble_eq_true rfl⟩) ⟨gx_fb, va_recv hK hP (ci := 2) (q0 := kk_87) rfl hk_88, fun U hU hW => ⟨rfl, by rw [hU], px_to hU hW hP hK hN hXN, hD.weaken (fun _ _ _ _ => trivial)⟩⟩ rfl rfl hl.1 rfl (lv_room (Nat.le_of_ble_eq_true rfl)) dX11_stand_29 ⟨Nat.le_of_ble_eq_true rfl, Nat.le_of_ble_eq_true rfl⟩) hS (fun q _ h => hFc q h) hFc (fun w9 t H1 locs ht hvm hw hB hz1 hk1 hS => kC w9 H1 locs hw (by rw [← ht]; exact hB.1) (hB.2.weaken (fun _ q _ h => hFc q.1 h)) hS)
    ·
      obtain ⟨nu_89, kd_90, cn_91, pa_92, fa_93, o_94, w_95, y_96, hs_97, hs_98, hs_99, hs_100, hq_101⟩ := x_ihd hI ht9
      obtain ⟨kk_102, hk_103⟩ := pl_at ht9.1 hs_97
      exact va_callv (va_runU (As := [.ref b0]) (rest := []) ⟨hx, hb, hml, hown, hts⟩ (y_gain l dC dI q h0 d k z f_51 hI (d (2000 + i0)) hit_56 (nI i0) (u2.2 4 i0) (u2.2 22 i0) (d (3000 + i0)) (d (4000 + i0)) rs_52 hs_57 n_53 g_54 hpa_58 hps_59 h1_60 h6_61 hcb_62 (fun j hj => by obtain ⟨b9, it9, e9, -⟩ := hpl_63 j hj; exact ⟨b9, e9⟩) hlg_64 b0 hlgb H.size) (va_cwU 1 hts gX11_stand_X4_gain_u307X3 rfl rfl rfl rfl zu_57 ⟨Nat.le_of_ble_eq_true rfl, Nat.le_of_ble_eq_true rfl⟩) ⟨gx_fb, va_recv hK hP (ci := 3) (q0 := kk_102) rfl hk_103, fun U hU hW => ⟨rfl, by rw [hU], px_to hU hW hP hK hN hXN, hD.weaken (fun _ _ _ _ => trivial)⟩⟩ rfl rfl hl.1 rfl (lv_room (Nat.le_of_ble_eq_true rfl)) dX11_stand_29 ⟨Nat.le_of_ble_eq_true rfl, Nat.le_of_ble_eq_true rfl⟩) hS (fun q _ h => hFc q h) hFc (fun w9 t H1 locs ht hvm hw hB hz1 hk1 hS => kC w9 H1 locs hw (by rw [← ht]; exact hB.1) (hB.2.weaken (fun _ q _ h => hFc q.1 h)) hS)
    ·
      obtain ⟨nu_104, kd_105, cn_106, pa_107, fa_108, o_109, y_110, hs_111, hs_112, hs_113, hs_114, hq_115⟩ := x_ino hI ht9
      obtain ⟨kk_116, hk_117⟩ := pl_at ht9.1 hs_111
      exact va_callv (va_runU (As := [.ref b0]) (rest := []) ⟨hx, hb, hml, hown, hts⟩ (y_gain l dC dI q h0 d k z f_51 hI (d (2000 + i0)) hit_56 (nI i0) (u2.2 4 i0) (u2.2 22 i0) (d (3000 + i0)) (d (4000 + i0)) rs_52 hs_57 n_53 g_54 hpa_58 hps_59 h1_60 h6_61 hcb_62 (fun j hj => by obtain ⟨b9, it9, e9, -⟩ := hpl_63 j hj; exact ⟨b9, e9⟩) hlg_64 b0 hlgb H.size) (va_cwU 1 hts gX11_stand_X4_gain_u307X5 rfl rfl rfl rfl zu_57 ⟨Nat.le_of_ble_eq_true rfl, Nat.le_of_ble_eq_true rfl⟩) ⟨gx_fb, va_recv hK hP (ci := 4) (q0 := kk_116) rfl hk_117, fun U hU hW => ⟨rfl, by rw [hU], px_to hU hW hP hK hN hXN, hD.weaken (fun _ _ _ _ => trivial)⟩⟩ rfl rfl hl.1 rfl (lv_room (Nat.le_of_ble_eq_true rfl)) dX11_stand_29 ⟨Nat.le_of_ble_eq_true rfl, Nat.le_of_ble_eq_true rfl⟩) hS (fun q _ h => hFc q h) hFc (fun w9 t H1 locs ht hvm hw hB hz1 hk1 hS => kC w9 H1 locs hw (by rw [← ht]; exact hB.1) (hB.2.weaken (fun _ q _ h => hFc q.1 h)) hS)
    ·
      obtain ⟨nu_118, kd_119, cn_120, pa_121, fa_122, b_123, pr_124, sp_125, dy_126, hs_127, hs_128, hs_129, hs_130, hq_131, hq_132, hq_133⟩ := x_ipd hI ht9
      obtain ⟨kk_134, hk_135⟩ := pl_at ht9.1 hs_127
      exact va_callv (va_runU (As := [.ref b0]) (rest := []) ⟨hx, hb, hml, hown, hts⟩ (y_gain l dC dI q h0 d k z f_51 hI (d (2000 + i0)) hit_56 (nI i0) (u2.2 4 i0) (u2.2 22 i0) (d (3000 + i0)) (d (4000 + i0)) rs_52 hs_57 n_53 g_54 hpa_58 hps_59 h1_60 h6_61 hcb_62 (fun j hj => by obtain ⟨b9, it9, e9, -⟩ := hpl_63 j hj; exact ⟨b9, e9⟩) hlg_64 b0 hlgb H.size) (va_cwU 1 hts gX11_stand_X4_gain_u307X6 rfl rfl rfl rfl zu_57 ⟨Nat.le_of_ble_eq_true rfl, Nat.le_of_ble_eq_true rfl⟩) ⟨gx_fb, va_recv hK hP (ci := 5) (q0 := kk_134) rfl hk_135, fun U hU hW => ⟨rfl, by rw [hU], px_to hU hW hP hK hN hXN, hD.weaken (fun _ _ _ _ => trivial)⟩⟩ rfl rfl hl.1 rfl (lv_room (Nat.le_of_ble_eq_true rfl)) dX11_stand_29 ⟨Nat.le_of_ble_eq_true rfl, Nat.le_of_ble_eq_true rfl⟩) hS (fun q _ h => hFc q h) hFc (fun w9 t H1 locs ht hvm hw hB hz1 hk1 hS => kC w9 H1 locs hw (by rw [← ht]; exact hB.1) (hB.2.weaken (fun _ q _ h => hFc q.1 h)) hS)
    ·
      obtain ⟨nu_136, kd_137, cn_138, pa_139, fa_140, ww_141, hh_142, sz_143, hs_144, hs_145, hs_146, hs_147, hq_148, hq_149, hq_150⟩ := x_ipi hI ht9
      obtain ⟨kk_151, hk_152⟩ := pl_at ht9.1 hs_144
      exact va_callv (va_runU (As := [.ref b0]) (rest := []) ⟨hx, hb, hml, hown, hts⟩ (y_gain l dC dI q h0 d k z f_51 hI (d (2000 + i0)) hit_56 (nI i0) (u2.2 4 i0) (u2.2 22 i0) (d (3000 + i0)) (d (4000 + i0)) rs_52 hs_57 n_53 g_54 hpa_58 hps_59 h1_60 h6_61 hcb_62 (fun j hj => by obtain ⟨b9, it9, e9, -⟩ := hpl_63 j hj; exact ⟨b9, e9⟩) hlg_64 b0 hlgb H.size) (va_cwU 1 hts gX11_stand_X4_gain_u307X7 rfl rfl rfl rfl zu_57 ⟨Nat.le_of_ble_eq_true rfl, Nat.le_of_ble_eq_true rfl⟩) ⟨gx_fb, va_recv hK hP (ci := 6) (q0 := kk_151) rfl hk_152, fun U hU hW => ⟨rfl, by rw [hU], px_to hU hW hP hK hN hXN, hD.weaken (fun _ _ _ _ => trivial)⟩⟩ rfl rfl hl.1 rfl (lv_room (Nat.le_of_ble_eq_true rfl)) dX11_stand_29 ⟨Nat.le_of_ble_eq_true rfl, Nat.le_of_ble_eq_true rfl⟩) hS (fun q _ h => hFc q h) hFc (fun w9 t H1 locs ht hvm hw hB hz1 hk1 hS => kC w9 H1 locs hw (by rw [← ht]; exact hB.1) (hB.2.weaken (fun _ q _ h => hFc q.1 h)) hS)
    ·
      obtain ⟨nu_153, kd_154, cn_155, pa_156, fa_157, l_158, co_159, wd_160, nm_161, hs_162, hs_163, hs_164, hs_165, hq_166, hq_167, hq_168⟩ := x_ist hI ht9
      obtain ⟨kk_169, hk_170⟩ := pl_at ht9.1 hs_162
      exact va_callv (va_runU (As := [.ref b0]) (rest := []) ⟨hx, hb, hml, hown, hts⟩ (y_gain l dC dI q h0 d k z f_51 hI (d (2000 + i0)) hit_56 (nI i0) (u2.2 4 i0) (u2.2 22 i0) (d (3000 + i0)) (d (4000 + i0)) rs_52 hs_57 n_53 g_54 hpa_58 hps_59 h1_60 h6_61 hcb_62 (fun j hj => by obtain ⟨b9, it9, e9, -⟩ := hpl_63 j hj; exact ⟨b9, e9⟩) hlg_64 b0 hlgb H.size) (va_cwU 1 hts gX11_stand_X4_gain_u307X10 rfl rfl rfl rfl zu_57 ⟨Nat.le_of_ble_eq_true rfl, Nat.le_of_ble_eq_true rfl⟩) ⟨gx_fb, va_recv hK hP (ci := 9) (q0 := kk_169) rfl hk_170, fun U hU hW => ⟨rfl, by rw [hU], px_to hU hW hP hK hN hXN, hD.weaken (fun _ _ _ _ => trivial)⟩⟩ rfl rfl hl.1 rfl (lv_room (Nat.le_of_ble_eq_true rfl)) dX11_stand_29 ⟨Nat.le_of_ble_eq_true rfl, Nat.le_of_ble_eq_true rfl⟩) hS (fun q _ h => hFc q h) hFc (fun w9 t H1 locs ht hvm hw hB hz1 hk1 hS => kC w9 H1 locs hw (by rw [← ht]; exact hB.1) (hB.2.weaken (fun _ q _ h => hFc q.1 h)) hS)
set_option maxHeartbeats 4000000 in
set_option maxRecDepth 100000 in
theorem y_offI (l : Launch) (dC : Nat → ClassId) (dI : Nat → Nat → Nat) (q : Nat → ClassId) (h0 : Nat) (d : Nat → Nat) (k : Nat → Int32) (z : gS) (f : xF) (hI : xI q h0 d k z f) (b0 P X Y D N : Nat) (u : mS) (hrp : rep q d u z f) (hk0 : k 0 = u.1 3) (hk1 : k 1 = u.1 28) (hk2 : k 2 = u.1 38) (hk3 : k 3 = u.1 39) (hP9 : P < 12) (hX : X + D ≤ 8) (hD1 : 1 ≤ D) (hY : Y + N ≤ 60) (hin : ∀ a, a < D → Y + N ≤ (u.2 0 (8 * P + (X + a))).toNatClampNeg) (hne : ∀ j, j < 5760 → ¬ u.2 2 j = (-1)) (i0 : Nat) (hi0 : i0 < (u.1 3).toNatClampNeg) (hpc : pcS z b0 (some (d (2000 + i0))) (nI P) (nI X) (nI Y) (nI D) (nI N)) (hrm : 0 < (u.2 22 i0).toNatClampNeg) (sz : Nat) : Met l yX11_takeOff wsX11_takeOff ({ frames := 4, cells := 0, slots := 0, locals := 88 }) (va_Pc [.ref h0, .ref b0] (fun U => U.heap.size = sz ∧ PX dC dI (va_pl z.1 f) (xT q) U ∧ va_D (fun _ => True) (va_pl z.1 f))) (va_Qv (fun (w : xU) => w.1 = k ∧ w.2.1 = z ∧ xI q h0 d k z w.2.2 ∧ rep q d (mUnstand u (nI i0) P X Y D N) z w.2.2 ∧ w.2.2 (d 3) = f (d 3)) (fun (w : xU) t => va_P (dC, dI) vwCl (va_pl w.2.1.1 w.2.2) t.heap ∧ va_D (va_A (va_pl z.1 f) sz) (va_pl w.2.1.1 w.2.2)) (va_A (va_pl z.1 f) sz)) 0 0 (va_A (va_pl z.1 f) sz) := by
  refine Met.ofW (cc := cX11_takeOff) (maxL := 2) (ret := none) (by decide) rfl ?_
  intro p e s m args below meth c s₁ B hml hv
  obtain ⟨rfl, hsz, ⟨⟨hP, hK, hN⟩, hXN⟩, hD0⟩ := hv
  have hx := B.exec
  have hb := B.bytes
  have hr := B.returns
  have hts := atoms_spec (ws := wsX11_takeOff) B.pre
  have hown : s.vm.findClass RX11 = some m.cls := findClass_of_methodNamed B.named
  have hlocks := B.notSynchronized
  subst hsz
  have hD := hD0.self (sz := s.heap.size)
  generalize hAe : va_A (va_pl z.1 f) s.heap.size = A at hD ⊢
  have hA : ∀ q : Nat, s.heap.size ≤ q → A q := fun q h => by rw [← hAe]; exact Or.inr h
  have hS : va_S A s.heap s.heap [] := va_S.rf
  have hl := lv_entry ([.ref h0, .ref b0]) (n := 2) (Nat.le_of_ble_eq_true rfl)
  rw [lg_entry_eq]
  generalize (lg_sl ([.ref h0, .ref b0]) ++ List.replicate (2 - (lg_sl ([.ref h0, .ref b0])).length) Slot.unset).toArray = ls at hl ⊢
  have hl : lv_has ls 2 [(0, .ref h0), (1, .ref b0)] := hl
  have hlgb := lg_of hpc ⟨b7n (by omega), b60n (by omega), bwN (by have e8 : (8 : Int32).toInt = 8 := rfl; rw [e8]; omega) (by omega), b60n (by omega)⟩
  obtain ⟨rs_1, n_2, g_3, fg_4, hit_5, hs_6, hpa_7, hps_8, h1_9, h6_10, hcb_11, hpl_12, hlg_13, hnn_14, hfa_15, hfs_16, hfe_17, hrs_18, hkt_19⟩ := it_all hI hrp.2.2.1 hi0
  have hi8 : i0 < 80 := by have := w80i hI.1.1 hk0; omega
  refine lv_aload_n hx hb dX11_takeOff_0 rfl (lv_at hl 0 rfl) ?_
  obtain ⟨kk_20, hk_21⟩ := pl_at hI.2.1.1.1 hI.2.2.2.1.1
  refine va_get (D := (dC, dI)) (ci := 10) (v := .ref (d 0)) (C := RX11) (T := TX11) (N := 9) hx hb hts zl_X11_takeOff_X11 hown hK hP kk_20 hk_21 rfl 0 (by decide) (hts (.fieldLink RX11 11 "PageOne" "pages" "[LPageOne$Sheet;") (zat q_wsX11_takeOff k_wsX11_takeOff 112 rfl (by decide +kernel))) (fun _ h9 => h9) rfl dX11_takeOff_1 ?_
  refine lv_aload_n hx hb dX11_takeOff_4 rfl (lv_at hl 1 rfl) ?_
  obtain ⟨kk_22, hk_23⟩ := pl_at hpc.1.1 (x_pcF hI hpc)
  refine va_get (D := (dC, dI)) (ci := 7) (v := .int (nI P)) (C := RX8) (T := TX8) (N := 6) hx hb hts zl_X11_takeOff_X8 hown hK hP kk_22 hk_23 rfl 1 (by decide) (hts (.fieldLink RX11 229 "PageOne$Piece" "page" "I") (zat q_wsX11_takeOff k_wsX11_takeOff 321 rfl (by decide +kernel))) (fun _ h9 => h9) rfl dX11_takeOff_5 ?_
  obtain ⟨g_24, hs_25, hg_26⟩ := x_pg hI hI.2.1.2.1
  obtain ⟨kk_27, hk_28⟩ := pl_at hI.2.1.2.1.1 hs_25
  refine va_aldq hx hb hK hP kk_27 2 hk_28 rfl (vp_in_nI hP9 (by decide)) dX11_takeOff_8 ?_
  obtain ⟨b_29, hg_30, ht_31⟩ := hg_26 _ (vlt (vp_in_nI hP9 (by decide)))
  rw [hg_30]
  refine W.eq (g2 := F0 m 9 ls [.ref b_29]) rfl ?_
  have hb_32 := pg_at hrp.1 hs_25 hP9 (by rw [nI_clamp (by omega)] at hg_30; exact hg_30)
  subst hb_32
  obtain ⟨dd_33, ii_34, gl_35, gc_36, ht_37, ht_38, ht_39, hs_40, hg_41, hgb_42, hc_43, el_44, ec_45⟩ := pg_all hI hrp.1 hP9
  refine lv_aload_n hx hb dX11_takeOff_9 rfl (lv_at hl 1 rfl) ?_
  refine lv_bipush (v := (-2)) hx hb dX11_takeOff_10 (by decide) ?_
  obtain ⟨kk_46, hk_47⟩ := pl_at ht_37.1 hs_40
  have hFc := fr_all hD hS hA
  refine va_callv (va_runV (As := [.ref b0, .int (-2)]) (rest := []) ⟨hx, hb, hml, hown, hts⟩ (y_mark l dC dI q h0 d k z f hI (d (10 + P)) (d (30 + P)) (d (50 + P)) (u.2 1 P) dd_33 ii_34 gl_35 gc_36 ht_37 hs_40 ht_38 ht_39 hg_41 hgb_42 hc_43 (-2) b0 (some (d (2000 + i0))) (nI P) X Y D N hpc (by omega) (by omega) (by omega) (by omega) hX (fun a ha => by rw [el_44 (X + a) (by omega)]; exact hin a ha) (fun j hj => by rw [ec_45 j hj]; exact hne _ (by omega)) (by decide) s.heap.size) (cwV 2 hts gX11_takeOff_X9_mark rfl rfl rfl zh_X9_mark_56 ⟨Nat.le_of_ble_eq_true rfl, Nat.le_of_ble_eq_true rfl⟩) ⟨gx_fb, va_recv hK hP (ci := 8) (q0 := kk_46) rfl hk_47, fun U hU hW => ⟨rfl, by rw [hU], px_to hU hW hP hK hN hXN, hD.weaken (fun _ _ _ _ => trivial)⟩⟩ rfl rfl hl.1 rfl (lv_room (Nat.le_of_ble_eq_true rfl)) dX11_takeOff_12 ⟨Nat.le_of_ble_eq_true rfl, Nat.le_of_ble_eq_true rfl⟩) hS (fun q _ h => hFc q h) hFc (fun w_48 t H1 locs ht hvm hw hB hz1 hk1 hS => ?_)
  obtain ⟨hP, hD1⟩ := hB
  rw [ht] at hP
  rw [hw.2.1] at hP hD1
  have hD := hD1.weaken (fun _ q _ h => hFc q.1 h)
  have hI := hw.2.2.1
  have hw0 := hw
  generalize w_48.2.2 = f_49 at hP hD hI hw0
  generalize H1 = H at hP hS ⊢
  obtain ⟨u2, eu2⟩ : ∃ y : mS, y = mput u 2 (setR (u.2 2) P X Y N (-2) D) := ⟨_, rfl⟩
  have hrp2 : rep q d u2 z f_49 := by rw [eu2, hw0.2.2.2]; exact rep_mark hrp hP9 hX hY hc_43
  have h3m : f_49 (d 3) = f (d 3) := by rw [hw0.2.2.2]; exact up_o (tg_ne hrp.2.2.2.2.2.2.2.1.1 ht_39 (by decide))
  have hI2 := hI
  have hi2 : i0 < (u2.1 3).toNatClampNeg := by rw [eu2]; exact hi0
  obtain ⟨rs_50, n_51, g_52, fg_53, hit_54, hs_55, hpa_56, hps_57, h1_58, h6_59, hcb_60, hpl_61, hlg_62, hnn_63, hfa_64, hfs_65, hfe_66, hrs_67, hkt_68⟩ := it_all hI hrp2.2.2.1 hi2
  refine lv_aload_n hx hb dX11_takeOff_15 rfl (lv_at hl 1 rfl) ?_
  obtain ⟨kk_69, hk_70⟩ := pl_at hpc.1.1 (x_pcF hI hpc)
  refine va_get (D := (dC, dI)) (ci := 7) (v := .ref (d (2000 + i0))) (C := RX8) (T := TX8) (N := 6) hx hb hts zl_X11_takeOff_X8 hown hK hP kk_69 hk_70 rfl 0 (by decide) (hts (.fieldLink RX11 304 "PageOne$Piece" "item" "LPageOne$Item;") (zat q_wsX11_takeOff k_wsX11_takeOff 316 rfl (by decide +kernel))) (fun _ h9 => h9) rfl dX11_takeOff_16 ?_
  refine lv_ifnull hx hb dX11_takeOff_19 ?_
  refine lv_aload_n hx hb dX11_takeOff_22 rfl (lv_at hl 1 rfl) ?_
  obtain ⟨kk_71, hk_72⟩ := pl_at hpc.1.1 (x_pcF hI hpc)
  refine va_get (D := (dC, dI)) (ci := 7) (v := .ref (d (2000 + i0))) (C := RX8) (T := TX8) (N := 6) hx hb hts zl_X11_takeOff_X8 hown hK hP kk_71 hk_72 rfl 0 (by decide) (hts (.fieldLink RX11 304 "PageOne$Piece" "item" "LPageOne$Item;") (zat q_wsX11_takeOff k_wsX11_takeOff 316 rfl (by decide +kernel))) (fun _ h9 => h9) rfl dX11_takeOff_23 ?_
  have hFc := fr_all hD hS hA
  refine w_cut (X := fun R cells slots Q args => ∀ (w9 : xU) (H : Heap) (locs : List Loc), (w9.1 = k ∧ w9.2.1 = z ∧ xI q h0 d k z w9.2.2 ∧ w9.2.2 = s_lose_f q z f_49 (d (2000 + i0)) (d (3000 + i0)) (d (4000 + i0)) n_51 (nI i0) (u2.2 4 i0) (u2.2 22 i0) rs_50 g_52) → va_P (dC, dI) vwCl (va_pl w9.2.1.1 w9.2.2) H → va_D A (va_pl w9.2.1.1 w9.2.2) → va_S A s.heap H locs → W p l e R s m args below meth c H locs (cells + 0) (slots + 0) Q (F0 m 29 ls ([]))) ?_ (fun kC => ?_)
  ·
    intro w_73 H locs hw hP hD hS
    rw [hw.2.1] at hP hD
    have hI := hw.2.2.1
    have hw0 := hw
    generalize w_73.2.2 = f_169 at hP hD hI hw0
    exact W.vret hx hb hr (fun t ht hW => ⟨⟨(k, z, f_169), rfl, ⟨rfl, rfl, hI, by subst eu2; rw [hw0.2.2.2]; unfold s_lose_f; rw [if_neg (posL h6_59 hcb_60 hrm)]; exact rep_ust (rep_lose hI2 hrp2 (by show bw (u.1 3) 0 80 = true; rw [← hk0]; exact hI.1.1) hi0 hnn_63 hs_55 hps_57 hcb_60 hrm), by show f_169 (d 3) = f (d 3); rw [hw0.2.2.2, lose_3 (Ne.symm (itm_ne hit_54 hrp.2.2.2.2.2.2.2.1.1 (by decide))) (tg_ne hrp.2.2.2.2.2.2.2.1.1 hpa_56 (by decide))]; exact h3m⟩, by rw [ht]; exact hP, hD⟩, hS.F ht⟩) hS.2.2 dX11_takeOff_29
  ·
    rcases x_tag hit_54 with ht9 | ht9 | ht9 | ht9 | ht9 | ht9
    ·
      obtain ⟨nu_74, kd_75, cn_76, pa_77, fa_78, l_79, m_80, hs_81, hs_82, hs_83, hs_84⟩ := x_ifl hI ht9
      obtain ⟨kk_85, hk_86⟩ := pl_at ht9.1 hs_81
      exact va_callv (va_runU (As := []) (rest := []) ⟨hx, hb, hml, hown, hts⟩ (y_loseLast l dC dI q h0 d k z f_49 hI (d (2000 + i0)) hit_54 (nI i0) (u2.2 4 i0) (u2.2 22 i0) (d (3000 + i0)) (d (4000 + i0)) rs_50 hs_55 n_51 g_52 hpa_56 hps_57 h1_58 h6_59 hcb_60 (fun j hj => by obtain ⟨b9, it9, e9, -⟩ := hpl_61 j hj; exact ⟨b9, e9⟩) hlg_62 H.size) (va_cwU 0 hts gX11_takeOff_X4_loseLast_u310X2 rfl rfl rfl rfl zu_58 ⟨Nat.le_of_ble_eq_true rfl, Nat.le_of_ble_eq_true rfl⟩) ⟨gx_fb, va_recv hK hP (ci := 2) (q0 := kk_85) rfl hk_86, fun U hU hW => ⟨rfl, by rw [hU], px_to hU hW hP hK hN hXN, hD.weaken (fun _ _ _ _ => trivial)⟩⟩ rfl rfl hl.1 rfl (lv_room (Nat.le_of_ble_eq_true rfl)) dX11_takeOff_26 ⟨Nat.le_of_ble_eq_true rfl, Nat.le_of_ble_eq_true rfl⟩) hS (fun q _ h => hFc q h) hFc (fun w9 t H1 locs ht hvm hw hB hz1 hk1 hS => kC w9 H1 locs hw (by rw [← ht]; exact hB.1) (hB.2.weaken (fun _ q _ h => hFc q.1 h)) hS)
    ·
      obtain ⟨nu_87, kd_88, cn_89, pa_90, fa_91, o_92, w_93, y_94, hs_95, hs_96, hs_97, hs_98, hq_99⟩ := x_ihd hI ht9
      obtain ⟨kk_100, hk_101⟩ := pl_at ht9.1 hs_95
      exact va_callv (va_runU (As := []) (rest := []) ⟨hx, hb, hml, hown, hts⟩ (y_loseLast l dC dI q h0 d k z f_49 hI (d (2000 + i0)) hit_54 (nI i0) (u2.2 4 i0) (u2.2 22 i0) (d (3000 + i0)) (d (4000 + i0)) rs_50 hs_55 n_51 g_52 hpa_56 hps_57 h1_58 h6_59 hcb_60 (fun j hj => by obtain ⟨b9, it9, e9, -⟩ := hpl_61 j hj; exact ⟨b9, e9⟩) hlg_62 H.size) (va_cwU 0 hts gX11_takeOff_X4_loseLast_u310X3 rfl rfl rfl rfl zu_58 ⟨Nat.le_of_ble_eq_true rfl, Nat.le_of_ble_eq_true rfl⟩) ⟨gx_fb, va_recv hK hP (ci := 3) (q0 := kk_100) rfl hk_101, fun U hU hW => ⟨rfl, by rw [hU], px_to hU hW hP hK hN hXN, hD.weaken (fun _ _ _ _ => trivial)⟩⟩ rfl rfl hl.1 rfl (lv_room (Nat.le_of_ble_eq_true rfl)) dX11_takeOff_26 ⟨Nat.le_of_ble_eq_true rfl, Nat.le_of_ble_eq_true rfl⟩) hS (fun q _ h => hFc q h) hFc (fun w9 t H1 locs ht hvm hw hB hz1 hk1 hS => kC w9 H1 locs hw (by rw [← ht]; exact hB.1) (hB.2.weaken (fun _ q _ h => hFc q.1 h)) hS)
    ·
      obtain ⟨nu_102, kd_103, cn_104, pa_105, fa_106, o_107, y_108, hs_109, hs_110, hs_111, hs_112, hq_113⟩ := x_ino hI ht9
      obtain ⟨kk_114, hk_115⟩ := pl_at ht9.1 hs_109
      exact va_callv (va_runU (As := []) (rest := []) ⟨hx, hb, hml, hown, hts⟩ (y_loseLast l dC dI q h0 d k z f_49 hI (d (2000 + i0)) hit_54 (nI i0) (u2.2 4 i0) (u2.2 22 i0) (d (3000 + i0)) (d (4000 + i0)) rs_50 hs_55 n_51 g_52 hpa_56 hps_57 h1_58 h6_59 hcb_60 (fun j hj => by obtain ⟨b9, it9, e9, -⟩ := hpl_61 j hj; exact ⟨b9, e9⟩) hlg_62 H.size) (va_cwU 0 hts gX11_takeOff_X4_loseLast_u310X5 rfl rfl rfl rfl zu_58 ⟨Nat.le_of_ble_eq_true rfl, Nat.le_of_ble_eq_true rfl⟩) ⟨gx_fb, va_recv hK hP (ci := 4) (q0 := kk_114) rfl hk_115, fun U hU hW => ⟨rfl, by rw [hU], px_to hU hW hP hK hN hXN, hD.weaken (fun _ _ _ _ => trivial)⟩⟩ rfl rfl hl.1 rfl (lv_room (Nat.le_of_ble_eq_true rfl)) dX11_takeOff_26 ⟨Nat.le_of_ble_eq_true rfl, Nat.le_of_ble_eq_true rfl⟩) hS (fun q _ h => hFc q h) hFc (fun w9 t H1 locs ht hvm hw hB hz1 hk1 hS => kC w9 H1 locs hw (by rw [← ht]; exact hB.1) (hB.2.weaken (fun _ q _ h => hFc q.1 h)) hS)
    ·
      obtain ⟨nu_116, kd_117, cn_118, pa_119, fa_120, b_121, pr_122, sp_123, dy_124, hs_125, hs_126, hs_127, hs_128, hq_129, hq_130, hq_131⟩ := x_ipd hI ht9
      obtain ⟨kk_132, hk_133⟩ := pl_at ht9.1 hs_125
      exact va_callv (va_runU (As := []) (rest := []) ⟨hx, hb, hml, hown, hts⟩ (y_loseLast l dC dI q h0 d k z f_49 hI (d (2000 + i0)) hit_54 (nI i0) (u2.2 4 i0) (u2.2 22 i0) (d (3000 + i0)) (d (4000 + i0)) rs_50 hs_55 n_51 g_52 hpa_56 hps_57 h1_58 h6_59 hcb_60 (fun j hj => by obtain ⟨b9, it9, e9, -⟩ := hpl_61 j hj; exact ⟨b9, e9⟩) hlg_62 H.size) (va_cwU 0 hts gX11_takeOff_X4_loseLast_u310X6 rfl rfl rfl rfl zu_58 ⟨Nat.le_of_ble_eq_true rfl, Nat.le_of_ble_eq_true rfl⟩) ⟨gx_fb, va_recv hK hP (ci := 5) (q0 := kk_132) rfl hk_133, fun U hU hW => ⟨rfl, by rw [hU], px_to hU hW hP hK hN hXN, hD.weaken (fun _ _ _ _ => trivial)⟩⟩ rfl rfl hl.1 rfl (lv_room (Nat.le_of_ble_eq_true rfl)) dX11_takeOff_26 ⟨Nat.le_of_ble_eq_true rfl, Nat.le_of_ble_eq_true rfl⟩) hS (fun q _ h => hFc q h) hFc (fun w9 t H1 locs ht hvm hw hB hz1 hk1 hS => kC w9 H1 locs hw (by rw [← ht]; exact hB.1) (hB.2.weaken (fun _ q _ h => hFc q.1 h)) hS)
    ·
      obtain ⟨nu_134, kd_135, cn_136, pa_137, fa_138, ww_139, hh_140, sz_141, hs_142, hs_143, hs_144, hs_145, hq_146, hq_147, hq_148⟩ := x_ipi hI ht9
      obtain ⟨kk_149, hk_150⟩ := pl_at ht9.1 hs_142
      exact va_callv (va_runU (As := []) (rest := []) ⟨hx, hb, hml, hown, hts⟩ (y_loseLast l dC dI q h0 d k z f_49 hI (d (2000 + i0)) hit_54 (nI i0) (u2.2 4 i0) (u2.2 22 i0) (d (3000 + i0)) (d (4000 + i0)) rs_50 hs_55 n_51 g_52 hpa_56 hps_57 h1_58 h6_59 hcb_60 (fun j hj => by obtain ⟨b9, it9, e9, -⟩ := hpl_61 j hj; exact ⟨b9, e9⟩) hlg_62 H.size) (va_cwU 0 hts gX11_takeOff_X4_loseLast_u310X7 rfl rfl rfl rfl zu_58 ⟨Nat.le_of_ble_eq_true rfl, Nat.le_of_ble_eq_true rfl⟩) ⟨gx_fb, va_recv hK hP (ci := 6) (q0 := kk_149) rfl hk_150, fun U hU hW => ⟨rfl, by rw [hU], px_to hU hW hP hK hN hXN, hD.weaken (fun _ _ _ _ => trivial)⟩⟩ rfl rfl hl.1 rfl (lv_room (Nat.le_of_ble_eq_true rfl)) dX11_takeOff_26 ⟨Nat.le_of_ble_eq_true rfl, Nat.le_of_ble_eq_true rfl⟩) hS (fun q _ h => hFc q h) hFc (fun w9 t H1 locs ht hvm hw hB hz1 hk1 hS => kC w9 H1 locs hw (by rw [← ht]; exact hB.1) (hB.2.weaken (fun _ q _ h => hFc q.1 h)) hS)
    ·
      obtain ⟨nu_151, kd_152, cn_153, pa_154, fa_155, l_156, co_157, wd_158, nm_159, hs_160, hs_161, hs_162, hs_163, hq_164, hq_165, hq_166⟩ := x_ist hI ht9
      obtain ⟨kk_167, hk_168⟩ := pl_at ht9.1 hs_160
      exact va_callv (va_runU (As := []) (rest := []) ⟨hx, hb, hml, hown, hts⟩ (y_loseLast l dC dI q h0 d k z f_49 hI (d (2000 + i0)) hit_54 (nI i0) (u2.2 4 i0) (u2.2 22 i0) (d (3000 + i0)) (d (4000 + i0)) rs_50 hs_55 n_51 g_52 hpa_56 hps_57 h1_58 h6_59 hcb_60 (fun j hj => by obtain ⟨b9, it9, e9, -⟩ := hpl_61 j hj; exact ⟨b9, e9⟩) hlg_62 H.size) (va_cwU 0 hts gX11_takeOff_X4_loseLast_u310X10 rfl rfl rfl rfl zu_58 ⟨Nat.le_of_ble_eq_true rfl, Nat.le_of_ble_eq_true rfl⟩) ⟨gx_fb, va_recv hK hP (ci := 9) (q0 := kk_167) rfl hk_168, fun U hU hW => ⟨rfl, by rw [hU], px_to hU hW hP hK hN hXN, hD.weaken (fun _ _ _ _ => trivial)⟩⟩ rfl rfl hl.1 rfl (lv_room (Nat.le_of_ble_eq_true rfl)) dX11_takeOff_26 ⟨Nat.le_of_ble_eq_true rfl, Nat.le_of_ble_eq_true rfl⟩) hS (fun q _ h => hFc q h) hFc (fun w9 t H1 locs ht hvm hw hB hz1 hk1 hS => kC w9 H1 locs hw (by rw [← ht]; exact hB.1) (hB.2.weaken (fun _ q _ h => hFc q.1 h)) hS)
set_option maxHeartbeats 4000000 in
set_option maxRecDepth 100000 in
theorem y_standR (l : Launch) (dC : Nat → ClassId) (dI : Nat → Nat → Nat) (q : Nat → ClassId) (h0 : Nat) (d : Nat → Nat) (k : Nat → Int32) (z : gS) (f : xF) (hI : xI q h0 d k z f) (b0 P X Y D N : Nat) (u : mS) (hrp : rep q d u z f) (hk0 : k 0 = u.1 3) (hk1 : k 1 = u.1 28) (hk2 : k 2 = u.1 38) (hk3 : k 3 = u.1 39) (hP9 : P < 12) (hX : X + D ≤ 8) (hD1 : 1 ≤ D) (hY : Y + N ≤ 60) (hin : ∀ a, a < D → Y + N ≤ (u.2 0 (8 * P + (X + a))).toNatClampNeg) (hne : ∀ j, j < 5760 → ¬ u.2 2 j = (-1)) (hpc : pcS z b0 none (nI P) (nI X) (nI Y) (nI D) (nI N)) (sz : Nat) : Met l yX11_stand wsX11_stand ({ frames := 4, cells := 0, slots := 0, locals := 88 }) (va_Pc [.ref h0, .ref b0] (fun U => U.heap.size = sz ∧ PX dC dI (va_pl z.1 f) (xT q) U ∧ va_D (fun _ => True) (va_pl z.1 f))) (va_Qv (fun (w : xU) => w.1 = k ∧ w.2.1 = z ∧ xI q h0 d k z w.2.2 ∧ rep q d (mput u 2 (setR (u.2 2) P X Y N 100 D)) z w.2.2 ∧ w.2.2 (d 3) = f (d 3)) (fun (w : xU) t => va_P (dC, dI) vwCl (va_pl w.2.1.1 w.2.2) t.heap ∧ va_D (va_A (va_pl z.1 f) sz) (va_pl w.2.1.1 w.2.2)) (va_A (va_pl z.1 f) sz)) 0 0 (va_A (va_pl z.1 f) sz) := by
  refine Met.ofW (cc := cX11_stand) (maxL := 2) (ret := none) (by decide) rfl ?_
  intro p e s m args below meth c s₁ B hml hv
  obtain ⟨rfl, hsz, ⟨⟨hP, hK, hN⟩, hXN⟩, hD0⟩ := hv
  have hx := B.exec
  have hb := B.bytes
  have hr := B.returns
  have hts := atoms_spec (ws := wsX11_stand) B.pre
  have hown : s.vm.findClass RX11 = some m.cls := findClass_of_methodNamed B.named
  have hlocks := B.notSynchronized
  subst hsz
  have hD := hD0.self (sz := s.heap.size)
  generalize hAe : va_A (va_pl z.1 f) s.heap.size = A at hD ⊢
  have hA : ∀ q : Nat, s.heap.size ≤ q → A q := fun q h => by rw [← hAe]; exact Or.inr h
  have hS : va_S A s.heap s.heap [] := va_S.rf
  have hl := lv_entry ([.ref h0, .ref b0]) (n := 2) (Nat.le_of_ble_eq_true rfl)
  rw [lg_entry_eq]
  generalize (lg_sl ([.ref h0, .ref b0]) ++ List.replicate (2 - (lg_sl ([.ref h0, .ref b0])).length) Slot.unset).toArray = ls at hl ⊢
  have hl : lv_has ls 2 [(0, .ref h0), (1, .ref b0)] := hl
  have hlgb := lg_of hpc ⟨b7n (by omega), b60n (by omega), bwN (by have e8 : (8 : Int32).toInt = 8 := rfl; rw [e8]; omega) (by omega), b60n (by omega)⟩
  refine lv_aload_n hx hb dX11_stand_0 rfl (lv_at hl 0 rfl) ?_
  obtain ⟨kk_1, hk_2⟩ := pl_at hI.2.1.1.1 hI.2.2.2.1.1
  refine va_get (D := (dC, dI)) (ci := 10) (v := .ref (d 0)) (C := RX11) (T := TX11) (N := 9) hx hb hts zl_X11_stand_X11 hown hK hP kk_1 hk_2 rfl 0 (by decide) (hts (.fieldLink RX11 11 "PageOne" "pages" "[LPageOne$Sheet;") (zat q_wsX11_stand k_wsX11_stand 112 rfl (by decide +kernel))) (fun _ h9 => h9) rfl dX11_stand_1 ?_
  refine lv_aload_n hx hb dX11_stand_4 rfl (lv_at hl 1 rfl) ?_
  obtain ⟨kk_3, hk_4⟩ := pl_at hpc.1.1 (x_pcF hI hpc)
  refine va_get (D := (dC, dI)) (ci := 7) (v := .int (nI P)) (C := RX8) (T := TX8) (N := 6) hx hb hts zl_X11_stand_X8 hown hK hP kk_3 hk_4 rfl 1 (by decide) (hts (.fieldLink RX11 229 "PageOne$Piece" "page" "I") (zat q_wsX11_stand k_wsX11_stand 321 rfl (by decide +kernel))) (fun _ h9 => h9) rfl dX11_stand_5 ?_
  obtain ⟨g_5, hs_6, hg_7⟩ := x_pg hI hI.2.1.2.1
  obtain ⟨kk_8, hk_9⟩ := pl_at hI.2.1.2.1.1 hs_6
  refine va_aldq hx hb hK hP kk_8 2 hk_9 rfl (vp_in_nI hP9 (by decide)) dX11_stand_8 ?_
  obtain ⟨b_10, hg_11, ht_12⟩ := hg_7 _ (vlt (vp_in_nI hP9 (by decide)))
  rw [hg_11]
  refine W.eq (g2 := F0 m 9 ls [.ref b_10]) rfl ?_
  have hb_13 := pg_at hrp.1 hs_6 hP9 (by rw [nI_clamp (by omega)] at hg_11; exact hg_11)
  subst hb_13
  obtain ⟨dd_14, ii_15, gl_16, gc_17, ht_18, ht_19, ht_20, hs_21, hg_22, hgb_23, hc_24, el_25, ec_26⟩ := pg_all hI hrp.1 hP9
  refine lv_aload_n hx hb dX11_stand_9 rfl (lv_at hl 1 rfl) ?_
  refine lv_aload_n hx hb dX11_stand_10 rfl (lv_at hl 1 rfl) ?_
  obtain ⟨kk_27, hk_28⟩ := pl_at hpc.1.1 (x_pcF hI hpc)
  refine vp_callSi (va_runV (As := []) (rest := [.ref b0, .ref (d (10 + P))]) ⟨hx, hb, hml, hown, hts⟩ (y_signN l dC dI q h0 d k z f hI b0 (nI P) (nI X) (nI Y) (nI D) (nI N) hpc) (cwV 0 hts gX11_stand_X8_sign rfl rfl rfl zh_X8_sign_55 ⟨Nat.le_of_ble_eq_true rfl, Nat.le_of_ble_eq_true rfl⟩) ⟨px_fb, va_recv hK hP (ci := 7) (q0 := kk_27) rfl hk_28, fun U hU hW => ⟨rfl, px_to hU hW hP hK hN hXN⟩⟩ rfl rfl hl.1 rfl (lv_room (Nat.le_of_ble_eq_true rfl)) dX11_stand_11 ⟨Nat.le_of_ble_eq_true rfl, Nat.le_of_ble_eq_true rfl⟩).run (fun r hw => ?_)
  obtain rfl : r = 100 := hw
  obtain ⟨kk_29, hk_30⟩ := pl_at ht_18.1 hs_21
  have hFc := fr_all hD hS hA
  refine va_callv (va_runV (As := [.ref b0, .int 100]) (rest := []) ⟨hx, hb, hml, hown, hts⟩ (y_mark l dC dI q h0 d k z f hI (d (10 + P)) (d (30 + P)) (d (50 + P)) (u.2 1 P) dd_14 ii_15 gl_16 gc_17 ht_18 hs_21 ht_19 ht_20 hg_22 hgb_23 hc_24 100 b0 none (nI P) X Y D N hpc (by omega) (by omega) (by omega) (by omega) hX (fun a ha => by rw [el_25 (X + a) (by omega)]; exact hin a ha) (fun j hj => by rw [ec_26 j hj]; exact hne _ (by omega)) (by decide) s.heap.size) (cwV 2 hts gX11_stand_X9_mark rfl rfl rfl zh_X9_mark_56 ⟨Nat.le_of_ble_eq_true rfl, Nat.le_of_ble_eq_true rfl⟩) ⟨gx_fb, va_recv hK hP (ci := 8) (q0 := kk_29) rfl hk_30, fun U hU hW => ⟨rfl, by rw [hU], px_to hU hW hP hK hN hXN, hD.weaken (fun _ _ _ _ => trivial)⟩⟩ rfl rfl hl.1 rfl (lv_room (Nat.le_of_ble_eq_true rfl)) dX11_stand_14 ⟨Nat.le_of_ble_eq_true rfl, Nat.le_of_ble_eq_true rfl⟩) hS (fun q _ h => hFc q h) hFc (fun w_31 t H1 locs ht hvm hw hB hz1 hk1 hS => ?_)
  obtain ⟨hP, hD1⟩ := hB
  rw [ht] at hP
  rw [hw.2.1] at hP hD1
  have hD := hD1.weaken (fun _ q _ h => hFc q.1 h)
  have hI := hw.2.2.1
  have hw0 := hw
  generalize w_31.2.2 = f_32 at hP hD hI hw0
  generalize H1 = H at hP hS ⊢
  obtain ⟨u2, eu2⟩ : ∃ y : mS, y = mput u 2 (setR (u.2 2) P X Y N 100 D) := ⟨_, rfl⟩
  have hrp2 : rep q d u2 z f_32 := by rw [eu2, hw0.2.2.2]; exact rep_mark hrp hP9 hX hY hc_24
  have h3m : f_32 (d 3) = f (d 3) := by rw [hw0.2.2.2]; exact up_o (tg_ne hrp.2.2.2.2.2.2.2.1.1 ht_20 (by decide))
  have hI2 := hI
  refine lv_aload_n hx hb dX11_stand_17 rfl (lv_at hl 1 rfl) ?_
  obtain ⟨kk_33, hk_34⟩ := pl_at hpc.1.1 (x_pcF hI hpc)
  refine va_get (D := (dC, dI)) (ci := 7) (v := .null) (C := RX8) (T := TX8) (N := 6) hx hb hts zl_X11_stand_X8 hown hK hP kk_33 hk_34 rfl 0 (by decide) (hts (.fieldLink RX11 304 "PageOne$Piece" "item" "LPageOne$Item;") (zat q_wsX11_stand k_wsX11_stand 316 rfl (by decide +kernel))) (fun _ h9 => h9) rfl dX11_stand_18 ?_
  refine lv_ifnullN (tgt := 32) hx hb dX11_stand_21 (by decide) ?_
  exact W.vret hx hb hr (fun t ht hW => ⟨⟨(k, z, f_32), rfl, ⟨rfl, rfl, hI, by rw [← eu2]; exact hrp2, h3m⟩, by rw [ht]; exact hP, hD⟩, hS.F ht⟩) hS.2.2 dX11_stand_32
set_option maxHeartbeats 4000000 in
set_option maxRecDepth 100000 in
theorem y_offR (l : Launch) (dC : Nat → ClassId) (dI : Nat → Nat → Nat) (q : Nat → ClassId) (h0 : Nat) (d : Nat → Nat) (k : Nat → Int32) (z : gS) (f : xF) (hI : xI q h0 d k z f) (b0 P X Y D N : Nat) (u : mS) (hrp : rep q d u z f) (hk0 : k 0 = u.1 3) (hk1 : k 1 = u.1 28) (hk2 : k 2 = u.1 38) (hk3 : k 3 = u.1 39) (hP9 : P < 12) (hX : X + D ≤ 8) (hD1 : 1 ≤ D) (hY : Y + N ≤ 60) (hin : ∀ a, a < D → Y + N ≤ (u.2 0 (8 * P + (X + a))).toNatClampNeg) (hne : ∀ j, j < 5760 → ¬ u.2 2 j = (-1)) (hpc : pcS z b0 none (nI P) (nI X) (nI Y) (nI D) (nI N)) (sz : Nat) : Met l yX11_takeOff wsX11_takeOff ({ frames := 4, cells := 0, slots := 0, locals := 88 }) (va_Pc [.ref h0, .ref b0] (fun U => U.heap.size = sz ∧ PX dC dI (va_pl z.1 f) (xT q) U ∧ va_D (fun _ => True) (va_pl z.1 f))) (va_Qv (fun (w : xU) => w.1 = k ∧ w.2.1 = z ∧ xI q h0 d k z w.2.2 ∧ rep q d (mput u 2 (setR (u.2 2) P X Y N (-2) D)) z w.2.2 ∧ w.2.2 (d 3) = f (d 3)) (fun (w : xU) t => va_P (dC, dI) vwCl (va_pl w.2.1.1 w.2.2) t.heap ∧ va_D (va_A (va_pl z.1 f) sz) (va_pl w.2.1.1 w.2.2)) (va_A (va_pl z.1 f) sz)) 0 0 (va_A (va_pl z.1 f) sz) := by
  refine Met.ofW (cc := cX11_takeOff) (maxL := 2) (ret := none) (by decide) rfl ?_
  intro p e s m args below meth c s₁ B hml hv
  obtain ⟨rfl, hsz, ⟨⟨hP, hK, hN⟩, hXN⟩, hD0⟩ := hv
  have hx := B.exec
  have hb := B.bytes
  have hr := B.returns
  have hts := atoms_spec (ws := wsX11_takeOff) B.pre
  have hown : s.vm.findClass RX11 = some m.cls := findClass_of_methodNamed B.named
  have hlocks := B.notSynchronized
  subst hsz
  have hD := hD0.self (sz := s.heap.size)
  generalize hAe : va_A (va_pl z.1 f) s.heap.size = A at hD ⊢
  have hA : ∀ q : Nat, s.heap.size ≤ q → A q := fun q h => by rw [← hAe]; exact Or.inr h
  have hS : va_S A s.heap s.heap [] := va_S.rf
  have hl := lv_entry ([.ref h0, .ref b0]) (n := 2) (Nat.le_of_ble_eq_true rfl)
  rw [lg_entry_eq]
  generalize (lg_sl ([.ref h0, .ref b0]) ++ List.replicate (2 - (lg_sl ([.ref h0, .ref b0])).length) Slot.unset).toArray = ls at hl ⊢
  have hl : lv_has ls 2 [(0, .ref h0), (1, .ref b0)] := hl
  have hlgb := lg_of hpc ⟨b7n (by omega), b60n (by omega), bwN (by have e8 : (8 : Int32).toInt = 8 := rfl; rw [e8]; omega) (by omega), b60n (by omega)⟩
  refine lv_aload_n hx hb dX11_takeOff_0 rfl (lv_at hl 0 rfl) ?_
  obtain ⟨kk_1, hk_2⟩ := pl_at hI.2.1.1.1 hI.2.2.2.1.1
  refine va_get (D := (dC, dI)) (ci := 10) (v := .ref (d 0)) (C := RX11) (T := TX11) (N := 9) hx hb hts zl_X11_takeOff_X11 hown hK hP kk_1 hk_2 rfl 0 (by decide) (hts (.fieldLink RX11 11 "PageOne" "pages" "[LPageOne$Sheet;") (zat q_wsX11_takeOff k_wsX11_takeOff 112 rfl (by decide +kernel))) (fun _ h9 => h9) rfl dX11_takeOff_1 ?_
  refine lv_aload_n hx hb dX11_takeOff_4 rfl (lv_at hl 1 rfl) ?_
  obtain ⟨kk_3, hk_4⟩ := pl_at hpc.1.1 (x_pcF hI hpc)
  refine va_get (D := (dC, dI)) (ci := 7) (v := .int (nI P)) (C := RX8) (T := TX8) (N := 6) hx hb hts zl_X11_takeOff_X8 hown hK hP kk_3 hk_4 rfl 1 (by decide) (hts (.fieldLink RX11 229 "PageOne$Piece" "page" "I") (zat q_wsX11_takeOff k_wsX11_takeOff 321 rfl (by decide +kernel))) (fun _ h9 => h9) rfl dX11_takeOff_5 ?_
  obtain ⟨g_5, hs_6, hg_7⟩ := x_pg hI hI.2.1.2.1
  obtain ⟨kk_8, hk_9⟩ := pl_at hI.2.1.2.1.1 hs_6
  refine va_aldq hx hb hK hP kk_8 2 hk_9 rfl (vp_in_nI hP9 (by decide)) dX11_takeOff_8 ?_
  obtain ⟨b_10, hg_11, ht_12⟩ := hg_7 _ (vlt (vp_in_nI hP9 (by decide)))
  rw [hg_11]
  refine W.eq (g2 := F0 m 9 ls [.ref b_10]) rfl ?_
  have hb_13 := pg_at hrp.1 hs_6 hP9 (by rw [nI_clamp (by omega)] at hg_11; exact hg_11)
  subst hb_13
  obtain ⟨dd_14, ii_15, gl_16, gc_17, ht_18, ht_19, ht_20, hs_21, hg_22, hgb_23, hc_24, el_25, ec_26⟩ := pg_all hI hrp.1 hP9
  refine lv_aload_n hx hb dX11_takeOff_9 rfl (lv_at hl 1 rfl) ?_
  refine lv_bipush (v := (-2)) hx hb dX11_takeOff_10 (by decide) ?_
  obtain ⟨kk_27, hk_28⟩ := pl_at ht_18.1 hs_21
  have hFc := fr_all hD hS hA
  refine va_callv (va_runV (As := [.ref b0, .int (-2)]) (rest := []) ⟨hx, hb, hml, hown, hts⟩ (y_mark l dC dI q h0 d k z f hI (d (10 + P)) (d (30 + P)) (d (50 + P)) (u.2 1 P) dd_14 ii_15 gl_16 gc_17 ht_18 hs_21 ht_19 ht_20 hg_22 hgb_23 hc_24 (-2) b0 none (nI P) X Y D N hpc (by omega) (by omega) (by omega) (by omega) hX (fun a ha => by rw [el_25 (X + a) (by omega)]; exact hin a ha) (fun j hj => by rw [ec_26 j hj]; exact hne _ (by omega)) (by decide) s.heap.size) (cwV 2 hts gX11_takeOff_X9_mark rfl rfl rfl zh_X9_mark_56 ⟨Nat.le_of_ble_eq_true rfl, Nat.le_of_ble_eq_true rfl⟩) ⟨gx_fb, va_recv hK hP (ci := 8) (q0 := kk_27) rfl hk_28, fun U hU hW => ⟨rfl, by rw [hU], px_to hU hW hP hK hN hXN, hD.weaken (fun _ _ _ _ => trivial)⟩⟩ rfl rfl hl.1 rfl (lv_room (Nat.le_of_ble_eq_true rfl)) dX11_takeOff_12 ⟨Nat.le_of_ble_eq_true rfl, Nat.le_of_ble_eq_true rfl⟩) hS (fun q _ h => hFc q h) hFc (fun w_29 t H1 locs ht hvm hw hB hz1 hk1 hS => ?_)
  obtain ⟨hP, hD1⟩ := hB
  rw [ht] at hP
  rw [hw.2.1] at hP hD1
  have hD := hD1.weaken (fun _ q _ h => hFc q.1 h)
  have hI := hw.2.2.1
  have hw0 := hw
  generalize w_29.2.2 = f_30 at hP hD hI hw0
  generalize H1 = H at hP hS ⊢
  obtain ⟨u2, eu2⟩ : ∃ y : mS, y = mput u 2 (setR (u.2 2) P X Y N (-2) D) := ⟨_, rfl⟩
  have hrp2 : rep q d u2 z f_30 := by rw [eu2, hw0.2.2.2]; exact rep_mark hrp hP9 hX hY hc_24
  have h3m : f_30 (d 3) = f (d 3) := by rw [hw0.2.2.2]; exact up_o (tg_ne hrp.2.2.2.2.2.2.2.1.1 ht_20 (by decide))
  have hI2 := hI
  refine lv_aload_n hx hb dX11_takeOff_15 rfl (lv_at hl 1 rfl) ?_
  obtain ⟨kk_31, hk_32⟩ := pl_at hpc.1.1 (x_pcF hI hpc)
  refine va_get (D := (dC, dI)) (ci := 7) (v := .null) (C := RX8) (T := TX8) (N := 6) hx hb hts zl_X11_takeOff_X8 hown hK hP kk_31 hk_32 rfl 0 (by decide) (hts (.fieldLink RX11 304 "PageOne$Piece" "item" "LPageOne$Item;") (zat q_wsX11_takeOff k_wsX11_takeOff 316 rfl (by decide +kernel))) (fun _ h9 => h9) rfl dX11_takeOff_16 ?_
  refine lv_ifnullN (tgt := 29) hx hb dX11_takeOff_19 (by decide) ?_
  exact W.vret hx hb hr (fun t ht hW => ⟨⟨(k, z, f_30), rfl, ⟨rfl, rfl, hI, by rw [← eu2]; exact hrp2, h3m⟩, by rw [ht]; exact hP, hD⟩, hS.F ht⟩) hS.2.2 dX11_takeOff_29
/-- a place that may hold a piece: on its page's lines -/
def rIn (u : mS) (P X Y D N : Nat) : Prop := P < 12 ∧ X + D ≤ 8 ∧ 1 ≤ D ∧ Y + N ≤ 60 ∧ 1 ≤ N ∧ ∀ a, a < D → Y + N ≤ (u.2 0 (8 * P + (X + a))).toNatClampNeg
/-- each piece that stands is such a place -/
def pcI (u : mS) : Prop := ∀ i, i < (u.1 3).toNatClampNeg → ∀ t, t < (u.2 22 i).toNatClampNeg → ∃ P X Y D N, rIn u P X Y D N ∧ pR u i t 0 = nI P ∧ pR u i t 1 = nI X ∧ pR u i t 2 = nI Y ∧ pR u i t 3 = nI D ∧ pR u i t 4 = nI N
theorem rep_3 {q d u z f f2} (h : rep q d u z f) (hf : fK d z f f2 (fun x => x = 3)) : rep q d u z f2 := by
  obtain ⟨h1g, h1l, ⟨⟨g, a1, a2⟩, a3⟩, h1v, n0, n1, n2, n3, n4⟩ := h
  exact ⟨rPg_fr h1g (zE_rf z) (fun _ _ => rfl) hf (fun x _ _ _ h3 _ => h3) n0 rfl rfl rfl, rPl_fr h1l (zE_rf z) rfl (fun _ _ _ => rfl) hf (by omega) (fun x x1 x2 => by omega) n1 (fun _ _ _ => rfl), ⟨⟨g, by rw [hf.1 2 _ n2 (by omega)]; exact a1, a2⟩, fun j hj => rIt_fr (a3 j hj) (zE_rf z) ⟨rfl, rfl, rfl, rfl, rfl⟩ hf ⟨by omega, by omega, by omega, by omega, by omega⟩ (sI_rf u j) (Nat.le_refl _) (fun _ _ => ⟨rfl, rfl⟩)⟩, rRv_fr h1v rfl (hf.1 4 _ n4 (by omega)) rfl, n0, n1, n2, n3, n4⟩
/-- what keep does -/
def kpP (q : Nat → ClassId) (h0 : Nat) (d : Nat → Nat) (k k3 : Nat → Int32) (c0 : Nat) (f f3 : xF) : Prop := k3 = kup k 1 (k 1 + 1) ∧ ∃ g, f (d 3) = aR (q 4) 300 g ∧ f3 = va_up (va_up f (d 3) (aR (q 4) 300 (va_up g (k 1).toNatClampNeg (some c0)))) h0 (.inr (10, dkF d k3))
theorem rep_kp {q h0 d k k3 c0 u z f f3} (h : rep q d u z f) (hI : xI q h0 d k z f) (hz0 : (z.2 h0).2.1 = 0) (hk : kpP q h0 d k k3 c0 f f3) : rep q d u z f3 := by
  obtain ⟨-, g, hg, rfl⟩ := hk
  obtain ⟨-, -, -, -, n0, n1, n2, n3, n4⟩ := id h
  exact rep_3 h (fK_h0 (fK_up (fK_rf d z f _) n3 (by decide) rfl) n0 hI.2.1.1 hz0)
theorem kp_3 {q h0 d k k3 c0 u z f f3} (h : rep q d u z f) (hI : xI q h0 d k z f) (hk : kpP q h0 d k k3 c0 f f3) : ∃ g, f (d 3) = aR (q 4) 300 g ∧ f3 (d 3) = aR (q 4) 300 (va_up g (k 1).toNatClampNeg (some c0)) := by
  obtain ⟨-, g, hg, rfl⟩ := hk
  refine ⟨g, hg, ?_⟩
  rw [up_o (tg_ne h.2.2.2.2.2.2.2.1.1 hI.2.1.1 (by decide)), up_s]
theorem rep_rows {q d u w z f} (h : rep q d u z f) (h3 : w.1 3 = u.1 3) (hr : ∀ r, r < 29 ∨ 37 < r → w.2 r = u.2 r) : rep q d w z f := rep_ext h h3 (fun r _ => hr r (by omega)) (fun r _ _ j _ t _ => by rw [hr r (by omega)])
/-- a piece's place -/
def pcR (z : gS) (b : Nat) (it : Option Nat) (r : fR) : Prop := pcS z b it (nI r.1) (nI r.2.1) (nI r.2.2.1) (nI r.2.2.2.1) (nI r.2.2.2.2)
/-- the fillers of one act, the latest first -/
def acF (z : gS) (d : Nat → Nat) : Option Nat → List fX → Prop
  | o, [] => o = none
  | o, x :: xs => ∃ a pp ah, o = some a ∧ acS z a pp 0 (nI (xs.length + 1)) ah ∧ pcR z pp (some (d (2000 + x.1))) (x.2.1, x.2.2.1, x.2.2.2.1, 1, x.2.2.2.2) ∧ acF z d ah xs
/-- the class's act for a kept one -/
def acE (z : gS) (d : Nat → Nat) (a : Nat) (e : hE) : Prop := (e.1 = 0 ∧ ∃ pp, acS z a pp 0 1 none ∧ pcR z pp (some (d (2000 + e.2.1))) e.2.2.1) ∨ (e.1 = 1 ∧ ∃ pp, acS z a pp 1 1 none ∧ pcR z pp (some (d (2000 + e.2.1))) e.2.2.1) ∨ (e.1 = 2 ∧ ∃ pp, acS z a pp 0 1 none ∧ pcS z pp none (nI e.2.2.1.1) (nI e.2.2.1.2.1) (nI e.2.2.1.2.2.1) 1 1) ∨ (e.1 = 3 ∧ acF z d (some a) e.2.2.2)
/-- the acts' row behind a call: as it was, or one more -/
def acQ (q : Nat → ClassId) (d : Nat → Nat) (k : Nat → Int32) (f : xF) (E : hE → Prop) (w : xU) : Prop := (w.2.2 (d 3) = f (d 3) ∧ w.1 1 = k 1) ∨ ∃ g a e, f (d 3) = aR (q 4) 300 g ∧ w.2.2 (d 3) = aR (q 4) 300 (va_up g (k 1).toNatClampNeg (some a)) ∧ w.1 1 = k 1 + 1 ∧ acE w.2.1 d a e ∧ E e
/-- what a call that acts leaves -/
def actP (q : Nat → ClassId) (h0 : Nat) (d : Nat → Nat) (k : Nat → Int32) (z : gS) (f : xF) (R9 : Int32 × mS) (E : hE → Prop) (r : Int32) (w : xU) : Prop := zE z w.2.1 ∧ xI q h0 d w.1 w.2.1 w.2.2 ∧ r = R9.1 ∧ rep q d R9.2 w.2.1 w.2.2 ∧ (∀ j, j ≠ 1 → w.1 j = k j) ∧ w.1 1 = R9.2.1 28 ∧ acQ q d k f E w
theorem actP_0 {q h0 d k z f u R9 E} {r : Int32} (hI : xI q h0 d k z f) (hrp : rep q d u z f) (hk1 : k 1 = u.1 28) (hR : R9 = (r, u)) : actP q h0 d k z f R9 E r (k, z, f) := by
  subst hR
  exact ⟨zE_rf z, hI, rfl, hrp, fun _ _ => rfl, hk1, Or.inl ⟨rfl, rfl⟩⟩
/-- the last piece -/
theorem last_all {q h0 d k u z f} {i n : Nat} {g : Nat → Option Nat} (hI : xI q h0 d k z f) (h : rep q d u z f) (hpc : pcI u) (hi : i < (u.1 3).toNatClampNeg) (hps : f (d (3000 + i)) = aR (q 5) n g) (h6 : n ≤ 6) (hcb : bw (u.2 22 i) 0 (nI n) = true) (h0c : ¬ u.2 22 i ≤ 0) : 0 < (u.2 22 i).toNatClampNeg ∧ ∃ b P X Y D N, s_last (u.2 22 i) g = some b ∧ pcS z b (some (d (2000 + i))) (nI P) (nI X) (nI Y) (nI D) (nI N) ∧ rIn u P X Y D N ∧ pR u i ((u.2 22 i).toNatClampNeg - 1) 0 = nI P ∧ pR u i ((u.2 22 i).toNatClampNeg - 1) 1 = nI X ∧ pR u i ((u.2 22 i).toNatClampNeg - 1) 2 = nI Y ∧ pR u i ((u.2 22 i).toNatClampNeg - 1) 3 = nI D ∧ pR u i ((u.2 22 i).toNatClampNeg - 1) 4 = nI N := by
  obtain ⟨n1, n2, n3, hkd, rs2, g2, fg, hsl, hps2, hpcs, -⟩ := h.2.2.1.2 i hi
  obtain ⟨e1, e2⟩ := aR_inj (hps.symm.trans hps2)
  subst e2
  obtain ⟨ec, hc⟩ := cnN h6 hcb
  have hpos : 0 < (u.2 22 i).toNatClampNeg := by
    rw [i32_le, ec, nI_toInt (by omega), i0] at h0c
    omega
  refine ⟨hpos, ?_⟩
  obtain ⟨b, b1, b2⟩ := hpcs ((u.2 22 i).toNatClampNeg - 1) (by omega)
  obtain ⟨P, X, Y, D, N, hr, p0, p1, p2, p3, p4⟩ := hpc i hi ((u.2 22 i).toNatClampNeg - 1) (by omega)
  rw [p0, p1, p2, p3, p4] at b2
  refine ⟨b, P, X, Y, D, N, ?_, b2, hr, p0, p1, p2, p3, p4⟩
  unfold s_last
  have em : (u.2 22 i - 1).toNatClampNeg = (u.2 22 i).toNatClampNeg - 1 := by
    generalize hcc : (u.2 22 i).toNatClampNeg = c at *
    rw [ec, show (1 : Int32) = nI 1 from rfl, nI_sb (i := c) (r := 1) (by omega) (by omega), nI_clamp (by omega)]
  rw [if_neg h0c, em]; exact b1
set_option maxHeartbeats 4000000 in
set_option maxRecDepth 100000 in
theorem y_keep (l : Launch) (dC : Nat → ClassId) (dI : Nat → Nat → Nat) (q : Nat → ClassId) (h0 : Nat) (d : Nat → Nat) (k : Nat → Int32) (z : gS) (f : xF) (hI : xI q h0 d k z f) (c0 : Nat) (hc0 : tg z c0 23) (hca : ¬ 300 ≤ k 1) (sz : Nat) : Met l yX11_keep wsX11_keep ({ frames := 1, cells := 0, slots := 0, locals := 20 }) (va_Pc [.ref h0, .ref c0] (fun U => U.heap.size = sz ∧ PX dC dI (va_pl z.1 f) (xT q) U ∧ va_D (fun _ => True) (va_pl z.1 f))) (va_Qv (fun (w : xU) => w.2.1 = z ∧ xI q h0 d w.1 z w.2.2 ∧ kpP q h0 d k w.1 c0 f w.2.2) (fun (w : xU) t => va_P (dC, dI) vwCl (va_pl w.2.1.1 w.2.2) t.heap ∧ va_D (va_A (va_pl z.1 f) sz) (va_pl w.2.1.1 w.2.2)) (va_A (va_pl z.1 f) sz)) 0 0 (va_A (va_pl z.1 f) sz) := by
  refine Met.ofW (cc := cX11_keep) (maxL := 2) (ret := none) (by decide) rfl ?_
  intro p e s m args below meth c s₁ B hml hv
  obtain ⟨rfl, hsz, ⟨⟨hP, hK, hN⟩, hXN⟩, hD0⟩ := hv
  have hx := B.exec
  have hb := B.bytes
  have hr := B.returns
  have hts := atoms_spec (ws := wsX11_keep) B.pre
  have hown : s.vm.findClass RX11 = some m.cls := findClass_of_methodNamed B.named
  have hlocks := B.notSynchronized
  subst hsz
  have hD := hD0.self (sz := s.heap.size)
  generalize hAe : va_A (va_pl z.1 f) s.heap.size = A at hD ⊢
  have hA : ∀ q : Nat, s.heap.size ≤ q → A q := fun q h => by rw [← hAe]; exact Or.inr h
  have hS : va_S A s.heap s.heap [] := va_S.rf
  have hl := lv_entry ([.ref h0, .ref c0]) (n := 2) (Nat.le_of_ble_eq_true rfl)
  rw [lg_entry_eq]
  generalize (lg_sl ([.ref h0, .ref c0]) ++ List.replicate (2 - (lg_sl ([.ref h0, .ref c0])).length) Slot.unset).toArray = ls at hl ⊢
  have hl : lv_has ls 2 [(0, .ref h0), (1, .ref c0)] := hl
  refine lv_aload_n hx hb dX11_keep_0 rfl (lv_at hl 0 rfl) ?_
  obtain ⟨kk_1, hk_2⟩ := pl_at hI.2.1.1.1 hI.2.2.2.1.1
  refine vp_callSi (va_runV (As := []) (rest := []) ⟨hx, hb, hml, hown, hts⟩ (y_canAct l dC dI q h0 d k z f hI) (cwV 0 hts gX11_keep_X11_canAct rfl rfl rfl zh_X11_canAct_60 ⟨Nat.le_of_ble_eq_true rfl, Nat.le_of_ble_eq_true rfl⟩) ⟨px_fb, va_recv hK hP (ci := 10) (q0 := kk_1) rfl hk_2, fun U hU hW => ⟨rfl, px_to hU hW hP hK hN hXN⟩⟩ rfl rfl hl.1 rfl (lv_room (Nat.le_of_ble_eq_true rfl)) dX11_keep_1 ⟨Nat.le_of_ble_eq_true rfl, Nat.le_of_ble_eq_true rfl⟩).run (fun r hw => ?_)
  obtain ⟨hw, hact⟩ : r = 1 ∧ ¬ 300 ≤ k 1 := by rcases hw with h9 | h9; exact absurd h9.2 hca; exact h9
  subst hw
  refine lv_if_eq (tgt := 27) hx hb dX11_keep_4 (by decide) (fun c_3 => absurd c_3 (by decide)) (fun c_3 => ?_)
  refine lv_aload_n hx hb dX11_keep_7 rfl (lv_at hl 0 rfl) ?_
  obtain ⟨kk_4, hk_5⟩ := pl_at hI.2.1.1.1 hI.2.2.2.1.1
  refine va_get (D := (dC, dI)) (ci := 10) (v := .ref (d 3)) (C := RX11) (T := TX11) (N := 9) hx hb hts zl_X11_keep_X11 hown hK hP kk_4 hk_5 rfl 4 (by decide) (hts (.fieldLink RX11 30 "PageOne" "acts" "[LPageOne$Act;") (zat q_wsX11_keep k_wsX11_keep 116 rfl (by decide +kernel))) (fun _ h9 => h9) rfl dX11_keep_8 ?_
  refine lv_aload_n hx hb dX11_keep_11 rfl (lv_at hl 0 rfl) ?_
  obtain ⟨kk_6, hk_7⟩ := pl_at hI.2.1.1.1 hI.2.2.2.1.1
  refine va_get (D := (dC, dI)) (ci := 10) (v := .int (k 1)) (C := RX11) (T := TX11) (N := 9) hx hb hts zl_X11_keep_X11 hown hK hP kk_6 hk_7 rfl 5 (by decide) (hts (.fieldLink RX11 34 "PageOne" "actCount" "I") (zat q_wsX11_keep k_wsX11_keep 117 rfl (by decide +kernel))) (fun _ h9 => h9) rfl dX11_keep_12 ?_
  refine lv_aload_n hx hb dX11_keep_15 rfl (lv_at hl 1 rfl) ?_
  obtain ⟨g_8, hs_9, hg_10⟩ := x_ac hI hI.2.1.2.2.2.2.1
  obtain ⟨kk_11, hk_12⟩ := pl_at hI.2.1.2.2.2.2.1.1 hs_9
  obtain ⟨pp_13, ll_14, nn_15, ah_16, ha_17, hs_18, hl_19, hh_20⟩ := x_acS hI hc0
  obtain ⟨kk_21, hk_22⟩ := pl_at hc0.1 hs_18
  have hD0 := hD
  refine va_astq hx hb hK hP hD hS kk_11 4 kk_21 0 hk_12 rfl hk_22 rfl (vAc hI.1.2.1 hact).1 dX11_keep_16 (fun H locs hP hD hS => ?_)
  rw [pl_set hD0 hI.2.1.2.2.2.2.1.1 hs_9 hk_12] at hP hD
  obtain ⟨f_23, ef_23⟩ : ∃ y : xF, y = va_up f (d 3) (aR (q 4) 300 (va_up g_8 ((k 1) : Int32).toNatClampNeg (some c0))) := ⟨_, rfl⟩
  have hI : xI q h0 d k z f_23 := by rw [ef_23]; exact x_up hI hI.2.1.2.2.2.2.1 (by decide) (cO_5 hI.2.1.2.2.2.2.1.2 ⟨_, rfl, ty_up hg_10 (ty_s hc0)⟩)
  have hP : va_P (dC, dI) vwCl (va_pl z.1 f_23) H := by rw [ef_23]; exact hP
  have hD : va_D A (va_pl z.1 f_23) := by rw [ef_23]; exact hD
  refine lv_aload_n hx hb dX11_keep_17 rfl (lv_at hl 0 rfl) ?_
  refine lv_dup hx hb dX11_keep_18 rfl ?_
  obtain ⟨kk_24, hk_25⟩ := pl_at hI.2.1.1.1 hI.2.2.2.1.1
  refine va_get (D := (dC, dI)) (ci := 10) (v := .int (k 1)) (C := RX11) (T := TX11) (N := 9) hx hb hts zl_X11_keep_X11 hown hK hP kk_24 hk_25 rfl 5 (by decide) (hts (.fieldLink RX11 34 "PageOne" "actCount" "I") (zat q_wsX11_keep k_wsX11_keep 117 rfl (by decide +kernel))) (fun _ h9 => h9) rfl dX11_keep_19 ?_
  refine lv_iconst (v := 1) hx hb dX11_keep_22 (by decide) ?_
  refine lv_iadd hx hb dX11_keep_23 ?_
  refine lv_topi (fun x_26 ex_26 => ?_)
  obtain ⟨kk_27, hk_28⟩ := pl_at hI.2.1.1.1 hI.2.2.2.1.1
  have hD0 := hD
  refine va_put (D := (dC, dI)) (ci := 10) (v := .int x_26) (ty := .int) (C := RX11) (T := TX11) (N := 9) hx hb hts zl_X11_keep_X11 tyX11 tyX11_ok nmX11 hown hK hP hD hS kk_27 hk_28 rfl 5 (by decide) (hts (.fieldLink RX11 34 "PageOne" "actCount" "I") (zat q_wsX11_keep k_wsX11_keep 117 rfl (by decide +kernel))) (fun _ h9 => h9) rfl (tyX11_ok 5 (by decide)) rfl rfl (Nat.le_of_ble_eq_true rfl) dX11_keep_24 (fun H locs hP hD hS => ?_)
  obtain ⟨k_29, ek_29⟩ : ∃ y : Nat → Int32, y = kup k 1 x_26 := ⟨_, rfl⟩
  rw [pl_set hD0 hI.2.1.1.1 hI.2.2.2.1.1 hk_28] at hP hD
  obtain ⟨f_30, ef_30⟩ : ∃ y : xF, y = va_up f_23 h0 (.inr (10, dkF d k_29)) := ⟨_, rfl⟩
  have hP : va_P (dC, dI) vwCl (va_pl z.1 f_30) H := by rw [ef_30, ek_29]; exact hP
  have hD : va_D A (va_pl z.1 f_30) := by rw [ef_30, ek_29]; exact hD
  have hI : xI q h0 d k_29 z f_30 := by rw [ef_30]; exact x_dk hI (by rw [ek_29]; exact ⟨hI.1.1, by rw [kup_s, ex_26]; exact (vAc hI.1.2.1 hact).2, hI.1.2.2⟩) (by rw [ek_29]; exact Nat.le_refl _)
  exact W.vret hx hb hr (fun t ht hW => ⟨⟨(k_29, z, f_30), rfl, ⟨rfl, hI, by rw [ek_29, ex_26], g_8, hs_9, by rw [ef_30, ef_23]⟩, by rw [ht]; exact hP, hD⟩, hS.F ht⟩) hS.2.2 dX11_keep_27
theorem sl_e {u : mS} {i : Nat} (hi : i < 80) (hc : u.2 22 i = nI (u.2 22 i).toNatClampNeg) (h0 : 0 < (u.2 22 i).toNatClampNeg) (h6 : (u.2 22 i).toNatClampNeg ≤ 6) : (6 * nI i + (u.2 22 (nI i).toNatClampNeg - 1)).toNatClampNeg = 6 * i + ((u.2 22 i).toNatClampNeg - 1) := by
  rw [nI_clamp (n := i) (by omega)]
  generalize hcc : (u.2 22 i).toNatClampNeg = c at *
  rw [hc, show (1 : Int32) = nI 1 from rfl, nI_sb (i := c) (r := 1) (by omega) (by omega), show (6 : Int32) = nI 6 from rfl, pk_mul, nI_add, nI_clamp (by omega)]
/-- mUnstand and a kept act -/
theorem un_ac {u w : mS} {i : Int32} {P X Y D N : Nat} (h2 : w.2 2 = u.2 2) (h22 : w.2 22 = u.2 22) {r : Nat} (hr : w.2 r = u.2 r) : (mUnstand w i P X Y D N).2 r = (mUnstand u i P X Y D N).2 r := by
  by_cases e : r = 2
  · subst e; rw [mUnstand_2, mUnstand_2, h2]
  · by_cases e2 : r = 22
    · subst e2
      unfold mUnstand
      dsimp only
      rw [mput_other (by decide), mput_other (by decide)]
      funext j
      rw [mst_at, mst_at, h22]
    · rw [mUnstand_k _ _ _ _ _ _ _ (by omega) (by omega), mUnstand_k _ _ _ _ _ _ _ (by omega) (by omega), hr]
def lfA (u : mS) (p0 : Int32) (P X Y D N : Nat) : Prop := bw p0 0 (u.1 3 - 1) = true → ¬ u.2 22 p0.toNatClampNeg = 0 → rIn u P X Y D N ∧ u.2 23 (6 * p0 + (u.2 22 p0.toNatClampNeg - 1)).toNatClampNeg = nI P ∧ u.2 24 (6 * p0 + (u.2 22 p0.toNatClampNeg - 1)).toNatClampNeg = nI X ∧ u.2 25 (6 * p0 + (u.2 22 p0.toNatClampNeg - 1)).toNatClampNeg = nI Y ∧ u.2 26 (6 * p0 + (u.2 22 p0.toNatClampNeg - 1)).toNatClampNeg = nI D ∧ u.2 27 (6 * p0 + (u.2 22 p0.toNatClampNeg - 1)).toNatClampNeg = nI N
theorem n300 {k : Nat → Int32} (h : bw (k 1) 0 300 = true) : (300 ≤ k 1 → k 1 = 300) ∧ (¬ 300 ≤ k 1 → ¬ k 1 = 300) := by
  have h1 := bw_iff.mp h
  have e3 : (300 : Int32).toInt = 300 := rfl
  refine ⟨fun x => ?_, fun x e => x (by rw [e]; decide)⟩
  rw [i32_le] at x; exact Int32.toInt_inj.mp (by omega)
theorem lf_i {u : mS} {i : Int32} {P X Y D N : Nat} (h : ¬ bw i 0 (u.1 3 - 1) = true) : mLift u i P X Y D N = (-1, u) := by unfold mLift; rw [if_neg h]
theorem lf_0 {u : mS} {i : Int32} {P X Y D N : Nat} (h : u.2 22 i.toNatClampNeg = 0) : mLift u i P X Y D N = (-1, u) := by
  unfold mLift; rw [if_pos h]; split <;> rfl
theorem lf_3 {u : mS} {i : Int32} {P X Y D N : Nat} (h : u.1 28 = 300) : mLift u i P X Y D N = (-1, u) := by
  unfold mLift; rw [if_pos h]; repeat' split
  all_goals rfl
theorem lift_fin {q h0 d k u z f z9 f9 k9} {i a b P X Y D N : Nat} {fc : xF} (hI : xI q h0 d k z f) (hrp : rep q d u z f) (hk0 : k 0 = u.1 3) (hk1 : k 1 = u.1 28) (hi : i < (u.1 3).toNatClampNeg) (hca : ¬ 300 ≤ k 1) (h0c : ¬ u.2 22 i ≤ 0) (hE : zE z z9) (hI9 : xI q h0 d k9 z9 f9) (hrp9 : rep q d (mUnstand u (nI i) P X Y D N) z9 f9) (h3m : fc (d 3) = f (d 3)) (hkc : k9 = kup k 1 (k 1 + 1)) (hk3 : ∃ g, fc (d 3) = aR (q 4) 300 g ∧ f9 (d 3) = aR (q 4) 300 (va_up g (k 1).toNatClampNeg (some a))) (hac : acS z9 a b 1 1 none) (hpc : pcS z9 b (some (d (2000 + i))) (nI P) (nI X) (nI Y) (nI D) (nI N)) : actP q h0 d k z f (mLift u (nI i) P X Y D N) (fun e => e = (1, (nI i).toNatClampNeg, (P, X, Y, D, N), [])) ((mUnstand u (nI i) P X Y D N).2 22 i) (k9, z9, f9) := by
  have hn : bw (u.1 3) 0 80 = true := by rw [← hk0]; exact hI.1.1
  have hb := bw_it hn hi
  have eI : (nI i).toNatClampNeg = i := nI_clamp (by omega)
  have n0 : ¬ u.2 22 (nI i).toNatClampNeg = 0 := fun e => h0c (by rw [eI] at e; rw [e]; decide)
  have n3 : ¬ u.1 28 = 300 := by rw [← hk1]; exact (n300 hI.1.2.1).2 hca
  obtain ⟨g, g1, g2⟩ := hk3
  rw [eI]
  unfold mLift
  rw [if_pos hb.1, if_neg n0, if_neg n3]
  dsimp only
  refine ⟨hE, hI9, ?_, rep_rows hrp9 rfl (fun r hr => un_ac (mActs_k _ _ _ _ _ _ _ _ (by omega)) (mActs_k _ _ _ _ _ _ _ _ (by omega)) (mActs_k _ _ _ _ _ _ _ _ (by omega))), fun j hj => by rw [hkc]; exact kup_o hj, ?_, Or.inr ⟨g, a, _, by rw [← h3m]; exact g1, g2, by show k9 1 = _; rw [hkc, kup_s], ?_, rfl⟩⟩
  · rw [eI, un_ac (mActs_k _ _ _ _ _ _ _ _ (by omega)) (mActs_k _ _ _ _ _ _ _ _ (by omega)) (mActs_k _ _ _ _ _ _ _ _ (by omega))]
  · show k9 1 = u.1 28 + 1
    rw [hkc, kup_s, hk1]
  · exact Or.inr (Or.inl ⟨rfl, b, hac, hpc⟩)
theorem le0z {c : Int32} {n : Nat} (h6 : n ≤ 6) (h : bw c 0 (nI n) = true) (hl : c ≤ 0) : c = 0 := by
  obtain ⟨e1, e2⟩ := cnN h6 h
  rw [i32_le, e1, nI_toInt (by omega), i0] at hl
  rw [e1, show c.toNatClampNeg = 0 by omega]; rfl
theorem lf_ca {q h0 d k u z f} {p0 : Int32} {i n : Nat} {g : Nat → Option Nat} {E : Nat → Nat → Nat → Nat → Nat → hE → Prop} (hI : xI q h0 d k z f) (h : rep q d u z f) (hk0 : k 0 = u.1 3) (hk1 : k 1 = u.1 28) (hpc : pcI u) (ep : p0 = nI i) (hi : i < (u.1 3).toNatClampNeg) (hps : f (d (3000 + i)) = aR (q 5) n g) (h6 : n ≤ 6) (hcb : bw (u.2 22 i) 0 (nI n) = true) (hca : 300 ≤ k 1) : ∃ P X Y D N, lfA u p0 P X Y D N ∧ actP q h0 d k z f (mLift u p0 P X Y D N) (E P X Y D N) (-1) (k, z, f) := by
  have e3 : u.1 28 = 300 := by rw [← hk1]; exact (n300 hI.1.2.1).1 hca
  have hi8 : i < 80 := by have := w80i hI.1.1 hk0; omega
  rcases Classical.em (u.2 22 i ≤ 0) with hl | hl
  · exact ⟨0, 0, 0, 0, 0, fun _ h2 => absurd (by rw [ep, nI_clamp (by omega)]; exact le0z h6 hcb hl) h2, actP_0 hI h hk1 (lf_3 e3)⟩
  · obtain ⟨hpos, b9, P, X, Y, D, N, el9, hpcx, hrx, s0, s1, s2, s3, s4⟩ := last_all hI h hpc hi hps h6 hcb hl
    refine ⟨P, X, Y, D, N, fun _ _ => ⟨hrx, ?_⟩, actP_0 hI h hk1 (lf_3 e3)⟩
    rw [ep, sl_e hi8 (cnN h6 hcb).1 hpos (by have := (cnN h6 hcb).2; omega)]
    exact ⟨s0, s1, s2, s3, s4⟩
set_option maxHeartbeats 4000000 in
set_option maxRecDepth 100000 in
theorem y_lift (l : Launch) (dC : Nat → ClassId) (dI : Nat → Nat → Nat) (q : Nat → ClassId) (h0 : Nat) (d : Nat → Nat) (k : Nat → Int32) (z : gS) (f : xF) (hI : xI q h0 d k z f) (p0 : Int32) (u : mS) (hrp : rep q d u z f) (hk0 : k 0 = u.1 3) (hk1 : k 1 = u.1 28) (hk2 : k 2 = u.1 38) (hk3 : k 3 = u.1 39) (hz0 : (z.2 h0).2.1 = 0) (hpcI : pcI u) (hne : ∀ j, j < 5760 → ¬ u.2 2 j = (-1)) (sz : Nat) : Met l yX11_lift wsX11_lift ({ frames := 5, cells := 1, slots := 4, locals := 109 }) (va_Pc [.ref h0, .int p0] (fun U => U.heap.size = sz ∧ PX dC dI (va_pl z.1 f) (xT q) U ∧ va_D (fun _ => True) (va_pl z.1 f))) (va_Qi (fun (r : Int32) (w : xU) => ∃ P X Y D N, lfA u p0 P X Y D N ∧ actP q h0 d k z f (mLift u p0 P X Y D N) (fun e => e = (1, p0.toNatClampNeg, (P, X, Y, D, N), [])) r w) (fun (w : xU) t => va_P (dC, dI) vwCl (va_pl w.2.1.1 w.2.2) t.heap ∧ va_D (va_A (va_pl z.1 f) sz) (va_pl w.2.1.1 w.2.2)) (va_A (va_pl z.1 f) sz)) 1 4 (va_A (va_pl z.1 f) sz) := by
  refine Met.ofW (cc := cX11_lift) (maxL := 4) (ret := (some .int)) (by decide) rfl ?_
  intro p e s m args below meth c s₁ B hml hv
  obtain ⟨rfl, hsz, ⟨⟨hP, hK, hN⟩, hXN⟩, hD0⟩ := hv
  have hx := B.exec
  have hb := B.bytes
  have hr := B.returns
  have hts := atoms_spec (ws := wsX11_lift) B.pre
  have hown : s.vm.findClass RX11 = some m.cls := findClass_of_methodNamed B.named
  have hlocks := B.notSynchronized
  subst hsz
  have hD := hD0.self (sz := s.heap.size)
  generalize hAe : va_A (va_pl z.1 f) s.heap.size = A at hD ⊢
  have hA : ∀ q : Nat, s.heap.size ≤ q → A q := fun q h => by rw [← hAe]; exact Or.inr h
  have hS : va_S A s.heap s.heap [] := va_S.rf
  have hl := lv_entry ([.ref h0, .int p0]) (n := 4) (Nat.le_of_ble_eq_true rfl)
  rw [lg_entry_eq]
  generalize (lg_sl ([.ref h0, .int p0]) ++ List.replicate (4 - (lg_sl ([.ref h0, .int p0])).length) Slot.unset).toArray = ls at hl ⊢
  have hl : lv_has ls 4 [(0, .ref h0), (1, .int p0)] := hl
  have hIo := hI
  have hk1o := hk1
  refine lv_aload_n hx hb dX11_lift_0 rfl (lv_at hl 0 rfl) ?_
  refine lv_iload_n hx hb dX11_lift_1 rfl (lv_at hl 1 rfl) ?_
  obtain ⟨kk_1, hk_2⟩ := pl_at hI.2.1.1.1 hI.2.2.2.1.1
  refine va_csq (va_runV (As := [.int p0]) (rest := []) ⟨hx, hb, hml, hown, hts⟩ (y_itemOf l dC dI q h0 d k z f hI p0 u hrp hk0 hk1 hk2 hk3) (cwV 1 hts gX11_lift_X11_itemOf rfl rfl rfl zh_X11_itemOf_49 ⟨Nat.le_of_ble_eq_true rfl, Nat.le_of_ble_eq_true rfl⟩) ⟨px_fb, va_recv hK hP (ci := 10) (q0 := kk_1) rfl hk_2, fun U hU hW => ⟨rfl, px_to hU hW hP hK hN hXN⟩⟩ rfl rfl hl.1 rfl (lv_room (Nat.le_of_ble_eq_true rfl)) dX11_lift_2 ⟨Nat.le_of_ble_eq_true rfl, Nat.le_of_ble_eq_true rfl⟩).run (fun r hw => ?_)
  rcases hw with ⟨hr9, hn9⟩ | ⟨i_3, hi_4, ep_5, hr9⟩
  ·
    subst hr9
    have hno_25 := hn9
    refine W.eq (g2 := F0 m 5 ls [.null]) rfl ?_
    refine lv_astore_nN (lv' := [(2, .null), (0, .ref h0), (1, .int p0)]) hx hb dX11_lift_5 rfl hl (by decide) rfl (fun ls hl => ?_)
    refine lv_aload_nN hx hb dX11_lift_6 rfl (lv_at hl 0 rfl) ?_
    refine lv_ifnullN (tgt := 17) hx hb dX11_lift_7 (by decide) ?_
    refine lv_iconst (v := (-1)) hx hb dX11_lift_17 (by decide) ?_
    refine W.widen (k := 1) (n := 4) (Nat.le_of_ble_eq_true rfl) (Nat.le_of_ble_eq_true rfl) ?_
    exact W.iret (v := (-1)) hx hb hr (fun t ht hW => ⟨⟨(-1), (k, z, f), rfl, ⟨0, 0, 0, 0, 0, fun h1 h2 => absurd h1 hno_25, actP_0 hI hrp hk1 (lf_i hno_25)⟩, by rw [ht]; exact hP, hD⟩, hS.F ht⟩) hS.2.2 dX11_lift_18
  ·
    subst hr9
    obtain ⟨rs_6, n_7, g_8, fg_9, hit_10, hs_11, hpa_12, hps_13, h1_14, h6_15, hcb_16, hpl_17, hlg_18, hnn_19, hfa_20, hfs_21, hfe_22, hrs_23, hkt_24⟩ := it_all hI hrp.2.2.1 hi_4
    refine W.eq (g2 := F0 m 5 ls [.ref (d (2000 + i_3))]) rfl ?_
    refine lv_astore_n (lv' := [(2, .ref (d (2000 + i_3))), (0, .ref h0), (1, .int p0)]) hx hb dX11_lift_5 rfl hl (by decide) rfl (fun ls hl => ?_)
    refine lv_aload_n hx hb dX11_lift_6 rfl (lv_at hl 0 rfl) ?_
    refine lv_ifnull hx hb dX11_lift_7 ?_
    refine lv_aload_n hx hb dX11_lift_10 rfl (lv_at hl 1 rfl) ?_
    obtain ⟨kk_26, hk_27⟩ := pl_at hI.2.1.1.1 hI.2.2.2.1.1
    refine vp_callSi (va_runV (As := []) (rest := []) ⟨hx, hb, hml, hown, hts⟩ (y_canAct l dC dI q h0 d k z f hI) (cwV 0 hts gX11_lift_X11_canAct rfl rfl rfl zh_X11_canAct_60 ⟨Nat.le_of_ble_eq_true rfl, Nat.le_of_ble_eq_true rfl⟩) ⟨px_fb, va_recv hK hP (ci := 10) (q0 := kk_26) rfl hk_27, fun U hU hW => ⟨rfl, px_to hU hW hP hK hN hXN⟩⟩ rfl rfl hl.1 rfl (lv_room (Nat.le_of_ble_eq_true rfl)) dX11_lift_11 ⟨Nat.le_of_ble_eq_true rfl, Nat.le_of_ble_eq_true rfl⟩).run (fun r hw => ?_)
    rcases hw with ⟨hw, hca_28⟩ | ⟨hw, hca_28⟩
    ·
      subst hw
      refine lv_if_ne (tgt := 19) hx hb dX11_lift_14 (by decide) (fun c_29 => absurd (by decide) c_29) (fun c_29 => ?_)
      refine lv_iconst (v := (-1)) hx hb dX11_lift_17 (by decide) ?_
      refine W.widen (k := 1) (n := 4) (Nat.le_of_ble_eq_true rfl) (Nat.le_of_ble_eq_true rfl) ?_
      exact W.iret (v := (-1)) hx hb hr (fun t ht hW => ⟨⟨(-1), (k, z, f), rfl, (lf_ca hI hrp hk0 hk1 hpcI ep_5 hi_4 hps_13 h6_15 hcb_16 hca_28), by rw [ht]; exact hP, hD⟩, hS.F ht⟩) hS.2.2 dX11_lift_18
    ·
      subst hw
      refine lv_if_ne (tgt := 19) hx hb dX11_lift_14 (by decide) (fun c_30 => ?_) (fun c_30 => absurd c_30 (by decide))
      refine lv_aload_n hx hb dX11_lift_19 rfl (lv_at hl 0 rfl) ?_
      refine w_cut (X := fun R cells slots Q args => ∀ r : Option Nat, (r = s_last (u.2 22 i_3) g_8) → W p l e R s m args below meth c s.heap [] cells slots Q (F0 m 23 ls (va_rf r :: []))) ?_ (fun kC => ?_)
      ·
        intro r hw
        rcases Classical.em (u.2 22 i_3 ≤ 0) with hl0 | hl0
        ·
          obtain rfl : r = none := hw.trans (by unfold s_last; rw [if_pos hl0])
          refine W.eq (g2 := F0 m 23 ls [.null]) rfl ?_
          refine lv_astore_nN (lv' := [(3, .null), (2, .ref (d (2000 + i_3))), (0, .ref h0), (1, .int p0)]) hx hb dX11_lift_23 rfl hl (by decide) rfl (fun ls hl => ?_)
          refine lv_aload_nN hx hb dX11_lift_24 rfl (lv_at hl 0 rfl) ?_
          refine lv_ifnonnullN hx hb dX11_lift_25 ?_
          refine lv_iconst (v := (-1)) hx hb dX11_lift_28 (by decide) ?_
          refine W.widen (k := 1) (n := 4) (Nat.le_of_ble_eq_true rfl) (Nat.le_of_ble_eq_true rfl) ?_
          exact W.iret (v := (-1)) hx hb hr (fun t ht hW => ⟨⟨(-1), (k, z, f), rfl, ⟨0, 0, 0, 0, 0, fun h1 h2 => absurd (by rw [ep_5, nI_clamp (by have := w80i hIo.1.1 hk0; have := hi_4; omega)]; exact le0z h6_15 hcb_16 hl0) h2, actP_0 hI hrp hk1 (by rw [ep_5]; exact lf_0 (by rw [nI_clamp (by have := w80i hIo.1.1 hk0; have := hi_4; omega)]; exact le0z h6_15 hcb_16 hl0))⟩, by rw [ht]; exact hP, hD⟩, hS.F ht⟩) hS.2.2 dX11_lift_29
        ·
          obtain ⟨hpos, b9, P, X, Y, D, N, el9, hpcx, hrx, s0, s1, s2, s3, s4⟩ := last_all hI hrp hpcI hi_4 hps_13 h6_15 hcb_16 hl0
          obtain rfl : r = some b9 := hw.trans el9
          refine W.eq (g2 := F0 m 23 ls [.ref b9]) rfl ?_
          have hrx9 := hrx
          obtain ⟨hP9, hX, hD1, hY, hN1, hin⟩ := hrx9
          have hlgb := lg_of hpcx ⟨b7n (by omega), b60n (by omega), bwN (by have e8 : (8 : Int32).toInt = 8 := rfl; rw [e8]; omega) (by omega), b60n (by omega)⟩
          refine lv_astore_n (lv' := [(3, .ref b9), (2, .ref (d (2000 + i_3))), (0, .ref h0), (1, .int p0)]) hx hb dX11_lift_23 rfl hl (by decide) rfl (fun ls hl => ?_)
          refine lv_aload_n hx hb dX11_lift_24 rfl (lv_at hl 0 rfl) ?_
          refine lv_ifnonnull (tgt := 30) hx hb dX11_lift_25 (by decide) ?_
          refine lv_aload_n hx hb dX11_lift_30 rfl (lv_at hl 2 rfl) ?_
          refine lv_aload_n hx hb dX11_lift_31 rfl (lv_at hl 0 rfl) ?_
          obtain ⟨kk_126, hk_127⟩ := pl_at hI.2.1.1.1 hI.2.2.2.1.1
          have hFc := fr_all hD hS hA
          refine va_callv (va_runV (As := [.ref b9]) (rest := []) ⟨hx, hb, hml, hown, hts⟩ (y_offI l dC dI q h0 d k z f hI b9 P X Y D N u hrp hk0 hk1o hk2 hk3 hP9 hX hD1 hY hin hne i_3 hi_4 hpcx hpos s.heap.size) (cwV 1 hts gX11_lift_X11_takeOff rfl rfl rfl zh_X11_takeOff_61 ⟨Nat.le_of_ble_eq_true rfl, Nat.le_of_ble_eq_true rfl⟩) ⟨gx_fb, va_recv hK hP (ci := 10) (q0 := kk_126) rfl hk_127, fun U hU hW => ⟨rfl, by rw [hU], px_to hU hW hP hK hN hXN, hD.weaken (fun _ _ _ _ => trivial)⟩⟩ rfl rfl hl.1 rfl (lv_room (Nat.le_of_ble_eq_true rfl)) dX11_lift_32 ⟨Nat.le_of_ble_eq_true rfl, Nat.le_of_ble_eq_true rfl⟩) hS (fun q _ h => hFc q h) hFc (fun w_128 t H1 locs ht hvm hw hB hz1 hk1 hS => ?_)
          obtain ⟨hP, hD1⟩ := hB
          rw [ht] at hP
          rw [hw.2.1] at hP hD1
          have hD := hD1.weaken (fun _ q _ h => hFc q.1 h)
          have hI := hw.2.2.1
          have hw0 := hw
          generalize w_128.2.2 = f_129 at hP hD hI hw0
          generalize H1 = H at hP hS ⊢
          obtain ⟨u2, eu2⟩ : ∃ y : mS, y = mUnstand u (nI i_3) P X Y D N := ⟨_, rfl⟩
          have hrp2 : rep q d u2 z f_129 := by rw [eu2]; exact hw0.2.2.2.1
          have h3m : f_129 (d 3) = f (d 3) := hw0.2.2.2.2
          refine lv_aload_n hx hb dX11_lift_35 rfl (lv_at hl 2 rfl) ?_
          refine va_new (ci := 0) (fs := [.null, .int 0, .null, .int 0]) (C := RX0) (T := TX0) (N := 4) hx hb hts zl_X11_lift_X0 tyX0 tyX0_ok hown (hts (.classLink RX11 28 RX0) (zat q_wsX11_lift k_wsX11_lift 80 rfl (by decide +kernel))) (hts (.instantiable RX0 4) (zat q_wsX11_lift k_wsX11_lift 598 rfl (by decide +kernel))) (hts (.initialized RX0) (zat q_wsX11_lift k_wsX11_lift 65 rfl (by decide +kernel))) hK hP hD hS hA rfl nwX0 (Nat.le_of_ble_eq_true rfl) (Nat.le_of_ble_eq_true rfl) dX11_lift_36 (fun q_130 H hPn hDn hS => ?_)
          have hP := vaP_l hPn
          refine W.widen (k := 1) (n := 4) (Nat.le_of_ble_eq_true rfl) (Nat.le_of_ble_eq_true rfl) ?_
          refine lv_dup hx hb dX11_lift_39 rfl ?_
          refine lv_aload_n hx hb dX11_lift_40 rfl (lv_at hl 0 rfl) ?_
          refine lv_iconst (v := 1) hx hb dX11_lift_41 (by decide) ?_
          refine lv_null hx hb dX11_lift_42 ?_
          have hPc := vaP_r hPn
          have hDc := vaD_r hDn
          have hFc := fr_part hDn hS hA
          refine va_callv (va_runI (As := [.ref b9, .int 1, .null]) (rest := [.ref q_130, .ref h0]) ⟨hx, hb, hml, hown, hts⟩ (x_ActL l dC dI q_130 b9 H.size) (cwI 3 hts gX11_lift_X0_init rfl rfl rfl (hts (.initialized RX0) (zat q_wsX11_lift k_wsX11_lift 65 rfl (by decide +kernel))) (hts (.methodLink RX11 163 yX0_init) (zat q_wsX11_lift k_wsX11_lift 599 rfl (by decide +kernel))) (hts (.instanceMethod yX0_init) (zat q_wsX11_lift k_wsX11_lift 600 rfl (by decide +kernel))) rfl zh_X0_init_81 ⟨Nat.le_of_ble_eq_true rfl, Nat.le_of_ble_eq_true rfl⟩) ⟨gw_fb, fun U hU hW => ⟨rfl, by rw [hU], pw_to hU hW hPc (hK.sub (tys' := []) [] rfl) hN, hDc.weaken (fun _ _ _ _ => trivial)⟩⟩ rfl rfl hl.1 rfl (lv_room (Nat.le_of_ble_eq_true rfl)) dX11_lift_43 ⟨Nat.le_of_ble_eq_true rfl, Nat.le_of_ble_eq_true rfl⟩) hS (fun q _ h => hFc q h) hFc (fun u9 t H1 locs ht hvm hw hB hz1 hk1 hS => ?_)
          obtain ⟨hP1, hD1⟩ := hB
          rw [ht] at hP1
          obtain ⟨hP, hD⟩ := va_joinQ (X := [(q_130, .inr (0, [.null, .int 0, .null, .int 0]))]) (cx := [(q_130, .inr (0, [.null, .int 0, .null, .int 0]))]) (wr := []) (w1 := [(q_130, .inr (0, [.ref b9, .int 1, va_rf none, .int 1]))]) (pl := va_pl z.1 f_129) (vaP_swap hPn) (vaD_rotR hDn) [0] [] rfl rfl rfl (fun i hi => absurd hi List.not_mem_nil) hk1 hFc hP1 hD1
          generalize H1 = H at hP hS ⊢
          obtain ⟨hnm_131, hP, hD⟩ := pushC hP hD
          obtain ⟨z_132, ez_132⟩ : ∃ y : gS, y = pz z q_130 (23, 0, [.ref b9, .int 1, va_rf none, .int 1]) := ⟨_, rfl⟩
          obtain ⟨f_133, ef_133⟩ : ∃ y : xF, y = va_up f_129 q_130 (.inr (0, [.ref b9, .int 1, va_rf none, .int 1])) := ⟨_, rfl⟩
          have hE_134 : zE z z_132 := by rw [ez_132]; exact pz_E hnm_131 _
          have hI : xI q h0 d k z_132 f_133 := by rw [ez_132, ef_133]; exact x_push hI hnm_131 (Or.inr (by decide : (15 : Nat) < 23)) (cO_ac hlgb hnm_131)
          rw [show z.1 ++ [q_130] = z_132.1 from by rw [ez_132]; rfl, ← ef_133] at hP hD
          have hit_10 := zE_itm hE_134 hit_10
          have hpa_12 := zE_tg hE_134 hpa_12
          have hfa_20 := zE_tg hE_134 hfa_20
          have hlgb := zE_lg hE_134 hlgb
          have hpcx := zE_pc hE_134 hpcx
          have ht_135 : tg z_132 q_130 23 := by rw [ez_132]; exact pz_t _ _ _
          have hEz : zE z z_132 := zE_tr (zE_rf z) hE_134
          have h3m : f_133 (d 3) = f (d 3) := by rw [ef_133]; exact (up_o (fun e9 => hnm_131 (by rw [← e9]; exact hrp2.2.2.2.2.2.2.2.1.1.1))).trans h3m
          have hrp_136 : rep q d u2 z_132 f_133 := by rw [ez_132, ef_133]; exact rep_grow hrp2 (pz_E hnm_131 _) (oK_push (fun _ _ => rfl) (zE_rf _) hnm_131)
          refine W.eq (g2 := F0 m 46 ls [.ref q_130, .ref h0]) rfl ?_
          have hIb := hI
          have hcx : ¬ 300 ≤ k 1 := hca_28
          obtain ⟨kk_137, hk_138⟩ := pl_at hI.2.1.1.1 hI.2.2.2.1.1
          have hFc := fr_all hD hS hA
          refine va_callv (va_runV (As := [.ref q_130]) (rest := []) ⟨hx, hb, hml, hown, hts⟩ (y_keep l dC dI q h0 d k z_132 f_133 hI q_130 ht_135 hcx H.size) (cwV 1 hts gX11_lift_X11_keep rfl rfl rfl zh_X11_keep_79 ⟨Nat.le_of_ble_eq_true rfl, Nat.le_of_ble_eq_true rfl⟩) ⟨gx_fb, va_recv hK hP (ci := 10) (q0 := kk_137) rfl hk_138, fun U hU hW => ⟨rfl, by rw [hU], px_to hU hW hP hK hN hXN, hD.weaken (fun _ _ _ _ => trivial)⟩⟩ rfl rfl hl.1 rfl (lv_room (Nat.le_of_ble_eq_true rfl)) dX11_lift_46 ⟨Nat.le_of_ble_eq_true rfl, Nat.le_of_ble_eq_true rfl⟩) hS (fun q _ h => hFc q h) hFc (fun w_139 t H1 locs ht hvm hw hB hz1 hk1 hS => ?_)
          obtain ⟨hP, hD1⟩ := hB
          rw [ht] at hP
          rw [hw.1] at hP hD1
          have hD := hD1.weaken (fun _ q _ h => hFc q.1 h)
          have hI := hw.2.1
          have hw0 := hw
          generalize w_139.1 = k_141 at hI hw0
          generalize w_139.2.2 = f_140 at hP hD hI hw0
          generalize H1 = H at hP hS ⊢
          have hkp := hw0.2.2
          have hrp_142 : rep q d u2 z_132 f_140 := rep_kp hrp_136 hIb (by rw [zE_o hEz hIo.2.1.1.1]; exact hz0) hkp
          have hi3 : i_3 < (u2.1 3).toNatClampNeg := by rw [eu2]; exact hi_4
          obtain ⟨rs_143, n_144, g_145, fg_146, hit_147, hs_148, hpa_149, hps_150, h1_151, h6_152, hcb_153, hpl_154, hlg_155, hnn_156, hfa_157, hfs_158, hfe_159, hrs_160, hkt_161⟩ := it_all hI hrp_142.2.2.1 hi3
          refine lv_aload_n hx hb dX11_lift_49 rfl (lv_at hl 1 rfl) ?_
          obtain ⟨kk_162, hk_163⟩ := pl_at hit_147.1 hs_148
          refine w_then (F0 m 53 ls [.int (u2.2 22 i_3)]) (fun hgo => ?_) ?_
          ·
            rcases x_tag hit_147 with ht9 | ht9 | ht9 | ht9 | ht9 | ht9
            ·
              rw [ht9.2] at hk_163
              exact va_get (D := (dC, dI)) (ci := 2) (v := .int (u2.2 22 i_3)) (C := RX2) (T := TX2) (N := 7) hx hb hts zl_X11_lift_X2 hown hK hP kk_162 hk_163 rfl 3 (by decide) (hts (.fieldLink RX11 170 "PageOne$Item" "count" "I") (zat q_wsX11_lift k_wsX11_lift 197 rfl (by decide +kernel))) (fun _ h9 => h9) rfl dX11_lift_50 hgo
            ·
              rw [ht9.2] at hk_163
              exact va_get (D := (dC, dI)) (ci := 3) (v := .int (u2.2 22 i_3)) (C := RX3) (T := TX3) (N := 8) hx hb hts zl_X11_lift_X3 hown hK hP kk_162 hk_163 rfl 3 (by decide) (hts (.fieldLink RX11 170 "PageOne$Item" "count" "I") (zat q_wsX11_lift k_wsX11_lift 197 rfl (by decide +kernel))) (fun _ h9 => h9) rfl dX11_lift_50 hgo
            ·
              rw [ht9.2] at hk_163
              exact va_get (D := (dC, dI)) (ci := 4) (v := .int (u2.2 22 i_3)) (C := RX5) (T := TX5) (N := 7) hx hb hts zl_X11_lift_X5 hown hK hP kk_162 hk_163 rfl 3 (by decide) (hts (.fieldLink RX11 170 "PageOne$Item" "count" "I") (zat q_wsX11_lift k_wsX11_lift 197 rfl (by decide +kernel))) (fun _ h9 => h9) rfl dX11_lift_50 hgo
            ·
              rw [ht9.2] at hk_163
              exact va_get (D := (dC, dI)) (ci := 5) (v := .int (u2.2 22 i_3)) (C := RX6) (T := TX6) (N := 9) hx hb hts zl_X11_lift_X6 hown hK hP kk_162 hk_163 rfl 3 (by decide) (hts (.fieldLink RX11 170 "PageOne$Item" "count" "I") (zat q_wsX11_lift k_wsX11_lift 197 rfl (by decide +kernel))) (fun _ h9 => h9) rfl dX11_lift_50 hgo
            ·
              rw [ht9.2] at hk_163
              exact va_get (D := (dC, dI)) (ci := 6) (v := .int (u2.2 22 i_3)) (C := RX7) (T := TX7) (N := 8) hx hb hts zl_X11_lift_X7 hown hK hP kk_162 hk_163 rfl 3 (by decide) (hts (.fieldLink RX11 170 "PageOne$Item" "count" "I") (zat q_wsX11_lift k_wsX11_lift 197 rfl (by decide +kernel))) (fun _ h9 => h9) rfl dX11_lift_50 hgo
            ·
              rw [ht9.2] at hk_163
              exact va_get (D := (dC, dI)) (ci := 9) (v := .int (u2.2 22 i_3)) (C := RX10) (T := TX10) (N := 9) hx hb hts zl_X11_lift_X10 hown hK hP kk_162 hk_163 rfl 3 (by decide) (hts (.fieldLink RX11 170 "PageOne$Item" "count" "I") (zat q_wsX11_lift k_wsX11_lift 197 rfl (by decide +kernel))) (fun _ h9 => h9) rfl dX11_lift_50 hgo
          ·
            exact W.iret (v := (u2.2 22 i_3)) hx hb hr (fun t ht hW => ⟨⟨(u2.2 22 i_3), (k_141, z_132, f_140), rfl, ⟨P, X, Y, D, N, (fun _ _ => ⟨hrx, by rw [ep_5, sl_e (by have := w80i hIo.1.1 hk0; have := hi_4; omega) (cnN h6_15 hcb_16).1 hpos (by have := (cnN h6_15 hcb_16).2; have := h6_15; omega)]; exact ⟨s0, s1, s2, s3, s4⟩⟩), by rw [ep_5, show (u2.2 22 i_3) = (mUnstand u (nI i_3) P X Y D N).2 22 i_3 from by rw [eu2]]; exact lift_fin hIo hrp hk0 hk1o hi_4 hcx hl0 hEz hI (by rw [← eu2]; exact hrp_142) h3m hkp.1 (kp_3 hrp_136 hIb hkp) ⟨ht_135, by rw [ez_132, pz_s]⟩ hpcx⟩, by rw [ht]; exact hP, hD⟩, hS.F ht⟩) hS.2.2 dX11_lift_53
      ·
        rcases x_tag hit_10 with ht9 | ht9 | ht9 | ht9 | ht9 | ht9
        ·
          obtain ⟨nu_31, kd_32, cn_33, pa_34, fa_35, l_36, m_37, hs_38, hs_39, hs_40, hs_41⟩ := x_ifl hI ht9
          obtain ⟨kk_42, hk_43⟩ := pl_at ht9.1 hs_38
          exact va_csq (va_runU (As := []) (rest := []) ⟨hx, hb, hml, hown, hts⟩ (y_lastPiece l dC dI q h0 d k z f hI (d (2000 + i_3)) hit_10 (nI i_3) (u.2 4 i_3) (u.2 22 i_3) (d (3000 + i_3)) (d (4000 + i_3)) rs_6 hs_11 n_7 g_8 (pR u i_3) hpa_12 hps_13 h1_14 h6_15 hcb_16 hpl_17) (va_cwU 0 hts gX11_lift_X4_lastPiece_u173X2 rfl rfl rfl rfl zu_80 ⟨Nat.le_of_ble_eq_true rfl, Nat.le_of_ble_eq_true rfl⟩) ⟨px_fb, va_recv hK hP (ci := 2) (q0 := kk_42) rfl hk_43, fun U hU hW => ⟨rfl, px_to hU hW hP hK hN hXN⟩⟩ rfl rfl hl.1 rfl (lv_room (Nat.le_of_ble_eq_true rfl)) dX11_lift_20 ⟨Nat.le_of_ble_eq_true rfl, Nat.le_of_ble_eq_true rfl⟩).run (fun r hw => kC r hw)
        ·
          obtain ⟨nu_44, kd_45, cn_46, pa_47, fa_48, o_49, w_50, y_51, hs_52, hs_53, hs_54, hs_55, hq_56⟩ := x_ihd hI ht9
          obtain ⟨kk_57, hk_58⟩ := pl_at ht9.1 hs_52
          exact va_csq (va_runU (As := []) (rest := []) ⟨hx, hb, hml, hown, hts⟩ (y_lastPiece l dC dI q h0 d k z f hI (d (2000 + i_3)) hit_10 (nI i_3) (u.2 4 i_3) (u.2 22 i_3) (d (3000 + i_3)) (d (4000 + i_3)) rs_6 hs_11 n_7 g_8 (pR u i_3) hpa_12 hps_13 h1_14 h6_15 hcb_16 hpl_17) (va_cwU 0 hts gX11_lift_X4_lastPiece_u173X3 rfl rfl rfl rfl zu_80 ⟨Nat.le_of_ble_eq_true rfl, Nat.le_of_ble_eq_true rfl⟩) ⟨px_fb, va_recv hK hP (ci := 3) (q0 := kk_57) rfl hk_58, fun U hU hW => ⟨rfl, px_to hU hW hP hK hN hXN⟩⟩ rfl rfl hl.1 rfl (lv_room (Nat.le_of_ble_eq_true rfl)) dX11_lift_20 ⟨Nat.le_of_ble_eq_true rfl, Nat.le_of_ble_eq_true rfl⟩).run (fun r hw => kC r hw)
        ·
          obtain ⟨nu_59, kd_60, cn_61, pa_62, fa_63, o_64, y_65, hs_66, hs_67, hs_68, hs_69, hq_70⟩ := x_ino hI ht9
          obtain ⟨kk_71, hk_72⟩ := pl_at ht9.1 hs_66
          exact va_csq (va_runU (As := []) (rest := []) ⟨hx, hb, hml, hown, hts⟩ (y_lastPiece l dC dI q h0 d k z f hI (d (2000 + i_3)) hit_10 (nI i_3) (u.2 4 i_3) (u.2 22 i_3) (d (3000 + i_3)) (d (4000 + i_3)) rs_6 hs_11 n_7 g_8 (pR u i_3) hpa_12 hps_13 h1_14 h6_15 hcb_16 hpl_17) (va_cwU 0 hts gX11_lift_X4_lastPiece_u173X5 rfl rfl rfl rfl zu_80 ⟨Nat.le_of_ble_eq_true rfl, Nat.le_of_ble_eq_true rfl⟩) ⟨px_fb, va_recv hK hP (ci := 4) (q0 := kk_71) rfl hk_72, fun U hU hW => ⟨rfl, px_to hU hW hP hK hN hXN⟩⟩ rfl rfl hl.1 rfl (lv_room (Nat.le_of_ble_eq_true rfl)) dX11_lift_20 ⟨Nat.le_of_ble_eq_true rfl, Nat.le_of_ble_eq_true rfl⟩).run (fun r hw => kC r hw)
        ·
          obtain ⟨nu_73, kd_74, cn_75, pa_76, fa_77, b_78, pr_79, sp_80, dy_81, hs_82, hs_83, hs_84, hs_85, hq_86, hq_87, hq_88⟩ := x_ipd hI ht9
          obtain ⟨kk_89, hk_90⟩ := pl_at ht9.1 hs_82
          exact va_csq (va_runU (As := []) (rest := []) ⟨hx, hb, hml, hown, hts⟩ (y_lastPiece l dC dI q h0 d k z f hI (d (2000 + i_3)) hit_10 (nI i_3) (u.2 4 i_3) (u.2 22 i_3) (d (3000 + i_3)) (d (4000 + i_3)) rs_6 hs_11 n_7 g_8 (pR u i_3) hpa_12 hps_13 h1_14 h6_15 hcb_16 hpl_17) (va_cwU 0 hts gX11_lift_X4_lastPiece_u173X6 rfl rfl rfl rfl zu_80 ⟨Nat.le_of_ble_eq_true rfl, Nat.le_of_ble_eq_true rfl⟩) ⟨px_fb, va_recv hK hP (ci := 5) (q0 := kk_89) rfl hk_90, fun U hU hW => ⟨rfl, px_to hU hW hP hK hN hXN⟩⟩ rfl rfl hl.1 rfl (lv_room (Nat.le_of_ble_eq_true rfl)) dX11_lift_20 ⟨Nat.le_of_ble_eq_true rfl, Nat.le_of_ble_eq_true rfl⟩).run (fun r hw => kC r hw)
        ·
          obtain ⟨nu_91, kd_92, cn_93, pa_94, fa_95, ww_96, hh_97, sz_98, hs_99, hs_100, hs_101, hs_102, hq_103, hq_104, hq_105⟩ := x_ipi hI ht9
          obtain ⟨kk_106, hk_107⟩ := pl_at ht9.1 hs_99
          exact va_csq (va_runU (As := []) (rest := []) ⟨hx, hb, hml, hown, hts⟩ (y_lastPiece l dC dI q h0 d k z f hI (d (2000 + i_3)) hit_10 (nI i_3) (u.2 4 i_3) (u.2 22 i_3) (d (3000 + i_3)) (d (4000 + i_3)) rs_6 hs_11 n_7 g_8 (pR u i_3) hpa_12 hps_13 h1_14 h6_15 hcb_16 hpl_17) (va_cwU 0 hts gX11_lift_X4_lastPiece_u173X7 rfl rfl rfl rfl zu_80 ⟨Nat.le_of_ble_eq_true rfl, Nat.le_of_ble_eq_true rfl⟩) ⟨px_fb, va_recv hK hP (ci := 6) (q0 := kk_106) rfl hk_107, fun U hU hW => ⟨rfl, px_to hU hW hP hK hN hXN⟩⟩ rfl rfl hl.1 rfl (lv_room (Nat.le_of_ble_eq_true rfl)) dX11_lift_20 ⟨Nat.le_of_ble_eq_true rfl, Nat.le_of_ble_eq_true rfl⟩).run (fun r hw => kC r hw)
        ·
          obtain ⟨nu_108, kd_109, cn_110, pa_111, fa_112, l_113, co_114, wd_115, nm_116, hs_117, hs_118, hs_119, hs_120, hq_121, hq_122, hq_123⟩ := x_ist hI ht9
          obtain ⟨kk_124, hk_125⟩ := pl_at ht9.1 hs_117
          exact va_csq (va_runU (As := []) (rest := []) ⟨hx, hb, hml, hown, hts⟩ (y_lastPiece l dC dI q h0 d k z f hI (d (2000 + i_3)) hit_10 (nI i_3) (u.2 4 i_3) (u.2 22 i_3) (d (3000 + i_3)) (d (4000 + i_3)) rs_6 hs_11 n_7 g_8 (pR u i_3) hpa_12 hps_13 h1_14 h6_15 hcb_16 hpl_17) (va_cwU 0 hts gX11_lift_X4_lastPiece_u173X10 rfl rfl rfl rfl zu_80 ⟨Nat.le_of_ble_eq_true rfl, Nat.le_of_ble_eq_true rfl⟩) ⟨px_fb, va_recv hK hP (ci := 9) (q0 := kk_124) rfl hk_125, fun U hU hW => ⟨rfl, px_to hU hW hP hK hN hXN⟩⟩ rfl rfl hl.1 rfl (lv_room (Nat.le_of_ble_eq_true rfl)) dX11_lift_20 ⟨Nat.le_of_ble_eq_true rfl, Nat.le_of_ble_eq_true rfl⟩).run (fun r hw => kC r hw)
theorem mCA {u : mS} {p c l : Int32} (h : mCellAt u p c l = (-2)) : mCell u p c l = true ∧ u.2 2 (480 * p + 60 * c + l).toNatClampNeg = (-2) := by
  unfold mCellAt at h
  by_cases e : mCell u p c l = true
  · rw [if_pos e] at h; exact ⟨e, h⟩
  · rw [if_neg e] at h; exact absurd h (by decide)
theorem rule_fr {gl gc : Nat → Int32} {u : mS} {p0 p1 p2 : Int32} (b : bw p0 0 11 = true) (el : eqR 8 gl (u.2 0) (8 * p0.toNatClampNeg)) (ec : eqR 480 gc (u.2 2) (480 * p0.toNatClampNeg)) (hgb : ∀ j, j < 8 → bw (gl j) 0 60 = true) (h : shFr gl gc p1 p2 1 1) : ∃ P X Y, p0 = nI P ∧ p1 = nI X ∧ p2 = nI Y ∧ P < 12 ∧ X + 1 ≤ 8 ∧ Y + 1 ≤ 60 ∧ (∀ a, a < 1 → Y + 1 ≤ (u.2 0 (8 * P + (X + a))).toNatClampNeg) ∧ mCell u p0 p1 p2 = true ∧ u.2 2 (480 * p0 + 60 * p1 + p2).toNatClampNeg = (-2) := by
  obtain ⟨P, hP, -, eP⟩ := exN b (by decide)
  have h11 : (11 : Int32).toInt = 11 := rfl
  subst eP
  rw [nI_clamp (by omega)] at el ec
  have h1 := h.2.2.2 0 (by decide) 0 (by decide)
  rw [show nI 0 = (0 : Int32) from rfl, Int32.add_zero, Int32.add_zero, shAt_eq (by omega) el ec hgb] at h1
  obtain ⟨c1, c2⟩ := mCA h1
  obtain ⟨X, hX, -, eX⟩ := exN h.2.1 (by decide)
  have h7 : (7 : Int32).toInt = 7 := rfl
  subst eX
  have c3 := c1
  unfold mCell at c3
  rw [Bool.and_eq_true, Bool.and_eq_true] at c3
  have e0 : (8 * nI P + nI X).toNatClampNeg = 8 * P + X := by rw [show (8 : Int32) = nI 8 from rfl, pk_mul, nI_add, nI_clamp (by omega)]
  have hl := c3.2
  rw [e0] at hl
  have hb1 := hgb X (by omega)
  rw [el X (by omega)] at hb1
  obtain ⟨Y, hY, -, eY⟩ := exN (b59 hb1 hl) (by decide)
  have h59 : (59 : Int32).toInt = 59 := rfl
  subst eY
  refine ⟨P, X, Y, rfl, rfl, rfl, by omega, by omega, by omega, fun a ha => ?_, c1, c2⟩
  have ea : a = 0 := by omega
  subst ea
  obtain ⟨l1, l2, l3⟩ := nI_of_bw hb1
  have h4 := (bw_iff.mp hl).2
  have h60 : (60 : Int32).toInt = 60 := rfl
  show Y + 1 ≤ (u.2 0 (8 * P + X)).toNatClampNeg
  generalize (u.2 0 (8 * P + X)).toNatClampNeg = L at *
  rw [l1, show (1 : Int32) = nI 1 from rfl] at h4
  rcases Nat.lt_or_ge L 1 with q | q
  · have : L = 0 := by omega
    subst this
    rw [nI_toInt (by omega), show (nI 0 - nI 1 : Int32).toInt = -1 from rfl] at h4
    omega
  · rw [nI_sb (i := L) (r := 1) (by omega) (by omega), nI_toInt (by omega), nI_toInt (by omega)] at h4
    omega
theorem rl_n {gl gc : Nat → Int32} {u : mS} {p0 p1 p2 : Int32} (b : bw p0 0 11 = true) (el : eqR 8 gl (u.2 0) (8 * p0.toNatClampNeg)) (ec : eqR 480 gc (u.2 2) (480 * p0.toNatClampNeg)) (hgb : ∀ j, j < 8 → bw (gl j) 0 60 = true) (h : ¬ shFr gl gc p1 p2 1 1) : mRule u p0 p1 p2 = (0, u) := by
  unfold mRule
  by_cases c1 : mCell u p0 p1 p2 = true
  · rw [if_pos c1]
    by_cases c2 : u.2 2 (480 * p0 + 60 * p1 + p2).toNatClampNeg = (-2)
    · exfalso
      apply h
      obtain ⟨P, hP, -, eP⟩ := exN b (by decide)
      have h11 : (11 : Int32).toInt = 11 := rfl
      subst eP
      rw [nI_clamp (by omega)] at el ec
      have c3 := c1
      unfold mCell at c3
      rw [Bool.and_eq_true, Bool.and_eq_true] at c3
      obtain ⟨X, hX, -, eX⟩ := exN c3.1.2 (by decide)
      have h7 : (7 : Int32).toInt = 7 := rfl
      subst eX
      have e0 : (8 * nI P + nI X).toNatClampNeg = 8 * P + X := by rw [show (8 : Int32) = nI 8 from rfl, pk_mul, nI_add, nI_clamp (by omega)]
      have hl := c3.2
      rw [e0] at hl
      have hb1 := hgb X (by omega)
      rw [el X (by omega)] at hb1
      refine ⟨by decide, c3.1.2, b59 hb1 hl, fun a ha a2 ha2 => ?_⟩
      have ea : a = 0 := by have e1 : (1 : Int32).toNatClampNeg = 1 := rfl; rw [e1] at ha; omega
      have ea2 : a2 = 0 := by have e1 : (1 : Int32).toNatClampNeg = 1 := rfl; rw [e1] at ha2; omega
      subst ea ea2
      rw [show nI 0 = (0 : Int32) from rfl, Int32.add_zero, Int32.add_zero, shAt_eq (by omega) el ec hgb]
      unfold mCellAt
      rw [if_pos c1, c2]
    · rw [if_neg c2]
  · rw [if_neg c1]
theorem rl_p {u : mS} {p c l : Int32} (h : ¬ bw p 0 11 = true) : mRule u p c l = (0, u) := by
  unfold mRule
  rw [if_neg (fun e => h ?_)]
  unfold mCell at e
  rw [Bool.and_eq_true, Bool.and_eq_true] at e
  exact e.1.1
theorem rl_3 {u : mS} {p c l : Int32} (h : u.1 28 = 300) : mRule u p c l = (0, u) := by
  unfold mRule
  rw [if_pos h]; repeat' split
  all_goals rfl
theorem setR_11 (f : Nat → Int32) (P X Y : Nat) (x : Int32) : setR f P X Y 1 x 1 = upd f (480 * P + 60 * X + Y) x := by
  funext j
  show setC f P (X + 0) Y 1 x j = upd f (480 * P + 60 * X + Y) x j
  unfold setC upd
  by_cases e : j = 480 * P + 60 * X + Y
  · rw [if_pos e, if_pos (by omega)]
  · rw [if_neg e, if_neg (by omega)]
theorem rule_fin {q h0 d k u z f z9 f9 k9} {a b P X Y : Nat} {fc : xF} (hI : xI q h0 d k z f) (hk1 : k 1 = u.1 28) (hca : ¬ 300 ≤ k 1) (hP : P < 12) (hX : X + 1 ≤ 8) (hY : Y + 1 ≤ 60) (hc : mCell u (nI P) (nI X) (nI Y) = true) (hv : u.2 2 (480 * nI P + 60 * nI X + nI Y).toNatClampNeg = (-2)) (hE : zE z z9) (hI9 : xI q h0 d k9 z9 f9) (hrp9 : rep q d (mput u 2 (setR (u.2 2) P X Y 1 100 1)) z9 f9) (h3m : fc (d 3) = f (d 3)) (hkc : k9 = kup k 1 (k 1 + 1)) (hk3 : ∃ g, fc (d 3) = aR (q 4) 300 g ∧ f9 (d 3) = aR (q 4) 300 (va_up g (k 1).toNatClampNeg (some a))) (hac : acS z9 a b 0 1 none) (hpc : pcS z9 b none (nI P) (nI X) (nI Y) 1 1) : actP q h0 d k z f (mRule u (nI P) (nI X) (nI Y)) (fun e => ∃ P2 X2 Y2, e = (2, 0, (P2, X2, Y2, 1, 1), []) ∧ nI P = nI P2 ∧ nI X = nI X2 ∧ nI Y = nI Y2 ∧ P2 < 12 ∧ X2 < 8 ∧ Y2 < 60) 1 (k9, z9, f9) := by
  have n3 : ¬ u.1 28 = 300 := by rw [← hk1]; exact (n300 hI.1.2.1).2 hca
  obtain ⟨g, g1, g2⟩ := hk3
  unfold mRule
  rw [if_pos hc, if_pos hv, if_neg n3]
  refine ⟨hE, hI9, rfl, rep_rows hrp9 rfl (fun r hr => ?_), fun j hj => by rw [hkc]; exact kup_o hj, ?_, Or.inr ⟨g, a, (2, 0, (P, X, Y, 1, 1), []), by rw [← h3m]; exact g1, g2, by show k9 1 = _; rw [hkc, kup_s], ?_, P, X, Y, rfl, rfl, rfl, rfl, by omega, by omega, by omega⟩⟩
  · show (mActs _ _ _ _ _ _ _ _).2 r = _
    rw [mActs_k _ _ _ _ _ _ _ _ (by omega)]
    by_cases e : r = 2
    · subst e
      rw [mput_at, setR_11]
      funext j
      rw [mst_at, idxN hP (by omega) (by omega), nI_clamp (by omega)]; rfl
    · rw [mst_other e, mput_other e]
  · show k9 1 = u.1 28 + 1
    rw [hkc, kup_s, hk1]
  · exact Or.inr (Or.inr (Or.inl ⟨rfl, b, hac, hpc⟩))
set_option maxHeartbeats 4000000 in
set_option maxRecDepth 100000 in
theorem y_rule (l : Launch) (dC : Nat → ClassId) (dI : Nat → Nat → Nat) (q : Nat → ClassId) (h0 : Nat) (d : Nat → Nat) (k : Nat → Int32) (z : gS) (f : xF) (hI : xI q h0 d k z f) (p0 p1 p2 : Int32) (u : mS) (hrp : rep q d u z f) (hk0 : k 0 = u.1 3) (hk1 : k 1 = u.1 28) (hk2 : k 2 = u.1 38) (hk3 : k 3 = u.1 39) (hz0 : (z.2 h0).2.1 = 0) (hne : ∀ j, j < 5760 → ¬ u.2 2 j = (-1)) (sz : Nat) : Met l yX11_rule wsX11_rule ({ frames := 5, cells := 2, slots := 10, locals := 109 }) (va_Pc [.ref h0, .int p0, .int p1, .int p2] (fun U => U.heap.size = sz ∧ PX dC dI (va_pl z.1 f) (xT q) U ∧ va_D (fun _ => True) (va_pl z.1 f))) (va_Qi (fun (r : Int32) (w : xU) => actP q h0 d k z f (mRule u p0 p1 p2) (fun e => ∃ P2 X2 Y2, e = (2, 0, (P2, X2, Y2, 1, 1), []) ∧ p0 = nI P2 ∧ p1 = nI X2 ∧ p2 = nI Y2 ∧ P2 < 12 ∧ X2 < 8 ∧ Y2 < 60) r w) (fun (w : xU) t => va_P (dC, dI) vwCl (va_pl w.2.1.1 w.2.2) t.heap ∧ va_D (va_A (va_pl z.1 f) sz) (va_pl w.2.1.1 w.2.2)) (va_A (va_pl z.1 f) sz)) 2 10 (va_A (va_pl z.1 f) sz) := by
  refine Met.ofW (cc := cX11_rule) (maxL := 5) (ret := (some .boolean)) (by decide) rfl ?_
  intro p e s m args below meth c s₁ B hml hv
  obtain ⟨rfl, hsz, ⟨⟨hP, hK, hN⟩, hXN⟩, hD0⟩ := hv
  have hx := B.exec
  have hb := B.bytes
  have hr := B.returns
  have hts := atoms_spec (ws := wsX11_rule) B.pre
  have hown : s.vm.findClass RX11 = some m.cls := findClass_of_methodNamed B.named
  have hlocks := B.notSynchronized
  subst hsz
  have hD := hD0.self (sz := s.heap.size)
  generalize hAe : va_A (va_pl z.1 f) s.heap.size = A at hD ⊢
  have hA : ∀ q : Nat, s.heap.size ≤ q → A q := fun q h => by rw [← hAe]; exact Or.inr h
  have hS : va_S A s.heap s.heap [] := va_S.rf
  have hl := lv_entry ([.ref h0, .int p0, .int p1, .int p2]) (n := 5) (Nat.le_of_ble_eq_true rfl)
  rw [lg_entry_eq]
  generalize (lg_sl ([.ref h0, .int p0, .int p1, .int p2]) ++ List.replicate (5 - (lg_sl ([.ref h0, .int p0, .int p1, .int p2])).length) Slot.unset).toArray = ls at hl ⊢
  have hl : lv_has ls 5 [(0, .ref h0), (1, .int p0), (2, .int p1), (3, .int p2)] := hl
  have hIo := hI
  have hk1o := hk1
  have h3m : f (d 3) = f (d 3) := rfl
  refine lv_iload_n hx hb dX11_rule_0 rfl (lv_at hl 1 rfl) ?_
  refine vp_callSi (va_runS (As := [.int p0]) (rest := []) ⟨hx, hb, hml, hown, hts⟩ (x_isPage l dC dI p0) (va_cwS 1 hts gX11_rule_X11_isPage rfl rfl rfl zh_X11_isPage_44 ⟨Nat.le_of_ble_eq_true rfl, Nat.le_of_ble_eq_true rfl⟩) ⟨pw_fb, fun U hU hW => ⟨rfl, pw_to hU hW (hP.sub (ws' := []) [] rfl) (hK.sub (tys' := []) [] rfl) hN⟩⟩ rfl rfl hl.1 rfl (lv_room (Nat.le_of_ble_eq_true rfl)) dX11_rule_1 ⟨Nat.le_of_ble_eq_true rfl, Nat.le_of_ble_eq_true rfl⟩).run (fun r hw => ?_)
  rcases Bool.eq_false_or_eq_true (bw p0 0 11) with b_1 | b_1
  ·
    obtain rfl : r = 1 := b_t hw b_1
    refine lv_if_eq (tgt := 14) hx hb dX11_rule_4 (by decide) (fun c_2 => absurd c_2 (by decide)) (fun c_2 => ?_)
    refine lv_aload_n hx hb dX11_rule_7 rfl (lv_at hl 0 rfl) ?_
    obtain ⟨kk_3, hk_4⟩ := pl_at hI.2.1.1.1 hI.2.2.2.1.1
    refine vp_callSi (va_runV (As := []) (rest := []) ⟨hx, hb, hml, hown, hts⟩ (y_canAct l dC dI q h0 d k z f hI) (cwV 0 hts gX11_rule_X11_canAct rfl rfl rfl zh_X11_canAct_60 ⟨Nat.le_of_ble_eq_true rfl, Nat.le_of_ble_eq_true rfl⟩) ⟨px_fb, va_recv hK hP (ci := 10) (q0 := kk_3) rfl hk_4, fun U hU hW => ⟨rfl, px_to hU hW hP hK hN hXN⟩⟩ rfl rfl hl.1 rfl (lv_room (Nat.le_of_ble_eq_true rfl)) dX11_rule_8 ⟨Nat.le_of_ble_eq_true rfl, Nat.le_of_ble_eq_true rfl⟩).run (fun r hw => ?_)
    rcases hw with ⟨hw, hca_5⟩ | ⟨hw, hca_5⟩
    ·
      subst hw
      refine lv_if_ne (tgt := 16) hx hb dX11_rule_11 (by decide) (fun c_6 => absurd (by decide) c_6) (fun c_6 => ?_)
      refine lv_iconst (v := 0) hx hb dX11_rule_14 (by decide) ?_
      refine W.widen (k := 2) (n := 10) (Nat.le_of_ble_eq_true rfl) (Nat.le_of_ble_eq_true rfl) ?_
      exact W.zret (v := 0) hx hb hr (by decide) (fun t ht hW => ⟨⟨0, (k, z, f), rfl, (actP_0 hI hrp hk1o (rl_3 (by rw [← hk1o]; exact (n300 hI.1.2.1).1 hca_5))), by rw [ht]; exact hP, hD⟩, hS.F ht⟩) hS.2.2 dX11_rule_15
    ·
      subst hw
      refine lv_if_ne (tgt := 16) hx hb dX11_rule_11 (by decide) (fun c_7 => ?_) (fun c_7 => absurd c_7 (by decide))
      refine va_new (ci := 7) (fs := [.null, .int 0, .int 0, .int 0, .int 0, .int 0]) (C := RX8) (T := TX8) (N := 6) hx hb hts zl_X11_rule_X8 tyX8 tyX8_ok hown (hts (.classLink RX11 106 RX8) (zat q_wsX11_rule k_wsX11_rule 309 rfl (by decide +kernel))) (hts (.instantiable RX8 6) (zat q_wsX11_rule k_wsX11_rule 310 rfl (by decide +kernel))) (hts (.initialized RX8) (zat q_wsX11_rule k_wsX11_rule 62 rfl (by decide +kernel))) hK hP hD hS hA rfl nwX8 (Nat.le_of_ble_eq_true rfl) (Nat.le_of_ble_eq_true rfl) dX11_rule_16 (fun q_8 H hPn hDn hS => ?_)
      have hP := vaP_l hPn
      refine W.widen (k := 1) (n := 6) (Nat.le_of_ble_eq_true rfl) (Nat.le_of_ble_eq_true rfl) ?_
      refine lv_dup hx hb dX11_rule_19 rfl ?_
      refine lv_null hx hb dX11_rule_20 ?_
      refine lv_iload_n hx hb dX11_rule_21 rfl (lv_at hl 1 rfl) ?_
      refine lv_iload_n hx hb dX11_rule_22 rfl (lv_at hl 2 rfl) ?_
      refine lv_iload_n hx hb dX11_rule_23 rfl (lv_at hl 3 rfl) ?_
      refine lv_iconst (v := 1) hx hb dX11_rule_24 (by decide) ?_
      refine lv_iconst (v := 1) hx hb dX11_rule_25 (by decide) ?_
      have hPc := vaP_r hPn
      have hDc := vaD_r hDn
      have hFc := fr_part hDn hS hA
      refine va_callv (va_runI (As := [.null, .int p0, .int p1, .int p2, .int 1, .int 1]) (rest := [.ref q_8]) ⟨hx, hb, hml, hown, hts⟩ (x_PieceN l dC dI q_8 p0 p1 p2 1 1 H.size) (cwI 6 hts gX11_rule_X8_init rfl rfl rfl (hts (.initialized RX8) (zat q_wsX11_rule k_wsX11_rule 62 rfl (by decide +kernel))) (hts (.methodLink RX11 108 yX8_init) (zat q_wsX11_rule k_wsX11_rule 311 rfl (by decide +kernel))) (hts (.instanceMethod yX8_init) (zat q_wsX11_rule k_wsX11_rule 312 rfl (by decide +kernel))) rfl zh_X8_init_83 ⟨Nat.le_of_ble_eq_true rfl, Nat.le_of_ble_eq_true rfl⟩) ⟨gw_fb, fun U hU hW => ⟨rfl, by rw [hU], pw_to hU hW hPc (hK.sub (tys' := []) [] rfl) hN, hDc.weaken (fun _ _ _ _ => trivial)⟩⟩ rfl rfl hl.1 rfl (lv_room (Nat.le_of_ble_eq_true rfl)) dX11_rule_26 ⟨Nat.le_of_ble_eq_true rfl, Nat.le_of_ble_eq_true rfl⟩) hS (fun q _ h => hFc q h) hFc (fun u9 t H1 locs ht hvm hw hB hz1 hk1 hS => ?_)
      obtain ⟨hP1, hD1⟩ := hB
      rw [ht] at hP1
      obtain ⟨hP, hD⟩ := va_joinQ (X := [(q_8, .inr (7, [.null, .int 0, .int 0, .int 0, .int 0, .int 0]))]) (cx := [(q_8, .inr (7, [.null, .int 0, .int 0, .int 0, .int 0, .int 0]))]) (wr := []) (w1 := [(q_8, .inr (7, [va_rf none, .int p0, .int p1, .int p2, .int 1, .int 1]))]) (pl := va_pl z.1 f) (vaP_swap hPn) (vaD_rotR hDn) [0] [] rfl rfl rfl (fun i hi => absurd hi List.not_mem_nil) hk1 hFc hP1 hD1
      generalize H1 = H at hP hS ⊢
      obtain ⟨hnm_9, hP, hD⟩ := pushC hP hD
      obtain ⟨z_10, ez_10⟩ : ∃ y : gS, y = pz z q_8 (22, 0, [va_rf none, .int p0, .int p1, .int p2, .int 1, .int 1]) := ⟨_, rfl⟩
      obtain ⟨f_11, ef_11⟩ : ∃ y : xF, y = va_up f q_8 (.inr (7, [va_rf none, .int p0, .int p1, .int p2, .int 1, .int 1])) := ⟨_, rfl⟩
      have hE_12 : zE z z_10 := by rw [ez_10]; exact pz_E hnm_9 _
      have hI : xI q h0 d k z_10 f_11 := by rw [ez_10, ef_11]; exact x_push hI hnm_9 (Or.inr (by decide : (15 : Nat) < 22)) (cO_pc b_1 ty_n hnm_9)
      rw [show z.1 ++ [q_8] = z_10.1 from by rw [ez_10]; rfl, ← ef_11] at hP hD
      have ht_13 : tg z_10 q_8 22 := by rw [ez_10]; exact pz_t _ _ _
      have hEz : zE z z_10 := zE_tr (zE_rf z) hE_12
      have h3m : f_11 (d 3) = f (d 3) := by rw [ef_11]; exact (up_o (fun e9 => hnm_9 (by rw [← e9]; exact hrp.2.2.2.2.2.2.2.1.1.1))).trans h3m
      have hrp_14 : rep q d u z_10 f_11 := by rw [ez_10, ef_11]; exact rep_grow hrp (pz_E hnm_9 _) (oK_push (fun _ _ => rfl) (zE_rf _) hnm_9)
      refine W.eq (g2 := F0 m 29 ls [.ref q_8]) rfl ?_
      have hp_15 : pcS z_10 q_8 none p0 p1 p2 1 1 := ⟨ht_13, by rw [ez_10, pz_s]⟩
      refine lv_astore (lv' := [(4, .ref q_8), (0, .ref h0), (1, .int p0), (2, .int p1), (3, .int p2)]) hx hb dX11_rule_29 hl (by decide) rfl (fun ls hl => ?_)
      refine lv_aload_n hx hb dX11_rule_31 rfl (lv_at hl 1 rfl) ?_
      obtain ⟨kk_16, hk_17⟩ := pl_at hI.2.1.1.1 hI.2.2.2.1.1
      refine va_get (D := (dC, dI)) (ci := 10) (v := .ref (d 0)) (C := RX11) (T := TX11) (N := 9) hx hb hts zl_X11_rule_X11 hown hK hP kk_16 hk_17 rfl 0 (by decide) (hts (.fieldLink RX11 11 "PageOne" "pages" "[LPageOne$Sheet;") (zat q_wsX11_rule k_wsX11_rule 112 rfl (by decide +kernel))) (fun _ h9 => h9) rfl dX11_rule_32 ?_
      refine lv_iload_n hx hb dX11_rule_35 rfl (lv_at hl 2 rfl) ?_
      obtain ⟨g_18, hs_19, hg_20⟩ := x_pg hI hI.2.1.2.1
      obtain ⟨kk_21, hk_22⟩ := pl_at hI.2.1.2.1.1 hs_19
      refine va_aldq hx hb hK hP kk_21 2 hk_22 rfl (vin b_1 (by decide)) dX11_rule_36 ?_
      obtain ⟨b_23, hg_24, ht_25⟩ := hg_20 _ (vlt (vin b_1 (by decide)))
      rw [hg_24]
      refine W.eq (g2 := F0 m 37 ls [.ref b_23]) rfl ?_
      have hb_26 := pg_at hrp_14.1 hs_19 (clp b_1) hg_24
      subst hb_26
      obtain ⟨dd_27, ii_28, gl_29, gc_30, ht_31, ht_32, ht_33, hs_34, hg_35, hgb_36, hc_37, el_38, ec_39⟩ := pg_all hI hrp_14.1 (clp b_1)
      refine lv_aload hx hb dX11_rule_37 (lv_at hl 0 rfl) ?_
      obtain ⟨kk_40, hk_41⟩ := pl_at ht_31.1 hs_34
      refine vp_callSi (va_runV (As := [.ref q_8]) (rest := []) ⟨hx, hb, hml, hown, hts⟩ (y_isFree l dC dI q h0 d k z_10 f_11 hI (d (10 + p0.toNatClampNeg)) (d (30 + p0.toNatClampNeg)) (d (50 + p0.toNatClampNeg)) (u.2 1 p0.toNatClampNeg) dd_27 ii_28 gl_29 gc_30 ht_31 hs_34 ht_32 ht_33 hg_35 hgb_36 hc_37 q_8 none p0 p1 p2 1 1 hp_15) (cwV 1 hts gX11_rule_X9_isFree rfl rfl rfl zh_X9_isFree_82 ⟨Nat.le_of_ble_eq_true rfl, Nat.le_of_ble_eq_true rfl⟩) ⟨px_fb, va_recv hK hP (ci := 8) (q0 := kk_40) rfl hk_41, fun U hU hW => ⟨rfl, px_to hU hW hP hK hN hXN⟩⟩ rfl rfl hl.1 rfl (lv_room (Nat.le_of_ble_eq_true rfl)) dX11_rule_39 ⟨Nat.le_of_ble_eq_true rfl, Nat.le_of_ble_eq_true rfl⟩).run (fun r hw => ?_)
      rcases hw with ⟨hw, hfr_42⟩ | ⟨hw, hfr_42⟩
      ·
        subst hw
        obtain ⟨P, X, Y, eP, eX, eY, hP9, hX, hY, hin, hc9, hv9⟩ := rule_fr b_1 el_38 ec_39 hgb_36 hfr_42
        have hpcx : pcS z_10 q_8 none (nI P) (nI X) (nI Y) (nI 1) (nI 1) := by rw [← eP, ← eX, ← eY]; exact hp_15
        have hlg_43 := lg_of hpcx ⟨b7n (by omega), b60n (by omega), by decide, by decide⟩
        refine lv_if_ne (tgt := 47) hx hb dX11_rule_42 (by decide) (fun c_44 => ?_) (fun c_44 => absurd c_44 (by decide))
        refine lv_aload_n hx hb dX11_rule_47 rfl (lv_at hl 1 rfl) ?_
        refine lv_aload hx hb dX11_rule_48 (lv_at hl 0 rfl) ?_
        obtain ⟨kk_45, hk_46⟩ := pl_at hI.2.1.1.1 hI.2.2.2.1.1
        have hFc := fr_all hD hS hA
        refine va_callv (va_runV (As := [.ref q_8]) (rest := []) ⟨hx, hb, hml, hown, hts⟩ (y_standR l dC dI q h0 d k z_10 f_11 hI q_8 P X Y 1 1 u hrp_14 hk0 hk1o hk2 hk3 hP9 hX (by decide) hY hin hne hpcx H.size) (cwV 1 hts gX11_rule_X11_stand rfl rfl rfl zh_X11_stand_62 ⟨Nat.le_of_ble_eq_true rfl, Nat.le_of_ble_eq_true rfl⟩) ⟨gx_fb, va_recv hK hP (ci := 10) (q0 := kk_45) rfl hk_46, fun U hU hW => ⟨rfl, by rw [hU], px_to hU hW hP hK hN hXN, hD.weaken (fun _ _ _ _ => trivial)⟩⟩ rfl rfl hl.1 rfl (lv_room (Nat.le_of_ble_eq_true rfl)) dX11_rule_50 ⟨Nat.le_of_ble_eq_true rfl, Nat.le_of_ble_eq_true rfl⟩) hS (fun q _ h => hFc q h) hFc (fun w_47 t H1 locs ht hvm hw hB hz1 hk1 hS => ?_)
        obtain ⟨hP, hD1⟩ := hB
        rw [ht] at hP
        rw [hw.2.1] at hP hD1
        have hD := hD1.weaken (fun _ q _ h => hFc q.1 h)
        have hI := hw.2.2.1
        have hw0 := hw
        generalize w_47.2.2 = f_48 at hP hD hI hw0
        generalize H1 = H at hP hS ⊢
        obtain ⟨u2, eu2⟩ : ∃ y : mS, y = mput u 2 (setR (u.2 2) P X Y 1 100 1) := ⟨_, rfl⟩
        have hrp2 : rep q d u2 z_10 f_48 := by rw [eu2]; exact hw0.2.2.2.1
        have h3m : f_48 (d 3) = f (d 3) := hw0.2.2.2.2.trans h3m
        refine lv_aload_n hx hb dX11_rule_53 rfl (lv_at hl 1 rfl) ?_
        refine va_new (ci := 0) (fs := [.null, .int 0, .null, .int 0]) (C := RX0) (T := TX0) (N := 4) hx hb hts zl_X11_rule_X0 tyX0 tyX0_ok hown (hts (.classLink RX11 28 RX0) (zat q_wsX11_rule k_wsX11_rule 80 rfl (by decide +kernel))) (hts (.instantiable RX0 4) (zat q_wsX11_rule k_wsX11_rule 598 rfl (by decide +kernel))) (hts (.initialized RX0) (zat q_wsX11_rule k_wsX11_rule 65 rfl (by decide +kernel))) hK hP hD hS hA rfl nwX0 (Nat.le_of_ble_eq_true rfl) (Nat.le_of_ble_eq_true rfl) dX11_rule_54 (fun q_49 H hPn hDn hS => ?_)
        have hP := vaP_l hPn
        refine W.widen (k := 2) (n := 10) (Nat.le_of_ble_eq_true rfl) (Nat.le_of_ble_eq_true rfl) ?_
        refine lv_dup hx hb dX11_rule_57 rfl ?_
        refine lv_aload hx hb dX11_rule_58 (lv_at hl 0 rfl) ?_
        refine lv_iconst (v := 0) hx hb dX11_rule_60 (by decide) ?_
        refine lv_null hx hb dX11_rule_61 ?_
        have hPc := vaP_r hPn
        have hDc := vaD_r hDn
        have hFc := fr_part hDn hS hA
        refine va_callv (va_runI (As := [.ref q_8, .int 0, .null]) (rest := [.ref q_49, .ref h0]) ⟨hx, hb, hml, hown, hts⟩ (x_ActP l dC dI q_49 q_8 H.size) (cwI 3 hts gX11_rule_X0_init rfl rfl rfl (hts (.initialized RX0) (zat q_wsX11_rule k_wsX11_rule 65 rfl (by decide +kernel))) (hts (.methodLink RX11 163 yX0_init) (zat q_wsX11_rule k_wsX11_rule 599 rfl (by decide +kernel))) (hts (.instanceMethod yX0_init) (zat q_wsX11_rule k_wsX11_rule 600 rfl (by decide +kernel))) rfl zh_X0_init_81 ⟨Nat.le_of_ble_eq_true rfl, Nat.le_of_ble_eq_true rfl⟩) ⟨gw_fb, fun U hU hW => ⟨rfl, by rw [hU], pw_to hU hW hPc (hK.sub (tys' := []) [] rfl) hN, hDc.weaken (fun _ _ _ _ => trivial)⟩⟩ rfl rfl hl.1 rfl (lv_room (Nat.le_of_ble_eq_true rfl)) dX11_rule_62 ⟨Nat.le_of_ble_eq_true rfl, Nat.le_of_ble_eq_true rfl⟩) hS (fun q _ h => hFc q h) hFc (fun u9 t H1 locs ht hvm hw hB hz1 hk1 hS => ?_)
        obtain ⟨hP1, hD1⟩ := hB
        rw [ht] at hP1
        obtain ⟨hP, hD⟩ := va_joinQ (X := [(q_49, .inr (0, [.null, .int 0, .null, .int 0]))]) (cx := [(q_49, .inr (0, [.null, .int 0, .null, .int 0]))]) (wr := []) (w1 := [(q_49, .inr (0, [.ref q_8, .int 0, va_rf none, .int 1]))]) (pl := va_pl z_10.1 f_48) (vaP_swap hPn) (vaD_rotR hDn) [0] [] rfl rfl rfl (fun i hi => absurd hi List.not_mem_nil) hk1 hFc hP1 hD1
        generalize H1 = H at hP hS ⊢
        obtain ⟨hnm_50, hP, hD⟩ := pushC hP hD
        obtain ⟨z_51, ez_51⟩ : ∃ y : gS, y = pz z_10 q_49 (23, 0, [.ref q_8, .int 0, va_rf none, .int 1]) := ⟨_, rfl⟩
        obtain ⟨f_52, ef_52⟩ : ∃ y : xF, y = va_up f_48 q_49 (.inr (0, [.ref q_8, .int 0, va_rf none, .int 1])) := ⟨_, rfl⟩
        have hE_53 : zE z_10 z_51 := by rw [ez_51]; exact pz_E hnm_50 _
        have hI : xI q h0 d k z_51 f_52 := by rw [ez_51, ef_52]; exact x_push hI hnm_50 (Or.inr (by decide : (15 : Nat) < 23)) (cO_ac hlg_43 hnm_50)
        rw [show z_10.1 ++ [q_49] = z_51.1 from by rw [ez_51]; rfl, ← ef_52] at hP hD
        have hlg_43 := zE_lg hE_53 hlg_43
        have ht_31 := zE_tg hE_53 ht_31
        have ht_32 := zE_tg hE_53 ht_32
        have ht_33 := zE_tg hE_53 ht_33
        have hp_15 := zE_pc hE_53 hp_15
        have hpcx := zE_pc hE_53 hpcx
        have ht_54 : tg z_51 q_49 23 := by rw [ez_51]; exact pz_t _ _ _
        have hEz : zE z z_51 := zE_tr hEz hE_53
        have h3m : f_52 (d 3) = f (d 3) := by rw [ef_52]; exact (up_o (fun e9 => hnm_50 (by rw [← e9]; exact hrp2.2.2.2.2.2.2.2.1.1.1))).trans h3m
        have hrp_55 : rep q d u2 z_51 f_52 := by rw [ez_51, ef_52]; exact rep_grow hrp2 (pz_E hnm_50 _) (oK_push (fun _ _ => rfl) (zE_rf _) hnm_50)
        refine W.eq (g2 := F0 m 65 ls [.ref q_49, .ref h0]) rfl ?_
        have hIb := hI
        have hcx : ¬ 300 ≤ k 1 := hca_5
        obtain ⟨kk_56, hk_57⟩ := pl_at hI.2.1.1.1 hI.2.2.2.1.1
        have hFc := fr_all hD hS hA
        refine va_callv (va_runV (As := [.ref q_49]) (rest := []) ⟨hx, hb, hml, hown, hts⟩ (y_keep l dC dI q h0 d k z_51 f_52 hI q_49 ht_54 hcx H.size) (cwV 1 hts gX11_rule_X11_keep rfl rfl rfl zh_X11_keep_79 ⟨Nat.le_of_ble_eq_true rfl, Nat.le_of_ble_eq_true rfl⟩) ⟨gx_fb, va_recv hK hP (ci := 10) (q0 := kk_56) rfl hk_57, fun U hU hW => ⟨rfl, by rw [hU], px_to hU hW hP hK hN hXN, hD.weaken (fun _ _ _ _ => trivial)⟩⟩ rfl rfl hl.1 rfl (lv_room (Nat.le_of_ble_eq_true rfl)) dX11_rule_65 ⟨Nat.le_of_ble_eq_true rfl, Nat.le_of_ble_eq_true rfl⟩) hS (fun q _ h => hFc q h) hFc (fun w_58 t H1 locs ht hvm hw hB hz1 hk1 hS => ?_)
        obtain ⟨hP, hD1⟩ := hB
        rw [ht] at hP
        rw [hw.1] at hP hD1
        have hD := hD1.weaken (fun _ q _ h => hFc q.1 h)
        have hI := hw.2.1
        have hw0 := hw
        generalize w_58.1 = k_60 at hI hw0
        generalize w_58.2.2 = f_59 at hP hD hI hw0
        generalize H1 = H at hP hS ⊢
        have hkp := hw0.2.2
        have hrp_61 : rep q d u2 z_51 f_59 := rep_kp hrp_55 hIb (by rw [zE_o hEz hIo.2.1.1.1]; exact hz0) hkp
        refine lv_iconst (v := 1) hx hb dX11_rule_68 (by decide) ?_
        exact W.zret (v := 1) hx hb hr (by decide) (fun t ht hW => ⟨⟨1, (k_60, z_51, f_59), rfl, (by rw [eP, eX, eY] at hc9 hv9 ⊢; exact rule_fin hIo hk1o hcx hP9 hX hY hc9 hv9 hEz hI (by rw [← eu2]; exact hrp_61) h3m hkp.1 (kp_3 hrp_55 hIb hkp) ⟨ht_54, by rw [ez_51, pz_s]⟩ hpcx), by rw [ht]; exact hP, hD⟩, hS.F ht⟩) hS.2.2 dX11_rule_69
      ·
        subst hw
        refine lv_if_ne (tgt := 47) hx hb dX11_rule_42 (by decide) (fun c_62 => absurd (by decide) c_62) (fun c_62 => ?_)
        refine lv_iconst (v := 0) hx hb dX11_rule_45 (by decide) ?_
        refine W.widen (k := 2) (n := 10) (Nat.le_of_ble_eq_true rfl) (Nat.le_of_ble_eq_true rfl) ?_
        exact W.zret (v := 0) hx hb hr (by decide) (fun t ht hW => ⟨⟨0, (k, z_10, f_11), rfl, ⟨hEz, hI, by rw [rl_n b_1 el_38 ec_39 hgb_36 hfr_42], by rw [rl_n b_1 el_38 ec_39 hgb_36 hfr_42]; exact hrp_14, fun _ _ => rfl, by rw [rl_n b_1 el_38 ec_39 hgb_36 hfr_42]; exact hk1o, Or.inl ⟨h3m, rfl⟩⟩, by rw [ht]; exact hP, hD⟩, hS.F ht⟩) hS.2.2 dX11_rule_46
  ·
    obtain rfl : r = 0 := b_f hw b_1
    refine lv_if_eq (tgt := 14) hx hb dX11_rule_4 (by decide) (fun c_63 => ?_) (fun c_63 => absurd (by decide) c_63)
    refine lv_iconst (v := 0) hx hb dX11_rule_14 (by decide) ?_
    refine W.widen (k := 2) (n := 10) (Nat.le_of_ble_eq_true rfl) (Nat.le_of_ble_eq_true rfl) ?_
    exact W.zret (v := 0) hx hb hr (by decide) (fun t ht hW => ⟨⟨0, (k, z, f), rfl, (actP_0 hI hrp hk1o (rl_p (bne b_1))), by rw [ht]; exact hP, hD⟩, hS.F ht⟩) hS.2.2 dX11_rule_15
/-- a filler that fits -/
def ffC (u : mS) (n : Int32) (j : Nat) : Prop := u.2 4 j = 4 ∧ u.2 22 j = 0 ∧ bw n (u.2 5 j) (u.2 6 j) = true
def ffR (u : mS) (d : Nat → Nat) (n : Int32) (r : Option Nat) : Prop := (r = none ∧ ∀ j, j < (u.1 3).toNatClampNeg → ¬ ffC u n j) ∨ ∃ i, i < (u.1 3).toNatClampNeg ∧ r = some (d (2000 + i)) ∧ ffC u n i ∧ ∀ j, j < i → ¬ ffC u n j
theorem mFF_n {u : mS} {n : Int32} {M : Nat} (hM : M ≤ 80) : ∀ j, j ≤ M → (∀ i, M - j ≤ i → i < M → ¬ ffC u n i) → mFFr u n M j = (-1)
  | 0, _, _ => rfl
  | j + 1, hj, h => by
    have e : (nI (M - j - 1)).toNatClampNeg = M - j - 1 := nI_clamp (by omega)
    unfold mFFr
    rw [e, if_neg (fun q => ?_)]
    · exact mFF_n hM j (by omega) (fun i h1 h2 => h i (by omega) h2)
    · rw [Bool.and_eq_true, Bool.and_eq_true, decide_eq_true_iff, decide_eq_true_iff] at q
      exact h (M - j - 1) (by omega) (by omega) ⟨q.1.1, q.1.2, q.2⟩
theorem mFF_s {u : mS} {n : Int32} {M i : Nat} (hM : M ≤ 80) (hi : i < M) (hc : ffC u n i) (hno : ∀ j, j < i → ¬ ffC u n j) : ∀ j, j ≤ M → M - j ≤ i → mFFr u n M j = nI i
  | 0, _, h => by omega
  | j + 1, hj, h => by
    have e : (nI (M - j - 1)).toNatClampNeg = M - j - 1 := nI_clamp (by omega)
    unfold mFFr
    rw [e]
    by_cases q : M - j - 1 = i
    · rw [q, if_pos ?_]
      rw [Bool.and_eq_true, Bool.and_eq_true, decide_eq_true_iff, decide_eq_true_iff]
      exact ⟨⟨hc.1, hc.2.1⟩, hc.2.2⟩
    · rw [if_neg (fun p => ?_)]
      · exact mFF_s hM hi hc hno j (by omega) (by omega)
      · rw [Bool.and_eq_true, Bool.and_eq_true, decide_eq_true_iff, decide_eq_true_iff] at p
        exact hno (M - j - 1) (by omega) ⟨p.1.1, p.1.2, p.2⟩
theorem hr_0 {c : Int32} {n : Nat} (hn : n = 1) (hb : bw c 0 (nI n) = true) : c < nI n ↔ c = 0 := by
  subst hn
  obtain ⟨e1, e2⟩ := cnN (by decide) hb
  rw [i32_lt, nI_toInt (n := 1) (by decide)]
  constructor
  · intro h
    rw [e1, nI_toInt (by omega)] at h
    rw [e1, show c.toNatClampNeg = 0 by omega]; rfl
  · intro h; rw [h, i0]; decide
set_option maxHeartbeats 4000000 in
set_option maxRecDepth 100000 in
theorem y_fillerFor_l {p : Program} {l : Launch} {e : Env} {R : Room} {s : State} {m : MethodId} {args : Array Value} {below : List Frame} {meth : Method} {c : Code} {Q : State → Prop} {cells slots : Nat} {dC : Nat → ClassId} {dI : Nat → Nat → Nat} {q : Nat → ClassId} {h0 : Nat} {d : Nat → Nat} {k : Nat → Int32} {z : gS} {f : xF} {H : Heap} {locs : List Loc} (hI : xI q h0 d k z f) (hx : p.tables.exec = Jvm.exec) (hb : c.code = cX11_fillerFor) (hml : c.maxLocals = 5) (hts : ∀ w ∈ wsX11_fillerFor, w.before args s = true) (hown : s.vm.findClass RX11 = some m.cls) (hN : NN s) (hXN : XN s) (hK : va_K (dC, dI) vwCl (xT q) s) (hRf : 1 ≤ R.frames) (hRl : 22 ≤ R.locals) (hRc : cells ≤ R.cells) (hRs : slots ≤ R.slots) (hP : va_P (dC, dI) vwCl (va_pl z.1 f) H) {u : mS} (hrp : rep q d u z f) (hk0 : k 0 = u.1 3) {K : Nat} (hK8 : K ≤ 80) (eK : k 0 = nI K) (eKn : (u.1 3).toNatClampNeg = K) {p0 : Int32} (kx62 : ∀ (ls : Array Slot), (∀ j, j < K → ¬ ffC u p0 j) → lv_has ls 5 [(0, .ref h0), (1, .int p0)] → W p l e R s m args below meth c H locs cells slots Q (F0 m 62 ls [])) (kx54 : ∀ (i9 : Nat) (ls : Array Slot), (i9 < K ∧ ffC u p0 i9 ∧ ∀ j, j < i9 → ¬ ffC u p0 j) → lv_has ls 5 [(3, .ref (d (2000 + i9))), (0, .ref h0), (1, .int p0)] → W p l e R s m args below meth c H locs cells slots Q (F0 m 54 ls [])) : ∀ (kk i : Nat) (ls : Array Slot), i ≤ K → K - i < kk → (∀ j, j < i → ¬ ffC u p0 j) → lv_has ls 5 [(2, .int (nI i)), (0, .ref h0), (1, .int p0)] → W p l e R s m args below meth c H locs cells slots Q (F0 m 2 ls []) := by
  intro kk
  induction kk with
  | zero => intro i ls h1 h2; exact absurd h2 (Nat.not_lt_zero _)
  | succ kk ih =>
    intro i ls hi hkk hg hl
    refine lv_iload_n hx hb dX11_fillerFor_2 rfl (lv_at hl 0 rfl) ?_
    refine lv_aload_n hx hb dX11_fillerFor_3 rfl (lv_at hl 1 rfl) ?_
    obtain ⟨kk_1, hk_2⟩ := pl_at hI.2.1.1.1 hI.2.2.2.1.1
    refine va_get (D := (dC, dI)) (ci := 10) (v := .int (k 0)) (C := RX11) (T := TX11) (N := 9) hx hb hts zl_X11_fillerFor_X11 hown hK hP kk_1 hk_2 rfl 3 (by decide) (hts (.fieldLink RX11 24 "PageOne" "itemCount" "I") (zat q_wsX11_fillerFor k_wsX11_fillerFor 115 rfl (by decide +kernel))) (fun _ h9 => h9) rfl dX11_fillerFor_4 ?_
    refine lv_topi (fun y_3 ey_3 => ?_)
    obtain rfl : y_3 = (nI K) := ey_3.trans (eK)
    refine lv_icmp_ge (tgt := 62) hx hb dX11_fillerFor_7 (by decide) (fun c_4 => ?_) (fun c_4 => ?_)
    ·
      have hie : i = K := lp_eq rfl (by omega) hi c_4
      exact kx62 ls (by rw [← hie]; exact hg) (lv_sub hl [1, 2] rfl)
    ·
      have hlt : i < K := lp_lt rfl (by omega) hi c_4
      refine lv_aload_n hx hb dX11_fillerFor_10 rfl (lv_at hl 1 rfl) ?_
      obtain ⟨kk_5, hk_6⟩ := pl_at hI.2.1.1.1 hI.2.2.2.1.1
      refine va_get (D := (dC, dI)) (ci := 10) (v := .ref (d 2)) (C := RX11) (T := TX11) (N := 9) hx hb hts zl_X11_fillerFor_X11 hown hK hP kk_5 hk_6 rfl 2 (by decide) (hts (.fieldLink RX11 20 "PageOne" "items" "[LPageOne$Item;") (zat q_wsX11_fillerFor k_wsX11_fillerFor 114 rfl (by decide +kernel))) (fun _ h9 => h9) rfl dX11_fillerFor_11 ?_
      refine lv_iload_n hx hb dX11_fillerFor_14 rfl (lv_at hl 0 rfl) ?_
      obtain ⟨g_7, hs_8, hn_9, hg_10⟩ := x_itm hI
      obtain ⟨kk_11, hk_12⟩ := pl_at hI.2.1.2.2.2.1.1 hs_8
      refine va_aldq hx hb hK hP kk_11 3 hk_12 rfl (vp_in_nI (by omega) (by decide)) dX11_fillerFor_15 ?_
      obtain ⟨b_13, hg_14⟩ := hn_9 ((nI i) : Int32).toNatClampNeg (by rw [eK, nI_clamp (by omega), nI_clamp (by omega)]; exact hlt)
      have ht_15 := hg_10 ((nI i) : Int32).toNatClampNeg (vlt (vp_in_nI (by omega) (by decide))) b_13 hg_14
      rw [hg_14]
      refine W.eq (g2 := F0 m 16 ls [.ref b_13]) rfl ?_
      have hb_16 := rI_at hrp.2.2.1 hs_8 (by rw [eKn]; exact hlt) (by rw [nI_clamp (by omega)] at hg_14; exact hg_14)
      subst hb_16
      obtain ⟨rs_17, n_18, g_19, fg_20, hit_21, hs_22, hpa_23, hps_24, h1_25, h6_26, hcb_27, hpl_28, hlg_29, hnn_30, hfa_31, hfs_32, hfe_33, hrs_34, hkt_35⟩ := it_all hI hrp.2.2.1 (by rw [eKn]; exact hlt)
      refine lv_astore (lv' := [(4, .ref (d (2000 + i))), (2, .int (nI i)), (0, .ref h0), (1, .int p0)]) hx hb dX11_fillerFor_16 hl (by decide) rfl (fun ls hl => ?_)
      refine lv_aload hx hb dX11_fillerFor_18 (lv_at hl 0 rfl) ?_
      rcases Classical.em (tg z (d (2000 + i)) 10) with ht9 | ht9
      ·
        have ht_36 := ht9
        have hkd_38 : u.2 4 i = 4 := (kT_k (kd_05 hrp.2.2.1 (by rw [eKn]; exact hlt)).1 (kd_05 hrp.2.2.1 (by rw [eKn]; exact hlt)).2).2.2.2.2.1 (hkt_35.symm.trans ht_36.2)
        have hs_58 : f (d (2000 + i)) = .inr (2, [.int (nI i), .int (u.2 4 i), .ref (d (3000 + i)), .int (u.2 22 i), .ref (d (4000 + i)), .int (u.2 5 i), .int (u.2 6 i)]) := by rw [hs_22, ht_36.2, hrs_34.2.2.2.2.1 hkd_38]; rfl
        obtain ⟨kk_59, hk_60⟩ := pl_at ht_36.1 hs_58
        refine va_instS hx hb hown (hts (.classLink RX11 114 "PageOne$Filler") (zat q_wsX11_fillerFor k_wsX11_fillerFor 380 rfl (by decide +kernel))) (hK.1 2 (RX2, TX2, 7) rfl).2 (va_recv hK hP (ci := 2) (q0 := kk_59) rfl hk_60) dX11_fillerFor_20 ?_
        refine lv_if_eq (tgt := 56) hx hb dX11_fillerFor_23 (by decide) (fun c_61 => absurd c_61 (by decide)) (fun c_61 => ?_)
        refine lv_aload hx hb dX11_fillerFor_26 (lv_at hl 0 rfl) ?_
        obtain ⟨kk_62, hk_63⟩ := pl_at ht_36.1 hs_58
        refine va_castS hx hb hown (hts (.classLink RX11 114 "PageOne$Filler") (zat q_wsX11_fillerFor k_wsX11_fillerFor 380 rfl (by decide +kernel))) (hK.1 2 (RX2, TX2, 7) rfl).2 (va_recv hK hP (ci := 2) (q0 := kk_62) rfl hk_63) dX11_fillerFor_28 ?_
        refine lv_astore_n (lv' := [(3, .ref (d (2000 + i))), (4, .ref (d (2000 + i))), (2, .int (nI i)), (0, .ref h0), (1, .int p0)]) hx hb dX11_fillerFor_31 rfl hl (by decide) rfl (fun ls hl => ?_)
        refine lv_aload_n hx hb dX11_fillerFor_32 rfl (lv_at hl 0 rfl) ?_
        obtain ⟨kk_64, hk_65⟩ := pl_at ht_36.1 hs_58
        refine vp_callSi (va_runU (As := []) (rest := []) ⟨hx, hb, hml, hown, hts⟩ (y_hasRoom l dC dI q h0 d k z f hI (d (2000 + i)) hit_21 (nI i) (u.2 4 i) (u.2 22 i) (d (3000 + i)) (d (4000 + i)) rs_17 hs_22 n_18 g_19 hps_24 hpa_23) (va_cwU 0 hts gX11_fillerFor_X4_hasRoom_u329X2 rfl rfl rfl rfl zu_94 ⟨Nat.le_trans (Nat.le_of_ble_eq_true rfl) hRf, Nat.le_trans (Nat.le_of_ble_eq_true rfl) hRl⟩) ⟨px_fb, va_recv hK hP (ci := 2) (q0 := kk_64) rfl hk_65, fun U hU hW => ⟨rfl, px_to hU hW hP hK hN hXN⟩⟩ rfl rfl hl.1 rfl (lv_room (Nat.le_of_ble_eq_true rfl)) dX11_fillerFor_33 ⟨hRc, hRs⟩).run (fun r hw => ?_)
        obtain rfl : r = (bP ((u.2 22 i) < nI n_18)) := hw
        refine lv_if_eq (tgt := 56) hx hb dX11_fillerFor_36 (by decide) (fun c_66 => ?_) (fun c_66 => ?_)
        ·
          refine lv_iinc (v := (nI (i + 1))) (lv' := [(2, .int (nI (i + 1))), (3, .ref (d (2000 + i))), (4, .ref (d (2000 + i))), (0, .ref h0), (1, .int p0)]) hx hb dX11_fillerFor_56 hl (k := 2) rfl (nI_1 i) (by decide) rfl (fun ls hl => ?_)
          refine lv_goto (tgt := 2) hx hb dX11_fillerFor_59 (by decide) ?_
          exact ih (i + 1) ls (by omega) (by omega) (fun j hj => by rcases Nat.lt_succ_iff_lt_or_eq.mp hj with h9 | h9; exact hg j h9; subst h9; exact fun h8 => bP_0 c_66 ((hr_0 (hnn_30.trans (if_neg (by rw [hkd_38]; decide))) hcb_27).mpr h8.2.1)) (lv_sub hl [0, 3, 4] rfl)
        ·
          refine lv_iload_n hx hb dX11_fillerFor_39 rfl (lv_at hl 4 rfl) ?_
          refine lv_aload_n hx hb dX11_fillerFor_40 rfl (lv_at hl 0 rfl) ?_
          obtain ⟨kk_67, hk_68⟩ := pl_at ht_36.1 hs_58
          refine va_get (D := (dC, dI)) (ci := 2) (v := .int (u.2 5 i)) (C := RX2) (T := TX2) (N := 7) hx hb hts zl_X11_fillerFor_X2 hown hK hP kk_67 hk_68 rfl 5 (by decide) (hts (.fieldLink RX11 330 "PageOne$Filler" "least" "I") (zat q_wsX11_fillerFor k_wsX11_fillerFor 387 rfl (by decide +kernel))) (fun _ h9 => h9) rfl dX11_fillerFor_41 ?_
          refine lv_aload_n hx hb dX11_fillerFor_44 rfl (lv_at hl 0 rfl) ?_
          obtain ⟨kk_69, hk_70⟩ := pl_at ht_36.1 hs_58
          refine va_get (D := (dC, dI)) (ci := 2) (v := .int (u.2 6 i)) (C := RX2) (T := TX2) (N := 7) hx hb hts zl_X11_fillerFor_X2 hown hK hP kk_69 hk_70 rfl 6 (by decide) (hts (.fieldLink RX11 333 "PageOne$Filler" "most" "I") (zat q_wsX11_fillerFor k_wsX11_fillerFor 389 rfl (by decide +kernel))) (fun _ h9 => h9) rfl dX11_fillerFor_45 ?_
          refine vp_callSi (va_runS (As := [.int p0, .int (u.2 5 i), .int (u.2 6 i)]) (rest := []) ⟨hx, hb, hml, hown, hts⟩ (x_isWithin l dC dI p0 (u.2 5 i) (u.2 6 i)) (va_cwS 3 hts gX11_fillerFor_X11_isWithin rfl rfl rfl zh_X11_isWithin_30 ⟨Nat.le_trans (Nat.le_of_ble_eq_true rfl) hRf, Nat.le_trans (Nat.le_of_ble_eq_true rfl) hRl⟩) ⟨pw_fb, fun U hU hW => ⟨rfl, pw_to hU hW (hP.sub (ws' := []) [] rfl) (hK.sub (tys' := []) [] rfl) hN⟩⟩ rfl rfl hl.1 rfl (lv_room (Nat.le_of_ble_eq_true rfl)) dX11_fillerFor_48 ⟨hRc, hRs⟩).run (fun r hw => ?_)
          rcases Bool.eq_false_or_eq_true (bw p0 (u.2 5 i) (u.2 6 i)) with b_71 | b_71
          ·
            obtain rfl : r = 1 := b_t hw b_71
            refine lv_if_eq (tgt := 56) hx hb dX11_fillerFor_51 (by decide) (fun c_72 => absurd c_72 (by decide)) (fun c_72 => ?_)
            exact kx54 _ ls ⟨hlt, ⟨hkd_38, (hr_0 (hnn_30.trans (if_neg (by rw [hkd_38]; decide))) hcb_27).mp (bP_n c_66), b_71⟩, hg⟩ (lv_sub hl [0, 3, 4] rfl)
          ·
            obtain rfl : r = 0 := b_f hw b_71
            refine lv_if_eq (tgt := 56) hx hb dX11_fillerFor_51 (by decide) (fun c_73 => ?_) (fun c_73 => absurd (by decide) c_73)
            refine lv_iinc (v := (nI (i + 1))) (lv' := [(2, .int (nI (i + 1))), (3, .ref (d (2000 + i))), (4, .ref (d (2000 + i))), (0, .ref h0), (1, .int p0)]) hx hb dX11_fillerFor_56 hl (k := 2) rfl (nI_1 i) (by decide) rfl (fun ls hl => ?_)
            refine lv_goto (tgt := 2) hx hb dX11_fillerFor_59 (by decide) ?_
            exact ih (i + 1) ls (by omega) (by omega) (fun j hj => by rcases Nat.lt_succ_iff_lt_or_eq.mp hj with h9 | h9; exact hg j h9; subst h9; exact fun h8 => bne b_71 h8.2.2) (lv_sub hl [0, 3, 4] rfl)
      ·
        have hn_37 := ht9
        have hkd_38 : ¬ u.2 4 i = 4 := fun e9 => ht9 ⟨hit_21.1, by rw [hkt_35, e9]; rfl⟩
        refine w_then (F0 m 23 ls [.int 0]) (fun hgo => ?_) ?_
        ·
          rcases x_tag hit_21 with ht8 | ht8 | ht8 | ht8 | ht8 | ht8
          ·
            exact absurd ht8 ht9
          ·
            obtain ⟨nu_74, kd_75, cn_76, pa_77, fa_78, o_79, w_80, y_81, hs_82, hs_83, hs_84, hs_85, hq_86⟩ := x_ihd hI ht8
            obtain ⟨kk_87, hk_88⟩ := pl_at ht8.1 hs_82
            exact va_instNo hx hb hown (hts (.classLink RX11 114 "PageOne$Filler") (zat q_wsX11_fillerFor k_wsX11_fillerFor 380 rfl (by decide +kernel))) hXN.n_X3_X2 (va_recv hK hP (ci := 3) (q0 := kk_87) rfl hk_88) dX11_fillerFor_20 hgo
          ·
            obtain ⟨nu_89, kd_90, cn_91, pa_92, fa_93, o_94, y_95, hs_96, hs_97, hs_98, hs_99, hq_100⟩ := x_ino hI ht8
            obtain ⟨kk_101, hk_102⟩ := pl_at ht8.1 hs_96
            exact va_instNo hx hb hown (hts (.classLink RX11 114 "PageOne$Filler") (zat q_wsX11_fillerFor k_wsX11_fillerFor 380 rfl (by decide +kernel))) hXN.n_X5_X2 (va_recv hK hP (ci := 4) (q0 := kk_101) rfl hk_102) dX11_fillerFor_20 hgo
          ·
            obtain ⟨nu_103, kd_104, cn_105, pa_106, fa_107, b_108, pr_109, sp_110, dy_111, hs_112, hs_113, hs_114, hs_115, hq_116, hq_117, hq_118⟩ := x_ipd hI ht8
            obtain ⟨kk_119, hk_120⟩ := pl_at ht8.1 hs_112
            exact va_instNo hx hb hown (hts (.classLink RX11 114 "PageOne$Filler") (zat q_wsX11_fillerFor k_wsX11_fillerFor 380 rfl (by decide +kernel))) hXN.n_X6_X2 (va_recv hK hP (ci := 5) (q0 := kk_119) rfl hk_120) dX11_fillerFor_20 hgo
          ·
            obtain ⟨nu_121, kd_122, cn_123, pa_124, fa_125, ww_126, hh_127, sz_128, hs_129, hs_130, hs_131, hs_132, hq_133, hq_134, hq_135⟩ := x_ipi hI ht8
            obtain ⟨kk_136, hk_137⟩ := pl_at ht8.1 hs_129
            exact va_instNo hx hb hown (hts (.classLink RX11 114 "PageOne$Filler") (zat q_wsX11_fillerFor k_wsX11_fillerFor 380 rfl (by decide +kernel))) hXN.n_X7_X2 (va_recv hK hP (ci := 6) (q0 := kk_136) rfl hk_137) dX11_fillerFor_20 hgo
          ·
            obtain ⟨nu_138, kd_139, cn_140, pa_141, fa_142, l_143, co_144, wd_145, nm_146, hs_147, hs_148, hs_149, hs_150, hq_151, hq_152, hq_153⟩ := x_ist hI ht8
            obtain ⟨kk_154, hk_155⟩ := pl_at ht8.1 hs_147
            exact va_instNo hx hb hown (hts (.classLink RX11 114 "PageOne$Filler") (zat q_wsX11_fillerFor k_wsX11_fillerFor 380 rfl (by decide +kernel))) hXN.n_X10_X2 (va_recv hK hP (ci := 9) (q0 := kk_154) rfl hk_155) dX11_fillerFor_20 hgo
        ·
          refine lv_if_eq (tgt := 56) hx hb dX11_fillerFor_23 (by decide) (fun c_156 => ?_) (fun c_156 => absurd (by decide) c_156)
          refine lv_iinc (v := (nI (i + 1))) (lv' := [(2, .int (nI (i + 1))), (4, .ref (d (2000 + i))), (0, .ref h0), (1, .int p0)]) hx hb dX11_fillerFor_56 hl (k := 1) rfl (nI_1 i) (by decide) rfl (fun ls hl => ?_)
          refine lv_goto (tgt := 2) hx hb dX11_fillerFor_59 (by decide) ?_
          exact ih (i + 1) ls (by omega) (by omega) (fun j hj => by rcases Nat.lt_succ_iff_lt_or_eq.mp hj with h9 | h9; exact hg j h9; subst h9; exact fun h8 => hkd_38 h8.1) (lv_sub hl [0, 2, 3] rfl)
set_option maxHeartbeats 4000000 in
set_option maxRecDepth 100000 in
theorem y_fillerFor (l : Launch) (dC : Nat → ClassId) (dI : Nat → Nat → Nat) (q : Nat → ClassId) (h0 : Nat) (d : Nat → Nat) (k : Nat → Int32) (z : gS) (f : xF) (hI : xI q h0 d k z f) (p0 : Int32) (u : mS) (hrp : rep q d u z f) (hk0 : k 0 = u.1 3) (hk1 : k 1 = u.1 28) (hk2 : k 2 = u.1 38) (hk3 : k 3 = u.1 39) : Met l yX11_fillerFor wsX11_fillerFor ({ frames := 1, cells := 0, slots := 0, locals := 22 }) (va_Pc [.ref h0, .int p0] (PX dC dI (va_pl z.1 f) (xT q))) (va_Sq (fun r => ffR u d p0 r)) 0 0 (fun _ => False) := by
  refine Met.ofW (cc := cX11_fillerFor) (maxL := 5) (ret := (some (.object "PageOne$Filler"))) (by decide) rfl ?_
  intro p e s m args below meth c s₁ B hml hv
  obtain ⟨rfl, ⟨hP, hK, hN⟩, hXN⟩ := hv
  have hx := B.exec
  have hb := B.bytes
  have hr := B.returns
  have hts := atoms_spec (ws := wsX11_fillerFor) B.pre
  have hown : s.vm.findClass RX11 = some m.cls := findClass_of_methodNamed B.named
  have hlocks := B.notSynchronized
  have hl := lv_entry ([.ref h0, .int p0]) (n := 5) (Nat.le_of_ble_eq_true rfl)
  rw [lg_entry_eq]
  generalize (lg_sl ([.ref h0, .int p0]) ++ List.replicate (5 - (lg_sl ([.ref h0, .int p0])).length) Slot.unset).toArray = ls at hl ⊢
  have hl : lv_has ls 5 [(0, .ref h0), (1, .int p0)] := hl
  refine lv_iconst (v := 0) hx hb dX11_fillerFor_0 (by decide) ?_
  refine lv_istore_n (lv' := [(2, .int 0), (0, .ref h0), (1, .int p0)]) hx hb dX11_fillerFor_1 rfl hl (by decide) rfl (fun ls hl => ?_)
  obtain ⟨K, hK8, -, eK⟩ := exN hI.1.1 (by decide)
  have h80 : (80 : Int32).toInt = 80 := rfl
  have eKn : (u.1 3).toNatClampNeg = K := by rw [← hk0, eK, nI_clamp (by omega)]
  refine y_fillerFor_l (K := K) hI hx hb hml hts hown hN hXN hK (Nat.le_of_ble_eq_true rfl) (Nat.le_of_ble_eq_true rfl) (Nat.le_of_ble_eq_true rfl) (Nat.le_of_ble_eq_true rfl) hP hrp hk0 (by omega) eK eKn (fun ls hno hl => ?_) (fun i9 ls hye hl => ?_) (K + 1) 0 ls (Nat.zero_le _) (by omega) (fun j hj => absurd hj (Nat.not_lt_zero _)) (lv_sub hl [0, 1, 2] rfl)
  ·
    refine lv_null hx hb dX11_fillerFor_62 ?_
    exact W.aret (v := .null) hx hb hr (Or.inl ⟨_, rfl⟩) (Or.inl rfl) (fun t ht hW => ⟨none, rfl, (Or.inl ⟨rfl, fun j hj => hno j (by omega)⟩), ht⟩) (fun q h => absurd h List.not_mem_nil) dX11_fillerFor_63
  ·
    refine lv_aload_n hx hb dX11_fillerFor_54 rfl (lv_at hl 0 rfl) ?_
    exact W.aret (v := .ref (d (2000 + i9))) hx hb hr (Or.inl ⟨_, rfl⟩) (Or.inr ⟨_, rfl⟩) (fun t ht hW => ⟨some (d (2000 + i9)), rfl, (Or.inr ⟨i9, by omega, rfl, hye.2.1, hye.2.2⟩), ht⟩) (fun q h => absurd h List.not_mem_nil) dX11_fillerFor_55
theorem ac_eq {q h0 d k z f} (h : xI q h0 d k z f) {a p : Nat} {l n : Int32} {ah : Option Nat} (ha : acS z a p l n ah) : f a = .inr (0, [.ref p, .int l, va_rf ah, .int n]) := by
  obtain ⟨h1, -⟩ := x_23 h ha.1
  rw [h1, ha.2]
/-- a part of an act that is taken back: whether it was lifted, whose it is, where -/
abbrev bS : Type := Bool × Option Nat × fR
def bkS (z : gS) (d : Nat → Nat) : Option Nat → List bS → Prop
  | o, [] => o = none
  | o, x :: xs => ∃ a pp n ah, o = some a ∧ acS z a pp (if x.1 then 1 else 0) n ah ∧ pcR z pp (x.2.1.map (fun i => d (2000 + i))) x.2.2 ∧ bkS z d ah xs
def bkU (u : mS) : List bS → mS
  | [] => u
  | x :: xs => bkU (match x.1, x.2.1 with
    | true, some i => mStand u (nI i) x.2.2.1 x.2.2.2.1 x.2.2.2.2.1 x.2.2.2.2.2.1 x.2.2.2.2.2.2
    | false, some i => mUnstand u (nI i) x.2.2.1 x.2.2.2.1 x.2.2.2.2.1 x.2.2.2.2.2.1 x.2.2.2.2.2.2
    | _, none => mput u 2 (setR (u.2 2) x.2.2.1 x.2.2.2.1 x.2.2.2.2.1 x.2.2.2.2.2.2 (-2) x.2.2.2.2.2.1)) xs
/-- each part can be taken back when its turn comes -/
def bkK (u : mS) : List bS → Prop
  | [] => True
  | (true, some i, (P, X, Y, D, N)) :: xs => rIn u P X Y D N ∧ i < (u.1 3).toNatClampNeg ∧ (u.2 22 i).toNatClampNeg < (if u.2 4 i = 0 then 6 else 1) ∧ bkK (mStand u (nI i) P X Y D N) xs
  | (false, some i, (P, X, Y, D, N)) :: xs => rIn u P X Y D N ∧ i < (u.1 3).toNatClampNeg ∧ 0 < (u.2 22 i).toNatClampNeg ∧ bkK (mUnstand u (nI i) P X Y D N) xs
  | (false, none, (P, X, Y, D, N)) :: xs => rIn u P X Y D N ∧ bkK (mput u 2 (setR (u.2 2) P X Y N (-2) D)) xs
  | (true, none, _) :: _ => False
def neI (u : mS) : Prop := ∀ j, j < 5760 → ¬ u.2 2 j = (-1)
theorem neI_set {u w : mS} (h : neI u) {P X Y N D : Nat} {x : Int32} (hx : ¬ x = (-1)) (hw : w.2 2 = setR (u.2 2) P X Y N x D) : neI w := fun j hj => by
  rw [hw]
  rcases setR_v (u.2 2) P X Y N x D j with e | e
  · rw [e]; exact h j hj
  · rw [e]; exact hx
set_option maxHeartbeats 4000000 in
set_option maxRecDepth 100000 in
theorem y_takeBack_l {p : Program} {l : Launch} {e : Env} {R : Room} {s : State} {m : MethodId} {args : Array Value} {below : List Frame} {meth : Method} {c : Code} {Q : State → Prop} {cells slots : Nat} {dC : Nat → ClassId} {dI : Nat → Nat → Nat} {q : Nat → ClassId} {h0 : Nat} {d : Nat → Nat} {k : Nat → Int32} {z : gS} {A : Nat → Prop} {H0 : Heap} {f0 : xF} {uE : mS} (hx : p.tables.exec = Jvm.exec) (hb : c.code = cX11_takeBack) (hml : c.maxLocals = 3) (hts : ∀ w ∈ wsX11_takeBack, w.before args s = true) (hown : s.vm.findClass RX11 = some m.cls) (hN : NN s) (hXN : XN s) (hK : va_K (dC, dI) vwCl (xT q) s) (hRf : 5 ≤ R.frames) (hRl : 109 ≤ R.locals) (hRc : cells ≤ R.cells) (hRs : slots ≤ R.slots) (hA : ∀ q : Nat, H0.size ≤ q → A q) (kx40 : ∀ (f : xF) (H : Heap) (locs : List Loc) (ls : Array Slot), rep q d uE z f → f (d 3) = f0 (d 3) → xI q h0 d k z f → va_P (dC, dI) vwCl (va_pl z.1 f) H → va_D A (va_pl z.1 f) → va_S A H0 H locs → lv_has ls 3 [(0, .ref h0)] → W p l e R s m args below meth c H locs cells slots Q (F0 m 40 ls [])) : ∀ (L9 : List bS) (u : mS) (r : Option Nat) (f : xF) (H : Heap) (locs : List Loc) (ls : Array Slot), bkU u L9 = uE → bkS z d r L9 → bkK u L9 → neI u → rep q d u z f → k 0 = u.1 3 → k 1 = u.1 28 → k 2 = u.1 38 → k 3 = u.1 39 → f (d 3) = f0 (d 3) → xI q h0 d k z f → va_P (dC, dI) vwCl (va_pl z.1 f) H → va_D A (va_pl z.1 f) → va_S A H0 H locs → lv_has ls 3 [(2, va_rf r), (0, .ref h0)] → W p l e R s m args below meth c H locs cells slots Q (F0 m 2 ls []) := by
  intro L9
  induction L9 with
  | nil =>
    intro u r f H locs ls hE9 hS9 hK9 hne hrp hk0 hk1 hk2 hk3 h3m hI hP hD hS hl
    have hr9 : r = none := hS9
    subst hr9
    have hE9 : u = uE := hE9
    subst hE9
    have hl : lv_has ls 3 [(2, .null), (0, .ref h0)] := hl
    refine lv_aload_nN hx hb dX11_takeBack_2 rfl (lv_at hl 0 rfl) ?_
    refine lv_ifnullN (tgt := 40) hx hb dX11_takeBack_3 (by decide) ?_
    exact kx40 _ _ _ ls hrp h3m hI hP hD hS (lv_sub hl [1] rfl)
  | cons x xs ih =>
    intro u r f H locs ls hE9 hS9 hK9 hne hrp hk0 hk1 hk2 hk3 h3m hI hP hD hS hl
    have hk1o := hk1
    obtain ⟨b, pp, nn, ah, rfl, hac, hpc, hS9⟩ := hS9
    have hl : lv_has ls 3 [(2, .ref b), (0, .ref h0)] := hl
    obtain ⟨lf, it, P, X, Y, D, N⟩ := x
    have hfb := ac_eq hI hac
    rcases lf with _ | _
    · rcases it with _ | i
      ·
        obtain ⟨hrx, hK9⟩ := hK9
        obtain ⟨hP9, hX, hD1, hY, hN1, hin⟩ := hrx
        have hpcx : pcS z pp none (nI P) (nI X) (nI Y) (nI D) (nI N) := hpc
        have hlgb := lg_of hpcx ⟨b7n (by omega), b60n (by omega), bwN (by have e8 : (8 : Int32).toInt = 8 := rfl; rw [e8]; omega) (by omega), b60n (by omega)⟩
        have hfb : f b = .inr (0, [.ref pp, .int 0, va_rf ah, .int nn]) := hfb
        refine lv_aload_n hx hb dX11_takeBack_2 rfl (lv_at hl 0 rfl) ?_
        refine lv_ifnull hx hb dX11_takeBack_3 ?_
        refine lv_aload_n hx hb dX11_takeBack_6 rfl (lv_at hl 0 rfl) ?_
        obtain ⟨kk_1, hk_2⟩ := pl_at hac.1.1 hfb
        refine va_get (D := (dC, dI)) (ci := 0) (v := .int 0) (C := RX0) (T := TX0) (N := 4) hx hb hts zl_X11_takeBack_X0 hown hK hP kk_1 hk_2 rfl 1 (by decide) (hts (.fieldLink RX11 313 "PageOne$Act" "lifted" "Z") (zat q_wsX11_takeBack k_wsX11_takeBack 606 rfl (by decide +kernel))) (fun _ h9 => h9) rfl dX11_takeBack_7 ?_
        refine lv_if_eq (tgt := 24) hx hb dX11_takeBack_10 (by decide) (fun c_3 => ?_) (fun c_3 => absurd (by decide) c_3)
        refine lv_aload_n hx hb dX11_takeBack_24 rfl (lv_at hl 1 rfl) ?_
        refine lv_aload_n hx hb dX11_takeBack_25 rfl (lv_at hl 0 rfl) ?_
        obtain ⟨kk_4, hk_5⟩ := pl_at hac.1.1 hfb
        refine va_get (D := (dC, dI)) (ci := 0) (v := .ref pp) (C := RX0) (T := TX0) (N := 4) hx hb hts zl_X11_takeBack_X0 hown hK hP kk_4 hk_5 rfl 0 (by decide) (hts (.fieldLink RX11 317 "PageOne$Act" "piece" "LPageOne$Piece;") (zat q_wsX11_takeBack k_wsX11_takeBack 604 rfl (by decide +kernel))) (fun _ h9 => h9) rfl dX11_takeBack_26 ?_
        obtain ⟨kk_6, hk_7⟩ := pl_at hI.2.1.1.1 hI.2.2.2.1.1
        have hFc := fr_all hD hS hA
        refine va_callv (va_runV (As := [.ref pp]) (rest := []) ⟨hx, hb, hml, hown, hts⟩ (y_offR l dC dI q h0 d k z f hI pp P X Y D N u hrp hk0 hk1 hk2 hk3 hP9 hX hD1 hY hin hne hpcx H.size) (cwV 1 hts gX11_takeBack_X11_takeOff rfl rfl rfl zh_X11_takeOff_61 ⟨Nat.le_trans (Nat.le_of_ble_eq_true rfl) hRf, Nat.le_trans (Nat.le_of_ble_eq_true rfl) hRl⟩) ⟨gx_fb, va_recv hK hP (ci := 10) (q0 := kk_6) rfl hk_7, fun U hU hW => ⟨rfl, by rw [hU], px_to hU hW hP hK hN hXN, hD.weaken (fun _ _ _ _ => trivial)⟩⟩ rfl rfl hl.1 rfl (lv_room (Nat.le_of_ble_eq_true rfl)) dX11_takeBack_29 ⟨hRc, hRs⟩) hS (fun q _ h => hFc q h) hFc (fun w_8 t H1 locs ht hvm hw hB hz1 hk1 hS => ?_)
        obtain ⟨hP, hD1⟩ := hB
        rw [ht] at hP
        rw [hw.2.1] at hP hD1
        have hD := hD1.weaken (fun _ q _ h => hFc q.1 h)
        have hI := hw.2.2.1
        have hw0 := hw
        generalize w_8.2.2 = f_9 at hP hD hI hw0
        generalize H1 = H at hP hS ⊢
        have hfb : f_9 b = .inr (0, [.ref pp, .int 0, va_rf ah, .int nn]) := ac_eq hI hac
        refine lv_aload_n hx hb dX11_takeBack_32 rfl (lv_at hl 0 rfl) ?_
        obtain ⟨kk_10, hk_11⟩ := pl_at hac.1.1 hfb
        refine va_get (D := (dC, dI)) (ci := 0) (v := va_rf ah) (C := RX0) (T := TX0) (N := 4) hx hb hts zl_X11_takeBack_X0 hown hK hP kk_10 hk_11 rfl 2 (by decide) (hts (.fieldLink RX11 321 "PageOne$Act" "ahead" "LPageOne$Act;") (zat q_wsX11_takeBack k_wsX11_takeBack 608 rfl (by decide +kernel))) (fun _ h9 => h9) rfl dX11_takeBack_33 ?_
        rcases ah with _ | b_12
        ·
          refine W.eq (g2 := F0 m 36 ls [.null]) rfl ?_
          refine lv_astore_nN (lv' := [(2, .null), (0, .ref h0)]) hx hb dX11_takeBack_36 rfl hl (by decide) rfl (fun ls hl => ?_)
          refine lv_goto (tgt := 2) hx hb dX11_takeBack_37 (by decide) ?_
          exact ih _ none _ _ _ ls hE9 hS9 hK9 (neI_set (x := -2) hne (by decide) rfl) hw0.2.2.2.1 hk0 hk1o hk2 hk3 (hw0.2.2.2.2.trans h3m) hI hP hD hS (lv_sub hl [0, 1] rfl)
        ·
          refine W.eq (g2 := F0 m 36 ls [.ref b_12]) rfl ?_
          refine lv_astore_n (lv' := [(2, .ref b_12), (0, .ref h0)]) hx hb dX11_takeBack_36 rfl hl (by decide) rfl (fun ls hl => ?_)
          refine lv_goto (tgt := 2) hx hb dX11_takeBack_37 (by decide) ?_
          exact ih _ (some b_12) _ _ _ ls hE9 hS9 hK9 (neI_set (x := -2) hne (by decide) rfl) hw0.2.2.2.1 hk0 hk1o hk2 hk3 (hw0.2.2.2.2.trans h3m) hI hP hD hS (lv_sub hl [0, 1] rfl)
      ·
        obtain ⟨hrx, hi, hrm, hK9⟩ := hK9
        obtain ⟨hP9, hX, hD1, hY, hN1, hin⟩ := hrx
        have hpcx : pcS z pp (some (d (2000 + i))) (nI P) (nI X) (nI Y) (nI D) (nI N) := hpc
        have hlgb := lg_of hpcx ⟨b7n (by omega), b60n (by omega), bwN (by have e8 : (8 : Int32).toInt = 8 := rfl; rw [e8]; omega) (by omega), b60n (by omega)⟩
        have hfb : f b = .inr (0, [.ref pp, .int 0, va_rf ah, .int nn]) := hfb
        refine lv_aload_n hx hb dX11_takeBack_2 rfl (lv_at hl 0 rfl) ?_
        refine lv_ifnull hx hb dX11_takeBack_3 ?_
        refine lv_aload_n hx hb dX11_takeBack_6 rfl (lv_at hl 0 rfl) ?_
        obtain ⟨kk_14, hk_15⟩ := pl_at hac.1.1 hfb
        refine va_get (D := (dC, dI)) (ci := 0) (v := .int 0) (C := RX0) (T := TX0) (N := 4) hx hb hts zl_X11_takeBack_X0 hown hK hP kk_14 hk_15 rfl 1 (by decide) (hts (.fieldLink RX11 313 "PageOne$Act" "lifted" "Z") (zat q_wsX11_takeBack k_wsX11_takeBack 606 rfl (by decide +kernel))) (fun _ h9 => h9) rfl dX11_takeBack_7 ?_
        refine lv_if_eq (tgt := 24) hx hb dX11_takeBack_10 (by decide) (fun c_16 => ?_) (fun c_16 => absurd (by decide) c_16)
        refine lv_aload_n hx hb dX11_takeBack_24 rfl (lv_at hl 1 rfl) ?_
        refine lv_aload_n hx hb dX11_takeBack_25 rfl (lv_at hl 0 rfl) ?_
        obtain ⟨kk_17, hk_18⟩ := pl_at hac.1.1 hfb
        refine va_get (D := (dC, dI)) (ci := 0) (v := .ref pp) (C := RX0) (T := TX0) (N := 4) hx hb hts zl_X11_takeBack_X0 hown hK hP kk_17 hk_18 rfl 0 (by decide) (hts (.fieldLink RX11 317 "PageOne$Act" "piece" "LPageOne$Piece;") (zat q_wsX11_takeBack k_wsX11_takeBack 604 rfl (by decide +kernel))) (fun _ h9 => h9) rfl dX11_takeBack_26 ?_
        obtain ⟨kk_19, hk_20⟩ := pl_at hI.2.1.1.1 hI.2.2.2.1.1
        have hFc := fr_all hD hS hA
        refine va_callv (va_runV (As := [.ref pp]) (rest := []) ⟨hx, hb, hml, hown, hts⟩ (y_offI l dC dI q h0 d k z f hI pp P X Y D N u hrp hk0 hk1 hk2 hk3 hP9 hX hD1 hY hin hne i hi hpcx hrm H.size) (cwV 1 hts gX11_takeBack_X11_takeOff rfl rfl rfl zh_X11_takeOff_61 ⟨Nat.le_trans (Nat.le_of_ble_eq_true rfl) hRf, Nat.le_trans (Nat.le_of_ble_eq_true rfl) hRl⟩) ⟨gx_fb, va_recv hK hP (ci := 10) (q0 := kk_19) rfl hk_20, fun U hU hW => ⟨rfl, by rw [hU], px_to hU hW hP hK hN hXN, hD.weaken (fun _ _ _ _ => trivial)⟩⟩ rfl rfl hl.1 rfl (lv_room (Nat.le_of_ble_eq_true rfl)) dX11_takeBack_29 ⟨hRc, hRs⟩) hS (fun q _ h => hFc q h) hFc (fun w_21 t H1 locs ht hvm hw hB hz1 hk1 hS => ?_)
        obtain ⟨hP, hD1⟩ := hB
        rw [ht] at hP
        rw [hw.2.1] at hP hD1
        have hD := hD1.weaken (fun _ q _ h => hFc q.1 h)
        have hI := hw.2.2.1
        have hw0 := hw
        generalize w_21.2.2 = f_22 at hP hD hI hw0
        generalize H1 = H at hP hS ⊢
        have hfb : f_22 b = .inr (0, [.ref pp, .int 0, va_rf ah, .int nn]) := ac_eq hI hac
        refine lv_aload_n hx hb dX11_takeBack_32 rfl (lv_at hl 0 rfl) ?_
        obtain ⟨kk_23, hk_24⟩ := pl_at hac.1.1 hfb
        refine va_get (D := (dC, dI)) (ci := 0) (v := va_rf ah) (C := RX0) (T := TX0) (N := 4) hx hb hts zl_X11_takeBack_X0 hown hK hP kk_23 hk_24 rfl 2 (by decide) (hts (.fieldLink RX11 321 "PageOne$Act" "ahead" "LPageOne$Act;") (zat q_wsX11_takeBack k_wsX11_takeBack 608 rfl (by decide +kernel))) (fun _ h9 => h9) rfl dX11_takeBack_33 ?_
        rcases ah with _ | b_25
        ·
          refine W.eq (g2 := F0 m 36 ls [.null]) rfl ?_
          refine lv_astore_nN (lv' := [(2, .null), (0, .ref h0)]) hx hb dX11_takeBack_36 rfl hl (by decide) rfl (fun ls hl => ?_)
          refine lv_goto (tgt := 2) hx hb dX11_takeBack_37 (by decide) ?_
          exact ih _ none _ _ _ ls hE9 hS9 hK9 (neI_set (x := -2) hne (by decide) (mUnstand_2 _ _ _ _ _ _ _)) hw0.2.2.2.1 hk0 hk1o hk2 hk3 (hw0.2.2.2.2.trans h3m) hI hP hD hS (lv_sub hl [0, 1] rfl)
        ·
          refine W.eq (g2 := F0 m 36 ls [.ref b_25]) rfl ?_
          refine lv_astore_n (lv' := [(2, .ref b_25), (0, .ref h0)]) hx hb dX11_takeBack_36 rfl hl (by decide) rfl (fun ls hl => ?_)
          refine lv_goto (tgt := 2) hx hb dX11_takeBack_37 (by decide) ?_
          exact ih _ (some b_25) _ _ _ ls hE9 hS9 hK9 (neI_set (x := -2) hne (by decide) (mUnstand_2 _ _ _ _ _ _ _)) hw0.2.2.2.1 hk0 hk1o hk2 hk3 (hw0.2.2.2.2.trans h3m) hI hP hD hS (lv_sub hl [0, 1] rfl)
    · rcases it with _ | i
      ·
        exact absurd hK9 (fun h => h)
      ·
        obtain ⟨hrx, hi, hrm, hK9⟩ := hK9
        obtain ⟨hP9, hX, hD1, hY, hN1, hin⟩ := hrx
        have hpcx : pcS z pp (some (d (2000 + i))) (nI P) (nI X) (nI Y) (nI D) (nI N) := hpc
        have hlgb := lg_of hpcx ⟨b7n (by omega), b60n (by omega), bwN (by have e8 : (8 : Int32).toInt = 8 := rfl; rw [e8]; omega) (by omega), b60n (by omega)⟩
        have hfb : f b = .inr (0, [.ref pp, .int 1, va_rf ah, .int nn]) := hfb
        refine lv_aload_n hx hb dX11_takeBack_2 rfl (lv_at hl 0 rfl) ?_
        refine lv_ifnull hx hb dX11_takeBack_3 ?_
        refine lv_aload_n hx hb dX11_takeBack_6 rfl (lv_at hl 0 rfl) ?_
        obtain ⟨kk_27, hk_28⟩ := pl_at hac.1.1 hfb
        refine va_get (D := (dC, dI)) (ci := 0) (v := .int 1) (C := RX0) (T := TX0) (N := 4) hx hb hts zl_X11_takeBack_X0 hown hK hP kk_27 hk_28 rfl 1 (by decide) (hts (.fieldLink RX11 313 "PageOne$Act" "lifted" "Z") (zat q_wsX11_takeBack k_wsX11_takeBack 606 rfl (by decide +kernel))) (fun _ h9 => h9) rfl dX11_takeBack_7 ?_
        refine lv_if_eq (tgt := 24) hx hb dX11_takeBack_10 (by decide) (fun c_29 => absurd c_29 (by decide)) (fun c_29 => ?_)
        refine lv_aload_n hx hb dX11_takeBack_13 rfl (lv_at hl 1 rfl) ?_
        refine lv_aload_n hx hb dX11_takeBack_14 rfl (lv_at hl 0 rfl) ?_
        obtain ⟨kk_30, hk_31⟩ := pl_at hac.1.1 hfb
        refine va_get (D := (dC, dI)) (ci := 0) (v := .ref pp) (C := RX0) (T := TX0) (N := 4) hx hb hts zl_X11_takeBack_X0 hown hK hP kk_30 hk_31 rfl 0 (by decide) (hts (.fieldLink RX11 317 "PageOne$Act" "piece" "LPageOne$Piece;") (zat q_wsX11_takeBack k_wsX11_takeBack 604 rfl (by decide +kernel))) (fun _ h9 => h9) rfl dX11_takeBack_15 ?_
        obtain ⟨kk_32, hk_33⟩ := pl_at hI.2.1.1.1 hI.2.2.2.1.1
        have hFc := fr_all hD hS hA
        refine va_callv (va_runV (As := [.ref pp]) (rest := []) ⟨hx, hb, hml, hown, hts⟩ (y_standI l dC dI q h0 d k z f hI pp P X Y D N u hrp hk0 hk1 hk2 hk3 hP9 hX hD1 hY hin hne i hi hpcx hrm H.size) (cwV 1 hts gX11_takeBack_X11_stand rfl rfl rfl zh_X11_stand_62 ⟨Nat.le_trans (Nat.le_of_ble_eq_true rfl) hRf, Nat.le_trans (Nat.le_of_ble_eq_true rfl) hRl⟩) ⟨gx_fb, va_recv hK hP (ci := 10) (q0 := kk_32) rfl hk_33, fun U hU hW => ⟨rfl, by rw [hU], px_to hU hW hP hK hN hXN, hD.weaken (fun _ _ _ _ => trivial)⟩⟩ rfl rfl hl.1 rfl (lv_room (Nat.le_of_ble_eq_true rfl)) dX11_takeBack_18 ⟨hRc, hRs⟩) hS (fun q _ h => hFc q h) hFc (fun w_34 t H1 locs ht hvm hw hB hz1 hk1 hS => ?_)
        obtain ⟨hP, hD1⟩ := hB
        rw [ht] at hP
        rw [hw.2.1] at hP hD1
        have hD := hD1.weaken (fun _ q _ h => hFc q.1 h)
        have hI := hw.2.2.1
        have hw0 := hw
        generalize w_34.2.2 = f_35 at hP hD hI hw0
        generalize H1 = H at hP hS ⊢
        have hfb : f_35 b = .inr (0, [.ref pp, .int 1, va_rf ah, .int nn]) := ac_eq hI hac
        refine lv_goto (tgt := 32) hx hb dX11_takeBack_21 (by decide) ?_
        refine lv_aload_n hx hb dX11_takeBack_32 rfl (lv_at hl 0 rfl) ?_
        obtain ⟨kk_36, hk_37⟩ := pl_at hac.1.1 hfb
        refine va_get (D := (dC, dI)) (ci := 0) (v := va_rf ah) (C := RX0) (T := TX0) (N := 4) hx hb hts zl_X11_takeBack_X0 hown hK hP kk_36 hk_37 rfl 2 (by decide) (hts (.fieldLink RX11 321 "PageOne$Act" "ahead" "LPageOne$Act;") (zat q_wsX11_takeBack k_wsX11_takeBack 608 rfl (by decide +kernel))) (fun _ h9 => h9) rfl dX11_takeBack_33 ?_
        rcases ah with _ | b_38
        ·
          refine W.eq (g2 := F0 m 36 ls [.null]) rfl ?_
          refine lv_astore_nN (lv' := [(2, .null), (0, .ref h0)]) hx hb dX11_takeBack_36 rfl hl (by decide) rfl (fun ls hl => ?_)
          refine lv_goto (tgt := 2) hx hb dX11_takeBack_37 (by decide) ?_
          exact ih _ none _ _ _ ls hE9 hS9 hK9 (neI_set hne (nIm1 (by have := w80i hI.1.1 hk0; omega)) (mStand_2 _ _ _ _ _ _ _)) hw0.2.2.2.1 hk0 hk1o hk2 hk3 (hw0.2.2.2.2.trans h3m) hI hP hD hS (lv_sub hl [0, 1] rfl)
        ·
          refine W.eq (g2 := F0 m 36 ls [.ref b_38]) rfl ?_
          refine lv_astore_n (lv' := [(2, .ref b_38), (0, .ref h0)]) hx hb dX11_takeBack_36 rfl hl (by decide) rfl (fun ls hl => ?_)
          refine lv_goto (tgt := 2) hx hb dX11_takeBack_37 (by decide) ?_
          exact ih _ (some b_38) _ _ _ ls hE9 hS9 hK9 (neI_set hne (nIm1 (by have := w80i hI.1.1 hk0; omega)) (mStand_2 _ _ _ _ _ _ _)) hw0.2.2.2.1 hk0 hk1o hk2 hk3 (hw0.2.2.2.2.trans h3m) hI hP hD hS (lv_sub hl [0, 1] rfl)
set_option maxHeartbeats 4000000 in
set_option maxRecDepth 100000 in
theorem y_takeBack (l : Launch) (dC : Nat → ClassId) (dI : Nat → Nat → Nat) (q : Nat → ClassId) (h0 : Nat) (d : Nat → Nat) (k : Nat → Int32) (z : gS) (f : xF) (hI : xI q h0 d k z f) (b9 : Nat) (hb9 : tg z b9 23) (u : mS) (hrp : rep q d u z f) (hk0 : k 0 = u.1 3) (hk1 : k 1 = u.1 28) (hk2 : k 2 = u.1 38) (hk3 : k 3 = u.1 39) (L9 : List bS) (hbs : bkS z d (some b9) L9) (hbk : bkK u L9) (hne : neI u) (sz : Nat) : Met l yX11_takeBack wsX11_takeBack ({ frames := 5, cells := 0, slots := 0, locals := 109 }) (va_Pc [.ref h0, .ref b9] (fun U => U.heap.size = sz ∧ PX dC dI (va_pl z.1 f) (xT q) U ∧ va_D (fun _ => True) (va_pl z.1 f))) (va_Qv (fun (w : xU) => w.1 = k ∧ w.2.1 = z ∧ xI q h0 d k z w.2.2 ∧ rep q d (bkU u L9) z w.2.2 ∧ w.2.2 (d 3) = f (d 3)) (fun (w : xU) t => va_P (dC, dI) vwCl (va_pl w.2.1.1 w.2.2) t.heap ∧ va_D (va_A (va_pl z.1 f) sz) (va_pl w.2.1.1 w.2.2)) (va_A (va_pl z.1 f) sz)) 0 0 (va_A (va_pl z.1 f) sz) := by
  refine Met.ofW (cc := cX11_takeBack) (maxL := 3) (ret := none) (by decide) rfl ?_
  intro p e s m args below meth c s₁ B hml hv
  obtain ⟨rfl, hsz, ⟨⟨hP, hK, hN⟩, hXN⟩, hD0⟩ := hv
  have hx := B.exec
  have hb := B.bytes
  have hr := B.returns
  have hts := atoms_spec (ws := wsX11_takeBack) B.pre
  have hown : s.vm.findClass RX11 = some m.cls := findClass_of_methodNamed B.named
  have hlocks := B.notSynchronized
  subst hsz
  have hD := hD0.self (sz := s.heap.size)
  generalize hAe : va_A (va_pl z.1 f) s.heap.size = A at hD ⊢
  have hA : ∀ q : Nat, s.heap.size ≤ q → A q := fun q h => by rw [← hAe]; exact Or.inr h
  have hS : va_S A s.heap s.heap [] := va_S.rf
  have hl := lv_entry ([.ref h0, .ref b9]) (n := 3) (Nat.le_of_ble_eq_true rfl)
  rw [lg_entry_eq]
  generalize (lg_sl ([.ref h0, .ref b9]) ++ List.replicate (3 - (lg_sl ([.ref h0, .ref b9])).length) Slot.unset).toArray = ls at hl ⊢
  have hl : lv_has ls 3 [(0, .ref h0), (1, .ref b9)] := hl
  refine lv_aload_n hx hb dX11_takeBack_0 rfl (lv_at hl 1 rfl) ?_
  refine lv_astore_n (lv' := [(2, .ref b9), (0, .ref h0), (1, .ref b9)]) hx hb dX11_takeBack_1 rfl hl (by decide) rfl (fun ls hl => ?_)
  refine y_takeBack_l (f0 := f) (uE := bkU u L9) hx hb hml hts hown hN hXN hK (Nat.le_of_ble_eq_true rfl) (Nat.le_of_ble_eq_true rfl) (Nat.le_of_ble_eq_true rfl) (Nat.le_of_ble_eq_true rfl) hA (fun f2 H locs ls hrp2 h3m hI hP hD hS hl => ?_) L9 u (some b9) _ _ _ ls rfl hbs hbk hne hrp hk0 hk1 hk2 hk3 rfl hI hP hD hS (lv_sub hl [0, 1] rfl)
  exact W.vret hx hb hr (fun t ht hW => ⟨⟨(k, z, f2), rfl, ⟨rfl, rfl, hI, hrp2, h3m⟩, by rw [ht]; exact hP, hD⟩, hS.F ht⟩) hS.2.2 dX11_takeBack_40
theorem mBk_rep {q d u z f} (h : rep q d u z f) : rep q d (mBack u) z f := rep_rows h rfl (fun _ _ => rfl)
/-- what undo leaves -/
def unP (q : Nat → ClassId) (h0 : Nat) (d : Nat → Nat) (k : Nat → Int32) (z : gS) (f : xF) (u : mS) (L9 : List bS) (g : Nat → Option Nat) (r : Int32) (w : xU) : Prop := (k 1 = 0 ∧ r = (-1) ∧ w = (k, z, f)) ∨ (¬ k 1 = 0 ∧ r = k 1 - 1 ∧ w.1 = kup k 1 (k 1 - 1) ∧ w.2.1 = z ∧ xI q h0 d w.1 z w.2.2 ∧ rep q d (bkU (mBack u) L9) z w.2.2 ∧ w.2.2 (d 3) = aR (q 4) 300 (va_up g (k 1 - 1).toNatClampNeg none))
theorem x_ac9 {q h0 d k z f} (hI : xI q h0 d k z f) {a : Nat} (ha : tg z a 5) {g : Nat → Option Nat} (hg : f a = aR (q 4) 300 g) : ∀ j, j < 300 → ∀ b, g j = some b → tg z b 23 := by
  obtain ⟨g2, h1, h2⟩ := x_ac hI ha
  have e := (aR_inj (hg.symm.trans h1)).2
  subst e
  exact h2
set_option maxHeartbeats 4000000 in
set_option maxRecDepth 100000 in
theorem y_undo (l : Launch) (dC : Nat → ClassId) (dI : Nat → Nat → Nat) (q : Nat → ClassId) (h0 : Nat) (d : Nat → Nat) (k : Nat → Int32) (z : gS) (f : xF) (hI : xI q h0 d k z f) (u : mS) (hrp : rep q d u z f) (hk0 : k 0 = u.1 3) (hk1 : k 1 = u.1 28) (hk2 : k 2 = u.1 38) (hk3 : k 3 = u.1 39) (L9 : List bS) (g : Nat → Option Nat) (hg3 : f (d 3) = aR (q 4) 300 g) (hact : ¬ k 1 = 0 → ∃ a9, g (k 1 - 1).toNatClampNeg = some a9 ∧ tg z a9 23 ∧ bkS z d (some a9) L9 ∧ bkK (mBack u) L9) (hne : neI u) (hz0 : (z.2 h0).2.1 = 0) (sz : Nat) : Met l yX11_undo wsX11_undo ({ frames := 6, cells := 0, slots := 0, locals := 131 }) (va_Pc [.ref h0] (fun U => U.heap.size = sz ∧ PX dC dI (va_pl z.1 f) (xT q) U ∧ va_D (fun _ => True) (va_pl z.1 f))) (va_Qi (fun (r : Int32) (w : xU) => unP q h0 d k z f u L9 g r w) (fun (w : xU) t => va_P (dC, dI) vwCl (va_pl w.2.1.1 w.2.2) t.heap ∧ va_D (va_A (va_pl z.1 f) sz) (va_pl w.2.1.1 w.2.2)) (va_A (va_pl z.1 f) sz)) 0 0 (va_A (va_pl z.1 f) sz) := by
  refine Met.ofW (cc := cX11_undo) (maxL := 1) (ret := (some .int)) (by decide) rfl ?_
  intro p e s m args below meth c s₁ B hml hv
  obtain ⟨rfl, hsz, ⟨⟨hP, hK, hN⟩, hXN⟩, hD0⟩ := hv
  have hx := B.exec
  have hb := B.bytes
  have hr := B.returns
  have hts := atoms_spec (ws := wsX11_undo) B.pre
  have hown : s.vm.findClass RX11 = some m.cls := findClass_of_methodNamed B.named
  have hlocks := B.notSynchronized
  subst hsz
  have hD := hD0.self (sz := s.heap.size)
  generalize hAe : va_A (va_pl z.1 f) s.heap.size = A at hD ⊢
  have hA : ∀ q : Nat, s.heap.size ≤ q → A q := fun q h => by rw [← hAe]; exact Or.inr h
  have hS : va_S A s.heap s.heap [] := va_S.rf
  have hl := lv_entry ([.ref h0]) (n := 1) (Nat.le_of_ble_eq_true rfl)
  rw [lg_entry_eq]
  generalize (lg_sl ([.ref h0]) ++ List.replicate (1 - (lg_sl ([.ref h0])).length) Slot.unset).toArray = ls at hl ⊢
  have hl : lv_has ls 1 [(0, .ref h0)] := hl
  refine lv_aload_n hx hb dX11_undo_0 rfl (lv_at hl 0 rfl) ?_
  obtain ⟨kk_1, hk_2⟩ := pl_at hI.2.1.1.1 hI.2.2.2.1.1
  refine va_get (D := (dC, dI)) (ci := 10) (v := .int (k 1)) (C := RX11) (T := TX11) (N := 9) hx hb hts zl_X11_undo_X11 hown hK hP kk_1 hk_2 rfl 5 (by decide) (hts (.fieldLink RX11 34 "PageOne" "actCount" "I") (zat q_wsX11_undo k_wsX11_undo 117 rfl (by decide +kernel))) (fun _ h9 => h9) rfl dX11_undo_1 ?_
  refine lv_if_ne (tgt := 9) hx hb dX11_undo_4 (by decide) (fun c_3 => ?_) (fun c_3 => ?_)
  ·
    refine lv_aload_n hx hb dX11_undo_9 rfl (lv_at hl 0 rfl) ?_
    refine lv_dup hx hb dX11_undo_10 rfl ?_
    obtain ⟨kk_4, hk_5⟩ := pl_at hI.2.1.1.1 hI.2.2.2.1.1
    refine va_get (D := (dC, dI)) (ci := 10) (v := .int (k 1)) (C := RX11) (T := TX11) (N := 9) hx hb hts zl_X11_undo_X11 hown hK hP kk_4 hk_5 rfl 5 (by decide) (hts (.fieldLink RX11 34 "PageOne" "actCount" "I") (zat q_wsX11_undo k_wsX11_undo 117 rfl (by decide +kernel))) (fun _ h9 => h9) rfl dX11_undo_11 ?_
    refine lv_iconst (v := 1) hx hb dX11_undo_14 (by decide) ?_
    refine lv_isub hx hb dX11_undo_15 ?_
    refine lv_topi (fun x_6 ex_6 => ?_)
    obtain ⟨kk_7, hk_8⟩ := pl_at hI.2.1.1.1 hI.2.2.2.1.1
    have hD0 := hD
    refine va_put (D := (dC, dI)) (ci := 10) (v := .int x_6) (ty := .int) (C := RX11) (T := TX11) (N := 9) hx hb hts zl_X11_undo_X11 tyX11 tyX11_ok nmX11 hown hK hP hD hS kk_7 hk_8 rfl 5 (by decide) (hts (.fieldLink RX11 34 "PageOne" "actCount" "I") (zat q_wsX11_undo k_wsX11_undo 117 rfl (by decide +kernel))) (fun _ h9 => h9) rfl (tyX11_ok 5 (by decide)) rfl rfl (Nat.le_of_ble_eq_true rfl) dX11_undo_16 (fun H locs hP hD hS => ?_)
    obtain ⟨k_9, ek_9⟩ : ∃ y : Nat → Int32, y = kup k 1 x_6 := ⟨_, rfl⟩
    have hvx := (vAm hI.1.2.1 c_3 ex_6).1
    have hIo := hI
    rw [pl_set hD0 hI.2.1.1.1 hI.2.2.2.1.1 hk_8] at hP hD
    obtain ⟨f_10, ef_10⟩ : ∃ y : xF, y = va_up f h0 (.inr (10, dkF d k_9)) := ⟨_, rfl⟩
    have hP : va_P (dC, dI) vwCl (va_pl z.1 f_10) H := by rw [ef_10, ek_9]; exact hP
    have hD : va_D A (va_pl z.1 f_10) := by rw [ef_10, ek_9]; exact hD
    have hI : xI q h0 d k_9 z f_10 := by rw [ef_10]; exact x_dk hI (by rw [ek_9]; exact ⟨hI.1.1, by rw [kup_s]; exact (vAm hI.1.2.1 c_3 ex_6).2, hI.1.2.2⟩) (by rw [ek_9]; exact Nat.le_refl _)
    have hvk : vp_in (k_9 1) 300 := by rw [ek_9, kup_s]; exact hvx
    obtain ⟨a9, hga, hta, hbs, hbk⟩ := hact c_3
    have hgk : g (k_9 1).toNatClampNeg = some a9 := by rw [ek_9, kup_s, ex_6]; exact hga
    have hg3 : f_10 (d 3) = aR (q 4) 300 g := by rw [ef_10, up_o (tg_ne hrp.2.2.2.2.2.2.2.1.1 hIo.2.1.1 (by decide))]; exact hg3
    have hrpb : rep q d (mBack u) z f_10 := by rw [ef_10]; exact rep_3 (mBk_rep hrp) (fK_h0 (fK_rf d z f _) hrp.2.2.2.2.1 hIo.2.1.1 hz0)
    have hkb : k_9 0 = (mBack u).1 3 ∧ k_9 1 = (mBack u).1 28 ∧ k_9 2 = (mBack u).1 38 ∧ k_9 3 = (mBack u).1 39 := by rw [ek_9]; exact ⟨hk0, by rw [kup_s, ex_6, hk1]; rfl, hk2, hk3⟩
    refine lv_aload_n hx hb dX11_undo_19 rfl (lv_at hl 0 rfl) ?_
    refine lv_aload_n hx hb dX11_undo_20 rfl (lv_at hl 0 rfl) ?_
    obtain ⟨kk_11, hk_12⟩ := pl_at hI.2.1.1.1 hI.2.2.2.1.1
    refine va_get (D := (dC, dI)) (ci := 10) (v := .ref (d 3)) (C := RX11) (T := TX11) (N := 9) hx hb hts zl_X11_undo_X11 hown hK hP kk_11 hk_12 rfl 4 (by decide) (hts (.fieldLink RX11 30 "PageOne" "acts" "[LPageOne$Act;") (zat q_wsX11_undo k_wsX11_undo 116 rfl (by decide +kernel))) (fun _ h9 => h9) rfl dX11_undo_21 ?_
    refine lv_aload_n hx hb dX11_undo_24 rfl (lv_at hl 0 rfl) ?_
    obtain ⟨kk_13, hk_14⟩ := pl_at hI.2.1.1.1 hI.2.2.2.1.1
    refine va_get (D := (dC, dI)) (ci := 10) (v := .int (k_9 1)) (C := RX11) (T := TX11) (N := 9) hx hb hts zl_X11_undo_X11 hown hK hP kk_13 hk_14 rfl 5 (by decide) (hts (.fieldLink RX11 34 "PageOne" "actCount" "I") (zat q_wsX11_undo k_wsX11_undo 117 rfl (by decide +kernel))) (fun _ h9 => h9) rfl dX11_undo_25 ?_
    obtain ⟨kk_15, hk_16⟩ := pl_at hI.2.1.2.2.2.2.1.1 hg3
    refine va_aldq hx hb hK hP kk_15 4 hk_16 rfl hvk dX11_undo_28 ?_
    rw [hgk]
    refine W.eq (g2 := F0 m 29 ls [.ref a9, .ref h0]) rfl ?_
    obtain ⟨kk_17, hk_18⟩ := pl_at hI.2.1.1.1 hI.2.2.2.1.1
    have hFc := fr_all hD hS hA
    refine va_callv (va_runV (As := [.ref a9]) (rest := []) ⟨hx, hb, hml, hown, hts⟩ (y_takeBack l dC dI q h0 d k_9 z f_10 hI a9 hta (mBack u) hrpb hkb.1 hkb.2.1 hkb.2.2.1 hkb.2.2.2 L9 hbs hbk hne H.size) (cwV 1 hts gX11_undo_X11_takeBack rfl rfl rfl zh_X11_takeBack_63 ⟨Nat.le_of_ble_eq_true rfl, Nat.le_of_ble_eq_true rfl⟩) ⟨gx_fb, va_recv hK hP (ci := 10) (q0 := kk_17) rfl hk_18, fun U hU hW => ⟨rfl, by rw [hU], px_to hU hW hP hK hN hXN, hD.weaken (fun _ _ _ _ => trivial)⟩⟩ rfl rfl hl.1 rfl (lv_room (Nat.le_of_ble_eq_true rfl)) dX11_undo_29 ⟨Nat.le_of_ble_eq_true rfl, Nat.le_of_ble_eq_true rfl⟩) hS (fun q _ h => hFc q h) hFc (fun w_19 t H1 locs ht hvm hw hB hz1 hk1 hS => ?_)
    obtain ⟨hP, hD1⟩ := hB
    rw [ht] at hP
    rw [hw.2.1] at hP hD1
    have hD := hD1.weaken (fun _ q _ h => hFc q.1 h)
    have hI := hw.2.2.1
    have hw0 := hw
    generalize w_19.2.2 = f_20 at hP hD hI hw0
    generalize H1 = H at hP hS ⊢
    have hrpc := hw0.2.2.2.1
    have hg3 : f_20 (d 3) = aR (q 4) 300 g := hw0.2.2.2.2.trans hg3
    refine lv_aload_n hx hb dX11_undo_32 rfl (lv_at hl 0 rfl) ?_
    obtain ⟨kk_21, hk_22⟩ := pl_at hI.2.1.1.1 hI.2.2.2.1.1
    refine va_get (D := (dC, dI)) (ci := 10) (v := .ref (d 3)) (C := RX11) (T := TX11) (N := 9) hx hb hts zl_X11_undo_X11 hown hK hP kk_21 hk_22 rfl 4 (by decide) (hts (.fieldLink RX11 30 "PageOne" "acts" "[LPageOne$Act;") (zat q_wsX11_undo k_wsX11_undo 116 rfl (by decide +kernel))) (fun _ h9 => h9) rfl dX11_undo_33 ?_
    refine lv_aload_n hx hb dX11_undo_36 rfl (lv_at hl 0 rfl) ?_
    obtain ⟨kk_23, hk_24⟩ := pl_at hI.2.1.1.1 hI.2.2.2.1.1
    refine va_get (D := (dC, dI)) (ci := 10) (v := .int (k_9 1)) (C := RX11) (T := TX11) (N := 9) hx hb hts zl_X11_undo_X11 hown hK hP kk_23 hk_24 rfl 5 (by decide) (hts (.fieldLink RX11 34 "PageOne" "actCount" "I") (zat q_wsX11_undo k_wsX11_undo 117 rfl (by decide +kernel))) (fun _ h9 => h9) rfl dX11_undo_37 ?_
    refine lv_null hx hb dX11_undo_40 ?_
    obtain ⟨kk_25, hk_26⟩ := pl_at hI.2.1.2.2.2.2.1.1 hg3
    have hD0 := hD
    refine va_astqN hx hb hK hP hD hS kk_25 4 hk_26 rfl hvk dX11_undo_41 (fun H locs hP hD hS => ?_)
    rw [pl_set hD0 hI.2.1.2.2.2.2.1.1 hg3 hk_26] at hP hD
    obtain ⟨f_27, ef_27⟩ : ∃ y : xF, y = va_up f_20 (d 3) (aR (q 4) 300 (va_up g ((k_9 1) : Int32).toNatClampNeg none)) := ⟨_, rfl⟩
    have hI : xI q h0 d k_9 z f_27 := by rw [ef_27]; exact x_up hI hI.2.1.2.2.2.2.1 (by decide) (cO_5 hI.2.1.2.2.2.2.1.2 ⟨_, rfl, ty_up (fun j hj b hb => (x_ac9 hI hI.2.1.2.2.2.2.1 hg3) j hj b hb) ty_n⟩)
    have hP : va_P (dC, dI) vwCl (va_pl z.1 f_27) H := by rw [ef_27]; exact hP
    have hD : va_D A (va_pl z.1 f_27) := by rw [ef_27]; exact hD
    have hrpz : rep q d (bkU (mBack u) L9) z f_27 := by rw [ef_27]; exact rep_3 hrpc (fK_up (fK_rf d z _ _) hrpc.2.2.2.2.2.2.2.1 (by decide) rfl)
    have hg3z : f_27 (d 3) = aR (q 4) 300 (va_up g (k 1 - 1).toNatClampNeg none) := by rw [ef_27, up_s, ek_9, kup_s, ex_6]
    refine lv_aload_n hx hb dX11_undo_42 rfl (lv_at hl 0 rfl) ?_
    obtain ⟨kk_28, hk_29⟩ := pl_at hI.2.1.1.1 hI.2.2.2.1.1
    refine va_get (D := (dC, dI)) (ci := 10) (v := .int (k_9 1)) (C := RX11) (T := TX11) (N := 9) hx hb hts zl_X11_undo_X11 hown hK hP kk_28 hk_29 rfl 5 (by decide) (hts (.fieldLink RX11 34 "PageOne" "actCount" "I") (zat q_wsX11_undo k_wsX11_undo 117 rfl (by decide +kernel))) (fun _ h9 => h9) rfl dX11_undo_43 ?_
    exact W.iret (v := (k_9 1)) hx hb hr (fun t ht hW => ⟨⟨(k_9 1), (k_9, z, f_27), rfl, (Or.inr ⟨c_3, by rw [ek_9, kup_s, ex_6], by rw [ek_9, ex_6], rfl, hI, hrpz, hg3z⟩), by rw [ht]; exact hP, hD⟩, hS.F ht⟩) hS.2.2 dX11_undo_46
  ·
    refine lv_iconst (v := (-1)) hx hb dX11_undo_7 (by decide) ?_
    exact W.iret (v := (-1)) hx hb hr (fun t ht hW => ⟨⟨(-1), (k, z, f), rfl, (Or.inl ⟨c_3, rfl, rfl⟩), by rw [ht]; exact hP, hD⟩, hS.F ht⟩) hS.2.2 dX11_undo_8
/-- a square stands on its own page's plates alone -/
def sdI (u : mS) : Prop := ∀ p, p < 12 → u.2 40 p = 1 → ∀ i, i < 80 → u.2 4 i = 3 → ¬ u.2 45 (80 * p + i) = (-1) → u.2 11 i = nI p
/-- printed on a day -/
def wpP (u : mS) (i : Nat) (dd : Int32) : Prop := ¬ u.2 48 (80 * dd.toNatClampNeg + i) = 0 ∨ (dd = u.1 38 ∧ ∃ p, p < 12 ∧ prC u (nI i) p = true)
noncomputable def blS (u : mS) (b dd : Int32) : Nat → Int32
  | 0 => 0
  | i + 1 => blS u b dd i + (if bP (u.2 4 i = 3 ∧ u.2 10 i = b ∧ wpP u i dd) = 1 then u.2 7 i * u.2 8 i * u.2 14 i else 0)
theorem blS_1 {u : mS} {b dd : Int32} {i : Nat} (h : u.2 4 i = 3 ∧ u.2 10 i = b ∧ wpP u i dd) : blS u b dd (i + 1) = blS u b dd i + u.2 7 i * u.2 8 i * u.2 14 i := by
  show blS u b dd i + _ = _
  rw [if_pos (bP_t h)]
theorem blS_0 {u : mS} {b dd : Int32} {i : Nat} (h : ¬ (u.2 4 i = 3 ∧ u.2 10 i = b ∧ wpP u i dd)) : blS u b dd (i + 1) = blS u b dd i := by
  show blS u b dd i + _ = _
  rw [if_neg (fun e => h (bP_1 e))]; exact Int32.add_zero _
theorem wp_y {u : mS} {i p : Nat} {dd s : Int32} (hp : p < 12) (hi : i < 80) (hd : dd = u.1 38) (hn : mNow u (nI p) = true) (hs : spR u i p s) : wpP u i dd := Or.inr ⟨hd, p, hp, prC_t hp hi hn hs⟩
theorem wp_n {u : mS} {i P : Nat} {dd : Int32} (hpl : plI u) (hsd : sdI u) (h01 : ∀ j, j < 12 → u.2 40 j = 0 ∨ u.2 40 j = 1) (hi : i < 80) (hk : u.2 4 i = 3) (hsp : u.2 11 i = nI P) (hP : P < 12) (h0 : u.2 48 (80 * dd.toNatClampNeg + i) = 0) (h : ¬ dd = u.1 38 ∨ ¬ mNow u (nI P) = true ∨ u.2 45 (80 * P + i) = (-1)) : ¬ wpP u i dd := by
  rintro (h1 | ⟨h1, p, hp, hc⟩)
  · exact h1 h0
  · rcases h with h | h
    · exact h h1
    · have e : p = P := by
        have h2 := hc
        unfold prC at h2
        rw [Bool.and_eq_true, Bool.not_eq_true', decide_eq_false_iff_not, e80 hp hi] at h2
        have h40 : u.2 40 p = 1 := by
          rcases h01 p hp with q | q
          · have h3 := h2.1
            unfold mNow at h3
            rw [nI_clamp (by omega), q] at h3
            exact absurd h3 (by simp)
          · exact q
        have h5 := hsd p hp h40 i hi hk (fun e => h2.2 (by rw [e]; decide))
        exact nI_inj2 (by omega) (by omega) (h5.symm.trans hsp)
      subst e
      rw [prC_f hp hi h] at hc
      exact absurd hc (by decide)
theorem e48 {gd : Nat → Int32} {u : mS} {i : Nat} {dd : Int32} (h : ∀ j, j < 400 → gd j = u.2 48 (80 * j + i)) (hd : bw dd 0 399 = true) : gd dd.toNatClampNeg = u.2 48 (80 * dd.toNatClampNeg + i) := h _ (vlt (vin hd (by decide)))
set_option maxHeartbeats 4000000 in
set_option maxRecDepth 100000 in
theorem y_wasPrintedOn (l : Launch) (dC : Nat → ClassId) (dI : Nat → Nat → Nat) (q : Nat → ClassId) (h0 : Nat) (d : Nat → Nat) (k : Nat → Int32) (z : gS) (f : xF) (hI : xI q h0 d k z f) (p0 : Int32) (hd9 : bw p0 0 399 = true) (u : mS) (hrp : rep q d u z f) (hk0 : k 0 = u.1 3) (hk1 : k 1 = u.1 28) (hk2 : k 2 = u.1 38) (hk3 : k 3 = u.1 39) (hpi : plI u) (hsd : sdI u) (i0 : Nat) (hi0 : i0 < (u.1 3).toNatClampNeg) (hkd : u.2 4 i0 = 3) : Met l yX11_wasPrintedOn wsX11_wasPrintedOn ({ frames := 4, cells := 0, slots := 0, locals := 87 }) (va_Pc [.ref h0, .ref (d (2000 + i0)), .int p0] (PX dC dI (va_pl z.1 f) (xT q))) (vp_Si (fun r => r = bP (wpP u i0 p0))) 0 0 (fun _ => False) := by
  refine Met.ofW (cc := cX11_wasPrintedOn) (maxL := 4) (ret := (some .boolean)) (by decide) rfl ?_
  intro p e s m args below meth c s₁ B hml hv
  obtain ⟨rfl, ⟨hP, hK, hN⟩, hXN⟩ := hv
  have hx := B.exec
  have hb := B.bytes
  have hr := B.returns
  have hts := atoms_spec (ws := wsX11_wasPrintedOn) B.pre
  have hown : s.vm.findClass RX11 = some m.cls := findClass_of_methodNamed B.named
  have hlocks := B.notSynchronized
  have hl := lv_entry ([.ref h0, .ref (d (2000 + i0)), .int p0]) (n := 4) (Nat.le_of_ble_eq_true rfl)
  rw [lg_entry_eq]
  generalize (lg_sl ([.ref h0, .ref (d (2000 + i0)), .int p0]) ++ List.replicate (4 - (lg_sl ([.ref h0, .ref (d (2000 + i0)), .int p0])).length) Slot.unset).toArray = ls at hl ⊢
  have hl : lv_has ls 4 [(0, .ref h0), (1, .ref (d (2000 + i0))), (2, .int p0)] := hl
  obtain ⟨rs_1, n_2, g_3, fg_4, hit_5, hs_6, hpa_7, hps_8, h1_9, h6_10, hcb_11, hpl_12, hlg_13, hnn_14, hfa_15, hfs_16, hfe_17, hrs_18, hkt_19⟩ := it_all hI hrp.2.2.1 hi0
  have hi8 : i0 < 80 := by have := w80i hI.1.1 hk0; omega
  obtain ⟨hx0, hx1, hx2, g6, hx4, hx5⟩ := hrs_18.2.2.2.1 hkd
  have ht13 : tg z (d (2000 + i0)) 13 := ⟨hit_5.1, by rw [hkt_19, hkd]; rfl⟩
  have hsP : f (d (2000 + i0)) = .inr (5, [.int (nI i0), .int (u.2 4 i0), .ref (d (3000 + i0)), .int (u.2 22 i0), .ref (d (4000 + i0)), .int (u.2 10 i0), .int (u.2 14 i0), .ref (d (5000 + i0)), .ref (d (6000 + i0))]) := by rw [hs_6, ht13.2, hx0]; rfl
  obtain ⟨P, hP1, -, eP⟩ := exN (x_pcB hI hx1).1 (by decide)
  have h11 : (11 : Int32).toInt = 11 := rfl
  rw [eP] at hx1
  refine lv_aload_n hx hb dX11_wasPrintedOn_0 rfl (lv_at hl 1 rfl) ?_
  obtain ⟨kk_20, hk_21⟩ := pl_at ht13.1 hsP
  refine va_get (D := (dC, dI)) (ci := 5) (v := .ref (d (6000 + i0))) (C := RX6) (T := TX6) (N := 9) hx hb hts zl_X11_wasPrintedOn_X6 hown hK hP kk_20 hk_21 rfl 8 (by decide) (hts (.fieldLink RX11 388 "PageOne$Paid" "days" "[Z") (zat q_wsX11_wasPrintedOn k_wsX11_wasPrintedOn 361 rfl (by decide +kernel))) (fun _ h9 => h9) rfl dX11_wasPrintedOn_1 ?_
  refine lv_iload_n hx hb dX11_wasPrintedOn_4 rfl (lv_at hl 2 rfl) ?_
  obtain ⟨kk_22, hk_23⟩ := pl_at hx2.1.1 hx4
  refine va_zald hx hb hK hP kk_22 1 hk_23 rfl (vin hd9 (by decide)) dX11_wasPrintedOn_5 ?_
  refine lv_if_eq (tgt := 11) hx hb dX11_wasPrintedOn_6 (by decide) (fun c_24 => ?_) (fun c_24 => ?_)
  ·
    refine lv_aload_n hx hb dX11_wasPrintedOn_11 rfl (lv_at hl 1 rfl) ?_
    obtain ⟨kk_25, hk_26⟩ := pl_at ht13.1 hsP
    refine va_get (D := (dC, dI)) (ci := 5) (v := .ref (d (5000 + i0))) (C := RX6) (T := TX6) (N := 9) hx hb hts zl_X11_wasPrintedOn_X6 hown hK hP kk_25 hk_26 rfl 7 (by decide) (hts (.fieldLink RX11 394 "PageOne$Paid" "spot" "LPageOne$Piece;") (zat q_wsX11_wasPrintedOn k_wsX11_wasPrintedOn 359 rfl (by decide +kernel))) (fun _ h9 => h9) rfl dX11_wasPrintedOn_12 ?_
    obtain ⟨kk_27, hk_28⟩ := pl_at hx1.1.1 (x_pcF hI hx1)
    refine va_get (D := (dC, dI)) (ci := 7) (v := .int (nI P)) (C := RX8) (T := TX8) (N := 6) hx hb hts zl_X11_wasPrintedOn_X8 hown hK hP kk_27 hk_28 rfl 1 (by decide) (hts (.fieldLink RX11 229 "PageOne$Piece" "page" "I") (zat q_wsX11_wasPrintedOn k_wsX11_wasPrintedOn 321 rfl (by decide +kernel))) (fun _ h9 => h9) rfl dX11_wasPrintedOn_15 ?_
    refine lv_istore_n (lv' := [(3, .int (nI P)), (0, .ref h0), (1, .ref (d (2000 + i0))), (2, .int p0)]) hx hb dX11_wasPrintedOn_18 rfl hl (by decide) rfl (fun ls hl => ?_)
    refine lv_iload_n hx hb dX11_wasPrintedOn_19 rfl (lv_at hl 3 rfl) ?_
    refine lv_aload_n hx hb dX11_wasPrintedOn_20 rfl (lv_at hl 1 rfl) ?_
    obtain ⟨kk_29, hk_30⟩ := pl_at hI.2.1.1.1 hI.2.2.2.1.1
    refine va_get (D := (dC, dI)) (ci := 10) (v := .int (k 2)) (C := RX11) (T := TX11) (N := 9) hx hb hts zl_X11_wasPrintedOn_X11 hown hK hP kk_29 hk_30 rfl 7 (by decide) (hts (.fieldLink RX11 41 "PageOne" "today" "I") (zat q_wsX11_wasPrintedOn k_wsX11_wasPrintedOn 119 rfl (by decide +kernel))) (fun _ h9 => h9) rfl dX11_wasPrintedOn_21 ?_
    refine lv_icmp_ne (tgt := 56) hx hb dX11_wasPrintedOn_24 (by decide) (fun c_31 => ?_) (fun c_31 => ?_)
    ·
      refine lv_iconst (v := 0) hx hb dX11_wasPrintedOn_56 (by decide) ?_
      exact W.zret (v := 0) hx hb hr (by decide) (fun t ht hW => ⟨_, rfl, (bP_f (wp_n (P := P) hpi hsd (rp_01 hrp.2.1) hi8 hkd eP (by omega) ((e48 hx5 hd9).symm.trans c_24) (Or.inl (fun e9 => c_31 (e9.trans hk2.symm))))).symm, ht⟩) (fun q h => absurd h List.not_mem_nil) dX11_wasPrintedOn_57
    ·
      refine lv_aload_n hx hb dX11_wasPrintedOn_27 rfl (lv_at hl 1 rfl) ?_
      refine lv_iload_n hx hb dX11_wasPrintedOn_28 rfl (lv_at hl 0 rfl) ?_
      obtain ⟨kk_32, hk_33⟩ := pl_at hI.2.1.1.1 hI.2.2.2.1.1
      refine vp_callSi (va_runV (As := [.int (nI P)]) (rest := []) ⟨hx, hb, hml, hown, hts⟩ (y_isFresh l dC dI q h0 d k z f hI (nI P) u hrp hk2 hk3) (cwV 1 hts gX11_wasPrintedOn_X11_isFresh rfl rfl rfl zh_X11_isFresh_46 ⟨Nat.le_of_ble_eq_true rfl, Nat.le_of_ble_eq_true rfl⟩) ⟨px_fb, va_recv hK hP (ci := 10) (q0 := kk_32) rfl hk_33, fun U hU hW => ⟨rfl, px_to hU hW hP hK hN hXN⟩⟩ rfl rfl hl.1 rfl (lv_room (Nat.le_of_ble_eq_true rfl)) dX11_wasPrintedOn_29 ⟨Nat.le_of_ble_eq_true rfl, Nat.le_of_ble_eq_true rfl⟩).run (fun r hw => ?_)
      rcases hw with ⟨hw, hpp_40⟩ | ⟨hw, hpp_40, hbw_39, gp_34, bp_35, hp_36, hp_37, hp_38⟩
      ·
        subst hw
        refine lv_if_eq (tgt := 56) hx hb dX11_wasPrintedOn_32 (by decide) (fun c_41 => ?_) (fun c_41 => absurd (by decide) c_41)
        refine lv_iconst (v := 0) hx hb dX11_wasPrintedOn_56 (by decide) ?_
        exact W.zret (v := 0) hx hb hr (by decide) (fun t ht hW => ⟨_, rfl, (bP_f (wp_n (P := P) hpi hsd (rp_01 hrp.2.1) hi8 hkd eP (by omega) ((e48 hx5 hd9).symm.trans c_24) (Or.inr (Or.inl (fun h9 => hpp_40 ((frP_now (bw11 (by omega : P < 12)) (rp_01 hrp.2.1 _ (by rw [nI_clamp (by omega)]; omega))).mpr h9)))))).symm, ht⟩) (fun q h => absurd h List.not_mem_nil) dX11_wasPrintedOn_57
      ·
        subst hw
        refine lv_if_eq (tgt := 56) hx hb dX11_wasPrintedOn_32 (by decide) (fun c_42 => absurd c_42 (by decide)) (fun c_42 => ?_)
        refine lv_aload_n hx hb dX11_wasPrintedOn_35 rfl (lv_at hl 1 rfl) ?_
        obtain ⟨kk_43, hk_44⟩ := pl_at hI.2.1.1.1 hI.2.2.2.1.1
        refine va_get (D := (dC, dI)) (ci := 10) (v := .ref (d 1)) (C := RX11) (T := TX11) (N := 9) hx hb hts zl_X11_wasPrintedOn_X11 hown hK hP kk_43 hk_44 rfl 1 (by decide) (hts (.fieldLink RX11 15 "PageOne" "plates" "[LPageOne$Sheet;") (zat q_wsX11_wasPrintedOn k_wsX11_wasPrintedOn 113 rfl (by decide +kernel))) (fun _ h9 => h9) rfl dX11_wasPrintedOn_36 ?_
        refine lv_iload_n hx hb dX11_wasPrintedOn_39 rfl (lv_at hl 0 rfl) ?_
        obtain ⟨kk_45, hk_46⟩ := pl_at hI.2.1.2.2.1.1 hp_36
        refine va_aldq hx hb hK hP kk_45 2 hk_46 rfl (vin hbw_39 (by decide)) dX11_wasPrintedOn_40 ?_
        rw [hp_37]
        refine W.eq (g2 := F0 m 41 ls [.ref bp_35]) rfl ?_
        refine lv_aload_n hx hb dX11_wasPrintedOn_41 rfl (lv_at hl 2 rfl) ?_
        obtain ⟨kk_47, hk_48⟩ := pl_at ht13.1 hsP
        refine va_get (D := (dC, dI)) (ci := 5) (v := .int (nI i0)) (C := RX6) (T := TX6) (N := 9) hx hb hts zl_X11_wasPrintedOn_X6 hown hK hP kk_47 hk_48 rfl 0 (by decide) (hts (.fieldLink RX11 397 "PageOne$Paid" "number" "I") (zat q_wsX11_wasPrintedOn k_wsX11_wasPrintedOn 186 rfl (by decide +kernel))) (fun x9 h9 => u_same (hts (.sameField "PageOne$Paid" "PageOne$Item" "number" "I") (zat q_wsX11_wasPrintedOn k_wsX11_wasPrintedOn 187 rfl (by decide +kernel))) x9 h9) rfl dX11_wasPrintedOn_42 ?_
        obtain ⟨la_49, ca_50, m_51, dd_52, ii_53, hs_54, ht_55, ht_56⟩ := x_sh hI hp_38
        obtain ⟨g_57, hs_58, hg_59⟩ := x_ln hI ht_55
        obtain ⟨g_60, hs_61⟩ := x_ce hI ht_56
        obtain ⟨kk_62, hk_63⟩ := pl_at hp_38.1 hs_54
        refine vp_callSi (va_runV (As := [.int (nI i0)]) (rest := []) ⟨hx, hb, hml, hown, hts⟩ (y_spotOf l dC dI q h0 d k z f hI bp_35 la_49 ca_50 m_51 dd_52 ii_53 g_57 g_60 hp_38 hs_54 ht_55 ht_56 hs_58 hg_59 hs_61 (nI i0)) (cwV 1 hts gX11_wasPrintedOn_X9_spotOf rfl rfl rfl zh_X9_spotOf_71 ⟨Nat.le_of_ble_eq_true rfl, Nat.le_of_ble_eq_true rfl⟩) ⟨px_fb, va_recv hK hP (ci := 8) (q0 := kk_62) rfl hk_63, fun U hU hW => ⟨rfl, px_to hU hW hP hK hN hXN⟩⟩ rfl rfl hl.1 rfl (lv_room (Nat.le_of_ble_eq_true rfl)) dX11_wasPrintedOn_45 ⟨Nat.le_of_ble_eq_true rfl, Nat.le_of_ble_eq_true rfl⟩).run (fun r hw => ?_)
        generalize r = zr_64 at hw ⊢
        have hzr_64 := hw
        refine lv_iconst (v := (-1)) hx hb dX11_wasPrintedOn_48 (by decide) ?_
        refine lv_icmp_eq (tgt := 56) hx hb dX11_wasPrintedOn_49 (by decide) (fun c_65 => ?_) (fun c_65 => ?_)
        ·
          refine lv_iconst (v := 0) hx hb dX11_wasPrintedOn_56 (by decide) ?_
          exact W.zret (v := 0) hx hb hr (by decide) (fun t ht hW => ⟨_, rfl, (bP_f (wp_n (P := P) hpi hsd (rp_01 hrp.2.1) hi8 hkd eP (by omega) ((e48 hx5 hd9).symm.trans c_24) (Or.inr (Or.inr (by rcases (by have hq9 := ((rp_pl hrp.2.1 hp_36 (clp hbw_39)).2 _ hp_37).2.2 _ _ _ _ _ hs_54; have h40 := hpp_40.1.2; rw [nI_clamp (by omega)] at hq9 h40; exact sp_val (by omega) hpi h40 hi8 (hq9.2.2.1 _ hs_58) (hq9.2.2.2 _ hs_61) hg_59 hzr_64 : (zr_64 = -1 ∧ u.2 45 (80 * P + i0) = (-1)) ∨ (¬ zr_64 = -1 ∧ spR u i0 P zr_64)) with h8 | h8; exact h8.2; exact absurd c_65 h8.1))))).symm, ht⟩) (fun q h => absurd h List.not_mem_nil) dX11_wasPrintedOn_57
        ·
          refine lv_iconst (v := 1) hx hb dX11_wasPrintedOn_52 (by decide) ?_
          refine lv_goto (tgt := 57) hx hb dX11_wasPrintedOn_53 (by decide) ?_
          exact W.zret (v := 1) hx hb hr (by decide) (fun t ht hW => ⟨_, rfl, (bP_t (by rcases (by have hq9 := ((rp_pl hrp.2.1 hp_36 (clp hbw_39)).2 _ hp_37).2.2 _ _ _ _ _ hs_54; have h40 := hpp_40.1.2; rw [nI_clamp (by omega)] at hq9 h40; exact sp_val (by omega) hpi h40 hi8 (hq9.2.2.1 _ hs_58) (hq9.2.2.2 _ hs_61) hg_59 hzr_64 : (zr_64 = -1 ∧ u.2 45 (80 * P + i0) = (-1)) ∨ (¬ zr_64 = -1 ∧ spR u i0 P zr_64)) with h8 | h8; exact absurd h8.1 c_65; exact wp_y (p := P) (by omega) hi8 (c_31.trans hk2) ((frP_now (bw11 (by omega : P < 12)) (rp_01 hrp.2.1 _ (by rw [nI_clamp (by omega)]; omega))).mp hpp_40) h8.2)).symm, ht⟩) (fun q h => absurd h List.not_mem_nil) dX11_wasPrintedOn_57
  ·
    refine lv_iconst (v := 1) hx hb dX11_wasPrintedOn_9 (by decide) ?_
    exact W.zret (v := 1) hx hb hr (by decide) (fun t ht hW => ⟨_, rfl, (bP_t (Or.inl (fun e9 => c_24 ((e48 hx5 hd9).trans e9)))).symm, ht⟩) (fun q h => absurd h List.not_mem_nil) dX11_wasPrintedOn_10
set_option maxHeartbeats 4000000 in
set_option maxRecDepth 100000 in
theorem y_bill_l {p : Program} {l : Launch} {e : Env} {R : Room} {s : State} {m : MethodId} {args : Array Value} {below : List Frame} {meth : Method} {c : Code} {Q : State → Prop} {cells slots : Nat} {dC : Nat → ClassId} {dI : Nat → Nat → Nat} {q : Nat → ClassId} {h0 : Nat} {d : Nat → Nat} {k : Nat → Int32} {z : gS} {f : xF} {H : Heap} {locs : List Loc} (hI : xI q h0 d k z f) (hx : p.tables.exec = Jvm.exec) (hb : c.code = cX11_bill) (hml : c.maxLocals = 7) (hts : ∀ w ∈ wsX11_bill, w.before args s = true) (hown : s.vm.findClass RX11 = some m.cls) (hN : NN s) (hXN : XN s) (hK : va_K (dC, dI) vwCl (xT q) s) (hRf : 5 ≤ R.frames) (hRl : 110 ≤ R.locals) (hRc : cells ≤ R.cells) (hRs : slots ≤ R.slots) (hP : va_P (dC, dI) vwCl (va_pl z.1 f) H) {u : mS} (hrp : rep q d u z f) (hk0 : k 0 = u.1 3) (hk1 : k 1 = u.1 28) (hk2 : k 2 = u.1 38) (hk3 : k 3 = u.1 39) {K : Nat} (hK8 : K ≤ 80) (eK : k 0 = nI K) (eKn : (u.1 3).toNatClampNeg = K) {p0 p1 : Int32} (hd9 : bw p1 0 399 = true) (hpi : plI u) (hsd : sdI u) (kx92 : ∀ (a9 : Int32) (ls : Array Slot), a9 = blS u p0 p1 K → lv_has ls 7 [(3, .int a9), (0, .ref h0), (1, .int p0), (2, .int p1)] → W p l e R s m args below meth c H locs cells slots Q (F0 m 92 ls [])) : ∀ (kk i : Nat) (a : Int32) (ls : Array Slot), i ≤ K → K - i < kk → a = blS u p0 p1 i → lv_has ls 7 [(4, .int (nI i)), (3, .int a), (0, .ref h0), (1, .int p0), (2, .int p1)] → W p l e R s m args below meth c H locs cells slots Q (F0 m 26 ls []) := by
  intro kk
  induction kk with
  | zero => intro i a ls h1 h2; exact absurd h2 (Nat.not_lt_zero _)
  | succ kk ih =>
    intro i a ls hi hkk hg hl
    refine lv_iload hx hb dX11_bill_26 (lv_at hl 0 rfl) ?_
    refine lv_aload_n hx hb dX11_bill_28 rfl (lv_at hl 2 rfl) ?_
    obtain ⟨kk_1, hk_2⟩ := pl_at hI.2.1.1.1 hI.2.2.2.1.1
    refine va_get (D := (dC, dI)) (ci := 10) (v := .int (k 0)) (C := RX11) (T := TX11) (N := 9) hx hb hts zl_X11_bill_X11 hown hK hP kk_1 hk_2 rfl 3 (by decide) (hts (.fieldLink RX11 24 "PageOne" "itemCount" "I") (zat q_wsX11_bill k_wsX11_bill 115 rfl (by decide +kernel))) (fun _ h9 => h9) rfl dX11_bill_29 ?_
    refine lv_topi (fun y_3 ey_3 => ?_)
    obtain rfl : y_3 = (nI K) := ey_3.trans (eK)
    refine lv_icmp_ge (tgt := 92) hx hb dX11_bill_32 (by decide) (fun c_4 => ?_) (fun c_4 => ?_)
    ·
      have hie : i = K := lp_eq rfl (by omega) hi c_4
      exact kx92 _ ls (by rw [← hie]; exact hg) (lv_sub hl [1, 2, 3, 4] rfl)
    ·
      have hlt : i < K := lp_lt rfl (by omega) hi c_4
      refine lv_aload_n hx hb dX11_bill_35 rfl (lv_at hl 2 rfl) ?_
      obtain ⟨kk_5, hk_6⟩ := pl_at hI.2.1.1.1 hI.2.2.2.1.1
      refine va_get (D := (dC, dI)) (ci := 10) (v := .ref (d 2)) (C := RX11) (T := TX11) (N := 9) hx hb hts zl_X11_bill_X11 hown hK hP kk_5 hk_6 rfl 2 (by decide) (hts (.fieldLink RX11 20 "PageOne" "items" "[LPageOne$Item;") (zat q_wsX11_bill k_wsX11_bill 114 rfl (by decide +kernel))) (fun _ h9 => h9) rfl dX11_bill_36 ?_
      refine lv_iload hx hb dX11_bill_39 (lv_at hl 0 rfl) ?_
      obtain ⟨g_7, hs_8, hn_9, hg_10⟩ := x_itm hI
      obtain ⟨kk_11, hk_12⟩ := pl_at hI.2.1.2.2.2.1.1 hs_8
      refine va_aldq hx hb hK hP kk_11 3 hk_12 rfl (vp_in_nI (by omega) (by decide)) dX11_bill_41 ?_
      obtain ⟨b_13, hg_14⟩ := hn_9 ((nI i) : Int32).toNatClampNeg (by rw [eK, nI_clamp (by omega), nI_clamp (by omega)]; exact hlt)
      have ht_15 := hg_10 ((nI i) : Int32).toNatClampNeg (vlt (vp_in_nI (by omega) (by decide))) b_13 hg_14
      rw [hg_14]
      refine W.eq (g2 := F0 m 42 ls [.ref b_13]) rfl ?_
      have hb_16 := rI_at hrp.2.2.1 hs_8 (by rw [eKn]; exact hlt) (by rw [nI_clamp (by omega)] at hg_14; exact hg_14)
      subst hb_16
      obtain ⟨rs_17, n_18, g_19, fg_20, hit_21, hs_22, hpa_23, hps_24, h1_25, h6_26, hcb_27, hpl_28, hlg_29, hnn_30, hfa_31, hfs_32, hfe_33, hrs_34, hkt_35⟩ := it_all hI hrp.2.2.1 (by rw [eKn]; exact hlt)
      refine lv_astore (lv' := [(6, .ref (d (2000 + i))), (4, .int (nI i)), (3, .int a), (0, .ref h0), (1, .int p0), (2, .int p1)]) hx hb dX11_bill_42 hl (by decide) rfl (fun ls hl => ?_)
      refine lv_aload hx hb dX11_bill_44 (lv_at hl 0 rfl) ?_
      rcases Classical.em (tg z (d (2000 + i)) 13) with ht9 | ht9
      ·
        have ht_36 := ht9
        have hkd_38 : u.2 4 i = 3 := (kT_k (kd_05 hrp.2.2.1 (by rw [eKn]; exact hlt)).1 (kd_05 hrp.2.2.1 (by rw [eKn]; exact hlt)).2).2.2.2.1 (hkt_35.symm.trans ht_36.2)
        obtain ⟨hx_49, hx_50, hx_51, hx_52, hx_53, hx_54⟩ := hrs_34.2.2.2.1 hkd_38
        have hs_58 : f (d (2000 + i)) = .inr (5, [.int (nI i), .int (u.2 4 i), .ref (d (3000 + i)), .int (u.2 22 i), .ref (d (4000 + i)), .int (u.2 10 i), .int (u.2 14 i), .ref (d (5000 + i)), .ref (d (6000 + i))]) := by rw [hs_22, ht_36.2, hx_49]; rfl
        obtain ⟨kk_59, hk_60⟩ := pl_at ht_36.1 hs_58
        refine va_instS hx hb hown (hts (.classLink RX11 104 "PageOne$Paid") (zat q_wsX11_bill k_wsX11_bill 307 rfl (by decide +kernel))) (hK.1 5 (RX6, TX6, 9) rfl).2 (va_recv hK hP (ci := 5) (q0 := kk_59) rfl hk_60) dX11_bill_46 ?_
        refine lv_if_eq (tgt := 86) hx hb dX11_bill_49 (by decide) (fun c_61 => absurd c_61 (by decide)) (fun c_61 => ?_)
        refine lv_aload hx hb dX11_bill_52 (lv_at hl 0 rfl) ?_
        obtain ⟨kk_62, hk_63⟩ := pl_at ht_36.1 hs_58
        refine va_castS hx hb hown (hts (.classLink RX11 104 "PageOne$Paid") (zat q_wsX11_bill k_wsX11_bill 307 rfl (by decide +kernel))) (hK.1 5 (RX6, TX6, 9) rfl).2 (va_recv hK hP (ci := 5) (q0 := kk_62) rfl hk_63) dX11_bill_54 ?_
        refine lv_astore (lv' := [(5, .ref (d (2000 + i))), (6, .ref (d (2000 + i))), (4, .int (nI i)), (3, .int a), (0, .ref h0), (1, .int p0), (2, .int p1)]) hx hb dX11_bill_57 hl (by decide) rfl (fun ls hl => ?_)
        refine lv_aload hx hb dX11_bill_59 (lv_at hl 0 rfl) ?_
        obtain ⟨kk_64, hk_65⟩ := pl_at ht_36.1 hs_58
        refine va_get (D := (dC, dI)) (ci := 5) (v := .int (u.2 10 i)) (C := RX6) (T := TX6) (N := 9) hx hb hts zl_X11_bill_X6 hown hK hP kk_64 hk_65 rfl 5 (by decide) (hts (.fieldLink RX11 260 "PageOne$Paid" "buyer" "I") (zat q_wsX11_bill k_wsX11_bill 356 rfl (by decide +kernel))) (fun _ h9 => h9) rfl dX11_bill_61 ?_
        refine lv_iload_n hx hb dX11_bill_64 rfl (lv_at hl 5 rfl) ?_
        refine lv_icmp_ne (tgt := 86) hx hb dX11_bill_65 (by decide) (fun c_66 => ?_) (fun c_66 => ?_)
        ·
          refine lv_iinc (v := (nI (i + 1))) (lv' := [(4, .int (nI (i + 1))), (5, .ref (d (2000 + i))), (6, .ref (d (2000 + i))), (3, .int a), (0, .ref h0), (1, .int p0), (2, .int p1)]) hx hb dX11_bill_86 hl (k := 2) rfl (nI_1 i) (by decide) rfl (fun ls hl => ?_)
          refine lv_goto (tgt := 26) hx hb dX11_bill_89 (by decide) ?_
          exact ih (i + 1) _ ls (by omega) (by omega) (by rw [hg]; exact (blS_0 (fun h9 => c_66 h9.2.1)).symm) (lv_sub hl [0, 3, 4, 5, 6] rfl)
        ·
          refine lv_aload_n hx hb dX11_bill_68 rfl (lv_at hl 4 rfl) ?_
          refine lv_aload hx hb dX11_bill_69 (lv_at hl 0 rfl) ?_
          refine lv_iload_n hx hb dX11_bill_71 rfl (lv_at hl 6 rfl) ?_
          obtain ⟨kk_67, hk_68⟩ := pl_at hI.2.1.1.1 hI.2.2.2.1.1
          refine vp_callSi (va_runV (As := [.ref (d (2000 + i)), .int p1]) (rest := []) ⟨hx, hb, hml, hown, hts⟩ (y_wasPrintedOn l dC dI q h0 d k z f hI p1 hd9 u hrp hk0 hk1 hk2 hk3 hpi hsd i (by rw [eKn]; exact hlt) hkd_38) (cwV 2 hts gX11_bill_X11_wasPrintedOn rfl rfl rfl zh_X11_wasPrintedOn_75 ⟨Nat.le_trans (Nat.le_of_ble_eq_true rfl) hRf, Nat.le_trans (Nat.le_of_ble_eq_true rfl) hRl⟩) ⟨px_fb, va_recv hK hP (ci := 10) (q0 := kk_67) rfl hk_68, fun U hU hW => ⟨rfl, px_to hU hW hP hK hN hXN⟩⟩ rfl rfl hl.1 rfl (lv_room (Nat.le_of_ble_eq_true rfl)) dX11_bill_72 ⟨hRc, hRs⟩).run (fun r hw => ?_)
          obtain rfl : r = (bP (wpP u i p1)) := hw
          refine lv_if_eq (tgt := 86) hx hb dX11_bill_75 (by decide) (fun c_69 => ?_) (fun c_69 => ?_)
          ·
            refine lv_iinc (v := (nI (i + 1))) (lv' := [(4, .int (nI (i + 1))), (5, .ref (d (2000 + i))), (6, .ref (d (2000 + i))), (3, .int a), (0, .ref h0), (1, .int p0), (2, .int p1)]) hx hb dX11_bill_86 hl (k := 2) rfl (nI_1 i) (by decide) rfl (fun ls hl => ?_)
            refine lv_goto (tgt := 26) hx hb dX11_bill_89 (by decide) ?_
            exact ih (i + 1) _ ls (by omega) (by omega) (by rw [hg]; exact (blS_0 (fun h9 => bP_0 c_69 h9.2.2)).symm) (lv_sub hl [0, 3, 4, 5, 6] rfl)
          ·
            refine lv_iload_n hx hb dX11_bill_78 rfl (lv_at hl 3 rfl) ?_
            refine lv_aload hx hb dX11_bill_79 (lv_at hl 0 rfl) ?_
            obtain ⟨kk_70, hk_71⟩ := pl_at ht_36.1 hs_58
            refine vp_callSi (va_runV (As := []) (rest := [.int a]) ⟨hx, hb, hml, hown, hts⟩ (y_cost l dC dI q h0 d k z f hI (d (2000 + i)) (d (3000 + i)) (d (4000 + i)) (d (5000 + i)) (d (6000 + i)) (nI i) (u.2 4 i) (u.2 22 i) (u.2 10 i) (u.2 14 i) ht_36 hs_58 none (u.2 11 i) (u.2 12 i) (u.2 13 i) (u.2 7 i) (u.2 8 i) hx_50) (cwV 0 hts gX11_bill_X6_cost rfl rfl rfl zh_X6_cost_76 ⟨Nat.le_trans (Nat.le_of_ble_eq_true rfl) hRf, Nat.le_trans (Nat.le_of_ble_eq_true rfl) hRl⟩) ⟨px_fb, va_recv hK hP (ci := 5) (q0 := kk_70) rfl hk_71, fun U hU hW => ⟨rfl, px_to hU hW hP hK hN hXN⟩⟩ rfl rfl hl.1 rfl (lv_room (Nat.le_of_ble_eq_true rfl)) dX11_bill_81 ⟨hRc, hRs⟩).run (fun r hw => ?_)
            obtain rfl : r = (u.2 7 i * u.2 8 i * u.2 14 i) := hw
            refine lv_iadd hx hb dX11_bill_84 ?_
            refine lv_topi (fun x_72 ex_72 => ?_)
            refine lv_istore_n (lv' := [(3, .int x_72), (5, .ref (d (2000 + i))), (6, .ref (d (2000 + i))), (4, .int (nI i)), (0, .ref h0), (1, .int p0), (2, .int p1)]) hx hb dX11_bill_85 rfl hl (by decide) rfl (fun ls hl => ?_)
            refine lv_iinc (v := (nI (i + 1))) (lv' := [(4, .int (nI (i + 1))), (3, .int x_72), (5, .ref (d (2000 + i))), (6, .ref (d (2000 + i))), (0, .ref h0), (1, .int p0), (2, .int p1)]) hx hb dX11_bill_86 hl (k := 3) rfl (nI_1 i) (by decide) rfl (fun ls hl => ?_)
            refine lv_goto (tgt := 26) hx hb dX11_bill_89 (by decide) ?_
            exact ih (i + 1) _ ls (by omega) (by omega) (by rw [ex_72, hg]; exact (blS_1 ⟨hkd_38, c_66, bP_n c_69⟩).symm) (lv_sub hl [0, 1, 4, 5, 6] rfl)
      ·
        have hn_37 := ht9
        have hkd_38 : ¬ u.2 4 i = 3 := fun e9 => ht9 ⟨hit_21.1, by rw [hkt_35, e9]; rfl⟩
        refine w_then (F0 m 49 ls [.int 0]) (fun hgo => ?_) ?_
        ·
          rcases x_tag hit_21 with ht8 | ht8 | ht8 | ht8 | ht8 | ht8
          ·
            obtain ⟨nu_73, kd_74, cn_75, pa_76, fa_77, l_78, m_79, hs_80, hs_81, hs_82, hs_83⟩ := x_ifl hI ht8
            obtain ⟨kk_84, hk_85⟩ := pl_at ht8.1 hs_80
            exact va_instNo hx hb hown (hts (.classLink RX11 104 "PageOne$Paid") (zat q_wsX11_bill k_wsX11_bill 307 rfl (by decide +kernel))) hXN.n_X2_X6 (va_recv hK hP (ci := 2) (q0 := kk_84) rfl hk_85) dX11_bill_46 hgo
          ·
            obtain ⟨nu_86, kd_87, cn_88, pa_89, fa_90, o_91, w_92, y_93, hs_94, hs_95, hs_96, hs_97, hq_98⟩ := x_ihd hI ht8
            obtain ⟨kk_99, hk_100⟩ := pl_at ht8.1 hs_94
            exact va_instNo hx hb hown (hts (.classLink RX11 104 "PageOne$Paid") (zat q_wsX11_bill k_wsX11_bill 307 rfl (by decide +kernel))) hXN.n_X3_X6 (va_recv hK hP (ci := 3) (q0 := kk_99) rfl hk_100) dX11_bill_46 hgo
          ·
            obtain ⟨nu_101, kd_102, cn_103, pa_104, fa_105, o_106, y_107, hs_108, hs_109, hs_110, hs_111, hq_112⟩ := x_ino hI ht8
            obtain ⟨kk_113, hk_114⟩ := pl_at ht8.1 hs_108
            exact va_instNo hx hb hown (hts (.classLink RX11 104 "PageOne$Paid") (zat q_wsX11_bill k_wsX11_bill 307 rfl (by decide +kernel))) hXN.n_X5_X6 (va_recv hK hP (ci := 4) (q0 := kk_113) rfl hk_114) dX11_bill_46 hgo
          ·
            exact absurd ht8 ht9
          ·
            obtain ⟨nu_115, kd_116, cn_117, pa_118, fa_119, ww_120, hh_121, sz_122, hs_123, hs_124, hs_125, hs_126, hq_127, hq_128, hq_129⟩ := x_ipi hI ht8
            obtain ⟨kk_130, hk_131⟩ := pl_at ht8.1 hs_123
            exact va_instNo hx hb hown (hts (.classLink RX11 104 "PageOne$Paid") (zat q_wsX11_bill k_wsX11_bill 307 rfl (by decide +kernel))) hXN.n_X7_X6 (va_recv hK hP (ci := 6) (q0 := kk_130) rfl hk_131) dX11_bill_46 hgo
          ·
            obtain ⟨nu_132, kd_133, cn_134, pa_135, fa_136, l_137, co_138, wd_139, nm_140, hs_141, hs_142, hs_143, hs_144, hq_145, hq_146, hq_147⟩ := x_ist hI ht8
            obtain ⟨kk_148, hk_149⟩ := pl_at ht8.1 hs_141
            exact va_instNo hx hb hown (hts (.classLink RX11 104 "PageOne$Paid") (zat q_wsX11_bill k_wsX11_bill 307 rfl (by decide +kernel))) hXN.n_X10_X6 (va_recv hK hP (ci := 9) (q0 := kk_148) rfl hk_149) dX11_bill_46 hgo
        ·
          refine lv_if_eq (tgt := 86) hx hb dX11_bill_49 (by decide) (fun c_150 => ?_) (fun c_150 => absurd (by decide) c_150)
          refine lv_iinc (v := (nI (i + 1))) (lv' := [(4, .int (nI (i + 1))), (6, .ref (d (2000 + i))), (3, .int a), (0, .ref h0), (1, .int p0), (2, .int p1)]) hx hb dX11_bill_86 hl (k := 1) rfl (nI_1 i) (by decide) rfl (fun ls hl => ?_)
          refine lv_goto (tgt := 26) hx hb dX11_bill_89 (by decide) ?_
          exact ih (i + 1) _ ls (by omega) (by omega) (by rw [hg]; exact (blS_0 (fun h9 => hkd_38 h9.1)).symm) (lv_sub hl [0, 2, 3, 4, 5] rfl)
noncomputable def mBillX (u : mS) (b dd : Int32) : Int32 := if bw b 0 9 = true then (if bw dd 0 (u.1 38) = true then blS u b dd (u.1 3).toNatClampNeg else (-1)) else (-1)
set_option maxHeartbeats 4000000 in
set_option maxRecDepth 100000 in
theorem y_bill (l : Launch) (dC : Nat → ClassId) (dI : Nat → Nat → Nat) (q : Nat → ClassId) (h0 : Nat) (d : Nat → Nat) (k : Nat → Int32) (z : gS) (f : xF) (hI : xI q h0 d k z f) (p0 p1 : Int32) (u : mS) (hrp : rep q d u z f) (hk0 : k 0 = u.1 3) (hk1 : k 1 = u.1 28) (hk2 : k 2 = u.1 38) (hk3 : k 3 = u.1 39) (hpi : plI u) (hsd : sdI u) : Met l yX11_bill wsX11_bill ({ frames := 5, cells := 0, slots := 0, locals := 110 }) (va_Pc [.ref h0, .int p0, .int p1] (PX dC dI (va_pl z.1 f) (xT q))) (vp_Si (fun r => r = mBillX u p0 p1)) 0 0 (fun _ => False) := by
  refine Met.ofW (cc := cX11_bill) (maxL := 7) (ret := (some .int)) (by decide) rfl ?_
  intro p e s m args below meth c s₁ B hml hv
  obtain ⟨rfl, ⟨hP, hK, hN⟩, hXN⟩ := hv
  have hx := B.exec
  have hb := B.bytes
  have hr := B.returns
  have hts := atoms_spec (ws := wsX11_bill) B.pre
  have hown : s.vm.findClass RX11 = some m.cls := findClass_of_methodNamed B.named
  have hlocks := B.notSynchronized
  have hl := lv_entry ([.ref h0, .int p0, .int p1]) (n := 7) (Nat.le_of_ble_eq_true rfl)
  rw [lg_entry_eq]
  generalize (lg_sl ([.ref h0, .int p0, .int p1]) ++ List.replicate (7 - (lg_sl ([.ref h0, .int p0, .int p1])).length) Slot.unset).toArray = ls at hl ⊢
  have hl : lv_has ls 7 [(0, .ref h0), (1, .int p0), (2, .int p1)] := hl
  refine lv_iload_n hx hb dX11_bill_0 rfl (lv_at hl 1 rfl) ?_
  refine vp_callSi (va_runS (As := [.int p0]) (rest := []) ⟨hx, hb, hml, hown, hts⟩ (x_isBuyer l dC dI p0) (va_cwS 1 hts gX11_bill_X11_isBuyer rfl rfl rfl zh_X11_isBuyer_53 ⟨Nat.le_of_ble_eq_true rfl, Nat.le_of_ble_eq_true rfl⟩) ⟨pw_fb, fun U hU hW => ⟨rfl, pw_to hU hW (hP.sub (ws' := []) [] rfl) (hK.sub (tys' := []) [] rfl) hN⟩⟩ rfl rfl hl.1 rfl (lv_room (Nat.le_of_ble_eq_true rfl)) dX11_bill_1 ⟨Nat.le_of_ble_eq_true rfl, Nat.le_of_ble_eq_true rfl⟩).run (fun r hw => ?_)
  rcases Bool.eq_false_or_eq_true (bw p0 0 9) with b_1 | b_1
  ·
    obtain rfl : r = 1 := b_t hw b_1
    refine lv_if_eq (tgt := 19) hx hb dX11_bill_4 (by decide) (fun c_2 => absurd c_2 (by decide)) (fun c_2 => ?_)
    refine lv_iload_n hx hb dX11_bill_7 rfl (lv_at hl 2 rfl) ?_
    refine lv_iconst (v := 0) hx hb dX11_bill_8 (by decide) ?_
    refine lv_aload_n hx hb dX11_bill_9 rfl (lv_at hl 0 rfl) ?_
    obtain ⟨kk_3, hk_4⟩ := pl_at hI.2.1.1.1 hI.2.2.2.1.1
    refine va_get (D := (dC, dI)) (ci := 10) (v := .int (k 2)) (C := RX11) (T := TX11) (N := 9) hx hb hts zl_X11_bill_X11 hown hK hP kk_3 hk_4 rfl 7 (by decide) (hts (.fieldLink RX11 41 "PageOne" "today" "I") (zat q_wsX11_bill k_wsX11_bill 119 rfl (by decide +kernel))) (fun _ h9 => h9) rfl dX11_bill_10 ?_
    refine vp_callSi (va_runS (As := [.int p1, .int 0, .int (k 2)]) (rest := []) ⟨hx, hb, hml, hown, hts⟩ (x_isWithin l dC dI p1 0 (k 2)) (va_cwS 3 hts gX11_bill_X11_isWithin rfl rfl rfl zh_X11_isWithin_30 ⟨Nat.le_of_ble_eq_true rfl, Nat.le_of_ble_eq_true rfl⟩) ⟨pw_fb, fun U hU hW => ⟨rfl, pw_to hU hW (hP.sub (ws' := []) [] rfl) (hK.sub (tys' := []) [] rfl) hN⟩⟩ rfl rfl hl.1 rfl (lv_room (Nat.le_of_ble_eq_true rfl)) dX11_bill_13 ⟨Nat.le_of_ble_eq_true rfl, Nat.le_of_ble_eq_true rfl⟩).run (fun r hw => ?_)
    rcases Bool.eq_false_or_eq_true (bw p1 0 (k 2)) with b_5 | b_5
    ·
      obtain rfl : r = 1 := b_t hw b_5
      refine lv_if_ne (tgt := 21) hx hb dX11_bill_16 (by decide) (fun c_6 => ?_) (fun c_6 => absurd c_6 (by decide))
      refine lv_iconst (v := 0) hx hb dX11_bill_21 (by decide) ?_
      refine lv_istore_n (lv' := [(3, .int 0), (0, .ref h0), (1, .int p0), (2, .int p1)]) hx hb dX11_bill_22 rfl hl (by decide) rfl (fun ls hl => ?_)
      refine lv_iconst (v := 0) hx hb dX11_bill_23 (by decide) ?_
      refine lv_istore (lv' := [(4, .int 0), (3, .int 0), (0, .ref h0), (1, .int p0), (2, .int p1)]) hx hb dX11_bill_24 hl (by decide) rfl (fun ls hl => ?_)
      have hd9 : bw p1 0 399 = true := by have h1 := bw_iff.mp b_5; have h2 := bw_iff.mp hI.1.2.2; rw [bw_iff]; omega
      obtain ⟨K, hK8, -, eK⟩ := exN hI.1.1 (by decide)
      have h80 : (80 : Int32).toInt = 80 := rfl
      have eKn : (u.1 3).toNatClampNeg = K := by rw [← hk0, eK, nI_clamp (by omega)]
      refine y_bill_l (K := K) hI hx hb hml hts hown hN hXN hK (Nat.le_of_ble_eq_true rfl) (Nat.le_of_ble_eq_true rfl) (Nat.le_of_ble_eq_true rfl) (Nat.le_of_ble_eq_true rfl) hP hrp hk0 hk1 hk2 hk3 (by omega) eK eKn hd9 hpi hsd (fun a9 ls ha9 hl => ?_) (K + 1) 0 _ ls (Nat.zero_le _) (by omega) rfl (lv_sub hl [0, 1, 2, 3, 4] rfl)
      refine lv_iload_n hx hb dX11_bill_92 rfl (lv_at hl 0 rfl) ?_
      exact W.iret (v := a9) hx hb hr (fun t ht hW => ⟨_, rfl, (by unfold mBillX; rw [if_pos b_1, if_pos (by rw [← hk2]; exact b_5), eKn]; exact ha9), ht⟩) (fun q h => absurd h List.not_mem_nil) dX11_bill_93
    ·
      obtain rfl : r = 0 := b_f hw b_5
      refine lv_if_ne (tgt := 21) hx hb dX11_bill_16 (by decide) (fun c_7 => absurd (by decide) c_7) (fun c_7 => ?_)
      refine lv_iconst (v := (-1)) hx hb dX11_bill_19 (by decide) ?_
      exact W.iret (v := (-1)) hx hb hr (fun t ht hW => ⟨_, rfl, (by unfold mBillX; rw [if_neg (show ¬ bw p1 0 (u.1 38) = true from fun h9 => bne b_5 (by rw [hk2]; exact h9))]; split <;> rfl), ht⟩) (fun q h => absurd h List.not_mem_nil) dX11_bill_20
  ·
    obtain rfl : r = 0 := b_f hw b_1
    refine lv_if_eq (tgt := 19) hx hb dX11_bill_4 (by decide) (fun c_8 => ?_) (fun c_8 => absurd (by decide) c_8)
    refine lv_iconst (v := (-1)) hx hb dX11_bill_19 (by decide) ?_
    exact W.iret (v := (-1)) hx hb hr (fun t ht hW => ⟨_, rfl, (by unfold mBillX; rw [if_neg (bne b_1)]), ht⟩) (fun q h => absurd h List.not_mem_nil) dX11_bill_20
/-- whether there is a cell, in plain numbers -/
theorem mC_iff {u : mS} {P x y : Nat} (hP : P < 12) (hx : x < 200) (hy : y < 200) (hl : x < 8 → bw (u.2 0 (8 * P + x)) 0 60 = true) : mCell u (nI P) (nI x) (nI y) = true ↔ x < 8 ∧ y < (u.2 0 (8 * P + x)).toNatClampNeg := by
  have e0 : (8 * nI P + nI x).toNatClampNeg = 8 * P + x := by rw [show (8 : Int32) = nI 8 from rfl, pk_mul, nI_add, nI_clamp (by omega)]
  unfold mCell
  rw [Bool.and_eq_true, Bool.and_eq_true, e0, bw_iff, bw_iff, bw_iff]
  have h11 : (11 : Int32).toInt = 11 := rfl
  have h7 : (7 : Int32).toInt = 7 := rfl
  have h60 : (60 : Int32).toInt = 60 := rfl
  rw [nI_toInt (n := P) (by omega), nI_toInt (n := x) (by omega), nI_toInt (n := y) (by omega), i0, h11, h7]
  constructor
  · rintro ⟨⟨-, h2⟩, h3⟩
    have h8 : x < 8 := by omega
    refine ⟨h8, ?_⟩
    obtain ⟨l1, l2, l3⟩ := nI_of_bw (hl h8)
    have l4 := bw_iff.mp (hl h8)
    rw [i0, h60] at l4
    rw [subI (by rw [i1]; omega) (by rw [i1]; omega), i1] at h3
    omega
  · rintro ⟨h8, h3⟩
    obtain ⟨l1, l2, l3⟩ := nI_of_bw (hl h8)
    have l4 := bw_iff.mp (hl h8)
    rw [i0, h60] at l4
    rw [subI (by rw [i1]; omega) (by rw [i1]; omega), i1]
    omega
theorem frB_iff {u : mS} {p x y : Int32} : frB u p x y = true ↔ mCellAt u p x y = (-2) := by
  unfold frB
  rw [Bool.and_eq_true, decide_eq_true_iff]
  constructor
  · rintro ⟨h1, h2⟩; unfold mCellAt; rw [if_pos h1, h2]
  · intro h; exact mCA h
theorem fr_rIn {u : mS} {P : Nat} {c l w h : Int32} (hP : P < 12) (hl : ∀ a, a < 8 → bw (u.2 0 (8 * P + a)) 0 60 = true) (hf : mFreeP u (nI P) c l w h) : ∃ X Y D N, c = nI X ∧ l = nI Y ∧ w = nI D ∧ h = nI N ∧ rIn u P X Y D N ∧ ∀ a b, a < D → b < N → u.2 2 (480 * P + 60 * (X + a) + (Y + b)) = (-2) := by
  obtain ⟨h1, h2, h3, h4⟩ := hf
  have h7 : (7 : Int32).toInt = 7 := rfl
  have h8 : (8 : Int32).toInt = 8 := rfl
  have h60 : (60 : Int32).toInt = 60 := rfl
  obtain ⟨c1, c2, c3⟩ := mCell_c h1
  obtain ⟨X, hX, -, rfl⟩ := exN c2 (by decide)
  have e0 : (8 * nI P + nI X).toNatClampNeg = 8 * P + X := by rw [show (8 : Int32) = nI 8 from rfl, pk_mul, nI_add, nI_clamp (by omega)]
  rw [e0] at c3
  obtain ⟨Y, hY, -, rfl⟩ := exN (b59 (hl X (by omega)) c3) (by decide)
  have h59 : (59 : Int32).toInt = 59 := rfl
  obtain ⟨D, hD, hD1, rfl⟩ := exN h2 (by decide)
  obtain ⟨N, hN, hN1, rfl⟩ := exN h3 (by decide)
  rw [i1] at hD1 hN1
  rw [nI_clamp (n := D) (by omega), nI_clamp (n := N) (by omega)] at h4
  have cc : ∀ a b, a < D → b < N → X + a < 8 ∧ Y + b < (u.2 0 (8 * P + (X + a))).toNatClampNeg ∧ u.2 2 (480 * P + 60 * (X + a) + (Y + b)) = (-2) := fun a b ha hb => by
    have q := h4 a ha b hb
    rw [nI_add, nI_add, frB_iff] at q
    obtain ⟨q1, q2⟩ := mCA q
    have q3 := (mC_iff hP (by omega) (by omega) (fun h => hl _ h)).mp q1
    refine ⟨q3.1, q3.2, ?_⟩
    have h5 := hl (X + a) q3.1
    obtain ⟨l1, l2, l3⟩ := nI_of_bw h5
    rw [idxN hP q3.1 (by omega), nI_clamp (by omega)] at q2
    exact q2
  refine ⟨X, Y, D, N, rfl, rfl, rfl, rfl, ⟨hP, ?_, by omega, ?_, by omega, fun a ha => ?_⟩, fun a b ha hb => (cc a b ha hb).2.2⟩
  · have := (cc (D - 1) 0 (by omega) (by omega)).1; omega
  · have q := (cc 0 (N - 1) (by omega) (by omega))
    obtain ⟨l1, l2, l3⟩ := nI_of_bw (hl (X + 0) q.1)
    have := q.2.1
    omega
  · have := (cc a (N - 1) ha (by omega)).2.1; omega
theorem fr_iff {gl gc : Nat → Int32} {u : mS} {P : Nat} {c l w h : Int32} (hP : P < 12) (el : eqR 8 gl (u.2 0) (8 * P)) (ec : eqR 480 gc (u.2 2) (480 * P)) (hgb : ∀ j, j < 8 → bw (gl j) 0 60 = true) : shFr gl gc c l w h ↔ mFreeP u (nI P) c l w h := by
  have hl : ∀ a, a < 8 → bw (u.2 0 (8 * P + a)) 0 60 = true := fun a ha => by rw [← el a ha]; exact hgb a ha
  constructor
  · rintro ⟨h1, h2, h3, h4⟩
    obtain ⟨w1, w2⟩ := ban h1
    have hw : 0 < w.toNatClampNeg := by
      obtain ⟨D, hD, hD1, rfl⟩ := exN w1 (by decide)
      have h8 : (8 : Int32).toInt = 8 := rfl
      rw [i1] at hD1
      rw [nI_clamp (by omega)]; omega
    have hh : 0 < h.toNatClampNeg := by
      obtain ⟨D, hD, hD1, rfl⟩ := exN w2 (by decide)
      have h8 : (60 : Int32).toInt = 60 := rfl
      rw [i1] at hD1
      rw [nI_clamp (by omega)]; omega
    have q : ∀ a, a < w.toNatClampNeg → ∀ b, b < h.toNatClampNeg → frB u (nI P) (c + nI a) (l + nI b) = true := fun a ha b hb => by
      rw [frB_iff, ← shAt_eq hP el ec hgb]; exact h4 a ha b hb
    have q0 := q 0 hw 0 hh
    rw [show nI 0 = (0 : Int32) from rfl, Int32.add_zero, Int32.add_zero] at q0
    refine ⟨?_, w1, w2, q⟩
    unfold frB at q0
    exact (ban q0).1
  · intro hf
    obtain ⟨X, Y, D, N, rfl, rfl, rfl, rfl, ⟨r1, r2, r3, r4, r5, r6⟩, -⟩ := fr_rIn hP hl hf
    obtain ⟨h1, h2, h3, h4⟩ := hf
    have e60 : (60 : Int32).toInt = 60 := rfl
    refine ⟨by rw [h2, h3]; rfl, (mCell_c h1).2.1, ?_, fun a ha b hb => ?_⟩
    · rw [bw_iff, i0, nI_toInt (by omega), show (60 : Int32) = nI 60 from rfl, nI_sb (i := 60) (r := N) (by omega) (by omega), nI_toInt (by omega)]
      omega
    · rw [shAt_eq hP el ec hgb]
      exact frB_iff.mp (h4 a ha b hb)
theorem kd6 {k : Int32} (h0 : 0 ≤ k) (h5 : k ≤ 5) : k = 0 ∨ k = 1 ∨ k = 2 ∨ k = 3 ∨ k = 4 ∨ k = 5 := by
  have h9 := kT_r k
  have h8 := kT_k h0 h5
  rcases (show kT k = 15 ∨ kT k = 11 ∨ kT k = 14 ∨ kT k = 13 ∨ kT k = 10 ∨ kT k = 12 by omega) with e | e | e | e | e | e
  · exact Or.inl (h8.1 e)
  · exact Or.inr (Or.inl (h8.2.1 e))
  · exact Or.inr (Or.inr (Or.inl (h8.2.2.1 e)))
  · exact Or.inr (Or.inr (Or.inr (Or.inl (h8.2.2.2.1 e))))
  · exact Or.inr (Or.inr (Or.inr (Or.inr (Or.inl (h8.2.2.2.2.1 e)))))
  · exact Or.inr (Or.inr (Or.inr (Or.inr (Or.inr (h8.2.2.2.2.2 e)))))
/-- a piece's columns and lines, as the class has them -/
def cpW (u : mS) (i : Nat) (how : Int32) : Int32 := if u.2 4 i = 1 ∨ u.2 4 i = 3 then (if how = 0 then u.2 7 i else 0) else if u.2 4 i = 2 then (if bw how 0 (u.2 17 i - 1) = true then u.2 18 (4 * i + how.toNatClampNeg) else 0) else 1
def cpH (u : mS) (i : Nat) (how : Int32) : Int32 := if u.2 4 i = 0 then (if bw how 1 60 = true then how else 0) else if u.2 4 i = 2 then (if bw how 0 (u.2 17 i - 1) = true then u.2 19 (4 * i + how.toNatClampNeg) else 0) else if u.2 4 i = 4 then (if bw how (u.2 5 i) (u.2 6 i) = true then how else 0) else (if how = 0 then u.2 8 i else 0)
/-- what maySit answers -/
def stV (u : mS) (i : Nat) (P X Y W H v : Int32) : Prop := (u.2 4 i = 0 → ∃ gw, eqR 80 gw (u.2 16) (80 * i) ∧ v = s_sitS P X Y W H (u.2 1 P.toNatClampNeg) (u.2 22 i) (u.2 15 i) (pR u i) gw) ∧ (u.2 4 i = 3 → v = s_sitP P X Y W H (u.2 11 i) (u.2 12 i) (u.2 13 i) (u.2 7 i) (u.2 8 i)) ∧ (u.2 4 i = 5 → ∃ o g gm, o < (u.1 3).toNatClampNeg ∧ u.2 9 i = nI o ∧ eqR 5 g (u.2 47) (5 * i) ∧ eqR 5 gm (u.2 47) (5 * o) ∧ v = s_sitN P X (u.1 38) g gm) ∧ (u.2 4 i = 1 ∨ u.2 4 i = 2 ∨ u.2 4 i = 4 → v = 1)
def rmP (u : mS) (i : Nat) : Prop := (u.2 22 i).toNatClampNeg < (if u.2 4 i = 0 then 6 else 1)
/-- why put refuses -/
def pNo (u : mS) (p0 p1 p2 p3 p4 : Int32) : Prop := ¬ bw p0 0 (u.1 3 - 1) = true ∨ ¬ bw p1 0 11 = true ∨ u.1 28 = 300 ∨ ∃ i, p0 = nI i ∧ i < (u.1 3).toNatClampNeg ∧ (¬ rmP u i ∨ ¬ mFreeP u p1 p2 p3 (cpW u i p4) (cpH u i p4) ∨ stV u i p1 p2 p3 (cpW u i p4) (cpH u i p4) 0)
/-- where put puts -/
def pYe (u : mS) (p0 p1 p2 p3 p4 : Int32) (i P X Y D N : Nat) : Prop := p0 = nI i ∧ i < (u.1 3).toNatClampNeg ∧ p1 = nI P ∧ p2 = nI X ∧ p3 = nI Y ∧ cpW u i p4 = nI D ∧ cpH u i p4 = nI N ∧ ¬ u.1 28 = 300 ∧ rIn u P X Y D N ∧ rmP u i ∧ mFreeP u p1 p2 p3 (cpW u i p4) (cpH u i p4) ∧ (∃ v, ¬ v = 0 ∧ stV u i p1 p2 p3 (cpW u i p4) (cpH u i p4) v) ∧ ∀ a b, a < D → b < N → u.2 2 (480 * P + 60 * (X + a) + (Y + b)) = (-2)
/-- what put leaves -/
def putP (q : Nat → ClassId) (h0 : Nat) (d : Nat → Nat) (k : Nat → Int32) (z : gS) (f : xF) (u : mS) (p0 p1 p2 p3 p4 : Int32) (r : Int32) (w : xU) : Prop := (pNo u p0 p1 p2 p3 p4 ∧ actP q h0 d k z f ((-1 : Int32), u) (fun _ => False) r w) ∨ ∃ i P X Y D N, pYe u p0 p1 p2 p3 p4 i P X Y D N ∧ actP q h0 d k z f (u.2 22 i + 1, mActs (mStand u (nI i) P X Y D N) 0 (nI i) 0 0 0 0 0) (fun e => e = (0, i, (P, X, Y, D, N), [])) r w
theorem put_fin {q h0 d k u z f z9 f9 k9} {i a b P X Y D N : Nat} {fc : xF} (hk1 : k 1 = u.1 28) (hi8 : i < 80) (hE : zE z z9) (hI9 : xI q h0 d k9 z9 f9) (hrp9 : rep q d (mStand u (nI i) P X Y D N) z9 f9) (h3m : fc (d 3) = f (d 3)) (hkc : k9 = kup k 1 (k 1 + 1)) (hk3 : ∃ g, fc (d 3) = aR (q 4) 300 g ∧ f9 (d 3) = aR (q 4) 300 (va_up g (k 1).toNatClampNeg (some a))) (hac : acS z9 a b 0 1 none) (hpc : pcS z9 b (some (d (2000 + i))) (nI P) (nI X) (nI Y) (nI D) (nI N)) : actP q h0 d k z f (u.2 22 i + 1, mActs (mStand u (nI i) P X Y D N) 0 (nI i) 0 0 0 0 0) (fun e => e = (0, i, (P, X, Y, D, N), [])) ((mStand u (nI i) P X Y D N).2 22 i) (k9, z9, f9) := by
  obtain ⟨g, g1, g2⟩ := hk3
  refine ⟨hE, hI9, ?_, rep_rows hrp9 rfl (fun r hr => mActs_k _ _ _ _ _ _ _ _ (by omega)), fun j hj => by rw [hkc]; exact kup_o hj, ?_, Or.inr ⟨g, a, _, by rw [← h3m]; exact g1, g2, by show k9 1 = _; rw [hkc, kup_s], ?_, rfl⟩⟩
  · rw [mStand_gU, mput_other (by decide), gU_22, nI_clamp (by omega), if_pos rfl]
  · show k9 1 = u.1 28 + 1
    rw [hkc, kup_s, hk1]
  · exact Or.inl ⟨rfl, b, hac, hpc⟩
