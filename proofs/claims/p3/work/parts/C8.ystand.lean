theorem gU_mput (u : mS) (S : Nat → Int32) (i : Int32) (P X Y D N : Nat) {r : Nat} (h : r ≠ 2) : (gU (mput u 2 S) i P X Y D N).2 r = (gU u i P X Y D N).2 r := by
  have hm : ∀ r, r ≠ 2 → (mput u 2 S).2 r = u.2 r := fun r hr => mput_other hr
  by_cases h1 : r < 22 ∨ 27 < r
  · rw [gU_k _ _ _ _ _ _ _ h1, gU_k _ _ _ _ _ _ _ h1, hm r h]
  · funext j
    obtain ⟨p1, p2, p3, p4, p5⟩ := gU_p (mput u 2 S) i P X Y D N j
    obtain ⟨q1, q2, q3, q4, q5⟩ := gU_p u i P X Y D N j
    rcases (show r = 22 ∨ r = 23 ∨ r = 24 ∨ r = 25 ∨ r = 26 ∨ r = 27 by omega) with e | e | e | e | e | e <;> subst e
    · rw [gU_22, gU_22, hm 22 (by decide)]
    · rw [p1, q1, hm 22 (by decide), hm 23 (by decide)]
    · rw [p2, q2, hm 22 (by decide), hm 24 (by decide)]
    · rw [p3, q3, hm 22 (by decide), hm 25 (by decide)]
    · rw [p4, q4, hm 22 (by decide), hm 26 (by decide)]
    · rw [p5, q5, hm 22 (by decide), hm 27 (by decide)]
theorem rep_std {q d u z f} {i : Int32} {P X Y D N : Nat} (h : rep q d (gU (mput u 2 (setR (u.2 2) P X Y N i D)) i P X Y D N) z f) : rep q d (mStand u i P X Y D N) z f := by
  have e : ∀ r, (mStand u i P X Y D N).2 r = (gU (mput u 2 (setR (u.2 2) P X Y N i D)) i P X Y D N).2 r := fun r => by
    by_cases h2 : r = 2
    · subst h2
      rw [mStand_2, gU_k _ _ _ _ _ _ _ (by decide)]; rfl
    · rw [gU_mput _ _ _ _ _ _ _ _ h2, mStand_gU, mput_other h2]
  exact rep_ext h rfl (fun r _ => e r) (fun r _ _ j _ t _ => by rw [e r])
theorem rep_ust {q d u z f} {i : Int32} {P X Y D N : Nat} (h : rep q d (lU (mput u 2 (setR (u.2 2) P X Y N (-2) D)) i) z f) : rep q d (mUnstand u i P X Y D N) z f := by
  have e : ∀ r, (mUnstand u i P X Y D N).2 r = (lU (mput u 2 (setR (u.2 2) P X Y N (-2) D)) i).2 r := fun r => by
    by_cases h2 : r = 2
    · subst h2
      rw [mUnstand_2]
      unfold lU
      rw [mst_other (by decide)]; rfl
    · rw [mUnstand_lU, mput_other h2]
      unfold lU
      funext j
      by_cases h3 : r = 22
      · subst h3
        rw [mst_at, mst_at]; rfl
      · rw [mst_other h3, mst_other h3, mput_other h2]
  exact rep_ext h rfl (fun r _ => e r) (fun r _ _ j _ t _ => by rw [e r])
theorem gain_3 {q z f} {a pa fa b0 n x : Nat} {nu kd cn : Int32} {rs : List Value} {g : Nat → Option Nat} (h1 : x ≠ a) (h2 : x ≠ pa) : s_gain_f q z f a pa fa b0 n nu kd cn rs g x = f x := by
  unfold s_gain_f
  split
  · rfl
  · rw [up_o h1, up_o h2]
theorem lose_3 {q z f} {a pa fa n x : Nat} {nu kd cn : Int32} {rs : List Value} {g : Nat → Option Nat} (h1 : x ≠ a) (h2 : x ≠ pa) : s_lose_f q z f a pa fa n nu kd cn rs g x = f x := by
  unfold s_lose_f
  split
  · rfl
  · rw [up_o h2, up_o h1]
theorem nIm1 {a : Nat} (h : a < 80) : ¬ nI a = (-1) := fun e => by
  have := congrArg Int32.toInt e
  rw [nI_toInt (by omega), show (-1 : Int32).toInt = -1 from rfl] at this
  omega
theorem hrmL {c : Int32} {n m : Nat} (h6 : n ≤ 6) (h : bw c 0 (nI n) = true) (e : n = m) (hm : c.toNatClampNeg < m) : c < nI n := by
  obtain ⟨e1, e2⟩ := cnN h6 h
  rw [i32_lt, e1, nI_toInt (by omega), nI_toInt (by omega)]
  omega
theorem posL {c : Int32} {n : Nat} (h6 : n ≤ 6) (h : bw c 0 (nI n) = true) (hm : 0 < c.toNatClampNeg) : ¬ c ≤ 0 := by
  obtain ⟨e1, e2⟩ := cnN h6 h
  rw [i32_le, e1, nI_toInt (by omega), i0]
  omega
set_option maxHeartbeats 4000000 in
set_option maxRecDepth 100000 in
theorem y_standI (l : Launch) (dC : Nat → ClassId) (dI : Nat → Nat → Nat) (q : Nat → ClassId) (h0 : Nat) (d : Nat → Nat) (k : Nat → Int32) (z : gS) (f : xF) (hI : xI q h0 d k z f) (b0 P X Y D N : Nat) (u : mS) (hrp : rep q d u z f) (hk0 : k 0 = u.1 3) (hk1 : k 1 = u.1 28) (hk2 : k 2 = u.1 38) (hk3 : k 3 = u.1 39) (hP9 : P < 12) (hX : X + D ≤ 8) (hD1 : 1 ≤ D) (hY : Y + N ≤ 60) (hin : ∀ a, a < D → Y + N ≤ (u.2 0 (8 * P + (X + a))).toNatClampNeg) (hne : ∀ j, j < 5760 → ¬ u.2 2 j = (-1)) (i0 : Nat) (hi0 : i0 < (u.1 3).toNatClampNeg) (hpc : pcS z b0 (some (d (2000 + i0))) (nI P) (nI X) (nI Y) (nI D) (nI N)) (hrm : (u.2 22 i0).toNatClampNeg < (if u.2 4 i0 = 0 then 6 else 1)) (sz : Nat) : Met l yX11_stand wsX11_stand ({ frames := 4, cells := 0, slots := 0, locals := 88 }) (va_Pc [.ref h0, .ref b0] (fun U => U.heap.size = sz ∧ PX dC dI (va_pl z.1 f) (xT q) U ∧ va_D (fun _ => True) (va_pl z.1 f))) (va_Qv (fun (w : xU) => w.1 = k ∧ w.2.1 = z ∧ xI q h0 d k z w.2.2 ∧ rep q d (mStand u (nI i0) P X Y D N) z w.2.2 ∧ w.2.2 (d 3) = f (d 3)) (fun (w : xU) t => va_P (dC, dI) vwCl (va_pl w.2.1.1 w.2.2) t.heap ∧ va_D (va_A (va_pl z.1 f) sz) (va_pl w.2.1.1 w.2.2)) (va_A (va_pl z.1 f) sz)) 0 0 (va_A (va_pl z.1 f) sz) := by
  refine Met.ofW (cc := cX11_stand) (maxL := 2) (ret := none) (by decide) rfl ?_
  intro p e s m args below meth c s₁ B hml hv
  obtain ⟨rfl, hsz, ⟨⟨hP, hK, hN⟩, hXN⟩, hD0⟩ := hv
  have hx := B.exec
  have hb := B.bytes
  have hr := B.returns
  have hts := atoms_spec (ws := wsX11_stand) B.pre
  have hown : s.vm.findClass RX11 = some m.cls := findClass_of_methodNamed B.named
  have hlocks := B.notSynchronized
  subst hsz
  have hD := hD0.self (sz := s.heap.size)
  generalize hAe : va_A (va_pl z.1 f) s.heap.size = A at hD ⊢
  have hA : ∀ q : Nat, s.heap.size ≤ q → A q := fun q h => by rw [← hAe]; exact Or.inr h
  have hS : va_S A s.heap s.heap [] := va_S.rf
  have hl := lv_entry ([.ref h0, .ref b0]) (n := 2) (Nat.le_of_ble_eq_true rfl)
  rw [lg_entry_eq]
  generalize (lg_sl ([.ref h0, .ref b0]) ++ List.replicate (2 - (lg_sl ([.ref h0, .ref b0])).length) Slot.unset).toArray = ls at hl ⊢
  have hl : lv_has ls 2 [(0, .ref h0), (1, .ref b0)] := hl
  have hlgb := lg_of hpc ⟨b7n (by omega), b60n (by omega), bwN (by have e8 : (8 : Int32).toInt = 8 := rfl; rw [e8]; omega) (by omega), b60n (by omega)⟩
  obtain ⟨rs_1, n_2, g_3, fg_4, hit_5, hs_6, hpa_7, hps_8, h1_9, h6_10, hcb_11, hpl_12, hlg_13, hnn_14, hfa_15, hfs_16, hfe_17, hrs_18, hkt_19⟩ := it_all hI hrp.2.2.1 hi0
  have hi8 : i0 < 80 := by have := w80i hI.1.1 hk0; omega
  refine lv_aload_n hx hb dX11_stand_0 rfl (lv_at hl 0 rfl) ?_
  obtain ⟨kk_20, hk_21⟩ := pl_at hI.2.1.1.1 hI.2.2.2.1.1
  refine va_get (D := (dC, dI)) (ci := 10) (v := .ref (d 0)) (C := RX11) (T := TX11) (N := 9) hx hb hts (by decide +kernel) hown hK hP kk_20 hk_21 rfl 0 (by decide) (hts (.fieldLink RX11 11 "PageOne" "pages" "[LPageOne$Sheet;") (by decide +kernel)) (fun _ h9 => h9) rfl dX11_stand_1 ?_
  refine lv_aload_n hx hb dX11_stand_4 rfl (lv_at hl 1 rfl) ?_
  obtain ⟨kk_22, hk_23⟩ := pl_at hpc.1.1 (x_pcF hI hpc)
  refine va_get (D := (dC, dI)) (ci := 7) (v := .int (nI P)) (C := RX8) (T := TX8) (N := 6) hx hb hts (by decide +kernel) hown hK hP kk_22 hk_23 rfl 1 (by decide) (hts (.fieldLink RX11 229 "PageOne$Piece" "page" "I") (by decide +kernel)) (fun _ h9 => h9) rfl dX11_stand_5 ?_
  obtain ⟨g_24, hs_25, hg_26⟩ := x_pg hI hI.2.1.2.1
  obtain ⟨kk_27, hk_28⟩ := pl_at hI.2.1.2.1.1 hs_25
  refine va_aldq hx hb hK hP kk_27 2 hk_28 rfl (vp_in_nI hP9 (by decide)) dX11_stand_8 ?_
  obtain ⟨b_29, hg_30, ht_31⟩ := hg_26 _ (vlt (vp_in_nI hP9 (by decide)))
  rw [hg_30]
  refine W.eq (g2 := F0 m 9 ls [.ref b_29]) rfl ?_
  have hb_32 := pg_at hrp.1 hs_25 hP9 (by rw [nI_clamp (by omega)] at hg_30; exact hg_30)
  subst hb_32
  obtain ⟨dd_33, ii_34, gl_35, gc_36, ht_37, ht_38, ht_39, hs_40, hg_41, hgb_42, hc_43, el_44, ec_45⟩ := pg_all hI hrp.1 hP9
  refine lv_aload_n hx hb dX11_stand_9 rfl (lv_at hl 1 rfl) ?_
  refine lv_aload_n hx hb dX11_stand_10 rfl (lv_at hl 1 rfl) ?_
  obtain ⟨kk_46, hk_47⟩ := pl_at hpc.1.1 (x_pcF hI hpc)
  refine vp_callSi (va_runV (As := []) (rest := [.ref b0, .ref (d (10 + P))]) ⟨hx, hb, hml, hown, hts⟩ (y_signS l dC dI q h0 d k z f hI b0 (d (2000 + i0)) (nI P) (nI X) (nI Y) (nI D) (nI N) hpc hit_5 (nI i0) (u.2 4 i0) (u.2 22 i0) (d (3000 + i0)) (d (4000 + i0)) rs_1 hs_6) (cwV 0 hts gX11_stand_X8_sign rfl rfl rfl (by decide +kernel) ⟨Nat.le_of_ble_eq_true rfl, Nat.le_of_ble_eq_true rfl⟩) ⟨px_fb, va_recv hK hP (ci := 7) (q0 := kk_46) rfl hk_47, fun U hU hW => ⟨rfl, px_to hU hW hP hK hN hXN⟩⟩ rfl rfl hl.1 rfl (lv_room (Nat.le_of_ble_eq_true rfl)) dX11_stand_11 ⟨Nat.le_of_ble_eq_true rfl, Nat.le_of_ble_eq_true rfl⟩).run (fun r hw => ?_)
  obtain rfl : r = nI i0 := hw
  obtain ⟨kk_48, hk_49⟩ := pl_at ht_37.1 hs_40
  have hFc := fr_all hD hS hA
  refine va_callv (va_runV (As := [.ref b0, .int (nI i0)]) (rest := []) ⟨hx, hb, hml, hown, hts⟩ (y_mark l dC dI q h0 d k z f hI (d (10 + P)) (d (30 + P)) (d (50 + P)) (u.2 1 P) dd_33 ii_34 gl_35 gc_36 ht_37 hs_40 ht_38 ht_39 hg_41 hgb_42 hc_43 (nI i0) b0 (some (d (2000 + i0))) (nI P) X Y D N hpc (by omega) (by omega) (by omega) (by omega) hX (fun a ha => by rw [el_44 (X + a) (by omega)]; exact hin a ha) (fun j hj => by rw [ec_45 j hj]; exact hne _ (by omega)) (nIm1 hi8) s.heap.size) (cwV 2 hts gX11_stand_X9_mark rfl rfl rfl (by decide +kernel) ⟨Nat.le_of_ble_eq_true rfl, Nat.le_of_ble_eq_true rfl⟩) ⟨gx_fb, va_recv hK hP (ci := 8) (q0 := kk_48) rfl hk_49, fun U hU hW => ⟨rfl, by rw [hU], px_to hU hW hP hK hN hXN, hD.weaken (fun _ _ _ _ => trivial)⟩⟩ rfl rfl hl.1 rfl (lv_room (Nat.le_of_ble_eq_true rfl)) dX11_stand_14 ⟨Nat.le_of_ble_eq_true rfl, Nat.le_of_ble_eq_true rfl⟩) hS (fun q _ h => hFc q h) hFc (fun w_50 t H1 locs ht hvm hw hB hz1 hk1 hS => ?_)
  obtain ⟨hP, hD1⟩ := hB
  rw [ht] at hP
  rw [hw.2.1] at hP hD1
  have hD := hD1.weaken (fun _ q _ h => hFc q.1 h)
  have hI := hw.2.2.1
  have hw0 := hw
  generalize w_50.2.2 = f_51 at hP hD hI hw0
  generalize H1 = H at hP hS ⊢
  obtain ⟨u2, eu2⟩ : ∃ y : mS, y = mput u 2 (setR (u.2 2) P X Y N (nI i0) D) := ⟨_, rfl⟩
  have hrp2 : rep q d u2 z f_51 := by rw [eu2, hw0.2.2.2]; exact rep_mark hrp hP9 hX hY hc_43
  have h3m : f_51 (d 3) = f (d 3) := by rw [hw0.2.2.2]; exact up_o (tg_ne hrp.2.2.2.2.2.2.2.1.1 ht_39 (by decide))
  have hI2 := hI
  have hi2 : i0 < (u2.1 3).toNatClampNeg := by rw [eu2]; exact hi0
  obtain ⟨rs_52, n_53, g_54, fg_55, hit_56, hs_57, hpa_58, hps_59, h1_60, h6_61, hcb_62, hpl_63, hlg_64, hnn_65, hfa_66, hfs_67, hfe_68, hrs_69, hkt_70⟩ := it_all hI hrp2.2.2.1 hi2
  refine lv_aload_n hx hb dX11_stand_17 rfl (lv_at hl 1 rfl) ?_
  obtain ⟨kk_71, hk_72⟩ := pl_at hpc.1.1 (x_pcF hI hpc)
  refine va_get (D := (dC, dI)) (ci := 7) (v := .ref (d (2000 + i0))) (C := RX8) (T := TX8) (N := 6) hx hb hts (by decide +kernel) hown hK hP kk_71 hk_72 rfl 0 (by decide) (hts (.fieldLink RX11 304 "PageOne$Piece" "item" "LPageOne$Item;") (by decide +kernel)) (fun _ h9 => h9) rfl dX11_stand_18 ?_
  refine lv_ifnull hx hb dX11_stand_21 ?_
  refine lv_aload_n hx hb dX11_stand_24 rfl (lv_at hl 1 rfl) ?_
  obtain ⟨kk_73, hk_74⟩ := pl_at hpc.1.1 (x_pcF hI hpc)
  refine va_get (D := (dC, dI)) (ci := 7) (v := .ref (d (2000 + i0))) (C := RX8) (T := TX8) (N := 6) hx hb hts (by decide +kernel) hown hK hP kk_73 hk_74 rfl 0 (by decide) (hts (.fieldLink RX11 304 "PageOne$Piece" "item" "LPageOne$Item;") (by decide +kernel)) (fun _ h9 => h9) rfl dX11_stand_25 ?_
  refine lv_aload_n hx hb dX11_stand_28 rfl (lv_at hl 1 rfl) ?_
  have hFc := fr_all hD hS hA
  refine w_cut (X := fun R cells slots Q args => ∀ (w9 : xU) (H : Heap) (locs : List Loc), (w9.1 = k ∧ w9.2.1 = z ∧ xI q h0 d k z w9.2.2 ∧ w9.2.2 = s_gain_f q z f_51 (d (2000 + i0)) (d (3000 + i0)) (d (4000 + i0)) b0 n_53 (nI i0) (u2.2 4 i0) (u2.2 22 i0) rs_52 g_54) → va_P (dC, dI) vwCl (va_pl w9.2.1.1 w9.2.2) H → va_D A (va_pl w9.2.1.1 w9.2.2) → va_S A s.heap H locs → W p l e R s m args below meth c H locs (cells + 0) (slots + 0) Q (F0 m 32 ls ([]))) ?_ (fun kC => ?_)
  ·
    intro w_75 H locs hw hP hD hS
    rw [hw.2.1] at hP hD
    have hI := hw.2.2.1
    have hw0 := hw
    generalize w_75.2.2 = f_171 at hP hD hI hw0
    exact W.vret hx hb hr (fun t ht hW => ⟨⟨(k, z, f_171), rfl, ⟨rfl, rfl, hI, by subst eu2; rw [hw0.2.2.2]; unfold s_gain_f; rw [if_neg (fun h9 => bP_0 h9 (hrmL h6_61 hcb_62 hnn_65 hrm))]; exact rep_std (rep_gain hI2 hrp2 (by show bw (u.1 3) 0 80 = true; rw [← hk0]; exact hI.1.1) hi0 hnn_65 hs_57 hps_59 hcb_62 (by rw [hnn_65]; exact hrm) hpc), by show f_171 (d 3) = f (d 3); rw [hw0.2.2.2, gain_3 (Ne.symm (itm_ne hit_56 hrp.2.2.2.2.2.2.2.1.1 (by decide))) (tg_ne hrp.2.2.2.2.2.2.2.1.1 hpa_58 (by decide))]; exact h3m⟩, by rw [ht]; exact hP, hD⟩, hS.F ht⟩) hS.2.2 dX11_stand_32
  ·
    rcases x_tag hit_56 with ht9 | ht9 | ht9 | ht9 | ht9 | ht9
    ·
      obtain ⟨nu_76, kd_77, cn_78, pa_79, fa_80, l_81, m_82, hs_83, hs_84, hs_85, hs_86⟩ := x_ifl hI ht9
      obtain ⟨kk_87, hk_88⟩ := pl_at ht9.1 hs_83
      exact va_callv (va_runU (As := [.ref b0]) (rest := []) ⟨hx, hb, hml, hown, hts⟩ (y_gain l dC dI q h0 d k z f_51 hI (d (2000 + i0)) hit_56 (nI i0) (u2.2 4 i0) (u2.2 22 i0) (d (3000 + i0)) (d (4000 + i0)) rs_52 hs_57 n_53 g_54 hpa_58 hps_59 h1_60 h6_61 hcb_62 (fun j hj => by obtain ⟨b9, it9, e9, -⟩ := hpl_63 j hj; exact ⟨b9, e9⟩) hlg_64 b0 hlgb H.size) (va_cwU 1 hts gX11_stand_X4_gain_u307X2 rfl rfl rfl rfl (by decide +kernel) ⟨Nat.le_of_ble_eq_true rfl, Nat.le_of_ble_eq_true rfl⟩) ⟨gx_fb, va_recv hK hP (ci := 2) (q0 := kk_87) rfl hk_88, fun U hU hW => ⟨rfl, by rw [hU], px_to hU hW hP hK hN hXN, hD.weaken (fun _ _ _ _ => trivial)⟩⟩ rfl rfl hl.1 rfl (lv_room (Nat.le_of_ble_eq_true rfl)) dX11_stand_29 ⟨Nat.le_of_ble_eq_true rfl, Nat.le_of_ble_eq_true rfl⟩) hS (fun q _ h => hFc q h) hFc (fun w9 t H1 locs ht hvm hw hB hz1 hk1 hS => kC w9 H1 locs hw (by rw [← ht]; exact hB.1) (hB.2.weaken (fun _ q _ h => hFc q.1 h)) hS)
    ·
      obtain ⟨nu_89, kd_90, cn_91, pa_92, fa_93, o_94, w_95, y_96, hs_97, hs_98, hs_99, hs_100, hq_101⟩ := x_ihd hI ht9
      obtain ⟨kk_102, hk_103⟩ := pl_at ht9.1 hs_97
      exact va_callv (va_runU (As := [.ref b0]) (rest := []) ⟨hx, hb, hml, hown, hts⟩ (y_gain l dC dI q h0 d k z f_51 hI (d (2000 + i0)) hit_56 (nI i0) (u2.2 4 i0) (u2.2 22 i0) (d (3000 + i0)) (d (4000 + i0)) rs_52 hs_57 n_53 g_54 hpa_58 hps_59 h1_60 h6_61 hcb_62 (fun j hj => by obtain ⟨b9, it9, e9, -⟩ := hpl_63 j hj; exact ⟨b9, e9⟩) hlg_64 b0 hlgb H.size) (va_cwU 1 hts gX11_stand_X4_gain_u307X3 rfl rfl rfl rfl (by decide +kernel) ⟨Nat.le_of_ble_eq_true rfl, Nat.le_of_ble_eq_true rfl⟩) ⟨gx_fb, va_recv hK hP (ci := 3) (q0 := kk_102) rfl hk_103, fun U hU hW => ⟨rfl, by rw [hU], px_to hU hW hP hK hN hXN, hD.weaken (fun _ _ _ _ => trivial)⟩⟩ rfl rfl hl.1 rfl (lv_room (Nat.le_of_ble_eq_true rfl)) dX11_stand_29 ⟨Nat.le_of_ble_eq_true rfl, Nat.le_of_ble_eq_true rfl⟩) hS (fun q _ h => hFc q h) hFc (fun w9 t H1 locs ht hvm hw hB hz1 hk1 hS => kC w9 H1 locs hw (by rw [← ht]; exact hB.1) (hB.2.weaken (fun _ q _ h => hFc q.1 h)) hS)
    ·
      obtain ⟨nu_104, kd_105, cn_106, pa_107, fa_108, o_109, y_110, hs_111, hs_112, hs_113, hs_114, hq_115⟩ := x_ino hI ht9
      obtain ⟨kk_116, hk_117⟩ := pl_at ht9.1 hs_111
      exact va_callv (va_runU (As := [.ref b0]) (rest := []) ⟨hx, hb, hml, hown, hts⟩ (y_gain l dC dI q h0 d k z f_51 hI (d (2000 + i0)) hit_56 (nI i0) (u2.2 4 i0) (u2.2 22 i0) (d (3000 + i0)) (d (4000 + i0)) rs_52 hs_57 n_53 g_54 hpa_58 hps_59 h1_60 h6_61 hcb_62 (fun j hj => by obtain ⟨b9, it9, e9, -⟩ := hpl_63 j hj; exact ⟨b9, e9⟩) hlg_64 b0 hlgb H.size) (va_cwU 1 hts gX11_stand_X4_gain_u307X5 rfl rfl rfl rfl (by decide +kernel) ⟨Nat.le_of_ble_eq_true rfl, Nat.le_of_ble_eq_true rfl⟩) ⟨gx_fb, va_recv hK hP (ci := 4) (q0 := kk_116) rfl hk_117, fun U hU hW => ⟨rfl, by rw [hU], px_to hU hW hP hK hN hXN, hD.weaken (fun _ _ _ _ => trivial)⟩⟩ rfl rfl hl.1 rfl (lv_room (Nat.le_of_ble_eq_true rfl)) dX11_stand_29 ⟨Nat.le_of_ble_eq_true rfl, Nat.le_of_ble_eq_true rfl⟩) hS (fun q _ h => hFc q h) hFc (fun w9 t H1 locs ht hvm hw hB hz1 hk1 hS => kC w9 H1 locs hw (by rw [← ht]; exact hB.1) (hB.2.weaken (fun _ q _ h => hFc q.1 h)) hS)
    ·
      obtain ⟨nu_118, kd_119, cn_120, pa_121, fa_122, b_123, pr_124, sp_125, dy_126, hs_127, hs_128, hs_129, hs_130, hq_131, hq_132, hq_133⟩ := x_ipd hI ht9
      obtain ⟨kk_134, hk_135⟩ := pl_at ht9.1 hs_127
      exact va_callv (va_runU (As := [.ref b0]) (rest := []) ⟨hx, hb, hml, hown, hts⟩ (y_gain l dC dI q h0 d k z f_51 hI (d (2000 + i0)) hit_56 (nI i0) (u2.2 4 i0) (u2.2 22 i0) (d (3000 + i0)) (d (4000 + i0)) rs_52 hs_57 n_53 g_54 hpa_58 hps_59 h1_60 h6_61 hcb_62 (fun j hj => by obtain ⟨b9, it9, e9, -⟩ := hpl_63 j hj; exact ⟨b9, e9⟩) hlg_64 b0 hlgb H.size) (va_cwU 1 hts gX11_stand_X4_gain_u307X6 rfl rfl rfl rfl (by decide +kernel) ⟨Nat.le_of_ble_eq_true rfl, Nat.le_of_ble_eq_true rfl⟩) ⟨gx_fb, va_recv hK hP (ci := 5) (q0 := kk_134) rfl hk_135, fun U hU hW => ⟨rfl, by rw [hU], px_to hU hW hP hK hN hXN, hD.weaken (fun _ _ _ _ => trivial)⟩⟩ rfl rfl hl.1 rfl (lv_room (Nat.le_of_ble_eq_true rfl)) dX11_stand_29 ⟨Nat.le_of_ble_eq_true rfl, Nat.le_of_ble_eq_true rfl⟩) hS (fun q _ h => hFc q h) hFc (fun w9 t H1 locs ht hvm hw hB hz1 hk1 hS => kC w9 H1 locs hw (by rw [← ht]; exact hB.1) (hB.2.weaken (fun _ q _ h => hFc q.1 h)) hS)
    ·
      obtain ⟨nu_136, kd_137, cn_138, pa_139, fa_140, ww_141, hh_142, sz_143, hs_144, hs_145, hs_146, hs_147, hq_148, hq_149, hq_150⟩ := x_ipi hI ht9
      obtain ⟨kk_151, hk_152⟩ := pl_at ht9.1 hs_144
      exact va_callv (va_runU (As := [.ref b0]) (rest := []) ⟨hx, hb, hml, hown, hts⟩ (y_gain l dC dI q h0 d k z f_51 hI (d (2000 + i0)) hit_56 (nI i0) (u2.2 4 i0) (u2.2 22 i0) (d (3000 + i0)) (d (4000 + i0)) rs_52 hs_57 n_53 g_54 hpa_58 hps_59 h1_60 h6_61 hcb_62 (fun j hj => by obtain ⟨b9, it9, e9, -⟩ := hpl_63 j hj; exact ⟨b9, e9⟩) hlg_64 b0 hlgb H.size) (va_cwU 1 hts gX11_stand_X4_gain_u307X7 rfl rfl rfl rfl (by decide +kernel) ⟨Nat.le_of_ble_eq_true rfl, Nat.le_of_ble_eq_true rfl⟩) ⟨gx_fb, va_recv hK hP (ci := 6) (q0 := kk_151) rfl hk_152, fun U hU hW => ⟨rfl, by rw [hU], px_to hU hW hP hK hN hXN, hD.weaken (fun _ _ _ _ => trivial)⟩⟩ rfl rfl hl.1 rfl (lv_room (Nat.le_of_ble_eq_true rfl)) dX11_stand_29 ⟨Nat.le_of_ble_eq_true rfl, Nat.le_of_ble_eq_true rfl⟩) hS (fun q _ h => hFc q h) hFc (fun w9 t H1 locs ht hvm hw hB hz1 hk1 hS => kC w9 H1 locs hw (by rw [← ht]; exact hB.1) (hB.2.weaken (fun _ q _ h => hFc q.1 h)) hS)
    ·
      obtain ⟨nu_153, kd_154, cn_155, pa_156, fa_157, l_158, co_159, wd_160, nm_161, hs_162, hs_163, hs_164, hs_165, hq_166, hq_167, hq_168⟩ := x_ist hI ht9
      obtain ⟨kk_169, hk_170⟩ := pl_at ht9.1 hs_162
      exact va_callv (va_runU (As := [.ref b0]) (rest := []) ⟨hx, hb, hml, hown, hts⟩ (y_gain l dC dI q h0 d k z f_51 hI (d (2000 + i0)) hit_56 (nI i0) (u2.2 4 i0) (u2.2 22 i0) (d (3000 + i0)) (d (4000 + i0)) rs_52 hs_57 n_53 g_54 hpa_58 hps_59 h1_60 h6_61 hcb_62 (fun j hj => by obtain ⟨b9, it9, e9, -⟩ := hpl_63 j hj; exact ⟨b9, e9⟩) hlg_64 b0 hlgb H.size) (va_cwU 1 hts gX11_stand_X4_gain_u307X10 rfl rfl rfl rfl (by decide +kernel) ⟨Nat.le_of_ble_eq_true rfl, Nat.le_of_ble_eq_true rfl⟩) ⟨gx_fb, va_recv hK hP (ci := 9) (q0 := kk_169) rfl hk_170, fun U hU hW => ⟨rfl, by rw [hU], px_to hU hW hP hK hN hXN, hD.weaken (fun _ _ _ _ => trivial)⟩⟩ rfl rfl hl.1 rfl (lv_room (Nat.le_of_ble_eq_true rfl)) dX11_stand_29 ⟨Nat.le_of_ble_eq_true rfl, Nat.le_of_ble_eq_true rfl⟩) hS (fun q _ h => hFc q h) hFc (fun w9 t H1 locs ht hvm hw hB hz1 hk1 hS => kC w9 H1 locs hw (by rw [← ht]; exact hB.1) (hB.2.weaken (fun _ q _ h => hFc q.1 h)) hS)
set_option maxHeartbeats 4000000 in
set_option maxRecDepth 100000 in
theorem y_offI (l : Launch) (dC : Nat → ClassId) (dI : Nat → Nat → Nat) (q : Nat → ClassId) (h0 : Nat) (d : Nat → Nat) (k : Nat → Int32) (z : gS) (f : xF) (hI : xI q h0 d k z f) (b0 P X Y D N : Nat) (u : mS) (hrp : rep q d u z f) (hk0 : k 0 = u.1 3) (hk1 : k 1 = u.1 28) (hk2 : k 2 = u.1 38) (hk3 : k 3 = u.1 39) (hP9 : P < 12) (hX : X + D ≤ 8) (hD1 : 1 ≤ D) (hY : Y + N ≤ 60) (hin : ∀ a, a < D → Y + N ≤ (u.2 0 (8 * P + (X + a))).toNatClampNeg) (hne : ∀ j, j < 5760 → ¬ u.2 2 j = (-1)) (i0 : Nat) (hi0 : i0 < (u.1 3).toNatClampNeg) (hpc : pcS z b0 (some (d (2000 + i0))) (nI P) (nI X) (nI Y) (nI D) (nI N)) (hrm : 0 < (u.2 22 i0).toNatClampNeg) (sz : Nat) : Met l yX11_takeOff wsX11_takeOff ({ frames := 4, cells := 0, slots := 0, locals := 88 }) (va_Pc [.ref h0, .ref b0] (fun U => U.heap.size = sz ∧ PX dC dI (va_pl z.1 f) (xT q) U ∧ va_D (fun _ => True) (va_pl z.1 f))) (va_Qv (fun (w : xU) => w.1 = k ∧ w.2.1 = z ∧ xI q h0 d k z w.2.2 ∧ rep q d (mUnstand u (nI i0) P X Y D N) z w.2.2 ∧ w.2.2 (d 3) = f (d 3)) (fun (w : xU) t => va_P (dC, dI) vwCl (va_pl w.2.1.1 w.2.2) t.heap ∧ va_D (va_A (va_pl z.1 f) sz) (va_pl w.2.1.1 w.2.2)) (va_A (va_pl z.1 f) sz)) 0 0 (va_A (va_pl z.1 f) sz) := by
  refine Met.ofW (cc := cX11_takeOff) (maxL := 2) (ret := none) (by decide) rfl ?_
  intro p e s m args below meth c s₁ B hml hv
  obtain ⟨rfl, hsz, ⟨⟨hP, hK, hN⟩, hXN⟩, hD0⟩ := hv
  have hx := B.exec
  have hb := B.bytes
  have hr := B.returns
  have hts := atoms_spec (ws := wsX11_takeOff) B.pre
  have hown : s.vm.findClass RX11 = some m.cls := findClass_of_methodNamed B.named
  have hlocks := B.notSynchronized
  subst hsz
  have hD := hD0.self (sz := s.heap.size)
  generalize hAe : va_A (va_pl z.1 f) s.heap.size = A at hD ⊢
  have hA : ∀ q : Nat, s.heap.size ≤ q → A q := fun q h => by rw [← hAe]; exact Or.inr h
  have hS : va_S A s.heap s.heap [] := va_S.rf
  have hl := lv_entry ([.ref h0, .ref b0]) (n := 2) (Nat.le_of_ble_eq_true rfl)
  rw [lg_entry_eq]
  generalize (lg_sl ([.ref h0, .ref b0]) ++ List.replicate (2 - (lg_sl ([.ref h0, .ref b0])).length) Slot.unset).toArray = ls at hl ⊢
  have hl : lv_has ls 2 [(0, .ref h0), (1, .ref b0)] := hl
  have hlgb := lg_of hpc ⟨b7n (by omega), b60n (by omega), bwN (by have e8 : (8 : Int32).toInt = 8 := rfl; rw [e8]; omega) (by omega), b60n (by omega)⟩
  obtain ⟨rs_1, n_2, g_3, fg_4, hit_5, hs_6, hpa_7, hps_8, h1_9, h6_10, hcb_11, hpl_12, hlg_13, hnn_14, hfa_15, hfs_16, hfe_17, hrs_18, hkt_19⟩ := it_all hI hrp.2.2.1 hi0
  have hi8 : i0 < 80 := by have := w80i hI.1.1 hk0; omega
  refine lv_aload_n hx hb dX11_takeOff_0 rfl (lv_at hl 0 rfl) ?_
  obtain ⟨kk_20, hk_21⟩ := pl_at hI.2.1.1.1 hI.2.2.2.1.1
  refine va_get (D := (dC, dI)) (ci := 10) (v := .ref (d 0)) (C := RX11) (T := TX11) (N := 9) hx hb hts (by decide +kernel) hown hK hP kk_20 hk_21 rfl 0 (by decide) (hts (.fieldLink RX11 11 "PageOne" "pages" "[LPageOne$Sheet;") (by decide +kernel)) (fun _ h9 => h9) rfl dX11_takeOff_1 ?_
  refine lv_aload_n hx hb dX11_takeOff_4 rfl (lv_at hl 1 rfl) ?_
  obtain ⟨kk_22, hk_23⟩ := pl_at hpc.1.1 (x_pcF hI hpc)
  refine va_get (D := (dC, dI)) (ci := 7) (v := .int (nI P)) (C := RX8) (T := TX8) (N := 6) hx hb hts (by decide +kernel) hown hK hP kk_22 hk_23 rfl 1 (by decide) (hts (.fieldLink RX11 229 "PageOne$Piece" "page" "I") (by decide +kernel)) (fun _ h9 => h9) rfl dX11_takeOff_5 ?_
  obtain ⟨g_24, hs_25, hg_26⟩ := x_pg hI hI.2.1.2.1
  obtain ⟨kk_27, hk_28⟩ := pl_at hI.2.1.2.1.1 hs_25
  refine va_aldq hx hb hK hP kk_27 2 hk_28 rfl (vp_in_nI hP9 (by decide)) dX11_takeOff_8 ?_
  obtain ⟨b_29, hg_30, ht_31⟩ := hg_26 _ (vlt (vp_in_nI hP9 (by decide)))
  rw [hg_30]
  refine W.eq (g2 := F0 m 9 ls [.ref b_29]) rfl ?_
  have hb_32 := pg_at hrp.1 hs_25 hP9 (by rw [nI_clamp (by omega)] at hg_30; exact hg_30)
  subst hb_32
  obtain ⟨dd_33, ii_34, gl_35, gc_36, ht_37, ht_38, ht_39, hs_40, hg_41, hgb_42, hc_43, el_44, ec_45⟩ := pg_all hI hrp.1 hP9
  refine lv_aload_n hx hb dX11_takeOff_9 rfl (lv_at hl 1 rfl) ?_
  refine lv_bipush (v := (-2)) hx hb dX11_takeOff_10 (by decide) ?_
  obtain ⟨kk_46, hk_47⟩ := pl_at ht_37.1 hs_40
  have hFc := fr_all hD hS hA
  refine va_callv (va_runV (As := [.ref b0, .int (-2)]) (rest := []) ⟨hx, hb, hml, hown, hts⟩ (y_mark l dC dI q h0 d k z f hI (d (10 + P)) (d (30 + P)) (d (50 + P)) (u.2 1 P) dd_33 ii_34 gl_35 gc_36 ht_37 hs_40 ht_38 ht_39 hg_41 hgb_42 hc_43 (-2) b0 (some (d (2000 + i0))) (nI P) X Y D N hpc (by omega) (by omega) (by omega) (by omega) hX (fun a ha => by rw [el_44 (X + a) (by omega)]; exact hin a ha) (fun j hj => by rw [ec_45 j hj]; exact hne _ (by omega)) (by decide) s.heap.size) (cwV 2 hts gX11_takeOff_X9_mark rfl rfl rfl (by decide +kernel) ⟨Nat.le_of_ble_eq_true rfl, Nat.le_of_ble_eq_true rfl⟩) ⟨gx_fb, va_recv hK hP (ci := 8) (q0 := kk_46) rfl hk_47, fun U hU hW => ⟨rfl, by rw [hU], px_to hU hW hP hK hN hXN, hD.weaken (fun _ _ _ _ => trivial)⟩⟩ rfl rfl hl.1 rfl (lv_room (Nat.le_of_ble_eq_true rfl)) dX11_takeOff_12 ⟨Nat.le_of_ble_eq_true rfl, Nat.le_of_ble_eq_true rfl⟩) hS (fun q _ h => hFc q h) hFc (fun w_48 t H1 locs ht hvm hw hB hz1 hk1 hS => ?_)
  obtain ⟨hP, hD1⟩ := hB
  rw [ht] at hP
  rw [hw.2.1] at hP hD1
  have hD := hD1.weaken (fun _ q _ h => hFc q.1 h)
  have hI := hw.2.2.1
  have hw0 := hw
  generalize w_48.2.2 = f_49 at hP hD hI hw0
  generalize H1 = H at hP hS ⊢
  obtain ⟨u2, eu2⟩ : ∃ y : mS, y = mput u 2 (setR (u.2 2) P X Y N (-2) D) := ⟨_, rfl⟩
  have hrp2 : rep q d u2 z f_49 := by rw [eu2, hw0.2.2.2]; exact rep_mark hrp hP9 hX hY hc_43
  have h3m : f_49 (d 3) = f (d 3) := by rw [hw0.2.2.2]; exact up_o (tg_ne hrp.2.2.2.2.2.2.2.1.1 ht_39 (by decide))
  have hI2 := hI
  have hi2 : i0 < (u2.1 3).toNatClampNeg := by rw [eu2]; exact hi0
  obtain ⟨rs_50, n_51, g_52, fg_53, hit_54, hs_55, hpa_56, hps_57, h1_58, h6_59, hcb_60, hpl_61, hlg_62, hnn_63, hfa_64, hfs_65, hfe_66, hrs_67, hkt_68⟩ := it_all hI hrp2.2.2.1 hi2
  refine lv_aload_n hx hb dX11_takeOff_15 rfl (lv_at hl 1 rfl) ?_
  obtain ⟨kk_69, hk_70⟩ := pl_at hpc.1.1 (x_pcF hI hpc)
  refine va_get (D := (dC, dI)) (ci := 7) (v := .ref (d (2000 + i0))) (C := RX8) (T := TX8) (N := 6) hx hb hts (by decide +kernel) hown hK hP kk_69 hk_70 rfl 0 (by decide) (hts (.fieldLink RX11 304 "PageOne$Piece" "item" "LPageOne$Item;") (by decide +kernel)) (fun _ h9 => h9) rfl dX11_takeOff_16 ?_
  refine lv_ifnull hx hb dX11_takeOff_19 ?_
  refine lv_aload_n hx hb dX11_takeOff_22 rfl (lv_at hl 1 rfl) ?_
  obtain ⟨kk_71, hk_72⟩ := pl_at hpc.1.1 (x_pcF hI hpc)
  refine va_get (D := (dC, dI)) (ci := 7) (v := .ref (d (2000 + i0))) (C := RX8) (T := TX8) (N := 6) hx hb hts (by decide +kernel) hown hK hP kk_71 hk_72 rfl 0 (by decide) (hts (.fieldLink RX11 304 "PageOne$Piece" "item" "LPageOne$Item;") (by decide +kernel)) (fun _ h9 => h9) rfl dX11_takeOff_23 ?_
  have hFc := fr_all hD hS hA
  refine w_cut (X := fun R cells slots Q args => ∀ (w9 : xU) (H : Heap) (locs : List Loc), (w9.1 = k ∧ w9.2.1 = z ∧ xI q h0 d k z w9.2.2 ∧ w9.2.2 = s_lose_f q z f_49 (d (2000 + i0)) (d (3000 + i0)) (d (4000 + i0)) n_51 (nI i0) (u2.2 4 i0) (u2.2 22 i0) rs_50 g_52) → va_P (dC, dI) vwCl (va_pl w9.2.1.1 w9.2.2) H → va_D A (va_pl w9.2.1.1 w9.2.2) → va_S A s.heap H locs → W p l e R s m args below meth c H locs (cells + 0) (slots + 0) Q (F0 m 29 ls ([]))) ?_ (fun kC => ?_)
  ·
    intro w_73 H locs hw hP hD hS
    rw [hw.2.1] at hP hD
    have hI := hw.2.2.1
    have hw0 := hw
    generalize w_73.2.2 = f_169 at hP hD hI hw0
    exact W.vret hx hb hr (fun t ht hW => ⟨⟨(k, z, f_169), rfl, ⟨rfl, rfl, hI, by subst eu2; rw [hw0.2.2.2]; unfold s_lose_f; rw [if_neg (posL h6_59 hcb_60 hrm)]; exact rep_ust (rep_lose hI2 hrp2 (by show bw (u.1 3) 0 80 = true; rw [← hk0]; exact hI.1.1) hi0 hnn_63 hs_55 hps_57 hcb_60 hrm), by show f_169 (d 3) = f (d 3); rw [hw0.2.2.2, lose_3 (Ne.symm (itm_ne hit_54 hrp.2.2.2.2.2.2.2.1.1 (by decide))) (tg_ne hrp.2.2.2.2.2.2.2.1.1 hpa_56 (by decide))]; exact h3m⟩, by rw [ht]; exact hP, hD⟩, hS.F ht⟩) hS.2.2 dX11_takeOff_29
  ·
    rcases x_tag hit_54 with ht9 | ht9 | ht9 | ht9 | ht9 | ht9
    ·
      obtain ⟨nu_74, kd_75, cn_76, pa_77, fa_78, l_79, m_80, hs_81, hs_82, hs_83, hs_84⟩ := x_ifl hI ht9
      obtain ⟨kk_85, hk_86⟩ := pl_at ht9.1 hs_81
      exact va_callv (va_runU (As := []) (rest := []) ⟨hx, hb, hml, hown, hts⟩ (y_loseLast l dC dI q h0 d k z f_49 hI (d (2000 + i0)) hit_54 (nI i0) (u2.2 4 i0) (u2.2 22 i0) (d (3000 + i0)) (d (4000 + i0)) rs_50 hs_55 n_51 g_52 hpa_56 hps_57 h1_58 h6_59 hcb_60 (fun j hj => by obtain ⟨b9, it9, e9, -⟩ := hpl_61 j hj; exact ⟨b9, e9⟩) hlg_62 H.size) (va_cwU 0 hts gX11_takeOff_X4_loseLast_u310X2 rfl rfl rfl rfl (by decide +kernel) ⟨Nat.le_of_ble_eq_true rfl, Nat.le_of_ble_eq_true rfl⟩) ⟨gx_fb, va_recv hK hP (ci := 2) (q0 := kk_85) rfl hk_86, fun U hU hW => ⟨rfl, by rw [hU], px_to hU hW hP hK hN hXN, hD.weaken (fun _ _ _ _ => trivial)⟩⟩ rfl rfl hl.1 rfl (lv_room (Nat.le_of_ble_eq_true rfl)) dX11_takeOff_26 ⟨Nat.le_of_ble_eq_true rfl, Nat.le_of_ble_eq_true rfl⟩) hS (fun q _ h => hFc q h) hFc (fun w9 t H1 locs ht hvm hw hB hz1 hk1 hS => kC w9 H1 locs hw (by rw [← ht]; exact hB.1) (hB.2.weaken (fun _ q _ h => hFc q.1 h)) hS)
    ·
      obtain ⟨nu_87, kd_88, cn_89, pa_90, fa_91, o_92, w_93, y_94, hs_95, hs_96, hs_97, hs_98, hq_99⟩ := x_ihd hI ht9
      obtain ⟨kk_100, hk_101⟩ := pl_at ht9.1 hs_95
      exact va_callv (va_runU (As := []) (rest := []) ⟨hx, hb, hml, hown, hts⟩ (y_loseLast l dC dI q h0 d k z f_49 hI (d (2000 + i0)) hit_54 (nI i0) (u2.2 4 i0) (u2.2 22 i0) (d (3000 + i0)) (d (4000 + i0)) rs_50 hs_55 n_51 g_52 hpa_56 hps_57 h1_58 h6_59 hcb_60 (fun j hj => by obtain ⟨b9, it9, e9, -⟩ := hpl_61 j hj; exact ⟨b9, e9⟩) hlg_62 H.size) (va_cwU 0 hts gX11_takeOff_X4_loseLast_u310X3 rfl rfl rfl rfl (by decide +kernel) ⟨Nat.le_of_ble_eq_true rfl, Nat.le_of_ble_eq_true rfl⟩) ⟨gx_fb, va_recv hK hP (ci := 3) (q0 := kk_100) rfl hk_101, fun U hU hW => ⟨rfl, by rw [hU], px_to hU hW hP hK hN hXN, hD.weaken (fun _ _ _ _ => trivial)⟩⟩ rfl rfl hl.1 rfl (lv_room (Nat.le_of_ble_eq_true rfl)) dX11_takeOff_26 ⟨Nat.le_of_ble_eq_true rfl, Nat.le_of_ble_eq_true rfl⟩) hS (fun q _ h => hFc q h) hFc (fun w9 t H1 locs ht hvm hw hB hz1 hk1 hS => kC w9 H1 locs hw (by rw [← ht]; exact hB.1) (hB.2.weaken (fun _ q _ h => hFc q.1 h)) hS)
    ·
      obtain ⟨nu_102, kd_103, cn_104, pa_105, fa_106, o_107, y_108, hs_109, hs_110, hs_111, hs_112, hq_113⟩ := x_ino hI ht9
      obtain ⟨kk_114, hk_115⟩ := pl_at ht9.1 hs_109
      exact va_callv (va_runU (As := []) (rest := []) ⟨hx, hb, hml, hown, hts⟩ (y_loseLast l dC dI q h0 d k z f_49 hI (d (2000 + i0)) hit_54 (nI i0) (u2.2 4 i0) (u2.2 22 i0) (d (3000 + i0)) (d (4000 + i0)) rs_50 hs_55 n_51 g_52 hpa_56 hps_57 h1_58 h6_59 hcb_60 (fun j hj => by obtain ⟨b9, it9, e9, -⟩ := hpl_61 j hj; exact ⟨b9, e9⟩) hlg_62 H.size) (va_cwU 0 hts gX11_takeOff_X4_loseLast_u310X5 rfl rfl rfl rfl (by decide +kernel) ⟨Nat.le_of_ble_eq_true rfl, Nat.le_of_ble_eq_true rfl⟩) ⟨gx_fb, va_recv hK hP (ci := 4) (q0 := kk_114) rfl hk_115, fun U hU hW => ⟨rfl, by rw [hU], px_to hU hW hP hK hN hXN, hD.weaken (fun _ _ _ _ => trivial)⟩⟩ rfl rfl hl.1 rfl (lv_room (Nat.le_of_ble_eq_true rfl)) dX11_takeOff_26 ⟨Nat.le_of_ble_eq_true rfl, Nat.le_of_ble_eq_true rfl⟩) hS (fun q _ h => hFc q h) hFc (fun w9 t H1 locs ht hvm hw hB hz1 hk1 hS => kC w9 H1 locs hw (by rw [← ht]; exact hB.1) (hB.2.weaken (fun _ q _ h => hFc q.1 h)) hS)
    ·
      obtain ⟨nu_116, kd_117, cn_118, pa_119, fa_120, b_121, pr_122, sp_123, dy_124, hs_125, hs_126, hs_127, hs_128, hq_129, hq_130, hq_131⟩ := x_ipd hI ht9
      obtain ⟨kk_132, hk_133⟩ := pl_at ht9.1 hs_125
      exact va_callv (va_runU (As := []) (rest := []) ⟨hx, hb, hml, hown, hts⟩ (y_loseLast l dC dI q h0 d k z f_49 hI (d (2000 + i0)) hit_54 (nI i0) (u2.2 4 i0) (u2.2 22 i0) (d (3000 + i0)) (d (4000 + i0)) rs_50 hs_55 n_51 g_52 hpa_56 hps_57 h1_58 h6_59 hcb_60 (fun j hj => by obtain ⟨b9, it9, e9, -⟩ := hpl_61 j hj; exact ⟨b9, e9⟩) hlg_62 H.size) (va_cwU 0 hts gX11_takeOff_X4_loseLast_u310X6 rfl rfl rfl rfl (by decide +kernel) ⟨Nat.le_of_ble_eq_true rfl, Nat.le_of_ble_eq_true rfl⟩) ⟨gx_fb, va_recv hK hP (ci := 5) (q0 := kk_132) rfl hk_133, fun U hU hW => ⟨rfl, by rw [hU], px_to hU hW hP hK hN hXN, hD.weaken (fun _ _ _ _ => trivial)⟩⟩ rfl rfl hl.1 rfl (lv_room (Nat.le_of_ble_eq_true rfl)) dX11_takeOff_26 ⟨Nat.le_of_ble_eq_true rfl, Nat.le_of_ble_eq_true rfl⟩) hS (fun q _ h => hFc q h) hFc (fun w9 t H1 locs ht hvm hw hB hz1 hk1 hS => kC w9 H1 locs hw (by rw [← ht]; exact hB.1) (hB.2.weaken (fun _ q _ h => hFc q.1 h)) hS)
    ·
      obtain ⟨nu_134, kd_135, cn_136, pa_137, fa_138, ww_139, hh_140, sz_141, hs_142, hs_143, hs_144, hs_145, hq_146, hq_147, hq_148⟩ := x_ipi hI ht9
      obtain ⟨kk_149, hk_150⟩ := pl_at ht9.1 hs_142
      exact va_callv (va_runU (As := []) (rest := []) ⟨hx, hb, hml, hown, hts⟩ (y_loseLast l dC dI q h0 d k z f_49 hI (d (2000 + i0)) hit_54 (nI i0) (u2.2 4 i0) (u2.2 22 i0) (d (3000 + i0)) (d (4000 + i0)) rs_50 hs_55 n_51 g_52 hpa_56 hps_57 h1_58 h6_59 hcb_60 (fun j hj => by obtain ⟨b9, it9, e9, -⟩ := hpl_61 j hj; exact ⟨b9, e9⟩) hlg_62 H.size) (va_cwU 0 hts gX11_takeOff_X4_loseLast_u310X7 rfl rfl rfl rfl (by decide +kernel) ⟨Nat.le_of_ble_eq_true rfl, Nat.le_of_ble_eq_true rfl⟩) ⟨gx_fb, va_recv hK hP (ci := 6) (q0 := kk_149) rfl hk_150, fun U hU hW => ⟨rfl, by rw [hU], px_to hU hW hP hK hN hXN, hD.weaken (fun _ _ _ _ => trivial)⟩⟩ rfl rfl hl.1 rfl (lv_room (Nat.le_of_ble_eq_true rfl)) dX11_takeOff_26 ⟨Nat.le_of_ble_eq_true rfl, Nat.le_of_ble_eq_true rfl⟩) hS (fun q _ h => hFc q h) hFc (fun w9 t H1 locs ht hvm hw hB hz1 hk1 hS => kC w9 H1 locs hw (by rw [← ht]; exact hB.1) (hB.2.weaken (fun _ q _ h => hFc q.1 h)) hS)
    ·
      obtain ⟨nu_151, kd_152, cn_153, pa_154, fa_155, l_156, co_157, wd_158, nm_159, hs_160, hs_161, hs_162, hs_163, hq_164, hq_165, hq_166⟩ := x_ist hI ht9
      obtain ⟨kk_167, hk_168⟩ := pl_at ht9.1 hs_160
      exact va_callv (va_runU (As := []) (rest := []) ⟨hx, hb, hml, hown, hts⟩ (y_loseLast l dC dI q h0 d k z f_49 hI (d (2000 + i0)) hit_54 (nI i0) (u2.2 4 i0) (u2.2 22 i0) (d (3000 + i0)) (d (4000 + i0)) rs_50 hs_55 n_51 g_52 hpa_56 hps_57 h1_58 h6_59 hcb_60 (fun j hj => by obtain ⟨b9, it9, e9, -⟩ := hpl_61 j hj; exact ⟨b9, e9⟩) hlg_62 H.size) (va_cwU 0 hts gX11_takeOff_X4_loseLast_u310X10 rfl rfl rfl rfl (by decide +kernel) ⟨Nat.le_of_ble_eq_true rfl, Nat.le_of_ble_eq_true rfl⟩) ⟨gx_fb, va_recv hK hP (ci := 9) (q0 := kk_167) rfl hk_168, fun U hU hW => ⟨rfl, by rw [hU], px_to hU hW hP hK hN hXN, hD.weaken (fun _ _ _ _ => trivial)⟩⟩ rfl rfl hl.1 rfl (lv_room (Nat.le_of_ble_eq_true rfl)) dX11_takeOff_26 ⟨Nat.le_of_ble_eq_true rfl, Nat.le_of_ble_eq_true rfl⟩) hS (fun q _ h => hFc q h) hFc (fun w9 t H1 locs ht hvm hw hB hz1 hk1 hS => kC w9 H1 locs hw (by rw [← ht]; exact hB.1) (hB.2.weaken (fun _ q _ h => hFc q.1 h)) hS)
set_option maxHeartbeats 4000000 in
set_option maxRecDepth 100000 in
theorem y_standR (l : Launch) (dC : Nat → ClassId) (dI : Nat → Nat → Nat) (q : Nat → ClassId) (h0 : Nat) (d : Nat → Nat) (k : Nat → Int32) (z : gS) (f : xF) (hI : xI q h0 d k z f) (b0 P X Y D N : Nat) (u : mS) (hrp : rep q d u z f) (hk0 : k 0 = u.1 3) (hk1 : k 1 = u.1 28) (hk2 : k 2 = u.1 38) (hk3 : k 3 = u.1 39) (hP9 : P < 12) (hX : X + D ≤ 8) (hD1 : 1 ≤ D) (hY : Y + N ≤ 60) (hin : ∀ a, a < D → Y + N ≤ (u.2 0 (8 * P + (X + a))).toNatClampNeg) (hne : ∀ j, j < 5760 → ¬ u.2 2 j = (-1)) (hpc : pcS z b0 none (nI P) (nI X) (nI Y) (nI D) (nI N)) (sz : Nat) : Met l yX11_stand wsX11_stand ({ frames := 4, cells := 0, slots := 0, locals := 88 }) (va_Pc [.ref h0, .ref b0] (fun U => U.heap.size = sz ∧ PX dC dI (va_pl z.1 f) (xT q) U ∧ va_D (fun _ => True) (va_pl z.1 f))) (va_Qv (fun (w : xU) => w.1 = k ∧ w.2.1 = z ∧ xI q h0 d k z w.2.2 ∧ rep q d (mput u 2 (setR (u.2 2) P X Y N 100 D)) z w.2.2 ∧ w.2.2 (d 3) = f (d 3)) (fun (w : xU) t => va_P (dC, dI) vwCl (va_pl w.2.1.1 w.2.2) t.heap ∧ va_D (va_A (va_pl z.1 f) sz) (va_pl w.2.1.1 w.2.2)) (va_A (va_pl z.1 f) sz)) 0 0 (va_A (va_pl z.1 f) sz) := by
  refine Met.ofW (cc := cX11_stand) (maxL := 2) (ret := none) (by decide) rfl ?_
  intro p e s m args below meth c s₁ B hml hv
  obtain ⟨rfl, hsz, ⟨⟨hP, hK, hN⟩, hXN⟩, hD0⟩ := hv
  have hx := B.exec
  have hb := B.bytes
  have hr := B.returns
  have hts := atoms_spec (ws := wsX11_stand) B.pre
  have hown : s.vm.findClass RX11 = some m.cls := findClass_of_methodNamed B.named
  have hlocks := B.notSynchronized
  subst hsz
  have hD := hD0.self (sz := s.heap.size)
  generalize hAe : va_A (va_pl z.1 f) s.heap.size = A at hD ⊢
  have hA : ∀ q : Nat, s.heap.size ≤ q → A q := fun q h => by rw [← hAe]; exact Or.inr h
  have hS : va_S A s.heap s.heap [] := va_S.rf
  have hl := lv_entry ([.ref h0, .ref b0]) (n := 2) (Nat.le_of_ble_eq_true rfl)
  rw [lg_entry_eq]
  generalize (lg_sl ([.ref h0, .ref b0]) ++ List.replicate (2 - (lg_sl ([.ref h0, .ref b0])).length) Slot.unset).toArray = ls at hl ⊢
  have hl : lv_has ls 2 [(0, .ref h0), (1, .ref b0)] := hl
  have hlgb := lg_of hpc ⟨b7n (by omega), b60n (by omega), bwN (by have e8 : (8 : Int32).toInt = 8 := rfl; rw [e8]; omega) (by omega), b60n (by omega)⟩
  refine lv_aload_n hx hb dX11_stand_0 rfl (lv_at hl 0 rfl) ?_
  obtain ⟨kk_1, hk_2⟩ := pl_at hI.2.1.1.1 hI.2.2.2.1.1
  refine va_get (D := (dC, dI)) (ci := 10) (v := .ref (d 0)) (C := RX11) (T := TX11) (N := 9) hx hb hts (by decide +kernel) hown hK hP kk_1 hk_2 rfl 0 (by decide) (hts (.fieldLink RX11 11 "PageOne" "pages" "[LPageOne$Sheet;") (by decide +kernel)) (fun _ h9 => h9) rfl dX11_stand_1 ?_
  refine lv_aload_n hx hb dX11_stand_4 rfl (lv_at hl 1 rfl) ?_
  obtain ⟨kk_3, hk_4⟩ := pl_at hpc.1.1 (x_pcF hI hpc)
  refine va_get (D := (dC, dI)) (ci := 7) (v := .int (nI P)) (C := RX8) (T := TX8) (N := 6) hx hb hts (by decide +kernel) hown hK hP kk_3 hk_4 rfl 1 (by decide) (hts (.fieldLink RX11 229 "PageOne$Piece" "page" "I") (by decide +kernel)) (fun _ h9 => h9) rfl dX11_stand_5 ?_
  obtain ⟨g_5, hs_6, hg_7⟩ := x_pg hI hI.2.1.2.1
  obtain ⟨kk_8, hk_9⟩ := pl_at hI.2.1.2.1.1 hs_6
  refine va_aldq hx hb hK hP kk_8 2 hk_9 rfl (vp_in_nI hP9 (by decide)) dX11_stand_8 ?_
  obtain ⟨b_10, hg_11, ht_12⟩ := hg_7 _ (vlt (vp_in_nI hP9 (by decide)))
  rw [hg_11]
  refine W.eq (g2 := F0 m 9 ls [.ref b_10]) rfl ?_
  have hb_13 := pg_at hrp.1 hs_6 hP9 (by rw [nI_clamp (by omega)] at hg_11; exact hg_11)
  subst hb_13
  obtain ⟨dd_14, ii_15, gl_16, gc_17, ht_18, ht_19, ht_20, hs_21, hg_22, hgb_23, hc_24, el_25, ec_26⟩ := pg_all hI hrp.1 hP9
  refine lv_aload_n hx hb dX11_stand_9 rfl (lv_at hl 1 rfl) ?_
  refine lv_aload_n hx hb dX11_stand_10 rfl (lv_at hl 1 rfl) ?_
  obtain ⟨kk_27, hk_28⟩ := pl_at hpc.1.1 (x_pcF hI hpc)
  refine vp_callSi (va_runV (As := []) (rest := [.ref b0, .ref (d (10 + P))]) ⟨hx, hb, hml, hown, hts⟩ (y_signN l dC dI q h0 d k z f hI b0 (nI P) (nI X) (nI Y) (nI D) (nI N) hpc) (cwV 0 hts gX11_stand_X8_sign rfl rfl rfl (by decide +kernel) ⟨Nat.le_of_ble_eq_true rfl, Nat.le_of_ble_eq_true rfl⟩) ⟨px_fb, va_recv hK hP (ci := 7) (q0 := kk_27) rfl hk_28, fun U hU hW => ⟨rfl, px_to hU hW hP hK hN hXN⟩⟩ rfl rfl hl.1 rfl (lv_room (Nat.le_of_ble_eq_true rfl)) dX11_stand_11 ⟨Nat.le_of_ble_eq_true rfl, Nat.le_of_ble_eq_true rfl⟩).run (fun r hw => ?_)
  obtain rfl : r = 100 := hw
  obtain ⟨kk_29, hk_30⟩ := pl_at ht_18.1 hs_21
  have hFc := fr_all hD hS hA
  refine va_callv (va_runV (As := [.ref b0, .int 100]) (rest := []) ⟨hx, hb, hml, hown, hts⟩ (y_mark l dC dI q h0 d k z f hI (d (10 + P)) (d (30 + P)) (d (50 + P)) (u.2 1 P) dd_14 ii_15 gl_16 gc_17 ht_18 hs_21 ht_19 ht_20 hg_22 hgb_23 hc_24 100 b0 none (nI P) X Y D N hpc (by omega) (by omega) (by omega) (by omega) hX (fun a ha => by rw [el_25 (X + a) (by omega)]; exact hin a ha) (fun j hj => by rw [ec_26 j hj]; exact hne _ (by omega)) (by decide) s.heap.size) (cwV 2 hts gX11_stand_X9_mark rfl rfl rfl (by decide +kernel) ⟨Nat.le_of_ble_eq_true rfl, Nat.le_of_ble_eq_true rfl⟩) ⟨gx_fb, va_recv hK hP (ci := 8) (q0 := kk_29) rfl hk_30, fun U hU hW => ⟨rfl, by rw [hU], px_to hU hW hP hK hN hXN, hD.weaken (fun _ _ _ _ => trivial)⟩⟩ rfl rfl hl.1 rfl (lv_room (Nat.le_of_ble_eq_true rfl)) dX11_stand_14 ⟨Nat.le_of_ble_eq_true rfl, Nat.le_of_ble_eq_true rfl⟩) hS (fun q _ h => hFc q h) hFc (fun w_31 t H1 locs ht hvm hw hB hz1 hk1 hS => ?_)
  obtain ⟨hP, hD1⟩ := hB
  rw [ht] at hP
  rw [hw.2.1] at hP hD1
  have hD := hD1.weaken (fun _ q _ h => hFc q.1 h)
  have hI := hw.2.2.1
  have hw0 := hw
  generalize w_31.2.2 = f_32 at hP hD hI hw0
  generalize H1 = H at hP hS ⊢
  obtain ⟨u2, eu2⟩ : ∃ y : mS, y = mput u 2 (setR (u.2 2) P X Y N 100 D) := ⟨_, rfl⟩
  have hrp2 : rep q d u2 z f_32 := by rw [eu2, hw0.2.2.2]; exact rep_mark hrp hP9 hX hY hc_24
  have h3m : f_32 (d 3) = f (d 3) := by rw [hw0.2.2.2]; exact up_o (tg_ne hrp.2.2.2.2.2.2.2.1.1 ht_20 (by decide))
  have hI2 := hI
  refine lv_aload_n hx hb dX11_stand_17 rfl (lv_at hl 1 rfl) ?_
  obtain ⟨kk_33, hk_34⟩ := pl_at hpc.1.1 (x_pcF hI hpc)
  refine va_get (D := (dC, dI)) (ci := 7) (v := .null) (C := RX8) (T := TX8) (N := 6) hx hb hts (by decide +kernel) hown hK hP kk_33 hk_34 rfl 0 (by decide) (hts (.fieldLink RX11 304 "PageOne$Piece" "item" "LPageOne$Item;") (by decide +kernel)) (fun _ h9 => h9) rfl dX11_stand_18 ?_
  refine lv_ifnullN (tgt := 32) hx hb dX11_stand_21 (by decide) ?_
  exact W.vret hx hb hr (fun t ht hW => ⟨⟨(k, z, f_32), rfl, ⟨rfl, rfl, hI, by rw [← eu2]; exact hrp2, h3m⟩, by rw [ht]; exact hP, hD⟩, hS.F ht⟩) hS.2.2 dX11_stand_32
set_option maxHeartbeats 4000000 in
set_option maxRecDepth 100000 in
theorem y_offR (l : Launch) (dC : Nat → ClassId) (dI : Nat → Nat → Nat) (q : Nat → ClassId) (h0 : Nat) (d : Nat → Nat) (k : Nat → Int32) (z : gS) (f : xF) (hI : xI q h0 d k z f) (b0 P X Y D N : Nat) (u : mS) (hrp : rep q d u z f) (hk0 : k 0 = u.1 3) (hk1 : k 1 = u.1 28) (hk2 : k 2 = u.1 38) (hk3 : k 3 = u.1 39) (hP9 : P < 12) (hX : X + D ≤ 8) (hD1 : 1 ≤ D) (hY : Y + N ≤ 60) (hin : ∀ a, a < D → Y + N ≤ (u.2 0 (8 * P + (X + a))).toNatClampNeg) (hne : ∀ j, j < 5760 → ¬ u.2 2 j = (-1)) (hpc : pcS z b0 none (nI P) (nI X) (nI Y) (nI D) (nI N)) (sz : Nat) : Met l yX11_takeOff wsX11_takeOff ({ frames := 4, cells := 0, slots := 0, locals := 88 }) (va_Pc [.ref h0, .ref b0] (fun U => U.heap.size = sz ∧ PX dC dI (va_pl z.1 f) (xT q) U ∧ va_D (fun _ => True) (va_pl z.1 f))) (va_Qv (fun (w : xU) => w.1 = k ∧ w.2.1 = z ∧ xI q h0 d k z w.2.2 ∧ rep q d (mput u 2 (setR (u.2 2) P X Y N (-2) D)) z w.2.2 ∧ w.2.2 (d 3) = f (d 3)) (fun (w : xU) t => va_P (dC, dI) vwCl (va_pl w.2.1.1 w.2.2) t.heap ∧ va_D (va_A (va_pl z.1 f) sz) (va_pl w.2.1.1 w.2.2)) (va_A (va_pl z.1 f) sz)) 0 0 (va_A (va_pl z.1 f) sz) := by
  refine Met.ofW (cc := cX11_takeOff) (maxL := 2) (ret := none) (by decide) rfl ?_
  intro p e s m args below meth c s₁ B hml hv
  obtain ⟨rfl, hsz, ⟨⟨hP, hK, hN⟩, hXN⟩, hD0⟩ := hv
  have hx := B.exec
  have hb := B.bytes
  have hr := B.returns
  have hts := atoms_spec (ws := wsX11_takeOff) B.pre
  have hown : s.vm.findClass RX11 = some m.cls := findClass_of_methodNamed B.named
  have hlocks := B.notSynchronized
  subst hsz
  have hD := hD0.self (sz := s.heap.size)
  generalize hAe : va_A (va_pl z.1 f) s.heap.size = A at hD ⊢
  have hA : ∀ q : Nat, s.heap.size ≤ q → A q := fun q h => by rw [← hAe]; exact Or.inr h
  have hS : va_S A s.heap s.heap [] := va_S.rf
  have hl := lv_entry ([.ref h0, .ref b0]) (n := 2) (Nat.le_of_ble_eq_true rfl)
  rw [lg_entry_eq]
  generalize (lg_sl ([.ref h0, .ref b0]) ++ List.replicate (2 - (lg_sl ([.ref h0, .ref b0])).length) Slot.unset).toArray = ls at hl ⊢
  have hl : lv_has ls 2 [(0, .ref h0), (1, .ref b0)] := hl
  have hlgb := lg_of hpc ⟨b7n (by omega), b60n (by omega), bwN (by have e8 : (8 : Int32).toInt = 8 := rfl; rw [e8]; omega) (by omega), b60n (by omega)⟩
  refine lv_aload_n hx hb dX11_takeOff_0 rfl (lv_at hl 0 rfl) ?_
  obtain ⟨kk_1, hk_2⟩ := pl_at hI.2.1.1.1 hI.2.2.2.1.1
  refine va_get (D := (dC, dI)) (ci := 10) (v := .ref (d 0)) (C := RX11) (T := TX11) (N := 9) hx hb hts (by decide +kernel) hown hK hP kk_1 hk_2 rfl 0 (by decide) (hts (.fieldLink RX11 11 "PageOne" "pages" "[LPageOne$Sheet;") (by decide +kernel)) (fun _ h9 => h9) rfl dX11_takeOff_1 ?_
  refine lv_aload_n hx hb dX11_takeOff_4 rfl (lv_at hl 1 rfl) ?_
  obtain ⟨kk_3, hk_4⟩ := pl_at hpc.1.1 (x_pcF hI hpc)
  refine va_get (D := (dC, dI)) (ci := 7) (v := .int (nI P)) (C := RX8) (T := TX8) (N := 6) hx hb hts (by decide +kernel) hown hK hP kk_3 hk_4 rfl 1 (by decide) (hts (.fieldLink RX11 229 "PageOne$Piece" "page" "I") (by decide +kernel)) (fun _ h9 => h9) rfl dX11_takeOff_5 ?_
  obtain ⟨g_5, hs_6, hg_7⟩ := x_pg hI hI.2.1.2.1
  obtain ⟨kk_8, hk_9⟩ := pl_at hI.2.1.2.1.1 hs_6
  refine va_aldq hx hb hK hP kk_8 2 hk_9 rfl (vp_in_nI hP9 (by decide)) dX11_takeOff_8 ?_
  obtain ⟨b_10, hg_11, ht_12⟩ := hg_7 _ (vlt (vp_in_nI hP9 (by decide)))
  rw [hg_11]
  refine W.eq (g2 := F0 m 9 ls [.ref b_10]) rfl ?_
  have hb_13 := pg_at hrp.1 hs_6 hP9 (by rw [nI_clamp (by omega)] at hg_11; exact hg_11)
  subst hb_13
  obtain ⟨dd_14, ii_15, gl_16, gc_17, ht_18, ht_19, ht_20, hs_21, hg_22, hgb_23, hc_24, el_25, ec_26⟩ := pg_all hI hrp.1 hP9
  refine lv_aload_n hx hb dX11_takeOff_9 rfl (lv_at hl 1 rfl) ?_
  refine lv_bipush (v := (-2)) hx hb dX11_takeOff_10 (by decide) ?_
  obtain ⟨kk_27, hk_28⟩ := pl_at ht_18.1 hs_21
  have hFc := fr_all hD hS hA
  refine va_callv (va_runV (As := [.ref b0, .int (-2)]) (rest := []) ⟨hx, hb, hml, hown, hts⟩ (y_mark l dC dI q h0 d k z f hI (d (10 + P)) (d (30 + P)) (d (50 + P)) (u.2 1 P) dd_14 ii_15 gl_16 gc_17 ht_18 hs_21 ht_19 ht_20 hg_22 hgb_23 hc_24 (-2) b0 none (nI P) X Y D N hpc (by omega) (by omega) (by omega) (by omega) hX (fun a ha => by rw [el_25 (X + a) (by omega)]; exact hin a ha) (fun j hj => by rw [ec_26 j hj]; exact hne _ (by omega)) (by decide) s.heap.size) (cwV 2 hts gX11_takeOff_X9_mark rfl rfl rfl (by decide +kernel) ⟨Nat.le_of_ble_eq_true rfl, Nat.le_of_ble_eq_true rfl⟩) ⟨gx_fb, va_recv hK hP (ci := 8) (q0 := kk_27) rfl hk_28, fun U hU hW => ⟨rfl, by rw [hU], px_to hU hW hP hK hN hXN, hD.weaken (fun _ _ _ _ => trivial)⟩⟩ rfl rfl hl.1 rfl (lv_room (Nat.le_of_ble_eq_true rfl)) dX11_takeOff_12 ⟨Nat.le_of_ble_eq_true rfl, Nat.le_of_ble_eq_true rfl⟩) hS (fun q _ h => hFc q h) hFc (fun w_29 t H1 locs ht hvm hw hB hz1 hk1 hS => ?_)
  obtain ⟨hP, hD1⟩ := hB
  rw [ht] at hP
  rw [hw.2.1] at hP hD1
  have hD := hD1.weaken (fun _ q _ h => hFc q.1 h)
  have hI := hw.2.2.1
  have hw0 := hw
  generalize w_29.2.2 = f_30 at hP hD hI hw0
  generalize H1 = H at hP hS ⊢
  obtain ⟨u2, eu2⟩ : ∃ y : mS, y = mput u 2 (setR (u.2 2) P X Y N (-2) D) := ⟨_, rfl⟩
  have hrp2 : rep q d u2 z f_30 := by rw [eu2, hw0.2.2.2]; exact rep_mark hrp hP9 hX hY hc_24
  have h3m : f_30 (d 3) = f (d 3) := by rw [hw0.2.2.2]; exact up_o (tg_ne hrp.2.2.2.2.2.2.2.1.1 ht_20 (by decide))
  have hI2 := hI
  refine lv_aload_n hx hb dX11_takeOff_15 rfl (lv_at hl 1 rfl) ?_
  obtain ⟨kk_31, hk_32⟩ := pl_at hpc.1.1 (x_pcF hI hpc)
  refine va_get (D := (dC, dI)) (ci := 7) (v := .null) (C := RX8) (T := TX8) (N := 6) hx hb hts (by decide +kernel) hown hK hP kk_31 hk_32 rfl 0 (by decide) (hts (.fieldLink RX11 304 "PageOne$Piece" "item" "LPageOne$Item;") (by decide +kernel)) (fun _ h9 => h9) rfl dX11_takeOff_16 ?_
  refine lv_ifnullN (tgt := 29) hx hb dX11_takeOff_19 (by decide) ?_
  exact W.vret hx hb hr (fun t ht hW => ⟨⟨(k, z, f_30), rfl, ⟨rfl, rfl, hI, by rw [← eu2]; exact hrp2, h3m⟩, by rw [ht]; exact hP, hD⟩, hS.F ht⟩) hS.2.2 dX11_takeOff_29
