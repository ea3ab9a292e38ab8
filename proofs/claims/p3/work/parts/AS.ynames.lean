/-- names: what is written keeps rep -/
theorem rep_names {q d u z f} {i b : Nat} (h : rep q d u z f) (hn : bw (u.1 3) 0 80 = true) (hi : i < (u.1 3).toNatClampNeg) (hk : u.2 4 i = 0) (hb : b < 10) (x : Int32) {gn : Nat → Int32} (hw : f (d (6000 + i)) = aI (q 1) 10 gn) : rep q d (mst u 21 (10 * nI i + nI b) x) z (va_up f (d (6000 + i)) (aI (q 1) 10 (upd gn b x))) := by
  have hi8 := (bw_it hn hi).2
  have hN := w80 hn
  have eA : (10 * nI i + nI b).toNatClampNeg = 10 * i + b := by
    rw [show (10 : Int32) = nI 10 from rfl, pk_mul, nI_add, nI_clamp (by omega)]
  obtain ⟨n1, n2, n3, hkd, rs, g, fg, hsl, hps, hpcs, hfs, hfe, hrs⟩ := h.2.2.1.2 i hi
  obtain ⟨a1, a2, a3, ⟨g1, a4, a5⟩, g2, a6, a7⟩ := hrs.1 hk
  obtain rfl := (aI_inj (hw.symm.trans a6)).2
  generalize hw9 : mst u 21 (10 * nI i + nI b) x = w
  have w2 : ∀ r, r ≠ 21 → w.2 r = u.2 r := fun r r1 => by rw [← hw9, mst_other r1]
  have w21 : ∀ j, w.2 21 j = if j = 10 * i + b then x else u.2 21 j := fun j => by rw [← hw9, mst_at, eA]
  have w1 : w.1 = u.1 := by rw [← hw9]; rfl
  have hf : fK d z f (va_up f (d (6000 + i)) (aI (q 1) 10 (upd gn b x))) (fun x => x = 6000 + i) := fK_up (fK_rf d z f _) a3 (by decide) rfl
  refine rep_it (i := i) h hf (fun x hx => by omega) hi8 hN (fun j hj hji => ?_) w1 (fun r hr => w2 r (by omega)) ?_
  · exact ⟨fun r r1 r2 r3 r4 r5 _ r6 => by rw [w2 r r6], fun r r1 r2 t _ => by rw [w2 r (by omega)], fun t _ => by rw [w2 47 (by omega)], fun t _ => by rw [w2 16 (by omega)], fun t ht => by rw [w2 18 (by omega), w2 19 (by omega)]; exact ⟨rfl, rfl⟩, fun t _ => by rw [w21, if_neg (by omega)], fun t _ => by rw [w2 48 (by omega)]⟩
  · have q4 : w.2 4 = u.2 4 := w2 4 (by omega)
    have q5 : w.2 5 = u.2 5 := w2 5 (by omega)
    have q15 : w.2 15 = u.2 15 := w2 15 (by omega)
    have q16 : w.2 16 = u.2 16 := w2 16 (by omega)
    have q22 : w.2 22 = u.2 22 := w2 22 (by omega)
    refine ⟨by rw [q4]; exact n1, n2, n3, by rw [q4]; exact hkd, rs, g, fg, ?_, ?_, ?_, ?_, ?_, ?_⟩
    · rw [hf.1 _ _ n1 (by omega), q4, q22]; exact hsl
    · rw [hf.2 i n2 (by omega), q4]; exact hps
    · intro t ht
      rw [q22] at ht
      obtain ⟨b, b1, b2⟩ := hpcs t ht
      refine ⟨b, b1, ?_⟩
      have hp : ∀ c, c < 5 → pR w i t c = pR u i t c := fun c hc => by show w.2 (23 + c) _ = u.2 (23 + c) _; rw [w2 (23 + c) (by omega)]
      rw [hp 0 (by omega), hp 1 (by omega), hp 2 (by omega), hp 3 (by omega), hp 4 (by omega)]
      exact b2
    · rw [hf.1 _ _ n3 (by omega)]; exact hfs
    · rw [w2 47 (by omega)]; exact hfe
    · have no : ∀ kk : Int32, kk ≠ 0 → ¬ w.2 4 i = kk := fun kk hkk e => hkk (by rw [q4, hk] at e; exact e.symm)
      refine ⟨fun _ => ⟨by rw [q5, q15]; exact a1, a2, a3, ⟨_, by rw [hf.1 _ _ a2 (by omega)]; exact a4, by rw [q16]; exact a5⟩, _, by rw [up_s], ?_⟩, fun e => absurd e (no 1 (by decide)), fun e => absurd e (no 2 (by decide)), fun e => absurd e (no 3 (by decide)), fun e => absurd e (no 4 (by decide)), fun e => absurd e (no 5 (by decide))⟩
      intro t ht
      rw [w21]
      unfold upd
      by_cases e : t = b
      · rw [if_pos e, if_pos (by omega)]
      · rw [if_neg e, if_neg (by omega)]; exact a7 t ht
theorem names_n {u : mS} {p x : Int32} (h : mKind u p 0 = false) : mNames u p x = (0, u) := by
  unfold mNames; rw [h, if_neg (by decide)]
theorem names_x {u : mS} {p x : Int32} (h : ¬ bw x 0 9 = true) : mNames u p x = (0, u) := by
  unfold mNames; rw [if_neg h]; split <;> rfl
theorem names_y {q d u z f} {i : Nat} {x : Int32} {gn : Nat → Int32} (h : rep q d u z f) (hu : rI u) (hi : i < (u.1 3).toNatClampNeg) (hk : u.2 4 i = 0) (hx : bw x 0 9 = true) (hw : f (d (6000 + i)) = aI (q 1) 10 gn) (he : eqR 10 gn (u.2 21) (10 * i)) : (gn x.toNatClampNeg = 0 → 1 = (mNames u (nI i) x).1 ∧ rep q d (mNames u (nI i) x).2 z (va_up f (d (6000 + i)) (aI (q 1) 10 (upd gn x.toNatClampNeg (vp_nar .boolean 1))))) ∧ (¬ gn x.toNatClampNeg = 0 → 0 = (mNames u (nI i) x).1 ∧ rep q d (mNames u (nI i) x).2 z f) := by
  have h2 := bw_it hu.1 hi
  have hK : mKind u (nI i) 0 = true := by rw [mK_it hu.1 hi, hk]; rfl
  obtain ⟨c1, c2, c3⟩ := nI_of_bw hx
  have e9 : (9 : Int32).toInt = 9 := rfl
  rw [e9] at c3
  generalize hb : x.toNatClampNeg = b at *
  subst c1
  have eA : (10 * nI i + nI b).toNatClampNeg = 10 * i + b := by
    rw [show (10 : Int32) = nI 10 from rfl, pk_mul, nI_add, nI_clamp (by omega)]
  have eg := he b (by omega)
  unfold mNames
  rw [if_pos hK, if_pos hx, eA, ← eg]
  refine ⟨fun e => ?_, fun e => ?_⟩
  · rw [if_pos e]; exact ⟨rfl, rep_names h hu.1 hi hk (by omega) _ hw⟩
  · rw [if_neg e]; exact ⟨rfl, h⟩
set_option maxHeartbeats 4000000 in
set_option maxRecDepth 100000 in
theorem y_names (l : Launch) (dC : Nat → ClassId) (dI : Nat → Nat → Nat) (q : Nat → ClassId) (h0 : Nat) (d : Nat → Nat) (k : Nat → Int32) (z : gS) (f : xF) (hI : xI q h0 d k z f) (p0 p1 : Int32) (u : mS) (hrp : rep q d u z f) (hk0 : k 0 = u.1 3) (hk1 : k 1 = u.1 28) (hk2 : k 2 = u.1 38) (hk3 : k 3 = u.1 39) (hu : rI u) (sz : Nat) : Met l yX11_names wsX11_names ({ frames := 2, cells := 0, slots := 0, locals := 43 }) (va_Pc [.ref h0, .int p0, .int p1] (fun U => U.heap.size = sz ∧ PX dC dI (va_pl z.1 f) (xT q) U ∧ va_D (fun _ => True) (va_pl z.1 f))) (va_Qi (fun (r : Int32) (w : xU) => w.1 = k ∧ w.2.1 = z ∧ xI q h0 d k z w.2.2 ∧ r = (mNames u p0 p1).1 ∧ rep q d (mNames u p0 p1).2 z w.2.2) (fun (w : xU) t => va_P (dC, dI) vwCl (va_pl w.2.1.1 w.2.2) t.heap ∧ va_D (va_A (va_pl z.1 f) sz) (va_pl w.2.1.1 w.2.2)) (va_A (va_pl z.1 f) sz)) 0 0 (va_A (va_pl z.1 f) sz) := by
  refine Met.ofW (cc := cX11_names) (maxL := 5) (ret := (some .boolean)) (by decide) rfl ?_
  intro p e s m args below meth c s₁ B hml hv
  obtain ⟨rfl, hsz, ⟨⟨hP, hK, hN⟩, hXN⟩, hD0⟩ := hv
  have hx := B.exec
  have hb := B.bytes
  have hr := B.returns
  have hts := atoms_spec (ws := wsX11_names) B.pre
  have hown : s.vm.findClass RX11 = some m.cls := findClass_of_methodNamed B.named
  have hlocks := B.notSynchronized
  subst hsz
  have hD := hD0.self (sz := s.heap.size)
  generalize hAe : va_A (va_pl z.1 f) s.heap.size = A at hD ⊢
  have hA : ∀ q : Nat, s.heap.size ≤ q → A q := fun q h => by rw [← hAe]; exact Or.inr h
  have hS : va_S A s.heap s.heap [] := va_S.rf
  have hl := lv_entry ([.ref h0, .int p0, .int p1]) (n := 5) (Nat.le_of_ble_eq_true rfl)
  rw [lg_entry_eq]
  generalize (lg_sl ([.ref h0, .int p0, .int p1]) ++ List.replicate (5 - (lg_sl ([.ref h0, .int p0, .int p1])).length) Slot.unset).toArray = ls at hl ⊢
  have hl : lv_has ls 5 [(0, .ref h0), (1, .int p0), (2, .int p1)] := hl
  refine lv_aload_n hx hb dX11_names_0 rfl (lv_at hl 0 rfl) ?_
  refine lv_iload_n hx hb dX11_names_1 rfl (lv_at hl 1 rfl) ?_
  obtain ⟨kk_1, hk_2⟩ := pl_at hI.2.1.1.1 hI.2.2.2.1.1
  refine va_csq (va_runV (As := [.int p0]) (rest := []) ⟨hx, hb, hml, hown, hts⟩ (y_itemOf l dC dI q h0 d k z f hI p0 u hrp hk0 hk1 hk2 hk3) (cwV 1 hts gX11_names_X11_itemOf rfl rfl rfl (by decide +kernel) ⟨Nat.le_of_ble_eq_true rfl, Nat.le_of_ble_eq_true rfl⟩) ⟨px_fb, va_recv hK hP (ci := 10) (q0 := kk_1) rfl hk_2, fun U hU hW => ⟨rfl, px_to hU hW hP hK hN hXN⟩⟩ rfl rfl hl.1 rfl (lv_room (Nat.le_of_ble_eq_true rfl)) dX11_names_2 ⟨Nat.le_of_ble_eq_true rfl, Nat.le_of_ble_eq_true rfl⟩).run (fun r hw => ?_)
  rcases hw with ⟨hr9, hn9⟩ | ⟨i_3, hi_4, ep_5, hr9⟩
  ·
    subst hr9
    have hno_25 := hn9
    refine W.eq (g2 := F0 m 5 ls [.null]) rfl ?_
    refine lv_astoreN (lv' := [(4, .null), (0, .ref h0), (1, .int p0), (2, .int p1)]) hx hb dX11_names_5 hl (by decide) rfl (fun ls hl => ?_)
    refine lv_aloadN hx hb dX11_names_7 (lv_at hl 0 rfl) ?_
    refine lv_instN hx hb dX11_names_9 ?_
    refine lv_if_eq (tgt := 37) hx hb dX11_names_12 (by decide) (fun c_26 => ?_) (fun c_26 => absurd (by decide) c_26)
    refine lv_iconst (v := 0) hx hb dX11_names_37 (by decide) ?_
    exact W.zret (v := 0) hx hb hr (by decide) (fun t ht hW => ⟨⟨0, (k, z, f), rfl, ⟨rfl, rfl, hI, by rw [names_n (mK_no hno_25)], by rw [names_n (mK_no hno_25)]; exact hrp⟩, by rw [ht]; exact hP, hD⟩, hS.F ht⟩) hS.2.2 dX11_names_38
  ·
    subst hr9
    obtain ⟨rs_6, n_7, g_8, fg_9, hit_10, hs_11, hpa_12, hps_13, h1_14, h6_15, hcb_16, hpl_17, hlg_18, hnn_19, hfa_20, hfs_21, hfe_22, hrs_23, hkt_24⟩ := it_all hI hrp.2.2.1 hi_4
    refine W.eq (g2 := F0 m 5 ls [.ref (d (2000 + i_3))]) rfl ?_
    refine lv_astore (lv' := [(4, .ref (d (2000 + i_3))), (0, .ref h0), (1, .int p0), (2, .int p1)]) hx hb dX11_names_5 hl (by decide) rfl (fun ls hl => ?_)
    refine lv_aload hx hb dX11_names_7 (lv_at hl 0 rfl) ?_
    rcases Classical.em (tg z (d (2000 + i_3)) 15) with ht9 | ht9
    ·
      have ht_27 := ht9
      have hkd_29 : u.2 4 i_3 = 0 := (kT_k (kd_05 hrp.2.2.1 hi_4).1 (kd_05 hrp.2.2.1 hi_4).2).1 (hkt_24.symm.trans ht_27.2)
      obtain ⟨hx_30, hx_31, hx_32, ⟨hx_33, hx_34, hx_35⟩, hx_36, hx_37, hx_38⟩ := hrs_23.1 hkd_29
      have hs_39 : f (d (2000 + i_3)) = .inr (9, [.int (nI i_3), .int (u.2 4 i_3), .ref (d (3000 + i_3)), .int (u.2 22 i_3), .ref (d (4000 + i_3)), .int (u.2 5 i_3), .ref (d (5000 + i_3)), .int (u.2 15 i_3), .ref (d (6000 + i_3))]) := by rw [hs_11, ht_27.2, hx_30]; rfl
      obtain ⟨kk_40, hk_41⟩ := pl_at ht_27.1 hs_39
      refine va_instS hx hb hown (hts (.classLink RX11 66 "PageOne$Story") (by decide +kernel)) (hK.1 9 (RX10, TX10, 9) rfl).2 (va_recv hK hP (ci := 9) (q0 := kk_40) rfl hk_41) dX11_names_9 ?_
      refine lv_if_eq (tgt := 37) hx hb dX11_names_12 (by decide) (fun c_42 => absurd c_42 (by decide)) (fun c_42 => ?_)
      refine lv_aload hx hb dX11_names_15 (lv_at hl 0 rfl) ?_
      obtain ⟨kk_43, hk_44⟩ := pl_at ht_27.1 hs_39
      refine va_castS hx hb hown (hts (.classLink RX11 66 "PageOne$Story") (by decide +kernel)) (hK.1 9 (RX10, TX10, 9) rfl).2 (va_recv hK hP (ci := 9) (q0 := kk_43) rfl hk_44) dX11_names_17 ?_
      refine lv_astore_n (lv' := [(3, .ref (d (2000 + i_3))), (4, .ref (d (2000 + i_3))), (0, .ref h0), (1, .int p0), (2, .int p1)]) hx hb dX11_names_20 rfl hl (by decide) rfl (fun ls hl => ?_)
      refine lv_iload_n hx hb dX11_names_21 rfl (lv_at hl 4 rfl) ?_
      refine vp_callSi (va_runS (As := [.int p1]) (rest := []) ⟨hx, hb, hml, hown, hts⟩ (x_isBuyer l dC dI p1) (va_cwS 1 hts gX11_names_X11_isBuyer rfl rfl rfl (by decide +kernel) ⟨Nat.le_of_ble_eq_true rfl, Nat.le_of_ble_eq_true rfl⟩) ⟨pw_fb, fun U hU hW => ⟨rfl, pw_to hU hW (hP.sub (ws' := []) [] rfl) (hK.sub (tys' := []) [] rfl) hN⟩⟩ rfl rfl hl.1 rfl (lv_room (Nat.le_of_ble_eq_true rfl)) dX11_names_22 ⟨Nat.le_of_ble_eq_true rfl, Nat.le_of_ble_eq_true rfl⟩).run (fun r hw => ?_)
      rcases Bool.eq_false_or_eq_true (bw p1 0 9) with b_45 | b_45
      ·
        obtain rfl : r = 1 := b_t hw b_45
        refine lv_if_eq (tgt := 37) hx hb dX11_names_25 (by decide) (fun c_46 => absurd c_46 (by decide)) (fun c_46 => ?_)
        refine lv_aload_n hx hb dX11_names_28 rfl (lv_at hl 0 rfl) ?_
        obtain ⟨kk_47, hk_48⟩ := pl_at ht_27.1 hs_39
        refine va_get (D := (dC, dI)) (ci := 9) (v := .ref (d (6000 + i_3))) (C := RX10) (T := TX10) (N := 9) hx hb hts (by decide +kernel) hown hK hP kk_47 hk_48 rfl 8 (by decide) (hts (.fieldLink RX11 135 "PageOne$Story" "named" "[Z") (by decide +kernel)) (fun _ h9 => h9) rfl dX11_names_29 ?_
        refine lv_iload_n hx hb dX11_names_32 rfl (lv_at hl 4 rfl) ?_
        obtain ⟨kk_49, hk_50⟩ := pl_at hx_32.1.1 hx_37
        refine va_zald hx hb hK hP kk_49 1 hk_50 rfl (vin b_45 (by decide)) dX11_names_33 ?_
        refine lv_if_eq (tgt := 39) hx hb dX11_names_34 (by decide) (fun c_51 => ?_) (fun c_51 => ?_)
        ·
          refine lv_aload_n hx hb dX11_names_39 rfl (lv_at hl 0 rfl) ?_
          obtain ⟨kk_52, hk_53⟩ := pl_at ht_27.1 hs_39
          refine va_get (D := (dC, dI)) (ci := 9) (v := .ref (d (6000 + i_3))) (C := RX10) (T := TX10) (N := 9) hx hb hts (by decide +kernel) hown hK hP kk_52 hk_53 rfl 8 (by decide) (hts (.fieldLink RX11 135 "PageOne$Story" "named" "[Z") (by decide +kernel)) (fun _ h9 => h9) rfl dX11_names_40 ?_
          refine lv_iload_n hx hb dX11_names_43 rfl (lv_at hl 4 rfl) ?_
          refine lv_iconst (v := 1) hx hb dX11_names_44 (by decide) ?_
          obtain ⟨kk_54, hk_55⟩ := pl_at hx_32.1.1 hx_37
          have hD0 := hD
          refine va_zast hx hb hK hP hD hS kk_54 1 hk_55 rfl (vin b_45 (by decide)) dX11_names_45 (fun H locs hP hD hS => ?_)
          rw [pl_set hD0 hx_32.1.1 hx_37 hk_55] at hP hD
          obtain ⟨f_56, ef_56⟩ : ∃ y : xF, y = va_up f (d (6000 + i_3)) (aI (q 1) 10 (upd hx_36 (p1 : Int32).toNatClampNeg (vp_nar .boolean 1))) := ⟨_, rfl⟩
          have hI : xI q h0 d k z f_56 := by rw [ef_56]; exact x_up hI hx_32.1 (by decide) (cO_19 hx_32.1.2 ⟨_, rfl⟩)
          have hP : va_P (dC, dI) vwCl (va_pl z.1 f_56) H := by rw [ef_56]; exact hP
          have hD : va_D A (va_pl z.1 f_56) := by rw [ef_56]; exact hD
          refine lv_iconst (v := 1) hx hb dX11_names_46 (by decide) ?_
          exact W.zret (v := 1) hx hb hr (by decide) (fun t ht hW => ⟨⟨1, (k, z, f_56), rfl, ⟨rfl, rfl, hI, by rw [ep_5]; show _ ∧ rep q d _ z f_56; rw [ef_56]; exact (names_y hrp hu hi_4 hkd_29 b_45 hx_37 hx_38).1 c_51⟩, by rw [ht]; exact hP, hD⟩, hS.F ht⟩) hS.2.2 dX11_names_47
        ·
          refine lv_iconst (v := 0) hx hb dX11_names_37 (by decide) ?_
          exact W.zret (v := 0) hx hb hr (by decide) (fun t ht hW => ⟨⟨0, (k, z, f), rfl, ⟨rfl, rfl, hI, by rw [ep_5]; exact (names_y hrp hu hi_4 hkd_29 b_45 hx_37 hx_38).2 c_51⟩, by rw [ht]; exact hP, hD⟩, hS.F ht⟩) hS.2.2 dX11_names_38
      ·
        obtain rfl : r = 0 := b_f hw b_45
        refine lv_if_eq (tgt := 37) hx hb dX11_names_25 (by decide) (fun c_57 => ?_) (fun c_57 => absurd (by decide) c_57)
        refine lv_iconst (v := 0) hx hb dX11_names_37 (by decide) ?_
        exact W.zret (v := 0) hx hb hr (by decide) (fun t ht hW => ⟨⟨0, (k, z, f), rfl, ⟨rfl, rfl, hI, by rw [(names_x (bne b_45))], by rw [(names_x (bne b_45))]; exact hrp⟩, by rw [ht]; exact hP, hD⟩, hS.F ht⟩) hS.2.2 dX11_names_38
    ·
      have hn_28 := ht9
      have hkd_29 : ¬ u.2 4 i_3 = 0 := fun e9 => ht9 ⟨hit_10.1, by rw [hkt_24, e9]; rfl⟩
      refine w_then (F0 m 12 ls [.int 0]) (fun hgo => ?_) ?_
      ·
        rcases x_tag hit_10 with ht8 | ht8 | ht8 | ht8 | ht8 | ht8
        ·
          obtain ⟨nu_58, kd_59, cn_60, pa_61, fa_62, l_63, m_64, hs_65, hs_66, hs_67, hs_68⟩ := x_ifl hI ht8
          obtain ⟨kk_69, hk_70⟩ := pl_at ht8.1 hs_65
          exact va_instNo hx hb hown (hts (.classLink RX11 66 "PageOne$Story") (by decide +kernel)) hXN.n_X2_X10 (va_recv hK hP (ci := 2) (q0 := kk_69) rfl hk_70) dX11_names_9 hgo
        ·
          obtain ⟨nu_71, kd_72, cn_73, pa_74, fa_75, o_76, w_77, y_78, hs_79, hs_80, hs_81, hs_82, hq_83⟩ := x_ihd hI ht8
          obtain ⟨kk_84, hk_85⟩ := pl_at ht8.1 hs_79
          exact va_instNo hx hb hown (hts (.classLink RX11 66 "PageOne$Story") (by decide +kernel)) hXN.n_X3_X10 (va_recv hK hP (ci := 3) (q0 := kk_84) rfl hk_85) dX11_names_9 hgo
        ·
          obtain ⟨nu_86, kd_87, cn_88, pa_89, fa_90, o_91, y_92, hs_93, hs_94, hs_95, hs_96, hq_97⟩ := x_ino hI ht8
          obtain ⟨kk_98, hk_99⟩ := pl_at ht8.1 hs_93
          exact va_instNo hx hb hown (hts (.classLink RX11 66 "PageOne$Story") (by decide +kernel)) hXN.n_X5_X10 (va_recv hK hP (ci := 4) (q0 := kk_98) rfl hk_99) dX11_names_9 hgo
        ·
          obtain ⟨nu_100, kd_101, cn_102, pa_103, fa_104, b_105, pr_106, sp_107, dy_108, hs_109, hs_110, hs_111, hs_112, hq_113, hq_114, hq_115⟩ := x_ipd hI ht8
          obtain ⟨kk_116, hk_117⟩ := pl_at ht8.1 hs_109
          exact va_instNo hx hb hown (hts (.classLink RX11 66 "PageOne$Story") (by decide +kernel)) hXN.n_X6_X10 (va_recv hK hP (ci := 5) (q0 := kk_116) rfl hk_117) dX11_names_9 hgo
        ·
          obtain ⟨nu_118, kd_119, cn_120, pa_121, fa_122, ww_123, hh_124, sz_125, hs_126, hs_127, hs_128, hs_129, hq_130, hq_131, hq_132⟩ := x_ipi hI ht8
          obtain ⟨kk_133, hk_134⟩ := pl_at ht8.1 hs_126
          exact va_instNo hx hb hown (hts (.classLink RX11 66 "PageOne$Story") (by decide +kernel)) hXN.n_X7_X10 (va_recv hK hP (ci := 6) (q0 := kk_133) rfl hk_134) dX11_names_9 hgo
        ·
          exact absurd ht8 ht9
      ·
        refine lv_if_eq (tgt := 37) hx hb dX11_names_12 (by decide) (fun c_135 => ?_) (fun c_135 => absurd (by decide) c_135)
        refine lv_iconst (v := 0) hx hb dX11_names_37 (by decide) ?_
        exact W.zret (v := 0) hx hb hr (by decide) (fun t ht hW => ⟨⟨0, (k, z, f), rfl, ⟨rfl, rfl, hI, by rw [(names_n (by rw [ep_5, mK_it hu.1 hi_4]; exact decide_eq_false hkd_29))], by rw [(names_n (by rw [ep_5, mK_it hu.1 hi_4]; exact decide_eq_false hkd_29))]; exact hrp⟩, by rw [ht]; exact hP, hD⟩, hS.F ht⟩) hS.2.2 dX11_names_38
