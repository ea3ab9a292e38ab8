theorem rp_pl {q d u z f} (h : rPl q d u z f) {g : Nat → Option Nat} (hg : f (d 1) = aR (q 2) 12 g) {p : Nat} (hp : p < 12) : (g p = none → u.2 40 p = 0) ∧ ∀ b, g p = some b → u.2 40 p = 1 ∧ b = d (1000 + p) ∧ ∀ la ca m dd ii, f b = .inr (8, [.ref la, .ref ca, .int m, .int dd, .int ii]) → dd = u.2 41 p ∧ ii = u.2 42 p ∧ (∀ gl, f la = aI (q 0) 8 gl → eqR 8 gl (u.2 43) (8 * p)) ∧ ∀ gc, f ca = aI (q 0) 480 gc → eqR 480 gc (u.2 44) (480 * p) := by
  obtain ⟨g2, a1, a2⟩ := h
  have eg := (aR_inj (hg.symm.trans a1)).2
  rw [eg]
  rcases a2 p hp with ⟨b1, b2⟩ | ⟨b1, b2, n1, n2, n3, m2, s1, ⟨gl, s2, s3⟩, gc, s4, s5⟩
  · exact ⟨fun _ => b1, fun b hb => by rw [b2] at hb; cases hb⟩
  · refine ⟨fun h0 => (by rw [b2] at h0; cases h0), fun b hb => ?_⟩
    have eb : b = d (1000 + p) := Option.some.inj (hb.symm.trans b2)
    refine ⟨b1, eb, fun la ca m dd ii hs => ?_⟩
    rw [eb] at hs
    obtain ⟨e1, e2, e3, e4, e5⟩ := sh_inj (hs.symm.trans s1)
    subst e1 e2
    exact ⟨e4, e5, fun gl2 hl => by rw [(aI_inj (hl.symm.trans s2)).2]; exact s3, fun gc2 hc => by rw [(aI_inj (hc.symm.trans s4)).2]; exact s5⟩
/-- whether a page has a plate -/
def hpP (u : mS) (p : Int32) : Prop := bw p 0 11 = true ∧ u.2 40 p.toNatClampNeg = 1
theorem clp {p : Int32} (h : bw p 0 11 = true) : p.toNatClampNeg < 12 := vlt (vin h (by decide))
set_option maxHeartbeats 4000000 in
set_option maxRecDepth 100000 in
theorem y_hasPlate (l : Launch) (dC : Nat → ClassId) (dI : Nat → Nat → Nat) (q : Nat → ClassId) (h0 : Nat) (d : Nat → Nat) (k : Nat → Int32) (z : gS) (f : xF) (hI : xI q h0 d k z f) (p0 : Int32) (u : mS) (hrp : rep q d u z f) : Met l yX11_hasPlate wsX11_hasPlate ({ frames := 2, cells := 0, slots := 0, locals := 42 }) (va_Pc [.ref h0, .int p0] (PX dC dI (va_pl z.1 f) (xT q))) (vp_Si (fun r => (r = 0 ∧ ¬ hpP u p0) ∨ (r = 1 ∧ hpP u p0 ∧ xPl q d z f p0))) 0 0 (fun _ => False) := by
  refine Met.ofW (cc := cX11_hasPlate) (maxL := 2) (ret := (some .boolean)) (by decide) rfl ?_
  intro p e s m args below meth c s₁ B hml hv
  obtain ⟨rfl, ⟨hP, hK, hN⟩, hXN⟩ := hv
  have hx := B.exec
  have hb := B.bytes
  have hr := B.returns
  have hts := atoms_spec (ws := wsX11_hasPlate) B.pre
  have hown : s.vm.findClass RX11 = some m.cls := findClass_of_methodNamed B.named
  have hlocks := B.notSynchronized
  have hl := lv_entry ([.ref h0, .int p0]) (n := 2) (Nat.le_of_ble_eq_true rfl)
  rw [lg_entry_eq]
  generalize (lg_sl ([.ref h0, .int p0]) ++ List.replicate (2 - (lg_sl ([.ref h0, .int p0])).length) Slot.unset).toArray = ls at hl ⊢
  have hl : lv_has ls 2 [(0, .ref h0), (1, .int p0)] := hl
  refine lv_iload_n hx hb dX11_hasPlate_0 rfl (lv_at hl 1 rfl) ?_
  refine vp_callSi (va_runS (As := [.int p0]) (rest := []) ⟨hx, hb, hml, hown, hts⟩ (x_isPage l dC dI p0) (va_cwS 1 hts gX11_hasPlate_X11_isPage rfl rfl rfl (by decide +kernel) ⟨Nat.le_of_ble_eq_true rfl, Nat.le_of_ble_eq_true rfl⟩) ⟨pw_fb, fun U hU hW => ⟨rfl, pw_to hU hW (hP.sub (ws' := []) [] rfl) (hK.sub (tys' := []) [] rfl) hN⟩⟩ rfl rfl hl.1 rfl (lv_room (Nat.le_of_ble_eq_true rfl)) dX11_hasPlate_1 ⟨Nat.le_of_ble_eq_true rfl, Nat.le_of_ble_eq_true rfl⟩).run (fun r hw => ?_)
  rcases Bool.eq_false_or_eq_true (bw p0 0 11) with b_1 | b_1
  ·
    obtain rfl : r = 1 := b_t hw b_1
    refine lv_if_eq (tgt := 20) hx hb dX11_hasPlate_4 (by decide) (fun c_2 => absurd c_2 (by decide)) (fun c_2 => ?_)
    refine lv_aload_n hx hb dX11_hasPlate_7 rfl (lv_at hl 0 rfl) ?_
    obtain ⟨kk_3, hk_4⟩ := pl_at hI.2.1.1.1 hI.2.2.2.1.1
    refine va_get (D := (dC, dI)) (ci := 10) (v := .ref (d 1)) (C := RX11) (T := TX11) (N := 9) hx hb hts (by decide +kernel) hown hK hP kk_3 hk_4 rfl 1 (by decide) (hts (.fieldLink RX11 15 "PageOne" "plates" "[LPageOne$Sheet;") (by decide +kernel)) (fun _ h9 => h9) rfl dX11_hasPlate_8 ?_
    refine lv_iload_n hx hb dX11_hasPlate_11 rfl (lv_at hl 1 rfl) ?_
    obtain ⟨g_5, hs_6, hg_7⟩ := x_pl hI hI.2.1.2.2.1
    obtain ⟨kk_8, hk_9⟩ := pl_at hI.2.1.2.2.1.1 hs_6
    refine va_aldq hx hb hK hP kk_8 2 hk_9 rfl (vin b_1 (by decide)) dX11_hasPlate_12 ?_
    rcases hg_11 : (g_5 (p0 : Int32).toNatClampNeg) with _ | b_10
    ·
      refine W.eq (g2 := F0 m 13 ls [.null]) rfl ?_
      refine lv_ifnullN (tgt := 20) hx hb dX11_hasPlate_13 (by decide) ?_
      refine lv_iconst (v := 0) hx hb dX11_hasPlate_20 (by decide) ?_
      exact W.zret (v := 0) hx hb hr (by decide) (fun t ht hW => ⟨_, rfl, (Or.inl ⟨rfl, fun h => by have h9 := (rp_pl hrp.2.1 hs_6 (clp b_1)).1 hg_11; rw [h.2] at h9; exact absurd h9 (by decide)⟩), ht⟩) (fun q h => absurd h List.not_mem_nil) dX11_hasPlate_21
    ·
      have ht_12 := hg_7 (p0 : Int32).toNatClampNeg (vlt (vin b_1 (by decide))) b_10 hg_11
      refine W.eq (g2 := F0 m 13 ls [.ref b_10]) rfl ?_
      refine lv_ifnull hx hb dX11_hasPlate_13 ?_
      refine lv_iconst (v := 1) hx hb dX11_hasPlate_16 (by decide) ?_
      refine lv_goto (tgt := 21) hx hb dX11_hasPlate_17 (by decide) ?_
      exact W.zret (v := 1) hx hb hr (by decide) (fun t ht hW => ⟨_, rfl, (Or.inr ⟨rfl, ⟨b_1, ((rp_pl hrp.2.1 hs_6 (clp b_1)).2 _ hg_11).1⟩, b_1, g_5, b_10, hs_6, hg_11, ht_12⟩), ht⟩) (fun q h => absurd h List.not_mem_nil) dX11_hasPlate_21
  ·
    obtain rfl : r = 0 := b_f hw b_1
    refine lv_if_eq (tgt := 20) hx hb dX11_hasPlate_4 (by decide) (fun c_13 => ?_) (fun c_13 => absurd (by decide) c_13)
    refine lv_iconst (v := 0) hx hb dX11_hasPlate_20 (by decide) ?_
    exact W.zret (v := 0) hx hb hr (by decide) (fun t ht hW => ⟨_, rfl, (Or.inl ⟨rfl, fun h => bne b_1 h.1⟩), ht⟩) (fun q h => absurd h List.not_mem_nil) dX11_hasPlate_21
theorem plO_n {u : mS} {p w : Int32} (h : ¬ hpP u p) (h01 : ∀ j, j < 12 → u.2 40 j = 0 ∨ u.2 40 j = 1) : mPlateOf u p w = (-1) := by
  unfold mPlateOf
  by_cases b : bw p 0 11 = true
  · rw [if_pos b]
    rcases h01 _ (clp b) with e | e
    · rw [if_pos e]
    · exact absurd ⟨b, e⟩ h
  · rw [if_neg b]
theorem plO_s {u : mS} {p w : Int32} (h : hpP u p) : mPlateOf u p w = if w = 0 then u.2 41 p.toNatClampNeg else if w = 1 then u.2 42 p.toNatClampNeg else (-1) := by
  unfold mPlateOf
  rw [if_pos h.1, if_neg (by rw [h.2]; decide)]
theorem rp_01 {q d u z f} (h : rPl q d u z f) : ∀ j, j < 12 → u.2 40 j = 0 ∨ u.2 40 j = 1 := by
  obtain ⟨g, -, a⟩ := h
  intro j hj
  rcases a j hj with x | x
  · exact Or.inl x.1
  · exact Or.inr x.1
set_option maxHeartbeats 4000000 in
set_option maxRecDepth 100000 in
theorem y_plateOf (l : Launch) (dC : Nat → ClassId) (dI : Nat → Nat → Nat) (q : Nat → ClassId) (h0 : Nat) (d : Nat → Nat) (k : Nat → Int32) (z : gS) (f : xF) (hI : xI q h0 d k z f) (p0 p1 : Int32) (u : mS) (hrp : rep q d u z f) : Met l yX11_plateOf wsX11_plateOf ({ frames := 3, cells := 0, slots := 0, locals := 63 }) (va_Pc [.ref h0, .int p0, .int p1] (PX dC dI (va_pl z.1 f) (xT q))) (vp_Si (fun r => r = mPlateOf u p0 p1)) 0 0 (fun _ => False) := by
  refine Met.ofW (cc := cX11_plateOf) (maxL := 3) (ret := (some .int)) (by decide) rfl ?_
  intro p e s m args below meth c s₁ B hml hv
  obtain ⟨rfl, ⟨hP, hK, hN⟩, hXN⟩ := hv
  have hx := B.exec
  have hb := B.bytes
  have hr := B.returns
  have hts := atoms_spec (ws := wsX11_plateOf) B.pre
  have hown : s.vm.findClass RX11 = some m.cls := findClass_of_methodNamed B.named
  have hlocks := B.notSynchronized
  have hl := lv_entry ([.ref h0, .int p0, .int p1]) (n := 3) (Nat.le_of_ble_eq_true rfl)
  rw [lg_entry_eq]
  generalize (lg_sl ([.ref h0, .int p0, .int p1]) ++ List.replicate (3 - (lg_sl ([.ref h0, .int p0, .int p1])).length) Slot.unset).toArray = ls at hl ⊢
  have hl : lv_has ls 3 [(0, .ref h0), (1, .int p0), (2, .int p1)] := hl
  refine lv_aload_n hx hb dX11_plateOf_0 rfl (lv_at hl 0 rfl) ?_
  refine lv_iload_n hx hb dX11_plateOf_1 rfl (lv_at hl 1 rfl) ?_
  obtain ⟨kk_1, hk_2⟩ := pl_at hI.2.1.1.1 hI.2.2.2.1.1
  refine vp_callSi (va_runV (As := [.int p0]) (rest := []) ⟨hx, hb, hml, hown, hts⟩ (y_hasPlate l dC dI q h0 d k z f hI p0 u hrp) (cwV 1 hts gX11_plateOf_X11_hasPlate rfl rfl rfl (by decide +kernel) ⟨Nat.le_of_ble_eq_true rfl, Nat.le_of_ble_eq_true rfl⟩) ⟨px_fb, va_recv hK hP (ci := 10) (q0 := kk_1) rfl hk_2, fun U hU hW => ⟨rfl, px_to hU hW hP hK hN hXN⟩⟩ rfl rfl hl.1 rfl (lv_room (Nat.le_of_ble_eq_true rfl)) dX11_plateOf_2 ⟨Nat.le_of_ble_eq_true rfl, Nat.le_of_ble_eq_true rfl⟩).run (fun r hw => ?_)
  rcases hw with ⟨hw, hpp_9⟩ | ⟨hw, hpp_9, hbw_8, gp_3, bp_4, hp_5, hp_6, hp_7⟩
  ·
    subst hw
    refine lv_if_ne (tgt := 10) hx hb dX11_plateOf_5 (by decide) (fun c_10 => absurd (by decide) c_10) (fun c_10 => ?_)
    refine lv_iconst (v := (-1)) hx hb dX11_plateOf_8 (by decide) ?_
    exact W.iret (v := (-1)) hx hb hr (fun t ht hW => ⟨_, rfl, (plO_n hpp_9 (rp_01 hrp.2.1)).symm, ht⟩) (fun q h => absurd h List.not_mem_nil) dX11_plateOf_9
  ·
    subst hw
    refine lv_if_ne (tgt := 10) hx hb dX11_plateOf_5 (by decide) (fun c_11 => ?_) (fun c_11 => absurd c_11 (by decide))
    refine lv_iload_n hx hb dX11_plateOf_10 rfl (lv_at hl 2 rfl) ?_
    rcases Classical.em (p1 = 0) with s_12 | s_12
    ·
      subst s_12
      refine lv_lookup (tgt := 36) (off := 25) hx hb dX11_plateOf_11 (by decide) (by decide) (by decide) ?_
      refine lv_aload_n hx hb dX11_plateOf_36 rfl (lv_at hl 0 rfl) ?_
      obtain ⟨kk_13, hk_14⟩ := pl_at hI.2.1.1.1 hI.2.2.2.1.1
      refine va_get (D := (dC, dI)) (ci := 10) (v := .ref (d 1)) (C := RX11) (T := TX11) (N := 9) hx hb hts (by decide +kernel) hown hK hP kk_13 hk_14 rfl 1 (by decide) (hts (.fieldLink RX11 15 "PageOne" "plates" "[LPageOne$Sheet;") (by decide +kernel)) (fun _ h9 => h9) rfl dX11_plateOf_37 ?_
      refine lv_iload_n hx hb dX11_plateOf_40 rfl (lv_at hl 1 rfl) ?_
      obtain ⟨kk_15, hk_16⟩ := pl_at hI.2.1.2.2.1.1 hp_5
      refine va_aldq hx hb hK hP kk_15 2 hk_16 rfl (vin hbw_8 (by decide)) dX11_plateOf_41 ?_
      rw [hp_6]
      refine W.eq (g2 := F0 m 42 ls [.ref bp_4]) rfl ?_
      obtain ⟨la_17, ca_18, m_19, dd_20, ii_21, hs_22, ht_23, ht_24⟩ := x_sh hI hp_7
      obtain ⟨kk_25, hk_26⟩ := pl_at hp_7.1 hs_22
      refine va_get (D := (dC, dI)) (ci := 8) (v := .int dd_20) (C := RX9) (T := TX9) (N := 5) hx hb hts (by decide +kernel) hown hK hP kk_25 hk_26 rfl 3 (by decide) (hts (.fieldLink RX11 210 "PageOne$Sheet" "day" "I") (by decide +kernel)) (fun _ h9 => h9) rfl dX11_plateOf_42 ?_
      exact W.iret (v := dd_20) hx hb hr (fun t ht hW => ⟨_, rfl, (by rw [plO_s hpp_9]; first | (rw [if_pos rfl]; exact (((rp_pl hrp.2.1 hp_5 (clp hbw_8)).2 _ hp_6).2.2 _ _ _ _ _ hs_22).1) | (rw [if_neg (by decide), if_pos rfl]; exact (((rp_pl hrp.2.1 hp_5 (clp hbw_8)).2 _ hp_6).2.2 _ _ _ _ _ hs_22).2.1)), ht⟩) (fun q h => absurd h List.not_mem_nil) dX11_plateOf_45
    ·
      rcases Classical.em (p1 = 1) with s_27 | s_27
      ·
        subst s_27
        refine lv_lookup (tgt := 46) (off := 35) hx hb dX11_plateOf_11 (by decide) (by decide) (by decide) ?_
        refine lv_aload_n hx hb dX11_plateOf_46 rfl (lv_at hl 0 rfl) ?_
        obtain ⟨kk_28, hk_29⟩ := pl_at hI.2.1.1.1 hI.2.2.2.1.1
        refine va_get (D := (dC, dI)) (ci := 10) (v := .ref (d 1)) (C := RX11) (T := TX11) (N := 9) hx hb hts (by decide +kernel) hown hK hP kk_28 hk_29 rfl 1 (by decide) (hts (.fieldLink RX11 15 "PageOne" "plates" "[LPageOne$Sheet;") (by decide +kernel)) (fun _ h9 => h9) rfl dX11_plateOf_47 ?_
        refine lv_iload_n hx hb dX11_plateOf_50 rfl (lv_at hl 1 rfl) ?_
        obtain ⟨kk_30, hk_31⟩ := pl_at hI.2.1.2.2.1.1 hp_5
        refine va_aldq hx hb hK hP kk_30 2 hk_31 rfl (vin hbw_8 (by decide)) dX11_plateOf_51 ?_
        rw [hp_6]
        refine W.eq (g2 := F0 m 52 ls [.ref bp_4]) rfl ?_
        obtain ⟨la_32, ca_33, m_34, dd_35, ii_36, hs_37, ht_38, ht_39⟩ := x_sh hI hp_7
        obtain ⟨kk_40, hk_41⟩ := pl_at hp_7.1 hs_37
        refine va_get (D := (dC, dI)) (ci := 8) (v := .int ii_36) (C := RX9) (T := TX9) (N := 5) hx hb hts (by decide +kernel) hown hK hP kk_40 hk_41 rfl 4 (by decide) (hts (.fieldLink RX11 213 "PageOne$Sheet" "edition" "I") (by decide +kernel)) (fun _ h9 => h9) rfl dX11_plateOf_52 ?_
        exact W.iret (v := ii_36) hx hb hr (fun t ht hW => ⟨_, rfl, (by rw [plO_s hpp_9]; first | (rw [if_pos rfl]; exact (((rp_pl hrp.2.1 hp_5 (clp hbw_8)).2 _ hp_6).2.2 _ _ _ _ _ hs_37).1) | (rw [if_neg (by decide), if_pos rfl]; exact (((rp_pl hrp.2.1 hp_5 (clp hbw_8)).2 _ hp_6).2.2 _ _ _ _ _ hs_37).2.1)), ht⟩) (fun q h => absurd h List.not_mem_nil) dX11_plateOf_55
      ·
        refine lv_lookup (tgt := 56) (off := 45) hx hb dX11_plateOf_11 (by decide) ((lv_osw s_12 rfl).trans ((lv_osw s_27 rfl).trans (rfl))) (by decide) ?_
        refine lv_iconst (v := (-1)) hx hb dX11_plateOf_56 (by decide) ?_
        exact W.iret (v := (-1)) hx hb hr (fun t ht hW => ⟨_, rfl, (by rw [plO_s hpp_9, if_neg s_12, if_neg s_27]), ht⟩) (fun q h => absurd h List.not_mem_nil) dX11_plateOf_57
