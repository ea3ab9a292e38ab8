theorem shAtR {gl gc r0 r1 : Nat → Int32} {p : Nat} (hp : p < 12) (hl : eqR 8 gl r0 (8 * p)) (hc : eqR 480 gc r1 (480 * p)) (hb : ∀ j, j < 8 → bw (gl j) 0 60 = true) (c l : Int32) : shAt gl gc c l = if bw c 0 7 = true then (if bw l 0 (r0 (8 * nI p + c).toNatClampNeg - 1) = true then r1 (480 * nI p + 60 * c + l).toNatClampNeg else (-1)) else (-1) := by
  unfold shAt
  by_cases h1 : bw c 0 7 = true
  · obtain ⟨C, hC, -, eC⟩ := exN h1 (by decide)
    have h7 : (7 : Int32).toInt = 7 := rfl
    subst eC
    have e0 : (8 * nI p + nI C).toNatClampNeg = 8 * p + C := by rw [show (8 : Int32) = nI 8 from rfl, pk_mul, nI_add, nI_clamp (by omega)]
    rw [if_pos h1, if_pos h1, nI_clamp (by omega), hl C (by omega), e0]
    by_cases h2 : bw l 0 (r0 (8 * p + C) - 1) = true
    · rw [if_pos h2, if_pos h2]
      have hb1 := hb C (by omega)
      rw [hl C (by omega)] at hb1
      obtain ⟨L, hL, -, eL⟩ := exN (b59 hb1 h2) (by decide)
      have h59 : (59 : Int32).toInt = 59 := rfl
      subst eL
      have e1 : (nI C * 60 + nI L).toNatClampNeg = 60 * C + L := by rw [show (60 : Int32) = nI 60 from rfl, pk_mul, nI_add, nI_clamp (by omega)]; omega
      have e2 : (480 * nI p + 60 * nI C + nI L).toNatClampNeg = 480 * p + (60 * C + L) := by rw [idxN hp (by omega) (by omega), nI_clamp (by omega)]; omega
      rw [e1, e2]
      exact hc _ (by omega)
    · rw [if_neg h2, if_neg h2]
  · rw [if_neg h1, if_neg h1]
theorem pld_n {u : mS} {p c l : Int32} (h : ¬ hpP u p) (h01 : ∀ j, j < 12 → u.2 40 j = 0 ∨ u.2 40 j = 1) : mPlated u p c l = (-1) := by
  unfold mPlated
  by_cases b : bw p 0 11 = true
  · rw [if_pos b]
    rcases h01 _ (clp b) with e | e
    · rw [if_pos e]
    · exact absurd ⟨b, e⟩ h
  · rw [if_neg b]
/-- a plate of this edition -/
def frP (u : mS) (p : Int32) : Prop := hpP u p ∧ u.2 41 p.toNatClampNeg = u.1 38 ∧ u.2 42 p.toNatClampNeg = u.1 39
set_option maxHeartbeats 4000000 in
set_option maxRecDepth 100000 in
theorem y_plated (l : Launch) (dC : Nat → ClassId) (dI : Nat → Nat → Nat) (q : Nat → ClassId) (h0 : Nat) (d : Nat → Nat) (k : Nat → Int32) (z : gS) (f : xF) (hI : xI q h0 d k z f) (p0 p1 p2 : Int32) (u : mS) (hrp : rep q d u z f) : Met l yX11_plated wsX11_plated ({ frames := 3, cells := 0, slots := 0, locals := 64 }) (va_Pc [.ref h0, .int p0, .int p1, .int p2] (PX dC dI (va_pl z.1 f) (xT q))) (vp_Si (fun r => r = mPlated u p0 p1 p2)) 0 0 (fun _ => False) := by
  refine Met.ofW (cc := cX11_plated) (maxL := 4) (ret := (some .int)) (by decide) rfl ?_
  intro p e s m args below meth c s₁ B hml hv
  obtain ⟨rfl, ⟨hP, hK, hN⟩, hXN⟩ := hv
  have hx := B.exec
  have hb := B.bytes
  have hr := B.returns
  have hts := atoms_spec (ws := wsX11_plated) B.pre
  have hown : s.vm.findClass RX11 = some m.cls := findClass_of_methodNamed B.named
  have hlocks := B.notSynchronized
  have hl := lv_entry ([.ref h0, .int p0, .int p1, .int p2]) (n := 4) (Nat.le_of_ble_eq_true rfl)
  rw [lg_entry_eq]
  generalize (lg_sl ([.ref h0, .int p0, .int p1, .int p2]) ++ List.replicate (4 - (lg_sl ([.ref h0, .int p0, .int p1, .int p2])).length) Slot.unset).toArray = ls at hl ⊢
  have hl : lv_has ls 4 [(0, .ref h0), (1, .int p0), (2, .int p1), (3, .int p2)] := hl
  refine lv_aload_n hx hb dX11_plated_0 rfl (lv_at hl 0 rfl) ?_
  refine lv_iload_n hx hb dX11_plated_1 rfl (lv_at hl 1 rfl) ?_
  obtain ⟨kk_1, hk_2⟩ := pl_at hI.2.1.1.1 hI.2.2.2.1.1
  refine vp_callSi (va_runV (As := [.int p0]) (rest := []) ⟨hx, hb, hml, hown, hts⟩ (y_hasPlate l dC dI q h0 d k z f hI p0 u hrp) (cwV 1 hts gX11_plated_X11_hasPlate rfl rfl rfl (by decide +kernel) ⟨Nat.le_of_ble_eq_true rfl, Nat.le_of_ble_eq_true rfl⟩) ⟨px_fb, va_recv hK hP (ci := 10) (q0 := kk_1) rfl hk_2, fun U hU hW => ⟨rfl, px_to hU hW hP hK hN hXN⟩⟩ rfl rfl hl.1 rfl (lv_room (Nat.le_of_ble_eq_true rfl)) dX11_plated_2 ⟨Nat.le_of_ble_eq_true rfl, Nat.le_of_ble_eq_true rfl⟩).run (fun r hw => ?_)
  rcases hw with ⟨hw, hpp_9⟩ | ⟨hw, hpp_9, hbw_8, gp_3, bp_4, hp_5, hp_6, hp_7⟩
  ·
    subst hw
    refine lv_if_eq (tgt := 22) hx hb dX11_plated_5 (by decide) (fun c_10 => ?_) (fun c_10 => absurd (by decide) c_10)
    refine lv_iconst (v := (-1)) hx hb dX11_plated_22 (by decide) ?_
    exact W.iret (v := (-1)) hx hb hr (fun t ht hW => ⟨_, rfl, (pld_n hpp_9 (rp_01 hrp.2.1)).symm, ht⟩) (fun q h => absurd h List.not_mem_nil) dX11_plated_23
  ·
    subst hw
    refine lv_if_eq (tgt := 22) hx hb dX11_plated_5 (by decide) (fun c_11 => absurd c_11 (by decide)) (fun c_11 => ?_)
    refine lv_aload_n hx hb dX11_plated_8 rfl (lv_at hl 0 rfl) ?_
    obtain ⟨kk_12, hk_13⟩ := pl_at hI.2.1.1.1 hI.2.2.2.1.1
    refine va_get (D := (dC, dI)) (ci := 10) (v := .ref (d 1)) (C := RX11) (T := TX11) (N := 9) hx hb hts (by decide +kernel) hown hK hP kk_12 hk_13 rfl 1 (by decide) (hts (.fieldLink RX11 15 "PageOne" "plates" "[LPageOne$Sheet;") (by decide +kernel)) (fun _ h9 => h9) rfl dX11_plated_9 ?_
    refine lv_iload_n hx hb dX11_plated_12 rfl (lv_at hl 1 rfl) ?_
    obtain ⟨kk_14, hk_15⟩ := pl_at hI.2.1.2.2.1.1 hp_5
    refine va_aldq hx hb hK hP kk_14 2 hk_15 rfl (vin hbw_8 (by decide)) dX11_plated_13 ?_
    rw [hp_6]
    refine W.eq (g2 := F0 m 14 ls [.ref bp_4]) rfl ?_
    refine lv_iload_n hx hb dX11_plated_14 rfl (lv_at hl 2 rfl) ?_
    refine lv_iload_n hx hb dX11_plated_15 rfl (lv_at hl 3 rfl) ?_
    obtain ⟨la_16, ca_17, m_18, dd_19, ii_20, hs_21, ht_22, ht_23⟩ := x_sh hI hp_7
    obtain ⟨g_24, hs_25, hg_26⟩ := x_ln hI ht_22
    obtain ⟨g_27, hs_28⟩ := x_ce hI ht_23
    obtain ⟨kk_29, hk_30⟩ := pl_at hp_7.1 hs_21
    refine vp_callSi (va_runV (As := [.int p1, .int p2]) (rest := []) ⟨hx, hb, hml, hown, hts⟩ (y_at l dC dI q h0 d k z f hI bp_4 la_16 ca_17 m_18 dd_19 ii_20 g_24 g_27 hp_7 hs_21 ht_22 ht_23 hs_25 hg_26 hs_28 p1 p2) (cwV 2 hts gX11_plated_X9_at rfl rfl rfl (by decide +kernel) ⟨Nat.le_of_ble_eq_true rfl, Nat.le_of_ble_eq_true rfl⟩) ⟨px_fb, va_recv hK hP (ci := 8) (q0 := kk_29) rfl hk_30, fun U hU hW => ⟨rfl, px_to hU hW hP hK hN hXN⟩⟩ rfl rfl hl.1 rfl (lv_room (Nat.le_of_ble_eq_true rfl)) dX11_plated_16 ⟨Nat.le_of_ble_eq_true rfl, Nat.le_of_ble_eq_true rfl⟩).run (fun r hw => ?_)
    generalize r = zr_31 at hw ⊢
    have hzr_31 := hw
    refine lv_goto (tgt := 23) hx hb dX11_plated_19 (by decide) ?_
    exact W.iret (v := zr_31) hx hb hr (fun t ht hW => ⟨_, rfl, (by have hq9 := ((rp_pl hrp.2.1 hp_5 (clp hbw_8)).2 _ hp_6).2.2 _ _ _ _ _ hs_21; obtain ⟨P, hP1, -, eP⟩ := exN hbw_8 (by decide); have h11 : (11 : Int32).toInt = 11 := rfl; subst eP; rw [nI_clamp (by omega)] at hq9; unfold mPlated; rw [if_pos hpp_9.1, if_neg (by rw [hpp_9.2]; decide), hzr_31]; exact shAtR (by omega) (hq9.2.2.1 _ hs_25) (hq9.2.2.2 _ hs_28) hg_26 _ _), ht⟩) (fun q h => absurd h List.not_mem_nil) dX11_plated_23
set_option maxHeartbeats 4000000 in
set_option maxRecDepth 100000 in
theorem y_isFresh (l : Launch) (dC : Nat → ClassId) (dI : Nat → Nat → Nat) (q : Nat → ClassId) (h0 : Nat) (d : Nat → Nat) (k : Nat → Int32) (z : gS) (f : xF) (hI : xI q h0 d k z f) (p0 : Int32) (u : mS) (hrp : rep q d u z f) (hk2 : k 2 = u.1 38) (hk3 : k 3 = u.1 39) : Met l yX11_isFresh wsX11_isFresh ({ frames := 3, cells := 0, slots := 0, locals := 63 }) (va_Pc [.ref h0, .int p0] (PX dC dI (va_pl z.1 f) (xT q))) (vp_Si (fun r => (r = 0 ∧ ¬ frP u p0) ∨ (r = 1 ∧ frP u p0 ∧ xPl q d z f p0))) 0 0 (fun _ => False) := by
  refine Met.ofW (cc := cX11_isFresh) (maxL := 2) (ret := (some .boolean)) (by decide) rfl ?_
  intro p e s m args below meth c s₁ B hml hv
  obtain ⟨rfl, ⟨hP, hK, hN⟩, hXN⟩ := hv
  have hx := B.exec
  have hb := B.bytes
  have hr := B.returns
  have hts := atoms_spec (ws := wsX11_isFresh) B.pre
  have hown : s.vm.findClass RX11 = some m.cls := findClass_of_methodNamed B.named
  have hlocks := B.notSynchronized
  have hl := lv_entry ([.ref h0, .int p0]) (n := 2) (Nat.le_of_ble_eq_true rfl)
  rw [lg_entry_eq]
  generalize (lg_sl ([.ref h0, .int p0]) ++ List.replicate (2 - (lg_sl ([.ref h0, .int p0])).length) Slot.unset).toArray = ls at hl ⊢
  have hl : lv_has ls 2 [(0, .ref h0), (1, .int p0)] := hl
  refine lv_aload_n hx hb dX11_isFresh_0 rfl (lv_at hl 0 rfl) ?_
  refine lv_iload_n hx hb dX11_isFresh_1 rfl (lv_at hl 1 rfl) ?_
  obtain ⟨kk_1, hk_2⟩ := pl_at hI.2.1.1.1 hI.2.2.2.1.1
  refine vp_callSi (va_runV (As := [.int p0]) (rest := []) ⟨hx, hb, hml, hown, hts⟩ (y_hasPlate l dC dI q h0 d k z f hI p0 u hrp) (cwV 1 hts gX11_isFresh_X11_hasPlate rfl rfl rfl (by decide +kernel) ⟨Nat.le_of_ble_eq_true rfl, Nat.le_of_ble_eq_true rfl⟩) ⟨px_fb, va_recv hK hP (ci := 10) (q0 := kk_1) rfl hk_2, fun U hU hW => ⟨rfl, px_to hU hW hP hK hN hXN⟩⟩ rfl rfl hl.1 rfl (lv_room (Nat.le_of_ble_eq_true rfl)) dX11_isFresh_2 ⟨Nat.le_of_ble_eq_true rfl, Nat.le_of_ble_eq_true rfl⟩).run (fun r hw => ?_)
  rcases hw with ⟨hw, hpp_9⟩ | ⟨hw, hpp_9, hbw_8, gp_3, bp_4, hp_5, hp_6, hp_7⟩
  ·
    subst hw
    refine lv_if_eq (tgt := 44) hx hb dX11_isFresh_5 (by decide) (fun c_10 => ?_) (fun c_10 => absurd (by decide) c_10)
    refine lv_iconst (v := 0) hx hb dX11_isFresh_44 (by decide) ?_
    exact W.zret (v := 0) hx hb hr (by decide) (fun t ht hW => ⟨_, rfl, (Or.inl ⟨rfl, fun h => hpp_9 h.1⟩), ht⟩) (fun q h => absurd h List.not_mem_nil) dX11_isFresh_45
  ·
    subst hw
    refine lv_if_eq (tgt := 44) hx hb dX11_isFresh_5 (by decide) (fun c_11 => absurd c_11 (by decide)) (fun c_11 => ?_)
    refine lv_aload_n hx hb dX11_isFresh_8 rfl (lv_at hl 0 rfl) ?_
    obtain ⟨kk_12, hk_13⟩ := pl_at hI.2.1.1.1 hI.2.2.2.1.1
    refine va_get (D := (dC, dI)) (ci := 10) (v := .ref (d 1)) (C := RX11) (T := TX11) (N := 9) hx hb hts (by decide +kernel) hown hK hP kk_12 hk_13 rfl 1 (by decide) (hts (.fieldLink RX11 15 "PageOne" "plates" "[LPageOne$Sheet;") (by decide +kernel)) (fun _ h9 => h9) rfl dX11_isFresh_9 ?_
    refine lv_iload_n hx hb dX11_isFresh_12 rfl (lv_at hl 1 rfl) ?_
    obtain ⟨kk_14, hk_15⟩ := pl_at hI.2.1.2.2.1.1 hp_5
    refine va_aldq hx hb hK hP kk_14 2 hk_15 rfl (vin hbw_8 (by decide)) dX11_isFresh_13 ?_
    rw [hp_6]
    refine W.eq (g2 := F0 m 14 ls [.ref bp_4]) rfl ?_
    obtain ⟨la_16, ca_17, m_18, dd_19, ii_20, hs_21, ht_22, ht_23⟩ := x_sh hI hp_7
    obtain ⟨kk_24, hk_25⟩ := pl_at hp_7.1 hs_21
    refine va_get (D := (dC, dI)) (ci := 8) (v := .int dd_19) (C := RX9) (T := TX9) (N := 5) hx hb hts (by decide +kernel) hown hK hP kk_24 hk_25 rfl 3 (by decide) (hts (.fieldLink RX11 210 "PageOne$Sheet" "day" "I") (by decide +kernel)) (fun _ h9 => h9) rfl dX11_isFresh_14 ?_
    refine lv_aload_n hx hb dX11_isFresh_17 rfl (lv_at hl 0 rfl) ?_
    obtain ⟨kk_26, hk_27⟩ := pl_at hI.2.1.1.1 hI.2.2.2.1.1
    refine va_get (D := (dC, dI)) (ci := 10) (v := .int (k 2)) (C := RX11) (T := TX11) (N := 9) hx hb hts (by decide +kernel) hown hK hP kk_26 hk_27 rfl 7 (by decide) (hts (.fieldLink RX11 41 "PageOne" "today" "I") (by decide +kernel)) (fun _ h9 => h9) rfl dX11_isFresh_18 ?_
    refine lv_icmp_ne (tgt := 44) hx hb dX11_isFresh_21 (by decide) (fun c_28 => ?_) (fun c_28 => ?_)
    ·
      refine lv_iconst (v := 0) hx hb dX11_isFresh_44 (by decide) ?_
      exact W.zret (v := 0) hx hb hr (by decide) (fun t ht hW => ⟨_, rfl, (Or.inl ⟨rfl, fun h => c_28 ((((rp_pl hrp.2.1 hp_5 (clp hbw_8)).2 _ hp_6).2.2 _ _ _ _ _ hs_21).1.trans (h.2.1.trans hk2.symm))⟩), ht⟩) (fun q h => absurd h List.not_mem_nil) dX11_isFresh_45
    ·
      refine lv_aload_n hx hb dX11_isFresh_24 rfl (lv_at hl 0 rfl) ?_
      obtain ⟨kk_29, hk_30⟩ := pl_at hI.2.1.1.1 hI.2.2.2.1.1
      refine va_get (D := (dC, dI)) (ci := 10) (v := .ref (d 1)) (C := RX11) (T := TX11) (N := 9) hx hb hts (by decide +kernel) hown hK hP kk_29 hk_30 rfl 1 (by decide) (hts (.fieldLink RX11 15 "PageOne" "plates" "[LPageOne$Sheet;") (by decide +kernel)) (fun _ h9 => h9) rfl dX11_isFresh_25 ?_
      refine lv_iload_n hx hb dX11_isFresh_28 rfl (lv_at hl 1 rfl) ?_
      obtain ⟨kk_31, hk_32⟩ := pl_at hI.2.1.2.2.1.1 hp_5
      refine va_aldq hx hb hK hP kk_31 2 hk_32 rfl (vin hbw_8 (by decide)) dX11_isFresh_29 ?_
      rw [hp_6]
      refine W.eq (g2 := F0 m 30 ls [.ref bp_4]) rfl ?_
      obtain ⟨kk_33, hk_34⟩ := pl_at hp_7.1 hs_21
      refine va_get (D := (dC, dI)) (ci := 8) (v := .int ii_20) (C := RX9) (T := TX9) (N := 5) hx hb hts (by decide +kernel) hown hK hP kk_33 hk_34 rfl 4 (by decide) (hts (.fieldLink RX11 213 "PageOne$Sheet" "edition" "I") (by decide +kernel)) (fun _ h9 => h9) rfl dX11_isFresh_30 ?_
      refine lv_aload_n hx hb dX11_isFresh_33 rfl (lv_at hl 0 rfl) ?_
      obtain ⟨kk_35, hk_36⟩ := pl_at hI.2.1.1.1 hI.2.2.2.1.1
      refine va_get (D := (dC, dI)) (ci := 10) (v := .int (k 3)) (C := RX11) (T := TX11) (N := 9) hx hb hts (by decide +kernel) hown hK hP kk_35 hk_36 rfl 8 (by decide) (hts (.fieldLink RX11 44 "PageOne" "editionNow" "I") (by decide +kernel)) (fun _ h9 => h9) rfl dX11_isFresh_34 ?_
      refine lv_icmp_ne (tgt := 44) hx hb dX11_isFresh_37 (by decide) (fun c_37 => ?_) (fun c_37 => ?_)
      ·
        refine lv_iconst (v := 0) hx hb dX11_isFresh_44 (by decide) ?_
        exact W.zret (v := 0) hx hb hr (by decide) (fun t ht hW => ⟨_, rfl, (Or.inl ⟨rfl, fun h => c_37 ((((rp_pl hrp.2.1 hp_5 (clp hbw_8)).2 _ hp_6).2.2 _ _ _ _ _ hs_21).2.1.trans (h.2.2.trans hk3.symm))⟩), ht⟩) (fun q h => absurd h List.not_mem_nil) dX11_isFresh_45
      ·
        refine lv_iconst (v := 1) hx hb dX11_isFresh_40 (by decide) ?_
        refine lv_goto (tgt := 45) hx hb dX11_isFresh_41 (by decide) ?_
        exact W.zret (v := 1) hx hb hr (by decide) (fun t ht hW => ⟨_, rfl, (Or.inr ⟨rfl, ⟨hpp_9, (((rp_pl hrp.2.1 hp_5 (clp hbw_8)).2 _ hp_6).2.2 _ _ _ _ _ hs_21).1.symm.trans (c_28.trans hk2), (((rp_pl hrp.2.1 hp_5 (clp hbw_8)).2 _ hp_6).2.2 _ _ _ _ _ hs_21).2.1.symm.trans (c_37.trans hk3)⟩, ⟨hbw_8, gp_3, bp_4, hp_5, hp_6, hp_7⟩⟩), ht⟩) (fun q h => absurd h List.not_mem_nil) dX11_isFresh_45
theorem frP_now {u : mS} {p : Int32} (hb : bw p 0 11 = true) (h01 : u.2 40 p.toNatClampNeg = 0 ∨ u.2 40 p.toNatClampNeg = 1) : frP u p ↔ mNow u p = true := by
  unfold frP hpP mNow
  rw [Bool.and_eq_true, Bool.and_eq_true, Bool.not_eq_true', decide_eq_false_iff_not, decide_eq_true_iff, decide_eq_true_iff]
  constructor
  · intro h; exact ⟨by rw [h.1.2]; decide, h.2⟩
  · intro h
    rcases h01 with e | e
    · exact absurd e h.1
    · exact ⟨⟨hb, e⟩, h.2⟩
set_option maxHeartbeats 4000000 in
set_option maxRecDepth 100000 in
theorem y_freshPlates_l {p : Program} {l : Launch} {e : Env} {R : Room} {s : State} {m : MethodId} {args : Array Value} {below : List Frame} {meth : Method} {c : Code} {Q : State → Prop} {cells slots : Nat} {dC : Nat → ClassId} {dI : Nat → Nat → Nat} {q : Nat → ClassId} {h0 : Nat} {d : Nat → Nat} {k : Nat → Int32} {z : gS} {f : xF} {H : Heap} {locs : List Loc} (hI : xI q h0 d k z f) (hx : p.tables.exec = Jvm.exec) (hb : c.code = cX11_freshPlates) (hml : c.maxLocals = 3) (hts : ∀ w ∈ wsX11_freshPlates, w.before args s = true) (hown : s.vm.findClass RX11 = some m.cls) (hN : NN s) (hXN : XN s) (hK : va_K (dC, dI) vwCl (xT q) s) (hRf : 4 ≤ R.frames) (hRl : 84 ≤ R.locals) (hRc : cells ≤ R.cells) (hRs : slots ≤ R.slots) (hP : va_P (dC, dI) vwCl (va_pl z.1 f) H) {u : mS} (hrp : rep q d u z f) (hk2 : k 2 = u.1 38) (hk3 : k 3 = u.1 39) (kx27 : ∀ (a9 : Int32) (ls : Array Slot), a9 = mCnt u 12 → lv_has ls 3 [(1, .int a9), (0, .ref h0)] → W p l e R s m args below meth c H locs cells slots Q (F0 m 27 ls [])) : ∀ (kk i : Nat) (a : Int32) (ls : Array Slot), i ≤ 12 → 12 - i < kk → a = mCnt u i → lv_has ls 3 [(2, .int (nI i)), (1, .int a), (0, .ref h0)] → W p l e R s m args below meth c H locs cells slots Q (F0 m 4 ls []) := by
  intro kk
  induction kk with
  | zero => intro i a ls h1 h2; exact absurd h2 (Nat.not_lt_zero _)
  | succ kk ih =>
    intro i a ls hi hkk hg hl
    refine lv_iload_n hx hb dX11_freshPlates_4 rfl (lv_at hl 0 rfl) ?_
    refine lv_bipush (v := 12) hx hb dX11_freshPlates_5 (by decide) ?_
    refine lv_icmp_ge (tgt := 27) hx hb dX11_freshPlates_7 (by decide) (fun c_1 => ?_) (fun c_1 => ?_)
    ·
      have hie : i = 12 := lp_eq rfl (by decide) hi c_1
      exact kx27 _ ls (by rw [← hie]; exact hg) (lv_sub hl [1, 2] rfl)
    ·
      have hlt : i < 12 := lp_lt rfl (by decide) hi c_1
      refine lv_aload_n hx hb dX11_freshPlates_10 rfl (lv_at hl 2 rfl) ?_
      refine lv_iload_n hx hb dX11_freshPlates_11 rfl (lv_at hl 0 rfl) ?_
      obtain ⟨kk_2, hk_3⟩ := pl_at hI.2.1.1.1 hI.2.2.2.1.1
      refine vp_callSi (va_runV (As := [.int (nI i)]) (rest := []) ⟨hx, hb, hml, hown, hts⟩ (y_isFresh l dC dI q h0 d k z f hI (nI i) u hrp hk2 hk3) (cwV 1 hts gX11_freshPlates_X11_isFresh rfl rfl rfl (by decide +kernel) ⟨Nat.le_trans (Nat.le_of_ble_eq_true rfl) hRf, Nat.le_trans (Nat.le_of_ble_eq_true rfl) hRl⟩) ⟨px_fb, va_recv hK hP (ci := 10) (q0 := kk_2) rfl hk_3, fun U hU hW => ⟨rfl, px_to hU hW hP hK hN hXN⟩⟩ rfl rfl hl.1 rfl (lv_room (Nat.le_of_ble_eq_true rfl)) dX11_freshPlates_12 ⟨hRc, hRs⟩).run (fun r hw => ?_)
      rcases hw with ⟨hw, hpp_10⟩ | ⟨hw, hpp_10, hbw_9, gp_4, bp_5, hp_6, hp_7, hp_8⟩
      ·
        subst hw
        refine lv_if_eq (tgt := 21) hx hb dX11_freshPlates_15 (by decide) (fun c_11 => ?_) (fun c_11 => absurd (by decide) c_11)
        refine lv_iinc (v := (nI (i + 1))) (lv' := [(2, .int (nI (i + 1))), (1, .int a), (0, .ref h0)]) hx hb dX11_freshPlates_21 hl (k := 0) rfl (nI_1 i) (by decide) rfl (fun ls hl => ?_)
        refine lv_goto (tgt := 4) hx hb dX11_freshPlates_24 (by decide) ?_
        exact ih (i + 1) _ ls (by omega) (by omega) (by rw [hg]; show _ = mCnt u i + (if mNow u (nI i) = true then 1 else 0); rw [if_neg (fun h => hpp_10 ((frP_now (bw11 hlt) (rp_01 hrp.2.1 _ (by rw [nI_clamp (by omega)]; exact hlt))).mpr h))]; exact (Int32.add_zero _).symm) (lv_sub hl [0, 1, 2] rfl)
      ·
        subst hw
        refine lv_if_eq (tgt := 21) hx hb dX11_freshPlates_15 (by decide) (fun c_12 => absurd c_12 (by decide)) (fun c_12 => ?_)
        obtain ⟨x_13, ex_13⟩ : ∃ y : Int32, y = a + 1 := ⟨_, rfl⟩
        refine lv_iinc (v := x_13) (lv' := [(1, .int x_13), (2, .int (nI i)), (0, .ref h0)]) hx hb dX11_freshPlates_18 hl (k := 1) rfl (by rw [ex_13]; rfl) (by decide) rfl (fun ls hl => ?_)
        refine lv_iinc (v := (nI (i + 1))) (lv' := [(2, .int (nI (i + 1))), (1, .int x_13), (0, .ref h0)]) hx hb dX11_freshPlates_21 hl (k := 1) rfl (nI_1 i) (by decide) rfl (fun ls hl => ?_)
        refine lv_goto (tgt := 4) hx hb dX11_freshPlates_24 (by decide) ?_
        exact ih (i + 1) _ ls (by omega) (by omega) (by rw [ex_13, hg]; show _ = mCnt u i + (if mNow u (nI i) = true then 1 else 0); rw [if_pos ((frP_now (bw11 hlt) (rp_01 hrp.2.1 _ (by rw [nI_clamp (by omega)]; exact hlt))).mp hpp_10)]) (lv_sub hl [0, 1, 2] rfl)
set_option maxHeartbeats 4000000 in
set_option maxRecDepth 100000 in
theorem y_freshPlates (l : Launch) (dC : Nat → ClassId) (dI : Nat → Nat → Nat) (q : Nat → ClassId) (h0 : Nat) (d : Nat → Nat) (k : Nat → Int32) (z : gS) (f : xF) (hI : xI q h0 d k z f) (u : mS) (hrp : rep q d u z f) (hk2 : k 2 = u.1 38) (hk3 : k 3 = u.1 39) : Met l yX11_freshPlates wsX11_freshPlates ({ frames := 4, cells := 0, slots := 0, locals := 84 }) (va_Pc [.ref h0] (PX dC dI (va_pl z.1 f) (xT q))) (vp_Si (fun r => r = mCnt u 12)) 0 0 (fun _ => False) := by
  refine Met.ofW (cc := cX11_freshPlates) (maxL := 3) (ret := (some .int)) (by decide) rfl ?_
  intro p e s m args below meth c s₁ B hml hv
  obtain ⟨rfl, ⟨hP, hK, hN⟩, hXN⟩ := hv
  have hx := B.exec
  have hb := B.bytes
  have hr := B.returns
  have hts := atoms_spec (ws := wsX11_freshPlates) B.pre
  have hown : s.vm.findClass RX11 = some m.cls := findClass_of_methodNamed B.named
  have hlocks := B.notSynchronized
  have hl := lv_entry ([.ref h0]) (n := 3) (Nat.le_of_ble_eq_true rfl)
  rw [lg_entry_eq]
  generalize (lg_sl ([.ref h0]) ++ List.replicate (3 - (lg_sl ([.ref h0])).length) Slot.unset).toArray = ls at hl ⊢
  have hl : lv_has ls 3 [(0, .ref h0)] := hl
  refine lv_iconst (v := 0) hx hb dX11_freshPlates_0 (by decide) ?_
  refine lv_istore_n (lv' := [(1, .int 0), (0, .ref h0)]) hx hb dX11_freshPlates_1 rfl hl (by decide) rfl (fun ls hl => ?_)
  refine lv_iconst (v := 0) hx hb dX11_freshPlates_2 (by decide) ?_
  refine lv_istore_n (lv' := [(2, .int 0), (1, .int 0), (0, .ref h0)]) hx hb dX11_freshPlates_3 rfl hl (by decide) rfl (fun ls hl => ?_)
  refine y_freshPlates_l hI hx hb hml hts hown hN hXN hK (Nat.le_of_ble_eq_true rfl) (Nat.le_of_ble_eq_true rfl) (Nat.le_of_ble_eq_true rfl) (Nat.le_of_ble_eq_true rfl) hP hrp hk2 hk3 (fun a9 ls ha9 hl => ?_) 13 0 0 ls (by decide) (by decide) rfl (lv_sub hl [0, 1, 2] rfl)
  refine lv_iload_n hx hb dX11_freshPlates_27 rfl (lv_at hl 0 rfl) ?_
  exact W.iret (v := a9) hx hb hr (fun t ht hW => ⟨_, rfl, ha9, ht⟩) (fun q h => absurd h List.not_mem_nil) dX11_freshPlates_28
