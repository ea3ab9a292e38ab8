set_option maxHeartbeats 4000000 in
set_option maxRecDepth 100000 in
theorem y_cell (l : Launch) (dC : Nat → ClassId) (dI : Nat → Nat → Nat) (q : Nat → ClassId) (h0 : Nat) (d : Nat → Nat) (k : Nat → Int32) (z : gS) (f : xF) (hI : xI q h0 d k z f) (p0 p1 p2 : Int32) (u : mS) (hrp : rep q d u z f) : Met l yX11_cell wsX11_cell ({ frames := 3, cells := 0, slots := 0, locals := 64 }) (va_Pc [.ref h0, .int p0, .int p1, .int p2] (PX dC dI (va_pl z.1 f) (xT q))) (vp_Si (fun r => r = mCellAt u p0 p1 p2)) 0 0 (fun _ => False) := by
  refine Met.ofW (cc := cX11_cell) (maxL := 4) (ret := (some .int)) (by decide) rfl ?_
  intro p e s m args below meth c s₁ B hml hv
  obtain ⟨rfl, ⟨hP, hK, hN⟩, hXN⟩ := hv
  have hx := B.exec
  have hb := B.bytes
  have hr := B.returns
  have hts := atoms_spec (ws := wsX11_cell) B.pre
  have hown : s.vm.findClass RX11 = some m.cls := findClass_of_methodNamed B.named
  have hlocks := B.notSynchronized
  have hl := lv_entry ([.ref h0, .int p0, .int p1, .int p2]) (n := 4) (Nat.le_of_ble_eq_true rfl)
  rw [lg_entry_eq]
  generalize (lg_sl ([.ref h0, .int p0, .int p1, .int p2]) ++ List.replicate (4 - (lg_sl ([.ref h0, .int p0, .int p1, .int p2])).length) Slot.unset).toArray = ls at hl ⊢
  have hl : lv_has ls 4 [(0, .ref h0), (1, .int p0), (2, .int p1), (3, .int p2)] := hl
  refine lv_iload_n hx hb dX11_cell_0 rfl (lv_at hl 1 rfl) ?_
  refine vp_callSi (va_runS (As := [.int p0]) (rest := []) ⟨hx, hb, hml, hown, hts⟩ (x_isPage l dC dI p0) (va_cwS 1 hts gX11_cell_X11_isPage rfl rfl rfl (by decide +kernel) ⟨Nat.le_of_ble_eq_true rfl, Nat.le_of_ble_eq_true rfl⟩) ⟨pw_fb, fun U hU hW => ⟨rfl, pw_to hU hW (hP.sub (ws' := []) [] rfl) (hK.sub (tys' := []) [] rfl) hN⟩⟩ rfl rfl hl.1 rfl (lv_room (Nat.le_of_ble_eq_true rfl)) dX11_cell_1 ⟨Nat.le_of_ble_eq_true rfl, Nat.le_of_ble_eq_true rfl⟩).run (fun r hw => ?_)
  rcases Bool.eq_false_or_eq_true (bw p0 0 11) with b_1 | b_1
  ·
    obtain rfl : r = 1 := b_t hw b_1
    refine lv_if_eq (tgt := 21) hx hb dX11_cell_4 (by decide) (fun c_2 => absurd c_2 (by decide)) (fun c_2 => ?_)
    refine lv_aload_n hx hb dX11_cell_7 rfl (lv_at hl 0 rfl) ?_
    obtain ⟨kk_3, hk_4⟩ := pl_at hI.2.1.1.1 hI.2.2.2.1.1
    refine va_get (D := (dC, dI)) (ci := 10) (v := .ref (d 0)) (C := RX11) (T := TX11) (N := 9) hx hb hts (by decide +kernel) hown hK hP kk_3 hk_4 rfl 0 (by decide) (hts (.fieldLink RX11 11 "PageOne" "pages" "[LPageOne$Sheet;") (by decide +kernel)) (fun _ h9 => h9) rfl dX11_cell_8 ?_
    refine lv_iload_n hx hb dX11_cell_11 rfl (lv_at hl 1 rfl) ?_
    obtain ⟨g_5, hs_6, hg_7⟩ := x_pg hI hI.2.1.2.1
    obtain ⟨kk_8, hk_9⟩ := pl_at hI.2.1.2.1.1 hs_6
    refine va_aldq hx hb hK hP kk_8 2 hk_9 rfl (vin b_1 (by decide)) dX11_cell_12 ?_
    obtain ⟨b_10, hg_11, ht_12⟩ := hg_7 _ (vlt (vin b_1 (by decide)))
    rw [hg_11]
    refine W.eq (g2 := F0 m 13 ls [.ref b_10]) rfl ?_
    refine lv_iload_n hx hb dX11_cell_13 rfl (lv_at hl 2 rfl) ?_
    refine lv_iload_n hx hb dX11_cell_14 rfl (lv_at hl 3 rfl) ?_
    obtain ⟨la_13, ca_14, m_15, dd_16, ii_17, hs_18, ht_19, ht_20⟩ := x_sh hI ht_12
    obtain ⟨g_21, hs_22, hg_23⟩ := x_ln hI ht_19
    obtain ⟨g_24, hs_25⟩ := x_ce hI ht_20
    obtain ⟨kk_26, hk_27⟩ := pl_at ht_12.1 hs_18
    refine vp_callSi (va_runV (As := [.int p1, .int p2]) (rest := []) ⟨hx, hb, hml, hown, hts⟩ (y_at l dC dI q h0 d k z f hI b_10 la_13 ca_14 m_15 dd_16 ii_17 g_21 g_24 ht_12 hs_18 ht_19 ht_20 hs_22 hg_23 hs_25 p1 p2) (cwV 2 hts gX11_cell_X9_at rfl rfl rfl (by decide +kernel) ⟨Nat.le_of_ble_eq_true rfl, Nat.le_of_ble_eq_true rfl⟩) ⟨px_fb, va_recv hK hP (ci := 8) (q0 := kk_26) rfl hk_27, fun U hU hW => ⟨rfl, px_to hU hW hP hK hN hXN⟩⟩ rfl rfl hl.1 rfl (lv_room (Nat.le_of_ble_eq_true rfl)) dX11_cell_15 ⟨Nat.le_of_ble_eq_true rfl, Nat.le_of_ble_eq_true rfl⟩).run (fun r hw => ?_)
    generalize r = zr_28 at hw ⊢
    have hzr_28 := hw
    refine lv_goto (tgt := 22) hx hb dX11_cell_18 (by decide) ?_
    exact W.iret (v := zr_28) hx hb hr (fun t ht hW => ⟨_, rfl, (by obtain ⟨P, hP1, -, eP⟩ := exN b_1 (by decide); have h11 : (11 : Int32).toInt = 11 := rfl; have hc9 := (nI_clamp (n := P) (by omega)); subst eP; have hq9 := rp_pg hrp.1 hs_6 (p := P) (by omega) (by rw [← hc9]; exact hg_11) hs_18; rw [hzr_28]; exact shAt_eq (by omega) (hq9.2.2.2.2.1 _ hs_22) (hq9.2.2.2.2.2 _ hs_25) hg_23 _ _), ht⟩) (fun q h => absurd h List.not_mem_nil) dX11_cell_22
  ·
    obtain rfl : r = 0 := b_f hw b_1
    refine lv_if_eq (tgt := 21) hx hb dX11_cell_4 (by decide) (fun c_29 => ?_) (fun c_29 => absurd (by decide) c_29)
    refine lv_iconst (v := (-1)) hx hb dX11_cell_21 (by decide) ?_
    exact W.iret (v := (-1)) hx hb hr (fun t ht hW => ⟨_, rfl, (by unfold mCellAt mCell; rw [if_neg (by rw [b_1, Bool.false_and, Bool.false_and]; decide)]), ht⟩) (fun q h => absurd h List.not_mem_nil) dX11_cell_22
theorem shE_eq {gl gc : Nat → Int32} {u : mS} {p C : Nat} (hp : p < 12) (hC : C < 8) (hl : eqR 8 gl (u.2 0) (8 * p)) (hc : eqR 480 gc (u.2 2) (480 * p)) (hb : ∀ j, j < 8 → bw (gl j) 0 60 = true) : ∀ n, n ≤ (gl C).toNatClampNeg → shE gl gc (nI C) n = mEmp (u.2 2) (480 * nI p + 60 * nI C) n
  | 0, _ => rfl
  | n + 1, h => by
    have h60 := cl60 (hb C hC)
    show shE gl gc (nI C) n + (if shAt gl gc (nI C) (nI n) = (-2) then 1 else 0) = mEmp (u.2 2) (480 * nI p + 60 * nI C) n + (if u.2 2 (480 * nI p + 60 * nI C + nI n).toNatClampNeg = (-2) then 1 else 0)
    rw [shE_eq hp hC hl hc hb n (by omega), shAt_ok hC (hb C hC) (by omega), idxN hp hC (by omega), nI_clamp (by omega), hc _ (by omega), show 480 * p + (60 * C + n) = 480 * p + 60 * C + n by omega]
set_option maxHeartbeats 4000000 in
set_option maxRecDepth 100000 in
theorem y_shortOf (l : Launch) (dC : Nat → ClassId) (dI : Nat → Nat → Nat) (q : Nat → ClassId) (h0 : Nat) (d : Nat → Nat) (k : Nat → Int32) (z : gS) (f : xF) (hI : xI q h0 d k z f) (p0 p1 : Int32) (u : mS) (hrp : rep q d u z f) : Met l yX11_shortOf wsX11_shortOf ({ frames := 4, cells := 0, slots := 0, locals := 87 }) (va_Pc [.ref h0, .int p0, .int p1] (PX dC dI (va_pl z.1 f) (xT q))) (vp_Si (fun r => r = mShort u p0 p1)) 0 0 (fun _ => False) := by
  refine Met.ofW (cc := cX11_shortOf) (maxL := 3) (ret := (some .int)) (by decide) rfl ?_
  intro p e s m args below meth c s₁ B hml hv
  obtain ⟨rfl, ⟨hP, hK, hN⟩, hXN⟩ := hv
  have hx := B.exec
  have hb := B.bytes
  have hr := B.returns
  have hts := atoms_spec (ws := wsX11_shortOf) B.pre
  have hown : s.vm.findClass RX11 = some m.cls := findClass_of_methodNamed B.named
  have hlocks := B.notSynchronized
  have hl := lv_entry ([.ref h0, .int p0, .int p1]) (n := 3) (Nat.le_of_ble_eq_true rfl)
  rw [lg_entry_eq]
  generalize (lg_sl ([.ref h0, .int p0, .int p1]) ++ List.replicate (3 - (lg_sl ([.ref h0, .int p0, .int p1])).length) Slot.unset).toArray = ls at hl ⊢
  have hl : lv_has ls 3 [(0, .ref h0), (1, .int p0), (2, .int p1)] := hl
  refine lv_iload_n hx hb dX11_shortOf_0 rfl (lv_at hl 1 rfl) ?_
  refine vp_callSi (va_runS (As := [.int p0]) (rest := []) ⟨hx, hb, hml, hown, hts⟩ (x_isPage l dC dI p0) (va_cwS 1 hts gX11_shortOf_X11_isPage rfl rfl rfl (by decide +kernel) ⟨Nat.le_of_ble_eq_true rfl, Nat.le_of_ble_eq_true rfl⟩) ⟨pw_fb, fun U hU hW => ⟨rfl, pw_to hU hW (hP.sub (ws' := []) [] rfl) (hK.sub (tys' := []) [] rfl) hN⟩⟩ rfl rfl hl.1 rfl (lv_room (Nat.le_of_ble_eq_true rfl)) dX11_shortOf_1 ⟨Nat.le_of_ble_eq_true rfl, Nat.le_of_ble_eq_true rfl⟩).run (fun r hw => ?_)
  rcases Bool.eq_false_or_eq_true (bw p0 0 11) with b_1 | b_1
  ·
    obtain rfl : r = 1 := b_t hw b_1
    refine lv_if_eq (tgt := 27) hx hb dX11_shortOf_4 (by decide) (fun c_2 => absurd c_2 (by decide)) (fun c_2 => ?_)
    refine lv_iload_n hx hb dX11_shortOf_7 rfl (lv_at hl 2 rfl) ?_
    refine vp_callSi (va_runS (As := [.int p1]) (rest := []) ⟨hx, hb, hml, hown, hts⟩ (x_isColumn l dC dI p1) (va_cwS 1 hts gX11_shortOf_X11_isColumn rfl rfl rfl (by decide +kernel) ⟨Nat.le_of_ble_eq_true rfl, Nat.le_of_ble_eq_true rfl⟩) ⟨pw_fb, fun U hU hW => ⟨rfl, pw_to hU hW (hP.sub (ws' := []) [] rfl) (hK.sub (tys' := []) [] rfl) hN⟩⟩ rfl rfl hl.1 rfl (lv_room (Nat.le_of_ble_eq_true rfl)) dX11_shortOf_8 ⟨Nat.le_of_ble_eq_true rfl, Nat.le_of_ble_eq_true rfl⟩).run (fun r hw => ?_)
    rcases Bool.eq_false_or_eq_true (bw p1 0 7) with b_3 | b_3
    ·
      obtain rfl : r = 1 := b_t hw b_3
      refine lv_if_eq (tgt := 27) hx hb dX11_shortOf_11 (by decide) (fun c_4 => absurd c_4 (by decide)) (fun c_4 => ?_)
      refine lv_aload_n hx hb dX11_shortOf_14 rfl (lv_at hl 0 rfl) ?_
      obtain ⟨kk_5, hk_6⟩ := pl_at hI.2.1.1.1 hI.2.2.2.1.1
      refine va_get (D := (dC, dI)) (ci := 10) (v := .ref (d 0)) (C := RX11) (T := TX11) (N := 9) hx hb hts (by decide +kernel) hown hK hP kk_5 hk_6 rfl 0 (by decide) (hts (.fieldLink RX11 11 "PageOne" "pages" "[LPageOne$Sheet;") (by decide +kernel)) (fun _ h9 => h9) rfl dX11_shortOf_15 ?_
      refine lv_iload_n hx hb dX11_shortOf_18 rfl (lv_at hl 1 rfl) ?_
      obtain ⟨g_7, hs_8, hg_9⟩ := x_pg hI hI.2.1.2.1
      obtain ⟨kk_10, hk_11⟩ := pl_at hI.2.1.2.1.1 hs_8
      refine va_aldq hx hb hK hP kk_10 2 hk_11 rfl (vin b_1 (by decide)) dX11_shortOf_19 ?_
      obtain ⟨b_12, hg_13, ht_14⟩ := hg_9 _ (vlt (vin b_1 (by decide)))
      rw [hg_13]
      refine W.eq (g2 := F0 m 20 ls [.ref b_12]) rfl ?_
      refine lv_iload_n hx hb dX11_shortOf_20 rfl (lv_at hl 2 rfl) ?_
      obtain ⟨la_15, ca_16, m_17, dd_18, ii_19, hs_20, ht_21, ht_22⟩ := x_sh hI ht_14
      obtain ⟨g_23, hs_24, hg_25⟩ := x_ln hI ht_21
      obtain ⟨g_26, hs_27⟩ := x_ce hI ht_22
      obtain ⟨kk_28, hk_29⟩ := pl_at ht_14.1 hs_20
      refine vp_callSi (va_runV (As := [.int p1]) (rest := []) ⟨hx, hb, hml, hown, hts⟩ (y_emptyIn l dC dI q h0 d k z f hI b_12 la_15 ca_16 m_17 dd_18 ii_19 g_23 g_26 ht_14 hs_20 ht_21 ht_22 hs_24 hg_25 hs_27 p1 b_3) (cwV 1 hts gX11_shortOf_X9_emptyIn rfl rfl rfl (by decide +kernel) ⟨Nat.le_of_ble_eq_true rfl, Nat.le_of_ble_eq_true rfl⟩) ⟨px_fb, va_recv hK hP (ci := 8) (q0 := kk_28) rfl hk_29, fun U hU hW => ⟨rfl, px_to hU hW hP hK hN hXN⟩⟩ rfl rfl hl.1 rfl (lv_room (Nat.le_of_ble_eq_true rfl)) dX11_shortOf_21 ⟨Nat.le_of_ble_eq_true rfl, Nat.le_of_ble_eq_true rfl⟩).run (fun r hw => ?_)
      generalize r = zr_30 at hw ⊢
      have hzr_30 := hw
      refine lv_goto (tgt := 28) hx hb dX11_shortOf_24 (by decide) ?_
      exact W.iret (v := zr_30) hx hb hr (fun t ht hW => ⟨_, rfl, (by obtain ⟨P, hP1, -, eP⟩ := exN b_1 (by decide); obtain ⟨C, hC1, -, eC⟩ := exN b_3 (by decide); have h11 : (11 : Int32).toInt = 11 := rfl; have h7 : (7 : Int32).toInt = 7 := rfl; have hc9 := (nI_clamp (n := P) (by omega)); subst eP eC; have hq9 := rp_pg hrp.1 hs_8 (p := P) (by omega) (by rw [← hc9]; exact hg_13) hs_20; rw [hzr_30]; unfold mShort; rw [if_pos b_1, if_pos b_3, nI_clamp (n := C) (by omega), show (8 * nI P + nI C).toNatClampNeg = 8 * P + C from by rw [show (8 : Int32) = nI 8 from rfl, pk_mul, nI_add, nI_clamp (by omega)], ← hq9.2.2.2.2.1 _ hs_24 C (by omega)]; exact shE_eq (by omega) (by omega) (hq9.2.2.2.2.1 _ hs_24) (hq9.2.2.2.2.2 _ hs_27) hg_25 _ (Nat.le_refl _)), ht⟩) (fun q h => absurd h List.not_mem_nil) dX11_shortOf_28
    ·
      obtain rfl : r = 0 := b_f hw b_3
      refine lv_if_eq (tgt := 27) hx hb dX11_shortOf_11 (by decide) (fun c_31 => ?_) (fun c_31 => absurd (by decide) c_31)
      refine lv_iconst (v := (-1)) hx hb dX11_shortOf_27 (by decide) ?_
      exact W.iret (v := (-1)) hx hb hr (fun t ht hW => ⟨_, rfl, (by unfold mShort; rw [if_pos b_1, if_neg (bne b_3)]), ht⟩) (fun q h => absurd h List.not_mem_nil) dX11_shortOf_28
  ·
    obtain rfl : r = 0 := b_f hw b_1
    refine lv_if_eq (tgt := 27) hx hb dX11_shortOf_4 (by decide) (fun c_32 => ?_) (fun c_32 => absurd (by decide) c_32)
    refine lv_iconst (v := (-1)) hx hb dX11_shortOf_27 (by decide) ?_
    exact W.iret (v := (-1)) hx hb hr (fun t ht hW => ⟨_, rfl, (by unfold mShort; rw [if_neg (bne b_1)]), ht⟩) (fun q h => absurd h List.not_mem_nil) dX11_shortOf_28
theorem rp_pl {q d u z f} (h : rPl q d u z f) {g : Nat → Option Nat} (hg : f (d 1) = aR (q 2) 12 g) {p : Nat} (hp : p < 12) : (g p = none → u.2 40 p = 0) ∧ ∀ b, g p = some b → u.2 40 p = 1 ∧ b = d (1000 + p) ∧ ∀ la ca m dd ii, f b = .inr (8, [.ref la, .ref ca, .int m, .int dd, .int ii]) → dd = u.2 41 p ∧ ii = u.2 42 p ∧ (∀ gl, f la = aI (q 0) 8 gl → eqR 8 gl (u.2 43) (8 * p)) ∧ ∀ gc, f ca = aI (q 0) 480 gc → eqR 480 gc (u.2 44) (480 * p) := by
  obtain ⟨g2, a1, a2⟩ := h
  have eg := (aR_inj (hg.symm.trans a1)).2
  rw [eg]
  rcases a2 p hp with ⟨b1, b2⟩ | ⟨b1, b2, n1, n2, n3, m2, s1, ⟨gl, s2, s3⟩, gc, s4, s5⟩
  · exact ⟨fun _ => b1, fun b hb => by rw [b2] at hb; cases hb⟩
  · refine ⟨fun h0 => (by rw [b2] at h0; cases h0), fun b hb => ?_⟩
    have eb : b = d (1000 + p) := Option.some.inj (hb.symm.trans b2)
    refine ⟨b1, eb, fun la ca m dd ii hs => ?_⟩
    rw [eb] at hs
    obtain ⟨e1, e2, e3, e4, e5⟩ := sh_inj (hs.symm.trans s1)
    subst e1 e2
    exact ⟨e4, e5, fun gl2 hl => by rw [(aI_inj (hl.symm.trans s2)).2]; exact s3, fun gc2 hc => by rw [(aI_inj (hc.symm.trans s4)).2]; exact s5⟩
/-- whether a page has a plate -/
def hpP (u : mS) (p : Int32) : Prop := bw p 0 11 = true ∧ u.2 40 p.toNatClampNeg = 1
theorem clp {p : Int32} (h : bw p 0 11 = true) : p.toNatClampNeg < 12 := vlt (vin h (by decide))
set_option maxHeartbeats 4000000 in
set_option maxRecDepth 100000 in
theorem y_hasPlate (l : Launch) (dC : Nat → ClassId) (dI : Nat → Nat → Nat) (q : Nat → ClassId) (h0 : Nat) (d : Nat → Nat) (k : Nat → Int32) (z : gS) (f : xF) (hI : xI q h0 d k z f) (p0 : Int32) (u : mS) (hrp : rep q d u z f) : Met l yX11_hasPlate wsX11_hasPlate ({ frames := 2, cells := 0, slots := 0, locals := 42 }) (va_Pc [.ref h0, .int p0] (PX dC dI (va_pl z.1 f) (xT q))) (vp_Si (fun r => (r = 0 ∧ ¬ hpP u p0) ∨ (r = 1 ∧ hpP u p0 ∧ xPl q d z f p0))) 0 0 (fun _ => False) := by
  refine Met.ofW (cc := cX11_hasPlate) (maxL := 2) (ret := (some .boolean)) (by decide) rfl ?_
  intro p e s m args below meth c s₁ B hml hv
  obtain ⟨rfl, ⟨hP, hK, hN⟩, hXN⟩ := hv
  have hx := B.exec
  have hb := B.bytes
  have hr := B.returns
  have hts := atoms_spec (ws := wsX11_hasPlate) B.pre
  have hown : s.vm.findClass RX11 = some m.cls := findClass_of_methodNamed B.named
  have hlocks := B.notSynchronized
  have hl := lv_entry ([.ref h0, .int p0]) (n := 2) (Nat.le_of_ble_eq_true rfl)
  rw [lg_entry_eq]
  generalize (lg_sl ([.ref h0, .int p0]) ++ List.replicate (2 - (lg_sl ([.ref h0, .int p0])).length) Slot.unset).toArray = ls at hl ⊢
  have hl : lv_has ls 2 [(0, .ref h0), (1, .int p0)] := hl
  refine lv_iload_n hx hb dX11_hasPlate_0 rfl (lv_at hl 1 rfl) ?_
  refine vp_callSi (va_runS (As := [.int p0]) (rest := []) ⟨hx, hb, hml, hown, hts⟩ (x_isPage l dC dI p0) (va_cwS 1 hts gX11_hasPlate_X11_isPage rfl rfl rfl (by decide +kernel) ⟨Nat.le_of_ble_eq_true rfl, Nat.le_of_ble_eq_true rfl⟩) ⟨pw_fb, fun U hU hW => ⟨rfl, pw_to hU hW (hP.sub (ws' := []) [] rfl) (hK.sub (tys' := []) [] rfl) hN⟩⟩ rfl rfl hl.1 rfl (lv_room (Nat.le_of_ble_eq_true rfl)) dX11_hasPlate_1 ⟨Nat.le_of_ble_eq_true rfl, Nat.le_of_ble_eq_true rfl⟩).run (fun r hw => ?_)
  rcases Bool.eq_false_or_eq_true (bw p0 0 11) with b_1 | b_1
  ·
    obtain rfl : r = 1 := b_t hw b_1
    refine lv_if_eq (tgt := 20) hx hb dX11_hasPlate_4 (by decide) (fun c_2 => absurd c_2 (by decide)) (fun c_2 => ?_)
    refine lv_aload_n hx hb dX11_hasPlate_7 rfl (lv_at hl 0 rfl) ?_
    obtain ⟨kk_3, hk_4⟩ := pl_at hI.2.1.1.1 hI.2.2.2.1.1
    refine va_get (D := (dC, dI)) (ci := 10) (v := .ref (d 1)) (C := RX11) (T := TX11) (N := 9) hx hb hts (by decide +kernel) hown hK hP kk_3 hk_4 rfl 1 (by decide) (hts (.fieldLink RX11 15 "PageOne" "plates" "[LPageOne$Sheet;") (by decide +kernel)) (fun _ h9 => h9) rfl dX11_hasPlate_8 ?_
    refine lv_iload_n hx hb dX11_hasPlate_11 rfl (lv_at hl 1 rfl) ?_
    obtain ⟨g_5, hs_6, hg_7⟩ := x_pl hI hI.2.1.2.2.1
    obtain ⟨kk_8, hk_9⟩ := pl_at hI.2.1.2.2.1.1 hs_6
    refine va_aldq hx hb hK hP kk_8 2 hk_9 rfl (vin b_1 (by decide)) dX11_hasPlate_12 ?_
    rcases hg_11 : (g_5 (p0 : Int32).toNatClampNeg) with _ | b_10
    ·
      refine W.eq (g2 := F0 m 13 ls [.null]) rfl ?_
      refine lv_ifnullN (tgt := 20) hx hb dX11_hasPlate_13 (by decide) ?_
      refine lv_iconst (v := 0) hx hb dX11_hasPlate_20 (by decide) ?_
      exact W.zret (v := 0) hx hb hr (by decide) (fun t ht hW => ⟨_, rfl, (Or.inl ⟨rfl, fun h => by have h9 := (rp_pl hrp.2.1 hs_6 (clp b_1)).1 hg_11; rw [h.2] at h9; exact absurd h9 (by decide)⟩), ht⟩) (fun q h => absurd h List.not_mem_nil) dX11_hasPlate_21
    ·
      have ht_12 := hg_7 (p0 : Int32).toNatClampNeg (vlt (vin b_1 (by decide))) b_10 hg_11
      refine W.eq (g2 := F0 m 13 ls [.ref b_10]) rfl ?_
      refine lv_ifnull hx hb dX11_hasPlate_13 ?_
      refine lv_iconst (v := 1) hx hb dX11_hasPlate_16 (by decide) ?_
      refine lv_goto (tgt := 21) hx hb dX11_hasPlate_17 (by decide) ?_
      exact W.zret (v := 1) hx hb hr (by decide) (fun t ht hW => ⟨_, rfl, (Or.inr ⟨rfl, ⟨b_1, ((rp_pl hrp.2.1 hs_6 (clp b_1)).2 _ hg_11).1⟩, b_1, g_5, b_10, hs_6, hg_11, ht_12⟩), ht⟩) (fun q h => absurd h List.not_mem_nil) dX11_hasPlate_21
  ·
    obtain rfl : r = 0 := b_f hw b_1
    refine lv_if_eq (tgt := 20) hx hb dX11_hasPlate_4 (by decide) (fun c_13 => ?_) (fun c_13 => absurd (by decide) c_13)
    refine lv_iconst (v := 0) hx hb dX11_hasPlate_20 (by decide) ?_
    exact W.zret (v := 0) hx hb hr (by decide) (fun t ht hW => ⟨_, rfl, (Or.inl ⟨rfl, fun h => bne b_1 h.1⟩), ht⟩) (fun q h => absurd h List.not_mem_nil) dX11_hasPlate_21
theorem plO_n {u : mS} {p w : Int32} (h : ¬ hpP u p) (h01 : ∀ j, j < 12 → u.2 40 j = 0 ∨ u.2 40 j = 1) : mPlateOf u p w = (-1) := by
  unfold mPlateOf
  by_cases b : bw p 0 11 = true
  · rw [if_pos b]
    rcases h01 _ (clp b) with e | e
    · rw [if_pos e]
    · exact absurd ⟨b, e⟩ h
  · rw [if_neg b]
theorem plO_s {u : mS} {p w : Int32} (h : hpP u p) : mPlateOf u p w = if w = 0 then u.2 41 p.toNatClampNeg else if w = 1 then u.2 42 p.toNatClampNeg else (-1) := by
  unfold mPlateOf
  rw [if_pos h.1, if_neg (by rw [h.2]; decide)]
theorem rp_01 {q d u z f} (h : rPl q d u z f) : ∀ j, j < 12 → u.2 40 j = 0 ∨ u.2 40 j = 1 := by
  obtain ⟨g, -, a⟩ := h
  intro j hj
  rcases a j hj with x | x
  · exact Or.inl x.1
  · exact Or.inr x.1
set_option maxHeartbeats 4000000 in
set_option maxRecDepth 100000 in
theorem y_plateOf (l : Launch) (dC : Nat → ClassId) (dI : Nat → Nat → Nat) (q : Nat → ClassId) (h0 : Nat) (d : Nat → Nat) (k : Nat → Int32) (z : gS) (f : xF) (hI : xI q h0 d k z f) (p0 p1 : Int32) (u : mS) (hrp : rep q d u z f) : Met l yX11_plateOf wsX11_plateOf ({ frames := 3, cells := 0, slots := 0, locals := 63 }) (va_Pc [.ref h0, .int p0, .int p1] (PX dC dI (va_pl z.1 f) (xT q))) (vp_Si (fun r => r = mPlateOf u p0 p1)) 0 0 (fun _ => False) := by
  refine Met.ofW (cc := cX11_plateOf) (maxL := 3) (ret := (some .int)) (by decide) rfl ?_
  intro p e s m args below meth c s₁ B hml hv
  obtain ⟨rfl, ⟨hP, hK, hN⟩, hXN⟩ := hv
  have hx := B.exec
  have hb := B.bytes
  have hr := B.returns
  have hts := atoms_spec (ws := wsX11_plateOf) B.pre
  have hown : s.vm.findClass RX11 = some m.cls := findClass_of_methodNamed B.named
  have hlocks := B.notSynchronized
  have hl := lv_entry ([.ref h0, .int p0, .int p1]) (n := 3) (Nat.le_of_ble_eq_true rfl)
  rw [lg_entry_eq]
  generalize (lg_sl ([.ref h0, .int p0, .int p1]) ++ List.replicate (3 - (lg_sl ([.ref h0, .int p0, .int p1])).length) Slot.unset).toArray = ls at hl ⊢
  have hl : lv_has ls 3 [(0, .ref h0), (1, .int p0), (2, .int p1)] := hl
  refine lv_aload_n hx hb dX11_plateOf_0 rfl (lv_at hl 0 rfl) ?_
  refine lv_iload_n hx hb dX11_plateOf_1 rfl (lv_at hl 1 rfl) ?_
  obtain ⟨kk_1, hk_2⟩ := pl_at hI.2.1.1.1 hI.2.2.2.1.1
  refine vp_callSi (va_runV (As := [.int p0]) (rest := []) ⟨hx, hb, hml, hown, hts⟩ (y_hasPlate l dC dI q h0 d k z f hI p0 u hrp) (cwV 1 hts gX11_plateOf_X11_hasPlate rfl rfl rfl (by decide +kernel) ⟨Nat.le_of_ble_eq_true rfl, Nat.le_of_ble_eq_true rfl⟩) ⟨px_fb, va_recv hK hP (ci := 10) (q0 := kk_1) rfl hk_2, fun U hU hW => ⟨rfl, px_to hU hW hP hK hN hXN⟩⟩ rfl rfl hl.1 rfl (lv_room (Nat.le_of_ble_eq_true rfl)) dX11_plateOf_2 ⟨Nat.le_of_ble_eq_true rfl, Nat.le_of_ble_eq_true rfl⟩).run (fun r hw => ?_)
  rcases hw with ⟨hw, hpp_9⟩ | ⟨hw, hpp_9, hbw_8, gp_3, bp_4, hp_5, hp_6, hp_7⟩
  ·
    subst hw
    refine lv_if_ne (tgt := 10) hx hb dX11_plateOf_5 (by decide) (fun c_10 => absurd (by decide) c_10) (fun c_10 => ?_)
    refine lv_iconst (v := (-1)) hx hb dX11_plateOf_8 (by decide) ?_
    exact W.iret (v := (-1)) hx hb hr (fun t ht hW => ⟨_, rfl, (plO_n hpp_9 (rp_01 hrp.2.1)).symm, ht⟩) (fun q h => absurd h List.not_mem_nil) dX11_plateOf_9
  ·
    subst hw
    refine lv_if_ne (tgt := 10) hx hb dX11_plateOf_5 (by decide) (fun c_11 => ?_) (fun c_11 => absurd c_11 (by decide))
    refine lv_iload_n hx hb dX11_plateOf_10 rfl (lv_at hl 2 rfl) ?_
    rcases Classical.em (p1 = 0) with s_12 | s_12
    ·
      subst s_12
      refine lv_lookup (tgt := 36) (off := 25) hx hb dX11_plateOf_11 (by decide) (by decide) (by decide) ?_
      refine lv_aload_n hx hb dX11_plateOf_36 rfl (lv_at hl 0 rfl) ?_
      obtain ⟨kk_13, hk_14⟩ := pl_at hI.2.1.1.1 hI.2.2.2.1.1
      refine va_get (D := (dC, dI)) (ci := 10) (v := .ref (d 1)) (C := RX11) (T := TX11) (N := 9) hx hb hts (by decide +kernel) hown hK hP kk_13 hk_14 rfl 1 (by decide) (hts (.fieldLink RX11 15 "PageOne" "plates" "[LPageOne$Sheet;") (by decide +kernel)) (fun _ h9 => h9) rfl dX11_plateOf_37 ?_
      refine lv_iload_n hx hb dX11_plateOf_40 rfl (lv_at hl 1 rfl) ?_
      obtain ⟨kk_15, hk_16⟩ := pl_at hI.2.1.2.2.1.1 hp_5
      refine va_aldq hx hb hK hP kk_15 2 hk_16 rfl (vin hbw_8 (by decide)) dX11_plateOf_41 ?_
      rw [hp_6]
      refine W.eq (g2 := F0 m 42 ls [.ref bp_4]) rfl ?_
      obtain ⟨la_17, ca_18, m_19, dd_20, ii_21, hs_22, ht_23, ht_24⟩ := x_sh hI hp_7
      obtain ⟨kk_25, hk_26⟩ := pl_at hp_7.1 hs_22
      refine va_get (D := (dC, dI)) (ci := 8) (v := .int dd_20) (C := RX9) (T := TX9) (N := 5) hx hb hts (by decide +kernel) hown hK hP kk_25 hk_26 rfl 3 (by decide) (hts (.fieldLink RX11 210 "PageOne$Sheet" "day" "I") (by decide +kernel)) (fun _ h9 => h9) rfl dX11_plateOf_42 ?_
      exact W.iret (v := dd_20) hx hb hr (fun t ht hW => ⟨_, rfl, (by rw [plO_s hpp_9]; first | (rw [if_pos rfl]; exact (((rp_pl hrp.2.1 hp_5 (clp hbw_8)).2 _ hp_6).2.2 _ _ _ _ _ hs_22).1) | (rw [if_neg (by decide), if_pos rfl]; exact (((rp_pl hrp.2.1 hp_5 (clp hbw_8)).2 _ hp_6).2.2 _ _ _ _ _ hs_22).2.1)), ht⟩) (fun q h => absurd h List.not_mem_nil) dX11_plateOf_45
    ·
      rcases Classical.em (p1 = 1) with s_27 | s_27
      ·
        subst s_27
        refine lv_lookup (tgt := 46) (off := 35) hx hb dX11_plateOf_11 (by decide) (by decide) (by decide) ?_
        refine lv_aload_n hx hb dX11_plateOf_46 rfl (lv_at hl 0 rfl) ?_
        obtain ⟨kk_28, hk_29⟩ := pl_at hI.2.1.1.1 hI.2.2.2.1.1
        refine va_get (D := (dC, dI)) (ci := 10) (v := .ref (d 1)) (C := RX11) (T := TX11) (N := 9) hx hb hts (by decide +kernel) hown hK hP kk_28 hk_29 rfl 1 (by decide) (hts (.fieldLink RX11 15 "PageOne" "plates" "[LPageOne$Sheet;") (by decide +kernel)) (fun _ h9 => h9) rfl dX11_plateOf_47 ?_
        refine lv_iload_n hx hb dX11_plateOf_50 rfl (lv_at hl 1 rfl) ?_
        obtain ⟨kk_30, hk_31⟩ := pl_at hI.2.1.2.2.1.1 hp_5
        refine va_aldq hx hb hK hP kk_30 2 hk_31 rfl (vin hbw_8 (by decide)) dX11_plateOf_51 ?_
        rw [hp_6]
        refine W.eq (g2 := F0 m 52 ls [.ref bp_4]) rfl ?_
        obtain ⟨la_32, ca_33, m_34, dd_35, ii_36, hs_37, ht_38, ht_39⟩ := x_sh hI hp_7
        obtain ⟨kk_40, hk_41⟩ := pl_at hp_7.1 hs_37
        refine va_get (D := (dC, dI)) (ci := 8) (v := .int ii_36) (C := RX9) (T := TX9) (N := 5) hx hb hts (by decide +kernel) hown hK hP kk_40 hk_41 rfl 4 (by decide) (hts (.fieldLink RX11 213 "PageOne$Sheet" "edition" "I") (by decide +kernel)) (fun _ h9 => h9) rfl dX11_plateOf_52 ?_
        exact W.iret (v := ii_36) hx hb hr (fun t ht hW => ⟨_, rfl, (by rw [plO_s hpp_9]; first | (rw [if_pos rfl]; exact (((rp_pl hrp.2.1 hp_5 (clp hbw_8)).2 _ hp_6).2.2 _ _ _ _ _ hs_37).1) | (rw [if_neg (by decide), if_pos rfl]; exact (((rp_pl hrp.2.1 hp_5 (clp hbw_8)).2 _ hp_6).2.2 _ _ _ _ _ hs_37).2.1)), ht⟩) (fun q h => absurd h List.not_mem_nil) dX11_plateOf_55
      ·
        refine lv_lookup (tgt := 56) (off := 45) hx hb dX11_plateOf_11 (by decide) ((lv_osw s_12 rfl).trans ((lv_osw s_27 rfl).trans (rfl))) (by decide) ?_
        refine lv_iconst (v := (-1)) hx hb dX11_plateOf_56 (by decide) ?_
        exact W.iret (v := (-1)) hx hb hr (fun t ht hW => ⟨_, rfl, (by rw [plO_s hpp_9, if_neg s_12, if_neg s_27]), ht⟩) (fun q h => absurd h List.not_mem_nil) dX11_plateOf_57
theorem shAtR {gl gc r0 r1 : Nat → Int32} {p : Nat} (hp : p < 12) (hl : eqR 8 gl r0 (8 * p)) (hc : eqR 480 gc r1 (480 * p)) (hb : ∀ j, j < 8 → bw (gl j) 0 60 = true) (c l : Int32) : shAt gl gc c l = if bw c 0 7 = true then (if bw l 0 (r0 (8 * nI p + c).toNatClampNeg - 1) = true then r1 (480 * nI p + 60 * c + l).toNatClampNeg else (-1)) else (-1) := by
  unfold shAt
  by_cases h1 : bw c 0 7 = true
  · obtain ⟨C, hC, -, eC⟩ := exN h1 (by decide)
    have h7 : (7 : Int32).toInt = 7 := rfl
    subst eC
    have e0 : (8 * nI p + nI C).toNatClampNeg = 8 * p + C := by rw [show (8 : Int32) = nI 8 from rfl, pk_mul, nI_add, nI_clamp (by omega)]
    rw [if_pos h1, if_pos h1, nI_clamp (by omega), hl C (by omega), e0]
    by_cases h2 : bw l 0 (r0 (8 * p + C) - 1) = true
    · rw [if_pos h2, if_pos h2]
      have hb1 := hb C (by omega)
      rw [hl C (by omega)] at hb1
      obtain ⟨L, hL, -, eL⟩ := exN (b59 hb1 h2) (by decide)
      have h59 : (59 : Int32).toInt = 59 := rfl
      subst eL
      have e1 : (nI C * 60 + nI L).toNatClampNeg = 60 * C + L := by rw [show (60 : Int32) = nI 60 from rfl, pk_mul, nI_add, nI_clamp (by omega)]; omega
      have e2 : (480 * nI p + 60 * nI C + nI L).toNatClampNeg = 480 * p + (60 * C + L) := by rw [idxN hp (by omega) (by omega), nI_clamp (by omega)]; omega
      rw [e1, e2]
      exact hc _ (by omega)
    · rw [if_neg h2, if_neg h2]
  · rw [if_neg h1, if_neg h1]
theorem pld_n {u : mS} {p c l : Int32} (h : ¬ hpP u p) (h01 : ∀ j, j < 12 → u.2 40 j = 0 ∨ u.2 40 j = 1) : mPlated u p c l = (-1) := by
  unfold mPlated
  by_cases b : bw p 0 11 = true
  · rw [if_pos b]
    rcases h01 _ (clp b) with e | e
    · rw [if_pos e]
    · exact absurd ⟨b, e⟩ h
  · rw [if_neg b]
/-- a plate of this edition -/
def frP (u : mS) (p : Int32) : Prop := hpP u p ∧ u.2 41 p.toNatClampNeg = u.1 38 ∧ u.2 42 p.toNatClampNeg = u.1 39
set_option maxHeartbeats 4000000 in
set_option maxRecDepth 100000 in
theorem y_plated (l : Launch) (dC : Nat → ClassId) (dI : Nat → Nat → Nat) (q : Nat → ClassId) (h0 : Nat) (d : Nat → Nat) (k : Nat → Int32) (z : gS) (f : xF) (hI : xI q h0 d k z f) (p0 p1 p2 : Int32) (u : mS) (hrp : rep q d u z f) : Met l yX11_plated wsX11_plated ({ frames := 3, cells := 0, slots := 0, locals := 64 }) (va_Pc [.ref h0, .int p0, .int p1, .int p2] (PX dC dI (va_pl z.1 f) (xT q))) (vp_Si (fun r => r = mPlated u p0 p1 p2)) 0 0 (fun _ => False) := by
  refine Met.ofW (cc := cX11_plated) (maxL := 4) (ret := (some .int)) (by decide) rfl ?_
  intro p e s m args below meth c s₁ B hml hv
  obtain ⟨rfl, ⟨hP, hK, hN⟩, hXN⟩ := hv
  have hx := B.exec
  have hb := B.bytes
  have hr := B.returns
  have hts := atoms_spec (ws := wsX11_plated) B.pre
  have hown : s.vm.findClass RX11 = some m.cls := findClass_of_methodNamed B.named
  have hlocks := B.notSynchronized
  have hl := lv_entry ([.ref h0, .int p0, .int p1, .int p2]) (n := 4) (Nat.le_of_ble_eq_true rfl)
  rw [lg_entry_eq]
  generalize (lg_sl ([.ref h0, .int p0, .int p1, .int p2]) ++ List.replicate (4 - (lg_sl ([.ref h0, .int p0, .int p1, .int p2])).length) Slot.unset).toArray = ls at hl ⊢
  have hl : lv_has ls 4 [(0, .ref h0), (1, .int p0), (2, .int p1), (3, .int p2)] := hl
  refine lv_aload_n hx hb dX11_plated_0 rfl (lv_at hl 0 rfl) ?_
  refine lv_iload_n hx hb dX11_plated_1 rfl (lv_at hl 1 rfl) ?_
  obtain ⟨kk_1, hk_2⟩ := pl_at hI.2.1.1.1 hI.2.2.2.1.1
  refine vp_callSi (va_runV (As := [.int p0]) (rest := []) ⟨hx, hb, hml, hown, hts⟩ (y_hasPlate l dC dI q h0 d k z f hI p0 u hrp) (cwV 1 hts gX11_plated_X11_hasPlate rfl rfl rfl (by decide +kernel) ⟨Nat.le_of_ble_eq_true rfl, Nat.le_of_ble_eq_true rfl⟩) ⟨px_fb, va_recv hK hP (ci := 10) (q0 := kk_1) rfl hk_2, fun U hU hW => ⟨rfl, px_to hU hW hP hK hN hXN⟩⟩ rfl rfl hl.1 rfl (lv_room (Nat.le_of_ble_eq_true rfl)) dX11_plated_2 ⟨Nat.le_of_ble_eq_true rfl, Nat.le_of_ble_eq_true rfl⟩).run (fun r hw => ?_)
  rcases hw with ⟨hw, hpp_9⟩ | ⟨hw, hpp_9, hbw_8, gp_3, bp_4, hp_5, hp_6, hp_7⟩
  ·
    subst hw
    refine lv_if_eq (tgt := 22) hx hb dX11_plated_5 (by decide) (fun c_10 => ?_) (fun c_10 => absurd (by decide) c_10)
    refine lv_iconst (v := (-1)) hx hb dX11_plated_22 (by decide) ?_
    exact W.iret (v := (-1)) hx hb hr (fun t ht hW => ⟨_, rfl, (pld_n hpp_9 (rp_01 hrp.2.1)).symm, ht⟩) (fun q h => absurd h List.not_mem_nil) dX11_plated_23
  ·
    subst hw
    refine lv_if_eq (tgt := 22) hx hb dX11_plated_5 (by decide) (fun c_11 => absurd c_11 (by decide)) (fun c_11 => ?_)
    refine lv_aload_n hx hb dX11_plated_8 rfl (lv_at hl 0 rfl) ?_
    obtain ⟨kk_12, hk_13⟩ := pl_at hI.2.1.1.1 hI.2.2.2.1.1
    refine va_get (D := (dC, dI)) (ci := 10) (v := .ref (d 1)) (C := RX11) (T := TX11) (N := 9) hx hb hts (by decide +kernel) hown hK hP kk_12 hk_13 rfl 1 (by decide) (hts (.fieldLink RX11 15 "PageOne" "plates" "[LPageOne$Sheet;") (by decide +kernel)) (fun _ h9 => h9) rfl dX11_plated_9 ?_
    refine lv_iload_n hx hb dX11_plated_12 rfl (lv_at hl 1 rfl) ?_
    obtain ⟨kk_14, hk_15⟩ := pl_at hI.2.1.2.2.1.1 hp_5
    refine va_aldq hx hb hK hP kk_14 2 hk_15 rfl (vin hbw_8 (by decide)) dX11_plated_13 ?_
    rw [hp_6]
    refine W.eq (g2 := F0 m 14 ls [.ref bp_4]) rfl ?_
    refine lv_iload_n hx hb dX11_plated_14 rfl (lv_at hl 2 rfl) ?_
    refine lv_iload_n hx hb dX11_plated_15 rfl (lv_at hl 3 rfl) ?_
    obtain ⟨la_16, ca_17, m_18, dd_19, ii_20, hs_21, ht_22, ht_23⟩ := x_sh hI hp_7
    obtain ⟨g_24, hs_25, hg_26⟩ := x_ln hI ht_22
    obtain ⟨g_27, hs_28⟩ := x_ce hI ht_23
    obtain ⟨kk_29, hk_30⟩ := pl_at hp_7.1 hs_21
    refine vp_callSi (va_runV (As := [.int p1, .int p2]) (rest := []) ⟨hx, hb, hml, hown, hts⟩ (y_at l dC dI q h0 d k z f hI bp_4 la_16 ca_17 m_18 dd_19 ii_20 g_24 g_27 hp_7 hs_21 ht_22 ht_23 hs_25 hg_26 hs_28 p1 p2) (cwV 2 hts gX11_plated_X9_at rfl rfl rfl (by decide +kernel) ⟨Nat.le_of_ble_eq_true rfl, Nat.le_of_ble_eq_true rfl⟩) ⟨px_fb, va_recv hK hP (ci := 8) (q0 := kk_29) rfl hk_30, fun U hU hW => ⟨rfl, px_to hU hW hP hK hN hXN⟩⟩ rfl rfl hl.1 rfl (lv_room (Nat.le_of_ble_eq_true rfl)) dX11_plated_16 ⟨Nat.le_of_ble_eq_true rfl, Nat.le_of_ble_eq_true rfl⟩).run (fun r hw => ?_)
    generalize r = zr_31 at hw ⊢
    have hzr_31 := hw
    refine lv_goto (tgt := 23) hx hb dX11_plated_19 (by decide) ?_
    exact W.iret (v := zr_31) hx hb hr (fun t ht hW => ⟨_, rfl, (by have hq9 := ((rp_pl hrp.2.1 hp_5 (clp hbw_8)).2 _ hp_6).2.2 _ _ _ _ _ hs_21; obtain ⟨P, hP1, -, eP⟩ := exN hbw_8 (by decide); have h11 : (11 : Int32).toInt = 11 := rfl; subst eP; rw [nI_clamp (by omega)] at hq9; unfold mPlated; rw [if_pos hpp_9.1, if_neg (by rw [hpp_9.2]; decide), hzr_31]; exact shAtR (by omega) (hq9.2.2.1 _ hs_25) (hq9.2.2.2 _ hs_28) hg_26 _ _), ht⟩) (fun q h => absurd h List.not_mem_nil) dX11_plated_23
set_option maxHeartbeats 4000000 in
set_option maxRecDepth 100000 in
theorem y_isFresh (l : Launch) (dC : Nat → ClassId) (dI : Nat → Nat → Nat) (q : Nat → ClassId) (h0 : Nat) (d : Nat → Nat) (k : Nat → Int32) (z : gS) (f : xF) (hI : xI q h0 d k z f) (p0 : Int32) (u : mS) (hrp : rep q d u z f) (hk2 : k 2 = u.1 38) (hk3 : k 3 = u.1 39) : Met l yX11_isFresh wsX11_isFresh ({ frames := 3, cells := 0, slots := 0, locals := 63 }) (va_Pc [.ref h0, .int p0] (PX dC dI (va_pl z.1 f) (xT q))) (vp_Si (fun r => (r = 0 ∧ ¬ frP u p0) ∨ (r = 1 ∧ frP u p0 ∧ xPl q d z f p0))) 0 0 (fun _ => False) := by
  refine Met.ofW (cc := cX11_isFresh) (maxL := 2) (ret := (some .boolean)) (by decide) rfl ?_
  intro p e s m args below meth c s₁ B hml hv
  obtain ⟨rfl, ⟨hP, hK, hN⟩, hXN⟩ := hv
  have hx := B.exec
  have hb := B.bytes
  have hr := B.returns
  have hts := atoms_spec (ws := wsX11_isFresh) B.pre
  have hown : s.vm.findClass RX11 = some m.cls := findClass_of_methodNamed B.named
  have hlocks := B.notSynchronized
  have hl := lv_entry ([.ref h0, .int p0]) (n := 2) (Nat.le_of_ble_eq_true rfl)
  rw [lg_entry_eq]
  generalize (lg_sl ([.ref h0, .int p0]) ++ List.replicate (2 - (lg_sl ([.ref h0, .int p0])).length) Slot.unset).toArray = ls at hl ⊢
  have hl : lv_has ls 2 [(0, .ref h0), (1, .int p0)] := hl
  refine lv_aload_n hx hb dX11_isFresh_0 rfl (lv_at hl 0 rfl) ?_
  refine lv_iload_n hx hb dX11_isFresh_1 rfl (lv_at hl 1 rfl) ?_
  obtain ⟨kk_1, hk_2⟩ := pl_at hI.2.1.1.1 hI.2.2.2.1.1
  refine vp_callSi (va_runV (As := [.int p0]) (rest := []) ⟨hx, hb, hml, hown, hts⟩ (y_hasPlate l dC dI q h0 d k z f hI p0 u hrp) (cwV 1 hts gX11_isFresh_X11_hasPlate rfl rfl rfl (by decide +kernel) ⟨Nat.le_of_ble_eq_true rfl, Nat.le_of_ble_eq_true rfl⟩) ⟨px_fb, va_recv hK hP (ci := 10) (q0 := kk_1) rfl hk_2, fun U hU hW => ⟨rfl, px_to hU hW hP hK hN hXN⟩⟩ rfl rfl hl.1 rfl (lv_room (Nat.le_of_ble_eq_true rfl)) dX11_isFresh_2 ⟨Nat.le_of_ble_eq_true rfl, Nat.le_of_ble_eq_true rfl⟩).run (fun r hw => ?_)
  rcases hw with ⟨hw, hpp_9⟩ | ⟨hw, hpp_9, hbw_8, gp_3, bp_4, hp_5, hp_6, hp_7⟩
  ·
    subst hw
    refine lv_if_eq (tgt := 44) hx hb dX11_isFresh_5 (by decide) (fun c_10 => ?_) (fun c_10 => absurd (by decide) c_10)
    refine lv_iconst (v := 0) hx hb dX11_isFresh_44 (by decide) ?_
    exact W.zret (v := 0) hx hb hr (by decide) (fun t ht hW => ⟨_, rfl, (Or.inl ⟨rfl, fun h => hpp_9 h.1⟩), ht⟩) (fun q h => absurd h List.not_mem_nil) dX11_isFresh_45
  ·
    subst hw
    refine lv_if_eq (tgt := 44) hx hb dX11_isFresh_5 (by decide) (fun c_11 => absurd c_11 (by decide)) (fun c_11 => ?_)
    refine lv_aload_n hx hb dX11_isFresh_8 rfl (lv_at hl 0 rfl) ?_
    obtain ⟨kk_12, hk_13⟩ := pl_at hI.2.1.1.1 hI.2.2.2.1.1
    refine va_get (D := (dC, dI)) (ci := 10) (v := .ref (d 1)) (C := RX11) (T := TX11) (N := 9) hx hb hts (by decide +kernel) hown hK hP kk_12 hk_13 rfl 1 (by decide) (hts (.fieldLink RX11 15 "PageOne" "plates" "[LPageOne$Sheet;") (by decide +kernel)) (fun _ h9 => h9) rfl dX11_isFresh_9 ?_
    refine lv_iload_n hx hb dX11_isFresh_12 rfl (lv_at hl 1 rfl) ?_
    obtain ⟨kk_14, hk_15⟩ := pl_at hI.2.1.2.2.1.1 hp_5
    refine va_aldq hx hb hK hP kk_14 2 hk_15 rfl (vin hbw_8 (by decide)) dX11_isFresh_13 ?_
    rw [hp_6]
    refine W.eq (g2 := F0 m 14 ls [.ref bp_4]) rfl ?_
    obtain ⟨la_16, ca_17, m_18, dd_19, ii_20, hs_21, ht_22, ht_23⟩ := x_sh hI hp_7
    obtain ⟨kk_24, hk_25⟩ := pl_at hp_7.1 hs_21
    refine va_get (D := (dC, dI)) (ci := 8) (v := .int dd_19) (C := RX9) (T := TX9) (N := 5) hx hb hts (by decide +kernel) hown hK hP kk_24 hk_25 rfl 3 (by decide) (hts (.fieldLink RX11 210 "PageOne$Sheet" "day" "I") (by decide +kernel)) (fun _ h9 => h9) rfl dX11_isFresh_14 ?_
    refine lv_aload_n hx hb dX11_isFresh_17 rfl (lv_at hl 0 rfl) ?_
    obtain ⟨kk_26, hk_27⟩ := pl_at hI.2.1.1.1 hI.2.2.2.1.1
    refine va_get (D := (dC, dI)) (ci := 10) (v := .int (k 2)) (C := RX11) (T := TX11) (N := 9) hx hb hts (by decide +kernel) hown hK hP kk_26 hk_27 rfl 7 (by decide) (hts (.fieldLink RX11 41 "PageOne" "today" "I") (by decide +kernel)) (fun _ h9 => h9) rfl dX11_isFresh_18 ?_
    refine lv_icmp_ne (tgt := 44) hx hb dX11_isFresh_21 (by decide) (fun c_28 => ?_) (fun c_28 => ?_)
    ·
      refine lv_iconst (v := 0) hx hb dX11_isFresh_44 (by decide) ?_
      exact W.zret (v := 0) hx hb hr (by decide) (fun t ht hW => ⟨_, rfl, (Or.inl ⟨rfl, fun h => c_28 ((((rp_pl hrp.2.1 hp_5 (clp hbw_8)).2 _ hp_6).2.2 _ _ _ _ _ hs_21).1.trans (h.2.1.trans hk2.symm))⟩), ht⟩) (fun q h => absurd h List.not_mem_nil) dX11_isFresh_45
    ·
      refine lv_aload_n hx hb dX11_isFresh_24 rfl (lv_at hl 0 rfl) ?_
      obtain ⟨kk_29, hk_30⟩ := pl_at hI.2.1.1.1 hI.2.2.2.1.1
      refine va_get (D := (dC, dI)) (ci := 10) (v := .ref (d 1)) (C := RX11) (T := TX11) (N := 9) hx hb hts (by decide +kernel) hown hK hP kk_29 hk_30 rfl 1 (by decide) (hts (.fieldLink RX11 15 "PageOne" "plates" "[LPageOne$Sheet;") (by decide +kernel)) (fun _ h9 => h9) rfl dX11_isFresh_25 ?_
      refine lv_iload_n hx hb dX11_isFresh_28 rfl (lv_at hl 1 rfl) ?_
      obtain ⟨kk_31, hk_32⟩ := pl_at hI.2.1.2.2.1.1 hp_5
      refine va_aldq hx hb hK hP kk_31 2 hk_32 rfl (vin hbw_8 (by decide)) dX11_isFresh_29 ?_
      rw [hp_6]
      refine W.eq (g2 := F0 m 30 ls [.ref bp_4]) rfl ?_
      obtain ⟨kk_33, hk_34⟩ := pl_at hp_7.1 hs_21
      refine va_get (D := (dC, dI)) (ci := 8) (v := .int ii_20) (C := RX9) (T := TX9) (N := 5) hx hb hts (by decide +kernel) hown hK hP kk_33 hk_34 rfl 4 (by decide) (hts (.fieldLink RX11 213 "PageOne$Sheet" "edition" "I") (by decide +kernel)) (fun _ h9 => h9) rfl dX11_isFresh_30 ?_
      refine lv_aload_n hx hb dX11_isFresh_33 rfl (lv_at hl 0 rfl) ?_
      obtain ⟨kk_35, hk_36⟩ := pl_at hI.2.1.1.1 hI.2.2.2.1.1
      refine va_get (D := (dC, dI)) (ci := 10) (v := .int (k 3)) (C := RX11) (T := TX11) (N := 9) hx hb hts (by decide +kernel) hown hK hP kk_35 hk_36 rfl 8 (by decide) (hts (.fieldLink RX11 44 "PageOne" "editionNow" "I") (by decide +kernel)) (fun _ h9 => h9) rfl dX11_isFresh_34 ?_
      refine lv_icmp_ne (tgt := 44) hx hb dX11_isFresh_37 (by decide) (fun c_37 => ?_) (fun c_37 => ?_)
      ·
        refine lv_iconst (v := 0) hx hb dX11_isFresh_44 (by decide) ?_
        exact W.zret (v := 0) hx hb hr (by decide) (fun t ht hW => ⟨_, rfl, (Or.inl ⟨rfl, fun h => c_37 ((((rp_pl hrp.2.1 hp_5 (clp hbw_8)).2 _ hp_6).2.2 _ _ _ _ _ hs_21).2.1.trans (h.2.2.trans hk3.symm))⟩), ht⟩) (fun q h => absurd h List.not_mem_nil) dX11_isFresh_45
      ·
        refine lv_iconst (v := 1) hx hb dX11_isFresh_40 (by decide) ?_
        refine lv_goto (tgt := 45) hx hb dX11_isFresh_41 (by decide) ?_
        exact W.zret (v := 1) hx hb hr (by decide) (fun t ht hW => ⟨_, rfl, (Or.inr ⟨rfl, ⟨hpp_9, (((rp_pl hrp.2.1 hp_5 (clp hbw_8)).2 _ hp_6).2.2 _ _ _ _ _ hs_21).1.symm.trans (c_28.trans hk2), (((rp_pl hrp.2.1 hp_5 (clp hbw_8)).2 _ hp_6).2.2 _ _ _ _ _ hs_21).2.1.symm.trans (c_37.trans hk3)⟩, ⟨hbw_8, gp_3, bp_4, hp_5, hp_6, hp_7⟩⟩), ht⟩) (fun q h => absurd h List.not_mem_nil) dX11_isFresh_45
theorem frP_now {u : mS} {p : Int32} (hb : bw p 0 11 = true) (h01 : u.2 40 p.toNatClampNeg = 0 ∨ u.2 40 p.toNatClampNeg = 1) : frP u p ↔ mNow u p = true := by
  unfold frP hpP mNow
  rw [Bool.and_eq_true, Bool.and_eq_true, Bool.not_eq_true', decide_eq_false_iff_not, decide_eq_true_iff, decide_eq_true_iff]
  constructor
  · intro h; exact ⟨by rw [h.1.2]; decide, h.2⟩
  · intro h
    rcases h01 with e | e
    · exact absurd e h.1
    · exact ⟨⟨hb, e⟩, h.2⟩
set_option maxHeartbeats 4000000 in
set_option maxRecDepth 100000 in
theorem y_freshPlates_l {p : Program} {l : Launch} {e : Env} {R : Room} {s : State} {m : MethodId} {args : Array Value} {below : List Frame} {meth : Method} {c : Code} {Q : State → Prop} {cells slots : Nat} {dC : Nat → ClassId} {dI : Nat → Nat → Nat} {q : Nat → ClassId} {h0 : Nat} {d : Nat → Nat} {k : Nat → Int32} {z : gS} {f : xF} {H : Heap} {locs : List Loc} (hI : xI q h0 d k z f) (hx : p.tables.exec = Jvm.exec) (hb : c.code = cX11_freshPlates) (hml : c.maxLocals = 3) (hts : ∀ w ∈ wsX11_freshPlates, w.before args s = true) (hown : s.vm.findClass RX11 = some m.cls) (hN : NN s) (hXN : XN s) (hK : va_K (dC, dI) vwCl (xT q) s) (hRf : 4 ≤ R.frames) (hRl : 84 ≤ R.locals) (hRc : cells ≤ R.cells) (hRs : slots ≤ R.slots) (hP : va_P (dC, dI) vwCl (va_pl z.1 f) H) {u : mS} (hrp : rep q d u z f) (hk2 : k 2 = u.1 38) (hk3 : k 3 = u.1 39) (kx27 : ∀ (a9 : Int32) (ls : Array Slot), a9 = mCnt u 12 → lv_has ls 3 [(1, .int a9), (0, .ref h0)] → W p l e R s m args below meth c H locs cells slots Q (F0 m 27 ls [])) : ∀ (kk i : Nat) (a : Int32) (ls : Array Slot), i ≤ 12 → 12 - i < kk → a = mCnt u i → lv_has ls 3 [(2, .int (nI i)), (1, .int a), (0, .ref h0)] → W p l e R s m args below meth c H locs cells slots Q (F0 m 4 ls []) := by
  intro kk
  induction kk with
  | zero => intro i a ls h1 h2; exact absurd h2 (Nat.not_lt_zero _)
  | succ kk ih =>
    intro i a ls hi hkk hg hl
    refine lv_iload_n hx hb dX11_freshPlates_4 rfl (lv_at hl 0 rfl) ?_
    refine lv_bipush (v := 12) hx hb dX11_freshPlates_5 (by decide) ?_
    refine lv_icmp_ge (tgt := 27) hx hb dX11_freshPlates_7 (by decide) (fun c_1 => ?_) (fun c_1 => ?_)
    ·
      have hie : i = 12 := lp_eq rfl (by decide) hi c_1
      exact kx27 _ ls (by rw [← hie]; exact hg) (lv_sub hl [1, 2] rfl)
    ·
      have hlt : i < 12 := lp_lt rfl (by decide) hi c_1
      refine lv_aload_n hx hb dX11_freshPlates_10 rfl (lv_at hl 2 rfl) ?_
      refine lv_iload_n hx hb dX11_freshPlates_11 rfl (lv_at hl 0 rfl) ?_
      obtain ⟨kk_2, hk_3⟩ := pl_at hI.2.1.1.1 hI.2.2.2.1.1
      refine vp_callSi (va_runV (As := [.int (nI i)]) (rest := []) ⟨hx, hb, hml, hown, hts⟩ (y_isFresh l dC dI q h0 d k z f hI (nI i) u hrp hk2 hk3) (cwV 1 hts gX11_freshPlates_X11_isFresh rfl rfl rfl (by decide +kernel) ⟨Nat.le_trans (Nat.le_of_ble_eq_true rfl) hRf, Nat.le_trans (Nat.le_of_ble_eq_true rfl) hRl⟩) ⟨px_fb, va_recv hK hP (ci := 10) (q0 := kk_2) rfl hk_3, fun U hU hW => ⟨rfl, px_to hU hW hP hK hN hXN⟩⟩ rfl rfl hl.1 rfl (lv_room (Nat.le_of_ble_eq_true rfl)) dX11_freshPlates_12 ⟨hRc, hRs⟩).run (fun r hw => ?_)
      rcases hw with ⟨hw, hpp_10⟩ | ⟨hw, hpp_10, hbw_9, gp_4, bp_5, hp_6, hp_7, hp_8⟩
      ·
        subst hw
        refine lv_if_eq (tgt := 21) hx hb dX11_freshPlates_15 (by decide) (fun c_11 => ?_) (fun c_11 => absurd (by decide) c_11)
        refine lv_iinc (v := (nI (i + 1))) (lv' := [(2, .int (nI (i + 1))), (1, .int a), (0, .ref h0)]) hx hb dX11_freshPlates_21 hl (k := 0) rfl (nI_1 i) (by decide) rfl (fun ls hl => ?_)
        refine lv_goto (tgt := 4) hx hb dX11_freshPlates_24 (by decide) ?_
        exact ih (i + 1) _ ls (by omega) (by omega) (by rw [hg]; show _ = mCnt u i + (if mNow u (nI i) = true then 1 else 0); rw [if_neg (fun h => hpp_10 ((frP_now (bw11 hlt) (rp_01 hrp.2.1 _ (by rw [nI_clamp (by omega)]; exact hlt))).mpr h))]; exact (Int32.add_zero _).symm) (lv_sub hl [0, 1, 2] rfl)
      ·
        subst hw
        refine lv_if_eq (tgt := 21) hx hb dX11_freshPlates_15 (by decide) (fun c_12 => absurd c_12 (by decide)) (fun c_12 => ?_)
        obtain ⟨x_13, ex_13⟩ : ∃ y : Int32, y = a + 1 := ⟨_, rfl⟩
        refine lv_iinc (v := x_13) (lv' := [(1, .int x_13), (2, .int (nI i)), (0, .ref h0)]) hx hb dX11_freshPlates_18 hl (k := 1) rfl (by rw [ex_13]; rfl) (by decide) rfl (fun ls hl => ?_)
        refine lv_iinc (v := (nI (i + 1))) (lv' := [(2, .int (nI (i + 1))), (1, .int x_13), (0, .ref h0)]) hx hb dX11_freshPlates_21 hl (k := 1) rfl (nI_1 i) (by decide) rfl (fun ls hl => ?_)
        refine lv_goto (tgt := 4) hx hb dX11_freshPlates_24 (by decide) ?_
        exact ih (i + 1) _ ls (by omega) (by omega) (by rw [ex_13, hg]; show _ = mCnt u i + (if mNow u (nI i) = true then 1 else 0); rw [if_pos ((frP_now (bw11 hlt) (rp_01 hrp.2.1 _ (by rw [nI_clamp (by omega)]; exact hlt))).mp hpp_10)]) (lv_sub hl [0, 1, 2] rfl)
set_option maxHeartbeats 4000000 in
set_option maxRecDepth 100000 in
theorem y_freshPlates (l : Launch) (dC : Nat → ClassId) (dI : Nat → Nat → Nat) (q : Nat → ClassId) (h0 : Nat) (d : Nat → Nat) (k : Nat → Int32) (z : gS) (f : xF) (hI : xI q h0 d k z f) (u : mS) (hrp : rep q d u z f) (hk2 : k 2 = u.1 38) (hk3 : k 3 = u.1 39) : Met l yX11_freshPlates wsX11_freshPlates ({ frames := 4, cells := 0, slots := 0, locals := 84 }) (va_Pc [.ref h0] (PX dC dI (va_pl z.1 f) (xT q))) (vp_Si (fun r => r = mCnt u 12)) 0 0 (fun _ => False) := by
  refine Met.ofW (cc := cX11_freshPlates) (maxL := 3) (ret := (some .int)) (by decide) rfl ?_
  intro p e s m args below meth c s₁ B hml hv
  obtain ⟨rfl, ⟨hP, hK, hN⟩, hXN⟩ := hv
  have hx := B.exec
  have hb := B.bytes
  have hr := B.returns
  have hts := atoms_spec (ws := wsX11_freshPlates) B.pre
  have hown : s.vm.findClass RX11 = some m.cls := findClass_of_methodNamed B.named
  have hlocks := B.notSynchronized
  have hl := lv_entry ([.ref h0]) (n := 3) (Nat.le_of_ble_eq_true rfl)
  rw [lg_entry_eq]
  generalize (lg_sl ([.ref h0]) ++ List.replicate (3 - (lg_sl ([.ref h0])).length) Slot.unset).toArray = ls at hl ⊢
  have hl : lv_has ls 3 [(0, .ref h0)] := hl
  refine lv_iconst (v := 0) hx hb dX11_freshPlates_0 (by decide) ?_
  refine lv_istore_n (lv' := [(1, .int 0), (0, .ref h0)]) hx hb dX11_freshPlates_1 rfl hl (by decide) rfl (fun ls hl => ?_)
  refine lv_iconst (v := 0) hx hb dX11_freshPlates_2 (by decide) ?_
  refine lv_istore_n (lv' := [(2, .int 0), (1, .int 0), (0, .ref h0)]) hx hb dX11_freshPlates_3 rfl hl (by decide) rfl (fun ls hl => ?_)
  refine y_freshPlates_l hI hx hb hml hts hown hN hXN hK (Nat.le_of_ble_eq_true rfl) (Nat.le_of_ble_eq_true rfl) (Nat.le_of_ble_eq_true rfl) (Nat.le_of_ble_eq_true rfl) hP hrp hk2 hk3 (fun a9 ls ha9 hl => ?_) 13 0 0 ls (by decide) (by decide) rfl (lv_sub hl [0, 1, 2] rfl)
  refine lv_iload_n hx hb dX11_freshPlates_27 rfl (lv_at hl 0 rfl) ?_
  exact W.iret (v := a9) hx hb hr (fun t ht hW => ⟨_, rfl, ha9, ht⟩) (fun q h => absurd h List.not_mem_nil) dX11_freshPlates_28
set_option maxHeartbeats 4000000 in
set_option maxRecDepth 100000 in
theorem y_about (l : Launch) (dC : Nat → ClassId) (dI : Nat → Nat → Nat) (q : Nat → ClassId) (h0 : Nat) (d : Nat → Nat) (k : Nat → Int32) (z : gS) (f : xF) (hI : xI q h0 d k z f) (p0 : Int32) (u : mS) (hrp : rep q d u z f) (hk0 : k 0 = u.1 3) (hk1 : k 1 = u.1 28) (hk2 : k 2 = u.1 38) (hk3 : k 3 = u.1 39) : Met l yX11_about wsX11_about ({ frames := 5, cells := 0, slots := 0, locals := 106 }) (va_Pc [.ref h0, .int p0] (PX dC dI (va_pl z.1 f) (xT q))) (vp_Si (fun r => r = mAbout u p0)) 0 0 (fun _ => False) := by
  refine Met.ofW (cc := cX11_about) (maxL := 2) (ret := (some .int)) (by decide) rfl ?_
  intro p e s m args below meth c s₁ B hml hv
  obtain ⟨rfl, ⟨hP, hK, hN⟩, hXN⟩ := hv
  have hx := B.exec
  have hb := B.bytes
  have hr := B.returns
  have hts := atoms_spec (ws := wsX11_about) B.pre
  have hown : s.vm.findClass RX11 = some m.cls := findClass_of_methodNamed B.named
  have hlocks := B.notSynchronized
  have hl := lv_entry ([.ref h0, .int p0]) (n := 2) (Nat.le_of_ble_eq_true rfl)
  rw [lg_entry_eq]
  generalize (lg_sl ([.ref h0, .int p0]) ++ List.replicate (2 - (lg_sl ([.ref h0, .int p0])).length) Slot.unset).toArray = ls at hl ⊢
  have hl : lv_has ls 2 [(0, .ref h0), (1, .int p0)] := hl
  refine lv_iload_n hx hb dX11_about_0 rfl (lv_at hl 1 rfl) ?_
  rcases Classical.em (p0 = 0) with s_1 | s_1
  ·
    subst s_1
    refine lv_tableIn (tgt := 36) (off := 35) hx hb dX11_about_1 (by decide) (by decide) (by decide) (by decide) ?_
    refine lv_aload_n hx hb dX11_about_36 rfl (lv_at hl 0 rfl) ?_
    obtain ⟨kk_2, hk_3⟩ := pl_at hI.2.1.1.1 hI.2.2.2.1.1
    refine va_get (D := (dC, dI)) (ci := 10) (v := .int (k 2)) (C := RX11) (T := TX11) (N := 9) hx hb hts (by decide +kernel) hown hK hP kk_2 hk_3 rfl 7 (by decide) (hts (.fieldLink RX11 41 "PageOne" "today" "I") (by decide +kernel)) (fun _ h9 => h9) rfl dX11_about_37 ?_
    exact W.iret (v := (k 2)) hx hb hr (fun t ht hW => ⟨_, rfl, (by unfold mAbout; rw [if_pos rfl]; exact hk2), ht⟩) (fun q h => absurd h List.not_mem_nil) dX11_about_40
  ·
    rcases Classical.em (p0 = 1) with s_4 | s_4
    ·
      subst s_4
      refine lv_tableIn (tgt := 41) (off := 40) hx hb dX11_about_1 (by decide) (by decide) (by decide) (by decide) ?_
      refine lv_aload_n hx hb dX11_about_41 rfl (lv_at hl 0 rfl) ?_
      obtain ⟨kk_5, hk_6⟩ := pl_at hI.2.1.1.1 hI.2.2.2.1.1
      refine va_get (D := (dC, dI)) (ci := 10) (v := .int (k 3)) (C := RX11) (T := TX11) (N := 9) hx hb hts (by decide +kernel) hown hK hP kk_5 hk_6 rfl 8 (by decide) (hts (.fieldLink RX11 44 "PageOne" "editionNow" "I") (by decide +kernel)) (fun _ h9 => h9) rfl dX11_about_42 ?_
      exact W.iret (v := (k 3)) hx hb hr (fun t ht hW => ⟨_, rfl, (by unfold mAbout; rw [if_neg (by decide), if_pos rfl]; exact hk3), ht⟩) (fun q h => absurd h List.not_mem_nil) dX11_about_45
    ·
      rcases Classical.em (p0 = 2) with s_7 | s_7
      ·
        subst s_7
        refine lv_tableIn (tgt := 46) (off := 45) hx hb dX11_about_1 (by decide) (by decide) (by decide) (by decide) ?_
        refine lv_aload_n hx hb dX11_about_46 rfl (lv_at hl 0 rfl) ?_
        obtain ⟨kk_8, hk_9⟩ := pl_at hI.2.1.1.1 hI.2.2.2.1.1
        refine va_get (D := (dC, dI)) (ci := 10) (v := .int (k 0)) (C := RX11) (T := TX11) (N := 9) hx hb hts (by decide +kernel) hown hK hP kk_8 hk_9 rfl 3 (by decide) (hts (.fieldLink RX11 24 "PageOne" "itemCount" "I") (by decide +kernel)) (fun _ h9 => h9) rfl dX11_about_47 ?_
        exact W.iret (v := (k 0)) hx hb hr (fun t ht hW => ⟨_, rfl, (by unfold mAbout; rw [if_neg (by decide), if_neg (by decide), if_pos rfl]; exact hk0), ht⟩) (fun q h => absurd h List.not_mem_nil) dX11_about_50
      ·
        rcases Classical.em (p0 = 3) with s_10 | s_10
        ·
          subst s_10
          refine lv_tableIn (tgt := 51) (off := 50) hx hb dX11_about_1 (by decide) (by decide) (by decide) (by decide) ?_
          refine lv_aload_n hx hb dX11_about_51 rfl (lv_at hl 0 rfl) ?_
          obtain ⟨kk_11, hk_12⟩ := pl_at hI.2.1.1.1 hI.2.2.2.1.1
          refine va_get (D := (dC, dI)) (ci := 10) (v := .int (k 1)) (C := RX11) (T := TX11) (N := 9) hx hb hts (by decide +kernel) hown hK hP kk_11 hk_12 rfl 5 (by decide) (hts (.fieldLink RX11 34 "PageOne" "actCount" "I") (by decide +kernel)) (fun _ h9 => h9) rfl dX11_about_52 ?_
          exact W.iret (v := (k 1)) hx hb hr (fun t ht hW => ⟨_, rfl, (by unfold mAbout; rw [if_neg (by decide), if_neg (by decide), if_neg (by decide), if_pos rfl]; exact hk1), ht⟩) (fun q h => absurd h List.not_mem_nil) dX11_about_55
        ·
          rcases Classical.em (p0 = 4) with s_13 | s_13
          ·
            subst s_13
            refine lv_tableIn (tgt := 56) (off := 55) hx hb dX11_about_1 (by decide) (by decide) (by decide) (by decide) ?_
            refine lv_aload_n hx hb dX11_about_56 rfl (lv_at hl 0 rfl) ?_
            obtain ⟨kk_14, hk_15⟩ := pl_at hI.2.1.1.1 hI.2.2.2.1.1
            refine vp_callSi (va_runV (As := []) (rest := []) ⟨hx, hb, hml, hown, hts⟩ (y_freshPlates l dC dI q h0 d k z f hI u hrp hk2 hk3) (cwV 0 hts gX11_about_X11_freshPlates rfl rfl rfl (by decide +kernel) ⟨Nat.le_of_ble_eq_true rfl, Nat.le_of_ble_eq_true rfl⟩) ⟨px_fb, va_recv hK hP (ci := 10) (q0 := kk_14) rfl hk_15, fun U hU hW => ⟨rfl, px_to hU hW hP hK hN hXN⟩⟩ rfl rfl hl.1 rfl (lv_room (Nat.le_of_ble_eq_true rfl)) dX11_about_57 ⟨Nat.le_of_ble_eq_true rfl, Nat.le_of_ble_eq_true rfl⟩).run (fun r hw => ?_)
            obtain rfl : r = mCnt u 12 := hw
            exact W.iret (v := (mCnt u 12)) hx hb hr (fun t ht hW => ⟨_, rfl, (by unfold mAbout; rw [if_neg (by decide), if_neg (by decide), if_neg (by decide), if_neg (by decide), if_pos rfl]), ht⟩) (fun q h => absurd h List.not_mem_nil) dX11_about_60
          ·
            refine lv_tableOut (tgt := 61) hx hb dX11_about_1 (sw_out4 s_1 s_4 s_7 s_10 s_13) (by decide) ?_
            refine lv_iconst (v := (-1)) hx hb dX11_about_61 (by decide) ?_
            exact W.iret (v := (-1)) hx hb hr (fun t ht hW => ⟨_, rfl, (by unfold mAbout; rw [if_neg s_1, if_neg s_4, if_neg s_7, if_neg s_10, if_neg s_13]), ht⟩) (fun q h => absurd h List.not_mem_nil) dX11_about_62
theorem kT_r (k : Int32) : 10 ≤ kT k ∧ kT k ≤ 15 := by
  unfold kT
  repeat' split
  all_goals omega
theorem rI_itm {q d u z f} (h : rIs q d u z f) {i : Nat} (hi : i < (u.1 3).toNatClampNeg) : itm z (d (2000 + i)) := tg_itm (h.2 i hi).1.1 (kT_r _)
theorem rI_at {q d u z f} (h : rIs q d u z f) {g : Nat → Option Nat} (hg : f (d 2) = aR (q 3) 80 g) {i b : Nat} (hi : i < (u.1 3).toNatClampNeg) (hb : g i = some b) : b = d (2000 + i) := by
  obtain ⟨⟨g2, a1, a2⟩, -⟩ := h
  have eg := (aR_inj (hg.symm.trans a1)).2
  exact Option.some.inj (hb.symm.trans (by rw [eg]; exact a2 i hi))
def itO (u : mS) (d : Nat → Nat) (p : Int32) (r : Option Nat) : Prop := (r = none ∧ ¬ bw p 0 (u.1 3 - 1) = true) ∨ (∃ i, i < (u.1 3).toNatClampNeg ∧ p = nI i ∧ r = some (d (2000 + i)))
theorem itO_s {q d u z f} (h : rIs q d u z f) {g : Nat → Option Nat} (hg : f (d 2) = aR (q 3) 80 g) {p : Int32} {b : Nat} (hn : bw (u.1 3) 0 80 = true) (hp : bw p 0 (u.1 3 - 1) = true) (hb : g p.toNatClampNeg = some b) : itO u d p (some b) := by
  have h1 := vItn hn hp
  obtain ⟨m, m1, e⟩ := nI_of (x := p) (fun q => by have h2 := (bw_iff.mp hp).1; rw [i0] at h2; rw [i32_lt, i0] at q; omega)
  refine Or.inr ⟨m, ?_, e, ?_⟩
  · rw [e, nI_clamp m1] at h1; exact h1
  · rw [e, nI_clamp m1] at h1 hb
    rw [rI_at h hg h1 hb]
set_option maxHeartbeats 4000000 in
set_option maxRecDepth 100000 in
theorem y_itemOf (l : Launch) (dC : Nat → ClassId) (dI : Nat → Nat → Nat) (q : Nat → ClassId) (h0 : Nat) (d : Nat → Nat) (k : Nat → Int32) (z : gS) (f : xF) (hI : xI q h0 d k z f) (p0 : Int32) (u : mS) (hrp : rep q d u z f) (hk0 : k 0 = u.1 3) (hk1 : k 1 = u.1 28) (hk2 : k 2 = u.1 38) (hk3 : k 3 = u.1 39) : Met l yX11_itemOf wsX11_itemOf ({ frames := 1, cells := 0, slots := 0, locals := 22 }) (va_Pc [.ref h0, .int p0] (PX dC dI (va_pl z.1 f) (xT q))) (va_Sq (fun r => itO u d p0 r)) 0 0 (fun _ => False) := by
  refine Met.ofW (cc := cX11_itemOf) (maxL := 2) (ret := (some (.object "PageOne$Item"))) (by decide) rfl ?_
  intro p e s m args below meth c s₁ B hml hv
  obtain ⟨rfl, ⟨hP, hK, hN⟩, hXN⟩ := hv
  have hx := B.exec
  have hb := B.bytes
  have hr := B.returns
  have hts := atoms_spec (ws := wsX11_itemOf) B.pre
  have hown : s.vm.findClass RX11 = some m.cls := findClass_of_methodNamed B.named
  have hlocks := B.notSynchronized
  have hl := lv_entry ([.ref h0, .int p0]) (n := 2) (Nat.le_of_ble_eq_true rfl)
  rw [lg_entry_eq]
  generalize (lg_sl ([.ref h0, .int p0]) ++ List.replicate (2 - (lg_sl ([.ref h0, .int p0])).length) Slot.unset).toArray = ls at hl ⊢
  have hl : lv_has ls 2 [(0, .ref h0), (1, .int p0)] := hl
  refine lv_iload_n hx hb dX11_itemOf_0 rfl (lv_at hl 1 rfl) ?_
  refine lv_iconst (v := 0) hx hb dX11_itemOf_1 (by decide) ?_
  refine lv_aload_n hx hb dX11_itemOf_2 rfl (lv_at hl 0 rfl) ?_
  obtain ⟨kk_1, hk_2⟩ := pl_at hI.2.1.1.1 hI.2.2.2.1.1
  refine va_get (D := (dC, dI)) (ci := 10) (v := .int (k 0)) (C := RX11) (T := TX11) (N := 9) hx hb hts (by decide +kernel) hown hK hP kk_1 hk_2 rfl 3 (by decide) (hts (.fieldLink RX11 24 "PageOne" "itemCount" "I") (by decide +kernel)) (fun _ h9 => h9) rfl dX11_itemOf_3 ?_
  refine lv_iconst (v := 1) hx hb dX11_itemOf_6 (by decide) ?_
  refine lv_isub hx hb dX11_itemOf_7 ?_
  refine vp_callSi (va_runS (As := [.int p0, .int 0, .int ((k 0) - 1)]) (rest := []) ⟨hx, hb, hml, hown, hts⟩ (x_isWithin l dC dI p0 0 ((k 0) - 1)) (va_cwS 3 hts gX11_itemOf_X11_isWithin rfl rfl rfl (by decide +kernel) ⟨Nat.le_of_ble_eq_true rfl, Nat.le_of_ble_eq_true rfl⟩) ⟨pw_fb, fun U hU hW => ⟨rfl, pw_to hU hW (hP.sub (ws' := []) [] rfl) (hK.sub (tys' := []) [] rfl) hN⟩⟩ rfl rfl hl.1 rfl (lv_room (Nat.le_of_ble_eq_true rfl)) dX11_itemOf_8 ⟨Nat.le_of_ble_eq_true rfl, Nat.le_of_ble_eq_true rfl⟩).run (fun r hw => ?_)
  rcases Bool.eq_false_or_eq_true (bw p0 0 ((k 0) - 1)) with b_3 | b_3
  ·
    obtain rfl : r = 1 := b_t hw b_3
    refine lv_if_eq (tgt := 23) hx hb dX11_itemOf_11 (by decide) (fun c_4 => absurd c_4 (by decide)) (fun c_4 => ?_)
    refine lv_aload_n hx hb dX11_itemOf_14 rfl (lv_at hl 0 rfl) ?_
    obtain ⟨kk_5, hk_6⟩ := pl_at hI.2.1.1.1 hI.2.2.2.1.1
    refine va_get (D := (dC, dI)) (ci := 10) (v := .ref (d 2)) (C := RX11) (T := TX11) (N := 9) hx hb hts (by decide +kernel) hown hK hP kk_5 hk_6 rfl 2 (by decide) (hts (.fieldLink RX11 20 "PageOne" "items" "[LPageOne$Item;") (by decide +kernel)) (fun _ h9 => h9) rfl dX11_itemOf_15 ?_
    refine lv_iload_n hx hb dX11_itemOf_18 rfl (lv_at hl 1 rfl) ?_
    obtain ⟨g_7, hs_8, hn_9, hg_10⟩ := x_itm hI
    obtain ⟨kk_11, hk_12⟩ := pl_at hI.2.1.2.2.2.1.1 hs_8
    refine va_aldq hx hb hK hP kk_11 3 hk_12 rfl (vIt hI.1.1 b_3) dX11_itemOf_19 ?_
    obtain ⟨b_13, hg_14⟩ := hn_9 (p0 : Int32).toNatClampNeg (vItn hI.1.1 b_3)
    have ht_15 := hg_10 (p0 : Int32).toNatClampNeg (vlt (vIt hI.1.1 b_3)) b_13 hg_14
    rw [hg_14]
    refine W.eq (g2 := F0 m 20 ls [.ref b_13]) rfl ?_
    refine lv_goto (tgt := 24) hx hb dX11_itemOf_20 (by decide) ?_
    exact W.aret (v := .ref b_13) hx hb hr (Or.inl ⟨_, rfl⟩) (Or.inr ⟨_, rfl⟩) (fun t ht hW => ⟨some b_13, rfl, (itO_s hrp.2.2.1 hs_8 (by rw [← hk0]; exact hI.1.1) (by rw [← hk0]; exact b_3) hg_14), ht⟩) (fun q h => absurd h List.not_mem_nil) dX11_itemOf_24
  ·
    obtain rfl : r = 0 := b_f hw b_3
    refine lv_if_eq (tgt := 23) hx hb dX11_itemOf_11 (by decide) (fun c_16 => ?_) (fun c_16 => absurd (by decide) c_16)
    refine lv_null hx hb dX11_itemOf_23 ?_
    exact W.aret (v := .null) hx hb hr (Or.inl ⟨_, rfl⟩) (Or.inl rfl) (fun t ht hW => ⟨none, rfl, (Or.inl ⟨rfl, by rw [← hk0]; exact bne b_3⟩), ht⟩) (fun q h => absurd h List.not_mem_nil) dX11_itemOf_24
/-- all that is told of item i -/
theorem it_all {q h0 d k z f u} (hI : xI q h0 d k z f) (h : rIs q d u z f) {i : Nat} (hi : i < (u.1 3).toNatClampNeg) : ∃ (rs : List Value) (n : Nat) (g : Nat → Option Nat) (fg : Nat → Int32), itm z (d (2000 + i)) ∧ f (d (2000 + i)) = .inr (ciT (z.2 (d (2000 + i))).1, itF (nI i) (u.2 4 i) (d (3000 + i)) (u.2 22 i) (d (4000 + i)) rs) ∧ tg z (d (3000 + i)) 16 ∧ f (d (3000 + i)) = aR (q 5) n g ∧ 1 ≤ n ∧ n ≤ 6 ∧ bw (u.2 22 i) 0 (nI n) = true ∧ pcL z g (u.2 22 i).toNatClampNeg (pR u i) ∧ (∀ j, j < n → ∀ b, g j = some b → lgP z b) ∧ n = (if u.2 4 i = 0 then 6 else 1) ∧ tg z (d (4000 + i)) 17 ∧ f (d (4000 + i)) = aI (q 0) 5 fg ∧ eqR 5 fg (u.2 47) (5 * i) ∧ rRs q d u z f i rs ∧ (z.2 (d (2000 + i))).1 = kT (u.2 4 i) := by
  obtain ⟨n1, n2, n3, hkd, rs, g, fg, hs, hps, hpcs, hfs, hfe, hrs⟩ := h.2 i hi
  have hit := rI_itm h hi
  obtain ⟨n9, g9, a1, h1, h6, hcb, hnn, hlg⟩ := x_pcs hI hit rfl hs
  obtain ⟨e1, e2⟩ := aR_inj (a1.symm.trans hps)
  subst e2
  refine ⟨rs, n9, g9, fg, hit, hs, n2.1, a1, h1, h6, hcb, fun j hj => ?_, hlg, e1, n3.1, hfs, hfe, hrs, n1.1.2⟩
  obtain ⟨b, b1, b2⟩ := hpcs j hj
  have hjn : j < n9 := by
    have hb2 := bw_iff.mp hcb
    obtain ⟨c1, c2, c3⟩ := nI_of_bw hcb
    rw [nI_toInt (by omega)] at c3
    omega
  exact ⟨b, _, b1, b2, hlg j hjn b b1⟩
theorem kT_k {k : Int32} (h0 : 0 ≤ k) (h5 : k ≤ 5) : (kT k = 15 → k = 0) ∧ (kT k = 11 → k = 1) ∧ (kT k = 14 → k = 2) ∧ (kT k = 13 → k = 3) ∧ (kT k = 10 → k = 4) ∧ (kT k = 12 → k = 5) := by
  have e5 : (5 : Int32).toInt = 5 := rfl
  rw [i32_le, i0] at h0
  rw [i32_le, e5] at h5
  have hk : k = 0 ∨ k = 1 ∨ k = 2 ∨ k = 3 ∨ k = 4 ∨ k = 5 := by
    have : k.toInt = 0 ∨ k.toInt = 1 ∨ k.toInt = 2 ∨ k.toInt = 3 ∨ k.toInt = 4 ∨ k.toInt = 5 := by omega
    rcases this with e | e | e | e | e | e
    · exact Or.inl (sw_in e.symm rfl)
    · exact Or.inr (Or.inl (sw_in e.symm rfl))
    · exact Or.inr (Or.inr (Or.inl (sw_in e.symm rfl)))
    · exact Or.inr (Or.inr (Or.inr (Or.inl (sw_in e.symm rfl))))
    · exact Or.inr (Or.inr (Or.inr (Or.inr (Or.inl (sw_in e.symm rfl)))))
    · exact Or.inr (Or.inr (Or.inr (Or.inr (Or.inr (sw_in e.symm rfl)))))
  rcases hk with e | e | e | e | e | e <;> subst e <;> decide
theorem kd_05 {q d u z f} (h : rIs q d u z f) {i : Nat} (hi : i < (u.1 3).toNatClampNeg) : 0 ≤ u.2 4 i ∧ u.2 4 i ≤ 5 := (h.2 i hi).2.2.2.1
theorem nI_s1 (n : Nat) : nI n + 1 = nI (n + 1) := nI_add n 1
theorem nI_p1 (n : Nat) : nI (n + 1) - 1 = nI n := by rw [← nI_s1]; exact Int32.add_sub_cancel _ _
/-- what a piece takes: the class and the reference -/
theorem s_taken_m {u : mS} {i k : Nat} (hi : i < 80) (hk : k < 6) (hb : bw (nI k) 0 (u.2 22 i - 1) = true) : s_taken (nI k) (u.2 22 i) (pR u i) = mTakes u (nI i) (nI k) := by
  unfold s_taken mTakes
  rw [if_pos hb, nI_clamp (n := i) (by omega), ix6]
  have e1 : nI (6 * i + k) + 1 = nI (6 * i + (k + 1)) := nI_s1 _
  have c0 : (nI (6 * i + k)).toNatClampNeg = 6 * i + k := nI_clamp (by omega)
  have c1 : (nI (6 * i + (k + 1))).toNatClampNeg = 6 * i + (k + 1) := nI_clamp (by omega)
  have c2 : (nI k).toNatClampNeg = k := nI_clamp (by omega)
  have c3 : (nI (k + 1)).toNatClampNeg = k + 1 := nI_clamp (by omega)
  rw [e1, c0, c1, nI_s1, c2, c3]
  cases k with
  | zero =>
    have h0 : nI 0 ≤ 0 := by decide
    rw [if_pos h0, if_pos h0]; rfl
  | succ k =>
    have h0 : ¬ nI (k + 1) ≤ 0 := by
      rw [i32_le, i0, nI_toInt (by omega)]; omega
    have e2 : nI (6 * i + (k + 1)) - 1 = nI (6 * i + k) := nI_p1 _
    have c4 : (nI (6 * i + k)).toNatClampNeg = 6 * i + k := nI_clamp (by omega)
    have c5 : (nI k).toNatClampNeg = k := nI_clamp (by omega)
    rw [if_neg h0, if_neg h0, e2, c4, nI_p1, c5]
    by_cases hA : pR u i k 0 = pR u i (k + 1) 0
    · have hA2 : u.2 23 (6 * i + k) = u.2 23 (6 * i + (k + 1)) := hA
      rw [if_pos hA, if_pos hA2]; rfl
    · have hA2 : ¬ u.2 23 (6 * i + k) = u.2 23 (6 * i + (k + 1)) := hA
      rw [if_neg hA, if_neg hA2]; rfl
theorem s_from_m {u : mS} {i : Nat} (hi : i < 80) (hc : bw (u.2 22 i) 0 6 = true) : ∀ n : Nat, n ≤ (u.2 22 i).toNatClampNeg → s_from (u.2 22 i) (pR u i) n = mFrom u (nI i) n
  | 0, _ => rfl
  | n + 1, hn => by
    obtain ⟨c1, c2, c3⟩ := nI_of_bw hc
    have e6 : (6 : Int32).toInt = 6 := rfl
    rw [e6] at c3
    have hb : bw (nI n) 0 (u.2 22 i - 1) = true := by
      rw [bw_iff, i0, nI_toInt (by omega), subI (by rw [i1]; omega) (by rw [i1]; omega), i1]; omega
    show s_from _ _ n + s_taken (nI n) _ _ = mFrom u (nI i) n + mTakes u (nI i) (nI n)
    rw [s_from_m hi hc n (by omega), s_taken_m hi (by omega) hb]
theorem s_standing_m {u : mS} {i : Nat} (hi : i < 80) (hc : bw (u.2 22 i) 0 6 = true) : s_standing (u.2 22 i) (pR u i) = mStanding u (nI i) := by
  unfold s_standing mStanding
  rw [nI_clamp (n := i) (by omega)]; exact s_from_m hi hc _ (Nat.le_refl _)
theorem mPc_no {u : mS} {p k w : Int32} (h : ¬ bw p 0 (u.1 3 - 1) = true) : mPiece u p k w = (-1) := by unfold mPiece; rw [if_neg h]
theorem bw_it {u : mS} {i : Nat} (hn : bw (u.1 3) 0 80 = true) (hi : i < (u.1 3).toNatClampNeg) : bw (nI i) 0 (u.1 3 - 1) = true ∧ i < 80 := by
  obtain ⟨c1, c2, c3⟩ := nI_of_bw hn
  have e80 : (80 : Int32).toInt = 80 := rfl
  rw [e80] at c3
  refine ⟨?_, by omega⟩
  rw [bw_iff, i0, nI_toInt (by omega), subI (by rw [i1]; omega) (by rw [i1]; omega), i1]; omega
theorem mPc_k {u : mS} {i : Nat} {k w : Int32} (hn : bw (u.1 3) 0 80 = true) (hi : i < (u.1 3).toNatClampNeg) (h : ¬ bw k 0 (u.2 22 i - 1) = true) : mPiece u (nI i) k w = (-1) := by
  have h2 := bw_it hn hi
  unfold mPiece; rw [if_pos h2.1, nI_clamp (by omega), if_neg h]
theorem mPc {u : mS} {i : Nat} {k : Int32} (w : Int32) (hn : bw (u.1 3) 0 80 = true) (hi : i < (u.1 3).toNatClampNeg) (hc : bw (u.2 22 i) 0 6 = true) (h : bw k 0 (u.2 22 i - 1) = true) : mPiece u (nI i) k w = if w = 0 then pR u i k.toNatClampNeg 0 else if w = 1 then pR u i k.toNatClampNeg 1 else if w = 2 then pR u i k.toNatClampNeg 2 else if w = 3 then pR u i k.toNatClampNeg 3 else if w = 4 then pR u i k.toNatClampNeg 4 else if w = 5 then (if u.2 4 i = 0 then s_from (u.2 22 i) (pR u i) k.toNatClampNeg else 0) else if w = 6 then (if u.2 4 i = 0 then s_taken k (u.2 22 i) (pR u i) else 0) else (-1) := by
  have h2 := bw_it hn hi
  obtain ⟨h3, h4⟩ := vkn (n := 6) (by omega) hc h
  obtain ⟨c1, c2, c3⟩ := nI_of_bw h
  obtain ⟨d1, d2, d3⟩ := nI_of_bw hc
  have e6 : (6 : Int32).toInt = 6 := rfl
  rw [e6] at d3
  generalize hj : k.toNatClampNeg = j at c1 c2 h4
  subst c1
  unfold mPiece
  rw [if_pos h2.1, nI_clamp (n := i) (by omega), if_pos h, ix6, nI_clamp (n := 6 * i + j) (by omega), hj, s_from_m h2.2 hc j (by omega), s_taken_m h2.2 (by omega) h]
  rfl
theorem bw6 {x : Int32} {n : Nat} (h6 : n ≤ 6) (h : bw x 0 (nI n) = true) : bw x 0 6 = true := by
  have e6 : (6 : Int32).toInt = 6 := rfl
  have h1 := bw_iff.mp h
  rw [nI_toInt (by omega)] at h1
  rw [bw_iff, e6]; omega
theorem bw_less {p cn : Int32} {n : Nat} (hn : n ≤ 6) (hc : bw cn 0 (nI n) = true) (hp : bw p 0 (cn - 1) = true) : bw p 0 cn = true := by
  have h1 := bw_iff.mp hc
  have h2 := bw_iff.mp hp
  rw [i0, nI_toInt (by omega)] at h1
  rw [subI (by rw [i1]; omega) (by rw [i1]; omega), i1] at h2
  rw [bw_iff]; omega
set_option maxHeartbeats 4000000 in
set_option maxRecDepth 100000 in
theorem y_piece (l : Launch) (dC : Nat → ClassId) (dI : Nat → Nat → Nat) (q : Nat → ClassId) (h0 : Nat) (d : Nat → Nat) (k : Nat → Int32) (z : gS) (f : xF) (hI : xI q h0 d k z f) (p0 p1 p2 : Int32) (u : mS) (hrp : rep q d u z f) (hk0 : k 0 = u.1 3) (hk1 : k 1 = u.1 28) (hk2 : k 2 = u.1 38) (hk3 : k 3 = u.1 39) : Met l yX11_piece wsX11_piece ({ frames := 3, cells := 0, slots := 0, locals := 67 }) (va_Pc [.ref h0, .int p0, .int p1, .int p2] (PX dC dI (va_pl z.1 f) (xT q))) (vp_Si (fun r => r = mPiece u p0 p1 p2)) 0 0 (fun _ => False) := by
  refine Met.ofW (cc := cX11_piece) (maxL := 7) (ret := (some .int)) (by decide) rfl ?_
  intro p e s m args below meth c s₁ B hml hv
  obtain ⟨rfl, ⟨hP, hK, hN⟩, hXN⟩ := hv
  have hx := B.exec
  have hb := B.bytes
  have hr := B.returns
  have hts := atoms_spec (ws := wsX11_piece) B.pre
  have hown : s.vm.findClass RX11 = some m.cls := findClass_of_methodNamed B.named
  have hlocks := B.notSynchronized
  have hl := lv_entry ([.ref h0, .int p0, .int p1, .int p2]) (n := 7) (Nat.le_of_ble_eq_true rfl)
  rw [lg_entry_eq]
  generalize (lg_sl ([.ref h0, .int p0, .int p1, .int p2]) ++ List.replicate (7 - (lg_sl ([.ref h0, .int p0, .int p1, .int p2])).length) Slot.unset).toArray = ls at hl ⊢
  have hl : lv_has ls 7 [(0, .ref h0), (1, .int p0), (2, .int p1), (3, .int p2)] := hl
  refine lv_aload_n hx hb dX11_piece_0 rfl (lv_at hl 0 rfl) ?_
  refine lv_iload_n hx hb dX11_piece_1 rfl (lv_at hl 1 rfl) ?_
  obtain ⟨kk_1, hk_2⟩ := pl_at hI.2.1.1.1 hI.2.2.2.1.1
  refine va_csq (va_runV (As := [.int p0]) (rest := []) ⟨hx, hb, hml, hown, hts⟩ (y_itemOf l dC dI q h0 d k z f hI p0 u hrp hk0 hk1 hk2 hk3) (cwV 1 hts gX11_piece_X11_itemOf rfl rfl rfl (by decide +kernel) ⟨Nat.le_of_ble_eq_true rfl, Nat.le_of_ble_eq_true rfl⟩) ⟨px_fb, va_recv hK hP (ci := 10) (q0 := kk_1) rfl hk_2, fun U hU hW => ⟨rfl, px_to hU hW hP hK hN hXN⟩⟩ rfl rfl hl.1 rfl (lv_room (Nat.le_of_ble_eq_true rfl)) dX11_piece_2 ⟨Nat.le_of_ble_eq_true rfl, Nat.le_of_ble_eq_true rfl⟩).run (fun r hw => ?_)
  rcases hw with ⟨hr9, hn9⟩ | ⟨i_3, hi_4, ep_5, hr9⟩
  ·
    subst hr9
    have hno_25 := hn9
    refine W.eq (g2 := F0 m 5 ls [.null]) rfl ?_
    refine lv_astoreN (lv' := [(4, .null), (0, .ref h0), (1, .int p0), (2, .int p1), (3, .int p2)]) hx hb dX11_piece_5 hl (by decide) rfl (fun ls hl => ?_)
    refine lv_aloadN hx hb dX11_piece_7 (lv_at hl 0 rfl) ?_
    refine lv_ifnullN (tgt := 27) hx hb dX11_piece_9 (by decide) ?_
    refine lv_iconst (v := (-1)) hx hb dX11_piece_27 (by decide) ?_
    exact W.iret (v := (-1)) hx hb hr (fun t ht hW => ⟨_, rfl, (mPc_no hno_25).symm, ht⟩) (fun q h => absurd h List.not_mem_nil) dX11_piece_28
  ·
    subst hr9
    obtain ⟨rs_6, n_7, g_8, fg_9, hit_10, hs_11, hpa_12, hps_13, h1_14, h6_15, hcb_16, hpl_17, hlg_18, hnn_19, hfa_20, hfs_21, hfe_22, hrs_23, hkt_24⟩ := it_all hI hrp.2.2.1 hi_4
    refine W.eq (g2 := F0 m 5 ls [.ref (d (2000 + i_3))]) rfl ?_
    refine lv_astore (lv' := [(4, .ref (d (2000 + i_3))), (0, .ref h0), (1, .int p0), (2, .int p1), (3, .int p2)]) hx hb dX11_piece_5 hl (by decide) rfl (fun ls hl => ?_)
    refine lv_aload hx hb dX11_piece_7 (lv_at hl 0 rfl) ?_
    refine lv_ifnull hx hb dX11_piece_9 ?_
    refine lv_iload_n hx hb dX11_piece_12 rfl (lv_at hl 3 rfl) ?_
    refine lv_iconst (v := 0) hx hb dX11_piece_13 (by decide) ?_
    refine lv_aload hx hb dX11_piece_14 (lv_at hl 0 rfl) ?_
    obtain ⟨kk_26, hk_27⟩ := pl_at hit_10.1 hs_11
    refine w_then (F0 m 19 ls [.int (u.2 22 i_3), .int 0, .int p1]) (fun hgo => ?_) ?_
    ·
      rcases x_tag hit_10 with ht9 | ht9 | ht9 | ht9 | ht9 | ht9
      ·
        rw [ht9.2] at hk_27
        exact va_get (D := (dC, dI)) (ci := 2) (v := .int (u.2 22 i_3)) (C := RX2) (T := TX2) (N := 7) hx hb hts (by decide +kernel) hown hK hP kk_26 hk_27 rfl 3 (by decide) (hts (.fieldLink RX11 170 "PageOne$Item" "count" "I") (by decide +kernel)) (fun _ h9 => h9) rfl dX11_piece_16 hgo
      ·
        rw [ht9.2] at hk_27
        exact va_get (D := (dC, dI)) (ci := 3) (v := .int (u.2 22 i_3)) (C := RX3) (T := TX3) (N := 8) hx hb hts (by decide +kernel) hown hK hP kk_26 hk_27 rfl 3 (by decide) (hts (.fieldLink RX11 170 "PageOne$Item" "count" "I") (by decide +kernel)) (fun _ h9 => h9) rfl dX11_piece_16 hgo
      ·
        rw [ht9.2] at hk_27
        exact va_get (D := (dC, dI)) (ci := 4) (v := .int (u.2 22 i_3)) (C := RX5) (T := TX5) (N := 7) hx hb hts (by decide +kernel) hown hK hP kk_26 hk_27 rfl 3 (by decide) (hts (.fieldLink RX11 170 "PageOne$Item" "count" "I") (by decide +kernel)) (fun _ h9 => h9) rfl dX11_piece_16 hgo
      ·
        rw [ht9.2] at hk_27
        exact va_get (D := (dC, dI)) (ci := 5) (v := .int (u.2 22 i_3)) (C := RX6) (T := TX6) (N := 9) hx hb hts (by decide +kernel) hown hK hP kk_26 hk_27 rfl 3 (by decide) (hts (.fieldLink RX11 170 "PageOne$Item" "count" "I") (by decide +kernel)) (fun _ h9 => h9) rfl dX11_piece_16 hgo
      ·
        rw [ht9.2] at hk_27
        exact va_get (D := (dC, dI)) (ci := 6) (v := .int (u.2 22 i_3)) (C := RX7) (T := TX7) (N := 8) hx hb hts (by decide +kernel) hown hK hP kk_26 hk_27 rfl 3 (by decide) (hts (.fieldLink RX11 170 "PageOne$Item" "count" "I") (by decide +kernel)) (fun _ h9 => h9) rfl dX11_piece_16 hgo
      ·
        rw [ht9.2] at hk_27
        exact va_get (D := (dC, dI)) (ci := 9) (v := .int (u.2 22 i_3)) (C := RX10) (T := TX10) (N := 9) hx hb hts (by decide +kernel) hown hK hP kk_26 hk_27 rfl 3 (by decide) (hts (.fieldLink RX11 170 "PageOne$Item" "count" "I") (by decide +kernel)) (fun _ h9 => h9) rfl dX11_piece_16 hgo
    ·
      refine lv_iconst (v := 1) hx hb dX11_piece_19 (by decide) ?_
      refine lv_isub hx hb dX11_piece_20 ?_
      refine vp_callSi (va_runS (As := [.int p1, .int 0, .int ((u.2 22 i_3) - 1)]) (rest := []) ⟨hx, hb, hml, hown, hts⟩ (x_isWithin l dC dI p1 0 ((u.2 22 i_3) - 1)) (va_cwS 3 hts gX11_piece_X11_isWithin rfl rfl rfl (by decide +kernel) ⟨Nat.le_of_ble_eq_true rfl, Nat.le_of_ble_eq_true rfl⟩) ⟨pw_fb, fun U hU hW => ⟨rfl, pw_to hU hW (hP.sub (ws' := []) [] rfl) (hK.sub (tys' := []) [] rfl) hN⟩⟩ rfl rfl hl.1 rfl (lv_room (Nat.le_of_ble_eq_true rfl)) dX11_piece_21 ⟨Nat.le_of_ble_eq_true rfl, Nat.le_of_ble_eq_true rfl⟩).run (fun r hw => ?_)
      rcases Bool.eq_false_or_eq_true (bw p1 0 ((u.2 22 i_3) - 1)) with b_28 | b_28
      ·
        obtain rfl : r = 1 := b_t hw b_28
        refine lv_if_ne (tgt := 29) hx hb dX11_piece_24 (by decide) (fun c_29 => ?_) (fun c_29 => absurd c_29 (by decide))
        refine lv_aload hx hb dX11_piece_29 (lv_at hl 0 rfl) ?_
        obtain ⟨kk_30, hk_31⟩ := pl_at hit_10.1 hs_11
        refine w_then (F0 m 34 ls [.ref (d (3000 + i_3))]) (fun hgo => ?_) ?_
        ·
          rcases x_tag hit_10 with ht9 | ht9 | ht9 | ht9 | ht9 | ht9
          ·
            rw [ht9.2] at hk_31
            exact va_get (D := (dC, dI)) (ci := 2) (v := .ref (d (3000 + i_3))) (C := RX2) (T := TX2) (N := 7) hx hb hts (by decide +kernel) hown hK hP kk_30 hk_31 rfl 2 (by decide) (hts (.fieldLink RX11 225 "PageOne$Item" "pieces" "[LPageOne$Piece;") (by decide +kernel)) (fun _ h9 => h9) rfl dX11_piece_31 hgo
          ·
            rw [ht9.2] at hk_31
            exact va_get (D := (dC, dI)) (ci := 3) (v := .ref (d (3000 + i_3))) (C := RX3) (T := TX3) (N := 8) hx hb hts (by decide +kernel) hown hK hP kk_30 hk_31 rfl 2 (by decide) (hts (.fieldLink RX11 225 "PageOne$Item" "pieces" "[LPageOne$Piece;") (by decide +kernel)) (fun _ h9 => h9) rfl dX11_piece_31 hgo
          ·
            rw [ht9.2] at hk_31
            exact va_get (D := (dC, dI)) (ci := 4) (v := .ref (d (3000 + i_3))) (C := RX5) (T := TX5) (N := 7) hx hb hts (by decide +kernel) hown hK hP kk_30 hk_31 rfl 2 (by decide) (hts (.fieldLink RX11 225 "PageOne$Item" "pieces" "[LPageOne$Piece;") (by decide +kernel)) (fun _ h9 => h9) rfl dX11_piece_31 hgo
          ·
            rw [ht9.2] at hk_31
            exact va_get (D := (dC, dI)) (ci := 5) (v := .ref (d (3000 + i_3))) (C := RX6) (T := TX6) (N := 9) hx hb hts (by decide +kernel) hown hK hP kk_30 hk_31 rfl 2 (by decide) (hts (.fieldLink RX11 225 "PageOne$Item" "pieces" "[LPageOne$Piece;") (by decide +kernel)) (fun _ h9 => h9) rfl dX11_piece_31 hgo
          ·
            rw [ht9.2] at hk_31
            exact va_get (D := (dC, dI)) (ci := 6) (v := .ref (d (3000 + i_3))) (C := RX7) (T := TX7) (N := 8) hx hb hts (by decide +kernel) hown hK hP kk_30 hk_31 rfl 2 (by decide) (hts (.fieldLink RX11 225 "PageOne$Item" "pieces" "[LPageOne$Piece;") (by decide +kernel)) (fun _ h9 => h9) rfl dX11_piece_31 hgo
          ·
            rw [ht9.2] at hk_31
            exact va_get (D := (dC, dI)) (ci := 9) (v := .ref (d (3000 + i_3))) (C := RX10) (T := TX10) (N := 9) hx hb hts (by decide +kernel) hown hK hP kk_30 hk_31 rfl 2 (by decide) (hts (.fieldLink RX11 225 "PageOne$Item" "pieces" "[LPageOne$Piece;") (by decide +kernel)) (fun _ h9 => h9) rfl dX11_piece_31 hgo
        ·
          refine lv_iload_n hx hb dX11_piece_34 rfl (lv_at hl 3 rfl) ?_
          obtain ⟨kk_32, hk_33⟩ := pl_at hpa_12.1 hps_13
          refine va_aldq hx hb hK hP kk_32 5 hk_33 rfl (vkn h6_15 hcb_16 b_28).1 dX11_piece_35 ?_
          obtain ⟨b_34, it_35, hg_36, hp_37, hlg_38⟩ := hpl_17 (p1 : Int32).toNatClampNeg (vkn h6_15 hcb_16 b_28).2
          rw [hg_36]
          refine W.eq (g2 := F0 m 36 ls [.ref b_34]) rfl ?_
          refine lv_astore (lv' := [(5, .ref b_34), (4, .ref (d (2000 + i_3))), (0, .ref h0), (1, .int p0), (2, .int p1), (3, .int p2)]) hx hb dX11_piece_36 hl (by decide) rfl (fun ls hl => ?_)
          refine lv_iload_n hx hb dX11_piece_38 rfl (lv_at hl 5 rfl) ?_
          rcases Classical.em (p2 = 0) with s_39 | s_39
          ·
            subst s_39
            refine lv_tableIn (tgt := 80) (off := 41) hx hb dX11_piece_39 (by decide) (by decide) (by decide) (by decide) ?_
            refine lv_aload hx hb dX11_piece_80 (lv_at hl 0 rfl) ?_
            obtain ⟨kk_40, hk_41⟩ := pl_at hp_37.1.1 (x_pcF hI hp_37)
            refine va_get (D := (dC, dI)) (ci := 7) (v := .int ((pR u i_3) (p1 : Int32).toNatClampNeg 0)) (C := RX8) (T := TX8) (N := 6) hx hb hts (by decide +kernel) hown hK hP kk_40 hk_41 rfl 1 (by decide) (hts (.fieldLink RX11 229 "PageOne$Piece" "page" "I") (by decide +kernel)) (fun _ h9 => h9) rfl dX11_piece_82 ?_
            exact W.iret (v := ((pR u i_3) (p1 : Int32).toNatClampNeg 0)) hx hb hr (fun t ht hW => ⟨_, rfl, (by rw [ep_5, mPc _ (by rw [← hk0]; exact hI.1.1) hi_4 (bw6 h6_15 hcb_16) b_28]; rw [if_pos rfl]), ht⟩) (fun q h => absurd h List.not_mem_nil) dX11_piece_85
          ·
            rcases Classical.em (p2 = 1) with s_42 | s_42
            ·
              subst s_42
              refine lv_tableIn (tgt := 86) (off := 47) hx hb dX11_piece_39 (by decide) (by decide) (by decide) (by decide) ?_
              refine lv_aload hx hb dX11_piece_86 (lv_at hl 0 rfl) ?_
              obtain ⟨kk_43, hk_44⟩ := pl_at hp_37.1.1 (x_pcF hI hp_37)
              refine va_get (D := (dC, dI)) (ci := 7) (v := .int ((pR u i_3) (p1 : Int32).toNatClampNeg 1)) (C := RX8) (T := TX8) (N := 6) hx hb hts (by decide +kernel) hown hK hP kk_43 hk_44 rfl 2 (by decide) (hts (.fieldLink RX11 232 "PageOne$Piece" "column" "I") (by decide +kernel)) (fun _ h9 => h9) rfl dX11_piece_88 ?_
              exact W.iret (v := ((pR u i_3) (p1 : Int32).toNatClampNeg 1)) hx hb hr (fun t ht hW => ⟨_, rfl, (by rw [ep_5, mPc _ (by rw [← hk0]; exact hI.1.1) hi_4 (bw6 h6_15 hcb_16) b_28]; rw [if_neg (by decide), if_pos rfl]), ht⟩) (fun q h => absurd h List.not_mem_nil) dX11_piece_91
            ·
              rcases Classical.em (p2 = 2) with s_45 | s_45
              ·
                subst s_45
                refine lv_tableIn (tgt := 92) (off := 53) hx hb dX11_piece_39 (by decide) (by decide) (by decide) (by decide) ?_
                refine lv_aload hx hb dX11_piece_92 (lv_at hl 0 rfl) ?_
                obtain ⟨kk_46, hk_47⟩ := pl_at hp_37.1.1 (x_pcF hI hp_37)
                refine va_get (D := (dC, dI)) (ci := 7) (v := .int ((pR u i_3) (p1 : Int32).toNatClampNeg 2)) (C := RX8) (T := TX8) (N := 6) hx hb hts (by decide +kernel) hown hK hP kk_46 hk_47 rfl 3 (by decide) (hts (.fieldLink RX11 235 "PageOne$Piece" "line" "I") (by decide +kernel)) (fun _ h9 => h9) rfl dX11_piece_94 ?_
                exact W.iret (v := ((pR u i_3) (p1 : Int32).toNatClampNeg 2)) hx hb hr (fun t ht hW => ⟨_, rfl, (by rw [ep_5, mPc _ (by rw [← hk0]; exact hI.1.1) hi_4 (bw6 h6_15 hcb_16) b_28]; rw [if_neg (by decide), if_neg (by decide), if_pos rfl]), ht⟩) (fun q h => absurd h List.not_mem_nil) dX11_piece_97
              ·
                rcases Classical.em (p2 = 3) with s_48 | s_48
                ·
                  subst s_48
                  refine lv_tableIn (tgt := 98) (off := 59) hx hb dX11_piece_39 (by decide) (by decide) (by decide) (by decide) ?_
                  refine lv_aload hx hb dX11_piece_98 (lv_at hl 0 rfl) ?_
                  obtain ⟨kk_49, hk_50⟩ := pl_at hp_37.1.1 (x_pcF hI hp_37)
                  refine va_get (D := (dC, dI)) (ci := 7) (v := .int ((pR u i_3) (p1 : Int32).toNatClampNeg 3)) (C := RX8) (T := TX8) (N := 6) hx hb hts (by decide +kernel) hown hK hP kk_49 hk_50 rfl 4 (by decide) (hts (.fieldLink RX11 238 "PageOne$Piece" "w" "I") (by decide +kernel)) (fun _ h9 => h9) rfl dX11_piece_100 ?_
                  exact W.iret (v := ((pR u i_3) (p1 : Int32).toNatClampNeg 3)) hx hb hr (fun t ht hW => ⟨_, rfl, (by rw [ep_5, mPc _ (by rw [← hk0]; exact hI.1.1) hi_4 (bw6 h6_15 hcb_16) b_28]; rw [if_neg (by decide), if_neg (by decide), if_neg (by decide), if_pos rfl]), ht⟩) (fun q h => absurd h List.not_mem_nil) dX11_piece_103
                ·
                  rcases Classical.em (p2 = 4) with s_51 | s_51
                  ·
                    subst s_51
                    refine lv_tableIn (tgt := 104) (off := 65) hx hb dX11_piece_39 (by decide) (by decide) (by decide) (by decide) ?_
                    refine lv_aload hx hb dX11_piece_104 (lv_at hl 0 rfl) ?_
                    obtain ⟨kk_52, hk_53⟩ := pl_at hp_37.1.1 (x_pcF hI hp_37)
                    refine va_get (D := (dC, dI)) (ci := 7) (v := .int ((pR u i_3) (p1 : Int32).toNatClampNeg 4)) (C := RX8) (T := TX8) (N := 6) hx hb hts (by decide +kernel) hown hK hP kk_52 hk_53 rfl 5 (by decide) (hts (.fieldLink RX11 241 "PageOne$Piece" "h" "I") (by decide +kernel)) (fun _ h9 => h9) rfl dX11_piece_106 ?_
                    exact W.iret (v := ((pR u i_3) (p1 : Int32).toNatClampNeg 4)) hx hb hr (fun t ht hW => ⟨_, rfl, (by rw [ep_5, mPc _ (by rw [← hk0]; exact hI.1.1) hi_4 (bw6 h6_15 hcb_16) b_28]; rw [if_neg (by decide), if_neg (by decide), if_neg (by decide), if_neg (by decide), if_pos rfl]), ht⟩) (fun q h => absurd h List.not_mem_nil) dX11_piece_109
                  ·
                    rcases Classical.em (p2 = 5) with s_54 | s_54
                    ·
                      subst s_54
                      refine lv_tableIn (tgt := 110) (off := 71) hx hb dX11_piece_39 (by decide) (by decide) (by decide) (by decide) ?_
                      refine lv_aload hx hb dX11_piece_110 (lv_at hl 1 rfl) ?_
                      rcases Classical.em (tg z (d (2000 + i_3)) 15) with ht9 | ht9
                      ·
                        have ht_55 := ht9
                        have hkd_57 : u.2 4 i_3 = 0 := (kT_k (kd_05 hrp.2.2.1 hi_4).1 (kd_05 hrp.2.2.1 hi_4).2).1 (hkt_24.symm.trans ht_55.2)
                        obtain ⟨hx_58, hx_59, hx_60, ⟨hx_61, hx_62, hx_63⟩, hx_64, hx_65, hx_66⟩ := hrs_23.1 hkd_57
                        have hs_67 : f (d (2000 + i_3)) = .inr (9, [.int (nI i_3), .int (u.2 4 i_3), .ref (d (3000 + i_3)), .int (u.2 22 i_3), .ref (d (4000 + i_3)), .int (u.2 5 i_3), .ref (d (5000 + i_3)), .int (u.2 15 i_3), .ref (d (6000 + i_3))]) := by rw [hs_11, ht_55.2, hx_58]; rfl
                        obtain ⟨kk_68, hk_69⟩ := pl_at ht_55.1 hs_67
                        refine va_instS hx hb hown (hts (.classLink RX11 66 "PageOne$Story") (by decide +kernel)) (hK.1 9 (RX10, TX10, 9) rfl).2 (va_recv hK hP (ci := 9) (q0 := kk_68) rfl hk_69) dX11_piece_112 ?_
                        refine lv_if_eq (tgt := 134) hx hb dX11_piece_115 (by decide) (fun c_70 => absurd c_70 (by decide)) (fun c_70 => ?_)
                        refine lv_aload hx hb dX11_piece_118 (lv_at hl 1 rfl) ?_
                        obtain ⟨kk_71, hk_72⟩ := pl_at ht_55.1 hs_67
                        refine va_castS hx hb hown (hts (.classLink RX11 66 "PageOne$Story") (by decide +kernel)) (hK.1 9 (RX10, TX10, 9) rfl).2 (va_recv hK hP (ci := 9) (q0 := kk_71) rfl hk_72) dX11_piece_120 ?_
                        refine lv_astore (lv' := [(6, .ref (d (2000 + i_3))), (5, .ref b_34), (4, .ref (d (2000 + i_3))), (0, .ref h0), (1, .int p0), (2, .int p1), (3, .int 5)]) hx hb dX11_piece_123 hl (by decide) rfl (fun ls hl => ?_)
                        refine lv_aload hx hb dX11_piece_125 (lv_at hl 0 rfl) ?_
                        refine lv_iload_n hx hb dX11_piece_127 rfl (lv_at hl 5 rfl) ?_
                        obtain ⟨kk_73, hk_74⟩ := pl_at ht_55.1 hs_67
                        refine vp_callSi (va_runV (As := [.int p1]) (rest := []) ⟨hx, hb, hml, hown, hts⟩ (y_takenBefore l dC dI q h0 d k z f hI (d (2000 + i_3)) (d (3000 + i_3)) (d (4000 + i_3)) (d (5000 + i_3)) (d (6000 + i_3)) (nI i_3) (u.2 4 i_3) (u.2 22 i_3) (u.2 5 i_3) (u.2 15 i_3) ht_55 hs_67 p1 n_7 g_8 (pR u i_3) hpa_12 hps_13 h1_14 h6_15 hcb_16 hpl_17 (bw_less h6_15 hcb_16 b_28)) (cwV 1 hts gX11_piece_X10_takenBefore rfl rfl rfl (by decide +kernel) ⟨Nat.le_of_ble_eq_true rfl, Nat.le_of_ble_eq_true rfl⟩) ⟨px_fb, va_recv hK hP (ci := 9) (q0 := kk_73) rfl hk_74, fun U hU hW => ⟨rfl, px_to hU hW hP hK hN hXN⟩⟩ rfl rfl hl.1 rfl (lv_room (Nat.le_of_ble_eq_true rfl)) dX11_piece_128 ⟨Nat.le_of_ble_eq_true rfl, Nat.le_of_ble_eq_true rfl⟩).run (fun r hw => ?_)
                        obtain rfl : r = (s_from (u.2 22 i_3) (pR u i_3) p1.toNatClampNeg) := hw
                        refine lv_goto (tgt := 135) hx hb dX11_piece_131 (by decide) ?_
                        exact W.iret (v := (s_from (u.2 22 i_3) (pR u i_3) p1.toNatClampNeg)) hx hb hr (fun t ht hW => ⟨_, rfl, (by rw [ep_5, mPc _ (by rw [← hk0]; exact hI.1.1) hi_4 (bw6 h6_15 hcb_16) b_28]; rw [if_neg (by decide), if_neg (by decide), if_neg (by decide), if_neg (by decide), if_neg (by decide), if_pos rfl, if_pos hkd_57]), ht⟩) (fun q h => absurd h List.not_mem_nil) dX11_piece_135
                      ·
                        have hn_56 := ht9
                        have hkd_57 : ¬ u.2 4 i_3 = 0 := fun e9 => ht9 ⟨hit_10.1, by rw [hkt_24, e9]; rfl⟩
                        refine w_then (F0 m 115 ls [.int 0]) (fun hgo => ?_) ?_
                        ·
                          rcases x_tag hit_10 with ht8 | ht8 | ht8 | ht8 | ht8 | ht8
                          ·
                            obtain ⟨nu_75, kd_76, cn_77, pa_78, fa_79, l_80, m_81, hs_82, hs_83, hs_84, hs_85⟩ := x_ifl hI ht8
                            obtain ⟨kk_86, hk_87⟩ := pl_at ht8.1 hs_82
                            exact va_instNo hx hb hown (hts (.classLink RX11 66 "PageOne$Story") (by decide +kernel)) hXN.n_X2_X10 (va_recv hK hP (ci := 2) (q0 := kk_86) rfl hk_87) dX11_piece_112 hgo
                          ·
                            obtain ⟨nu_88, kd_89, cn_90, pa_91, fa_92, o_93, w_94, y_95, hs_96, hs_97, hs_98, hs_99, hq_100⟩ := x_ihd hI ht8
                            obtain ⟨kk_101, hk_102⟩ := pl_at ht8.1 hs_96
                            exact va_instNo hx hb hown (hts (.classLink RX11 66 "PageOne$Story") (by decide +kernel)) hXN.n_X3_X10 (va_recv hK hP (ci := 3) (q0 := kk_101) rfl hk_102) dX11_piece_112 hgo
                          ·
                            obtain ⟨nu_103, kd_104, cn_105, pa_106, fa_107, o_108, y_109, hs_110, hs_111, hs_112, hs_113, hq_114⟩ := x_ino hI ht8
                            obtain ⟨kk_115, hk_116⟩ := pl_at ht8.1 hs_110
                            exact va_instNo hx hb hown (hts (.classLink RX11 66 "PageOne$Story") (by decide +kernel)) hXN.n_X5_X10 (va_recv hK hP (ci := 4) (q0 := kk_115) rfl hk_116) dX11_piece_112 hgo
                          ·
                            obtain ⟨nu_117, kd_118, cn_119, pa_120, fa_121, b_122, pr_123, sp_124, dy_125, hs_126, hs_127, hs_128, hs_129, hq_130, hq_131, hq_132⟩ := x_ipd hI ht8
                            obtain ⟨kk_133, hk_134⟩ := pl_at ht8.1 hs_126
                            exact va_instNo hx hb hown (hts (.classLink RX11 66 "PageOne$Story") (by decide +kernel)) hXN.n_X6_X10 (va_recv hK hP (ci := 5) (q0 := kk_133) rfl hk_134) dX11_piece_112 hgo
                          ·
                            obtain ⟨nu_135, kd_136, cn_137, pa_138, fa_139, ww_140, hh_141, sz_142, hs_143, hs_144, hs_145, hs_146, hq_147, hq_148, hq_149⟩ := x_ipi hI ht8
                            obtain ⟨kk_150, hk_151⟩ := pl_at ht8.1 hs_143
                            exact va_instNo hx hb hown (hts (.classLink RX11 66 "PageOne$Story") (by decide +kernel)) hXN.n_X7_X10 (va_recv hK hP (ci := 6) (q0 := kk_150) rfl hk_151) dX11_piece_112 hgo
                          ·
                            exact absurd ht8 ht9
                        ·
                          refine lv_if_eq (tgt := 134) hx hb dX11_piece_115 (by decide) (fun c_152 => ?_) (fun c_152 => absurd (by decide) c_152)
                          refine lv_iconst (v := 0) hx hb dX11_piece_134 (by decide) ?_
                          exact W.iret (v := 0) hx hb hr (fun t ht hW => ⟨_, rfl, (by rw [ep_5, mPc _ (by rw [← hk0]; exact hI.1.1) hi_4 (bw6 h6_15 hcb_16) b_28]; rw [if_neg (by decide), if_neg (by decide), if_neg (by decide), if_neg (by decide), if_neg (by decide), if_pos rfl, if_neg hkd_57]), ht⟩) (fun q h => absurd h List.not_mem_nil) dX11_piece_135
                    ·
                      rcases Classical.em (p2 = 6) with s_153 | s_153
                      ·
                        subst s_153
                        refine lv_tableIn (tgt := 136) (off := 97) hx hb dX11_piece_39 (by decide) (by decide) (by decide) (by decide) ?_
                        refine lv_aload hx hb dX11_piece_136 (lv_at hl 1 rfl) ?_
                        rcases Classical.em (tg z (d (2000 + i_3)) 15) with ht9 | ht9
                        ·
                          have ht_154 := ht9
                          have hkd_156 : u.2 4 i_3 = 0 := (kT_k (kd_05 hrp.2.2.1 hi_4).1 (kd_05 hrp.2.2.1 hi_4).2).1 (hkt_24.symm.trans ht_154.2)
                          obtain ⟨hx_157, hx_158, hx_159, ⟨hx_160, hx_161, hx_162⟩, hx_163, hx_164, hx_165⟩ := hrs_23.1 hkd_156
                          have hs_166 : f (d (2000 + i_3)) = .inr (9, [.int (nI i_3), .int (u.2 4 i_3), .ref (d (3000 + i_3)), .int (u.2 22 i_3), .ref (d (4000 + i_3)), .int (u.2 5 i_3), .ref (d (5000 + i_3)), .int (u.2 15 i_3), .ref (d (6000 + i_3))]) := by rw [hs_11, ht_154.2, hx_157]; rfl
                          obtain ⟨kk_167, hk_168⟩ := pl_at ht_154.1 hs_166
                          refine va_instS hx hb hown (hts (.classLink RX11 66 "PageOne$Story") (by decide +kernel)) (hK.1 9 (RX10, TX10, 9) rfl).2 (va_recv hK hP (ci := 9) (q0 := kk_167) rfl hk_168) dX11_piece_138 ?_
                          refine lv_if_eq (tgt := 160) hx hb dX11_piece_141 (by decide) (fun c_169 => absurd c_169 (by decide)) (fun c_169 => ?_)
                          refine lv_aload hx hb dX11_piece_144 (lv_at hl 1 rfl) ?_
                          obtain ⟨kk_170, hk_171⟩ := pl_at ht_154.1 hs_166
                          refine va_castS hx hb hown (hts (.classLink RX11 66 "PageOne$Story") (by decide +kernel)) (hK.1 9 (RX10, TX10, 9) rfl).2 (va_recv hK hP (ci := 9) (q0 := kk_170) rfl hk_171) dX11_piece_146 ?_
                          refine lv_astore (lv' := [(6, .ref (d (2000 + i_3))), (5, .ref b_34), (4, .ref (d (2000 + i_3))), (0, .ref h0), (1, .int p0), (2, .int p1), (3, .int 6)]) hx hb dX11_piece_149 hl (by decide) rfl (fun ls hl => ?_)
                          refine lv_aload hx hb dX11_piece_151 (lv_at hl 0 rfl) ?_
                          refine lv_iload_n hx hb dX11_piece_153 rfl (lv_at hl 5 rfl) ?_
                          obtain ⟨kk_172, hk_173⟩ := pl_at ht_154.1 hs_166
                          refine vp_callSi (va_runV (As := [.int p1]) (rest := []) ⟨hx, hb, hml, hown, hts⟩ (y_takenBy l dC dI q h0 d k z f hI (d (2000 + i_3)) (d (3000 + i_3)) (d (4000 + i_3)) (d (5000 + i_3)) (d (6000 + i_3)) (nI i_3) (u.2 4 i_3) (u.2 22 i_3) (u.2 5 i_3) (u.2 15 i_3) ht_154 hs_166 p1 n_7 g_8 (pR u i_3) hpa_12 hps_13 h1_14 h6_15 hcb_16 hpl_17) (cwV 1 hts gX11_piece_X10_takenBy rfl rfl rfl (by decide +kernel) ⟨Nat.le_of_ble_eq_true rfl, Nat.le_of_ble_eq_true rfl⟩) ⟨px_fb, va_recv hK hP (ci := 9) (q0 := kk_172) rfl hk_173, fun U hU hW => ⟨rfl, px_to hU hW hP hK hN hXN⟩⟩ rfl rfl hl.1 rfl (lv_room (Nat.le_of_ble_eq_true rfl)) dX11_piece_154 ⟨Nat.le_of_ble_eq_true rfl, Nat.le_of_ble_eq_true rfl⟩).run (fun r hw => ?_)
                          obtain rfl : r = (s_taken p1 (u.2 22 i_3) (pR u i_3)) := hw
                          refine lv_goto (tgt := 161) hx hb dX11_piece_157 (by decide) ?_
                          exact W.iret (v := (s_taken p1 (u.2 22 i_3) (pR u i_3))) hx hb hr (fun t ht hW => ⟨_, rfl, (by rw [ep_5, mPc _ (by rw [← hk0]; exact hI.1.1) hi_4 (bw6 h6_15 hcb_16) b_28]; rw [if_neg (by decide), if_neg (by decide), if_neg (by decide), if_neg (by decide), if_neg (by decide), if_neg (by decide), if_pos rfl, if_pos hkd_156]), ht⟩) (fun q h => absurd h List.not_mem_nil) dX11_piece_161
                        ·
                          have hn_155 := ht9
                          have hkd_156 : ¬ u.2 4 i_3 = 0 := fun e9 => ht9 ⟨hit_10.1, by rw [hkt_24, e9]; rfl⟩
                          refine w_then (F0 m 141 ls [.int 0]) (fun hgo => ?_) ?_
                          ·
                            rcases x_tag hit_10 with ht8 | ht8 | ht8 | ht8 | ht8 | ht8
                            ·
                              obtain ⟨nu_174, kd_175, cn_176, pa_177, fa_178, l_179, m_180, hs_181, hs_182, hs_183, hs_184⟩ := x_ifl hI ht8
                              obtain ⟨kk_185, hk_186⟩ := pl_at ht8.1 hs_181
                              exact va_instNo hx hb hown (hts (.classLink RX11 66 "PageOne$Story") (by decide +kernel)) hXN.n_X2_X10 (va_recv hK hP (ci := 2) (q0 := kk_185) rfl hk_186) dX11_piece_138 hgo
                            ·
                              obtain ⟨nu_187, kd_188, cn_189, pa_190, fa_191, o_192, w_193, y_194, hs_195, hs_196, hs_197, hs_198, hq_199⟩ := x_ihd hI ht8
                              obtain ⟨kk_200, hk_201⟩ := pl_at ht8.1 hs_195
                              exact va_instNo hx hb hown (hts (.classLink RX11 66 "PageOne$Story") (by decide +kernel)) hXN.n_X3_X10 (va_recv hK hP (ci := 3) (q0 := kk_200) rfl hk_201) dX11_piece_138 hgo
                            ·
                              obtain ⟨nu_202, kd_203, cn_204, pa_205, fa_206, o_207, y_208, hs_209, hs_210, hs_211, hs_212, hq_213⟩ := x_ino hI ht8
                              obtain ⟨kk_214, hk_215⟩ := pl_at ht8.1 hs_209
                              exact va_instNo hx hb hown (hts (.classLink RX11 66 "PageOne$Story") (by decide +kernel)) hXN.n_X5_X10 (va_recv hK hP (ci := 4) (q0 := kk_214) rfl hk_215) dX11_piece_138 hgo
                            ·
                              obtain ⟨nu_216, kd_217, cn_218, pa_219, fa_220, b_221, pr_222, sp_223, dy_224, hs_225, hs_226, hs_227, hs_228, hq_229, hq_230, hq_231⟩ := x_ipd hI ht8
                              obtain ⟨kk_232, hk_233⟩ := pl_at ht8.1 hs_225
                              exact va_instNo hx hb hown (hts (.classLink RX11 66 "PageOne$Story") (by decide +kernel)) hXN.n_X6_X10 (va_recv hK hP (ci := 5) (q0 := kk_232) rfl hk_233) dX11_piece_138 hgo
                            ·
                              obtain ⟨nu_234, kd_235, cn_236, pa_237, fa_238, ww_239, hh_240, sz_241, hs_242, hs_243, hs_244, hs_245, hq_246, hq_247, hq_248⟩ := x_ipi hI ht8
                              obtain ⟨kk_249, hk_250⟩ := pl_at ht8.1 hs_242
                              exact va_instNo hx hb hown (hts (.classLink RX11 66 "PageOne$Story") (by decide +kernel)) hXN.n_X7_X10 (va_recv hK hP (ci := 6) (q0 := kk_249) rfl hk_250) dX11_piece_138 hgo
                            ·
                              exact absurd ht8 ht9
                          ·
                            refine lv_if_eq (tgt := 160) hx hb dX11_piece_141 (by decide) (fun c_251 => ?_) (fun c_251 => absurd (by decide) c_251)
                            refine lv_iconst (v := 0) hx hb dX11_piece_160 (by decide) ?_
                            exact W.iret (v := 0) hx hb hr (fun t ht hW => ⟨_, rfl, (by rw [ep_5, mPc _ (by rw [← hk0]; exact hI.1.1) hi_4 (bw6 h6_15 hcb_16) b_28]; rw [if_neg (by decide), if_neg (by decide), if_neg (by decide), if_neg (by decide), if_neg (by decide), if_neg (by decide), if_pos rfl, if_neg hkd_156]), ht⟩) (fun q h => absurd h List.not_mem_nil) dX11_piece_161
                      ·
                        refine lv_tableOut (tgt := 162) hx hb dX11_piece_39 (sw_out6 s_39 s_42 s_45 s_48 s_51 s_54 s_153) (by decide) ?_
                        refine lv_iconst (v := (-1)) hx hb dX11_piece_162 (by decide) ?_
                        exact W.iret (v := (-1)) hx hb hr (fun t ht hW => ⟨_, rfl, (by rw [ep_5, mPc _ (by rw [← hk0]; exact hI.1.1) hi_4 (bw6 h6_15 hcb_16) b_28]; rw [if_neg s_39, if_neg s_42, if_neg s_45, if_neg s_48, if_neg s_51, if_neg s_54, if_neg s_153]), ht⟩) (fun q h => absurd h List.not_mem_nil) dX11_piece_163
      ·
        obtain rfl : r = 0 := b_f hw b_28
        refine lv_if_ne (tgt := 29) hx hb dX11_piece_24 (by decide) (fun c_252 => absurd (by decide) c_252) (fun c_252 => ?_)
        refine lv_iconst (v := (-1)) hx hb dX11_piece_27 (by decide) ?_
        exact W.iret (v := (-1)) hx hb hr (fun t ht hW => ⟨_, rfl, (by rw [ep_5]; exact (mPc_k (by rw [← hk0]; exact hI.1.1) hi_4 (bne b_28)).symm), ht⟩) (fun q h => absurd h List.not_mem_nil) dX11_piece_28
/-- five entries of the book that belong to item j -/
def bI (P : Nat → Prop) (j : Nat) : Prop := P (2000 + j) ∧ P (3000 + j) ∧ P (4000 + j) ∧ P (5000 + j) ∧ P (6000 + j)
/-- the book's entries outside X keep their contents -/
def fK (d : Nat → Nat) (z : gS) (f f2 : xF) (X : Nat → Prop) : Prop := (∀ x t, nO d z x t → ¬ X x → f2 (d x) = f (d x)) ∧ ∀ j, t3 d z j → ¬ X (3000 + j) → f2 (d (3000 + j)) = f (d (3000 + j))
theorem fK_rf (d : Nat → Nat) (z : gS) (f : xF) (X : Nat → Prop) : fK d z f f X := ⟨fun _ _ _ _ => rfl, fun _ _ _ => rfl⟩
theorem fK_up {d : Nat → Nat} {z : gS} {f f1 : xF} {X : Nat → Prop} {x t : Nat} {e : va_E} (h : fK d z f f1 X) (hx : nO d z x t) (ht : t ≠ 16) (hX : X x) : fK d z f (va_up f1 (d x) e) X :=
  ⟨fun y s hy n => by rw [up_o (nO_ne hy hx (fun e => n (e ▸ hX)))]; exact h.1 y s hy n, fun j hj n => by rw [up_o (tg_ne hj.1 hx.1 (fun e => ht e.symm))]; exact h.2 j hj n⟩
/-- u and w say the same of item j -/
def sI (u w : mS) (j : Nat) : Prop := (∀ r, 4 ≤ r → r ≤ 22 → r ≠ 16 → r ≠ 18 → r ≠ 19 → r ≠ 20 → r ≠ 21 → w.2 r j = u.2 r j) ∧ (∀ r, 23 ≤ r → r ≤ 27 → ∀ t, t < (u.2 22 j).toNatClampNeg → w.2 r (6 * j + t) = u.2 r (6 * j + t)) ∧ (∀ t, t < 5 → w.2 47 (5 * j + t) = u.2 47 (5 * j + t)) ∧ (∀ t, t < 80 → w.2 16 (80 * j + t) = u.2 16 (80 * j + t)) ∧ (∀ t, t < 4 → w.2 18 (4 * j + t) = u.2 18 (4 * j + t) ∧ w.2 19 (4 * j + t) = u.2 19 (4 * j + t)) ∧ (∀ t, t < 10 → w.2 21 (10 * j + t) = u.2 21 (10 * j + t)) ∧ ∀ t, t < 400 → w.2 48 (80 * t + j) = u.2 48 (80 * t + j)
theorem nO_d {d d2 : Nat → Nat} {z : gS} {x t : Nat} (e : d2 x = d x) (h : nO d z x t) : nO d2 z x t := by unfold nO; rw [e]; exact h
theorem eqR_w {n : Nat} {g r r2 : Nat → Int32} {o : Nat} (h : eqR n g r o) (hr : ∀ t, t < n → r2 (o + t) = r (o + t)) : eqR n g r2 o := fun t ht => by rw [hr t ht]; exact h t ht
/-- what stands behind an item's common fields, kept -/
theorem rRs_fr {q d d2 u w z z2 f f2} {j : Nat} {rs : List Value} (h : rRs q d u z f j rs) (hE : zE z z2) (hd : bI (fun x => d2 x = d x) j) {X : Nat → Prop} (hf : fK d z f f2 X) (hX : bI (fun x => ¬ X x) j) (hs : sI u w j) (hn : (u.1 3).toNatClampNeg ≤ (w.1 3).toNatClampNeg) (ho : ∀ o, o < (u.1 3).toNatClampNeg → d2 (2000 + o) = d (2000 + o) ∧ w.2 4 o = u.2 4 o) : rRs q d2 w z2 f2 j rs := by
  obtain ⟨-, -, -, d5, d6⟩ := hd
  obtain ⟨-, -, -, x5, x6⟩ := hX
  obtain ⟨s1, s2, s3, s4, s5, s6, s7⟩ := hs
  have r4 : w.2 4 j = u.2 4 j := s1 4 (by omega) (by omega) (by omega) (by omega) (by omega) (by omega) (by omega)
  have q5 : w.2 5 j = u.2 5 j := s1 5 (by omega) (by omega) (by omega) (by omega) (by omega) (by omega) (by omega)
  have q6 : w.2 6 j = u.2 6 j := s1 6 (by omega) (by omega) (by omega) (by omega) (by omega) (by omega) (by omega)
  have q7 : w.2 7 j = u.2 7 j := s1 7 (by omega) (by omega) (by omega) (by omega) (by omega) (by omega) (by omega)
  have q8 : w.2 8 j = u.2 8 j := s1 8 (by omega) (by omega) (by omega) (by omega) (by omega) (by omega) (by omega)
  have q9 : w.2 9 j = u.2 9 j := s1 9 (by omega) (by omega) (by omega) (by omega) (by omega) (by omega) (by omega)
  have q10 : w.2 10 j = u.2 10 j := s1 10 (by omega) (by omega) (by omega) (by omega) (by omega) (by omega) (by omega)
  have q11 : w.2 11 j = u.2 11 j := s1 11 (by omega) (by omega) (by omega) (by omega) (by omega) (by omega) (by omega)
  have q12 : w.2 12 j = u.2 12 j := s1 12 (by omega) (by omega) (by omega) (by omega) (by omega) (by omega) (by omega)
  have q13 : w.2 13 j = u.2 13 j := s1 13 (by omega) (by omega) (by omega) (by omega) (by omega) (by omega) (by omega)
  have q14 : w.2 14 j = u.2 14 j := s1 14 (by omega) (by omega) (by omega) (by omega) (by omega) (by omega) (by omega)
  have q15 : w.2 15 j = u.2 15 j := s1 15 (by omega) (by omega) (by omega) (by omega) (by omega) (by omega) (by omega)
  have q17 : w.2 17 j = u.2 17 j := s1 17 (by omega) (by omega) (by omega) (by omega) (by omega) (by omega) (by omega)
  obtain ⟨k0, k1, k2, k3, k4, k5⟩ := h
  unfold rRs
  rw [r4, q5, q6, q7, q8, q9, q10, q11, q12, q13, q14, q15, q17, d5, d6]
  refine ⟨fun e => ?_, fun e => ?_, fun e => ?_, fun e => ?_, k4, fun e => ?_⟩
  · obtain ⟨a1, a2, a3, ⟨g1, a4, a5⟩, g2, a6, a7⟩ := k0 e
    exact ⟨a1, nO_d d5 (nO_E hE a2), nO_d d6 (nO_E hE a3), ⟨g1, by rw [hf.1 _ _ a2 x5]; exact a4, eqR_w a5 s4⟩, g2, by rw [hf.1 _ _ a3 x6]; exact a6, eqR_w a7 s6⟩
  · obtain ⟨o, a1, a2, a3, a4⟩ := k1 e
    exact ⟨o, by omega, a2, by rw [(ho o a1).2]; exact a3, by rw [(ho o a1).1]; exact a4⟩
  · obtain ⟨a1, a2, a3, ⟨g1, a4, a5⟩, g2, a6, a7⟩ := k2 e
    exact ⟨a1, nO_d d5 (nO_E hE a2), nO_d d6 (nO_E hE a3), ⟨g1, by rw [hf.1 _ _ a2 x5]; exact a4, eqR_w a5 fun t ht => (s5 t ht).1⟩, g2, by rw [hf.1 _ _ a3 x6]; exact a6, eqR_w a7 fun t ht => (s5 t ht).2⟩
  · obtain ⟨a1, a2, a3, g1, a4, a5⟩ := k3 e
    exact ⟨a1, zE_pc hE a2, nO_d d6 (nO_E hE a3), g1, by rw [hf.1 _ _ a3 x6]; exact a4, fun t ht => by rw [s7 t ht]; exact a5 t ht⟩
  · obtain ⟨o, a1, a2, a3⟩ := k5 e
    exact ⟨o, by omega, a2, by rw [(ho o a1).1]; exact a3⟩
/-- item j, kept -/
theorem rIt_fr {q d d2 u w z z2 f f2} {j : Nat} (h : rIt q d u z f j) (hE : zE z z2) (hd : bI (fun x => d2 x = d x) j) {X : Nat → Prop} (hf : fK d z f f2 X) (hX : bI (fun x => ¬ X x) j) (hs : sI u w j) (hn : (u.1 3).toNatClampNeg ≤ (w.1 3).toNatClampNeg) (ho : ∀ o, o < (u.1 3).toNatClampNeg → d2 (2000 + o) = d (2000 + o) ∧ w.2 4 o = u.2 4 o) : rIt q d2 w z2 f2 j := by
  obtain ⟨n1, n2, n3, hkd, rs, g, fg, hsl, hps, hpcs, hfs, hfe, hrs⟩ := h
  have hrs2 := rRs_fr hrs hE hd hf hX hs hn ho
  obtain ⟨d2_, d3, d4, d5, d6⟩ := hd
  obtain ⟨x2, x3, x4, -, -⟩ := hX
  have f2_ := hf.1 _ _ n1 x2
  have f3 := hf.2 _ n2 x3
  have f4 := hf.1 _ _ n3 x4
  obtain ⟨s1, s2, s3, s4, s5, s6, s7⟩ := hs
  have r4 : w.2 4 j = u.2 4 j := s1 4 (by omega) (by omega) (by omega) (by omega) (by omega) (by omega) (by omega)
  have r22 : w.2 22 j = u.2 22 j := s1 22 (by omega) (by omega) (by omega) (by omega) (by omega) (by omega) (by omega)
  refine ⟨by rw [r4]; exact nO_d d2_ (nO_E hE n1), ⟨by rw [d3]; exact zE_tg hE n2.1, n2.2⟩, nO_d d4 (nO_E hE n3), by rw [r4]; exact hkd, rs, g, fg, ?_, ?_, ?_, ?_, eqR_w hfe s3, hrs2⟩
  · rw [d2_, d3, d4, f2_, r4, r22, zE_o hE n1.1.1]; exact hsl
  · rw [d3, f3, r4]; exact hps
  · intro t ht
    rw [r22] at ht
    obtain ⟨b, b1, b2⟩ := hpcs t ht
    refine ⟨b, b1, ?_⟩
    have hp : ∀ c, c < 5 → pR w j t c = pR u j t c := fun c hc => s2 (23 + c) (by omega) (by omega) t ht
    rw [d2_, hp 0 (by omega), hp 1 (by omega), hp 2 (by omega), hp 3 (by omega), hp 4 (by omega)]
    exact zE_pc hE b2
  · rw [d4, f4]; exact hfs
/-- the pages, kept -/
theorem rPg_fr {q d d2 u w z z2 f f2} (h : rPg q d u z f) (hE : zE z z2) (hd : ∀ x, x < 100 → d2 x = d x) {X : Nat → Prop} (hf : fK d z f f2 X) (hX : ∀ x, x < 100 → x ≠ 1 → x ≠ 2 → x ≠ 3 → x ≠ 4 → ¬ X x) (hn0 : nO d z 0 2) (h0 : w.2 0 = u.2 0) (h1 : w.2 1 = u.2 1) (h2 : w.2 2 = u.2 2) : rPg q d2 w z2 f2 := by
  obtain ⟨⟨g, a1, a2⟩, a3⟩ := h
  refine ⟨⟨g, by rw [hd 0 (by omega), hf.1 0 _ hn0 (hX 0 (by omega) (by omega) (by omega) (by omega) (by omega))]; exact a1, fun p hp => by rw [hd _ (by omega)]; exact a2 p hp⟩, fun p hp => ?_⟩
  obtain ⟨n1, n2, n3, dd, ii, s1, ⟨gl, s2, s3⟩, gc, s4, s5⟩ := a3 p hp
  have e1 := hd (10 + p) (by omega)
  have e2 := hd (30 + p) (by omega)
  have e3 := hd (50 + p) (by omega)
  refine ⟨nO_d e1 (nO_E hE n1), nO_d e2 (nO_E hE n2), nO_d e3 (nO_E hE n3), dd, ii, ?_, ⟨gl, ?_, by rw [h0]; exact s3⟩, gc, ?_, by rw [h2]; exact s5⟩
  · rw [e1, e2, e3, hf.1 (10 + p) _ n1 (hX (10 + p) (by omega) (by omega) (by omega) (by omega) (by omega)), h1]; exact s1
  · rw [e2, hf.1 (30 + p) _ n2 (hX (30 + p) (by omega) (by omega) (by omega) (by omega) (by omega))]; exact s2
  · rw [e3, hf.1 (50 + p) _ n3 (hX (50 + p) (by omega) (by omega) (by omega) (by omega) (by omega))]; exact s4
/-- the plates, kept -/
theorem rPl_fr {q d d2 u w z z2 f f2} (h : rPl q d u z f) (hE : zE z z2) (hd1 : d2 1 = d 1) (hd : ∀ x, 1000 ≤ x → x < 1100 → d2 x = d x) {X : Nat → Prop} (hf : fK d z f f2 X) (hX1 : ¬ X 1) (hX : ∀ x, 1000 ≤ x → x < 1100 → ¬ X x) (hn1 : nO d z 1 3) (hr : ∀ r, 40 ≤ r → r ≤ 44 → w.2 r = u.2 r) : rPl q d2 w z2 f2 := by
  obtain ⟨g, a1, a2⟩ := h
  have q0 := hr 40 (by omega) (by omega)
  have q1 := hr 41 (by omega) (by omega)
  have q2 := hr 42 (by omega) (by omega)
  have q3 := hr 43 (by omega) (by omega)
  have q4 := hr 44 (by omega) (by omega)
  refine ⟨g, by rw [hd1, hf.1 1 _ hn1 hX1]; exact a1, fun p hp => ?_⟩
  have e1 := hd (1000 + p) (by omega) (by omega)
  have e2 := hd (1020 + p) (by omega) (by omega)
  have e3 := hd (1040 + p) (by omega) (by omega)
  rcases a2 p hp with ⟨b1, b2⟩ | ⟨b1, b2, n1, n2, n3, m2, s1, ⟨gl, s2, s3⟩, gc, s4, s5⟩
  · exact Or.inl ⟨by rw [q0]; exact b1, b2⟩
  · refine Or.inr ⟨by rw [q0]; exact b1, by rw [e1]; exact b2, nO_d e1 (nO_E hE n1), nO_d e2 (nO_E hE n2), nO_d e3 (nO_E hE n3), m2, ?_, ⟨gl, ?_, by rw [q3]; exact s3⟩, gc, ?_, by rw [q4]; exact s5⟩
    · have c1 := hf.1 (1000 + p) _ n1 (hX (1000 + p) (by omega) (by omega))
      rw [e1, e2, e3, c1, q1, q2]; exact s1
    · have c2 := hf.1 (1020 + p) _ n2 (hX (1020 + p) (by omega) (by omega))
      rw [e2, c2]; exact s2
    · have c3 := hf.1 (1040 + p) _ n3 (hX (1040 + p) (by omega) (by omega))
      rw [e3, c3]; exact s4
theorem rRv_fr {q d d2 u w f f2} (h : rRv q d u f) (hd : d2 4 = d 4) (hf : f2 (d 4) = f (d 4)) (hr : w.2 20 = u.2 20) : rRv q d2 w f2 := by
  obtain ⟨g, a1, a2⟩ := h
  exact ⟨g, by rw [hd, hf]; exact a1, by rw [hr]; exact a2⟩
/-- a write at an item alone -/
theorem rep_it {q d u w z f f2} {X : Nat → Prop} {i : Nat} (h : rep q d u z f) (hf : fK d z f f2 X) (hX : ∀ x, X x → x = 2000 + i ∨ x = 3000 + i ∨ x = 4000 + i ∨ x = 5000 + i ∨ x = 6000 + i) (hi : i < 80) (hn : (u.1 3).toNatClampNeg ≤ 80) (hs : ∀ j, j < (u.1 3).toNatClampNeg → j ≠ i → sI u w j) (h1 : w.1 = u.1) (hr : ∀ r, r < 3 ∨ r = 4 ∨ r = 20 ∨ (40 ≤ r ∧ r ≤ 44) → w.2 r = u.2 r) (hit : rIt q d w z f2 i) : rep q d w z f2 := by
  obtain ⟨h1g, h1l, ⟨⟨g, a1, a2⟩, a3⟩, h1v, n0, n1, n2, n3, n4⟩ := h
  have nx : ∀ x, x < 2000 → ¬ X x := fun x hx hX2 => by rcases hX x hX2 with e | e | e | e | e <;> omega
  refine ⟨rPg_fr h1g (zE_rf z) (fun _ _ => rfl) hf (fun x hx _ _ _ _ => nx x (by omega)) n0 (hr 0 (by omega)) (hr 1 (by omega)) (hr 2 (by omega)), rPl_fr h1l (zE_rf z) rfl (fun _ _ _ => rfl) hf (nx 1 (by omega)) (fun x _ hx => nx x (by omega)) n1 (fun r r1 r2 => hr r (by omega)), ⟨⟨g, by rw [hf.1 2 _ n2 (nx 2 (by omega))]; exact a1, fun j hj => a2 j (by rw [← h1]; exact hj)⟩, fun j hj => ?_⟩, rRv_fr h1v rfl (hf.1 4 _ n4 (nx 4 (by omega))) (hr 20 (by omega)), n0, n1, n2, n3, n4⟩
  rw [h1] at hj
  by_cases e : j = i
  · rw [e]; exact hit
  · refine rIt_fr (a3 j hj) (zE_rf z) ⟨rfl, rfl, rfl, rfl, rfl⟩ hf ?_ (hs j hj e) (by rw [h1]; exact Nat.le_refl _) (fun o _ => ⟨rfl, by rw [hr 4 (by omega)]⟩)
    refine ⟨fun x => ?_, fun x => ?_, fun x => ?_, fun x => ?_, fun x => ?_⟩ <;> rcases hX _ x with e | e | e | e | e <;> omega
theorem mst_1 (u : mS) (r : Nat) (a x : Int32) : (mst u r a x).1 = u.1 := rfl
/-- line: what is written keeps rep -/
theorem rep_line {q d u z f} {i : Nat} (h : rep q d u z f) (hn : bw (u.1 3) 0 80 = true) (hi : i < (u.1 3).toNatClampNeg) (hk : u.2 4 i = 0) (hco : bw (u.2 15 i) 0 80 = true) (h80 : u.2 15 i < 80) (x : Int32) {gw : Nat → Int32} (hw : f (d (5000 + i)) = aI (q 0) 80 gw) : rep q d (mst (mst u 16 (80 * nI i + u.2 15 i) x) 15 (nI i) (u.2 15 i + 1)) z (va_up (va_up f (d (5000 + i)) (aI (q 0) 80 (upd gw (u.2 15 i).toNatClampNeg x))) (d (2000 + i)) (.inr (9, [.int (nI i), .int (u.2 4 i), .ref (d (3000 + i)), .int (u.2 22 i), .ref (d (4000 + i)), .int (u.2 5 i), .ref (d (5000 + i)), .int (u.2 15 i + 1), .ref (d (6000 + i))]))) := by
  have hi8 := (bw_it hn hi).2
  have hN : (u.1 3).toNatClampNeg ≤ 80 := by
    obtain ⟨c1, c2, c3⟩ := nI_of_bw hn
    have e80 : (80 : Int32).toInt = 80 := rfl
    rw [e80] at c3; omega
  obtain ⟨c1, c2, c3⟩ := nI_of_bw hco
  have hc80 : (u.2 15 i).toNatClampNeg < 80 := by
    have e80 : (80 : Int32).toInt = 80 := rfl
    rw [i32_lt, e80] at h80; omega
  have eA : (80 * nI i + u.2 15 i).toNatClampNeg = 80 * i + (u.2 15 i).toNatClampNeg := by
    rw [c1, show (80 : Int32) = nI 80 from rfl, pk_mul, nI_add, nI_clamp (by omega), nI_clamp (n := (u.2 15 i).toNatClampNeg) (by omega)]
  have eI : (nI i).toNatClampNeg = i := nI_clamp (by omega)
  obtain ⟨n1, n2, n3, hkd, rs, g, fg, hsl, hps, hpcs, hfs, hfe, hrs⟩ := h.2.2.1.2 i hi
  obtain ⟨a1, a2, a3, ⟨g1, a4, a5⟩, g2, a6, a7⟩ := hrs.1 hk
  obtain rfl := (aI_inj (hw.symm.trans a4)).2
  generalize hco2 : (u.2 15 i).toNatClampNeg = co at *
  generalize hw9 : mst (mst u 16 (80 * nI i + u.2 15 i) x) 15 (nI i) (u.2 15 i + 1) = w
  have w2 : ∀ r, r ≠ 15 → r ≠ 16 → w.2 r = u.2 r := fun r r1 r2 => by rw [← hw9, mst_other r1, mst_other r2]
  have w15 : ∀ j, w.2 15 j = if j = i then u.2 15 i + 1 else u.2 15 j := fun j => by rw [← hw9, mst_at, eI, mst_other (by decide)]
  have w16 : ∀ j, w.2 16 j = if j = 80 * i + co then x else u.2 16 j := fun j => by rw [← hw9, mst_other (by decide), mst_at, eA]
  have w1 : w.1 = u.1 := by rw [← hw9]; rfl
  have t15 : kT (u.2 4 i) = 15 := by rw [hk]; rfl
  rw [t15] at n1
  have hf : fK d z f (va_up (va_up f (d (5000 + i)) (aI (q 0) 80 (upd gw co x))) (d (2000 + i)) (.inr (9, [.int (nI i), .int (u.2 4 i), .ref (d (3000 + i)), .int (u.2 22 i), .ref (d (4000 + i)), .int (u.2 5 i), .ref (d (5000 + i)), .int (u.2 15 i + 1), .ref (d (6000 + i))]))) (fun x => x = 2000 + i ∨ x = 5000 + i) := fK_up (fK_up (fK_rf d z f _) a2 (by decide) (Or.inr rfl)) n1 (by decide) (Or.inl rfl)
  refine rep_it (i := i) h hf (fun x hx => by rcases hx with e | e <;> omega) hi8 hN (fun j hj hji => ?_) w1 (fun r hr => w2 r (by omega) (by omega)) ?_
  · refine ⟨fun r r1 r2 r3 _ _ _ _ => ?_, fun r r1 r2 t _ => by rw [w2 r (by omega) (by omega)], fun t _ => by rw [w2 47 (by omega) (by omega)], fun t ht => ?_, fun t _ => by rw [w2 18 (by omega) (by omega), w2 19 (by omega) (by omega)]; exact ⟨rfl, rfl⟩, fun t _ => by rw [w2 21 (by omega) (by omega)], fun t _ => by rw [w2 48 (by omega) (by omega)]⟩
    · by_cases e : r = 15
      · rw [e, w15, if_neg hji]
      · rw [w2 r e r3]
    · rw [w16, if_neg (by omega)]
  · have q4 : w.2 4 = u.2 4 := w2 4 (by omega) (by omega)
    have q5 : w.2 5 = u.2 5 := w2 5 (by omega) (by omega)
    have q22 : w.2 22 = u.2 22 := w2 22 (by omega) (by omega)
    have q15 : w.2 15 i = u.2 15 i + 1 := by rw [w15, if_pos rfl]
    have ne1 : d (5000 + i) ≠ d (2000 + i) := nO_ne a2 n1 (by omega)
    refine ⟨by rw [q4, t15]; exact n1, n2, n3, by rw [q4]; exact hkd, [.int (u.2 5 i), .ref (d (5000 + i)), .int (u.2 15 i + 1), .ref (d (6000 + i))], g, fg, ?_, ?_, ?_, ?_, ?_, ?_⟩
    · rw [up_s, n1.1.2, q4, q22]; rfl
    · rw [hf.2 i n2 (fun e => by rcases e with e | e <;> omega), q4]; exact hps
    · intro t ht
      rw [q22] at ht
      obtain ⟨b, b1, b2⟩ := hpcs t ht
      refine ⟨b, b1, ?_⟩
      have hp : ∀ c, c < 5 → pR w i t c = pR u i t c := fun c hc => by show w.2 (23 + c) _ = u.2 (23 + c) _; rw [w2 (23 + c) (by omega) (by omega)]
      rw [hp 0 (by omega), hp 1 (by omega), hp 2 (by omega), hp 3 (by omega), hp 4 (by omega)]
      exact b2
    · rw [hf.1 _ _ n3 (fun e => by rcases e with e | e <;> omega)]; exact hfs
    · rw [w2 47 (by omega) (by omega)]; exact hfe
    · have no : ∀ kk : Int32, kk ≠ 0 → ¬ w.2 4 i = kk := fun kk hkk e => hkk (by rw [q4, hk] at e; exact e.symm)
      refine ⟨fun _ => ⟨by rw [q5, q15], a2, a3, ⟨_, by rw [up_o ne1, up_s], ?_⟩, g2, by rw [hf.1 _ _ a3 (fun e => by rcases e with e | e <;> omega)]; exact a6, by rw [w2 21 (by omega) (by omega)]; exact a7⟩, fun e => absurd e (no 1 (by decide)), fun e => absurd e (no 2 (by decide)), fun e => absurd e (no 3 (by decide)), fun e => absurd e (no 4 (by decide)), fun e => absurd e (no 5 (by decide))⟩
      intro t ht
      rw [w16]
      unfold upd
      by_cases e : t = co
      · rw [if_pos e, if_pos (by omega)]
      · rw [if_neg e, if_neg (by omega)]; exact a5 t ht
theorem mK_no {u : mS} {p kd : Int32} (h : ¬ bw p 0 (u.1 3 - 1) = true) : mKind u p kd = false := by
  unfold mKind; cases hb : bw p 0 (u.1 3 - 1) with
  | false => rfl
  | true => exact absurd hb h
theorem mK_it {u : mS} {i : Nat} {kd : Int32} (hn : bw (u.1 3) 0 80 = true) (hi : i < (u.1 3).toNatClampNeg) : mKind u (nI i) kd = decide (u.2 4 i = kd) := by
  have h2 := bw_it hn hi
  unfold mKind; rw [h2.1, nI_clamp (by omega), Bool.true_and]
theorem line_n {u : mS} {p x : Int32} (h : mKind u p 0 = false) : mLine u p x = (-1, u) := by
  unfold mLine; rw [h, if_neg (by decide)]
theorem line_x {u : mS} {p x : Int32} (h : ¬ bw x 1 200 = true) : mLine u p x = (-1, u) := by
  unfold mLine; rw [if_neg h]; split <;> rfl
theorem line_y {q d u z f f2} {i : Nat} {x r : Int32} {gw : Nat → Int32} (h : rep q d u z f) (hu : rI u) (hi : i < (u.1 3).toNatClampNeg) (hk : u.2 4 i = 0) (hx : bw x 1 200 = true) (hw : f (d (5000 + i)) = aI (q 0) 80 gw) (hr : r = s_takeIn x (u.2 15 i)) (hf : f2 = s_takeIn_f q f (d (2000 + i)) (d (3000 + i)) (d (4000 + i)) (d (5000 + i)) (d (6000 + i)) x (nI i) (u.2 4 i) (u.2 22 i) (u.2 5 i) (u.2 15 i) gw) : r = (mLine u (nI i) x).1 ∧ rep q d (mLine u (nI i) x).2 z f2 := by
  have h2 := bw_it hu.1 hi
  have hco := hu.2.2.2.2.1 i h2.2
  have eI : (nI i).toNatClampNeg = i := nI_clamp (by omega)
  have hK : mKind u (nI i) 0 = true := by rw [mK_it hu.1 hi, hk]; rfl
  have e80 : (80 : Int32).toInt = 80 := rfl
  by_cases c : u.2 15 i < 80
  · have n80 : ¬ u.2 15 i = 80 := fun e => by rw [e, i32_lt] at c; omega
    have e : mLine u (nI i) x = ((u.2 15 i + 1), mst (mst u 16 (80 * nI i + u.2 15 i) x) 15 (nI i) (u.2 15 i + 1)) := by
      unfold mLine
      rw [if_pos hK, if_pos hx, eI, if_neg n80]
      have e1 : (mst u 16 (80 * nI i + u.2 15 i) x).2 15 i = u.2 15 i := by rw [mst_other (by decide)]
      show ((mst (mst u 16 (80 * nI i + u.2 15 i) x) 15 (nI i) ((mst u 16 (80 * nI i + u.2 15 i) x).2 15 i + 1)).2 15 i, _) = _
      rw [e1, mst_at, eI, if_pos rfl]
    rw [e, hr, hf]
    unfold s_takeIn s_takeIn_f
    rw [if_pos c, if_pos c]
    exact ⟨rfl, rep_line h hu.1 hi hk hco c x hw⟩
  · have y80 : u.2 15 i = 80 := by
      have h3 := bw_iff.mp hco
      rw [i32_lt] at c
      exact Int32.toInt_inj.mp (by omega)
    have e : mLine u (nI i) x = (-1, u) := by
      unfold mLine
      rw [if_pos hK, if_pos hx, eI, if_pos y80]
    rw [e, hr, hf]
    unfold s_takeIn s_takeIn_f
    rw [if_neg c, if_neg c]
    exact ⟨rfl, h⟩
theorem w80 {u : mS} (hn : bw (u.1 3) 0 80 = true) : (u.1 3).toNatClampNeg ≤ 80 := by
  obtain ⟨c1, c2, c3⟩ := nI_of_bw hn
  have e80 : (80 : Int32).toInt = 80 := rfl
  rw [e80] at c3; omega
/-- size: what is written keeps rep -/
theorem rep_size {q d u z f} {i : Nat} (h : rep q d u z f) (hn : bw (u.1 3) 0 80 = true) (hi : i < (u.1 3).toNatClampNeg) (hk : u.2 4 i = 2) (hco : bw (u.2 17 i) 0 4 = true) (h80 : u.2 17 i < 4) (x y : Int32) {gw gh : Nat → Int32} (hw : f (d (5000 + i)) = aI (q 0) 4 gw) (hh : f (d (6000 + i)) = aI (q 0) 4 gh) : rep q d (mst (mst (mst u 18 (4 * nI i + u.2 17 i) x) 19 (4 * nI i + u.2 17 i) y) 17 (nI i) (u.2 17 i + 1)) z (va_up (va_up (va_up f (d (5000 + i)) (aI (q 0) 4 (upd gw (u.2 17 i).toNatClampNeg x))) (d (6000 + i)) (aI (q 0) 4 (upd gh (u.2 17 i).toNatClampNeg y))) (d (2000 + i)) (.inr (6, [.int (nI i), .int (u.2 4 i), .ref (d (3000 + i)), .int (u.2 22 i), .ref (d (4000 + i)), .ref (d (5000 + i)), .ref (d (6000 + i)), .int (u.2 17 i + 1)]))) := by
  have hi8 := (bw_it hn hi).2
  have hN := w80 hn
  obtain ⟨c1, c2, c3⟩ := nI_of_bw hco
  have hc80 : (u.2 17 i).toNatClampNeg < 4 := by
    have e80 : (4 : Int32).toInt = 4 := rfl
    rw [i32_lt, e80] at h80; omega
  have eA : (4 * nI i + u.2 17 i).toNatClampNeg = 4 * i + (u.2 17 i).toNatClampNeg := by
    rw [c1, show (4 : Int32) = nI 4 from rfl, pk_mul, nI_add, nI_clamp (by omega), nI_clamp (n := (u.2 17 i).toNatClampNeg) (by omega)]
  have eI : (nI i).toNatClampNeg = i := nI_clamp (by omega)
  obtain ⟨n1, n2, n3, hkd, rs, g, fg, hsl, hps, hpcs, hfs, hfe, hrs⟩ := h.2.2.1.2 i hi
  obtain ⟨a1, a2, a3, ⟨g1, a4, a5⟩, g2, a6, a7⟩ := hrs.2.2.1 hk
  obtain rfl := (aI_inj (hw.symm.trans a4)).2
  obtain rfl := (aI_inj (hh.symm.trans a6)).2
  generalize hco2 : (u.2 17 i).toNatClampNeg = co at *
  generalize hw9 : mst (mst (mst u 18 (4 * nI i + u.2 17 i) x) 19 (4 * nI i + u.2 17 i) y) 17 (nI i) (u.2 17 i + 1) = w
  have w2 : ∀ r, r ≠ 17 → r ≠ 18 → r ≠ 19 → w.2 r = u.2 r := fun r r1 r2 r3 => by rw [← hw9, mst_other r1, mst_other r3, mst_other r2]
  have w17 : ∀ j, w.2 17 j = if j = i then u.2 17 i + 1 else u.2 17 j := fun j => by rw [← hw9, mst_at, eI, mst_other (by decide), mst_other (by decide)]
  have w18 : ∀ j, w.2 18 j = if j = 4 * i + co then x else u.2 18 j := fun j => by rw [← hw9, mst_other (by decide), mst_other (by decide), mst_at, eA]
  have w19 : ∀ j, w.2 19 j = if j = 4 * i + co then y else u.2 19 j := fun j => by rw [← hw9, mst_other (by decide), mst_at, eA, mst_other (by decide)]
  have w1 : w.1 = u.1 := by rw [← hw9]; rfl
  have t14 : kT (u.2 4 i) = 14 := by rw [hk]; rfl
  rw [t14] at n1
  have hf : fK d z f (va_up (va_up (va_up f (d (5000 + i)) (aI (q 0) 4 (upd gw co x))) (d (6000 + i)) (aI (q 0) 4 (upd gh co y))) (d (2000 + i)) (.inr (6, [.int (nI i), .int (u.2 4 i), .ref (d (3000 + i)), .int (u.2 22 i), .ref (d (4000 + i)), .ref (d (5000 + i)), .ref (d (6000 + i)), .int (u.2 17 i + 1)]))) (fun x => x = 2000 + i ∨ x = 5000 + i ∨ x = 6000 + i) := fK_up (fK_up (fK_up (fK_rf d z f _) a2 (by decide) (Or.inr (Or.inl rfl))) a3 (by decide) (Or.inr (Or.inr rfl))) n1 (by decide) (Or.inl rfl)
  refine rep_it (i := i) h hf (fun x hx => by rcases hx with e | e | e <;> omega) hi8 hN (fun j hj hji => ?_) w1 (fun r hr => w2 r (by omega) (by omega) (by omega)) ?_
  · refine ⟨fun r r1 r2 r3 r4 r5 _ _ => ?_, fun r r1 r2 t _ => by rw [w2 r (by omega) (by omega) (by omega)], fun t _ => by rw [w2 47 (by omega) (by omega) (by omega)], fun t _ => by rw [w2 16 (by omega) (by omega) (by omega)], fun t ht => ?_, fun t _ => by rw [w2 21 (by omega) (by omega) (by omega)], fun t _ => by rw [w2 48 (by omega) (by omega) (by omega)]⟩
    · by_cases e : r = 17
      · rw [e, w17, if_neg hji]
      · rw [w2 r e r4 r5]
    · rw [w18, w19, if_neg (by omega), if_neg (by omega)]; exact ⟨rfl, rfl⟩
  · have q4 : w.2 4 = u.2 4 := w2 4 (by omega) (by omega) (by omega)
    have q22 : w.2 22 = u.2 22 := w2 22 (by omega) (by omega) (by omega)
    have q17 : w.2 17 i = u.2 17 i + 1 := by rw [w17, if_pos rfl]
    have ne1 : d (5000 + i) ≠ d (2000 + i) := nO_ne a2 n1 (by omega)
    have ne2 : d (6000 + i) ≠ d (2000 + i) := nO_ne a3 n1 (by omega)
    have ne3 : d (5000 + i) ≠ d (6000 + i) := nO_ne a2 a3 (by omega)
    have nx : ∀ x, x = 3000 + i ∨ x = 4000 + i → ¬ (x = 2000 + i ∨ x = 5000 + i ∨ x = 6000 + i) := fun x hx => by omega
    refine ⟨by rw [q4, t14]; exact n1, n2, n3, by rw [q4]; exact hkd, [.ref (d (5000 + i)), .ref (d (6000 + i)), .int (u.2 17 i + 1)], g, fg, ?_, ?_, ?_, ?_, ?_, ?_⟩
    · rw [up_s, n1.1.2, q4, q22]; rfl
    · rw [hf.2 i n2 (nx _ (Or.inl rfl)), q4]; exact hps
    · intro t ht
      rw [q22] at ht
      obtain ⟨b, b1, b2⟩ := hpcs t ht
      refine ⟨b, b1, ?_⟩
      have hp : ∀ c, c < 5 → pR w i t c = pR u i t c := fun c hc => by show w.2 (23 + c) _ = u.2 (23 + c) _; rw [w2 (23 + c) (by omega) (by omega) (by omega)]
      rw [hp 0 (by omega), hp 1 (by omega), hp 2 (by omega), hp 3 (by omega), hp 4 (by omega)]
      exact b2
    · rw [hf.1 _ _ n3 (nx _ (Or.inr rfl))]; exact hfs
    · rw [w2 47 (by omega) (by omega) (by omega)]; exact hfe
    · have no : ∀ kk : Int32, kk ≠ 2 → ¬ w.2 4 i = kk := fun kk hkk e => hkk (by rw [q4, hk] at e; exact e.symm)
      refine ⟨fun e => absurd e (no 0 (by decide)), fun e => absurd e (no 1 (by decide)), fun _ => ⟨by rw [q17], a2, a3, ⟨_, by rw [up_o ne1, up_o ne3, up_s], ?_⟩, _, by rw [up_o ne2, up_s], ?_⟩, fun e => absurd e (no 3 (by decide)), fun e => absurd e (no 4 (by decide)), fun e => absurd e (no 5 (by decide))⟩
      · intro t ht
        rw [w18]
        unfold upd
        by_cases e : t = co
        · rw [if_pos e, if_pos (by omega)]
        · rw [if_neg e, if_neg (by omega)]; exact a5 t ht
      · intro t ht
        rw [w19]
        unfold upd
        by_cases e : t = co
        · rw [if_pos e, if_pos (by omega)]
        · rw [if_neg e, if_neg (by omega)]; exact a7 t ht
theorem size_n {u : mS} {p x y : Int32} (h : mKind u p 2 = false) : mSize u p x y = (-1, u) := by
  unfold mSize; rw [h, if_neg (by decide)]
theorem size_x {u : mS} {p x y : Int32} (h : ¬ (bw x 1 8 = true ∧ bw y 1 60 = true)) : mSize u p x y = (-1, u) := by
  unfold mSize
  by_cases a : bw x 1 8 = true
  · rw [if_pos a, if_neg (fun b => h ⟨a, b⟩)]; split <;> rfl
  · rw [if_neg a]; split <;> rfl
theorem size_y {q d u z f f2} {i : Nat} {x y r : Int32} {gw gh : Nat → Int32} (h : rep q d u z f) (hu : rI u) (hi : i < (u.1 3).toNatClampNeg) (hk : u.2 4 i = 2) (hx : bw x 1 8 = true) (hy : bw y 1 60 = true) (hw : f (d (5000 + i)) = aI (q 0) 4 gw) (hh : f (d (6000 + i)) = aI (q 0) 4 gh) (hr : r = s_takeSize x y (u.2 17 i)) (hf : f2 = s_takeSize_f q f (d (2000 + i)) (d (3000 + i)) (d (4000 + i)) (d (5000 + i)) (d (6000 + i)) x y (nI i) (u.2 4 i) (u.2 22 i) (u.2 17 i) gw gh) : r = (mSize u (nI i) x y).1 ∧ rep q d (mSize u (nI i) x y).2 z f2 := by
  have h2 := bw_it hu.1 hi
  have hco := hu.2.2.2.2.2.1 i h2.2
  have eI : (nI i).toNatClampNeg = i := nI_clamp (by omega)
  have hK : mKind u (nI i) 2 = true := by rw [mK_it hu.1 hi, hk]; rfl
  have e80 : (4 : Int32).toInt = 4 := rfl
  by_cases c : u.2 17 i < 4
  · have n80 : ¬ u.2 17 i = 4 := fun e => by rw [e, i32_lt] at c; omega
    have e : mSize u (nI i) x y = ((u.2 17 i + 1), mst (mst (mst u 18 (4 * nI i + u.2 17 i) x) 19 (4 * nI i + u.2 17 i) y) 17 (nI i) (u.2 17 i + 1)) := by
      unfold mSize
      rw [if_pos hK, if_pos hx, if_pos hy, eI, if_neg n80]
      have e1 : ∀ a, (mst u 18 a x).2 17 i = u.2 17 i := fun a => by rw [mst_other (by decide)]
      have e2 : ∀ a b, (mst (mst u 18 a x) 19 b y).2 17 i = u.2 17 i := fun a b => by rw [mst_other (by decide), mst_other (by decide)]
      simp only [e1, e2, mst_at, eI, if_true]
    rw [e, hr, hf]
    unfold s_takeSize s_takeSize_f
    rw [if_pos c, if_pos c]
    exact ⟨rfl, rep_size h hu.1 hi hk hco c x y hw hh⟩
  · have y80 : u.2 17 i = 4 := by
      have h3 := bw_iff.mp hco
      rw [i32_lt] at c
      exact Int32.toInt_inj.mp (by omega)
    have e : mSize u (nI i) x y = (-1, u) := by
      unfold mSize
      rw [if_pos hK, if_pos hx, if_pos hy, eI, if_pos y80]
    rw [e, hr, hf]
    unfold s_takeSize s_takeSize_f
    rw [if_neg c, if_neg c]
    exact ⟨rfl, h⟩
/-- names: what is written keeps rep -/
theorem rep_names {q d u z f} {i b : Nat} (h : rep q d u z f) (hn : bw (u.1 3) 0 80 = true) (hi : i < (u.1 3).toNatClampNeg) (hk : u.2 4 i = 0) (hb : b < 10) (x : Int32) {gn : Nat → Int32} (hw : f (d (6000 + i)) = aI (q 1) 10 gn) : rep q d (mst u 21 (10 * nI i + nI b) x) z (va_up f (d (6000 + i)) (aI (q 1) 10 (upd gn b x))) := by
  have hi8 := (bw_it hn hi).2
  have hN := w80 hn
  have eA : (10 * nI i + nI b).toNatClampNeg = 10 * i + b := by
    rw [show (10 : Int32) = nI 10 from rfl, pk_mul, nI_add, nI_clamp (by omega)]
  obtain ⟨n1, n2, n3, hkd, rs, g, fg, hsl, hps, hpcs, hfs, hfe, hrs⟩ := h.2.2.1.2 i hi
  obtain ⟨a1, a2, a3, ⟨g1, a4, a5⟩, g2, a6, a7⟩ := hrs.1 hk
  obtain rfl := (aI_inj (hw.symm.trans a6)).2
  generalize hw9 : mst u 21 (10 * nI i + nI b) x = w
  have w2 : ∀ r, r ≠ 21 → w.2 r = u.2 r := fun r r1 => by rw [← hw9, mst_other r1]
  have w21 : ∀ j, w.2 21 j = if j = 10 * i + b then x else u.2 21 j := fun j => by rw [← hw9, mst_at, eA]
  have w1 : w.1 = u.1 := by rw [← hw9]; rfl
  have hf : fK d z f (va_up f (d (6000 + i)) (aI (q 1) 10 (upd gn b x))) (fun x => x = 6000 + i) := fK_up (fK_rf d z f _) a3 (by decide) rfl
  refine rep_it (i := i) h hf (fun x hx => by omega) hi8 hN (fun j hj hji => ?_) w1 (fun r hr => w2 r (by omega)) ?_
  · exact ⟨fun r r1 r2 r3 r4 r5 _ r6 => by rw [w2 r r6], fun r r1 r2 t _ => by rw [w2 r (by omega)], fun t _ => by rw [w2 47 (by omega)], fun t _ => by rw [w2 16 (by omega)], fun t ht => by rw [w2 18 (by omega), w2 19 (by omega)]; exact ⟨rfl, rfl⟩, fun t _ => by rw [w21, if_neg (by omega)], fun t _ => by rw [w2 48 (by omega)]⟩
  · have q4 : w.2 4 = u.2 4 := w2 4 (by omega)
    have q5 : w.2 5 = u.2 5 := w2 5 (by omega)
    have q15 : w.2 15 = u.2 15 := w2 15 (by omega)
    have q16 : w.2 16 = u.2 16 := w2 16 (by omega)
    have q22 : w.2 22 = u.2 22 := w2 22 (by omega)
    refine ⟨by rw [q4]; exact n1, n2, n3, by rw [q4]; exact hkd, rs, g, fg, ?_, ?_, ?_, ?_, ?_, ?_⟩
    · rw [hf.1 _ _ n1 (by omega), q4, q22]; exact hsl
    · rw [hf.2 i n2 (by omega), q4]; exact hps
    · intro t ht
      rw [q22] at ht
      obtain ⟨b, b1, b2⟩ := hpcs t ht
      refine ⟨b, b1, ?_⟩
      have hp : ∀ c, c < 5 → pR w i t c = pR u i t c := fun c hc => by show w.2 (23 + c) _ = u.2 (23 + c) _; rw [w2 (23 + c) (by omega)]
      rw [hp 0 (by omega), hp 1 (by omega), hp 2 (by omega), hp 3 (by omega), hp 4 (by omega)]
      exact b2
    · rw [hf.1 _ _ n3 (by omega)]; exact hfs
    · rw [w2 47 (by omega)]; exact hfe
    · have no : ∀ kk : Int32, kk ≠ 0 → ¬ w.2 4 i = kk := fun kk hkk e => hkk (by rw [q4, hk] at e; exact e.symm)
      refine ⟨fun _ => ⟨by rw [q5, q15]; exact a1, a2, a3, ⟨_, by rw [hf.1 _ _ a2 (by omega)]; exact a4, by rw [q16]; exact a5⟩, _, by rw [up_s], ?_⟩, fun e => absurd e (no 1 (by decide)), fun e => absurd e (no 2 (by decide)), fun e => absurd e (no 3 (by decide)), fun e => absurd e (no 4 (by decide)), fun e => absurd e (no 5 (by decide))⟩
      intro t ht
      rw [w21]
      unfold upd
      by_cases e : t = b
      · rw [if_pos e, if_pos (by omega)]
      · rw [if_neg e, if_neg (by omega)]; exact a7 t ht
theorem names_n {u : mS} {p x : Int32} (h : mKind u p 0 = false) : mNames u p x = (0, u) := by
  unfold mNames; rw [h, if_neg (by decide)]
theorem names_x {u : mS} {p x : Int32} (h : ¬ bw x 0 9 = true) : mNames u p x = (0, u) := by
  unfold mNames; rw [if_neg h]; split <;> rfl
theorem names_y {q d u z f} {i : Nat} {x : Int32} {gn : Nat → Int32} (h : rep q d u z f) (hu : rI u) (hi : i < (u.1 3).toNatClampNeg) (hk : u.2 4 i = 0) (hx : bw x 0 9 = true) (hw : f (d (6000 + i)) = aI (q 1) 10 gn) (he : eqR 10 gn (u.2 21) (10 * i)) : (gn x.toNatClampNeg = 0 → 1 = (mNames u (nI i) x).1 ∧ rep q d (mNames u (nI i) x).2 z (va_up f (d (6000 + i)) (aI (q 1) 10 (upd gn x.toNatClampNeg (vp_nar .boolean 1))))) ∧ (¬ gn x.toNatClampNeg = 0 → 0 = (mNames u (nI i) x).1 ∧ rep q d (mNames u (nI i) x).2 z f) := by
  have h2 := bw_it hu.1 hi
  have hK : mKind u (nI i) 0 = true := by rw [mK_it hu.1 hi, hk]; rfl
  obtain ⟨c1, c2, c3⟩ := nI_of_bw hx
  have e9 : (9 : Int32).toInt = 9 := rfl
  rw [e9] at c3
  generalize hb : x.toNatClampNeg = b at *
  subst c1
  have eA : (10 * nI i + nI b).toNatClampNeg = 10 * i + b := by
    rw [show (10 : Int32) = nI 10 from rfl, pk_mul, nI_add, nI_clamp (by omega)]
  have eg := he b (by omega)
  unfold mNames
  rw [if_pos hK, if_pos hx, eA, ← eg]
  refine ⟨fun e => ?_, fun e => ?_⟩
  · rw [if_pos e]; exact ⟨rfl, rep_names h hu.1 hi hk (by omega) _ hw⟩
  · rw [if_neg e]; exact ⟨rfl, h⟩
theorem sI_all {u w : mS} (hr : ∀ r, 4 ≤ r → r ≤ 48 → r ≠ 20 → w.2 r = u.2 r) (j : Nat) : sI u w j :=
  ⟨fun r r1 r2 _ _ _ r3 _ => by rw [hr r r1 (by omega) r3], fun r r1 r2 t _ => by rw [hr r (by omega) (by omega) (by omega)], fun t _ => by rw [hr 47 (by omega) (by omega) (by omega)], fun t _ => by rw [hr 16 (by omega) (by omega) (by omega)], fun t _ => by rw [hr 18 (by omega) (by omega) (by omega), hr 19 (by omega) (by omega) (by omega)]; exact ⟨rfl, rfl⟩, fun t _ => by rw [hr 21 (by omega) (by omega) (by omega)], fun t _ => by rw [hr 48 (by omega) (by omega) (by omega)]⟩
/-- the items, kept by a write elsewhere -/
theorem rIs_out {q d u w z f f2} {X : Nat → Prop} (h : rIs q d u z f) (hf : fK d z f f2 X) (hX : ∀ x, 2000 ≤ x ∨ x = 2 → ¬ X x) (n2 : nO d z 2 4) (h1 : w.1 3 = u.1 3) (hr : ∀ r, 4 ≤ r → r ≤ 48 → r ≠ 20 → w.2 r = u.2 r) : rIs q d w z f2 := by
  obtain ⟨⟨g, a1, a2⟩, a3⟩ := h
  refine ⟨⟨g, by rw [hf.1 2 _ n2 (hX 2 (by omega))]; exact a1, fun j hj => a2 j (by rw [← h1]; exact hj)⟩, fun j hj => ?_⟩
  rw [h1] at hj
  exact rIt_fr (a3 j hj) (zE_rf z) ⟨rfl, rfl, rfl, rfl, rfl⟩ hf ⟨hX _ (by omega), hX _ (by omega), hX _ (by omega), hX _ (by omega), hX _ (by omega)⟩ (sI_all hr j) (by rw [h1]; exact Nat.le_refl _) (fun o _ => ⟨rfl, by rw [hr 4 (by omega) (by omega) (by omega)]⟩)
/-- a write at the rivals -/
theorem rep_rv {q d u w z f} {g2 : Nat → Int32} (h : rep q d u z f) (h1 : w.1 = u.1) (hr : ∀ r, r ≠ 20 → w.2 r = u.2 r) (he : eqR 100 g2 (w.2 20) 0) : rep q d w z (va_up f (d 4) (aI (q 1) 100 g2)) := by
  obtain ⟨h1g, h1l, h1i, h1v, n0, n1, n2, n3, n4⟩ := h
  have hf : fK d z f (va_up f (d 4) (aI (q 1) 100 g2)) (fun x => x = 4) := fK_up (fK_rf d z f _) n4 (by decide) rfl
  exact ⟨rPg_fr h1g (zE_rf z) (fun _ _ => rfl) hf (fun x _ _ _ _ h4 => h4) n0 (hr 0 (by omega)) (hr 1 (by omega)) (hr 2 (by omega)), rPl_fr h1l (zE_rf z) rfl (fun _ _ _ => rfl) hf (by omega) (fun x x1 x2 => by omega) n1 (fun r r1 r2 => hr r (by omega)), rIs_out h1i hf (fun x hx => by omega) n2 (by rw [h1]) (fun r _ _ r3 => hr r r3), ⟨g2, up_s, he⟩, n0, n1, n2, n3, n4⟩
theorem rival_a {u : mS} {a b : Int32} (h : ¬ bw a 0 9 = true) : mRival u a b = (0, u) := by unfold mRival; rw [if_neg h]
theorem rival_b {u : mS} {a b : Int32} (h : ¬ bw b 0 9 = true) : mRival u a b = (0, u) := by unfold mRival; rw [if_neg h]; split <;> rfl
theorem rival_e {u : mS} {a b : Int32} (h : a = b) : mRival u a b = (0, u) := by unfold mRival; rw [if_pos h]; split <;> (try split) <;> rfl
theorem rival_y {q d u z f} {a b : Int32} {g : Nat → Int32} (h : rep q d u z f) (ha : bw a 0 9 = true) (hb : bw b 0 9 = true) (hab : ¬ a = b) (hg : f (d 4) = aI (q 1) 100 g) : (¬ g (a * 10 + b).toNatClampNeg = 0 → 0 = (mRival u a b).1 ∧ rep q d (mRival u a b).2 z f) ∧ (g (a * 10 + b).toNatClampNeg = 0 → ∀ (f1 : xF) (g1 : Nat → Int32) (f2 : xF), f1 = va_up f (d 4) (aI (q 1) 100 (upd g (a * 10 + b).toNatClampNeg (vp_nar .boolean 1))) → f1 (d 4) = aI (q 1) 100 g1 → f2 = va_up f1 (d 4) (aI (q 1) 100 (upd g1 (b * 10 + a).toNatClampNeg (vp_nar .boolean 1))) → 1 = (mRival u a b).1 ∧ rep q d (mRival u a b).2 z f2) := by
  obtain ⟨g9, a1, he⟩ := h.2.2.2.1
  obtain rfl := (aI_inj (hg.symm.trans a1)).2
  have hA : vp_in (a * 10 + b) 100 := vin2 ha hb
  have hB : vp_in (b * 10 + a) 100 := vin2 hb ha
  have eA : (10 : Int32) * a + b = a * 10 + b := by rw [Int32.mul_comm]
  have eB : (10 : Int32) * b + a = b * 10 + a := by rw [Int32.mul_comm]
  have e0 : ∀ j, j < 100 → g j = u.2 20 j := fun j hj => by have := he j hj; rw [Nat.zero_add] at this; exact this
  unfold mRival
  rw [if_pos ha, if_pos hb, if_neg hab, eA, eB, ← e0 _ (vlt hA)]
  refine ⟨fun e => ?_, fun e f1 g1 f2 e1 e2 e3 => ?_⟩
  · rw [if_neg e]; exact ⟨rfl, h⟩
  · rw [if_pos e]
    refine ⟨rfl, ?_⟩
    rw [e1, up_s] at e2
    obtain rfl := (aI_inj e2).2
    rw [e3, e1, up_up]
    refine rep_rv h rfl (fun r hr => by rw [mst_other hr, mst_other hr]) (fun j hj => ?_)
    rw [Nat.zero_add, mst_at, mst_at]
    unfold upd
    by_cases c1 : j = (b * 10 + a).toNatClampNeg
    · rw [if_pos c1, if_pos c1]
    · rw [if_neg c1, if_neg c1]
      by_cases c2 : j = (a * 10 + b).toNatClampNeg
      · rw [if_pos c2, if_pos c2]
      · rw [if_neg c2, if_neg c2]; exact e0 j hj
set_option maxHeartbeats 4000000 in
set_option maxRecDepth 100000 in
theorem y_areRivals (l : Launch) (dC : Nat → ClassId) (dI : Nat → Nat → Nat) (q : Nat → ClassId) (h0 : Nat) (d : Nat → Nat) (k : Nat → Int32) (z : gS) (f : xF) (hI : xI q h0 d k z f) (p0 p1 : Int32) (ha : bw p0 0 9 = true) (hb9 : bw p1 0 9 = true) (g : Nat → Int32) (hg6 : f (d 4) = aI (q 1) 100 g) (hz6 : ∀ j, g j = 0 ∨ g j = 1) : Met l yX11_areRivals wsX11_areRivals ({ frames := 0, cells := 0, slots := 0, locals := 0 }) (va_Pc [.ref h0, .int p0, .int p1] (PX dC dI (va_pl z.1 f) (xT q))) (vp_Si (fun r => r = g (p0 * 10 + p1 : Int32).toNatClampNeg)) 0 0 (fun _ => False) := by
  refine Met.ofW (cc := cX11_areRivals) (maxL := 3) (ret := (some .boolean)) (by decide) rfl ?_
  intro p e s m args below meth c s₁ B hml hv
  obtain ⟨rfl, ⟨hP, hK, hN⟩, hXN⟩ := hv
  have hx := B.exec
  have hb := B.bytes
  have hr := B.returns
  have hts := atoms_spec (ws := wsX11_areRivals) B.pre
  have hown : s.vm.findClass RX11 = some m.cls := findClass_of_methodNamed B.named
  have hlocks := B.notSynchronized
  have hl := lv_entry ([.ref h0, .int p0, .int p1]) (n := 3) (Nat.le_of_ble_eq_true rfl)
  rw [lg_entry_eq]
  generalize (lg_sl ([.ref h0, .int p0, .int p1]) ++ List.replicate (3 - (lg_sl ([.ref h0, .int p0, .int p1])).length) Slot.unset).toArray = ls at hl ⊢
  have hl : lv_has ls 3 [(0, .ref h0), (1, .int p0), (2, .int p1)] := hl
  refine lv_aload_n hx hb dX11_areRivals_0 rfl (lv_at hl 0 rfl) ?_
  obtain ⟨kk_1, hk_2⟩ := pl_at hI.2.1.1.1 hI.2.2.2.1.1
  refine va_get (D := (dC, dI)) (ci := 10) (v := .ref (d 4)) (C := RX11) (T := TX11) (N := 9) hx hb hts (by decide +kernel) hown hK hP kk_1 hk_2 rfl 6 (by decide) (hts (.fieldLink RX11 37 "PageOne" "rivals" "[Z") (by decide +kernel)) (fun _ h9 => h9) rfl dX11_areRivals_1 ?_
  refine lv_iload_n hx hb dX11_areRivals_4 rfl (lv_at hl 1 rfl) ?_
  refine lv_bipush (v := 10) hx hb dX11_areRivals_5 (by decide) ?_
  refine lv_imul hx hb dX11_areRivals_7 ?_
  refine lv_iload_n hx hb dX11_areRivals_8 rfl (lv_at hl 2 rfl) ?_
  refine lv_iadd hx hb dX11_areRivals_9 ?_
  obtain ⟨kk_3, hk_4⟩ := pl_at hI.2.1.2.2.2.2.2.1 hg6
  refine va_zald hx hb hK hP kk_3 1 hk_4 rfl (vin2 ha hb9) dX11_areRivals_10 ?_
  exact W.zret (v := (g (((p0 * 10) + p1) : Int32).toNatClampNeg)) hx hb hr (by rcases hz6 ((p0 * 10 + p1 : Int32).toNatClampNeg) with h | h <;> rw [h] <;> decide) (fun t ht hW => ⟨_, rfl, rfl, ht⟩) (fun q h => absurd h List.not_mem_nil) dX11_areRivals_11
/-- a write at page p alone -/
theorem rep_pg {q d u w z f f2} {X : Nat → Prop} {p : Nat} (h : rep q d u z f) (hf : fK d z f f2 X) (hX : ∀ x, X x → x = 10 + p ∨ x = 30 + p ∨ x = 50 + p) (hp : p < 12) (h1 : w.1 = u.1) (hr : ∀ r, 3 ≤ r → w.2 r = u.2 r) (ho : ∀ j, j < 12 → j ≠ p → w.2 1 j = u.2 1 j ∧ (∀ t, t < 8 → w.2 0 (8 * j + t) = u.2 0 (8 * j + t)) ∧ ∀ t, t < 480 → w.2 2 (480 * j + t) = u.2 2 (480 * j + t)) (hpg : ∃ dd ii, shR q f2 (d (10 + p)) (d (30 + p)) (d (50 + p)) (w.2 1 p) dd ii (w.2 0) (w.2 2) (8 * p) (480 * p)) : rep q d w z f2 := by
  obtain ⟨⟨⟨g, a1, a2⟩, a3⟩, h1l, h1i, h1v, n0, n1, n2, n3, n4⟩ := h
  have nx : ∀ x, x < 10 ∨ 100 ≤ x → ¬ X x := fun x hx hX2 => by rcases hX x hX2 with e | e | e <;> omega
  refine ⟨⟨⟨g, by rw [hf.1 0 _ n0 (nx 0 (by omega))]; exact a1, a2⟩, fun j hj => ?_⟩, rPl_fr h1l (zE_rf z) rfl (fun _ _ _ => rfl) hf (nx 1 (by omega)) (fun x _ _ => nx x (by omega)) n1 (fun r r1 r2 => hr r (by omega)), rIs_out h1i hf (fun x hx => nx x (by omega)) n2 (by rw [h1]) (fun r r1 _ _ => hr r (by omega)), rRv_fr h1v rfl (hf.1 4 _ n4 (nx 4 (by omega))) (hr 20 (by omega)), n0, n1, n2, n3, n4⟩
  obtain ⟨m1, m2, m3, dd, ii, s1, ⟨gl, s2, s3⟩, gc, s4, s5⟩ := a3 j hj
  refine ⟨m1, m2, m3, ?_⟩
  by_cases e : j = p
  · rw [e]; exact hpg
  · obtain ⟨o1, o2, o3⟩ := ho j hj e
    have k1 : ¬ X (10 + j) := fun hX2 => by rcases hX _ hX2 with e | e | e <;> omega
    have k2 : ¬ X (30 + j) := fun hX2 => by rcases hX _ hX2 with e | e | e <;> omega
    have k3 : ¬ X (50 + j) := fun hX2 => by rcases hX _ hX2 with e | e | e <;> omega
    exact ⟨dd, ii, by rw [hf.1 _ _ m1 k1, o1]; exact s1, ⟨gl, by rw [hf.1 _ _ m2 k2]; exact s2, eqR_w s3 o2⟩, gc, by rw [hf.1 _ _ m3 k3]; exact s4, eqR_w s5 o3⟩
theorem rep_col {q d u z f} {p c : Nat} {x : Int32} {gl : Nat → Int32} (h : rep q d u z f) (hp : p < 12) (hc : c < 8) (hg : f (d (30 + p)) = aI (q 0) 8 gl) : rep q d (mst u 0 (8 * nI p + nI c) x) z (va_up f (d (30 + p)) (aI (q 0) 8 (upd gl c x))) := by
  have eA : (8 * nI p + nI c).toNatClampNeg = 8 * p + c := by rw [show (8 : Int32) = nI 8 from rfl, pk_mul, nI_add, nI_clamp (by omega)]
  obtain ⟨m1, m2, m3, dd, ii, s1, ⟨gl2, s2, s3⟩, gc, s4, s5⟩ := h.1.2 p hp
  obtain rfl := (aI_inj (hg.symm.trans s2)).2
  generalize hw9 : mst u 0 (8 * nI p + nI c) x = w
  have w2 : ∀ r, r ≠ 0 → w.2 r = u.2 r := fun r r1 => by rw [← hw9, mst_other r1]
  have w0 : ∀ j, w.2 0 j = if j = 8 * p + c then x else u.2 0 j := fun j => by rw [← hw9, mst_at, eA]
  have w1 : w.1 = u.1 := by rw [← hw9]; rfl
  have hf : fK d z f (va_up f (d (30 + p)) (aI (q 0) 8 (upd gl c x))) (fun x => x = 30 + p) := fK_up (fK_rf d z f _) m2 (by decide) rfl
  refine rep_pg (p := p) h hf (fun x hx => by omega) hp w1 (fun r r1 => w2 r (by omega)) (fun j hj hjp => ⟨by rw [w2 1 (by omega)], fun t ht => by rw [w0, if_neg (by omega)], fun t ht => by rw [w2 2 (by omega)]⟩) ⟨dd, ii, ?_, ⟨_, up_s, fun t ht => ?_⟩, gc, ?_, ?_⟩
  · rw [hf.1 _ _ m1 (by omega), w2 1 (by omega)]; exact s1
  · rw [w0]
    unfold upd
    by_cases e : t = c
    · rw [if_pos e, if_pos (by omega)]
    · rw [if_neg e, if_neg (by omega)]; exact s3 t ht
  · rw [hf.1 _ _ m3 (by omega)]; exact s4
  · rw [w2 2 (by omega)]; exact s5
theorem rep_ms {q d u z f} {p : Nat} {x m dd ii : Int32} {la ca : Nat} (h : rep q d u z f) (hp : p < 12) (hg : f (d (10 + p)) = .inr (8, [.ref la, .ref ca, .int m, .int dd, .int ii])) : rep q d (mst u 1 (nI p) x) z (va_up f (d (10 + p)) (.inr (8, [.ref la, .ref ca, .int x, .int dd, .int ii]))) := by
  have eA : (nI p).toNatClampNeg = p := nI_clamp (by omega)
  obtain ⟨m1, m2, m3, dd2, ii2, s1, ⟨gl, s2, s3⟩, gc, s4, s5⟩ := h.1.2 p hp
  obtain ⟨e1, e2, e3, e4, e5⟩ := sh_inj (hg.symm.trans s1)
  subst e1 e2 e4 e5
  generalize hw9 : mst u 1 (nI p) x = w
  have w2 : ∀ r, r ≠ 1 → w.2 r = u.2 r := fun r r1 => by rw [← hw9, mst_other r1]
  have w0 : ∀ j, w.2 1 j = if j = p then x else u.2 1 j := fun j => by rw [← hw9, mst_at, eA]
  have w1 : w.1 = u.1 := by rw [← hw9]; rfl
  have hf : fK d z f (va_up f (d (10 + p)) (.inr (8, [.ref (d (30 + p)), .ref (d (50 + p)), .int x, .int dd, .int ii]))) (fun x => x = 10 + p) := fK_up (fK_rf d z f _) m1 (by decide) rfl
  refine rep_pg (p := p) h hf (fun x hx => by omega) hp w1 (fun r r1 => w2 r (by omega)) (fun j hj hjp => ⟨by rw [w0, if_neg hjp], fun t ht => by rw [w2 0 (by omega)], fun t ht => by rw [w2 2 (by omega)]⟩) ⟨dd, ii, ?_, ⟨gl, ?_, ?_⟩, gc, ?_, ?_⟩
  · rw [up_s, w0, if_pos rfl]
  · rw [hf.1 _ _ m2 (by omega)]; exact s2
  · rw [w2 0 (by omega)]; exact s3
  · rw [hf.1 _ _ m3 (by omega)]; exact s4
  · rw [w2 2 (by omega)]; exact s5
theorem mHas_n {f : Nat → Int32} {b : Int32} : ∀ n : Nat, (∀ j, j < n → f (b + nI j).toNatClampNeg = (-2)) → mHas f b n = false
  | 0, _ => rfl
  | n + 1, h => by
    show (mHas f b n || _) = false
    rw [mHas_n n (fun j hj => h j (by omega)), h n (by omega)]; decide
theorem column_0 {u : mS} {p c n : Int32} (h : ¬ (bw p 0 11 = true ∧ bw c 0 7 = true ∧ bw n 0 60 = true ∧ u.1 28 ≤ 0)) : mColumn u p c n = (0, u) := by
  unfold mColumn
  by_cases a : bw p 0 11 = true
  · by_cases b : bw c 0 7 = true
    · by_cases e : bw n 0 60 = true
      · rw [if_pos a, if_pos b, if_pos e, if_neg (fun g => h ⟨a, b, e, g⟩)]
      · rw [if_pos a, if_pos b, if_neg e]
    · rw [if_pos a, if_neg b]
  · rw [if_neg a]
theorem measure_0 {u : mS} {p x : Int32} (h : ¬ (bw p 0 11 = true ∧ bw x 1 200 = true ∧ u.1 28 ≤ 0)) : mMeasure u p x = (0, u) := by
  unfold mMeasure
  by_cases a : bw p 0 11 = true
  · by_cases b : bw x 1 200 = true
    · have e : 0 < u.1 28 := by
        have e2 : ¬ u.1 28 ≤ 0 := fun g => h ⟨a, b, g⟩
        rw [i32_le] at e2
        rw [i32_lt]; omega
      rw [if_pos a, if_pos b, if_pos e]
    · rw [if_pos a, if_neg b]
  · rw [if_neg a]
theorem column_y {q d u z f} {p c n m dd ii : Int32} {g : Nat → Option Nat} {b la ca : Nat} {gl : Nat → Int32} (h : rep q d u z f) (b0 : bw p 0 11 = true) (b1 : bw c 0 7 = true) (b2 : bw n 0 60 = true) (h28 : u.1 28 ≤ 0) (hbr : u.1 28 ≤ 0 → ∀ j, j < 5760 → u.2 2 j = (-2)) (hg : f (d 0) = aR (q 2) 12 g) (hb : g p.toNatClampNeg = some b) (hs : f b = .inr (8, [.ref la, .ref ca, .int m, .int dd, .int ii])) (hl : f la = aI (q 0) 8 gl) : 1 = (mColumn u p c n).1 ∧ rep q d (mColumn u p c n).2 z (va_up f la (aI (q 0) 8 (upd gl c.toNatClampNeg n))) := by
  obtain ⟨-, rfl, -, -, -, -⟩ := rp_pg h.1 hg (clp b0) hb hs
  have hC : c.toNatClampNeg < 8 := vlt (vin b1 (by decide))
  have hP := clp b0
  obtain ⟨c1, -, -⟩ := nI_of_bw b0
  obtain ⟨c2, -, -⟩ := nI_of_bw b1
  generalize p.toNatClampNeg = P at *
  generalize c.toNatClampNeg = C at *
  subst c1 c2
  have hB : mBare (u.2 2) (480 * nI P + 60 * nI C) = true := mBare_t (fun j hj => by rw [idxN hP hC hj, nI_clamp (by omega)]; exact hbr h28 _ (by omega))
  unfold mColumn
  rw [if_pos b0, if_pos b1, if_pos b2, if_pos h28, if_pos hB]
  exact ⟨rfl, rep_col h hP hC hl⟩
theorem measure_y {q d u z f} {p x m dd ii : Int32} {g : Nat → Option Nat} {b la ca : Nat} (h : rep q d u z f) (b0 : bw p 0 11 = true) (b1 : bw x 1 200 = true) (h28 : u.1 28 ≤ 0) (hbr : u.1 28 ≤ 0 → ∀ j, j < 5760 → u.2 2 j = (-2)) (hg : f (d 0) = aR (q 2) 12 g) (hb : g p.toNatClampNeg = some b) (hs : f b = .inr (8, [.ref la, .ref ca, .int m, .int dd, .int ii])) : 1 = (mMeasure u p x).1 ∧ rep q d (mMeasure u p x).2 z (va_up f b (.inr (8, [.ref la, .ref ca, .int x, .int dd, .int ii]))) := by
  obtain ⟨rfl, -, -, -, -, -⟩ := rp_pg h.1 hg (clp b0) hb hs
  have hP := clp b0
  obtain ⟨c1, -, -⟩ := nI_of_bw b0
  generalize p.toNatClampNeg = P at *
  subst c1
  have hB : mHas (u.2 2) (480 * nI P) 480 = false := mHas_n 480 (fun j hj => by rw [show (480 : Int32) = nI 480 from rfl, pk_mul, nI_add, nI_clamp (by omega)]; exact hbr h28 _ (by omega))
  have h0 : ¬ 0 < u.1 28 := by
    rw [i32_le] at h28
    rw [i32_lt]; omega
  unfold mMeasure
  rw [if_pos b0, if_pos b1, if_neg h0, hB, if_neg (by decide)]
  exact ⟨rfl, rep_ms h hP hs⟩
set_option maxHeartbeats 4000000 in
set_option maxRecDepth 100000 in
theorem y_canAct (l : Launch) (dC : Nat → ClassId) (dI : Nat → Nat → Nat) (q : Nat → ClassId) (h0 : Nat) (d : Nat → Nat) (k : Nat → Int32) (z : gS) (f : xF) (hI : xI q h0 d k z f) : Met l yX11_canAct wsX11_canAct ({ frames := 0, cells := 0, slots := 0, locals := 0 }) (va_Pc [.ref h0] (PX dC dI (va_pl z.1 f) (xT q))) (vp_Si (fun r => (r = 0 ∧ 300 ≤ k 1) ∨ (r = 1 ∧ ¬ 300 ≤ k 1))) 0 0 (fun _ => False) := by
  refine Met.ofW (cc := cX11_canAct) (maxL := 1) (ret := (some .boolean)) (by decide) rfl ?_
  intro p e s m args below meth c s₁ B hml hv
  obtain ⟨rfl, ⟨hP, hK, hN⟩, hXN⟩ := hv
  have hx := B.exec
  have hb := B.bytes
  have hr := B.returns
  have hts := atoms_spec (ws := wsX11_canAct) B.pre
  have hown : s.vm.findClass RX11 = some m.cls := findClass_of_methodNamed B.named
  have hlocks := B.notSynchronized
  have hl := lv_entry ([.ref h0]) (n := 1) (Nat.le_of_ble_eq_true rfl)
  rw [lg_entry_eq]
  generalize (lg_sl ([.ref h0]) ++ List.replicate (1 - (lg_sl ([.ref h0])).length) Slot.unset).toArray = ls at hl ⊢
  have hl : lv_has ls 1 [(0, .ref h0)] := hl
  refine lv_aload_n hx hb dX11_canAct_0 rfl (lv_at hl 0 rfl) ?_
  obtain ⟨kk_1, hk_2⟩ := pl_at hI.2.1.1.1 hI.2.2.2.1.1
  refine va_get (D := (dC, dI)) (ci := 10) (v := .int (k 1)) (C := RX11) (T := TX11) (N := 9) hx hb hts (by decide +kernel) hown hK hP kk_1 hk_2 rfl 5 (by decide) (hts (.fieldLink RX11 34 "PageOne" "actCount" "I") (by decide +kernel)) (fun _ h9 => h9) rfl dX11_canAct_1 ?_
  refine lv_sipush (v := 300) hx hb dX11_canAct_4 (by decide) ?_
  refine lv_icmp_ge (tgt := 14) hx hb dX11_canAct_7 (by decide) (fun c_3 => ?_) (fun c_3 => ?_)
  ·
    refine lv_iconst (v := 0) hx hb dX11_canAct_14 (by decide) ?_
    exact W.zret (v := 0) hx hb hr (by decide) (fun t ht hW => ⟨_, rfl, (Or.inl ⟨rfl, c_3⟩), ht⟩) (fun q h => absurd h List.not_mem_nil) dX11_canAct_15
  ·
    refine lv_iconst (v := 1) hx hb dX11_canAct_10 (by decide) ?_
    refine lv_goto (tgt := 15) hx hb dX11_canAct_11 (by decide) ?_
    exact W.zret (v := 1) hx hb hr (by decide) (fun t ht hW => ⟨_, rfl, (Or.inr ⟨rfl, c_3⟩), ht⟩) (fun q h => absurd h List.not_mem_nil) dX11_canAct_15
/-- a new item: the book grows by its entries, the desk's row by one -/
theorem rep_new {q d d2 u w z z2 f f2} {g : Nat → Option Nat} (h : rep q d u z f) (hE : zE z z2) (hd : ∀ x, x < 2000 → d2 x = d x) (hdI : ∀ o, o < (u.1 3).toNatClampNeg → bI (fun x => d2 x = d x) o) (hf : fK d z f f2 (fun x => x = 2)) (hg : f (d 2) = aR (q 3) 80 g) (hg2 : f2 (d 2) = aR (q 3) 80 (fun j => if j = (u.1 3).toNatClampNeg then some (d2 (2000 + (u.1 3).toNatClampNeg)) else g j)) (h3 : (w.1 3).toNatClampNeg = (u.1 3).toNatClampNeg + 1) (hs : ∀ j, j < (u.1 3).toNatClampNeg → sI u w j) (hr : ∀ r, r < 3 ∨ r = 20 ∨ (40 ≤ r ∧ r ≤ 44) → w.2 r = u.2 r) (hit : rIt q d2 w z2 f2 (u.1 3).toNatClampNeg) : rep q d2 w z2 f2 := by
  obtain ⟨h1g, h1l, ⟨⟨g9, a1, a2⟩, a3⟩, h1v, n0, n1, n2, n3, n4⟩ := h
  obtain rfl := (aR_inj (hg.symm.trans a1)).2
  generalize hN : (u.1 3).toNatClampNeg = n at *
  have nn : ∀ x t, x < 2000 → nO d z x t → nO d2 z2 x t := fun x t hx ho => nO_d (hd x hx) (nO_E hE ho)
  refine ⟨rPg_fr h1g hE (fun x hx => hd x (by omega)) hf (fun x _ _ h2 _ _ => h2) n0 (hr 0 (by omega)) (hr 1 (by omega)) (hr 2 (by omega)), rPl_fr h1l hE (hd 1 (by omega)) (fun x _ hx => hd x (by omega)) hf (by omega) (fun x x1 x2 => by omega) n1 (fun r r1 r2 => hr r (by omega)), ⟨⟨_, by rw [hd 2 (by omega)]; exact hg2, fun j hj => ?_⟩, fun j hj => ?_⟩, rRv_fr h1v (hd 4 (by omega)) (hf.1 4 _ n4 (by omega)) (hr 20 (by omega)), nn 0 _ (by omega) n0, nn 1 _ (by omega) n1, nn 2 _ (by omega) n2, nn 3 _ (by omega) n3, nn 4 _ (by omega) n4⟩
  · rw [h3] at hj
    by_cases e : j = n
    · rw [if_pos e, e]
    · rw [if_neg e, (hdI j (by omega)).1]; exact a2 j (by omega)
  · rw [h3] at hj
    by_cases e : j = n
    · rw [e]; exact hit
    · exact rIt_fr (a3 j (by omega)) hE (hdI j (by omega)) hf ⟨by omega, by omega, by omega, by omega, by omega⟩ (hs j (by omega)) (by rw [h3, hN]; omega) (fun o ho => ⟨(hdI o (by omega)).1, (hs o (by omega)).1 4 (by omega) (by omega) (by omega) (by omega) (by omega) (by omega) (by omega)⟩)
