set_option maxHeartbeats 4000000 in
set_option maxRecDepth 100000 in
theorem y_cell (l : Launch) (dC : Nat → ClassId) (dI : Nat → Nat → Nat) (q : Nat → ClassId) (h0 : Nat) (d : Nat → Nat) (k : Nat → Int32) (z : gS) (f : xF) (hI : xI q h0 d k z f) (p0 p1 p2 : Int32) (u : mS) (hrp : rep q d u z f) : Met l yX11_cell wsX11_cell ({ frames := 3, cells := 0, slots := 0, locals := 64 }) (va_Pc [.ref h0, .int p0, .int p1, .int p2] (PX dC dI (va_pl z.1 f) (xT q))) (vp_Si (fun r => r = mCellAt u p0 p1 p2)) 0 0 (fun _ => False) := by
  refine Met.ofW (cc := cX11_cell) (maxL := 4) (ret := (some .int)) (by decide) rfl ?_
  intro p e s m args below meth c s₁ B hml hv
  obtain ⟨rfl, ⟨hP, hK, hN⟩, hXN⟩ := hv
  have hx := B.exec
  have hb := B.bytes
  have hr := B.returns
  have hts := atoms_spec (ws := wsX11_cell) B.pre
  have hown : s.vm.findClass RX11 = some m.cls := findClass_of_methodNamed B.named
  have hlocks := B.notSynchronized
  have hl := lv_entry ([.ref h0, .int p0, .int p1, .int p2]) (n := 4) (Nat.le_of_ble_eq_true rfl)
  rw [lg_entry_eq]
  generalize (lg_sl ([.ref h0, .int p0, .int p1, .int p2]) ++ List.replicate (4 - (lg_sl ([.ref h0, .int p0, .int p1, .int p2])).length) Slot.unset).toArray = ls at hl ⊢
  have hl : lv_has ls 4 [(0, .ref h0), (1, .int p0), (2, .int p1), (3, .int p2)] := hl
  refine lv_iload_n hx hb dX11_cell_0 rfl (lv_at hl 1 rfl) ?_
  refine vp_callSi (va_runS (As := [.int p0]) (rest := []) ⟨hx, hb, hml, hown, hts⟩ (x_isPage l dC dI p0) (va_cwS 1 hts gX11_cell_X11_isPage rfl rfl rfl (by decide +kernel) ⟨Nat.le_of_ble_eq_true rfl, Nat.le_of_ble_eq_true rfl⟩) ⟨pw_fb, fun U hU hW => ⟨rfl, pw_to hU hW (hP.sub (ws' := []) [] rfl) (hK.sub (tys' := []) [] rfl) hN⟩⟩ rfl rfl hl.1 rfl (lv_room (Nat.le_of_ble_eq_true rfl)) dX11_cell_1 ⟨Nat.le_of_ble_eq_true rfl, Nat.le_of_ble_eq_true rfl⟩).run (fun r hw => ?_)
  rcases Bool.eq_false_or_eq_true (bw p0 0 11) with b_1 | b_1
  ·
    obtain rfl : r = 1 := b_t hw b_1
    refine lv_if_eq (tgt := 21) hx hb dX11_cell_4 (by decide) (fun c_2 => absurd c_2 (by decide)) (fun c_2 => ?_)
    refine lv_aload_n hx hb dX11_cell_7 rfl (lv_at hl 0 rfl) ?_
    obtain ⟨kk_3, hk_4⟩ := pl_at hI.2.1.1.1 hI.2.2.2.1.1
    refine va_get (D := (dC, dI)) (ci := 10) (v := .ref (d 0)) (C := RX11) (T := TX11) (N := 9) hx hb hts (by decide +kernel) hown hK hP kk_3 hk_4 rfl 0 (by decide) (hts (.fieldLink RX11 11 "PageOne" "pages" "[LPageOne$Sheet;") (by decide +kernel)) (fun _ h9 => h9) rfl dX11_cell_8 ?_
    refine lv_iload_n hx hb dX11_cell_11 rfl (lv_at hl 1 rfl) ?_
    obtain ⟨g_5, hs_6, hg_7⟩ := x_pg hI hI.2.1.2.1
    obtain ⟨kk_8, hk_9⟩ := pl_at hI.2.1.2.1.1 hs_6
    refine va_aldq hx hb hK hP kk_8 2 hk_9 rfl (vin b_1 (by decide)) dX11_cell_12 ?_
    obtain ⟨b_10, hg_11, ht_12⟩ := hg_7 _ (vlt (vin b_1 (by decide)))
    rw [hg_11]
    refine W.eq (g2 := F0 m 13 ls [.ref b_10]) rfl ?_
    refine lv_iload_n hx hb dX11_cell_13 rfl (lv_at hl 2 rfl) ?_
    refine lv_iload_n hx hb dX11_cell_14 rfl (lv_at hl 3 rfl) ?_
    obtain ⟨la_13, ca_14, m_15, dd_16, ii_17, hs_18, ht_19, ht_20⟩ := x_sh hI ht_12
    obtain ⟨g_21, hs_22, hg_23⟩ := x_ln hI ht_19
    obtain ⟨g_24, hs_25⟩ := x_ce hI ht_20
    obtain ⟨kk_26, hk_27⟩ := pl_at ht_12.1 hs_18
    refine vp_callSi (va_runV (As := [.int p1, .int p2]) (rest := []) ⟨hx, hb, hml, hown, hts⟩ (y_at l dC dI q h0 d k z f hI b_10 la_13 ca_14 m_15 dd_16 ii_17 g_21 g_24 ht_12 hs_18 ht_19 ht_20 hs_22 hg_23 hs_25 p1 p2) (cwV 2 hts gX11_cell_X9_at rfl rfl rfl (by decide +kernel) ⟨Nat.le_of_ble_eq_true rfl, Nat.le_of_ble_eq_true rfl⟩) ⟨px_fb, va_recv hK hP (ci := 8) (q0 := kk_26) rfl hk_27, fun U hU hW => ⟨rfl, px_to hU hW hP hK hN hXN⟩⟩ rfl rfl hl.1 rfl (lv_room (Nat.le_of_ble_eq_true rfl)) dX11_cell_15 ⟨Nat.le_of_ble_eq_true rfl, Nat.le_of_ble_eq_true rfl⟩).run (fun r hw => ?_)
    generalize r = zr_28 at hw ⊢
    have hzr_28 := hw
    refine lv_goto (tgt := 22) hx hb dX11_cell_18 (by decide) ?_
    exact W.iret (v := zr_28) hx hb hr (fun t ht hW => ⟨_, rfl, (by obtain ⟨P, hP1, -, eP⟩ := exN b_1 (by decide); have h11 : (11 : Int32).toInt = 11 := rfl; have hc9 := (nI_clamp (n := P) (by omega)); subst eP; have hq9 := rp_pg hrp.1 hs_6 (p := P) (by omega) (by rw [← hc9]; exact hg_11) hs_18; rw [hzr_28]; exact shAt_eq (by omega) (hq9.2.2.2.2.1 _ hs_22) (hq9.2.2.2.2.2 _ hs_25) hg_23 _ _), ht⟩) (fun q h => absurd h List.not_mem_nil) dX11_cell_22
  ·
    obtain rfl : r = 0 := b_f hw b_1
    refine lv_if_eq (tgt := 21) hx hb dX11_cell_4 (by decide) (fun c_29 => ?_) (fun c_29 => absurd (by decide) c_29)
    refine lv_iconst (v := (-1)) hx hb dX11_cell_21 (by decide) ?_
    exact W.iret (v := (-1)) hx hb hr (fun t ht hW => ⟨_, rfl, (by unfold mCellAt mCell; rw [if_neg (by rw [b_1, Bool.false_and, Bool.false_and]; decide)]), ht⟩) (fun q h => absurd h List.not_mem_nil) dX11_cell_22
theorem shE_eq {gl gc : Nat → Int32} {u : mS} {p C : Nat} (hp : p < 12) (hC : C < 8) (hl : eqR 8 gl (u.2 0) (8 * p)) (hc : eqR 480 gc (u.2 2) (480 * p)) (hb : ∀ j, j < 8 → bw (gl j) 0 60 = true) : ∀ n, n ≤ (gl C).toNatClampNeg → shE gl gc (nI C) n = mEmp (u.2 2) (480 * nI p + 60 * nI C) n
  | 0, _ => rfl
  | n + 1, h => by
    have h60 := cl60 (hb C hC)
    show shE gl gc (nI C) n + (if shAt gl gc (nI C) (nI n) = (-2) then 1 else 0) = mEmp (u.2 2) (480 * nI p + 60 * nI C) n + (if u.2 2 (480 * nI p + 60 * nI C + nI n).toNatClampNeg = (-2) then 1 else 0)
    rw [shE_eq hp hC hl hc hb n (by omega), shAt_ok hC (hb C hC) (by omega), idxN hp hC (by omega), nI_clamp (by omega), hc _ (by omega), show 480 * p + (60 * C + n) = 480 * p + 60 * C + n by omega]
set_option maxHeartbeats 4000000 in
set_option maxRecDepth 100000 in
theorem y_shortOf (l : Launch) (dC : Nat → ClassId) (dI : Nat → Nat → Nat) (q : Nat → ClassId) (h0 : Nat) (d : Nat → Nat) (k : Nat → Int32) (z : gS) (f : xF) (hI : xI q h0 d k z f) (p0 p1 : Int32) (u : mS) (hrp : rep q d u z f) : Met l yX11_shortOf wsX11_shortOf ({ frames := 4, cells := 0, slots := 0, locals := 87 }) (va_Pc [.ref h0, .int p0, .int p1] (PX dC dI (va_pl z.1 f) (xT q))) (vp_Si (fun r => r = mShort u p0 p1)) 0 0 (fun _ => False) := by
  refine Met.ofW (cc := cX11_shortOf) (maxL := 3) (ret := (some .int)) (by decide) rfl ?_
  intro p e s m args below meth c s₁ B hml hv
  obtain ⟨rfl, ⟨hP, hK, hN⟩, hXN⟩ := hv
  have hx := B.exec
  have hb := B.bytes
  have hr := B.returns
  have hts := atoms_spec (ws := wsX11_shortOf) B.pre
  have hown : s.vm.findClass RX11 = some m.cls := findClass_of_methodNamed B.named
  have hlocks := B.notSynchronized
  have hl := lv_entry ([.ref h0, .int p0, .int p1]) (n := 3) (Nat.le_of_ble_eq_true rfl)
  rw [lg_entry_eq]
  generalize (lg_sl ([.ref h0, .int p0, .int p1]) ++ List.replicate (3 - (lg_sl ([.ref h0, .int p0, .int p1])).length) Slot.unset).toArray = ls at hl ⊢
  have hl : lv_has ls 3 [(0, .ref h0), (1, .int p0), (2, .int p1)] := hl
  refine lv_iload_n hx hb dX11_shortOf_0 rfl (lv_at hl 1 rfl) ?_
  refine vp_callSi (va_runS (As := [.int p0]) (rest := []) ⟨hx, hb, hml, hown, hts⟩ (x_isPage l dC dI p0) (va_cwS 1 hts gX11_shortOf_X11_isPage rfl rfl rfl (by decide +kernel) ⟨Nat.le_of_ble_eq_true rfl, Nat.le_of_ble_eq_true rfl⟩) ⟨pw_fb, fun U hU hW => ⟨rfl, pw_to hU hW (hP.sub (ws' := []) [] rfl) (hK.sub (tys' := []) [] rfl) hN⟩⟩ rfl rfl hl.1 rfl (lv_room (Nat.le_of_ble_eq_true rfl)) dX11_shortOf_1 ⟨Nat.le_of_ble_eq_true rfl, Nat.le_of_ble_eq_true rfl⟩).run (fun r hw => ?_)
  rcases Bool.eq_false_or_eq_true (bw p0 0 11) with b_1 | b_1
  ·
    obtain rfl : r = 1 := b_t hw b_1
    refine lv_if_eq (tgt := 27) hx hb dX11_shortOf_4 (by decide) (fun c_2 => absurd c_2 (by decide)) (fun c_2 => ?_)
    refine lv_iload_n hx hb dX11_shortOf_7 rfl (lv_at hl 2 rfl) ?_
    refine vp_callSi (va_runS (As := [.int p1]) (rest := []) ⟨hx, hb, hml, hown, hts⟩ (x_isColumn l dC dI p1) (va_cwS 1 hts gX11_shortOf_X11_isColumn rfl rfl rfl (by decide +kernel) ⟨Nat.le_of_ble_eq_true rfl, Nat.le_of_ble_eq_true rfl⟩) ⟨pw_fb, fun U hU hW => ⟨rfl, pw_to hU hW (hP.sub (ws' := []) [] rfl) (hK.sub (tys' := []) [] rfl) hN⟩⟩ rfl rfl hl.1 rfl (lv_room (Nat.le_of_ble_eq_true rfl)) dX11_shortOf_8 ⟨Nat.le_of_ble_eq_true rfl, Nat.le_of_ble_eq_true rfl⟩).run (fun r hw => ?_)
    rcases Bool.eq_false_or_eq_true (bw p1 0 7) with b_3 | b_3
    ·
      obtain rfl : r = 1 := b_t hw b_3
      refine lv_if_eq (tgt := 27) hx hb dX11_shortOf_11 (by decide) (fun c_4 => absurd c_4 (by decide)) (fun c_4 => ?_)
      refine lv_aload_n hx hb dX11_shortOf_14 rfl (lv_at hl 0 rfl) ?_
      obtain ⟨kk_5, hk_6⟩ := pl_at hI.2.1.1.1 hI.2.2.2.1.1
      refine va_get (D := (dC, dI)) (ci := 10) (v := .ref (d 0)) (C := RX11) (T := TX11) (N := 9) hx hb hts (by decide +kernel) hown hK hP kk_5 hk_6 rfl 0 (by decide) (hts (.fieldLink RX11 11 "PageOne" "pages" "[LPageOne$Sheet;") (by decide +kernel)) (fun _ h9 => h9) rfl dX11_shortOf_15 ?_
      refine lv_iload_n hx hb dX11_shortOf_18 rfl (lv_at hl 1 rfl) ?_
      obtain ⟨g_7, hs_8, hg_9⟩ := x_pg hI hI.2.1.2.1
      obtain ⟨kk_10, hk_11⟩ := pl_at hI.2.1.2.1.1 hs_8
      refine va_aldq hx hb hK hP kk_10 2 hk_11 rfl (vin b_1 (by decide)) dX11_shortOf_19 ?_
      obtain ⟨b_12, hg_13, ht_14⟩ := hg_9 _ (vlt (vin b_1 (by decide)))
      rw [hg_13]
      refine W.eq (g2 := F0 m 20 ls [.ref b_12]) rfl ?_
      refine lv_iload_n hx hb dX11_shortOf_20 rfl (lv_at hl 2 rfl) ?_
      obtain ⟨la_15, ca_16, m_17, dd_18, ii_19, hs_20, ht_21, ht_22⟩ := x_sh hI ht_14
      obtain ⟨g_23, hs_24, hg_25⟩ := x_ln hI ht_21
      obtain ⟨g_26, hs_27⟩ := x_ce hI ht_22
      obtain ⟨kk_28, hk_29⟩ := pl_at ht_14.1 hs_20
      refine vp_callSi (va_runV (As := [.int p1]) (rest := []) ⟨hx, hb, hml, hown, hts⟩ (y_emptyIn l dC dI q h0 d k z f hI b_12 la_15 ca_16 m_17 dd_18 ii_19 g_23 g_26 ht_14 hs_20 ht_21 ht_22 hs_24 hg_25 hs_27 p1 b_3) (cwV 1 hts gX11_shortOf_X9_emptyIn rfl rfl rfl (by decide +kernel) ⟨Nat.le_of_ble_eq_true rfl, Nat.le_of_ble_eq_true rfl⟩) ⟨px_fb, va_recv hK hP (ci := 8) (q0 := kk_28) rfl hk_29, fun U hU hW => ⟨rfl, px_to hU hW hP hK hN hXN⟩⟩ rfl rfl hl.1 rfl (lv_room (Nat.le_of_ble_eq_true rfl)) dX11_shortOf_21 ⟨Nat.le_of_ble_eq_true rfl, Nat.le_of_ble_eq_true rfl⟩).run (fun r hw => ?_)
      generalize r = zr_30 at hw ⊢
      have hzr_30 := hw
      refine lv_goto (tgt := 28) hx hb dX11_shortOf_24 (by decide) ?_
      exact W.iret (v := zr_30) hx hb hr (fun t ht hW => ⟨_, rfl, (by obtain ⟨P, hP1, -, eP⟩ := exN b_1 (by decide); obtain ⟨C, hC1, -, eC⟩ := exN b_3 (by decide); have h11 : (11 : Int32).toInt = 11 := rfl; have h7 : (7 : Int32).toInt = 7 := rfl; have hc9 := (nI_clamp (n := P) (by omega)); subst eP eC; have hq9 := rp_pg hrp.1 hs_8 (p := P) (by omega) (by rw [← hc9]; exact hg_13) hs_20; rw [hzr_30]; unfold mShort; rw [if_pos b_1, if_pos b_3, nI_clamp (n := C) (by omega), show (8 * nI P + nI C).toNatClampNeg = 8 * P + C from by rw [show (8 : Int32) = nI 8 from rfl, pk_mul, nI_add, nI_clamp (by omega)], ← hq9.2.2.2.2.1 _ hs_24 C (by omega)]; exact shE_eq (by omega) (by omega) (hq9.2.2.2.2.1 _ hs_24) (hq9.2.2.2.2.2 _ hs_27) hg_25 _ (Nat.le_refl _)), ht⟩) (fun q h => absurd h List.not_mem_nil) dX11_shortOf_28
    ·
      obtain rfl : r = 0 := b_f hw b_3
      refine lv_if_eq (tgt := 27) hx hb dX11_shortOf_11 (by decide) (fun c_31 => ?_) (fun c_31 => absurd (by decide) c_31)
      refine lv_iconst (v := (-1)) hx hb dX11_shortOf_27 (by decide) ?_
      exact W.iret (v := (-1)) hx hb hr (fun t ht hW => ⟨_, rfl, (by unfold mShort; rw [if_pos b_1, if_neg (bne b_3)]), ht⟩) (fun q h => absurd h List.not_mem_nil) dX11_shortOf_28
  ·
    obtain rfl : r = 0 := b_f hw b_1
    refine lv_if_eq (tgt := 27) hx hb dX11_shortOf_4 (by decide) (fun c_32 => ?_) (fun c_32 => absurd (by decide) c_32)
    refine lv_iconst (v := (-1)) hx hb dX11_shortOf_27 (by decide) ?_
    exact W.iret (v := (-1)) hx hb hr (fun t ht hW => ⟨_, rfl, (by unfold mShort; rw [if_neg (bne b_1)]), ht⟩) (fun q h => absurd h List.not_mem_nil) dX11_shortOf_28
