/-- a square stands on its own page's plates alone -/
def sdI (u : mS) : Prop := ∀ p, p < 12 → u.2 40 p = 1 → ∀ i, i < 80 → u.2 4 i = 3 → ¬ u.2 45 (80 * p + i) = (-1) → u.2 11 i = nI p
/-- printed on a day -/
def wpP (u : mS) (i : Nat) (dd : Int32) : Prop := ¬ u.2 48 (80 * dd.toNatClampNeg + i) = 0 ∨ (dd = u.1 38 ∧ ∃ p, p < 12 ∧ prC u (nI i) p = true)
noncomputable def blS (u : mS) (b dd : Int32) : Nat → Int32
  | 0 => 0
  | i + 1 => blS u b dd i + (if bP (u.2 4 i = 3 ∧ u.2 10 i = b ∧ wpP u i dd) = 1 then u.2 7 i * u.2 8 i * u.2 14 i else 0)
theorem blS_1 {u : mS} {b dd : Int32} {i : Nat} (h : u.2 4 i = 3 ∧ u.2 10 i = b ∧ wpP u i dd) : blS u b dd (i + 1) = blS u b dd i + u.2 7 i * u.2 8 i * u.2 14 i := by
  show blS u b dd i + _ = _
  rw [if_pos (bP_t h)]
theorem blS_0 {u : mS} {b dd : Int32} {i : Nat} (h : ¬ (u.2 4 i = 3 ∧ u.2 10 i = b ∧ wpP u i dd)) : blS u b dd (i + 1) = blS u b dd i := by
  show blS u b dd i + _ = _
  rw [if_neg (fun e => h (bP_1 e))]; exact Int32.add_zero _
theorem wp_y {u : mS} {i p : Nat} {dd s : Int32} (hp : p < 12) (hi : i < 80) (hd : dd = u.1 38) (hn : mNow u (nI p) = true) (hs : spR u i p s) : wpP u i dd := Or.inr ⟨hd, p, hp, prC_t hp hi hn hs⟩
theorem wp_n {u : mS} {i P : Nat} {dd : Int32} (hpl : plI u) (hsd : sdI u) (h01 : ∀ j, j < 12 → u.2 40 j = 0 ∨ u.2 40 j = 1) (hi : i < 80) (hk : u.2 4 i = 3) (hsp : u.2 11 i = nI P) (hP : P < 12) (h0 : u.2 48 (80 * dd.toNatClampNeg + i) = 0) (h : ¬ dd = u.1 38 ∨ ¬ mNow u (nI P) = true ∨ u.2 45 (80 * P + i) = (-1)) : ¬ wpP u i dd := by
  rintro (h1 | ⟨h1, p, hp, hc⟩)
  · exact h1 h0
  · rcases h with h | h
    · exact h h1
    · have e : p = P := by
        have h2 := hc
        unfold prC at h2
        rw [Bool.and_eq_true, Bool.not_eq_true', decide_eq_false_iff_not, e80 hp hi] at h2
        have h40 : u.2 40 p = 1 := by
          rcases h01 p hp with q | q
          · have h3 := h2.1
            unfold mNow at h3
            rw [nI_clamp (by omega), q] at h3
            exact absurd h3 (by simp)
          · exact q
        have h5 := hsd p hp h40 i hi hk (fun e => h2.2 (by rw [e]; decide))
        exact nI_inj2 (by omega) (by omega) (h5.symm.trans hsp)
      subst e
      rw [prC_f hp hi h] at hc
      exact absurd hc (by decide)
theorem e48 {gd : Nat → Int32} {u : mS} {i : Nat} {dd : Int32} (h : ∀ j, j < 400 → gd j = u.2 48 (80 * j + i)) (hd : bw dd 0 399 = true) : gd dd.toNatClampNeg = u.2 48 (80 * dd.toNatClampNeg + i) := h _ (vlt (vin hd (by decide)))
set_option maxHeartbeats 4000000 in
set_option maxRecDepth 100000 in
theorem y_wasPrintedOn (l : Launch) (dC : Nat → ClassId) (dI : Nat → Nat → Nat) (q : Nat → ClassId) (h0 : Nat) (d : Nat → Nat) (k : Nat → Int32) (z : gS) (f : xF) (hI : xI q h0 d k z f) (p0 : Int32) (hd9 : bw p0 0 399 = true) (u : mS) (hrp : rep q d u z f) (hk0 : k 0 = u.1 3) (hk1 : k 1 = u.1 28) (hk2 : k 2 = u.1 38) (hk3 : k 3 = u.1 39) (hpi : plI u) (hsd : sdI u) (i0 : Nat) (hi0 : i0 < (u.1 3).toNatClampNeg) (hkd : u.2 4 i0 = 3) : Met l yX11_wasPrintedOn wsX11_wasPrintedOn ({ frames := 4, cells := 0, slots := 0, locals := 87 }) (va_Pc [.ref h0, .ref (d (2000 + i0)), .int p0] (PX dC dI (va_pl z.1 f) (xT q))) (vp_Si (fun r => r = bP (wpP u i0 p0))) 0 0 (fun _ => False) := by
  refine Met.ofW (cc := cX11_wasPrintedOn) (maxL := 4) (ret := (some .boolean)) (by decide) rfl ?_
  intro p e s m args below meth c s₁ B hml hv
  obtain ⟨rfl, ⟨hP, hK, hN⟩, hXN⟩ := hv
  have hx := B.exec
  have hb := B.bytes
  have hr := B.returns
  have hts := atoms_spec (ws := wsX11_wasPrintedOn) B.pre
  have hown : s.vm.findClass RX11 = some m.cls := findClass_of_methodNamed B.named
  have hlocks := B.notSynchronized
  have hl := lv_entry ([.ref h0, .ref (d (2000 + i0)), .int p0]) (n := 4) (Nat.le_of_ble_eq_true rfl)
  rw [lg_entry_eq]
  generalize (lg_sl ([.ref h0, .ref (d (2000 + i0)), .int p0]) ++ List.replicate (4 - (lg_sl ([.ref h0, .ref (d (2000 + i0)), .int p0])).length) Slot.unset).toArray = ls at hl ⊢
  have hl : lv_has ls 4 [(0, .ref h0), (1, .ref (d (2000 + i0))), (2, .int p0)] := hl
  obtain ⟨rs_1, n_2, g_3, fg_4, hit_5, hs_6, hpa_7, hps_8, h1_9, h6_10, hcb_11, hpl_12, hlg_13, hnn_14, hfa_15, hfs_16, hfe_17, hrs_18, hkt_19⟩ := it_all hI hrp.2.2.1 hi0
  have hi8 : i0 < 80 := by have := w80i hI.1.1 hk0; omega
  obtain ⟨hx0, hx1, hx2, g6, hx4, hx5⟩ := hrs_18.2.2.2.1 hkd
  have ht13 : tg z (d (2000 + i0)) 13 := ⟨hit_5.1, by rw [hkt_19, hkd]; rfl⟩
  have hsP : f (d (2000 + i0)) = .inr (5, [.int (nI i0), .int (u.2 4 i0), .ref (d (3000 + i0)), .int (u.2 22 i0), .ref (d (4000 + i0)), .int (u.2 10 i0), .int (u.2 14 i0), .ref (d (5000 + i0)), .ref (d (6000 + i0))]) := by rw [hs_6, ht13.2, hx0]; rfl
  obtain ⟨P, hP1, -, eP⟩ := exN (x_pcB hI hx1).1 (by decide)
  have h11 : (11 : Int32).toInt = 11 := rfl
  rw [eP] at hx1
  refine lv_aload_n hx hb dX11_wasPrintedOn_0 rfl (lv_at hl 1 rfl) ?_
  obtain ⟨kk_20, hk_21⟩ := pl_at ht13.1 hsP
  refine va_get (D := (dC, dI)) (ci := 5) (v := .ref (d (6000 + i0))) (C := RX6) (T := TX6) (N := 9) hx hb hts (by decide +kernel) hown hK hP kk_20 hk_21 rfl 8 (by decide) (hts (.fieldLink RX11 388 "PageOne$Paid" "days" "[Z") (by decide +kernel)) (fun _ h9 => h9) rfl dX11_wasPrintedOn_1 ?_
  refine lv_iload_n hx hb dX11_wasPrintedOn_4 rfl (lv_at hl 2 rfl) ?_
  obtain ⟨kk_22, hk_23⟩ := pl_at hx2.1.1 hx4
  refine va_zald hx hb hK hP kk_22 1 hk_23 rfl (vin hd9 (by decide)) dX11_wasPrintedOn_5 ?_
  refine lv_if_eq (tgt := 11) hx hb dX11_wasPrintedOn_6 (by decide) (fun c_24 => ?_) (fun c_24 => ?_)
  ·
    refine lv_aload_n hx hb dX11_wasPrintedOn_11 rfl (lv_at hl 1 rfl) ?_
    obtain ⟨kk_25, hk_26⟩ := pl_at ht13.1 hsP
    refine va_get (D := (dC, dI)) (ci := 5) (v := .ref (d (5000 + i0))) (C := RX6) (T := TX6) (N := 9) hx hb hts (by decide +kernel) hown hK hP kk_25 hk_26 rfl 7 (by decide) (hts (.fieldLink RX11 394 "PageOne$Paid" "spot" "LPageOne$Piece;") (by decide +kernel)) (fun _ h9 => h9) rfl dX11_wasPrintedOn_12 ?_
    obtain ⟨kk_27, hk_28⟩ := pl_at hx1.1.1 (x_pcF hI hx1)
    refine va_get (D := (dC, dI)) (ci := 7) (v := .int (nI P)) (C := RX8) (T := TX8) (N := 6) hx hb hts (by decide +kernel) hown hK hP kk_27 hk_28 rfl 1 (by decide) (hts (.fieldLink RX11 229 "PageOne$Piece" "page" "I") (by decide +kernel)) (fun _ h9 => h9) rfl dX11_wasPrintedOn_15 ?_
    refine lv_istore_n (lv' := [(3, .int (nI P)), (0, .ref h0), (1, .ref (d (2000 + i0))), (2, .int p0)]) hx hb dX11_wasPrintedOn_18 rfl hl (by decide) rfl (fun ls hl => ?_)
    refine lv_iload_n hx hb dX11_wasPrintedOn_19 rfl (lv_at hl 3 rfl) ?_
    refine lv_aload_n hx hb dX11_wasPrintedOn_20 rfl (lv_at hl 1 rfl) ?_
    obtain ⟨kk_29, hk_30⟩ := pl_at hI.2.1.1.1 hI.2.2.2.1.1
    refine va_get (D := (dC, dI)) (ci := 10) (v := .int (k 2)) (C := RX11) (T := TX11) (N := 9) hx hb hts (by decide +kernel) hown hK hP kk_29 hk_30 rfl 7 (by decide) (hts (.fieldLink RX11 41 "PageOne" "today" "I") (by decide +kernel)) (fun _ h9 => h9) rfl dX11_wasPrintedOn_21 ?_
    refine lv_icmp_ne (tgt := 56) hx hb dX11_wasPrintedOn_24 (by decide) (fun c_31 => ?_) (fun c_31 => ?_)
    ·
      refine lv_iconst (v := 0) hx hb dX11_wasPrintedOn_56 (by decide) ?_
      exact W.zret (v := 0) hx hb hr (by decide) (fun t ht hW => ⟨_, rfl, (bP_f (wp_n (P := P) hpi hsd (rp_01 hrp.2.1) hi8 hkd eP (by omega) ((e48 hx5 hd9).symm.trans c_24) (Or.inl (fun e9 => c_31 (e9.trans hk2.symm))))).symm, ht⟩) (fun q h => absurd h List.not_mem_nil) dX11_wasPrintedOn_57
    ·
      refine lv_aload_n hx hb dX11_wasPrintedOn_27 rfl (lv_at hl 1 rfl) ?_
      refine lv_iload_n hx hb dX11_wasPrintedOn_28 rfl (lv_at hl 0 rfl) ?_
      obtain ⟨kk_32, hk_33⟩ := pl_at hI.2.1.1.1 hI.2.2.2.1.1
      refine vp_callSi (va_runV (As := [.int (nI P)]) (rest := []) ⟨hx, hb, hml, hown, hts⟩ (y_isFresh l dC dI q h0 d k z f hI (nI P) u hrp hk2 hk3) (cwV 1 hts gX11_wasPrintedOn_X11_isFresh rfl rfl rfl (by decide +kernel) ⟨Nat.le_of_ble_eq_true rfl, Nat.le_of_ble_eq_true rfl⟩) ⟨px_fb, va_recv hK hP (ci := 10) (q0 := kk_32) rfl hk_33, fun U hU hW => ⟨rfl, px_to hU hW hP hK hN hXN⟩⟩ rfl rfl hl.1 rfl (lv_room (Nat.le_of_ble_eq_true rfl)) dX11_wasPrintedOn_29 ⟨Nat.le_of_ble_eq_true rfl, Nat.le_of_ble_eq_true rfl⟩).run (fun r hw => ?_)
      rcases hw with ⟨hw, hpp_40⟩ | ⟨hw, hpp_40, hbw_39, gp_34, bp_35, hp_36, hp_37, hp_38⟩
      ·
        subst hw
        refine lv_if_eq (tgt := 56) hx hb dX11_wasPrintedOn_32 (by decide) (fun c_41 => ?_) (fun c_41 => absurd (by decide) c_41)
        refine lv_iconst (v := 0) hx hb dX11_wasPrintedOn_56 (by decide) ?_
        exact W.zret (v := 0) hx hb hr (by decide) (fun t ht hW => ⟨_, rfl, (bP_f (wp_n (P := P) hpi hsd (rp_01 hrp.2.1) hi8 hkd eP (by omega) ((e48 hx5 hd9).symm.trans c_24) (Or.inr (Or.inl (fun h9 => hpp_40 ((frP_now (bw11 (by omega : P < 12)) (rp_01 hrp.2.1 _ (by rw [nI_clamp (by omega)]; omega))).mpr h9)))))).symm, ht⟩) (fun q h => absurd h List.not_mem_nil) dX11_wasPrintedOn_57
      ·
        subst hw
        refine lv_if_eq (tgt := 56) hx hb dX11_wasPrintedOn_32 (by decide) (fun c_42 => absurd c_42 (by decide)) (fun c_42 => ?_)
        refine lv_aload_n hx hb dX11_wasPrintedOn_35 rfl (lv_at hl 1 rfl) ?_
        obtain ⟨kk_43, hk_44⟩ := pl_at hI.2.1.1.1 hI.2.2.2.1.1
        refine va_get (D := (dC, dI)) (ci := 10) (v := .ref (d 1)) (C := RX11) (T := TX11) (N := 9) hx hb hts (by decide +kernel) hown hK hP kk_43 hk_44 rfl 1 (by decide) (hts (.fieldLink RX11 15 "PageOne" "plates" "[LPageOne$Sheet;") (by decide +kernel)) (fun _ h9 => h9) rfl dX11_wasPrintedOn_36 ?_
        refine lv_iload_n hx hb dX11_wasPrintedOn_39 rfl (lv_at hl 0 rfl) ?_
        obtain ⟨kk_45, hk_46⟩ := pl_at hI.2.1.2.2.1.1 hp_36
        refine va_aldq hx hb hK hP kk_45 2 hk_46 rfl (vin hbw_39 (by decide)) dX11_wasPrintedOn_40 ?_
        rw [hp_37]
        refine W.eq (g2 := F0 m 41 ls [.ref bp_35]) rfl ?_
        refine lv_aload_n hx hb dX11_wasPrintedOn_41 rfl (lv_at hl 2 rfl) ?_
        obtain ⟨kk_47, hk_48⟩ := pl_at ht13.1 hsP
        refine va_get (D := (dC, dI)) (ci := 5) (v := .int (nI i0)) (C := RX6) (T := TX6) (N := 9) hx hb hts (by decide +kernel) hown hK hP kk_47 hk_48 rfl 0 (by decide) (hts (.fieldLink RX11 397 "PageOne$Paid" "number" "I") (by decide +kernel)) (fun x9 h9 => u_same (hts (.sameField "PageOne$Paid" "PageOne$Item" "number" "I") (by decide +kernel)) x9 h9) rfl dX11_wasPrintedOn_42 ?_
        obtain ⟨la_49, ca_50, m_51, dd_52, ii_53, hs_54, ht_55, ht_56⟩ := x_sh hI hp_38
        obtain ⟨g_57, hs_58, hg_59⟩ := x_ln hI ht_55
        obtain ⟨g_60, hs_61⟩ := x_ce hI ht_56
        obtain ⟨kk_62, hk_63⟩ := pl_at hp_38.1 hs_54
        refine vp_callSi (va_runV (As := [.int (nI i0)]) (rest := []) ⟨hx, hb, hml, hown, hts⟩ (y_spotOf l dC dI q h0 d k z f hI bp_35 la_49 ca_50 m_51 dd_52 ii_53 g_57 g_60 hp_38 hs_54 ht_55 ht_56 hs_58 hg_59 hs_61 (nI i0)) (cwV 1 hts gX11_wasPrintedOn_X9_spotOf rfl rfl rfl (by decide +kernel) ⟨Nat.le_of_ble_eq_true rfl, Nat.le_of_ble_eq_true rfl⟩) ⟨px_fb, va_recv hK hP (ci := 8) (q0 := kk_62) rfl hk_63, fun U hU hW => ⟨rfl, px_to hU hW hP hK hN hXN⟩⟩ rfl rfl hl.1 rfl (lv_room (Nat.le_of_ble_eq_true rfl)) dX11_wasPrintedOn_45 ⟨Nat.le_of_ble_eq_true rfl, Nat.le_of_ble_eq_true rfl⟩).run (fun r hw => ?_)
        generalize r = zr_64 at hw ⊢
        have hzr_64 := hw
        refine lv_iconst (v := (-1)) hx hb dX11_wasPrintedOn_48 (by decide) ?_
        refine lv_icmp_eq (tgt := 56) hx hb dX11_wasPrintedOn_49 (by decide) (fun c_65 => ?_) (fun c_65 => ?_)
        ·
          refine lv_iconst (v := 0) hx hb dX11_wasPrintedOn_56 (by decide) ?_
          exact W.zret (v := 0) hx hb hr (by decide) (fun t ht hW => ⟨_, rfl, (bP_f (wp_n (P := P) hpi hsd (rp_01 hrp.2.1) hi8 hkd eP (by omega) ((e48 hx5 hd9).symm.trans c_24) (Or.inr (Or.inr (by rcases (by have hq9 := ((rp_pl hrp.2.1 hp_36 (clp hbw_39)).2 _ hp_37).2.2 _ _ _ _ _ hs_54; have h40 := hpp_40.1.2; rw [nI_clamp (by omega)] at hq9 h40; exact sp_val (by omega) hpi h40 hi8 (hq9.2.2.1 _ hs_58) (hq9.2.2.2 _ hs_61) hg_59 hzr_64 : (zr_64 = -1 ∧ u.2 45 (80 * P + i0) = (-1)) ∨ (¬ zr_64 = -1 ∧ spR u i0 P zr_64)) with h8 | h8; exact h8.2; exact absurd c_65 h8.1))))).symm, ht⟩) (fun q h => absurd h List.not_mem_nil) dX11_wasPrintedOn_57
        ·
          refine lv_iconst (v := 1) hx hb dX11_wasPrintedOn_52 (by decide) ?_
          refine lv_goto (tgt := 57) hx hb dX11_wasPrintedOn_53 (by decide) ?_
          exact W.zret (v := 1) hx hb hr (by decide) (fun t ht hW => ⟨_, rfl, (bP_t (by rcases (by have hq9 := ((rp_pl hrp.2.1 hp_36 (clp hbw_39)).2 _ hp_37).2.2 _ _ _ _ _ hs_54; have h40 := hpp_40.1.2; rw [nI_clamp (by omega)] at hq9 h40; exact sp_val (by omega) hpi h40 hi8 (hq9.2.2.1 _ hs_58) (hq9.2.2.2 _ hs_61) hg_59 hzr_64 : (zr_64 = -1 ∧ u.2 45 (80 * P + i0) = (-1)) ∨ (¬ zr_64 = -1 ∧ spR u i0 P zr_64)) with h8 | h8; exact absurd h8.1 c_65; exact wp_y (p := P) (by omega) hi8 (c_31.trans hk2) ((frP_now (bw11 (by omega : P < 12)) (rp_01 hrp.2.1 _ (by rw [nI_clamp (by omega)]; omega))).mp hpp_40) h8.2)).symm, ht⟩) (fun q h => absurd h List.not_mem_nil) dX11_wasPrintedOn_57
  ·
    refine lv_iconst (v := 1) hx hb dX11_wasPrintedOn_9 (by decide) ?_
    exact W.zret (v := 1) hx hb hr (by decide) (fun t ht hW => ⟨_, rfl, (bP_t (Or.inl (fun e9 => c_24 ((e48 hx5 hd9).trans e9)))).symm, ht⟩) (fun q h => absurd h List.not_mem_nil) dX11_wasPrintedOn_10
