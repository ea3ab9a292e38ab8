set_option maxHeartbeats 4000000 in
set_option maxRecDepth 100000 in
theorem x_plateOf (l : Launch) (dC : Nat → ClassId) (dI : Nat → Nat → Nat) (q : Nat → ClassId) (h0 : Nat) (d : Nat → Nat) (k : Nat → Int32) (z : gS) (f : xF) (hI : xI q h0 d k z f) (p0 p1 : Int32) : Met l yX11_plateOf wsX11_plateOf ({ frames := 3, cells := 0, slots := 0, locals := 63 }) (va_Pc [.ref h0, .int p0, .int p1] (PX dC dI (va_pl z.1 f) (xT q))) (vp_Si (fun r => True)) 0 0 (fun _ => False) := by
  refine Met.ofW (cc := cX11_plateOf) (maxL := 3) (ret := (some .int)) (by decide) rfl ?_
  intro p e s m args below meth c s₁ B hml hv
  obtain ⟨rfl, ⟨hP, hK, hN⟩, hXN⟩ := hv
  have hx := B.exec
  have hb := B.bytes
  have hr := B.returns
  have hts := atoms_spec (ws := wsX11_plateOf) B.pre
  have hown : s.vm.findClass RX11 = some m.cls := findClass_of_methodNamed B.named
  have hlocks := B.notSynchronized
  have hl := lv_entry ([.ref h0, .int p0, .int p1]) (n := 3) (Nat.le_of_ble_eq_true rfl)
  rw [lg_entry_eq]
  generalize (lg_sl ([.ref h0, .int p0, .int p1]) ++ List.replicate (3 - (lg_sl ([.ref h0, .int p0, .int p1])).length) Slot.unset).toArray = ls at hl ⊢
  have hl : lv_has ls 3 [(0, .ref h0), (1, .int p0), (2, .int p1)] := hl
  refine lv_aload_n hx hb dX11_plateOf_0 rfl (lv_at hl 0 rfl) ?_
  refine lv_iload_n hx hb dX11_plateOf_1 rfl (lv_at hl 1 rfl) ?_
  obtain ⟨kk_1, hk_2⟩ := pl_at hI.2.1.1.1 hI.2.2.2.1.1
  refine vp_callSi (va_runV (As := [.int p0]) (rest := []) ⟨hx, hb, hml, hown, hts⟩ (x_hasPlate l dC dI q h0 d k z f hI p0) (cwV 1 hts gX11_plateOf_X11_hasPlate rfl rfl rfl (by decide +kernel) ⟨Nat.le_of_ble_eq_true rfl, Nat.le_of_ble_eq_true rfl⟩) ⟨px_fb, va_recv hK hP (ci := 10) (q0 := kk_1) rfl hk_2, fun U hU hW => ⟨rfl, px_to hU hW hP hK hN hXN⟩⟩ rfl rfl hl.1 rfl (lv_room (Nat.le_of_ble_eq_true rfl)) dX11_plateOf_2 ⟨Nat.le_of_ble_eq_true rfl, Nat.le_of_ble_eq_true rfl⟩).run (fun r hw => ?_)
  rcases hw with hw | ⟨hw, hbw_8, gp_3, bp_4, hp_5, hp_6, hp_7⟩
  ·
    subst hw
    refine lv_if_ne (tgt := 10) hx hb dX11_plateOf_5 (by decide) (fun c_9 => absurd (by decide) c_9) (fun c_9 => ?_)
    refine lv_iconst (v := (-1)) hx hb dX11_plateOf_8 (by decide) ?_
    exact W.iret (v := (-1)) hx hb hr (fun t ht hW => ⟨_, rfl, trivial, ht⟩) (fun q h => absurd h List.not_mem_nil) dX11_plateOf_9
  ·
    subst hw
    refine lv_if_ne (tgt := 10) hx hb dX11_plateOf_5 (by decide) (fun c_10 => ?_) (fun c_10 => absurd c_10 (by decide))
    refine lv_iload_n hx hb dX11_plateOf_10 rfl (lv_at hl 2 rfl) ?_
    rcases Classical.em (p1 = 0) with s_11 | s_11
    ·
      subst s_11
      refine lv_lookup (tgt := 36) (off := 25) hx hb dX11_plateOf_11 (by decide) (by decide) (by decide) ?_
      refine lv_aload_n hx hb dX11_plateOf_36 rfl (lv_at hl 0 rfl) ?_
      obtain ⟨kk_12, hk_13⟩ := pl_at hI.2.1.1.1 hI.2.2.2.1.1
      refine va_get (D := (dC, dI)) (ci := 10) (v := .ref (d 1)) (C := RX11) (T := TX11) (N := 9) hx hb hts (by decide +kernel) hown hK hP kk_12 hk_13 rfl 1 (by decide) (hts (.fieldLink RX11 15 "PageOne" "plates" "[LPageOne$Sheet;") (by decide +kernel)) (fun _ h9 => h9) rfl dX11_plateOf_37 ?_
      refine lv_iload_n hx hb dX11_plateOf_40 rfl (lv_at hl 1 rfl) ?_
      obtain ⟨kk_14, hk_15⟩ := pl_at hI.2.1.2.2.1.1 hp_5
      refine va_aldq hx hb hK hP kk_14 2 hk_15 rfl (vin hbw_8 (by decide)) dX11_plateOf_41 ?_
      rw [hp_6]
      refine W.eq (g2 := F0 m 42 ls [.ref bp_4]) rfl ?_
      obtain ⟨la_16, ca_17, m_18, dd_19, ii_20, hs_21, ht_22, ht_23⟩ := x_sh hI hp_7
      obtain ⟨kk_24, hk_25⟩ := pl_at hp_7.1 hs_21
      refine va_get (D := (dC, dI)) (ci := 8) (v := .int dd_19) (C := RX9) (T := TX9) (N := 5) hx hb hts (by decide +kernel) hown hK hP kk_24 hk_25 rfl 3 (by decide) (hts (.fieldLink RX11 210 "PageOne$Sheet" "day" "I") (by decide +kernel)) (fun _ h9 => h9) rfl dX11_plateOf_42 ?_
      exact W.iret (v := dd_19) hx hb hr (fun t ht hW => ⟨_, rfl, trivial, ht⟩) (fun q h => absurd h List.not_mem_nil) dX11_plateOf_45
    ·
      rcases Classical.em (p1 = 1) with s_26 | s_26
      ·
        subst s_26
        refine lv_lookup (tgt := 46) (off := 35) hx hb dX11_plateOf_11 (by decide) (by decide) (by decide) ?_
        refine lv_aload_n hx hb dX11_plateOf_46 rfl (lv_at hl 0 rfl) ?_
        obtain ⟨kk_27, hk_28⟩ := pl_at hI.2.1.1.1 hI.2.2.2.1.1
        refine va_get (D := (dC, dI)) (ci := 10) (v := .ref (d 1)) (C := RX11) (T := TX11) (N := 9) hx hb hts (by decide +kernel) hown hK hP kk_27 hk_28 rfl 1 (by decide) (hts (.fieldLink RX11 15 "PageOne" "plates" "[LPageOne$Sheet;") (by decide +kernel)) (fun _ h9 => h9) rfl dX11_plateOf_47 ?_
        refine lv_iload_n hx hb dX11_plateOf_50 rfl (lv_at hl 1 rfl) ?_
        obtain ⟨kk_29, hk_30⟩ := pl_at hI.2.1.2.2.1.1 hp_5
        refine va_aldq hx hb hK hP kk_29 2 hk_30 rfl (vin hbw_8 (by decide)) dX11_plateOf_51 ?_
        rw [hp_6]
        refine W.eq (g2 := F0 m 52 ls [.ref bp_4]) rfl ?_
        obtain ⟨la_31, ca_32, m_33, dd_34, ii_35, hs_36, ht_37, ht_38⟩ := x_sh hI hp_7
        obtain ⟨kk_39, hk_40⟩ := pl_at hp_7.1 hs_36
        refine va_get (D := (dC, dI)) (ci := 8) (v := .int ii_35) (C := RX9) (T := TX9) (N := 5) hx hb hts (by decide +kernel) hown hK hP kk_39 hk_40 rfl 4 (by decide) (hts (.fieldLink RX11 213 "PageOne$Sheet" "edition" "I") (by decide +kernel)) (fun _ h9 => h9) rfl dX11_plateOf_52 ?_
        exact W.iret (v := ii_35) hx hb hr (fun t ht hW => ⟨_, rfl, trivial, ht⟩) (fun q h => absurd h List.not_mem_nil) dX11_plateOf_55
      ·
        refine lv_lookup (tgt := 56) (off := 45) hx hb dX11_plateOf_11 (by decide) ((lv_osw s_11 rfl).trans ((lv_osw s_26 rfl).trans (rfl))) (by decide) ?_
        refine lv_iconst (v := (-1)) hx hb dX11_plateOf_56 (by decide) ?_
        exact W.iret (v := (-1)) hx hb hr (fun t ht hW => ⟨_, rfl, trivial, ht⟩) (fun q h => absurd h List.not_mem_nil) dX11_plateOf_57
