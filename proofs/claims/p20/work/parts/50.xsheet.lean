theorem vin60 {a b n : Int32} (ha : bw a 0 7 = true) (hn : bw n 0 60 = true) (hb : bw b 0 (n - 1) = true) : vp_in (a * 60 + b) 480 := by
  have h60 : (60 : Int32).toInt = 60 := rfl
  have h7 : (7 : Int32).toInt = 7 := rfl
  have h1 := bw_iff.mp ha
  have h2 := bw_iff.mp hn
  have h3 := bw_iff.mp hb
  rw [i0, h7] at h1
  rw [i0, h60] at h2
  rw [i0, subI (by rw [i1]; omega) (by rw [i1]; omega), i1] at h3
  have e1 : (a * 60).toInt = a.toInt * 60 := by rw [mulI (by rw [h60]; omega) (by rw [h60]; omega), h60]
  rw [vp_in_iff, addI (by rw [e1]; omega) (by rw [e1]; omega), e1]; omega
set_option maxHeartbeats 4000000 in
set_option maxRecDepth 100000 in
theorem x_at (l : Launch) (dC : Nat → ClassId) (dI : Nat → Nat → Nat) (q : Nat → ClassId) (h0 : Nat) (d : Nat → Nat) (k : Nat → Int32) (z : gS) (f : xF) (hI : xI q h0 d k z f) (a0 : Nat) (p0 p1 : Int32) (ha0 : tg z a0 7) : Met l yX9_at wsX9_at ({ frames := 2, cells := 0, slots := 0, locals := 42 }) (va_Pc [.ref a0, .int p0, .int p1] (PX dC dI (va_pl z.1 f) (xT q))) (vp_Si (fun r => True)) 0 0 (fun _ => False) := by
  refine Met.ofW (cc := cX9_at) (maxL := 3) (ret := (some .int)) (by decide) rfl ?_
  intro p e s m args below meth c s₁ B hml hv
  obtain ⟨rfl, ⟨hP, hK, hN⟩, hXN⟩ := hv
  have hx := B.exec
  have hb := B.bytes
  have hr := B.returns
  have hts := atoms_spec (ws := wsX9_at) B.pre
  have hown : s.vm.findClass RX9 = some m.cls := findClass_of_methodNamed B.named
  have hlocks := B.notSynchronized
  have hl := lv_entry ([.ref a0, .int p0, .int p1]) (n := 3) (Nat.le_of_ble_eq_true rfl)
  rw [lg_entry_eq]
  generalize (lg_sl ([.ref a0, .int p0, .int p1]) ++ List.replicate (3 - (lg_sl ([.ref a0, .int p0, .int p1])).length) Slot.unset).toArray = ls at hl ⊢
  have hl : lv_has ls 3 [(0, .ref a0), (1, .int p0), (2, .int p1)] := hl
  refine lv_iload_n hx hb dX9_at_0 rfl (lv_at hl 1 rfl) ?_
  refine vp_callSi (va_runSN (As := [.int p0]) (rest := []) ⟨hx, hb, hml, hown, hts⟩ (x_isColumn l dC dI p0) ⟨va_cnB (host := "PageOne") 1 hts gX9_at_X11_isColumn_n34 rfl rfl rfl hN.n_RX9_34 (hts (.initialized RX11) (by decide +kernel)) (by decide +kernel) ⟨Nat.le_of_ble_eq_true rfl, Nat.le_of_ble_eq_true rfl⟩, hts (.static yX11_isColumn) (by decide +kernel), trivial⟩ ⟨pw_fb, fun U hU hW => ⟨rfl, pw_to hU hW (hP.sub (ws' := []) [] rfl) (hK.sub (tys' := []) [] rfl) hN⟩⟩ rfl rfl hl.1 rfl (lv_room (Nat.le_of_ble_eq_true rfl)) dX9_at_1 ⟨Nat.le_of_ble_eq_true rfl, Nat.le_of_ble_eq_true rfl⟩).run (fun r hw => ?_)
  rcases Bool.eq_false_or_eq_true (bw p0 0 7) with b_1 | b_1
  ·
    obtain rfl : r = 1 := b_t hw b_1
    refine lv_if_eq (tgt := 23) hx hb dX9_at_4 (by decide) (fun c_2 => absurd c_2 (by decide)) (fun c_2 => ?_)
    refine lv_iload_n hx hb dX9_at_7 rfl (lv_at hl 2 rfl) ?_
    refine lv_iconst (v := 0) hx hb dX9_at_8 (by decide) ?_
    refine lv_aload_n hx hb dX9_at_9 rfl (lv_at hl 0 rfl) ?_
    obtain ⟨la_3, ca_4, m_5, dd_6, ii_7, hs_8, ht_9, ht_10⟩ := x_sh hI ha0
    obtain ⟨kk_11, hk_12⟩ := pl_at ha0.1 hs_8
    refine va_get (D := (dC, dI)) (ci := 8) (v := .ref la_3) (C := RX9) (T := TX9) (N := 5) hx hb hts (by decide +kernel) hown hK hP kk_11 hk_12 rfl 0 (by decide) (hts (.fieldLink RX9 9 "PageOne$Sheet" "lines" "[I") (by decide +kernel)) (fun _ h9 => h9) rfl dX9_at_10 ?_
    refine lv_iload_n hx hb dX9_at_13 rfl (lv_at hl 1 rfl) ?_
    obtain ⟨g_13, hs_14, hg_15⟩ := x_ln hI ht_9
    obtain ⟨kk_16, hk_17⟩ := pl_at ht_9.1 hs_14
    refine va_iald hx hb hK hP kk_16 0 hk_17 rfl (vin b_1 (by decide)) dX9_at_14 ?_
    refine lv_iconst (v := 1) hx hb dX9_at_15 (by decide) ?_
    refine lv_isub hx hb dX9_at_16 ?_
    refine vp_callSi (va_runSN (As := [.int p1, .int 0, .int ((g_13 (p0 : Int32).toNatClampNeg) - 1)]) (rest := []) ⟨hx, hb, hml, hown, hts⟩ (x_isWithin l dC dI p1 0 ((g_13 (p0 : Int32).toNatClampNeg) - 1)) ⟨va_cnB (host := "PageOne") 3 hts gX9_at_X11_isWithin_n38 rfl rfl rfl hN.n_RX9_38 (hts (.initialized RX11) (by decide +kernel)) (by decide +kernel) ⟨Nat.le_of_ble_eq_true rfl, Nat.le_of_ble_eq_true rfl⟩, hts (.static yX11_isWithin) (by decide +kernel), trivial⟩ ⟨pw_fb, fun U hU hW => ⟨rfl, pw_to hU hW (hP.sub (ws' := []) [] rfl) (hK.sub (tys' := []) [] rfl) hN⟩⟩ rfl rfl hl.1 rfl (lv_room (Nat.le_of_ble_eq_true rfl)) dX9_at_17 ⟨Nat.le_of_ble_eq_true rfl, Nat.le_of_ble_eq_true rfl⟩).run (fun r hw => ?_)
    rcases Bool.eq_false_or_eq_true (bw p1 0 ((g_13 (p0 : Int32).toNatClampNeg) - 1)) with b_18 | b_18
    ·
      obtain rfl : r = 1 := b_t hw b_18
      refine lv_if_ne (tgt := 25) hx hb dX9_at_20 (by decide) (fun c_19 => ?_) (fun c_19 => absurd c_19 (by decide))
      refine lv_aload_n hx hb dX9_at_25 rfl (lv_at hl 0 rfl) ?_
      obtain ⟨kk_20, hk_21⟩ := pl_at ha0.1 hs_8
      refine va_get (D := (dC, dI)) (ci := 8) (v := .ref ca_4) (C := RX9) (T := TX9) (N := 5) hx hb hts (by decide +kernel) hown hK hP kk_20 hk_21 rfl 1 (by decide) (hts (.fieldLink RX9 15 "PageOne$Sheet" "cells" "[I") (by decide +kernel)) (fun _ h9 => h9) rfl dX9_at_26 ?_
      refine lv_iload_n hx hb dX9_at_29 rfl (lv_at hl 1 rfl) ?_
      refine lv_bipush (v := 60) hx hb dX9_at_30 (by decide) ?_
      refine lv_imul hx hb dX9_at_32 ?_
      refine lv_iload_n hx hb dX9_at_33 rfl (lv_at hl 2 rfl) ?_
      refine lv_iadd hx hb dX9_at_34 ?_
      obtain ⟨g_22, hs_23⟩ := x_ce hI ht_10
      obtain ⟨kk_24, hk_25⟩ := pl_at ht_10.1 hs_23
      refine va_iald hx hb hK hP kk_24 0 hk_25 rfl (vin60 b_1 (hg_15 _ (vlt (vin b_1 (by decide)))) b_18) dX9_at_35 ?_
      exact W.iret (v := (g_22 (((p0 * 60) + p1) : Int32).toNatClampNeg)) hx hb hr (fun t ht hW => ⟨_, rfl, trivial, ht⟩) (fun q h => absurd h List.not_mem_nil) dX9_at_36
    ·
      obtain rfl : r = 0 := b_f hw b_18
      refine lv_if_ne (tgt := 25) hx hb dX9_at_20 (by decide) (fun c_26 => absurd (by decide) c_26) (fun c_26 => ?_)
      refine lv_iconst (v := (-1)) hx hb dX9_at_23 (by decide) ?_
      exact W.iret (v := (-1)) hx hb hr (fun t ht hW => ⟨_, rfl, trivial, ht⟩) (fun q h => absurd h List.not_mem_nil) dX9_at_24
  ·
    obtain rfl : r = 0 := b_f hw b_1
    refine lv_if_eq (tgt := 23) hx hb dX9_at_4 (by decide) (fun c_27 => ?_) (fun c_27 => absurd (by decide) c_27)
    refine lv_iconst (v := (-1)) hx hb dX9_at_23 (by decide) ?_
    exact W.iret (v := (-1)) hx hb hr (fun t ht hW => ⟨_, rfl, trivial, ht⟩) (fun q h => absurd h List.not_mem_nil) dX9_at_24
