theorem pl_nO {q d z f u} (h : rPl q d u z f) {p : Nat} (hp : p < 12) (h40 : u.2 40 p = 1) : nO d z (1000 + p) 7 ∧ nO d z (1020 + p) 8 ∧ nO d z (1040 + p) 9 := by
  obtain ⟨g, a1, a2⟩ := h
  rcases a2 p hp with ⟨b1, -⟩ | ⟨b1, b2, m1, m2, m3, -⟩
  · rw [h40] at b1; exact absurd b1 (by decide)
  · exact ⟨m1, m2, m3⟩
theorem fK_fresh {d : Nat → Nat} {z : gS} {f f1 : xF} {X : Nat → Prop} {a : Nat} {e : va_E} (h : fK d z f f1 X) (ha : a ∉ z.1) : fK d z f (va_up f1 a e) X := ⟨fun x t hn hX => by rw [up_o (fun e => ha (by rw [← e]; exact hn.1.1))]; exact h.1 x t hn hX, fun j hj hX => by rw [up_o (fun e => ha (by rw [← e]; exact hj.1.1))]; exact h.2 j hj hX⟩
/-- why plate refuses -/
def plNo (u : mS) (p : Int32) : Prop := ¬ bw p 0 11 = true ∨ (bw p 0 11 = true ∧ ∃ gl gc, eqR 8 gl (u.2 0) (8 * p.toNatClampNeg) ∧ eqR 480 gc (u.2 2) (480 * p.toNatClampNeg) ∧ (∀ j, j < 8 → bw (gl j) 0 60 = true) ∧ (shCC gl 8 = 0 ∨ 0 < shEC gl gc 8 ∨ ∃ x y t, brM u p x y t ∧ ¬ x = 0))
def plYe (u : mS) (p r : Int32) : Prop := bw p 0 11 = true ∧ ∃ gl gc, eqR 8 gl (u.2 0) (8 * p.toNatClampNeg) ∧ eqR 480 gc (u.2 2) (480 * p.toNatClampNeg) ∧ (∀ j, j < 8 → bw (gl j) 0 60 = true) ∧ r = shCC gl 8 ∧ ¬ r = 0 ∧ ¬ 0 < shEC gl gc 8 ∧ ∃ y t, brM u p 0 y t
/-- what plate leaves -/
def plP (q : Nat → ClassId) (h0 : Nat) (d : Nat → Nat) (k : Nat → Int32) (z : gS) (f : xF) (u : mS) (p r : Int32) (w : xU) : Prop := w.1 = k ∧ zE z w.2.1 ∧ w.2.2 (d 3) = f (d 3) ∧ ((plNo u p ∧ r = (-1) ∧ xI q h0 d k w.2.1 w.2.2 ∧ rep q d u w.2.1 w.2.2) ∨ (plYe u p r ∧ ∃ d2 : Nat → Nat, (∀ x, x < 1000 ∨ 1100 ≤ x → d2 x = d x) ∧ xI q h0 d2 k w.2.1 w.2.2 ∧ ∀ w9, plW u w9 p.toNatClampNeg → rep q d2 w9 w.2.1 w.2.2))
set_option maxHeartbeats 4000000 in
set_option maxRecDepth 100000 in
theorem y_plate (l : Launch) (dC : Nat → ClassId) (dI : Nat → Nat → Nat) (q : Nat → ClassId) (h0 : Nat) (d : Nat → Nat) (k : Nat → Int32) (z : gS) (f : xF) (hI : xI q h0 d k z f) (p0 : Int32) (u : mS) (hrp : rep q d u z f) (hk0 : k 0 = u.1 3) (hk1 : k 1 = u.1 28) (hk2 : k 2 = u.1 38) (hk3 : k 3 = u.1 39) (hkB : kB u) (hpcI : pcI u) (sz : Nat) : Met l yX11_plate wsX11_plate ({ frames := 6, cells := 7, slots := 505, locals := 133 }) (va_Pc [.ref h0, .int p0] (fun U => U.heap.size = sz ∧ PX dC dI (va_pl z.1 f) (xT q) U ∧ va_D (fun _ => True) (va_pl z.1 f))) (va_Qi (fun (r : Int32) (w : xU) => plP q h0 d k z f u p0 r w) (fun (w : xU) t => va_P (dC, dI) vwCl (va_pl w.2.1.1 w.2.2) t.heap ∧ va_D (va_A (va_pl z.1 f) sz) (va_pl w.2.1.1 w.2.2)) (va_A (va_pl z.1 f) sz)) 7 505 (va_A (va_pl z.1 f) sz) := by
  refine Met.ofW (cc := cX11_plate) (maxL := 4) (ret := (some .int)) (by decide) rfl ?_
  intro p e s m args below meth c s₁ B hml hv
  obtain ⟨rfl, hsz, ⟨⟨hP, hK, hN⟩, hXN⟩, hD0⟩ := hv
  have hx := B.exec
  have hb := B.bytes
  have hr := B.returns
  have hts := atoms_spec (ws := wsX11_plate) B.pre
  have hown : s.vm.findClass RX11 = some m.cls := findClass_of_methodNamed B.named
  have hlocks := B.notSynchronized
  subst hsz
  have hD := hD0.self (sz := s.heap.size)
  generalize hAe : va_A (va_pl z.1 f) s.heap.size = A at hD ⊢
  have hA : ∀ q : Nat, s.heap.size ≤ q → A q := fun q h => by rw [← hAe]; exact Or.inr h
  have hS : va_S A s.heap s.heap [] := va_S.rf
  have hl := lv_entry ([.ref h0, .int p0]) (n := 4) (Nat.le_of_ble_eq_true rfl)
  rw [lg_entry_eq]
  generalize (lg_sl ([.ref h0, .int p0]) ++ List.replicate (4 - (lg_sl ([.ref h0, .int p0])).length) Slot.unset).toArray = ls at hl ⊢
  have hl : lv_has ls 4 [(0, .ref h0), (1, .int p0)] := hl
  obtain ⟨P, eP⟩ : ∃ y, y = p0.toNatClampNeg := ⟨_, rfl⟩
  have hIo := hI
  have h3m : f (d 3) = f (d 3) := rfl
  refine lv_iload_n hx hb dX11_plate_0 rfl (lv_at hl 1 rfl) ?_
  refine vp_callSi (va_runS (As := [.int p0]) (rest := []) ⟨hx, hb, hml, hown, hts⟩ (x_isPage l dC dI p0) (va_cwS 1 hts gX11_plate_X11_isPage rfl rfl rfl (by decide +kernel) ⟨Nat.le_of_ble_eq_true rfl, Nat.le_of_ble_eq_true rfl⟩) ⟨pw_fb, fun U hU hW => ⟨rfl, pw_to hU hW (hP.sub (ws' := []) [] rfl) (hK.sub (tys' := []) [] rfl) hN⟩⟩ rfl rfl hl.1 rfl (lv_room (Nat.le_of_ble_eq_true rfl)) dX11_plate_1 ⟨Nat.le_of_ble_eq_true rfl, Nat.le_of_ble_eq_true rfl⟩).run (fun r hw => ?_)
  rcases Bool.eq_false_or_eq_true (bw p0 0 11) with b_1 | b_1
  ·
    obtain rfl : r = 1 := b_t hw b_1
    refine lv_if_ne (tgt := 9) hx hb dX11_plate_4 (by decide) (fun c_2 => ?_) (fun c_2 => absurd c_2 (by decide))
    refine lv_aload_n hx hb dX11_plate_9 rfl (lv_at hl 0 rfl) ?_
    obtain ⟨kk_3, hk_4⟩ := pl_at hI.2.1.1.1 hI.2.2.2.1.1
    refine va_get (D := (dC, dI)) (ci := 10) (v := .ref (d 0)) (C := RX11) (T := TX11) (N := 9) hx hb hts (by decide +kernel) hown hK hP kk_3 hk_4 rfl 0 (by decide) (hts (.fieldLink RX11 11 "PageOne" "pages" "[LPageOne$Sheet;") (by decide +kernel)) (fun _ h9 => h9) rfl dX11_plate_10 ?_
    refine lv_iload_n hx hb dX11_plate_13 rfl (lv_at hl 1 rfl) ?_
    obtain ⟨g_5, hs_6, hg_7⟩ := x_pg hI hI.2.1.2.1
    obtain ⟨kk_8, hk_9⟩ := pl_at hI.2.1.2.1.1 hs_6
    refine va_aldq hx hb hK hP kk_8 2 hk_9 rfl (vin b_1 (by decide)) dX11_plate_14 ?_
    obtain ⟨b_10, hg_11, ht_12⟩ := hg_7 _ (vlt (vin b_1 (by decide)))
    rw [hg_11]
    refine W.eq (g2 := F0 m 15 ls [.ref b_10]) rfl ?_
    have hb_13 := pg_at hrp.1 hs_6 (show P < 12 by rw [eP]; exact clp b_1) (by rw [← eP] at hg_11; exact hg_11)
    subst hb_13
    obtain ⟨dd_14, ii_15, gl_16, gc_17, ht_18, ht_19, ht_20, hs_21, hg_22, hgb_23, hc_24, el_25, ec_26⟩ := pg_all hI hrp.1 (show P < 12 by rw [eP]; exact clp b_1)
    refine lv_astore_n (lv' := [(2, .ref (d (10 + P))), (0, .ref h0), (1, .int p0)]) hx hb dX11_plate_15 rfl hl (by decide) rfl (fun ls hl => ?_)
    refine lv_aload_n hx hb dX11_plate_16 rfl (lv_at hl 0 rfl) ?_
    obtain ⟨kk_27, hk_28⟩ := pl_at ht_18.1 hs_21
    refine vp_callSi (va_runV (As := []) (rest := []) ⟨hx, hb, hml, hown, hts⟩ (y_cellCount l dC dI q h0 d k z f hI (d (10 + P)) (d (30 + P)) (d (50 + P)) (u.2 1 P) dd_14 ii_15 gl_16 gc_17 ht_18 hs_21 ht_19 ht_20 hg_22 hgb_23 hc_24) (cwV 0 hts gX11_plate_X9_cellCount rfl rfl rfl (by decide +kernel) ⟨Nat.le_of_ble_eq_true rfl, Nat.le_of_ble_eq_true rfl⟩) ⟨px_fb, va_recv hK hP (ci := 8) (q0 := kk_27) rfl hk_28, fun U hU hW => ⟨rfl, px_to hU hW hP hK hN hXN⟩⟩ rfl rfl hl.1 rfl (lv_room (Nat.le_of_ble_eq_true rfl)) dX11_plate_17 ⟨Nat.le_of_ble_eq_true rfl, Nat.le_of_ble_eq_true rfl⟩).run (fun r hw => ?_)
    generalize r = zr_29 at hw ⊢
    have hzr_29 := hw
    refine lv_istore_n (lv' := [(3, .int zr_29), (2, .ref (d (10 + P))), (0, .ref h0), (1, .int p0)]) hx hb dX11_plate_20 rfl hl (by decide) rfl (fun ls hl => ?_)
    refine lv_iload_n hx hb dX11_plate_21 rfl (lv_at hl 0 rfl) ?_
    refine lv_if_eq (tgt := 43) hx hb dX11_plate_22 (by decide) (fun c_30 => ?_) (fun c_30 => ?_)
    ·
      refine lv_iconst (v := (-1)) hx hb dX11_plate_43 (by decide) ?_
      refine W.widen (k := 7) (n := 505) (Nat.le_of_ble_eq_true rfl) (Nat.le_of_ble_eq_true rfl) ?_
      exact W.iret (v := (-1)) hx hb hr (fun t ht hW => ⟨⟨(-1), (k, z, f), rfl, ⟨rfl, zE_rf z, rfl, Or.inl ⟨Or.inr ⟨b_1, gl_16, gc_17, (by rw [← eP]; exact el_25), (by rw [← eP]; exact ec_26), hgb_23, Or.inl (hzr_29.symm.trans c_30)⟩, rfl, hI, hrp⟩⟩, by rw [ht]; exact hP, hD⟩, hS.F ht⟩) hS.2.2 dX11_plate_44
    ·
      refine lv_aload_n hx hb dX11_plate_25 rfl (lv_at hl 1 rfl) ?_
      obtain ⟨kk_31, hk_32⟩ := pl_at ht_18.1 hs_21
      refine vp_callSi (va_runV (As := []) (rest := []) ⟨hx, hb, hml, hown, hts⟩ (y_emptyCount l dC dI q h0 d k z f hI (d (10 + P)) (d (30 + P)) (d (50 + P)) (u.2 1 P) dd_14 ii_15 gl_16 gc_17 ht_18 hs_21 ht_19 ht_20 hg_22 hgb_23 hc_24) (cwV 0 hts gX11_plate_X9_emptyCount rfl rfl rfl (by decide +kernel) ⟨Nat.le_of_ble_eq_true rfl, Nat.le_of_ble_eq_true rfl⟩) ⟨px_fb, va_recv hK hP (ci := 8) (q0 := kk_31) rfl hk_32, fun U hU hW => ⟨rfl, px_to hU hW hP hK hN hXN⟩⟩ rfl rfl hl.1 rfl (lv_room (Nat.le_of_ble_eq_true rfl)) dX11_plate_26 ⟨Nat.le_of_ble_eq_true rfl, Nat.le_of_ble_eq_true rfl⟩).run (fun r hw => ?_)
      generalize r = zr_33 at hw ⊢
      have hzr_33 := hw
      refine lv_if_gt (tgt := 43) hx hb dX11_plate_29 (by decide) (fun c_34 => ?_) (fun c_34 => ?_)
      ·
        refine lv_iconst (v := (-1)) hx hb dX11_plate_43 (by decide) ?_
        refine W.widen (k := 7) (n := 505) (Nat.le_of_ble_eq_true rfl) (Nat.le_of_ble_eq_true rfl) ?_
        exact W.iret (v := (-1)) hx hb hr (fun t ht hW => ⟨⟨(-1), (k, z, f), rfl, ⟨rfl, zE_rf z, rfl, Or.inl ⟨Or.inr ⟨b_1, gl_16, gc_17, (by rw [← eP]; exact el_25), (by rw [← eP]; exact ec_26), hgb_23, Or.inr (Or.inl (by rw [← hzr_33]; exact c_34))⟩, rfl, hI, hrp⟩⟩, by rw [ht]; exact hP, hD⟩, hS.F ht⟩) hS.2.2 dX11_plate_44
      ·
        refine lv_aload_n hx hb dX11_plate_32 rfl (lv_at hl 2 rfl) ?_
        refine lv_iload_n hx hb dX11_plate_33 rfl (lv_at hl 3 rfl) ?_
        obtain ⟨kk_35, hk_36⟩ := pl_at hI.2.1.1.1 hI.2.2.2.1.1
        have hFc := fr_all hD hS hA
        refine va_callq (va_runV (As := [.int p0]) (rest := []) ⟨hx, hb, hml, hown, hts⟩ (y_breachOn l dC dI q h0 d k z f hI p0 u hrp hk0 hk1 hk2 hk3 hkB hpcI s.heap.size) (cwV 1 hts gX11_plate_X11_breachOn rfl rfl rfl (by decide +kernel) ⟨Nat.le_of_ble_eq_true rfl, Nat.le_of_ble_eq_true rfl⟩) ⟨gx_fb, va_recv hK hP (ci := 10) (q0 := kk_35) rfl hk_36, fun U hU hW => ⟨rfl, by rw [hU], px_to hU hW hP hK hN hXN, hD.weaken (fun _ _ _ _ => trivial)⟩⟩ rfl rfl hl.1 rfl (lv_room (Nat.le_of_ble_eq_true rfl)) dX11_plate_34 ⟨Nat.le_of_ble_eq_true rfl, Nat.le_of_ble_eq_true rfl⟩) hS (fun q _ h => hFc q h) hFc (fun r w_37 t H1 locs ht hvm hw hB hz1 hk1 hS => ?_)
        obtain ⟨hP, hD1⟩ := hB
        rw [ht] at hP
        have hD := hD1.weaken (fun _ q _ h => hFc q.1 h)
        generalize H1 = H at hP hS ⊢
        refine W.widen (k := 4) (n := 12) (Nat.le_of_ble_eq_true rfl) (Nat.le_of_ble_eq_true rfl) ?_
        obtain ⟨b_38, bx_39, bx_40, bx_41, hr9, -, hw2, hw3, hwr, hw9, hv_42, hv_43, hbM⟩ := hw
        subst hr9
        obtain ⟨k_48, z_46, f_47⟩ := w_37
        have hP : va_P (dC, dI) vwCl (va_pl z_46.1 f_47) H := hP
        have hD : va_D A (va_pl z_46.1 f_47) := hD
        have hE_49 : zE z z_46 := hw2
        have hI : xI q h0 d k z_46 f_47 := hw3
        have ht_18 := zE_tg hE_49 ht_18
        have ht_19 := zE_tg hE_49 ht_19
        have ht_20 := zE_tg hE_49 ht_20
        have hEz : zE z z_46 := zE_tr (zE_rf z) hE_49
        have ht_45 : tg z_46 b_38 24 := hv_42
        have hbc_44 : f_47 b_38 = .inr (1, [.int bx_39, .int bx_40, .int bx_41]) := hv_43
        have hrpx : rep q d u z_46 f_47 := hwr
        have h3m : f_47 (d 3) = f (d 3) := hw9
        refine W.eq (g2 := F0 m 37 ls [.ref b_38]) rfl ?_
        obtain ⟨kk_50, hk_51⟩ := pl_at ht_45.1 hbc_44
        refine va_get (D := (dC, dI)) (ci := 1) (v := .int bx_39) (C := RX1) (T := TX1) (N := 3) hx hb hts (by decide +kernel) hown hK hP kk_50 hk_51 rfl 0 (by decide) (hts (.fieldLink RX11 201 "PageOne$Breach" "kind" "I") (by decide +kernel)) (fun _ h9 => h9) rfl dX11_plate_37 ?_
        refine lv_if_eq (tgt := 45) hx hb dX11_plate_40 (by decide) (fun c_52 => ?_) (fun c_52 => ?_)
        ·
          have hP9 : P < 12 := by rw [eP]; exact clp b_1
          refine lv_aload_n hx hb dX11_plate_45 rfl (lv_at hl 2 rfl) ?_
          obtain ⟨kk_53, hk_54⟩ := pl_at hI.2.1.1.1 hI.2.2.2.1.1
          refine va_get (D := (dC, dI)) (ci := 10) (v := .ref (d 1)) (C := RX11) (T := TX11) (N := 9) hx hb hts (by decide +kernel) hown hK hP kk_53 hk_54 rfl 1 (by decide) (hts (.fieldLink RX11 15 "PageOne" "plates" "[LPageOne$Sheet;") (by decide +kernel)) (fun _ h9 => h9) rfl dX11_plate_46 ?_
          refine lv_iload_n hx hb dX11_plate_49 rfl (lv_at hl 3 rfl) ?_
          rcases rp_01 hrpx.2.1 P hP9 with h40 | h40
          ·
            obtain ⟨gn9, hgn, hnn⟩ := pl_none hrpx.2.1 hP9 h40
            obtain ⟨kk_55, hk_56⟩ := pl_at hI.2.1.2.2.1.1 hgn
            refine va_aldq hx hb hK hP kk_55 2 hk_56 rfl (vin b_1 (by decide)) dX11_plate_50 ?_
            rw [show gn9 (p0 : Int32).toNatClampNeg = none from by rw [← eP]; exact hnn]
            refine W.eq (g2 := F0 m 51 ls [.null]) rfl ?_
            have hoB : oK z_46 f_47 f_47 := fun _ _ => rfl
            have hEb : zE z_46 z_46 := zE_rf _
            have h3b := h3m
            refine lv_ifnonnullN hx hb dX11_plate_51 ?_
            refine lv_aload_n hx hb dX11_plate_54 rfl (lv_at hl 2 rfl) ?_
            obtain ⟨kk_57, hk_58⟩ := pl_at hI.2.1.1.1 hI.2.2.2.1.1
            refine va_get (D := (dC, dI)) (ci := 10) (v := .ref (d 1)) (C := RX11) (T := TX11) (N := 9) hx hb hts (by decide +kernel) hown hK hP kk_57 hk_58 rfl 1 (by decide) (hts (.fieldLink RX11 15 "PageOne" "plates" "[LPageOne$Sheet;") (by decide +kernel)) (fun _ h9 => h9) rfl dX11_plate_55 ?_
            refine lv_iload_n hx hb dX11_plate_58 rfl (lv_at hl 3 rfl) ?_
            refine va_new (ci := 8) (fs := [.null, .null, .int 0, .int 0, .int 0]) (C := RX9) (T := TX9) (N := 5) hx hb hts (by decide +kernel) tyX9 tyX9_ok hown (hts (.classLink RX11 9 RX9) (by decide +kernel)) (hts (.instantiable RX9 5) (by decide +kernel)) (hts (.initialized RX9) (by decide +kernel)) hK hP hD hS hA rfl nwX9 (Nat.le_of_ble_eq_true rfl) (Nat.le_of_ble_eq_true rfl) dX11_plate_59 (fun q_59 H hPn hDn hS => ?_)
            have hP := vaP_l hPn
            refine W.widen (k := 5) (n := 17) (Nat.le_of_ble_eq_true rfl) (Nat.le_of_ble_eq_true rfl) ?_
            refine lv_dup hx hb dX11_plate_62 rfl ?_
            have hPc := vaP_r hPn
            have hDc := vaD_r hDn
            have hFc := fr_part hDn hS hA
            refine va_callv (va_runI (As := []) (rest := [.ref q_59, .int p0, .ref (d 1)]) ⟨hx, hb, hml, hown, hts⟩ (xn_Sheet l dC dI q_59 (q 0) H.size) (cwI 0 hts gX11_plate_X9_init rfl rfl rfl (hts (.initialized RX9) (by decide +kernel)) (hts (.methodLink RX11 47 yX9_init) (by decide +kernel)) (hts (.instanceMethod yX9_init) (by decide +kernel)) rfl (by decide +kernel) ⟨Nat.le_of_ble_eq_true rfl, Nat.le_of_ble_eq_true rfl⟩) ⟨gw_fb, fun U hU hW => ⟨rfl, by rw [hU], pw_to hU hW hPc (hK.sub (tys' := [(q 0, .int)]) [0] rfl) hN, hDc.weaken (fun _ _ _ _ => trivial)⟩⟩ rfl rfl hl.1 rfl (lv_room (Nat.le_of_ble_eq_true rfl)) dX11_plate_63 ⟨Nat.le_of_ble_eq_true rfl, Nat.le_of_ble_eq_true rfl⟩) hS (fun q _ h => hFc q h) hFc (fun u9 t H1 locs ht hvm hw hB hz1 hk1 hS => ?_)
            obtain ⟨qa_60, qa_61, hP1, hD1⟩ := hB
            rw [ht] at hP1
            obtain ⟨hP, hD⟩ := va_joinQ (X := [(q_59, .inr (8, [.null, .null, .int 0, .int 0, .int 0]))]) (cx := [(q_59, .inr (8, [.null, .null, .int 0, .int 0, .int 0]))]) (wr := []) (w1 := [(qa_60, aI (q 0) 8 (fun _ => 0)), (qa_61, aI (q 0) 480 (fun _ => (-2))), (q_59, .inr (8, [.ref qa_60, .ref qa_61, .int 100, .int (-1), .int (-1)]))]) (pl := va_pl z_46.1 f_47) (vaP_swap hPn) (vaD_rotR hDn) [0] [] rfl rfl rfl (fun i hi => absurd hi List.not_mem_nil) hk1 hFc hP1 hD1
            generalize H1 = H at hP hS ⊢
            obtain ⟨hnm_62, hP, hD⟩ := pushC hP hD
            obtain ⟨z_63, ez_63⟩ : ∃ y : gS, y = pz z_46 qa_60 (8, 1020 + P, []) := ⟨_, rfl⟩
            obtain ⟨f_64, ef_64⟩ : ∃ y : xF, y = va_up f_47 qa_60 (aI (q 0) 8 (fun _ => 0)) := ⟨_, rfl⟩
            have hE_65 : zE z_46 z_63 := by rw [ez_63]; exact pz_E hnm_62 _
            have hI : xI q h0 d k z_63 f_64 := by rw [ez_63, ef_64]; exact x_push hI hnm_62 (Or.inl (by decide : (8 : Nat) < 10)) (cO_8 (by rw [pz_s]) ⟨_, rfl, fun _ _ => b00⟩)
            rw [show z_46.1 ++ [qa_60] = z_63.1 from by rw [ez_63]; rfl, ← ef_64] at hP hD
            have ht_18 := zE_tg hE_65 ht_18
            have ht_19 := zE_tg hE_65 ht_19
            have ht_20 := zE_tg hE_65 ht_20
            have ht_45 := zE_tg hE_65 ht_45
            have ht_66 : tg z_63 qa_60 8 := by rw [ez_63]; exact pz_t _ _ _
            have hEz : zE z z_63 := zE_tr hEz hE_65
            have hc_67 : nC z_63 f_64 qa_60 8 (1020 + P) (aI (q 0) 8 (fun _ => 0)) := by rw [ez_63, ef_64]; exact nC_new
            have hfr8 : qa_60 ∉ z_46.1 := fun h9 => hnm_62 (hEb _ h9).1
            have hoB : oK z_46 f_47 f_64 := by rw [ef_64]; exact oK_push hoB hEb hnm_62
            have hEb : zE z_46 z_63 := zE_tr hEb hE_65
            have h3m : f_64 (d 3) = f (d 3) := (hoB _ hrpx.2.2.2.2.2.2.2.1.1.1).trans h3b
            obtain ⟨hnm_68, hP, hD⟩ := pushC hP hD
            obtain ⟨z_69, ez_69⟩ : ∃ y : gS, y = pz z_63 qa_61 (9, 1040 + P, []) := ⟨_, rfl⟩
            obtain ⟨f_70, ef_70⟩ : ∃ y : xF, y = va_up f_64 qa_61 (aI (q 0) 480 (fun _ => (-2))) := ⟨_, rfl⟩
            have hE_71 : zE z_63 z_69 := by rw [ez_69]; exact pz_E hnm_68 _
            have hI : xI q h0 d k z_69 f_70 := by rw [ez_69, ef_70]; exact x_push hI hnm_68 (Or.inl (by decide : (9 : Nat) < 10)) (cO_9 (by rw [pz_s]) ⟨_, rfl⟩)
            rw [show z_63.1 ++ [qa_61] = z_69.1 from by rw [ez_69]; rfl, ← ef_70] at hP hD
            have ht_18 := zE_tg hE_71 ht_18
            have ht_19 := zE_tg hE_71 ht_19
            have ht_20 := zE_tg hE_71 ht_20
            have ht_45 := zE_tg hE_71 ht_45
            have ht_66 := zE_tg hE_71 ht_66
            have ht_72 : tg z_69 qa_61 9 := by rw [ez_69]; exact pz_t _ _ _
            have hEz : zE z z_69 := zE_tr hEz hE_71
            have hc_67 : nC z_69 f_70 qa_60 8 (1020 + P) (aI (q 0) 8 (fun _ => 0)) := by rw [ez_69, ef_70]; exact nC_push hc_67 hnm_68
            have hc_73 : nC z_69 f_70 qa_61 9 (1040 + P) (aI (q 0) 480 (fun _ => (-2))) := by rw [ez_69, ef_70]; exact nC_new
            have hfr9 : qa_61 ∉ z_46.1 := fun h9 => hnm_68 (hEb _ h9).1
            have hoB : oK z_46 f_47 f_70 := by rw [ef_70]; exact oK_push hoB hEb hnm_68
            have hEb : zE z_46 z_69 := zE_tr hEb hE_71
            have h3m : f_70 (d 3) = f (d 3) := (hoB _ hrpx.2.2.2.2.2.2.2.1.1.1).trans h3b
            obtain ⟨hnm_74, hP, hD⟩ := pushC hP hD
            obtain ⟨z_75, ez_75⟩ : ∃ y : gS, y = pz z_69 q_59 (7, 1000 + P, []) := ⟨_, rfl⟩
            obtain ⟨f_76, ef_76⟩ : ∃ y : xF, y = va_up f_70 q_59 (.inr (8, [.ref qa_60, .ref qa_61, .int 100, .int (-1), .int (-1)])) := ⟨_, rfl⟩
            have hE_77 : zE z_69 z_75 := by rw [ez_75]; exact pz_E hnm_74 _
            have hI : xI q h0 d k z_75 f_76 := by rw [ez_75, ef_76]; exact x_push hI hnm_74 (Or.inl (by decide : (7 : Nat) < 10)) (cO_7 (by rw [pz_s]) ⟨_, _, _, _, _, rfl, zE_tg (pz_E hnm_74 _) ht_66, zE_tg (pz_E hnm_74 _) ht_72⟩)
            rw [show z_69.1 ++ [q_59] = z_75.1 from by rw [ez_75]; rfl, ← ef_76] at hP hD
            have ht_18 := zE_tg hE_77 ht_18
            have ht_19 := zE_tg hE_77 ht_19
            have ht_20 := zE_tg hE_77 ht_20
            have ht_45 := zE_tg hE_77 ht_45
            have ht_66 := zE_tg hE_77 ht_66
            have ht_72 := zE_tg hE_77 ht_72
            have ht_78 : tg z_75 q_59 7 := by rw [ez_75]; exact pz_t _ _ _
            have hEz : zE z z_75 := zE_tr hEz hE_77
            have hc_67 : nC z_75 f_76 qa_60 8 (1020 + P) (aI (q 0) 8 (fun _ => 0)) := by rw [ez_75, ef_76]; exact nC_push hc_67 hnm_74
            have hc_73 : nC z_75 f_76 qa_61 9 (1040 + P) (aI (q 0) 480 (fun _ => (-2))) := by rw [ez_75, ef_76]; exact nC_push hc_73 hnm_74
            have hc_79 : nC z_75 f_76 q_59 7 (1000 + P) (.inr (8, [.ref qa_60, .ref qa_61, .int 100, .int (-1), .int (-1)])) := by rw [ez_75, ef_76]; exact nC_new
            have hfr7 : q_59 ∉ z_46.1 := fun h9 => hnm_74 (hEb _ h9).1
            have hoB : oK z_46 f_47 f_76 := by rw [ef_76]; exact oK_push hoB hEb hnm_74
            have hEb : zE z_46 z_75 := zE_tr hEb hE_77
            have h3m : f_76 (d 3) = f (d 3) := (hoB _ hrpx.2.2.2.2.2.2.2.1.1.1).trans h3b
            refine W.widen (k := 7) (n := 505) (Nat.le_of_ble_eq_true rfl) (Nat.le_of_ble_eq_true rfl) ?_
            refine W.eq (g2 := F0 m 66 ls [.ref q_59, .int p0, .ref (d 1)]) rfl ?_
            obtain ⟨g_80, hs_81, hg_82⟩ := x_pl hI hI.2.1.2.2.1
            have hP : va_P (dC, dI) vwCl (va_pl z_75.1 f_76) H := hP
            have hD : va_D A (va_pl z_75.1 f_76) := hD
            obtain ⟨kk_83, hk_84⟩ := pl_at hI.2.1.2.2.1.1 hs_81
            obtain ⟨la_85, ca_86, m_87, dd_88, ii_89, hs_90, ht_91, ht_92⟩ := x_sh hI ht_78
            obtain ⟨kk_93, hk_94⟩ := pl_at ht_78.1 hs_90
            have hD0 := hD
            refine va_astq hx hb hK hP hD hS kk_83 2 kk_93 8 hk_84 rfl hk_94 rfl (vin b_1 (by decide)) dX11_plate_66 (fun H locs hP hD hS => ?_)
            rw [pl_set hD0 hI.2.1.2.2.1.1 hs_81 hk_84] at hP hD
            obtain ⟨f_95, ef_95⟩ : ∃ y : xF, y = va_up f_76 (d 1) (aR (q 2) 12 (va_up g_80 (p0 : Int32).toNatClampNeg (some q_59))) := ⟨_, rfl⟩
            have hI : xI q h0 d k z_75 f_95 := by rw [ef_95]; exact x_up hI hI.2.1.2.2.1 (by decide) (cO_3 hI.2.1.2.2.1.2 ⟨_, rfl, ty_up hg_82 (ty_s ht_78)⟩)
            have hP : va_P (dC, dI) vwCl (va_pl z_75.1 f_95) H := by rw [ef_95]; exact hP
            have hD : va_D A (va_pl z_75.1 f_95) := by rw [ef_95]; exact hD
            have hp_96 : f_95 (d 1) = aR (q 2) 12 (va_up g_80 (p0 : Int32).toNatClampNeg (some q_59)) := by rw [ef_95]; exact up_s
            have hp_97 : (va_up g_80 (p0 : Int32).toNatClampNeg (some q_59)) (p0 : Int32).toNatClampNeg = some q_59 := if_pos rfl
            have eg9 : g_80 = gn9 := (aR_inj (hs_81.symm.trans ((hoB _ hrpx.2.2.2.2.2.1.1.1).trans hgn))).2
            have hc_67 : nC z_75 f_95 qa_60 8 (1020 + P) (aI (q 0) 8 (fun _ => 0)) := by rw [ef_95]; exact nC_up hc_67 hI.2.1.2.2.1 (by decide)
            have hc_73 : nC z_75 f_95 qa_61 9 (1040 + P) (aI (q 0) 480 (fun _ => (-2))) := by rw [ef_95]; exact nC_up hc_73 hI.2.1.2.2.1 (by decide)
            have hc_79 : nC z_75 f_95 q_59 7 (1000 + P) (.inr (8, [.ref qa_60, .ref qa_61, .int 100, .int (-1), .int (-1)])) := by rw [ef_95]; exact nC_up hc_79 hI.2.1.2.2.1 (by decide)
            have hfB : fK d z_46 f_47 f_95 (fun x => x = 1 ∨ x = 1000 + P ∨ x = 1020 + P ∨ x = 1040 + P) := by rw [ef_95]; exact fK_up (oK_fK hoB _) hrpx.2.2.2.2.2.1 (by decide) (Or.inl rfl)
            have hPgB : rPg q d u z_75 f_95 := rPg_fr hrpx.1 hEb (fun _ _ => rfl) hfB (fun x hx _ _ _ _ => by omega) hrpx.2.2.2.2.1 rfl rfl rfl
            have h3m : f_95 (d 3) = f (d 3) := by rw [ef_95, up_o (nO_ne hrpx.2.2.2.2.2.2.2.1 hrpx.2.2.2.2.2.1 (by decide))]; exact h3m
            obtain ⟨dd_98, ii_99, gl_100, gc_101, ht_102, ht_103, ht_104, hs_105, hg_106, hgb_107, hc_108, el_109, ec_110⟩ := pg_all hI (And.intro hPgB trivial).1 hP9
            refine lv_aload_n hx hb dX11_plate_67 rfl (lv_at hl 2 rfl) ?_
            obtain ⟨kk_111, hk_112⟩ := pl_at hI.2.1.1.1 hI.2.2.2.1.1
            refine va_get (D := (dC, dI)) (ci := 10) (v := .ref (d 1)) (C := RX11) (T := TX11) (N := 9) hx hb hts (by decide +kernel) hown hK hP kk_111 hk_112 rfl 1 (by decide) (hts (.fieldLink RX11 15 "PageOne" "plates" "[LPageOne$Sheet;") (by decide +kernel)) (fun _ h9 => h9) rfl dX11_plate_68 ?_
            refine lv_iload_n hx hb dX11_plate_71 rfl (lv_at hl 3 rfl) ?_
            obtain ⟨kk_113, hk_114⟩ := pl_at hI.2.1.2.2.1.1 hp_96
            refine va_aldq hx hb hK hP kk_113 2 hk_114 rfl (vin b_1 (by decide)) dX11_plate_72 ?_
            rw [hp_97]
            refine W.eq (g2 := F0 m 73 ls [.ref q_59]) rfl ?_
            refine lv_aload_n hx hb dX11_plate_73 rfl (lv_at hl 1 rfl) ?_
            obtain ⟨kk_115, hk_116⟩ := pl_at hc_79.1.1 hc_79.2.2
            have hFc := fr_all hD hS hA
            refine va_callv (va_runV (As := [.ref (d (10 + P))]) (rest := []) ⟨hx, hb, hml, hown, hts⟩ (y_copyFrom l dC dI q h0 d k z_75 f_95 hI q_59 qa_60 qa_61 100 (-1) (-1) (fun _ => 0) (fun _ => (-2)) ht_78 hc_79.2.2 hc_67.1 hc_73.1 hc_67.2.2 (fun _ _ => b00) hc_73.2.2 (d (10 + P)) (d (30 + P)) (d (50 + P)) (u.2 1 P) dd_98 ii_99 gl_100 gc_101 ht_102 hs_105 ht_103 ht_104 hg_106 hgb_107 hc_108 H.size) (cwV 1 hts gX11_plate_X9_copyFrom rfl rfl rfl (by decide +kernel) ⟨Nat.le_of_ble_eq_true rfl, Nat.le_of_ble_eq_true rfl⟩) ⟨gx_fb, va_recv hK hP (ci := 8) (q0 := kk_115) rfl hk_116, fun U hU hW => ⟨rfl, by rw [hU], px_to hU hW hP hK hN hXN, hD.weaken (fun _ _ _ _ => trivial)⟩⟩ rfl rfl hl.1 rfl (lv_room (Nat.le_of_ble_eq_true rfl)) dX11_plate_74 ⟨Nat.le_of_ble_eq_true rfl, Nat.le_of_ble_eq_true rfl⟩) hS (fun q _ h => hFc q h) hFc (fun w_117 t H1 locs ht hvm hw hB hz1 hk1 hS => ?_)
            obtain ⟨hP, hD1⟩ := hB
            rw [ht] at hP
            rw [hw.2.1] at hP hD1
            have hD := hD1.weaken (fun _ q _ h => hFc q.1 h)
            have hI := hw.2.2.1
            have hw0 := hw
            generalize w_117.2.2 = f_118 at hP hD hI hw0
            generalize H1 = H at hP hS ⊢
            have hcf := hw0.2.2.2
            have hp_119 : f_118 (d 1) = aR (q 2) 12 (va_up g_80 (p0 : Int32).toNatClampNeg (some q_59)) := by rw [hcf]; unfold s_copy_f; rw [up_o (tg_ne hI.2.1.2.2.1 hc_73.1 (by decide)), up_o (tg_ne hI.2.1.2.2.1 hc_67.1 (by decide))]; exact hp_96
            have hs_120 : f_118 q_59 = .inr (8, [.ref qa_60, .ref qa_61, .int 100, .int (-1), .int (-1)]) := by rw [hcf]; unfold s_copy_f; rw [up_o (tg_ne ht_78 hc_73.1 (by decide)), up_o (tg_ne ht_78 hc_67.1 (by decide))]; exact hc_79.2.2
            have h3m : f_118 (d 3) = f (d 3) := by rw [hcf]; unfold s_copy_f; rw [up_o (tg_ne hI.2.1.2.2.2.2.1 hc_73.1 (by decide)), up_o (tg_ne hI.2.1.2.2.2.2.1 hc_67.1 (by decide))]; exact h3m
            refine lv_aload_n hx hb dX11_plate_77 rfl (lv_at hl 2 rfl) ?_
            obtain ⟨kk_121, hk_122⟩ := pl_at hI.2.1.1.1 hI.2.2.2.1.1
            refine va_get (D := (dC, dI)) (ci := 10) (v := .ref (d 1)) (C := RX11) (T := TX11) (N := 9) hx hb hts (by decide +kernel) hown hK hP kk_121 hk_122 rfl 1 (by decide) (hts (.fieldLink RX11 15 "PageOne" "plates" "[LPageOne$Sheet;") (by decide +kernel)) (fun _ h9 => h9) rfl dX11_plate_78 ?_
            refine lv_iload_n hx hb dX11_plate_81 rfl (lv_at hl 3 rfl) ?_
            obtain ⟨kk_123, hk_124⟩ := pl_at hI.2.1.2.2.1.1 hp_119
            refine va_aldq hx hb hK hP kk_123 2 hk_124 rfl (vin b_1 (by decide)) dX11_plate_82 ?_
            rw [hp_97]
            refine W.eq (g2 := F0 m 83 ls [.ref q_59]) rfl ?_
            refine lv_aload_n hx hb dX11_plate_83 rfl (lv_at hl 2 rfl) ?_
            obtain ⟨kk_125, hk_126⟩ := pl_at hI.2.1.1.1 hI.2.2.2.1.1
            refine va_get (D := (dC, dI)) (ci := 10) (v := .int (k 2)) (C := RX11) (T := TX11) (N := 9) hx hb hts (by decide +kernel) hown hK hP kk_125 hk_126 rfl 7 (by decide) (hts (.fieldLink RX11 41 "PageOne" "today" "I") (by decide +kernel)) (fun _ h9 => h9) rfl dX11_plate_84 ?_
            refine lv_topi (fun x_127 ex_127 => ?_)
            obtain ⟨kk_128, hk_129⟩ := pl_at hc_79.1.1 hs_120
            have hD0 := hD
            refine va_put (D := (dC, dI)) (ci := 8) (v := .int x_127) (ty := .int) (C := RX9) (T := TX9) (N := 5) hx hb hts (by decide +kernel) tyX9 tyX9_ok nmX9 hown hK hP hD hS kk_128 hk_129 rfl 3 (by decide) (hts (.fieldLink RX11 210 "PageOne$Sheet" "day" "I") (by decide +kernel)) (fun _ h9 => h9) rfl (by decide +kernel) rfl rfl (Nat.le_of_ble_eq_true rfl) dX11_plate_87 (fun H locs hP hD hS => ?_)
            rw [pl_set hD0 hc_79.1.1 hs_120 hk_129] at hP hD
            obtain ⟨f_130, ef_130⟩ : ∃ y : xF, y = va_up f_118 q_59 (.inr (8, [.ref qa_60, .ref qa_61, .int 100, .int x_127, .int (-1)])) := ⟨_, rfl⟩
            have hI : xI q h0 d k z_75 f_130 := by rw [ef_130]; exact x_up hI ht_78 (by decide) (cO_7 ht_78.2 ⟨_, _, _, _, _, rfl, hc_67.1, hc_73.1⟩)
            have hP : va_P (dC, dI) vwCl (va_pl z_75.1 f_130) H := by rw [ef_130]; exact hP
            have hD : va_D A (va_pl z_75.1 f_130) := by rw [ef_130]; exact hD
            have hp_131 : f_130 (d 1) = aR (q 2) 12 (va_up g_80 (p0 : Int32).toNatClampNeg (some q_59)) := by rw [ef_130, up_o (tg_ne hI.2.1.2.2.1 ht_78 (by decide))]; exact hp_119
            have hs_132 : f_130 q_59 = .inr (8, [.ref qa_60, .ref qa_61, .int 100, .int x_127, .int (-1)]) := by rw [ef_130]; exact up_s
            have h3m : f_130 (d 3) = f (d 3) := by rw [ef_130, up_o (tg_ne hI.2.1.2.2.2.2.1 ht_78 (by decide))]; exact h3m
            refine lv_aload_n hx hb dX11_plate_90 rfl (lv_at hl 2 rfl) ?_
            obtain ⟨kk_133, hk_134⟩ := pl_at hI.2.1.1.1 hI.2.2.2.1.1
            refine va_get (D := (dC, dI)) (ci := 10) (v := .ref (d 1)) (C := RX11) (T := TX11) (N := 9) hx hb hts (by decide +kernel) hown hK hP kk_133 hk_134 rfl 1 (by decide) (hts (.fieldLink RX11 15 "PageOne" "plates" "[LPageOne$Sheet;") (by decide +kernel)) (fun _ h9 => h9) rfl dX11_plate_91 ?_
            refine lv_iload_n hx hb dX11_plate_94 rfl (lv_at hl 3 rfl) ?_
            obtain ⟨kk_135, hk_136⟩ := pl_at hI.2.1.2.2.1.1 hp_131
            refine va_aldq hx hb hK hP kk_135 2 hk_136 rfl (vin b_1 (by decide)) dX11_plate_95 ?_
            rw [hp_97]
            refine W.eq (g2 := F0 m 96 ls [.ref q_59]) rfl ?_
            refine lv_aload_n hx hb dX11_plate_96 rfl (lv_at hl 2 rfl) ?_
            obtain ⟨kk_137, hk_138⟩ := pl_at hI.2.1.1.1 hI.2.2.2.1.1
            refine va_get (D := (dC, dI)) (ci := 10) (v := .int (k 3)) (C := RX11) (T := TX11) (N := 9) hx hb hts (by decide +kernel) hown hK hP kk_137 hk_138 rfl 8 (by decide) (hts (.fieldLink RX11 44 "PageOne" "editionNow" "I") (by decide +kernel)) (fun _ h9 => h9) rfl dX11_plate_97 ?_
            refine lv_topi (fun x_139 ex_139 => ?_)
            obtain ⟨kk_140, hk_141⟩ := pl_at hc_79.1.1 hs_132
            have hD0 := hD
            refine va_put (D := (dC, dI)) (ci := 8) (v := .int x_139) (ty := .int) (C := RX9) (T := TX9) (N := 5) hx hb hts (by decide +kernel) tyX9 tyX9_ok nmX9 hown hK hP hD hS kk_140 hk_141 rfl 4 (by decide) (hts (.fieldLink RX11 213 "PageOne$Sheet" "edition" "I") (by decide +kernel)) (fun _ h9 => h9) rfl (by decide +kernel) rfl rfl (Nat.le_of_ble_eq_true rfl) dX11_plate_100 (fun H locs hP hD hS => ?_)
            rw [pl_set hD0 hc_79.1.1 hs_132 hk_141] at hP hD
            obtain ⟨f_142, ef_142⟩ : ∃ y : xF, y = va_up f_130 q_59 (.inr (8, [.ref qa_60, .ref qa_61, .int 100, .int x_127, .int x_139])) := ⟨_, rfl⟩
            have hI : xI q h0 d k z_75 f_142 := by rw [ef_142]; exact x_up hI ht_78 (by decide) (cO_7 ht_78.2 ⟨_, _, _, _, _, rfl, hc_67.1, hc_73.1⟩)
            have hP : va_P (dC, dI) vwCl (va_pl z_75.1 f_142) H := by rw [ef_142]; exact hP
            have hD : va_D A (va_pl z_75.1 f_142) := by rw [ef_142]; exact hD
            have hp_143 : f_142 (d 1) = aR (q 2) 12 (va_up g_80 (p0 : Int32).toNatClampNeg (some q_59)) := by rw [ef_142, up_o (tg_ne hI.2.1.2.2.1 ht_78 (by decide))]; exact hp_131
            have hs_144 : f_142 q_59 = .inr (8, [.ref qa_60, .ref qa_61, .int 100, .int x_127, .int x_139]) := by rw [ef_142]; exact up_s
            have h3m : f_142 (d 3) = f (d 3) := by rw [ef_142, up_o (tg_ne hI.2.1.2.2.2.2.1 ht_78 (by decide))]; exact h3m
            refine lv_iload_n hx hb dX11_plate_103 rfl (lv_at hl 0 rfl) ?_
            exact W.iret (v := zr_29) hx hb hr (fun t ht hW => ⟨⟨zr_29, (k, z_75, f_142), rfl, ⟨rfl, hEz, h3m, Or.inr ⟨⟨b_1, gl_16, gc_17, (by rw [← eP]; exact el_25), (by rw [← eP]; exact ec_26), hgb_23, hzr_29, c_30, (fun h9 => c_34 (by rw [hzr_33]; exact h9)), bx_40, bx_41, (by rw [c_52] at hbM; exact hbM)⟩, (dP d P q_59 qa_60 qa_61), fun x hx => dP_no (by omega) (by omega) (by omega), xI_d (fun x hx => dP_no (by omega) (by omega) (by omega)) hI, fun w9 hw9 => rep_plate (f2 := f_142) (d2 := (dP d P q_59 qa_60 qa_61)) hrpx hP9 hEb (fun x h1 h2 h3 => dP_no h1 h2 h3) (by rw [ef_142, ef_130, hcf]; unfold s_copy_f; exact fK_fresh (fK_fresh (fK_fresh (fK_fresh hfB hfr8) hfr9) hfr7) hfr7) hgn hp_143 (by rw [(dP_at (d := d) (P := P) (a7 := q_59) (a8 := qa_60) (a9 := qa_61)).1, eP]; exact if_pos rfl) (fun j hj hjP => (if_neg (by rw [← eP]; exact hjP)).trans (by rw [eg9])) ⟨by rw [(dP_at (d := d) (P := P) (a7 := q_59) (a8 := qa_60) (a9 := qa_61)).1]; exact hc_79.1, by rw [(dP_at (d := d) (P := P) (a7 := q_59) (a8 := qa_60) (a9 := qa_61)).1]; exact hc_79.2.1, by decide⟩ ⟨by rw [(dP_at (d := d) (P := P) (a7 := q_59) (a8 := qa_60) (a9 := qa_61)).2.1]; exact hc_67.1, by rw [(dP_at (d := d) (P := P) (a7 := q_59) (a8 := qa_60) (a9 := qa_61)).2.1]; exact hc_67.2.1, by decide⟩ ⟨by rw [(dP_at (d := d) (P := P) (a7 := q_59) (a8 := qa_60) (a9 := qa_61)).2.2]; exact hc_73.1, by rw [(dP_at (d := d) (P := P) (a7 := q_59) (a8 := qa_60) (a9 := qa_61)).2.2]; exact hc_73.2.1, by decide⟩ (by rw [(dP_at (d := d) (P := P) (a7 := q_59) (a8 := qa_60) (a9 := qa_61)).1, (dP_at (d := d) (P := P) (a7 := q_59) (a8 := qa_60) (a9 := qa_61)).2.1, (dP_at (d := d) (P := P) (a7 := q_59) (a8 := qa_60) (a9 := qa_61)).2.2, ← hk2, ← hk3, ← ex_127, ← ex_139]; exact hs_144) ⟨(va_cpy gl_100 (fun _ => 0) (0 : Int32).toNatClampNeg (0 : Int32).toNatClampNeg (8 : Int32).toNatClampNeg), by rw [(dP_at (d := d) (P := P) (a7 := q_59) (a8 := qa_60) (a9 := qa_61)).2.1]; exact (by rw [ef_142, up_o (tg_ne hc_67.1 ht_78 (by decide)), ef_130, up_o (tg_ne hc_67.1 ht_78 (by decide)), hcf]; unfold s_copy_f; rw [up_o (tg_ne hc_67.1 hc_73.1 (by decide)), up_s]), (fun t ht => (cpy8 t ht 8 rfl).trans (el_109 t ht))⟩ ⟨(va_cpy gc_101 (fun _ => (-2)) (0 : Int32).toNatClampNeg (0 : Int32).toNatClampNeg (480 : Int32).toNatClampNeg), by rw [(dP_at (d := d) (P := P) (a7 := q_59) (a8 := qa_60) (a9 := qa_61)).2.2]; exact (by rw [ef_142, up_o (tg_ne hc_73.1 ht_78 (by decide)), ef_130, up_o (tg_ne hc_73.1 ht_78 (by decide)), hcf]; unfold s_copy_f; rw [up_s]), (fun t ht => (cpy8 t ht 480 rfl).trans (ec_110 t ht))⟩ (by rw [eP]; exact hw9)⟩⟩, by rw [ht]; exact hP, hD⟩, hS.F ht⟩) hS.2.2 dX11_plate_104
          ·
            obtain ⟨dd_145, ii_146, gl_147, gc_148, ht_149, ht_150, ht_151, hs_152, hg_153, hgb_154, hc_155, el_156, ec_157⟩ := pg_all hI hrpx.1 hP9
            obtain ⟨m_158, gl_159, gc_160, gp_161, hp_162, hp_163, ht_164, ht_165, ht_166, hs_167, hg_168, hgb_169, hc_170, el_171, ec_172⟩ := pl_all hI hrpx.2.1 hP9 h40
            have hgp9 : gp_161 (p0 : Int32).toNatClampNeg = some (d (1000 + P)) := by rw [← eP]; exact hp_163
            obtain ⟨kk_173, hk_174⟩ := pl_at hI.2.1.2.2.1.1 hp_162
            refine va_aldq hx hb hK hP kk_173 2 hk_174 rfl (vin b_1 (by decide)) dX11_plate_50 ?_
            rw [hgp9]
            refine W.eq (g2 := F0 m 51 ls [.ref (d (1000 + P))]) rfl ?_
            refine lv_ifnonnull (tgt := 67) hx hb dX11_plate_51 (by decide) ?_
            refine lv_aload_n hx hb dX11_plate_67 rfl (lv_at hl 2 rfl) ?_
            obtain ⟨kk_175, hk_176⟩ := pl_at hI.2.1.1.1 hI.2.2.2.1.1
            refine va_get (D := (dC, dI)) (ci := 10) (v := .ref (d 1)) (C := RX11) (T := TX11) (N := 9) hx hb hts (by decide +kernel) hown hK hP kk_175 hk_176 rfl 1 (by decide) (hts (.fieldLink RX11 15 "PageOne" "plates" "[LPageOne$Sheet;") (by decide +kernel)) (fun _ h9 => h9) rfl dX11_plate_68 ?_
            refine lv_iload_n hx hb dX11_plate_71 rfl (lv_at hl 3 rfl) ?_
            obtain ⟨kk_177, hk_178⟩ := pl_at hI.2.1.2.2.1.1 hp_162
            refine va_aldq hx hb hK hP kk_177 2 hk_178 rfl (vin b_1 (by decide)) dX11_plate_72 ?_
            rw [hgp9]
            refine W.eq (g2 := F0 m 73 ls [.ref (d (1000 + P))]) rfl ?_
            refine lv_aload_n hx hb dX11_plate_73 rfl (lv_at hl 1 rfl) ?_
            obtain ⟨kk_179, hk_180⟩ := pl_at ht_164.1 hs_167
            have hFc := fr_all hD hS hA
            refine va_callv (va_runV (As := [.ref (d (10 + P))]) (rest := []) ⟨hx, hb, hml, hown, hts⟩ (y_copyFrom l dC dI q h0 d k z_46 f_47 hI (d (1000 + P)) (d (1020 + P)) (d (1040 + P)) m_158 (u.2 41 P) (u.2 42 P) gl_159 gc_160 ht_164 hs_167 ht_165 ht_166 hg_168 hgb_169 hc_170 (d (10 + P)) (d (30 + P)) (d (50 + P)) (u.2 1 P) dd_145 ii_146 gl_147 gc_148 ht_149 hs_152 ht_150 ht_151 hg_153 hgb_154 hc_155 H.size) (cwV 1 hts gX11_plate_X9_copyFrom rfl rfl rfl (by decide +kernel) ⟨Nat.le_of_ble_eq_true rfl, Nat.le_of_ble_eq_true rfl⟩) ⟨gx_fb, va_recv hK hP (ci := 8) (q0 := kk_179) rfl hk_180, fun U hU hW => ⟨rfl, by rw [hU], px_to hU hW hP hK hN hXN, hD.weaken (fun _ _ _ _ => trivial)⟩⟩ rfl rfl hl.1 rfl (lv_room (Nat.le_of_ble_eq_true rfl)) dX11_plate_74 ⟨Nat.le_of_ble_eq_true rfl, Nat.le_of_ble_eq_true rfl⟩) hS (fun q _ h => hFc q h) hFc (fun w_181 t H1 locs ht hvm hw hB hz1 hk1 hS => ?_)
            obtain ⟨hP, hD1⟩ := hB
            rw [ht] at hP
            rw [hw.2.1] at hP hD1
            have hD := hD1.weaken (fun _ q _ h => hFc q.1 h)
            have hI := hw.2.2.1
            have hw0 := hw
            generalize w_181.2.2 = f_182 at hP hD hI hw0
            generalize H1 = H at hP hS ⊢
            have hcf := hw0.2.2.2
            have hp_183 : f_182 (d 1) = aR (q 2) 12 gp_161 := by rw [hcf]; unfold s_copy_f; rw [up_o (tg_ne hI.2.1.2.2.1 ht_166 (by decide)), up_o (tg_ne hI.2.1.2.2.1 ht_165 (by decide))]; exact hp_162
            have hs_184 : f_182 (d (1000 + P)) = .inr (8, [.ref (d (1020 + P)), .ref (d (1040 + P)), .int m_158, .int (u.2 41 P), .int (u.2 42 P)]) := by rw [hcf]; unfold s_copy_f; rw [up_o (tg_ne ht_164 ht_166 (by decide)), up_o (tg_ne ht_164 ht_165 (by decide))]; exact hs_167
            have h3m : f_182 (d 3) = f (d 3) := by rw [hcf]; unfold s_copy_f; rw [up_o (tg_ne hI.2.1.2.2.2.2.1 ht_166 (by decide)), up_o (tg_ne hI.2.1.2.2.2.2.1 ht_165 (by decide))]; exact h3m
            refine lv_aload_n hx hb dX11_plate_77 rfl (lv_at hl 2 rfl) ?_
            obtain ⟨kk_185, hk_186⟩ := pl_at hI.2.1.1.1 hI.2.2.2.1.1
            refine va_get (D := (dC, dI)) (ci := 10) (v := .ref (d 1)) (C := RX11) (T := TX11) (N := 9) hx hb hts (by decide +kernel) hown hK hP kk_185 hk_186 rfl 1 (by decide) (hts (.fieldLink RX11 15 "PageOne" "plates" "[LPageOne$Sheet;") (by decide +kernel)) (fun _ h9 => h9) rfl dX11_plate_78 ?_
            refine lv_iload_n hx hb dX11_plate_81 rfl (lv_at hl 3 rfl) ?_
            obtain ⟨kk_187, hk_188⟩ := pl_at hI.2.1.2.2.1.1 hp_183
            refine va_aldq hx hb hK hP kk_187 2 hk_188 rfl (vin b_1 (by decide)) dX11_plate_82 ?_
            rw [hgp9]
            refine W.eq (g2 := F0 m 83 ls [.ref (d (1000 + P))]) rfl ?_
            refine lv_aload_n hx hb dX11_plate_83 rfl (lv_at hl 2 rfl) ?_
            obtain ⟨kk_189, hk_190⟩ := pl_at hI.2.1.1.1 hI.2.2.2.1.1
            refine va_get (D := (dC, dI)) (ci := 10) (v := .int (k 2)) (C := RX11) (T := TX11) (N := 9) hx hb hts (by decide +kernel) hown hK hP kk_189 hk_190 rfl 7 (by decide) (hts (.fieldLink RX11 41 "PageOne" "today" "I") (by decide +kernel)) (fun _ h9 => h9) rfl dX11_plate_84 ?_
            refine lv_topi (fun x_191 ex_191 => ?_)
            obtain ⟨kk_192, hk_193⟩ := pl_at ht_164.1 hs_184
            have hD0 := hD
            refine va_put (D := (dC, dI)) (ci := 8) (v := .int x_191) (ty := .int) (C := RX9) (T := TX9) (N := 5) hx hb hts (by decide +kernel) tyX9 tyX9_ok nmX9 hown hK hP hD hS kk_192 hk_193 rfl 3 (by decide) (hts (.fieldLink RX11 210 "PageOne$Sheet" "day" "I") (by decide +kernel)) (fun _ h9 => h9) rfl (by decide +kernel) rfl rfl (Nat.le_of_ble_eq_true rfl) dX11_plate_87 (fun H locs hP hD hS => ?_)
            rw [pl_set hD0 ht_164.1 hs_184 hk_193] at hP hD
            obtain ⟨f_194, ef_194⟩ : ∃ y : xF, y = va_up f_182 (d (1000 + P)) (.inr (8, [.ref (d (1020 + P)), .ref (d (1040 + P)), .int m_158, .int x_191, .int (u.2 42 P)])) := ⟨_, rfl⟩
            have hI : xI q h0 d k z_46 f_194 := by rw [ef_194]; exact x_up hI ht_164 (by decide) (cO_7 ht_164.2 ⟨_, _, _, _, _, rfl, ht_165, ht_166⟩)
            have hP : va_P (dC, dI) vwCl (va_pl z_46.1 f_194) H := by rw [ef_194]; exact hP
            have hD : va_D A (va_pl z_46.1 f_194) := by rw [ef_194]; exact hD
            have hp_195 : f_194 (d 1) = aR (q 2) 12 gp_161 := by rw [ef_194, up_o (tg_ne hI.2.1.2.2.1 ht_164 (by decide))]; exact hp_183
            have hs_196 : f_194 (d (1000 + P)) = .inr (8, [.ref (d (1020 + P)), .ref (d (1040 + P)), .int m_158, .int x_191, .int (u.2 42 P)]) := by rw [ef_194]; exact up_s
            have h3m : f_194 (d 3) = f (d 3) := by rw [ef_194, up_o (tg_ne hI.2.1.2.2.2.2.1 ht_164 (by decide))]; exact h3m
            refine lv_aload_n hx hb dX11_plate_90 rfl (lv_at hl 2 rfl) ?_
            obtain ⟨kk_197, hk_198⟩ := pl_at hI.2.1.1.1 hI.2.2.2.1.1
            refine va_get (D := (dC, dI)) (ci := 10) (v := .ref (d 1)) (C := RX11) (T := TX11) (N := 9) hx hb hts (by decide +kernel) hown hK hP kk_197 hk_198 rfl 1 (by decide) (hts (.fieldLink RX11 15 "PageOne" "plates" "[LPageOne$Sheet;") (by decide +kernel)) (fun _ h9 => h9) rfl dX11_plate_91 ?_
            refine lv_iload_n hx hb dX11_plate_94 rfl (lv_at hl 3 rfl) ?_
            obtain ⟨kk_199, hk_200⟩ := pl_at hI.2.1.2.2.1.1 hp_195
            refine va_aldq hx hb hK hP kk_199 2 hk_200 rfl (vin b_1 (by decide)) dX11_plate_95 ?_
            rw [hgp9]
            refine W.eq (g2 := F0 m 96 ls [.ref (d (1000 + P))]) rfl ?_
            refine lv_aload_n hx hb dX11_plate_96 rfl (lv_at hl 2 rfl) ?_
            obtain ⟨kk_201, hk_202⟩ := pl_at hI.2.1.1.1 hI.2.2.2.1.1
            refine va_get (D := (dC, dI)) (ci := 10) (v := .int (k 3)) (C := RX11) (T := TX11) (N := 9) hx hb hts (by decide +kernel) hown hK hP kk_201 hk_202 rfl 8 (by decide) (hts (.fieldLink RX11 44 "PageOne" "editionNow" "I") (by decide +kernel)) (fun _ h9 => h9) rfl dX11_plate_97 ?_
            refine lv_topi (fun x_203 ex_203 => ?_)
            obtain ⟨kk_204, hk_205⟩ := pl_at ht_164.1 hs_196
            have hD0 := hD
            refine va_put (D := (dC, dI)) (ci := 8) (v := .int x_203) (ty := .int) (C := RX9) (T := TX9) (N := 5) hx hb hts (by decide +kernel) tyX9 tyX9_ok nmX9 hown hK hP hD hS kk_204 hk_205 rfl 4 (by decide) (hts (.fieldLink RX11 213 "PageOne$Sheet" "edition" "I") (by decide +kernel)) (fun _ h9 => h9) rfl (by decide +kernel) rfl rfl (Nat.le_of_ble_eq_true rfl) dX11_plate_100 (fun H locs hP hD hS => ?_)
            rw [pl_set hD0 ht_164.1 hs_196 hk_205] at hP hD
            obtain ⟨f_206, ef_206⟩ : ∃ y : xF, y = va_up f_194 (d (1000 + P)) (.inr (8, [.ref (d (1020 + P)), .ref (d (1040 + P)), .int m_158, .int x_191, .int x_203])) := ⟨_, rfl⟩
            have hI : xI q h0 d k z_46 f_206 := by rw [ef_206]; exact x_up hI ht_164 (by decide) (cO_7 ht_164.2 ⟨_, _, _, _, _, rfl, ht_165, ht_166⟩)
            have hP : va_P (dC, dI) vwCl (va_pl z_46.1 f_206) H := by rw [ef_206]; exact hP
            have hD : va_D A (va_pl z_46.1 f_206) := by rw [ef_206]; exact hD
            have hp_207 : f_206 (d 1) = aR (q 2) 12 gp_161 := by rw [ef_206, up_o (tg_ne hI.2.1.2.2.1 ht_164 (by decide))]; exact hp_195
            have hs_208 : f_206 (d (1000 + P)) = .inr (8, [.ref (d (1020 + P)), .ref (d (1040 + P)), .int m_158, .int x_191, .int x_203]) := by rw [ef_206]; exact up_s
            have h3m : f_206 (d 3) = f (d 3) := by rw [ef_206, up_o (tg_ne hI.2.1.2.2.2.2.1 ht_164 (by decide))]; exact h3m
            refine lv_iload_n hx hb dX11_plate_103 rfl (lv_at hl 0 rfl) ?_
            refine W.widen (k := 7) (n := 505) (Nat.le_of_ble_eq_true rfl) (Nat.le_of_ble_eq_true rfl) ?_
            exact W.iret (v := zr_29) hx hb hr (fun t ht hW => ⟨⟨zr_29, (k, z_46, f_206), rfl, ⟨rfl, hEz, h3m, Or.inr ⟨⟨b_1, gl_16, gc_17, (by rw [← eP]; exact el_25), (by rw [← eP]; exact ec_26), hgb_23, hzr_29, c_30, (fun h9 => c_34 (by rw [hzr_33]; exact h9)), bx_40, bx_41, (by rw [c_52] at hbM; exact hbM)⟩, d, fun _ _ => rfl, hI, fun w9 hw9 => rep_plate (f2 := f_206) hrpx hP9 (zE_rf _) (fun _ _ _ _ => rfl) (by rw [ef_206, ef_194, hcf]; unfold s_copy_f; exact fK_up (fK_up (fK_up (fK_up (fK_rf d _ _ _) (pl_nO hrpx.2.1 hP9 h40).2.1 (by decide) (Or.inr (Or.inr (Or.inl rfl)))) (pl_nO hrpx.2.1 hP9 h40).2.2 (by decide) (Or.inr (Or.inr (Or.inr rfl)))) (pl_nO hrpx.2.1 hP9 h40).1 (by decide) (Or.inr (Or.inl rfl))) (pl_nO hrpx.2.1 hP9 h40).1 (by decide) (Or.inr (Or.inl rfl))) hp_162 hp_207 hp_163 (fun _ _ _ => rfl) (pl_nO hrpx.2.1 hP9 h40).1 (pl_nO hrpx.2.1 hP9 h40).2.1 (pl_nO hrpx.2.1 hP9 h40).2.2 (by rw [← hk2, ← hk3, ← ex_191, ← ex_203]; exact hs_208) ⟨(va_cpy gl_147 gl_159 (0 : Int32).toNatClampNeg (0 : Int32).toNatClampNeg (8 : Int32).toNatClampNeg), (by rw [ef_206, up_o (tg_ne ht_165 ht_164 (by decide)), ef_194, up_o (tg_ne ht_165 ht_164 (by decide)), hcf]; unfold s_copy_f; rw [up_o (tg_ne ht_165 ht_166 (by decide)), up_s]), (fun t ht => (cpy8 t ht 8 rfl).trans (el_156 t ht))⟩ ⟨(va_cpy gc_148 gc_160 (0 : Int32).toNatClampNeg (0 : Int32).toNatClampNeg (480 : Int32).toNatClampNeg), (by rw [ef_206, up_o (tg_ne ht_166 ht_164 (by decide)), ef_194, up_o (tg_ne ht_166 ht_164 (by decide)), hcf]; unfold s_copy_f; rw [up_s]), (fun t ht => (cpy8 t ht 480 rfl).trans (ec_157 t ht))⟩ (by rw [eP]; exact hw9)⟩⟩, by rw [ht]; exact hP, hD⟩, hS.F ht⟩) hS.2.2 dX11_plate_104
        ·
          refine lv_iconst (v := (-1)) hx hb dX11_plate_43 (by decide) ?_
          refine W.widen (k := 7) (n := 505) (Nat.le_of_ble_eq_true rfl) (Nat.le_of_ble_eq_true rfl) ?_
          exact W.iret (v := (-1)) hx hb hr (fun t ht hW => ⟨⟨(-1), (k, z_46, f_47), rfl, ⟨rfl, hEz, h3m, Or.inl ⟨Or.inr ⟨b_1, gl_16, gc_17, (by rw [← eP]; exact el_25), (by rw [← eP]; exact ec_26), hgb_23, Or.inr (Or.inr ⟨bx_39, bx_40, bx_41, hbM, c_52⟩)⟩, rfl, hI, hrpx⟩⟩, by rw [ht]; exact hP, hD⟩, hS.F ht⟩) hS.2.2 dX11_plate_44
  ·
    obtain rfl : r = 0 := b_f hw b_1
    refine lv_if_ne (tgt := 9) hx hb dX11_plate_4 (by decide) (fun c_209 => absurd (by decide) c_209) (fun c_209 => ?_)
    refine lv_iconst (v := (-1)) hx hb dX11_plate_7 (by decide) ?_
    refine W.widen (k := 7) (n := 505) (Nat.le_of_ble_eq_true rfl) (Nat.le_of_ble_eq_true rfl) ?_
    exact W.iret (v := (-1)) hx hb hr (fun t ht hW => ⟨⟨(-1), (k, z, f), rfl, ⟨rfl, zE_rf z, rfl, Or.inl ⟨Or.inl (bne b_1), rfl, hI, hrp⟩⟩, by rw [ht]; exact hP, hD⟩, hS.F ht⟩) hS.2.2 dX11_plate_8
def wq (u : mS) (i : Nat) (dd : Int32) (n : Nat) : Prop := ¬ u.2 48 (80 * dd.toNatClampNeg + i) = 0 ∨ (dd = u.1 38 ∧ ∃ p, p < n ∧ prC u (nI i) p = true)
theorem wq_0 {u : mS} {i : Nat} {dd : Int32} : ¬ u.2 48 (80 * dd.toNatClampNeg + i) = 0 ↔ wq u i dd 0 := ⟨Or.inl, fun h => by rcases h with h | ⟨-, p, hp, -⟩; exact h; exact absurd hp (Nat.not_lt_zero _)⟩
theorem wq_a {u : mS} {i n : Nat} {dd a : Int32} (hg : ¬ a = 0 ↔ wq u i dd n) (h : ¬ a = 0) : ¬ (1 : Int32) = 0 ↔ wq u i dd (n + 1) := ⟨fun _ => by rcases hg.mp h with h | ⟨h, p, hp, hc⟩; exact Or.inl h; exact Or.inr ⟨h, p, by omega, hc⟩, fun _ => by decide⟩
theorem wq_y {u : mS} {i n : Nat} {dd : Int32} (hd : dd = u.1 38) (hc : prC u (nI i) n = true) : ¬ (1 : Int32) = 0 ↔ wq u i dd (n + 1) := ⟨fun _ => Or.inr ⟨hd, n, by omega, hc⟩, fun _ => by decide⟩
theorem wq_n {u : mS} {i n : Nat} {dd a : Int32} (hg : ¬ a = 0 ↔ wq u i dd n) (h : a = 0) (hc : prC u (nI i) n = false) : ¬ (0 : Int32) = 0 ↔ wq u i dd (n + 1) := by
  refine ⟨fun h => absurd rfl h, fun h2 => ?_⟩
  have h3 : ¬ wq u i dd n := fun h4 => (hg.mpr h4) h
  rcases h2 with h2 | ⟨hd, p, hp, hq⟩
  · exact absurd (Or.inl h2) h3
  · by_cases e : p = n
    · rw [e, hc] at hq; exact absurd hq (by decide)
    · exact absurd (Or.inr ⟨hd, p, by omega, hq⟩) h3
theorem wq_e {u : mS} {i n : Nat} {dd a : Int32} (hg : ¬ a = 0 ↔ wq u i dd n) (hd : ¬ dd = u.1 38) : ¬ a = 0 ↔ wpP u i dd := ⟨fun h => by rcases hg.mp h with h | ⟨h, -⟩; exact Or.inl h; exact absurd h hd, fun h => hg.mpr (by rcases h with h | ⟨h, -⟩; exact Or.inl h; exact absurd h hd)⟩
theorem e48i {i : Nat} {dd : Int32} (hi : i < 80) (hd : bw dd 0 399 = true) : (80 * dd + nI i).toNatClampNeg = 80 * dd.toNatClampNeg + i := by
  obtain ⟨D, hD, -, e⟩ := exN hd (by decide)
  have h399 : (399 : Int32).toInt = 399 := rfl
  subst e
  rw [show (80 : Int32) = nI 80 from rfl, pk_mul, nI_add, nI_clamp (by omega), nI_clamp (n := D) (by omega)]
set_option maxHeartbeats 4000000 in
set_option maxRecDepth 100000 in
theorem n_bl_in {p : Program} {l : Launch} {e : Env} {R : Room} {s : State} {m : MethodId} {args : Array Value} {below : List Frame} {meth : Method} {c : Code} {Q : State → Prop} {cells slots : Nat} {dC : Nat → ClassId} {dI : Nat → Nat → Nat} {h0 : Nat} {v : Nat → Nat} {cI cZ : ClassId} {H : Heap} {locs : List Loc} {u : mS} (hx : p.tables.exec = Jvm.exec) (hb : c.code = cX12_bill) (hml : c.maxLocals = 7) (hts : ∀ w ∈ wsX12_bill, w.before args s = true) (hown : s.vm.findClass RX12 = some m.cls) (hN : NN s) (hK : va_K (dC, dI) vwCl [(cI, .int), (cZ, .boolean)] s) (hRf : 1 ≤ R.frames) (hRl : 21 ≤ R.locals) (hRc : cells ≤ R.cells) (hRs : slots ≤ R.slots) (hP : va_P (dC, dI) vwCl (mW h0 v cI cZ u) H) {p0 p1 b9 : Int32} {j9 : Nat} (hj9 : j9 < 80) (kx110 : ∀ (a9 : Int32) (ls : Array Slot), (¬ a9 = 0 ↔ wpP u j9 p1) → lv_has ls 7 [(5, .int a9), (4, .int (nI j9)), (3, .int b9), (0, .ref h0), (1, .int p0), (2, .int p1)] → W p l e R s m args below meth c H locs cells slots Q (F0 m 110 ls [])) : ∀ (k i : Nat) (a : Int32) (ls : Array Slot), i ≤ 12 → 12 - i < k → (¬ a = 0 ↔ wq u j9 p1 i) → lv_has ls 7 [(6, .int (nI i)), (5, .int a), (4, .int (nI j9)), (3, .int b9), (0, .ref h0), (1, .int p0), (2, .int p1)] → W p l e R s m args below meth c H locs cells slots Q (F0 m 52 ls []) := by
  intro k
  induction k with
  | zero => intro i a ls h1 h2; exact absurd h2 (Nat.not_lt_zero _)
  | succ k ih =>
    intro i a ls hi hk hg hl
    refine lv_iload hx hb dX12_bill_52 (lv_at hl 0 rfl) ?_
    refine lv_bipush (v := 12) hx hb dX12_bill_54 (by decide) ?_
    refine lv_icmp_ge (tgt := 110) hx hb dX12_bill_56 (by decide) (fun c_1 => ?_) (fun c_1 => ?_)
    ·
      have hie : i = 12 := lp_eq rfl (by decide) hi c_1
      exact kx110 _ ls (by rw [hie] at hg; exact hg) (lv_sub hl [1, 2, 3, 4, 5, 6] rfl)
    ·
      have hlt : i < 12 := lp_lt rfl (by decide) hi c_1
      refine lv_iload_n hx hb dX12_bill_59 rfl (lv_at hl 6 rfl) ?_
      refine lv_aload_n hx hb dX12_bill_60 rfl (lv_at hl 4 rfl) ?_
      refine va_get (D := (dC, dI)) (ci := 11) (v := .int (u.1 38)) (C := RX12) (T := TX12) (N := 52) hx hb hts (by decide +kernel) hown hK hP 0 rfl rfl 38 (by decide) (hts (.fieldLink RX12 206 "PageOneModel" "day" "I") (by decide +kernel)) (fun _ h9 => h9) rfl dX12_bill_61 ?_
      refine lv_icmp_ne (tgt := 110) hx hb dX12_bill_64 (by decide) (fun c_2 => ?_) (fun c_2 => ?_)
      ·
        exact kx110 _ ls (wq_e hg c_2) (lv_sub hl [1, 2, 3, 4, 5, 6] rfl)
      ·
        refine lv_iload hx hb dX12_bill_67 (lv_at hl 1 rfl) ?_
        refine lv_if_ne (tgt := 97) hx hb dX12_bill_69 (by decide) (fun c_3 => ?_) (fun c_3 => ?_)
        ·
          refine lv_iconst (v := 1) hx hb dX12_bill_97 (by decide) ?_
          refine lv_goto (tgt := 102) hx hb dX12_bill_98 (by decide) ?_
          refine lv_istore (lv' := [(5, .int 1), (6, .int (nI i)), (4, .int (nI j9)), (3, .int b9), (0, .ref h0), (1, .int p0), (2, .int p1)]) hx hb dX12_bill_102 hl (by decide) rfl (fun ls hl => ?_)
          refine lv_iinc (v := (nI (i + 1))) (lv' := [(6, .int (nI (i + 1))), (5, .int 1), (4, .int (nI j9)), (3, .int b9), (0, .ref h0), (1, .int p0), (2, .int p1)]) hx hb dX12_bill_104 hl (k := 1) rfl (nI_1 i) (by decide) rfl (fun ls hl => ?_)
          refine lv_goto (tgt := 52) hx hb dX12_bill_107 (by decide) ?_
          exact ih (i + 1) _ ls (by omega) (by omega) (wq_a hg c_3) (lv_sub hl [0, 1, 2, 3, 4, 5, 6] rfl)
        ·
          refine lv_aload_n hx hb dX12_bill_72 rfl (lv_at hl 4 rfl) ?_
          refine lv_iload hx hb dX12_bill_73 (lv_at hl 0 rfl) ?_
          refine vp_callSi (va_runV (As := [.int (nI i)]) (rest := []) ⟨hx, hb, hml, hown, hts⟩ (m_isNow l dC dI h0 v cI cZ u (nI i) (bw11 hlt)) (cwV 1 hts gX12_bill_X12_isNow rfl rfl rfl (by decide +kernel) ⟨Nat.le_trans (Nat.le_of_ble_eq_true rfl) hRf, Nat.le_trans (Nat.le_of_ble_eq_true rfl) hRl⟩) ⟨pw_fb, va_recv hK hP (ci := 11) (q0 := 0) rfl rfl, fun U hU hW => ⟨rfl, pw_to hU hW hP hK hN⟩⟩ rfl rfl hl.1 rfl (lv_room (Nat.le_of_ble_eq_true rfl)) dX12_bill_75 ⟨hRc, hRs⟩).run (fun r hw => ?_)
          rcases Bool.eq_false_or_eq_true (mNow u (nI i)) with b_4 | b_4
          ·
            obtain rfl : r = 1 := b_t hw b_4
            refine lv_if_eq (tgt := 101) hx hb dX12_bill_78 (by decide) (fun c_5 => absurd c_5 (by decide)) (fun c_5 => ?_)
            refine lv_aload_n hx hb dX12_bill_81 rfl (lv_at hl 4 rfl) ?_
            refine va_get (D := (dC, dI)) (ci := 11) (v := .ref (v 45)) (C := RX12) (T := TX12) (N := 52) hx hb hts (by decide +kernel) hown hK hP 0 rfl rfl 45 (by decide) (hts (.fieldLink RX12 131 "PageOneModel" "plateColumn" "[I") (by decide +kernel)) (fun _ h9 => h9) rfl dX12_bill_82 ?_
            refine lv_bipush (v := 80) hx hb dX12_bill_85 (by decide) ?_
            refine lv_iload hx hb dX12_bill_87 (lv_at hl 0 rfl) ?_
            refine lv_imul hx hb dX12_bill_89 ?_
            refine lv_iload hx hb dX12_bill_90 (lv_at hl 2 rfl) ?_
            refine lv_iadd hx hb dX12_bill_92 ?_
            refine va_iald hx hb hK hP 41 0 rfl rfl (vPl (bw79 hj9) hlt) dX12_bill_93 ?_
            refine lv_if_lt (tgt := 101) hx hb dX12_bill_94 (by decide) (fun c_6 => ?_) (fun c_6 => ?_)
            ·
              refine lv_iconst (v := 0) hx hb dX12_bill_101 (by decide) ?_
              refine lv_istore (lv' := [(5, .int 0), (6, .int (nI i)), (4, .int (nI j9)), (3, .int b9), (0, .ref h0), (1, .int p0), (2, .int p1)]) hx hb dX12_bill_102 hl (by decide) rfl (fun ls hl => ?_)
              refine lv_iinc (v := (nI (i + 1))) (lv' := [(6, .int (nI (i + 1))), (5, .int 0), (4, .int (nI j9)), (3, .int b9), (0, .ref h0), (1, .int p0), (2, .int p1)]) hx hb dX12_bill_104 hl (k := 1) rfl (nI_1 i) (by decide) rfl (fun ls hl => ?_)
              refine lv_goto (tgt := 52) hx hb dX12_bill_107 (by decide) ?_
              exact ih (i + 1) _ ls (by omega) (by omega) (wq_n hg c_3 (by unfold prC; rw [decide_eq_true c_6]; cases mNow u (nI i) <;> rfl)) (lv_sub hl [0, 1, 2, 3, 4, 5, 6] rfl)
            ·
              refine lv_iconst (v := 1) hx hb dX12_bill_97 (by decide) ?_
              refine lv_goto (tgt := 102) hx hb dX12_bill_98 (by decide) ?_
              refine lv_istore (lv' := [(5, .int 1), (6, .int (nI i)), (4, .int (nI j9)), (3, .int b9), (0, .ref h0), (1, .int p0), (2, .int p1)]) hx hb dX12_bill_102 hl (by decide) rfl (fun ls hl => ?_)
              refine lv_iinc (v := (nI (i + 1))) (lv' := [(6, .int (nI (i + 1))), (5, .int 1), (4, .int (nI j9)), (3, .int b9), (0, .ref h0), (1, .int p0), (2, .int p1)]) hx hb dX12_bill_104 hl (k := 1) rfl (nI_1 i) (by decide) rfl (fun ls hl => ?_)
              refine lv_goto (tgt := 52) hx hb dX12_bill_107 (by decide) ?_
              exact ih (i + 1) _ ls (by omega) (by omega) (wq_y c_2 (by unfold prC; rw [b_4, decide_eq_false c_6]; rfl)) (lv_sub hl [0, 1, 2, 3, 4, 5, 6] rfl)
          ·
            obtain rfl : r = 0 := b_f hw b_4
            refine lv_if_eq (tgt := 101) hx hb dX12_bill_78 (by decide) (fun c_7 => ?_) (fun c_7 => absurd (by decide) c_7)
            refine lv_iconst (v := 0) hx hb dX12_bill_101 (by decide) ?_
            refine lv_istore (lv' := [(5, .int 0), (6, .int (nI i)), (4, .int (nI j9)), (3, .int b9), (0, .ref h0), (1, .int p0), (2, .int p1)]) hx hb dX12_bill_102 hl (by decide) rfl (fun ls hl => ?_)
            refine lv_iinc (v := (nI (i + 1))) (lv' := [(6, .int (nI (i + 1))), (5, .int 0), (4, .int (nI j9)), (3, .int b9), (0, .ref h0), (1, .int p0), (2, .int p1)]) hx hb dX12_bill_104 hl (k := 1) rfl (nI_1 i) (by decide) rfl (fun ls hl => ?_)
            refine lv_goto (tgt := 52) hx hb dX12_bill_107 (by decide) ?_
            exact ih (i + 1) _ ls (by omega) (by omega) (wq_n hg c_3 (by unfold prC; rw [b_4]; rfl)) (lv_sub hl [0, 1, 2, 3, 4, 5, 6] rfl)
set_option maxHeartbeats 4000000 in
set_option maxRecDepth 100000 in
theorem n_bl_out {p : Program} {l : Launch} {e : Env} {R : Room} {s : State} {m : MethodId} {args : Array Value} {below : List Frame} {meth : Method} {c : Code} {Q : State → Prop} {cells slots : Nat} {dC : Nat → ClassId} {dI : Nat → Nat → Nat} {h0 : Nat} {v : Nat → Nat} {cI cZ : ClassId} {H : Heap} {locs : List Loc} {u : mS} (hx : p.tables.exec = Jvm.exec) (hb : c.code = cX12_bill) (hml : c.maxLocals = 7) (hts : ∀ w ∈ wsX12_bill, w.before args s = true) (hown : s.vm.findClass RX12 = some m.cls) (hN : NN s) (hK : va_K (dC, dI) vwCl [(cI, .int), (cZ, .boolean)] s) (hRf : 1 ≤ R.frames) (hRl : 21 ≤ R.locals) (hRc : cells ≤ R.cells) (hRs : slots ≤ R.slots) (hP : va_P (dC, dI) vwCl (mW h0 v cI cZ u) H) {p0 p1 : Int32} {M : Nat} (hM8 : M ≤ 80) (eM : u.1 3 = nI M) (hd9 : bw p1 0 399 = true) (kx : ∀ (a : Int32) (ls : Array Slot), a = blS u p0 p1 M → lv_has ls 7 [(4, .int (nI M)), (3, .int a), (0, .ref h0), (1, .int p0), (2, .int p1)] → W p l e R s m args below meth c H locs cells slots Q (F0 m 173 ls [])) : ∀ (k i : Nat) (a : Int32) (ls : Array Slot), i ≤ M → M - i < k → a = blS u p0 p1 i → lv_has ls 7 [(4, .int (nI i)), (3, .int a), (0, .ref h0), (1, .int p0), (2, .int p1)] → W p l e R s m args below meth c H locs cells slots Q (F0 m 26 ls []) := by
  intro k
  induction k with
  | zero => intro i a ls h1 h2; exact absurd h2 (Nat.not_lt_zero _)
  | succ k ih =>
    intro i a ls hi hk hg hl
    refine lv_iload hx hb dX12_bill_26 (lv_at hl 0 rfl) ?_
    refine lv_aload_n hx hb dX12_bill_28 rfl (lv_at hl 2 rfl) ?_
    refine va_get (D := (dC, dI)) (ci := 11) (v := .int (u.1 3)) (C := RX12) (T := TX12) (N := 52) hx hb hts (by decide +kernel) hown hK hP 0 rfl rfl 3 (by decide) (hts (.fieldLink RX12 147 "PageOneModel" "items" "I") (by decide +kernel)) (fun _ h9 => h9) rfl dX12_bill_29 ?_
    refine lv_topi (fun y_1 ey_1 => ?_)
    obtain rfl : y_1 = (nI M) := ey_1.trans (eM)
    refine lv_icmp_ge (tgt := 173) hx hb dX12_bill_32 (by decide) (fun c_2 => ?_) (fun c_2 => ?_)
    ·
      have hie : i = M := lp_eq rfl (by omega) hi c_2
      rw [hie] at hg hl
      exact kx _ ls hg (lv_sub hl [0, 1, 2, 3, 4] rfl)
    ·
      have hlt : i < M := lp_lt rfl (by omega) hi c_2
      refine lv_aload_n hx hb dX12_bill_35 rfl (lv_at hl 2 rfl) ?_
      refine va_get (D := (dC, dI)) (ci := 11) (v := .ref (v 48)) (C := RX12) (T := TX12) (N := 52) hx hb hts (by decide +kernel) hown hK hP 0 rfl rfl 48 (by decide) (hts (.fieldLink RX12 140 "PageOneModel" "isOn" "[Z") (by decide +kernel)) (fun _ h9 => h9) rfl dX12_bill_36 ?_
      refine lv_bipush (v := 80) hx hb dX12_bill_39 (by decide) ?_
      refine lv_iload_n hx hb dX12_bill_41 rfl (lv_at hl 4 rfl) ?_
      refine lv_imul hx hb dX12_bill_42 ?_
      refine lv_iload hx hb dX12_bill_43 (lv_at hl 0 rfl) ?_
      refine lv_iadd hx hb dX12_bill_45 ?_
      refine va_zald hx hb hK hP 44 1 rfl rfl (vOn (bw79 (by omega)) hd9) dX12_bill_46 ?_
      refine lv_topi (fun x_3 ex_3 => ?_)
      refine lv_istore (lv' := [(5, .int x_3), (4, .int (nI i)), (3, .int a), (0, .ref h0), (1, .int p0), (2, .int p1)]) hx hb dX12_bill_47 hl (by decide) rfl (fun ls hl => ?_)
      refine lv_iconst (v := 0) hx hb dX12_bill_49 (by decide) ?_
      refine lv_istore (lv' := [(6, .int 0), (5, .int x_3), (4, .int (nI i)), (3, .int a), (0, .ref h0), (1, .int p0), (2, .int p1)]) hx hb dX12_bill_50 hl (by decide) rfl (fun ls hl => ?_)
      refine n_bl_in (j9 := i) (b9 := a) hx hb hml hts hown hN hK hRf hRl hRc hRs hP (by omega) (fun a9 ls ha9 hl => ?_) 13 0 _ ls (by decide) (by decide) (by rw [ex_3]; rw [e48i (by omega) hd9]; exact wq_0) (lv_sub hl [0, 1, 2, 3, 4, 5, 6] rfl)
      refine lv_iload_n hx hb dX12_bill_110 rfl (lv_at hl 2 rfl) ?_
      refine lv_aload_n hx hb dX12_bill_111 rfl (lv_at hl 3 rfl) ?_
      refine va_get (D := (dC, dI)) (ci := 11) (v := .ref (v 4)) (C := RX12) (T := TX12) (N := 52) hx hb hts (by decide +kernel) hown hK hP 0 rfl rfl 4 (by decide) (hts (.fieldLink RX12 19 "PageOneModel" "kind" "[I") (by decide +kernel)) (fun _ h9 => h9) rfl dX12_bill_112 ?_
      refine lv_iload hx hb dX12_bill_115 (lv_at hl 1 rfl) ?_
      refine va_iald hx hb hK hP 4 0 rfl rfl (vp_in_nI (by omega) (by decide)) dX12_bill_117 ?_
      refine lv_iconst (v := 3) hx hb dX12_bill_118 (by decide) ?_
      refine lv_icmp_ne (tgt := 164) hx hb dX12_bill_119 (by decide) (fun c_4 => ?_) (fun c_4 => ?_)
      ·
        refine lv_iconst (v := 0) hx hb dX12_bill_164 (by decide) ?_
        refine lv_iadd hx hb dX12_bill_165 ?_
        refine lv_topi (fun x_5 ex_5 => ?_)
        refine lv_istore_n (lv' := [(3, .int x_5), (5, .int a9), (4, .int (nI i)), (0, .ref h0), (1, .int p0), (2, .int p1)]) hx hb dX12_bill_166 rfl hl (by decide) rfl (fun ls hl => ?_)
        refine lv_iinc (v := (nI (i + 1))) (lv' := [(4, .int (nI (i + 1))), (3, .int x_5), (5, .int a9), (0, .ref h0), (1, .int p0), (2, .int p1)]) hx hb dX12_bill_167 hl (k := 2) rfl (nI_1 i) (by decide) rfl (fun ls hl => ?_)
        refine lv_goto (tgt := 26) hx hb dX12_bill_170 (by decide) ?_
        exact ih (i + 1) _ ls (by omega) (by omega) (by rw [ex_5, hg]; have h9 := c_4; rw [nI_clamp (by omega)] at h9; rw [blS_0 (fun h8 => h9 h8.1)]; exact Int32.add_zero _) (lv_sub hl [0, 1, 3, 4, 5] rfl)
      ·
        refine lv_aload_n hx hb dX12_bill_122 rfl (lv_at hl 3 rfl) ?_
        refine va_get (D := (dC, dI)) (ci := 11) (v := .ref (v 10)) (C := RX12) (T := TX12) (N := 52) hx hb hts (by decide +kernel) hown hK hP 0 rfl rfl 10 (by decide) (hts (.fieldLink RX12 37 "PageOneModel" "buyer" "[I") (by decide +kernel)) (fun _ h9 => h9) rfl dX12_bill_123 ?_
        refine lv_iload hx hb dX12_bill_126 (lv_at hl 1 rfl) ?_
        refine va_iald hx hb hK hP 10 0 rfl rfl (vp_in_nI (by omega) (by decide)) dX12_bill_128 ?_
        refine lv_iload_n hx hb dX12_bill_129 rfl (lv_at hl 4 rfl) ?_
        refine lv_icmp_ne (tgt := 164) hx hb dX12_bill_130 (by decide) (fun c_6 => ?_) (fun c_6 => ?_)
        ·
          refine lv_iconst (v := 0) hx hb dX12_bill_164 (by decide) ?_
          refine lv_iadd hx hb dX12_bill_165 ?_
          refine lv_topi (fun x_7 ex_7 => ?_)
          refine lv_istore_n (lv' := [(3, .int x_7), (5, .int a9), (4, .int (nI i)), (0, .ref h0), (1, .int p0), (2, .int p1)]) hx hb dX12_bill_166 rfl hl (by decide) rfl (fun ls hl => ?_)
          refine lv_iinc (v := (nI (i + 1))) (lv' := [(4, .int (nI (i + 1))), (3, .int x_7), (5, .int a9), (0, .ref h0), (1, .int p0), (2, .int p1)]) hx hb dX12_bill_167 hl (k := 2) rfl (nI_1 i) (by decide) rfl (fun ls hl => ?_)
          refine lv_goto (tgt := 26) hx hb dX12_bill_170 (by decide) ?_
          exact ih (i + 1) _ ls (by omega) (by omega) (by rw [ex_7, hg]; have h9 := c_6; rw [nI_clamp (by omega)] at h9; rw [blS_0 (fun h8 => h9 h8.2.1)]; exact Int32.add_zero _) (lv_sub hl [0, 1, 3, 4, 5] rfl)
        ·
          refine lv_iload hx hb dX12_bill_133 (lv_at hl 0 rfl) ?_
          refine lv_if_eq (tgt := 164) hx hb dX12_bill_135 (by decide) (fun c_8 => ?_) (fun c_8 => ?_)
          ·
            refine lv_iconst (v := 0) hx hb dX12_bill_164 (by decide) ?_
            refine lv_iadd hx hb dX12_bill_165 ?_
            refine lv_topi (fun x_9 ex_9 => ?_)
            refine lv_istore_n (lv' := [(3, .int x_9), (5, .int a9), (4, .int (nI i)), (0, .ref h0), (1, .int p0), (2, .int p1)]) hx hb dX12_bill_166 rfl hl (by decide) rfl (fun ls hl => ?_)
            refine lv_iinc (v := (nI (i + 1))) (lv' := [(4, .int (nI (i + 1))), (3, .int x_9), (5, .int a9), (0, .ref h0), (1, .int p0), (2, .int p1)]) hx hb dX12_bill_167 hl (k := 2) rfl (nI_1 i) (by decide) rfl (fun ls hl => ?_)
            refine lv_goto (tgt := 26) hx hb dX12_bill_170 (by decide) ?_
            exact ih (i + 1) _ ls (by omega) (by omega) (by rw [ex_9, hg, blS_0 (fun h8 => ha9.mpr h8.2.2 c_8)]; exact Int32.add_zero _) (lv_sub hl [0, 1, 3, 4, 5] rfl)
          ·
            refine lv_aload_n hx hb dX12_bill_138 rfl (lv_at hl 3 rfl) ?_
            refine va_get (D := (dC, dI)) (ci := 11) (v := .ref (v 7)) (C := RX12) (T := TX12) (N := 52) hx hb hts (by decide +kernel) hown hK hP 0 rfl rfl 7 (by decide) (hts (.fieldLink RX12 28 "PageOneModel" "wide" "[I") (by decide +kernel)) (fun _ h9 => h9) rfl dX12_bill_139 ?_
            refine lv_iload hx hb dX12_bill_142 (lv_at hl 1 rfl) ?_
            refine va_iald hx hb hK hP 7 0 rfl rfl (vp_in_nI (by omega) (by decide)) dX12_bill_144 ?_
            refine lv_aload_n hx hb dX12_bill_145 rfl (lv_at hl 3 rfl) ?_
            refine va_get (D := (dC, dI)) (ci := 11) (v := .ref (v 8)) (C := RX12) (T := TX12) (N := 52) hx hb hts (by decide +kernel) hown hK hP 0 rfl rfl 8 (by decide) (hts (.fieldLink RX12 31 "PageOneModel" "high" "[I") (by decide +kernel)) (fun _ h9 => h9) rfl dX12_bill_146 ?_
            refine lv_iload hx hb dX12_bill_149 (lv_at hl 1 rfl) ?_
            refine va_iald hx hb hK hP 8 0 rfl rfl (vp_in_nI (by omega) (by decide)) dX12_bill_151 ?_
            refine lv_imul hx hb dX12_bill_152 ?_
            refine lv_aload_n hx hb dX12_bill_153 rfl (lv_at hl 3 rfl) ?_
            refine va_get (D := (dC, dI)) (ci := 11) (v := .ref (v 14)) (C := RX12) (T := TX12) (N := 52) hx hb hts (by decide +kernel) hown hK hP 0 rfl rfl 14 (by decide) (hts (.fieldLink RX12 49 "PageOneModel" "price" "[I") (by decide +kernel)) (fun _ h9 => h9) rfl dX12_bill_154 ?_
            refine lv_iload hx hb dX12_bill_157 (lv_at hl 1 rfl) ?_
            refine va_iald hx hb hK hP 14 0 rfl rfl (vp_in_nI (by omega) (by decide)) dX12_bill_159 ?_
            refine lv_imul hx hb dX12_bill_160 ?_
            refine lv_goto (tgt := 165) hx hb dX12_bill_161 (by decide) ?_
            refine lv_iadd hx hb dX12_bill_165 ?_
            refine lv_topi (fun x_10 ex_10 => ?_)
            refine lv_istore_n (lv' := [(3, .int x_10), (5, .int a9), (4, .int (nI i)), (0, .ref h0), (1, .int p0), (2, .int p1)]) hx hb dX12_bill_166 rfl hl (by decide) rfl (fun ls hl => ?_)
            refine lv_iinc (v := (nI (i + 1))) (lv' := [(4, .int (nI (i + 1))), (3, .int x_10), (5, .int a9), (0, .ref h0), (1, .int p0), (2, .int p1)]) hx hb dX12_bill_167 hl (k := 2) rfl (nI_1 i) (by decide) rfl (fun ls hl => ?_)
            refine lv_goto (tgt := 26) hx hb dX12_bill_170 (by decide) ?_
            exact ih (i + 1) _ ls (by omega) (by omega) (by rw [ex_10, hg]; have h9 := c_4; have h7 := c_6; rw [nI_clamp (by omega)] at h9 h7; rw [blS_1 ⟨h9, h7, ha9.mp c_8⟩, nI_clamp (by omega)]) (lv_sub hl [0, 1, 3, 4, 5] rfl)
set_option maxHeartbeats 4000000 in
set_option maxRecDepth 100000 in
theorem n_bill (l : Launch) (dC : Nat → ClassId) (dI : Nat → Nat → Nat) (h0 : Nat) (v : Nat → Nat) (cI cZ : ClassId) (u : mS) (p0 p1 : Int32) (hn : bw (u.1 3) 0 80 = true) (hd : bw (u.1 38) 0 399 = true) : Met l yX12_bill wsX12_bill ({ frames := 2, cells := 0, slots := 0, locals := 42 }) (va_Pc [.ref h0, .int p0, .int p1] (PW dC dI (mW h0 v cI cZ u) [(cI, .int), (cZ, .boolean)])) (vp_Si (fun r => r = mBillX u p0 p1)) 0 0 (fun _ => False) := by
  refine Met.ofW (cc := cX12_bill) (maxL := 7) (ret := (some .int)) (by decide) rfl ?_
  intro p e s m args below meth c s₁ B hml hv
  obtain ⟨rfl, hP, hK, hN⟩ := hv
  have hx := B.exec
  have hb := B.bytes
  have hr := B.returns
  have hts := atoms_spec (ws := wsX12_bill) B.pre
  have hown : s.vm.findClass RX12 = some m.cls := findClass_of_methodNamed B.named
  have hlocks := B.notSynchronized
  have hl := lv_entry ([.ref h0, .int p0, .int p1]) (n := 7) (Nat.le_of_ble_eq_true rfl)
  rw [lg_entry_eq]
  generalize (lg_sl ([.ref h0, .int p0, .int p1]) ++ List.replicate (7 - (lg_sl ([.ref h0, .int p0, .int p1])).length) Slot.unset).toArray = ls at hl ⊢
  have hl : lv_has ls 7 [(0, .ref h0), (1, .int p0), (2, .int p1)] := hl
  refine lv_iload_n hx hb dX12_bill_0 rfl (lv_at hl 1 rfl) ?_
  refine vp_callSi (va_runS (As := [.int p0]) (rest := []) ⟨hx, hb, hml, hown, hts⟩ (m_isBuyer l dC dI p0) (va_cwS 1 hts gX12_bill_X12_isBuyer rfl rfl rfl (by decide +kernel) ⟨Nat.le_of_ble_eq_true rfl, Nat.le_of_ble_eq_true rfl⟩) ⟨pw_fb, fun U hU hW => ⟨rfl, pw_to hU hW (hP.sub (ws' := []) [] rfl) (hK.sub (tys' := []) [] rfl) hN⟩⟩ rfl rfl hl.1 rfl (lv_room (Nat.le_of_ble_eq_true rfl)) dX12_bill_1 ⟨Nat.le_of_ble_eq_true rfl, Nat.le_of_ble_eq_true rfl⟩).run (fun r hw => ?_)
  rcases Bool.eq_false_or_eq_true (bw p0 0 9) with b_1 | b_1
  ·
    obtain rfl : r = 1 := b_t hw b_1
    refine lv_if_eq (tgt := 19) hx hb dX12_bill_4 (by decide) (fun c_2 => absurd c_2 (by decide)) (fun c_2 => ?_)
    refine lv_iload_n hx hb dX12_bill_7 rfl (lv_at hl 2 rfl) ?_
    refine lv_iconst (v := 0) hx hb dX12_bill_8 (by decide) ?_
    refine lv_aload_n hx hb dX12_bill_9 rfl (lv_at hl 0 rfl) ?_
    refine va_get (D := (dC, dI)) (ci := 11) (v := .int (u.1 38)) (C := RX12) (T := TX12) (N := 52) hx hb hts (by decide +kernel) hown hK hP 0 rfl rfl 38 (by decide) (hts (.fieldLink RX12 206 "PageOneModel" "day" "I") (by decide +kernel)) (fun _ h9 => h9) rfl dX12_bill_10 ?_
    refine vp_callSi (va_runS (As := [.int p1, .int 0, .int (u.1 38)]) (rest := []) ⟨hx, hb, hml, hown, hts⟩ (m_in l dC dI p1 0 (u.1 38)) (va_cwS 3 hts gX12_bill_X12_in rfl rfl rfl (by decide +kernel) ⟨Nat.le_of_ble_eq_true rfl, Nat.le_of_ble_eq_true rfl⟩) ⟨pw_fb, fun U hU hW => ⟨rfl, pw_to hU hW (hP.sub (ws' := []) [] rfl) (hK.sub (tys' := []) [] rfl) hN⟩⟩ rfl rfl hl.1 rfl (lv_room (Nat.le_of_ble_eq_true rfl)) dX12_bill_13 ⟨Nat.le_of_ble_eq_true rfl, Nat.le_of_ble_eq_true rfl⟩).run (fun r hw => ?_)
    rcases Bool.eq_false_or_eq_true (bw p1 0 (u.1 38)) with b_3 | b_3
    ·
      obtain rfl : r = 1 := b_t hw b_3
      refine lv_if_ne (tgt := 21) hx hb dX12_bill_16 (by decide) (fun c_4 => ?_) (fun c_4 => absurd c_4 (by decide))
      refine lv_iconst (v := 0) hx hb dX12_bill_21 (by decide) ?_
      refine lv_istore_n (lv' := [(3, .int 0), (0, .ref h0), (1, .int p0), (2, .int p1)]) hx hb dX12_bill_22 rfl hl (by decide) rfl (fun ls hl => ?_)
      refine lv_iconst (v := 0) hx hb dX12_bill_23 (by decide) ?_
      refine lv_istore (lv' := [(4, .int 0), (3, .int 0), (0, .ref h0), (1, .int p0), (2, .int p1)]) hx hb dX12_bill_24 hl (by decide) rfl (fun ls hl => ?_)
      obtain ⟨eK, eK2, eK3⟩ := nI_of_bw hn
      have h80 : (80 : Int32).toInt = 80 := rfl
      have hd9 : bw p1 0 399 = true := by have h1 := bw_iff.mp b_3; have h2 := bw_iff.mp hd; rw [bw_iff]; omega
      refine n_bl_out (M := (u.1 3).toNatClampNeg) hx hb hml hts hown hN hK (Nat.le_of_ble_eq_true rfl) (Nat.le_of_ble_eq_true rfl) (Nat.le_of_ble_eq_true rfl) (Nat.le_of_ble_eq_true rfl) hP (by omega) eK hd9 (fun a ls hg hl => ?_) _ 0 0 ls (Nat.zero_le _) (Nat.lt_succ_self _) rfl (lv_sub hl [0, 1, 2, 3, 4] rfl)
      refine lv_iload_n hx hb dX12_bill_173 rfl (lv_at hl 1 rfl) ?_
      exact W.iret (v := a) hx hb hr (fun t ht hW => ⟨_, rfl, (by unfold mBillX; rw [if_pos b_1, if_pos b_3]; exact hg), ht⟩) (fun q h => absurd h List.not_mem_nil) dX12_bill_174
    ·
      obtain rfl : r = 0 := b_f hw b_3
      refine lv_if_ne (tgt := 21) hx hb dX12_bill_16 (by decide) (fun c_5 => absurd (by decide) c_5) (fun c_5 => ?_)
      refine lv_iconst (v := (-1)) hx hb dX12_bill_19 (by decide) ?_
      exact W.iret (v := (-1)) hx hb hr (fun t ht hW => ⟨_, rfl, (by unfold mBillX; rw [if_neg (show ¬ bw p1 0 (u.1 38) = true from bne b_3)]; split <;> rfl), ht⟩) (fun q h => absurd h List.not_mem_nil) dX12_bill_20
  ·
    obtain rfl : r = 0 := b_f hw b_1
    refine lv_if_eq (tgt := 19) hx hb dX12_bill_4 (by decide) (fun c_6 => ?_) (fun c_6 => absurd (by decide) c_6)
    refine lv_iconst (v := (-1)) hx hb dX12_bill_19 (by decide) ?_
    exact W.iret (v := (-1)) hx hb hr (fun t ht hW => ⟨_, rfl, (by unfold mBillX; rw [if_neg (bne b_1)]), ht⟩) (fun q h => absurd h List.not_mem_nil) dX12_bill_20
/-- the desk cleared, as the reference clears it -/
theorem rep_dayS {q d u z f} (h : rep q d (cdU u) z f) : rep q d (dayS u (u.1 3).toNatClampNeg) z f := by
  have e2 : (cdU u).2 2 = fillF (u.2 2) 5760 (-2) := by
    funext j
    rfl
  have e22 : (cdU u).2 22 = fillF (u.2 22) (u.1 3).toNatClampNeg 0 := by
    funext j
    rfl
  have ek : ∀ r, r ≠ 2 → r ≠ 22 → (cdU u).2 r = u.2 r := fun r h1 h2 => by
    unfold cdU cd2 cd1
    rw [mput_other h1, mput_other h2]
  refine rep_ext h (dayS_1 u (u.1 3).toNatClampNeg).2.2.2.2 (fun r hr => ?_) (fun r r1 r2 j _ t _ => by rw [dayS_k _ _ (by omega) (by omega), ek r (by omega) (by omega)])
  by_cases h2 : r = 2
  · rw [h2, dayS_2, e2]
  · by_cases h3 : r = 22
    · rw [h3, dayS_22, e22]
    · rw [dayS_k _ _ h2 h3, ek r h2 h3]
/-- a maker keeps: where no item is, nothing is told -/
theorem nwI_mk {u w : mS} (h : nwI u) (hS : mkS u w (u.1 3).toNatClampNeg) (h3 : (w.1 3).toNatClampNeg = (u.1 3).toNatClampNeg + 1) : nwI w := by
  intro i hi h8
  obtain ⟨a, b, c, e, g⟩ := h i (by omega) h8
  have q : ∀ r, r < 4 ∨ (15 < r ∧ r ≠ 17 ∧ r ≠ 22) → w.2 r = u.2 r := hS.2.2
  exact ⟨fun t ht => by rw [q 47 (by omega)]; exact a t ht, fun t ht => by rw [q 16 (by omega)]; exact b t ht, fun t ht => by rw [q 18 (by omega), q 19 (by omega)]; exact c t ht, fun t ht => by rw [q 21 (by omega)]; exact e t ht, fun t ht => by rw [q 48 (by omega)]; exact g t ht⟩
theorem plI_c {u w : mS} (h : plI u) (hr : ∀ r, 40 ≤ r → r ≤ 46 → w.2 r = u.2 r) : plI w := by
  unfold plI plN plF at h ⊢
  rw [hr 40 (by omega) (by omega), hr 43 (by omega) (by omega), hr 44 (by omega) (by omega), hr 45 (by omega) (by omega), hr 46 (by omega) (by omega)]
  exact h
theorem nle {a b : Nat} (ha : a < 1000) (hb : b < 1000) : nI a ≤ nI b ↔ a ≤ b := by
  rw [i32_le, nI_toInt (by omega), nI_toInt (by omega)]; omega
theorem neq {a b : Nat} (ha : a < 1000) (hb : b < 1000) : nI a = nI b ↔ a = b := nI_inj (by omega) (by omega)
/-- beside, in plain numbers -/
theorem bes_iff {P X Y D N P2 X2 Y2 D2 N2 : Nat} (h1 : P < 200 ∧ X < 200 ∧ Y < 200 ∧ D < 200 ∧ N < 200) (h2 : P2 < 200 ∧ X2 < 200 ∧ Y2 < 200 ∧ D2 < 200 ∧ N2 < 200) : ¬ s_isBeside (nI P) (nI X) (nI Y) (nI D) (nI N) (nI P2) (nI X2) (nI Y2) (nI D2) (nI N2) = 0 ↔ (X + D = X2 ∨ X2 + D2 = X) ∧ P = P2 ∧ Y < Y2 + N2 ∧ Y2 < Y + N := by
  unfold s_isBeside
  rw [nI_add X D, nI_add Y2 N2, nI_add Y N, nI_add X2 D2]
  have core : ¬ (if nI P = nI P2 then (if nI (Y2 + N2) ≤ nI Y then (0 : Int32) else (if nI (Y + N) ≤ nI Y2 then 0 else 1)) else 0) = 0 ↔ P = P2 ∧ Y < Y2 + N2 ∧ Y2 < Y + N := by
    by_cases e : P = P2
    · rw [if_pos ((neq (by omega) (by omega)).mpr e)]
      by_cases a : Y2 + N2 ≤ Y
      · rw [if_pos ((nle (by omega) (by omega)).mpr a)]
        exact ⟨fun h => absurd rfl h, fun h => by omega⟩
      · rw [if_neg (fun q => a ((nle (by omega) (by omega)).mp q))]
        by_cases b : Y + N ≤ Y2
        · rw [if_pos ((nle (by omega) (by omega)).mpr b)]
          exact ⟨fun h => absurd rfl h, fun h => by omega⟩
        · rw [if_neg (fun q => b ((nle (by omega) (by omega)).mp q))]
          exact ⟨fun _ => ⟨e, by omega, by omega⟩, fun _ => by decide⟩
    · rw [if_neg (fun q => e ((neq (by omega) (by omega)).mp q))]
      exact ⟨fun h => absurd rfl h, fun h => absurd h.1 e⟩
  by_cases c1 : X + D = X2
  · rw [if_pos ((neq (by omega) (by omega)).mpr c1), core]
    exact ⟨fun h => ⟨Or.inl c1, h⟩, fun h => h.2⟩
  · rw [if_neg (fun q => c1 ((neq (by omega) (by omega)).mp q))]
    by_cases c2 : X2 + D2 = X
    · rw [if_pos ((neq (by omega) (by omega)).mpr c2), core]
      exact ⟨fun h => ⟨Or.inr c2, h⟩, fun h => h.2⟩
    · rw [if_neg (fun q => c2 ((neq (by omega) (by omega)).mp q)), ite_self]
      exact ⟨fun h => absurd rfl h, fun h => by omega⟩
/-- over or under, in plain numbers -/
theorem ovr_iff {P X Y D N P2 X2 Y2 D2 N2 : Nat} (h1 : P < 200 ∧ X < 200 ∧ Y < 200 ∧ D < 200 ∧ N < 200) (h2 : P2 < 200 ∧ X2 < 200 ∧ Y2 < 200 ∧ D2 < 200 ∧ N2 < 200) : ¬ s_isOverOrUnder (nI P) (nI X) (nI Y) (nI D) (nI N) (nI P2) (nI X2) (nI Y2) (nI D2) (nI N2) = 0 ↔ (Y + N = Y2 ∨ Y2 + N2 = Y) ∧ P = P2 ∧ X < X2 + D2 ∧ X2 < X + D := by
  unfold s_isOverOrUnder
  rw [nI_add Y N, nI_add X2 D2, nI_add X D, nI_add Y2 N2]
  have core : ¬ (if nI P = nI P2 then (if nI (X2 + D2) ≤ nI X then (0 : Int32) else (if nI (X + D) ≤ nI X2 then 0 else 1)) else 0) = 0 ↔ P = P2 ∧ X < X2 + D2 ∧ X2 < X + D := by
    by_cases e : P = P2
    · rw [if_pos ((neq (by omega) (by omega)).mpr e)]
      by_cases a : X2 + D2 ≤ X
      · rw [if_pos ((nle (by omega) (by omega)).mpr a)]
        exact ⟨fun h => absurd rfl h, fun h => by omega⟩
      · rw [if_neg (fun q => a ((nle (by omega) (by omega)).mp q))]
        by_cases b : X + D ≤ X2
        · rw [if_pos ((nle (by omega) (by omega)).mpr b)]
          exact ⟨fun h => absurd rfl h, fun h => by omega⟩
        · rw [if_neg (fun q => b ((nle (by omega) (by omega)).mp q))]
          exact ⟨fun _ => ⟨e, by omega, by omega⟩, fun _ => by decide⟩
    · rw [if_neg (fun q => e ((neq (by omega) (by omega)).mp q))]
      exact ⟨fun h => absurd rfl h, fun h => absurd h.1 e⟩
  by_cases c1 : Y + N = Y2
  · rw [if_pos ((neq (by omega) (by omega)).mpr c1), core]
    exact ⟨fun h => ⟨Or.inl c1, h⟩, fun h => h.2⟩
  · rw [if_neg (fun q => c1 ((neq (by omega) (by omega)).mp q))]
    by_cases c2 : Y2 + N2 = Y
    · rw [if_pos ((neq (by omega) (by omega)).mpr c2), core]
      exact ⟨fun h => ⟨Or.inr c2, h⟩, fun h => h.2⟩
    · rw [if_neg (fun q => c2 ((neq (by omega) (by omega)).mp q)), ite_self]
      exact ⟨fun h => absurd rfl h, fun h => by omega⟩
theorem popAll_28 : ∀ (xs : List fX) (u : mS), (popAll u xs).1 28 = u.1 28
  | [], _ => rfl
  | x :: xs, u => by
    show (popAll (popS u x) xs).1 28 = _
    rw [popAll_28 xs]
    show (mset u 36 (u.1 36 - 1)).1 28 = _
    rfl
set_option maxHeartbeats 4000000 in
set_option maxRecDepth 100000 in
theorem n_undoP (l : Launch) (dC : Nat → ClassId) (dI : Nat → Nat → Nat) (h0 : Nat) (v : Nat → Nat) (cI cZ : ClassId) (u : mS) (a : Nat) (P X Y D N : Nat) (hPP : P < 12) (hXW : X + D ≤ 8) (hYN : Y + N ≤ 60) (ha8 : a < 80) (h30 : u.2 30 (u.1 28 - 1).toNatClampNeg = nI a) (hsl : slR u (nI a) P X Y D N) (hz0 : ¬ u.1 28 = 0) (ha1 : bw (u.1 28 - 1) 0 299 = true) (h29 : u.2 29 (u.1 28 - 1).toNatClampNeg = 0) (sz : Nat) : Met l yX12_undo wsX12_undo ({ frames := 3, cells := 0, slots := 0, locals := 77 }) (va_Pc [.ref h0] (fun U => U.heap.size = sz ∧ PW dC dI (mW h0 v cI cZ u) [(cI, .int), (cZ, .boolean)] U ∧ va_D (fun _ => True) (mW h0 v cI cZ u))) (va_Qi (fun (r : Int32) (u9 : mS) => r = u.1 28 - 1 ∧ u9 = mUnstand (mBack u) (nI a) P X Y D N) (fun u9 t => va_P (dC, dI) vwCl (mW h0 v cI cZ u9) t.heap ∧ va_D (va_A (mW h0 v cI cZ u) sz) (mW h0 v cI cZ u9)) (va_A (mW h0 v cI cZ u) sz)) 0 0 (va_A (mW h0 v cI cZ u) sz) := by
  refine Met.ofW (cc := cX12_undo) (maxL := 3) (ret := (some .int)) (by decide) rfl ?_
  intro p e s m args below meth c s₁ B hml hv
  obtain ⟨rfl, hsz, ⟨hP, hK, hN⟩, hD0⟩ := hv
  have hx := B.exec
  have hb := B.bytes
  have hr := B.returns
  have hts := atoms_spec (ws := wsX12_undo) B.pre
  have hown : s.vm.findClass RX12 = some m.cls := findClass_of_methodNamed B.named
  have hlocks := B.notSynchronized
  subst hsz
  have hD := hD0.self (sz := s.heap.size)
  generalize hAe : va_A (mW h0 v cI cZ u) s.heap.size = A at hD ⊢
  have hA : ∀ q : Nat, s.heap.size ≤ q → A q := fun q h => by rw [← hAe]; exact Or.inr h
  have hS : va_S A s.heap s.heap [] := va_S.rf
  have hl := lv_entry ([.ref h0]) (n := 3) (Nat.le_of_ble_eq_true rfl)
  rw [lg_entry_eq]
  generalize (lg_sl ([.ref h0]) ++ List.replicate (3 - (lg_sl ([.ref h0])).length) Slot.unset).toArray = ls at hl ⊢
  have hl : lv_has ls 3 [(0, .ref h0)] := hl
  refine lv_aload_n hx hb dX12_undo_0 rfl (lv_at hl 0 rfl) ?_
  refine va_get (D := (dC, dI)) (ci := 11) (v := .int (u.1 28)) (C := RX12) (T := TX12) (N := 52) hx hb hts (by decide +kernel) hown hK hP 0 rfl rfl 28 (by decide) (hts (.fieldLink RX12 158 "PageOneModel" "acts" "I") (by decide +kernel)) (fun _ h9 => h9) rfl dX12_undo_1 ?_
  refine lv_if_ne (tgt := 9) hx hb dX12_undo_4 (by decide) (fun c_1 => ?_) (fun c_1 => absurd c_1 (hz0))
  refine lv_aload_n hx hb dX12_undo_9 rfl (lv_at hl 0 rfl) ?_
  refine lv_dup hx hb dX12_undo_10 rfl ?_
  refine va_get (D := (dC, dI)) (ci := 11) (v := .int (u.1 28)) (C := RX12) (T := TX12) (N := 52) hx hb hts (by decide +kernel) hown hK hP 0 rfl rfl 28 (by decide) (hts (.fieldLink RX12 158 "PageOneModel" "acts" "I") (by decide +kernel)) (fun _ h9 => h9) rfl dX12_undo_11 ?_
  refine lv_iconst (v := 1) hx hb dX12_undo_14 (by decide) ?_
  refine lv_isub hx hb dX12_undo_15 ?_
  refine va_put (D := (dC, dI)) (ci := 11) (v := .int ((u.1 28) - 1)) (ty := .int) (C := RX12) (T := TX12) (N := 52) hx hb hts (by decide +kernel) tyX12 tyX12_ok nmX12 hown hK hP hD hS 0 rfl rfl 28 (by decide) (hts (.fieldLink RX12 158 "PageOneModel" "acts" "I") (by decide +kernel)) (fun _ h9 => h9) rfl (by decide +kernel) rfl rfl (Nat.le_of_ble_eq_true rfl) dX12_undo_16 (fun H locs hP hD hS => ?_)
  obtain ⟨u_2, eu_2⟩ : ∃ zz : mS, zz = mset u 28 ((u.1 28) - 1) := ⟨_, rfl⟩
  have hP : va_P (dC, dI) vwCl (mW h0 v cI cZ u_2) H := by rw [eu_2]; exact hP
  have hD : va_D A (mW h0 v cI cZ u_2) := by rw [eu_2]; exact hD
  refine lv_aload_n hx hb dX12_undo_19 rfl (lv_at hl 0 rfl) ?_
  refine va_get (D := (dC, dI)) (ci := 11) (v := .ref (v 30)) (C := RX12) (T := TX12) (N := 52) hx hb hts (by decide +kernel) hown hK hP 0 rfl rfl 30 (by decide) (hts (.fieldLink RX12 95 "PageOneModel" "actA" "[I") (by decide +kernel)) (fun _ h9 => h9) rfl dX12_undo_20 ?_
  refine lv_aload_n hx hb dX12_undo_23 rfl (lv_at hl 0 rfl) ?_
  refine va_get (D := (dC, dI)) (ci := 11) (v := .int (u_2.1 28)) (C := RX12) (T := TX12) (N := 52) hx hb hts (by decide +kernel) hown hK hP 0 rfl rfl 28 (by decide) (hts (.fieldLink RX12 158 "PageOneModel" "acts" "I") (by decide +kernel)) (fun _ h9 => h9) rfl dX12_undo_24 ?_
  refine va_iald hx hb hK hP 29 0 rfl rfl (by rw [eu_2, mset_same]; exact vAct ha1) dX12_undo_27 ?_
  refine lv_topi (fun y_3 ey_3 => ?_)
  obtain rfl : y_3 = (nI a) := ey_3.trans ((by rw [eu_2, mset_same]; exact h30))
  refine lv_istore_n (lv' := [(1, .int (nI a)), (0, .ref h0)]) hx hb dX12_undo_28 rfl hl (by decide) rfl (fun ls hl => ?_)
  refine lv_aload_n hx hb dX12_undo_29 rfl (lv_at hl 1 rfl) ?_
  refine va_get (D := (dC, dI)) (ci := 11) (v := .ref (v 29)) (C := RX12) (T := TX12) (N := 52) hx hb hts (by decide +kernel) hown hK hP 0 rfl rfl 29 (by decide) (hts (.fieldLink RX12 92 "PageOneModel" "actKind" "[I") (by decide +kernel)) (fun _ h9 => h9) rfl dX12_undo_30 ?_
  refine lv_aload_n hx hb dX12_undo_33 rfl (lv_at hl 1 rfl) ?_
  refine va_get (D := (dC, dI)) (ci := 11) (v := .int (u_2.1 28)) (C := RX12) (T := TX12) (N := 52) hx hb hts (by decide +kernel) hown hK hP 0 rfl rfl 28 (by decide) (hts (.fieldLink RX12 158 "PageOneModel" "acts" "I") (by decide +kernel)) (fun _ h9 => h9) rfl dX12_undo_34 ?_
  refine va_iald hx hb hK hP 28 0 rfl rfl (by rw [eu_2, mset_same]; exact vAct ha1) dX12_undo_37 ?_
  refine lv_topi (fun y_4 ey_4 => ?_)
  obtain rfl : y_4 = 0 := ey_4.trans ((by rw [eu_2, mset_same]; exact h29))
  refine lv_tableIn (tgt := 64) (off := 26) hx hb dX12_undo_38 (by decide) (by decide) (by decide) (by decide) ?_
  refine lv_aload_n hx hb dX12_undo_64 rfl (lv_at hl 1 rfl) ?_
  refine lv_iload_n hx hb dX12_undo_65 rfl (lv_at hl 0 rfl) ?_
  have hFc := fr_all hD hS hA
  refine va_callv (va_runV (As := [.int (nI a)]) (rest := []) ⟨hx, hb, hml, hown, hts⟩ (m_unstand l dC dI h0 v cI cZ u_2 (nI a) P X Y D N hPP hXW hYN (bw79 ha8) (by rw [eu_2]; exact hsl.1) (by rw [eu_2]; exact hsl.2.1) (by rw [eu_2]; exact hsl.2.2.1) (by rw [eu_2]; exact hsl.2.2.2.1) (by rw [eu_2]; exact hsl.2.2.2.2.1) (by rw [eu_2]; exact hsl.2.2.2.2.2) H.size) (cwV 1 hts gX12_undo_X12_unstand rfl rfl rfl (by decide +kernel) ⟨Nat.le_of_ble_eq_true rfl, Nat.le_of_ble_eq_true rfl⟩) ⟨gw_fb, va_recv hK hP (ci := 11) (q0 := 0) rfl rfl, fun U hU hW => ⟨rfl, by rw [hU], pw_to hU hW hP hK hN, hD.weaken (fun _ _ _ _ => trivial)⟩⟩ rfl rfl hl.1 rfl (lv_room (Nat.le_of_ble_eq_true rfl)) dX12_undo_66 ⟨Nat.le_of_ble_eq_true rfl, Nat.le_of_ble_eq_true rfl⟩) hS (fun q _ h => hFc q h) hFc (fun u_5 t H1 locs ht hvm hw hB hz1 hk1 hS => ?_)
  obtain ⟨hP, hD1⟩ := hB
  rw [ht] at hP
  have hD := hD1.weaken (fun _ q _ h => hFc q.1 h)
  generalize H1 = H at hP hS ⊢
  have eu_5 := hw
  refine lv_goto (tgt := 193) hx hb dX12_undo_69 (by decide) ?_
  refine lv_aload_n hx hb dX12_undo_193 rfl (lv_at hl 1 rfl) ?_
  refine va_get (D := (dC, dI)) (ci := 11) (v := .int (u_5.1 28)) (C := RX12) (T := TX12) (N := 52) hx hb hts (by decide +kernel) hown hK hP 0 rfl rfl 28 (by decide) (hts (.fieldLink RX12 158 "PageOneModel" "acts" "I") (by decide +kernel)) (fun _ h9 => h9) rfl dX12_undo_194 ?_
  exact W.iret (v := (u_5.1 28)) hx hb hr (fun t ht hW => ⟨⟨(u_5.1 28), u_5, rfl, ⟨(by rw [eu_5, eu_2]; exact back_28 u), (by rw [eu_5, eu_2]; rfl)⟩, by rw [ht]; exact hP, hD⟩, hS.F ht⟩) hS.2.2 dX12_undo_197
set_option maxHeartbeats 4000000 in
set_option maxRecDepth 100000 in
theorem n_undoL (l : Launch) (dC : Nat → ClassId) (dI : Nat → Nat → Nat) (h0 : Nat) (v : Nat → Nat) (cI cZ : ClassId) (u : mS) (a : Nat) (P X Y D N : Nat) (hPP : P < 12) (hXW : X + D ≤ 8) (hYN : Y + N ≤ 60) (ha8 : a < 80) (h30 : u.2 30 (u.1 28 - 1).toNatClampNeg = nI a) (h31 : u.2 31 (u.1 28 - 1).toNatClampNeg = nI P) (h32 : u.2 32 (u.1 28 - 1).toNatClampNeg = nI X) (h33 : u.2 33 (u.1 28 - 1).toNatClampNeg = nI Y) (h34 : u.2 34 (u.1 28 - 1).toNatClampNeg = nI D) (h35 : u.2 35 (u.1 28 - 1).toNatClampNeg = nI N) (hq5 : bw (u.2 22 (nI a).toNatClampNeg) 0 5 = true) (hz0 : ¬ u.1 28 = 0) (ha1 : bw (u.1 28 - 1) 0 299 = true) (h29 : u.2 29 (u.1 28 - 1).toNatClampNeg = 1) (sz : Nat) : Met l yX12_undo wsX12_undo ({ frames := 3, cells := 0, slots := 0, locals := 77 }) (va_Pc [.ref h0] (fun U => U.heap.size = sz ∧ PW dC dI (mW h0 v cI cZ u) [(cI, .int), (cZ, .boolean)] U ∧ va_D (fun _ => True) (mW h0 v cI cZ u))) (va_Qi (fun (r : Int32) (u9 : mS) => r = u.1 28 - 1 ∧ u9 = mStand (mBack u) (nI a) P X Y D N) (fun u9 t => va_P (dC, dI) vwCl (mW h0 v cI cZ u9) t.heap ∧ va_D (va_A (mW h0 v cI cZ u) sz) (mW h0 v cI cZ u9)) (va_A (mW h0 v cI cZ u) sz)) 0 0 (va_A (mW h0 v cI cZ u) sz) := by
  refine Met.ofW (cc := cX12_undo) (maxL := 3) (ret := (some .int)) (by decide) rfl ?_
  intro p e s m args below meth c s₁ B hml hv
  obtain ⟨rfl, hsz, ⟨hP, hK, hN⟩, hD0⟩ := hv
  have hx := B.exec
  have hb := B.bytes
  have hr := B.returns
  have hts := atoms_spec (ws := wsX12_undo) B.pre
  have hown : s.vm.findClass RX12 = some m.cls := findClass_of_methodNamed B.named
  have hlocks := B.notSynchronized
  subst hsz
  have hD := hD0.self (sz := s.heap.size)
  generalize hAe : va_A (mW h0 v cI cZ u) s.heap.size = A at hD ⊢
  have hA : ∀ q : Nat, s.heap.size ≤ q → A q := fun q h => by rw [← hAe]; exact Or.inr h
  have hS : va_S A s.heap s.heap [] := va_S.rf
  have hl := lv_entry ([.ref h0]) (n := 3) (Nat.le_of_ble_eq_true rfl)
  rw [lg_entry_eq]
  generalize (lg_sl ([.ref h0]) ++ List.replicate (3 - (lg_sl ([.ref h0])).length) Slot.unset).toArray = ls at hl ⊢
  have hl : lv_has ls 3 [(0, .ref h0)] := hl
  refine lv_aload_n hx hb dX12_undo_0 rfl (lv_at hl 0 rfl) ?_
  refine va_get (D := (dC, dI)) (ci := 11) (v := .int (u.1 28)) (C := RX12) (T := TX12) (N := 52) hx hb hts (by decide +kernel) hown hK hP 0 rfl rfl 28 (by decide) (hts (.fieldLink RX12 158 "PageOneModel" "acts" "I") (by decide +kernel)) (fun _ h9 => h9) rfl dX12_undo_1 ?_
  refine lv_if_ne (tgt := 9) hx hb dX12_undo_4 (by decide) (fun c_1 => ?_) (fun c_1 => absurd c_1 (hz0))
  refine lv_aload_n hx hb dX12_undo_9 rfl (lv_at hl 0 rfl) ?_
  refine lv_dup hx hb dX12_undo_10 rfl ?_
  refine va_get (D := (dC, dI)) (ci := 11) (v := .int (u.1 28)) (C := RX12) (T := TX12) (N := 52) hx hb hts (by decide +kernel) hown hK hP 0 rfl rfl 28 (by decide) (hts (.fieldLink RX12 158 "PageOneModel" "acts" "I") (by decide +kernel)) (fun _ h9 => h9) rfl dX12_undo_11 ?_
  refine lv_iconst (v := 1) hx hb dX12_undo_14 (by decide) ?_
  refine lv_isub hx hb dX12_undo_15 ?_
  refine va_put (D := (dC, dI)) (ci := 11) (v := .int ((u.1 28) - 1)) (ty := .int) (C := RX12) (T := TX12) (N := 52) hx hb hts (by decide +kernel) tyX12 tyX12_ok nmX12 hown hK hP hD hS 0 rfl rfl 28 (by decide) (hts (.fieldLink RX12 158 "PageOneModel" "acts" "I") (by decide +kernel)) (fun _ h9 => h9) rfl (by decide +kernel) rfl rfl (Nat.le_of_ble_eq_true rfl) dX12_undo_16 (fun H locs hP hD hS => ?_)
  obtain ⟨u_2, eu_2⟩ : ∃ zz : mS, zz = mset u 28 ((u.1 28) - 1) := ⟨_, rfl⟩
  have hP : va_P (dC, dI) vwCl (mW h0 v cI cZ u_2) H := by rw [eu_2]; exact hP
  have hD : va_D A (mW h0 v cI cZ u_2) := by rw [eu_2]; exact hD
  refine lv_aload_n hx hb dX12_undo_19 rfl (lv_at hl 0 rfl) ?_
  refine va_get (D := (dC, dI)) (ci := 11) (v := .ref (v 30)) (C := RX12) (T := TX12) (N := 52) hx hb hts (by decide +kernel) hown hK hP 0 rfl rfl 30 (by decide) (hts (.fieldLink RX12 95 "PageOneModel" "actA" "[I") (by decide +kernel)) (fun _ h9 => h9) rfl dX12_undo_20 ?_
  refine lv_aload_n hx hb dX12_undo_23 rfl (lv_at hl 0 rfl) ?_
  refine va_get (D := (dC, dI)) (ci := 11) (v := .int (u_2.1 28)) (C := RX12) (T := TX12) (N := 52) hx hb hts (by decide +kernel) hown hK hP 0 rfl rfl 28 (by decide) (hts (.fieldLink RX12 158 "PageOneModel" "acts" "I") (by decide +kernel)) (fun _ h9 => h9) rfl dX12_undo_24 ?_
  refine va_iald hx hb hK hP 29 0 rfl rfl (by rw [eu_2, mset_same]; exact vAct ha1) dX12_undo_27 ?_
  refine lv_topi (fun y_3 ey_3 => ?_)
  obtain rfl : y_3 = (nI a) := ey_3.trans ((by rw [eu_2, mset_same]; exact h30))
  refine lv_istore_n (lv' := [(1, .int (nI a)), (0, .ref h0)]) hx hb dX12_undo_28 rfl hl (by decide) rfl (fun ls hl => ?_)
  refine lv_aload_n hx hb dX12_undo_29 rfl (lv_at hl 1 rfl) ?_
  refine va_get (D := (dC, dI)) (ci := 11) (v := .ref (v 29)) (C := RX12) (T := TX12) (N := 52) hx hb hts (by decide +kernel) hown hK hP 0 rfl rfl 29 (by decide) (hts (.fieldLink RX12 92 "PageOneModel" "actKind" "[I") (by decide +kernel)) (fun _ h9 => h9) rfl dX12_undo_30 ?_
  refine lv_aload_n hx hb dX12_undo_33 rfl (lv_at hl 1 rfl) ?_
  refine va_get (D := (dC, dI)) (ci := 11) (v := .int (u_2.1 28)) (C := RX12) (T := TX12) (N := 52) hx hb hts (by decide +kernel) hown hK hP 0 rfl rfl 28 (by decide) (hts (.fieldLink RX12 158 "PageOneModel" "acts" "I") (by decide +kernel)) (fun _ h9 => h9) rfl dX12_undo_34 ?_
  refine va_iald hx hb hK hP 28 0 rfl rfl (by rw [eu_2, mset_same]; exact vAct ha1) dX12_undo_37 ?_
  refine lv_topi (fun y_4 ey_4 => ?_)
  obtain rfl : y_4 = 1 := ey_4.trans ((by rw [eu_2, mset_same]; exact h29))
  refine lv_tableIn (tgt := 72) (off := 34) hx hb dX12_undo_38 (by decide) (by decide) (by decide) (by decide) ?_
  refine lv_aload_n hx hb dX12_undo_72 rfl (lv_at hl 1 rfl) ?_
  refine lv_iload_n hx hb dX12_undo_73 rfl (lv_at hl 0 rfl) ?_
  refine lv_aload_n hx hb dX12_undo_74 rfl (lv_at hl 1 rfl) ?_
  refine va_get (D := (dC, dI)) (ci := 11) (v := .ref (v 31)) (C := RX12) (T := TX12) (N := 52) hx hb hts (by decide +kernel) hown hK hP 0 rfl rfl 31 (by decide) (hts (.fieldLink RX12 98 "PageOneModel" "actB" "[I") (by decide +kernel)) (fun _ h9 => h9) rfl dX12_undo_75 ?_
  refine lv_aload_n hx hb dX12_undo_78 rfl (lv_at hl 1 rfl) ?_
  refine va_get (D := (dC, dI)) (ci := 11) (v := .int (u_2.1 28)) (C := RX12) (T := TX12) (N := 52) hx hb hts (by decide +kernel) hown hK hP 0 rfl rfl 28 (by decide) (hts (.fieldLink RX12 158 "PageOneModel" "acts" "I") (by decide +kernel)) (fun _ h9 => h9) rfl dX12_undo_79 ?_
  refine va_iald hx hb hK hP 30 0 rfl rfl (by rw [eu_2, mset_same]; exact vAct ha1) dX12_undo_82 ?_
  refine lv_topi (fun y_5 ey_5 => ?_)
  obtain rfl : y_5 = (nI P) := ey_5.trans ((by rw [eu_2, mset_same]; exact h31))
  refine lv_aload_n hx hb dX12_undo_83 rfl (lv_at hl 1 rfl) ?_
  refine va_get (D := (dC, dI)) (ci := 11) (v := .ref (v 32)) (C := RX12) (T := TX12) (N := 52) hx hb hts (by decide +kernel) hown hK hP 0 rfl rfl 32 (by decide) (hts (.fieldLink RX12 101 "PageOneModel" "actC" "[I") (by decide +kernel)) (fun _ h9 => h9) rfl dX12_undo_84 ?_
  refine lv_aload_n hx hb dX12_undo_87 rfl (lv_at hl 1 rfl) ?_
  refine va_get (D := (dC, dI)) (ci := 11) (v := .int (u_2.1 28)) (C := RX12) (T := TX12) (N := 52) hx hb hts (by decide +kernel) hown hK hP 0 rfl rfl 28 (by decide) (hts (.fieldLink RX12 158 "PageOneModel" "acts" "I") (by decide +kernel)) (fun _ h9 => h9) rfl dX12_undo_88 ?_
  refine va_iald hx hb hK hP 31 0 rfl rfl (by rw [eu_2, mset_same]; exact vAct ha1) dX12_undo_91 ?_
  refine lv_topi (fun y_6 ey_6 => ?_)
  obtain rfl : y_6 = (nI X) := ey_6.trans ((by rw [eu_2, mset_same]; exact h32))
  refine lv_aload_n hx hb dX12_undo_92 rfl (lv_at hl 1 rfl) ?_
  refine va_get (D := (dC, dI)) (ci := 11) (v := .ref (v 33)) (C := RX12) (T := TX12) (N := 52) hx hb hts (by decide +kernel) hown hK hP 0 rfl rfl 33 (by decide) (hts (.fieldLink RX12 104 "PageOneModel" "actD" "[I") (by decide +kernel)) (fun _ h9 => h9) rfl dX12_undo_93 ?_
  refine lv_aload_n hx hb dX12_undo_96 rfl (lv_at hl 1 rfl) ?_
  refine va_get (D := (dC, dI)) (ci := 11) (v := .int (u_2.1 28)) (C := RX12) (T := TX12) (N := 52) hx hb hts (by decide +kernel) hown hK hP 0 rfl rfl 28 (by decide) (hts (.fieldLink RX12 158 "PageOneModel" "acts" "I") (by decide +kernel)) (fun _ h9 => h9) rfl dX12_undo_97 ?_
  refine va_iald hx hb hK hP 32 0 rfl rfl (by rw [eu_2, mset_same]; exact vAct ha1) dX12_undo_100 ?_
  refine lv_topi (fun y_7 ey_7 => ?_)
  obtain rfl : y_7 = (nI Y) := ey_7.trans ((by rw [eu_2, mset_same]; exact h33))
  refine lv_aload_n hx hb dX12_undo_101 rfl (lv_at hl 1 rfl) ?_
  refine va_get (D := (dC, dI)) (ci := 11) (v := .ref (v 34)) (C := RX12) (T := TX12) (N := 52) hx hb hts (by decide +kernel) hown hK hP 0 rfl rfl 34 (by decide) (hts (.fieldLink RX12 107 "PageOneModel" "actE" "[I") (by decide +kernel)) (fun _ h9 => h9) rfl dX12_undo_102 ?_
  refine lv_aload_n hx hb dX12_undo_105 rfl (lv_at hl 1 rfl) ?_
  refine va_get (D := (dC, dI)) (ci := 11) (v := .int (u_2.1 28)) (C := RX12) (T := TX12) (N := 52) hx hb hts (by decide +kernel) hown hK hP 0 rfl rfl 28 (by decide) (hts (.fieldLink RX12 158 "PageOneModel" "acts" "I") (by decide +kernel)) (fun _ h9 => h9) rfl dX12_undo_106 ?_
  refine va_iald hx hb hK hP 33 0 rfl rfl (by rw [eu_2, mset_same]; exact vAct ha1) dX12_undo_109 ?_
  refine lv_topi (fun y_8 ey_8 => ?_)
  obtain rfl : y_8 = (nI D) := ey_8.trans ((by rw [eu_2, mset_same]; exact h34))
  refine lv_aload_n hx hb dX12_undo_110 rfl (lv_at hl 1 rfl) ?_
  refine va_get (D := (dC, dI)) (ci := 11) (v := .ref (v 35)) (C := RX12) (T := TX12) (N := 52) hx hb hts (by decide +kernel) hown hK hP 0 rfl rfl 35 (by decide) (hts (.fieldLink RX12 110 "PageOneModel" "actF" "[I") (by decide +kernel)) (fun _ h9 => h9) rfl dX12_undo_111 ?_
  refine lv_aload_n hx hb dX12_undo_114 rfl (lv_at hl 1 rfl) ?_
  refine va_get (D := (dC, dI)) (ci := 11) (v := .int (u_2.1 28)) (C := RX12) (T := TX12) (N := 52) hx hb hts (by decide +kernel) hown hK hP 0 rfl rfl 28 (by decide) (hts (.fieldLink RX12 158 "PageOneModel" "acts" "I") (by decide +kernel)) (fun _ h9 => h9) rfl dX12_undo_115 ?_
  refine va_iald hx hb hK hP 34 0 rfl rfl (by rw [eu_2, mset_same]; exact vAct ha1) dX12_undo_118 ?_
  refine lv_topi (fun y_9 ey_9 => ?_)
  obtain rfl : y_9 = (nI N) := ey_9.trans ((by rw [eu_2, mset_same]; exact h35))
  have hFc := fr_all hD hS hA
  refine va_callv (va_runV (As := [.int (nI a), .int (nI P), .int (nI X), .int (nI Y), .int (nI D), .int (nI N)]) (rest := []) ⟨hx, hb, hml, hown, hts⟩ (m_stand l dC dI h0 v cI cZ u_2 (nI a) P X Y D N hPP hXW hYN (bw79 ha8) (by rw [eu_2]; exact hq5) H.size) (cwV 6 hts gX12_undo_X12_stand rfl rfl rfl (by decide +kernel) ⟨Nat.le_of_ble_eq_true rfl, Nat.le_of_ble_eq_true rfl⟩) ⟨gw_fb, va_recv hK hP (ci := 11) (q0 := 0) rfl rfl, fun U hU hW => ⟨rfl, by rw [hU], pw_to hU hW hP hK hN, hD.weaken (fun _ _ _ _ => trivial)⟩⟩ rfl rfl hl.1 rfl (lv_room (Nat.le_of_ble_eq_true rfl)) dX12_undo_119 ⟨Nat.le_of_ble_eq_true rfl, Nat.le_of_ble_eq_true rfl⟩) hS (fun q _ h => hFc q h) hFc (fun u_10 t H1 locs ht hvm hw hB hz1 hk1 hS => ?_)
  obtain ⟨hP, hD1⟩ := hB
  rw [ht] at hP
  have hD := hD1.weaken (fun _ q _ h => hFc q.1 h)
  generalize H1 = H at hP hS ⊢
  have eu_10 := hw
  refine lv_goto (tgt := 193) hx hb dX12_undo_122 (by decide) ?_
  refine lv_aload_n hx hb dX12_undo_193 rfl (lv_at hl 1 rfl) ?_
  refine va_get (D := (dC, dI)) (ci := 11) (v := .int (u_10.1 28)) (C := RX12) (T := TX12) (N := 52) hx hb hts (by decide +kernel) hown hK hP 0 rfl rfl 28 (by decide) (hts (.fieldLink RX12 158 "PageOneModel" "acts" "I") (by decide +kernel)) (fun _ h9 => h9) rfl dX12_undo_194 ?_
  exact W.iret (v := (u_10.1 28)) hx hb hr (fun t ht hW => ⟨⟨(u_10.1 28), u_10, rfl, ⟨(by rw [eu_10, eu_2]; exact back_28 u), (by rw [eu_10, eu_2]; rfl)⟩, by rw [ht]; exact hP, hD⟩, hS.F ht⟩) hS.2.2 dX12_undo_197
set_option maxHeartbeats 4000000 in
set_option maxRecDepth 100000 in
theorem n_undoR (l : Launch) (dC : Nat → ClassId) (dI : Nat → Nat → Nat) (h0 : Nat) (v : Nat → Nat) (cI cZ : ClassId) (u : mS) (P X Y : Nat) (hPP : P < 12) (hX8 : X < 8) (hY6 : Y < 60) (h30 : u.2 30 (u.1 28 - 1).toNatClampNeg = nI P) (h31 : u.2 31 (u.1 28 - 1).toNatClampNeg = nI X) (h32 : u.2 32 (u.1 28 - 1).toNatClampNeg = nI Y) (hz0 : ¬ u.1 28 = 0) (ha1 : bw (u.1 28 - 1) 0 299 = true) (h29 : u.2 29 (u.1 28 - 1).toNatClampNeg = 2) (sz : Nat) : Met l yX12_undo wsX12_undo ({ frames := 3, cells := 0, slots := 0, locals := 77 }) (va_Pc [.ref h0] (fun U => U.heap.size = sz ∧ PW dC dI (mW h0 v cI cZ u) [(cI, .int), (cZ, .boolean)] U ∧ va_D (fun _ => True) (mW h0 v cI cZ u))) (va_Qi (fun (r : Int32) (u9 : mS) => r = u.1 28 - 1 ∧ u9 = mst (mBack u) 2 (480 * nI P + 60 * nI X + nI Y) (-2)) (fun u9 t => va_P (dC, dI) vwCl (mW h0 v cI cZ u9) t.heap ∧ va_D (va_A (mW h0 v cI cZ u) sz) (mW h0 v cI cZ u9)) (va_A (mW h0 v cI cZ u) sz)) 0 0 (va_A (mW h0 v cI cZ u) sz) := by
  refine Met.ofW (cc := cX12_undo) (maxL := 3) (ret := (some .int)) (by decide) rfl ?_
  intro p e s m args below meth c s₁ B hml hv
  obtain ⟨rfl, hsz, ⟨hP, hK, hN⟩, hD0⟩ := hv
  have hx := B.exec
  have hb := B.bytes
  have hr := B.returns
  have hts := atoms_spec (ws := wsX12_undo) B.pre
  have hown : s.vm.findClass RX12 = some m.cls := findClass_of_methodNamed B.named
  have hlocks := B.notSynchronized
  subst hsz
  have hD := hD0.self (sz := s.heap.size)
  generalize hAe : va_A (mW h0 v cI cZ u) s.heap.size = A at hD ⊢
  have hA : ∀ q : Nat, s.heap.size ≤ q → A q := fun q h => by rw [← hAe]; exact Or.inr h
  have hS : va_S A s.heap s.heap [] := va_S.rf
  have hl := lv_entry ([.ref h0]) (n := 3) (Nat.le_of_ble_eq_true rfl)
  rw [lg_entry_eq]
  generalize (lg_sl ([.ref h0]) ++ List.replicate (3 - (lg_sl ([.ref h0])).length) Slot.unset).toArray = ls at hl ⊢
  have hl : lv_has ls 3 [(0, .ref h0)] := hl
  refine lv_aload_n hx hb dX12_undo_0 rfl (lv_at hl 0 rfl) ?_
  refine va_get (D := (dC, dI)) (ci := 11) (v := .int (u.1 28)) (C := RX12) (T := TX12) (N := 52) hx hb hts (by decide +kernel) hown hK hP 0 rfl rfl 28 (by decide) (hts (.fieldLink RX12 158 "PageOneModel" "acts" "I") (by decide +kernel)) (fun _ h9 => h9) rfl dX12_undo_1 ?_
  refine lv_if_ne (tgt := 9) hx hb dX12_undo_4 (by decide) (fun c_1 => ?_) (fun c_1 => absurd c_1 (hz0))
  refine lv_aload_n hx hb dX12_undo_9 rfl (lv_at hl 0 rfl) ?_
  refine lv_dup hx hb dX12_undo_10 rfl ?_
  refine va_get (D := (dC, dI)) (ci := 11) (v := .int (u.1 28)) (C := RX12) (T := TX12) (N := 52) hx hb hts (by decide +kernel) hown hK hP 0 rfl rfl 28 (by decide) (hts (.fieldLink RX12 158 "PageOneModel" "acts" "I") (by decide +kernel)) (fun _ h9 => h9) rfl dX12_undo_11 ?_
  refine lv_iconst (v := 1) hx hb dX12_undo_14 (by decide) ?_
  refine lv_isub hx hb dX12_undo_15 ?_
  refine va_put (D := (dC, dI)) (ci := 11) (v := .int ((u.1 28) - 1)) (ty := .int) (C := RX12) (T := TX12) (N := 52) hx hb hts (by decide +kernel) tyX12 tyX12_ok nmX12 hown hK hP hD hS 0 rfl rfl 28 (by decide) (hts (.fieldLink RX12 158 "PageOneModel" "acts" "I") (by decide +kernel)) (fun _ h9 => h9) rfl (by decide +kernel) rfl rfl (Nat.le_of_ble_eq_true rfl) dX12_undo_16 (fun H locs hP hD hS => ?_)
  obtain ⟨u_2, eu_2⟩ : ∃ zz : mS, zz = mset u 28 ((u.1 28) - 1) := ⟨_, rfl⟩
  have hP : va_P (dC, dI) vwCl (mW h0 v cI cZ u_2) H := by rw [eu_2]; exact hP
  have hD : va_D A (mW h0 v cI cZ u_2) := by rw [eu_2]; exact hD
  refine lv_aload_n hx hb dX12_undo_19 rfl (lv_at hl 0 rfl) ?_
  refine va_get (D := (dC, dI)) (ci := 11) (v := .ref (v 30)) (C := RX12) (T := TX12) (N := 52) hx hb hts (by decide +kernel) hown hK hP 0 rfl rfl 30 (by decide) (hts (.fieldLink RX12 95 "PageOneModel" "actA" "[I") (by decide +kernel)) (fun _ h9 => h9) rfl dX12_undo_20 ?_
  refine lv_aload_n hx hb dX12_undo_23 rfl (lv_at hl 0 rfl) ?_
  refine va_get (D := (dC, dI)) (ci := 11) (v := .int (u_2.1 28)) (C := RX12) (T := TX12) (N := 52) hx hb hts (by decide +kernel) hown hK hP 0 rfl rfl 28 (by decide) (hts (.fieldLink RX12 158 "PageOneModel" "acts" "I") (by decide +kernel)) (fun _ h9 => h9) rfl dX12_undo_24 ?_
  refine va_iald hx hb hK hP 29 0 rfl rfl (by rw [eu_2, mset_same]; exact vAct ha1) dX12_undo_27 ?_
  refine lv_topi (fun y_3 ey_3 => ?_)
  obtain rfl : y_3 = (nI P) := ey_3.trans ((by rw [eu_2, mset_same]; exact h30))
  refine lv_istore_n (lv' := [(1, .int (nI P)), (0, .ref h0)]) hx hb dX12_undo_28 rfl hl (by decide) rfl (fun ls hl => ?_)
  refine lv_aload_n hx hb dX12_undo_29 rfl (lv_at hl 1 rfl) ?_
  refine va_get (D := (dC, dI)) (ci := 11) (v := .ref (v 29)) (C := RX12) (T := TX12) (N := 52) hx hb hts (by decide +kernel) hown hK hP 0 rfl rfl 29 (by decide) (hts (.fieldLink RX12 92 "PageOneModel" "actKind" "[I") (by decide +kernel)) (fun _ h9 => h9) rfl dX12_undo_30 ?_
  refine lv_aload_n hx hb dX12_undo_33 rfl (lv_at hl 1 rfl) ?_
  refine va_get (D := (dC, dI)) (ci := 11) (v := .int (u_2.1 28)) (C := RX12) (T := TX12) (N := 52) hx hb hts (by decide +kernel) hown hK hP 0 rfl rfl 28 (by decide) (hts (.fieldLink RX12 158 "PageOneModel" "acts" "I") (by decide +kernel)) (fun _ h9 => h9) rfl dX12_undo_34 ?_
  refine va_iald hx hb hK hP 28 0 rfl rfl (by rw [eu_2, mset_same]; exact vAct ha1) dX12_undo_37 ?_
  refine lv_topi (fun y_4 ey_4 => ?_)
  obtain rfl : y_4 = 2 := ey_4.trans ((by rw [eu_2, mset_same]; exact h29))
  refine lv_tableIn (tgt := 125) (off := 87) hx hb dX12_undo_38 (by decide) (by decide) (by decide) (by decide) ?_
  refine lv_aload_n hx hb dX12_undo_125 rfl (lv_at hl 1 rfl) ?_
  refine va_get (D := (dC, dI)) (ci := 11) (v := .ref (v 2)) (C := RX12) (T := TX12) (N := 52) hx hb hts (by decide +kernel) hown hK hP 0 rfl rfl 2 (by decide) (hts (.fieldLink RX12 16 "PageOneModel" "cell" "[I") (by decide +kernel)) (fun _ h9 => h9) rfl dX12_undo_126 ?_
  refine lv_iload_n hx hb dX12_undo_129 rfl (lv_at hl 0 rfl) ?_
  refine lv_aload_n hx hb dX12_undo_130 rfl (lv_at hl 1 rfl) ?_
  refine va_get (D := (dC, dI)) (ci := 11) (v := .ref (v 31)) (C := RX12) (T := TX12) (N := 52) hx hb hts (by decide +kernel) hown hK hP 0 rfl rfl 31 (by decide) (hts (.fieldLink RX12 98 "PageOneModel" "actB" "[I") (by decide +kernel)) (fun _ h9 => h9) rfl dX12_undo_131 ?_
  refine lv_aload_n hx hb dX12_undo_134 rfl (lv_at hl 1 rfl) ?_
  refine va_get (D := (dC, dI)) (ci := 11) (v := .int (u_2.1 28)) (C := RX12) (T := TX12) (N := 52) hx hb hts (by decide +kernel) hown hK hP 0 rfl rfl 28 (by decide) (hts (.fieldLink RX12 158 "PageOneModel" "acts" "I") (by decide +kernel)) (fun _ h9 => h9) rfl dX12_undo_135 ?_
  refine va_iald hx hb hK hP 30 0 rfl rfl (by rw [eu_2, mset_same]; exact vAct ha1) dX12_undo_138 ?_
  refine lv_topi (fun y_5 ey_5 => ?_)
  obtain rfl : y_5 = (nI X) := ey_5.trans ((by rw [eu_2, mset_same]; exact h31))
  refine lv_aload_n hx hb dX12_undo_139 rfl (lv_at hl 1 rfl) ?_
  refine va_get (D := (dC, dI)) (ci := 11) (v := .ref (v 32)) (C := RX12) (T := TX12) (N := 52) hx hb hts (by decide +kernel) hown hK hP 0 rfl rfl 32 (by decide) (hts (.fieldLink RX12 101 "PageOneModel" "actC" "[I") (by decide +kernel)) (fun _ h9 => h9) rfl dX12_undo_140 ?_
  refine lv_aload_n hx hb dX12_undo_143 rfl (lv_at hl 1 rfl) ?_
  refine va_get (D := (dC, dI)) (ci := 11) (v := .int (u_2.1 28)) (C := RX12) (T := TX12) (N := 52) hx hb hts (by decide +kernel) hown hK hP 0 rfl rfl 28 (by decide) (hts (.fieldLink RX12 158 "PageOneModel" "acts" "I") (by decide +kernel)) (fun _ h9 => h9) rfl dX12_undo_144 ?_
  refine va_iald hx hb hK hP 31 0 rfl rfl (by rw [eu_2, mset_same]; exact vAct ha1) dX12_undo_147 ?_
  refine lv_topi (fun y_6 ey_6 => ?_)
  obtain rfl : y_6 = (nI Y) := ey_6.trans ((by rw [eu_2, mset_same]; exact h32))
  refine vp_callSi (va_runS (As := [.int (nI P), .int (nI X), .int (nI Y)]) (rest := [.ref (v 2)]) ⟨hx, hb, hml, hown, hts⟩ (m_at l dC dI (nI P) (nI X) (nI Y)) (va_cwS 3 hts gX12_undo_X12_at rfl rfl rfl (by decide +kernel) ⟨Nat.le_of_ble_eq_true rfl, Nat.le_of_ble_eq_true rfl⟩) ⟨pw_fb, fun U hU hW => ⟨rfl, pw_to hU hW (hP.sub (ws' := []) [] rfl) (hK.sub (tys' := []) [] rfl) hN⟩⟩ rfl rfl hl.1 rfl (lv_room (Nat.le_of_ble_eq_true rfl)) dX12_undo_148 ⟨Nat.le_of_ble_eq_true rfl, Nat.le_of_ble_eq_true rfl⟩).run (fun r hw => ?_)
  obtain rfl : r = (480 * (nI P) + 60 * (nI X) + (nI Y)) := hw
  refine lv_bipush (v := (-2)) hx hb dX12_undo_151 (by decide) ?_
  refine va_iast hx hb hK hP hD hS 3 0 rfl rfl (idxV hPP hX8 hY6) dX12_undo_153 (fun H locs hP hD hS => ?_)
  obtain ⟨u_7, eu_7⟩ : ∃ zz : mS, zz = mst u_2 2 (480 * (nI P) + 60 * (nI X) + (nI Y)) (-2) := ⟨_, rfl⟩
  have hP : va_P (dC, dI) vwCl (mW h0 v cI cZ u_7) H := by rw [eu_7]; exact hP
  have hD : va_D A (mW h0 v cI cZ u_7) := by rw [eu_7]; exact hD
  refine lv_goto (tgt := 193) hx hb dX12_undo_154 (by decide) ?_
  refine lv_aload_n hx hb dX12_undo_193 rfl (lv_at hl 1 rfl) ?_
  refine va_get (D := (dC, dI)) (ci := 11) (v := .int (u_7.1 28)) (C := RX12) (T := TX12) (N := 52) hx hb hts (by decide +kernel) hown hK hP 0 rfl rfl 28 (by decide) (hts (.fieldLink RX12 158 "PageOneModel" "acts" "I") (by decide +kernel)) (fun _ h9 => h9) rfl dX12_undo_194 ?_
  exact W.iret (v := (u_7.1 28)) hx hb hr (fun t ht hW => ⟨⟨(u_7.1 28), u_7, rfl, ⟨(by rw [eu_7, eu_2]; exact back_28 u), (by rw [eu_7, eu_2]; rfl)⟩, by rw [ht]; exact hP, hD⟩, hS.F ht⟩) hS.2.2 dX12_undo_197
set_option maxHeartbeats 4000000 in
set_option maxRecDepth 100000 in
theorem n_undoF (l : Launch) (dC : Nat → ClassId) (dI : Nat → Nat → Nat) (h0 : Nat) (v : Nat → Nat) (cI cZ : ClassId) (u : mS) (xs : List fX) (hK8 : xs.length ≤ 1000) (h30 : u.2 30 (u.1 28 - 1).toNatClampNeg = nI xs.length) (hpop : popOK (mBack u) xs) (hz0 : ¬ u.1 28 = 0) (ha1 : bw (u.1 28 - 1) 0 299 = true) (h29 : u.2 29 (u.1 28 - 1).toNatClampNeg = 3) (sz : Nat) : Met l yX12_undo wsX12_undo ({ frames := 3, cells := 0, slots := 0, locals := 77 }) (va_Pc [.ref h0] (fun U => U.heap.size = sz ∧ PW dC dI (mW h0 v cI cZ u) [(cI, .int), (cZ, .boolean)] U ∧ va_D (fun _ => True) (mW h0 v cI cZ u))) (va_Qi (fun (r : Int32) (u9 : mS) => r = u.1 28 - 1 ∧ u9 = popAll (mBack u) xs) (fun u9 t => va_P (dC, dI) vwCl (mW h0 v cI cZ u9) t.heap ∧ va_D (va_A (mW h0 v cI cZ u) sz) (mW h0 v cI cZ u9)) (va_A (mW h0 v cI cZ u) sz)) 0 0 (va_A (mW h0 v cI cZ u) sz) := by
  refine Met.ofW (cc := cX12_undo) (maxL := 3) (ret := (some .int)) (by decide) rfl ?_
  intro p e s m args below meth c s₁ B hml hv
  obtain ⟨rfl, hsz, ⟨hP, hK, hN⟩, hD0⟩ := hv
  have hx := B.exec
  have hb := B.bytes
  have hr := B.returns
  have hts := atoms_spec (ws := wsX12_undo) B.pre
  have hown : s.vm.findClass RX12 = some m.cls := findClass_of_methodNamed B.named
  have hlocks := B.notSynchronized
  subst hsz
  have hD := hD0.self (sz := s.heap.size)
  generalize hAe : va_A (mW h0 v cI cZ u) s.heap.size = A at hD ⊢
  have hA : ∀ q : Nat, s.heap.size ≤ q → A q := fun q h => by rw [← hAe]; exact Or.inr h
  have hS : va_S A s.heap s.heap [] := va_S.rf
  have hl := lv_entry ([.ref h0]) (n := 3) (Nat.le_of_ble_eq_true rfl)
  rw [lg_entry_eq]
  generalize (lg_sl ([.ref h0]) ++ List.replicate (3 - (lg_sl ([.ref h0])).length) Slot.unset).toArray = ls at hl ⊢
  have hl : lv_has ls 3 [(0, .ref h0)] := hl
  refine lv_aload_n hx hb dX12_undo_0 rfl (lv_at hl 0 rfl) ?_
  refine va_get (D := (dC, dI)) (ci := 11) (v := .int (u.1 28)) (C := RX12) (T := TX12) (N := 52) hx hb hts (by decide +kernel) hown hK hP 0 rfl rfl 28 (by decide) (hts (.fieldLink RX12 158 "PageOneModel" "acts" "I") (by decide +kernel)) (fun _ h9 => h9) rfl dX12_undo_1 ?_
  refine lv_if_ne (tgt := 9) hx hb dX12_undo_4 (by decide) (fun c_1 => ?_) (fun c_1 => absurd c_1 (hz0))
  refine lv_aload_n hx hb dX12_undo_9 rfl (lv_at hl 0 rfl) ?_
  refine lv_dup hx hb dX12_undo_10 rfl ?_
  refine va_get (D := (dC, dI)) (ci := 11) (v := .int (u.1 28)) (C := RX12) (T := TX12) (N := 52) hx hb hts (by decide +kernel) hown hK hP 0 rfl rfl 28 (by decide) (hts (.fieldLink RX12 158 "PageOneModel" "acts" "I") (by decide +kernel)) (fun _ h9 => h9) rfl dX12_undo_11 ?_
  refine lv_iconst (v := 1) hx hb dX12_undo_14 (by decide) ?_
  refine lv_isub hx hb dX12_undo_15 ?_
  refine va_put (D := (dC, dI)) (ci := 11) (v := .int ((u.1 28) - 1)) (ty := .int) (C := RX12) (T := TX12) (N := 52) hx hb hts (by decide +kernel) tyX12 tyX12_ok nmX12 hown hK hP hD hS 0 rfl rfl 28 (by decide) (hts (.fieldLink RX12 158 "PageOneModel" "acts" "I") (by decide +kernel)) (fun _ h9 => h9) rfl (by decide +kernel) rfl rfl (Nat.le_of_ble_eq_true rfl) dX12_undo_16 (fun H locs hP hD hS => ?_)
  obtain ⟨u_2, eu_2⟩ : ∃ zz : mS, zz = mset u 28 ((u.1 28) - 1) := ⟨_, rfl⟩
  have hP : va_P (dC, dI) vwCl (mW h0 v cI cZ u_2) H := by rw [eu_2]; exact hP
  have hD : va_D A (mW h0 v cI cZ u_2) := by rw [eu_2]; exact hD
  refine lv_aload_n hx hb dX12_undo_19 rfl (lv_at hl 0 rfl) ?_
  refine va_get (D := (dC, dI)) (ci := 11) (v := .ref (v 30)) (C := RX12) (T := TX12) (N := 52) hx hb hts (by decide +kernel) hown hK hP 0 rfl rfl 30 (by decide) (hts (.fieldLink RX12 95 "PageOneModel" "actA" "[I") (by decide +kernel)) (fun _ h9 => h9) rfl dX12_undo_20 ?_
  refine lv_aload_n hx hb dX12_undo_23 rfl (lv_at hl 0 rfl) ?_
  refine va_get (D := (dC, dI)) (ci := 11) (v := .int (u_2.1 28)) (C := RX12) (T := TX12) (N := 52) hx hb hts (by decide +kernel) hown hK hP 0 rfl rfl 28 (by decide) (hts (.fieldLink RX12 158 "PageOneModel" "acts" "I") (by decide +kernel)) (fun _ h9 => h9) rfl dX12_undo_24 ?_
  refine va_iald hx hb hK hP 29 0 rfl rfl (by rw [eu_2, mset_same]; exact vAct ha1) dX12_undo_27 ?_
  refine lv_topi (fun y_3 ey_3 => ?_)
  obtain rfl : y_3 = (nI xs.length) := ey_3.trans ((by rw [eu_2, mset_same]; exact h30))
  refine lv_topi (fun x_4 ex_4 => ?_)
  refine lv_istore_n (lv' := [(1, .int x_4), (0, .ref h0)]) hx hb dX12_undo_28 rfl hl (by decide) rfl (fun ls hl => ?_)
  refine lv_aload_n hx hb dX12_undo_29 rfl (lv_at hl 1 rfl) ?_
  refine va_get (D := (dC, dI)) (ci := 11) (v := .ref (v 29)) (C := RX12) (T := TX12) (N := 52) hx hb hts (by decide +kernel) hown hK hP 0 rfl rfl 29 (by decide) (hts (.fieldLink RX12 92 "PageOneModel" "actKind" "[I") (by decide +kernel)) (fun _ h9 => h9) rfl dX12_undo_30 ?_
  refine lv_aload_n hx hb dX12_undo_33 rfl (lv_at hl 1 rfl) ?_
  refine va_get (D := (dC, dI)) (ci := 11) (v := .int (u_2.1 28)) (C := RX12) (T := TX12) (N := 52) hx hb hts (by decide +kernel) hown hK hP 0 rfl rfl 28 (by decide) (hts (.fieldLink RX12 158 "PageOneModel" "acts" "I") (by decide +kernel)) (fun _ h9 => h9) rfl dX12_undo_34 ?_
  refine va_iald hx hb hK hP 28 0 rfl rfl (by rw [eu_2, mset_same]; exact vAct ha1) dX12_undo_37 ?_
  refine lv_topi (fun y_5 ey_5 => ?_)
  obtain rfl : y_5 = 3 := ey_5.trans ((by rw [eu_2, mset_same]; exact h29))
  refine lv_tableOut (tgt := 157) hx hb dX12_undo_38 (by decide) (by decide) ?_
  refine lv_iconst (v := 0) hx hb dX12_undo_157 (by decide) ?_
  refine lv_istore_n (lv' := [(2, .int 0), (1, .int x_4), (0, .ref h0)]) hx hb dX12_undo_158 rfl hl (by decide) rfl (fun ls hl => ?_)
  subst ex_4
  refine m_undoF_loop (w9 := popAll (mBack u) xs) (K := xs.length) hK8 hx hb hml hts hown hN hK (Nat.le_of_ble_eq_true rfl) (Nat.le_of_ble_eq_true rfl) (Nat.le_of_ble_eq_true rfl) (Nat.le_of_ble_eq_true rfl) hA (fun u2 H locs ls hg hP hD hS hl => ?_) (xs.length + 1) 0 u_2 _ _ xs ls (Nat.zero_le _) (by omega) ⟨by rw [eu_2]; exact hpop, by rw [eu_2]; rfl, rfl⟩ hP hD hS (lv_sub hl [0, 2, 1] rfl)
  refine lv_aload_n hx hb dX12_undo_193 rfl (lv_at hl 1 rfl) ?_
  refine va_get (D := (dC, dI)) (ci := 11) (v := .int (u2.1 28)) (C := RX12) (T := TX12) (N := 52) hx hb hts (by decide +kernel) hown hK hP 0 rfl rfl 28 (by decide) (hts (.fieldLink RX12 158 "PageOneModel" "acts" "I") (by decide +kernel)) (fun _ h9 => h9) rfl dX12_undo_194 ?_
  exact W.iret (v := (u2.1 28)) hx hb hr (fun t ht hW => ⟨⟨(u2.1 28), u2, rfl, ⟨by rw [hg, popAll_28, back_28], hg⟩, by rw [ht]; exact hP, hD⟩, hS.F ht⟩) hS.2.2 dX12_undo_197
set_option maxHeartbeats 4000000 in
set_option maxRecDepth 100000 in
theorem n_undoN (l : Launch) (dC : Nat → ClassId) (dI : Nat → Nat → Nat) (h0 : Nat) (v : Nat → Nat) (cI cZ : ClassId) (u : mS) (hz0 : u.1 28 = 0) (sz : Nat) : Met l yX12_undo wsX12_undo ({ frames := 3, cells := 0, slots := 0, locals := 77 }) (va_Pc [.ref h0] (fun U => U.heap.size = sz ∧ PW dC dI (mW h0 v cI cZ u) [(cI, .int), (cZ, .boolean)] U ∧ va_D (fun _ => True) (mW h0 v cI cZ u))) (va_Qi (fun (r : Int32) (u9 : mS) => r = (-1) ∧ u9 = u) (fun u9 t => va_P (dC, dI) vwCl (mW h0 v cI cZ u9) t.heap ∧ va_D (va_A (mW h0 v cI cZ u) sz) (mW h0 v cI cZ u9)) (va_A (mW h0 v cI cZ u) sz)) 0 0 (va_A (mW h0 v cI cZ u) sz) := by
  refine Met.ofW (cc := cX12_undo) (maxL := 3) (ret := (some .int)) (by decide) rfl ?_
  intro p e s m args below meth c s₁ B hml hv
  obtain ⟨rfl, hsz, ⟨hP, hK, hN⟩, hD0⟩ := hv
  have hx := B.exec
  have hb := B.bytes
  have hr := B.returns
  have hts := atoms_spec (ws := wsX12_undo) B.pre
  have hown : s.vm.findClass RX12 = some m.cls := findClass_of_methodNamed B.named
  have hlocks := B.notSynchronized
  subst hsz
  have hD := hD0.self (sz := s.heap.size)
  generalize hAe : va_A (mW h0 v cI cZ u) s.heap.size = A at hD ⊢
  have hA : ∀ q : Nat, s.heap.size ≤ q → A q := fun q h => by rw [← hAe]; exact Or.inr h
  have hS : va_S A s.heap s.heap [] := va_S.rf
  have hl := lv_entry ([.ref h0]) (n := 3) (Nat.le_of_ble_eq_true rfl)
  rw [lg_entry_eq]
  generalize (lg_sl ([.ref h0]) ++ List.replicate (3 - (lg_sl ([.ref h0])).length) Slot.unset).toArray = ls at hl ⊢
  have hl : lv_has ls 3 [(0, .ref h0)] := hl
  refine lv_aload_n hx hb dX12_undo_0 rfl (lv_at hl 0 rfl) ?_
  refine va_get (D := (dC, dI)) (ci := 11) (v := .int (u.1 28)) (C := RX12) (T := TX12) (N := 52) hx hb hts (by decide +kernel) hown hK hP 0 rfl rfl 28 (by decide) (hts (.fieldLink RX12 158 "PageOneModel" "acts" "I") (by decide +kernel)) (fun _ h9 => h9) rfl dX12_undo_1 ?_
  refine lv_if_ne (tgt := 9) hx hb dX12_undo_4 (by decide) (fun c_1 => absurd (hz0) c_1) (fun c_1 => ?_)
  refine lv_iconst (v := (-1)) hx hb dX12_undo_7 (by decide) ?_
  exact W.iret (v := (-1)) hx hb hr (fun t ht hW => ⟨⟨(-1), u, rfl, ⟨rfl, rfl⟩, by rw [ht]; exact hP, hD⟩, hS.F ht⟩) hS.2.2 dX12_undo_8
