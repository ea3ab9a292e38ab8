set_option maxHeartbeats 4000000 in
set_option maxRecDepth 100000 in
theorem x_paid (l : Launch) (dC : Nat → ClassId) (dI : Nat → Nat → Nat) (q : Nat → ClassId) (h0 : Nat) (d : Nat → Nat) (k : Nat → Int32) (z : gS) (f : xF) (hI : xI q h0 d k z f) (p0 p1 p2 p3 p4 p5 p6 : Int32) (sz : Nat) : Met l yX11_paid wsX11_paid ({ frames := 3, cells := 5, slots := 421, locals := 70 }) (va_Pc [.ref h0, .int p0, .int p1, .int p2, .int p3, .int p4, .int p5, .int p6] (fun U => U.heap.size = sz ∧ PX dC dI (va_pl z.1 f) (xT q) U ∧ va_D (fun _ => True) (va_pl z.1 f))) (va_Qi (fun (r : Int32) (w : xU) => (∀ j, j ≠ 0 → w.1 j = k j) ∧ zE z w.2.1 ∧ xI q h0 d w.1 w.2.1 w.2.2) (fun (w : xU) t => va_P (dC, dI) vwCl (va_pl w.2.1.1 w.2.2) t.heap ∧ va_D (va_A (va_pl z.1 f) sz) (va_pl w.2.1.1 w.2.2)) (va_A (va_pl z.1 f) sz)) 5 421 (va_A (va_pl z.1 f) sz) := by
  refine Met.ofW (cc := cX11_paid) (maxL := 8) (ret := (some .int)) (by decide) rfl ?_
  intro p e s m args below meth c s₁ B hml hv
  obtain ⟨rfl, hsz, ⟨⟨hP, hK, hN⟩, hXN⟩, hD0⟩ := hv
  have hx := B.exec
  have hb := B.bytes
  have hr := B.returns
  have hts := atoms_spec (ws := wsX11_paid) B.pre
  have hown : s.vm.findClass RX11 = some m.cls := findClass_of_methodNamed B.named
  have hlocks := B.notSynchronized
  subst hsz
  have hD := hD0.self (sz := s.heap.size)
  generalize hAe : va_A (va_pl z.1 f) s.heap.size = A at hD ⊢
  have hA : ∀ q : Nat, s.heap.size ≤ q → A q := fun q h => by rw [← hAe]; exact Or.inr h
  have hS : va_S A s.heap s.heap [] := va_S.rf
  have hl := lv_entry ([.ref h0, .int p0, .int p1, .int p2, .int p3, .int p4, .int p5, .int p6]) (n := 8) (Nat.le_of_ble_eq_true rfl)
  rw [lg_entry_eq]
  generalize (lg_sl ([.ref h0, .int p0, .int p1, .int p2, .int p3, .int p4, .int p5, .int p6]) ++ List.replicate (8 - (lg_sl ([.ref h0, .int p0, .int p1, .int p2, .int p3, .int p4, .int p5, .int p6])).length) Slot.unset).toArray = ls at hl ⊢
  have hl : lv_has ls 8 [(0, .ref h0), (1, .int p0), (2, .int p1), (3, .int p2), (4, .int p3), (5, .int p4), (6, .int p5), (7, .int p6)] := hl
  refine lv_iload_n hx hb dX11_paid_0 rfl (lv_at hl 1 rfl) ?_
  refine vp_callSi (va_runS (As := [.int p0]) (rest := []) ⟨hx, hb, hml, hown, hts⟩ (x_isBuyer l dC dI p0) (va_cwS 1 hts gX11_paid_X11_isBuyer rfl rfl rfl (by decide +kernel) ⟨Nat.le_of_ble_eq_true rfl, Nat.le_of_ble_eq_true rfl⟩) ⟨pw_fb, fun U hU hW => ⟨rfl, pw_to hU hW (hP.sub (ws' := []) [] rfl) (hK.sub (tys' := []) [] rfl) hN⟩⟩ rfl rfl hl.1 rfl (lv_room (Nat.le_of_ble_eq_true rfl)) dX11_paid_1 ⟨Nat.le_of_ble_eq_true rfl, Nat.le_of_ble_eq_true rfl⟩).run (fun r hw => ?_)
  rcases Bool.eq_false_or_eq_true (bw p0 0 9) with b_1 | b_1
  ·
    obtain rfl : r = 1 := b_t hw b_1
    refine lv_if_eq (tgt := 36) hx hb dX11_paid_4 (by decide) (fun c_2 => absurd c_2 (by decide)) (fun c_2 => ?_)
    refine lv_iload_n hx hb dX11_paid_7 rfl (lv_at hl 2 rfl) ?_
    refine vp_callSi (va_runS (As := [.int p1]) (rest := []) ⟨hx, hb, hml, hown, hts⟩ (x_isPage l dC dI p1) (va_cwS 1 hts gX11_paid_X11_isPage rfl rfl rfl (by decide +kernel) ⟨Nat.le_of_ble_eq_true rfl, Nat.le_of_ble_eq_true rfl⟩) ⟨pw_fb, fun U hU hW => ⟨rfl, pw_to hU hW (hP.sub (ws' := []) [] rfl) (hK.sub (tys' := []) [] rfl) hN⟩⟩ rfl rfl hl.1 rfl (lv_room (Nat.le_of_ble_eq_true rfl)) dX11_paid_8 ⟨Nat.le_of_ble_eq_true rfl, Nat.le_of_ble_eq_true rfl⟩).run (fun r hw => ?_)
    rcases Bool.eq_false_or_eq_true (bw p1 0 11) with b_3 | b_3
    ·
      obtain rfl : r = 1 := b_t hw b_3
      refine lv_if_eq (tgt := 36) hx hb dX11_paid_11 (by decide) (fun c_4 => absurd c_4 (by decide)) (fun c_4 => ?_)
      refine lv_iload hx hb dX11_paid_14 (lv_at hl 5 rfl) ?_
      refine lv_iload hx hb dX11_paid_16 (lv_at hl 6 rfl) ?_
      refine vp_callSi (va_runS (As := [.int p4, .int p5]) (rest := []) ⟨hx, hb, hml, hown, hts⟩ (x_isSquare l dC dI p4 p5) (va_cwS 2 hts gX11_paid_X11_isSquare rfl rfl rfl (by decide +kernel) ⟨Nat.le_of_ble_eq_true rfl, Nat.le_of_ble_eq_true rfl⟩) ⟨pw_fb, fun U hU hW => ⟨rfl, pw_to hU hW (hP.sub (ws' := []) [] rfl) (hK.sub (tys' := []) [] rfl) hN⟩⟩ rfl rfl hl.1 rfl (lv_room (Nat.le_of_ble_eq_true rfl)) dX11_paid_18 ⟨Nat.le_of_ble_eq_true rfl, Nat.le_of_ble_eq_true rfl⟩).run (fun r hw => ?_)
      rcases Bool.eq_false_or_eq_true ((bw p4 1 8 && bw p5 1 60)) with b_5 | b_5
      ·
        obtain rfl : r = 1 := b_t hw b_5
        refine lv_if_eq (tgt := 36) hx hb dX11_paid_21 (by decide) (fun c_6 => absurd c_6 (by decide)) (fun c_6 => ?_)
        refine lv_iload hx hb dX11_paid_24 (lv_at hl 7 rfl) ?_
        refine lv_iconst (v := 0) hx hb dX11_paid_26 (by decide) ?_
        refine lv_sipush (v := 1000) hx hb dX11_paid_27 (by decide) ?_
        refine vp_callSi (va_runS (As := [.int p6, .int 0, .int 1000]) (rest := []) ⟨hx, hb, hml, hown, hts⟩ (x_isWithin l dC dI p6 0 1000) (va_cwS 3 hts gX11_paid_X11_isWithin rfl rfl rfl (by decide +kernel) ⟨Nat.le_of_ble_eq_true rfl, Nat.le_of_ble_eq_true rfl⟩) ⟨pw_fb, fun U hU hW => ⟨rfl, pw_to hU hW (hP.sub (ws' := []) [] rfl) (hK.sub (tys' := []) [] rfl) hN⟩⟩ rfl rfl hl.1 rfl (lv_room (Nat.le_of_ble_eq_true rfl)) dX11_paid_30 ⟨Nat.le_of_ble_eq_true rfl, Nat.le_of_ble_eq_true rfl⟩).run (fun r hw => ?_)
        rcases Bool.eq_false_or_eq_true (bw p6 0 1000) with b_7 | b_7
        ·
          obtain rfl : r = 1 := b_t hw b_7
          refine lv_if_ne (tgt := 38) hx hb dX11_paid_33 (by decide) (fun c_8 => ?_) (fun c_8 => absurd c_8 (by decide))
          refine lv_iload_n hx hb dX11_paid_38 rfl (lv_at hl 3 rfl) ?_
          refine lv_iconst (v := 0) hx hb dX11_paid_39 (by decide) ?_
          refine lv_bipush (v := 8) hx hb dX11_paid_40 (by decide) ?_
          refine lv_iload hx hb dX11_paid_42 (lv_at hl 5 rfl) ?_
          refine lv_isub hx hb dX11_paid_44 ?_
          refine vp_callSi (va_runS (As := [.int p2, .int 0, .int (8 - p4)]) (rest := []) ⟨hx, hb, hml, hown, hts⟩ (x_isWithin l dC dI p2 0 (8 - p4)) (va_cwS 3 hts gX11_paid_X11_isWithin rfl rfl rfl (by decide +kernel) ⟨Nat.le_of_ble_eq_true rfl, Nat.le_of_ble_eq_true rfl⟩) ⟨pw_fb, fun U hU hW => ⟨rfl, pw_to hU hW (hP.sub (ws' := []) [] rfl) (hK.sub (tys' := []) [] rfl) hN⟩⟩ rfl rfl hl.1 rfl (lv_room (Nat.le_of_ble_eq_true rfl)) dX11_paid_45 ⟨Nat.le_of_ble_eq_true rfl, Nat.le_of_ble_eq_true rfl⟩).run (fun r hw => ?_)
          rcases Bool.eq_false_or_eq_true (bw p2 0 (8 - p4)) with b_9 | b_9
          ·
            obtain rfl : r = 1 := b_t hw b_9
            refine lv_if_eq (tgt := 65) hx hb dX11_paid_48 (by decide) (fun c_10 => absurd c_10 (by decide)) (fun c_10 => ?_)
            refine lv_iload hx hb dX11_paid_51 (lv_at hl 4 rfl) ?_
            refine lv_iconst (v := 0) hx hb dX11_paid_53 (by decide) ?_
            refine lv_bipush (v := 60) hx hb dX11_paid_54 (by decide) ?_
            refine lv_iload hx hb dX11_paid_56 (lv_at hl 6 rfl) ?_
            refine lv_isub hx hb dX11_paid_58 ?_
            refine vp_callSi (va_runS (As := [.int p3, .int 0, .int (60 - p5)]) (rest := []) ⟨hx, hb, hml, hown, hts⟩ (x_isWithin l dC dI p3 0 (60 - p5)) (va_cwS 3 hts gX11_paid_X11_isWithin rfl rfl rfl (by decide +kernel) ⟨Nat.le_of_ble_eq_true rfl, Nat.le_of_ble_eq_true rfl⟩) ⟨pw_fb, fun U hU hW => ⟨rfl, pw_to hU hW (hP.sub (ws' := []) [] rfl) (hK.sub (tys' := []) [] rfl) hN⟩⟩ rfl rfl hl.1 rfl (lv_room (Nat.le_of_ble_eq_true rfl)) dX11_paid_59 ⟨Nat.le_of_ble_eq_true rfl, Nat.le_of_ble_eq_true rfl⟩).run (fun r hw => ?_)
            rcases Bool.eq_false_or_eq_true (bw p3 0 (60 - p5)) with b_11 | b_11
            ·
              obtain rfl : r = 1 := b_t hw b_11
              refine lv_if_ne (tgt := 67) hx hb dX11_paid_62 (by decide) (fun c_12 => ?_) (fun c_12 => absurd c_12 (by decide))
              refine lv_aload_n hx hb dX11_paid_67 rfl (lv_at hl 0 rfl) ?_
              refine va_new (ci := 5) (fs := [.int 0, .int 0, .null, .int 0, .null, .int 0, .int 0, .null, .null]) (C := RX6) (T := TX6) (N := 9) hx hb hts (by decide +kernel) tyX6 tyX6_ok hown (hts (.classLink RX11 104 RX6) (by decide +kernel)) (hts (.instantiable RX6 9) (by decide +kernel)) (hts (.initialized RX6) (by decide +kernel)) hK hP hD hS hA rfl nwX6 (Nat.le_of_ble_eq_true rfl) (Nat.le_of_ble_eq_true rfl) dX11_paid_68 (fun q_13 H hPn hDn hS => ?_)
              have hP := vaP_l hPn
              refine W.widen (k := 1) (n := 9) (Nat.le_of_ble_eq_true rfl) (Nat.le_of_ble_eq_true rfl) ?_
              refine lv_dup hx hb dX11_paid_71 rfl ?_
              refine lv_aload_n hx hb dX11_paid_72 rfl (lv_at hl 0 rfl) ?_
              obtain ⟨kk_14, hk_15⟩ := pl_at hI.2.1.1.1 hI.2.2.2.1.1
              refine va_get (D := (dC, dI)) (ci := 10) (v := .int (k 0)) (C := RX11) (T := TX11) (N := 9) hx hb hts (by decide +kernel) hown hK hP kk_14 hk_15 rfl 3 (by decide) (hts (.fieldLink RX11 24 "PageOne" "itemCount" "I") (by decide +kernel)) (fun _ h9 => h9) rfl dX11_paid_73 ?_
              refine lv_iload_n hx hb dX11_paid_76 rfl (lv_at hl 1 rfl) ?_
              refine lv_iload hx hb dX11_paid_77 (lv_at hl 7 rfl) ?_
              refine va_new (ci := 7) (fs := [.null, .int 0, .int 0, .int 0, .int 0, .int 0]) (C := RX8) (T := TX8) (N := 6) hx hb hts (by decide +kernel) tyX8 tyX8_ok hown (hts (.classLink RX11 106 RX8) (by decide +kernel)) (hts (.instantiable RX8 6) (by decide +kernel)) (hts (.initialized RX8) (by decide +kernel)) hK hPn hDn hS hA rfl nwX8 (Nat.le_of_ble_eq_true rfl) (Nat.le_of_ble_eq_true rfl) dX11_paid_79 (fun q_16 H hPm hDm hS => ?_)
              refine W.widen (k := 2) (n := 15) (Nat.le_of_ble_eq_true rfl) (Nat.le_of_ble_eq_true rfl) ?_
              refine lv_dup hx hb dX11_paid_82 rfl ?_
              refine lv_null hx hb dX11_paid_83 ?_
              refine lv_iload_n hx hb dX11_paid_84 rfl (lv_at hl 2 rfl) ?_
              refine lv_iload_n hx hb dX11_paid_85 rfl (lv_at hl 3 rfl) ?_
              refine lv_iload hx hb dX11_paid_86 (lv_at hl 4 rfl) ?_
              refine lv_iload hx hb dX11_paid_88 (lv_at hl 5 rfl) ?_
              refine lv_iload hx hb dX11_paid_90 (lv_at hl 6 rfl) ?_
              have hPc := vaP_r hPm
              have hDc := vaD_r hDm
              have hFc := fr_part hDm hS hA
              refine va_callv (va_runI (As := [.null, .int p1, .int p2, .int p3, .int p4, .int p5]) (rest := [.ref q_16, .int p6, .int p0, .int (k 0), .ref q_13, .ref q_13, .ref h0]) ⟨hx, hb, hml, hown, hts⟩ (x_PieceN l dC dI q_16 p1 p2 p3 p4 p5 H.size) (cwI 6 hts gX11_paid_X8_init rfl rfl rfl (hts (.initialized RX8) (by decide +kernel)) (hts (.methodLink RX11 108 yX8_init) (by decide +kernel)) (hts (.instanceMethod yX8_init) (by decide +kernel)) rfl (by decide +kernel) ⟨Nat.le_of_ble_eq_true rfl, Nat.le_of_ble_eq_true rfl⟩) ⟨gw_fb, fun U hU hW => ⟨rfl, by rw [hU], pw_to hU hW hPc (hK.sub (tys' := []) [] rfl) hN, hDc.weaken (fun _ _ _ _ => trivial)⟩⟩ rfl rfl hl.1 rfl (lv_room (Nat.le_of_ble_eq_true rfl)) dX11_paid_92 ⟨Nat.le_of_ble_eq_true rfl, Nat.le_of_ble_eq_true rfl⟩) hS (fun q _ h => hFc q h) hFc (fun u t H1 locs ht hvm hw hB hz1 hk1 hS => ?_)
              obtain ⟨hP1, hD1⟩ := hB
              rw [ht] at hP1
              obtain ⟨hP, hD⟩ := va_joinQ (X := [(q_16, .inr (7, [.null, .int 0, .int 0, .int 0, .int 0, .int 0]))]) (cx := [(q_16, .inr (7, [.null, .int 0, .int 0, .int 0, .int 0, .int 0]))]) (wr := []) (w1 := [(q_16, .inr (7, [va_rf none, .int p1, .int p2, .int p3, .int p4, .int p5]))]) (pl := va_pl z.1 f ++ [(q_13, .inr (5, [.int 0, .int 0, .null, .int 0, .null, .int 0, .int 0, .null, .null]))]) (vaP_swap hPm) (vaD_rotR hDm) [0] [] rfl rfl rfl (fun i hi => absurd hi List.not_mem_nil) hk1 hFc hP1 hD1
              have hP := vaP_3 hP
              have hD := vaD_3 hD
              generalize H1 = H at hP hS ⊢
              obtain ⟨hnm_17, hP, hD⟩ := pushC hP hD
              obtain ⟨z_18, ez_18⟩ : ∃ y : gS, y = pz z q_16 (22, 0, [va_rf none, .int p1, .int p2, .int p3, .int p4, .int p5]) := ⟨_, rfl⟩
              obtain ⟨f_19, ef_19⟩ : ∃ y : xF, y = va_up f q_16 (.inr (7, [va_rf none, .int p1, .int p2, .int p3, .int p4, .int p5])) := ⟨_, rfl⟩
              have hE_20 : zE z z_18 := by rw [ez_18]; exact pz_E hnm_17 _
              have hI : xI q h0 d k z_18 f_19 := by rw [ez_18, ef_19]; exact x_push hI hnm_17 (Or.inr (by decide : (15 : Nat) < 22)) (cO_pc b_3 ty_n hnm_17)
              rw [show z.1 ++ [q_16] = z_18.1 from by rw [ez_18]; rfl, ← ef_19] at hP hD
              have ht_21 : tg z_18 q_16 22 := by rw [ez_18]; exact pz_t _ _ _
              have hEz : zE z z_18 := zE_tr (zE_rf z) hE_20
              have hPn := vaP_swap hP
              have hDn := vaD_rot hD
              have hP := vaP_l hPn
              refine W.eq (g2 := F0 m 95 ls [.ref q_16, .int p6, .int p0, .int (k 0), .ref q_13, .ref q_13, .ref h0]) rfl ?_
              have hp_22 : pcS z_18 q_16 none p1 p2 p3 p4 p5 := ⟨ht_21, by rw [ez_18, pz_s]⟩
              have hlg_23 := lg_of hp_22 ⟨b87 b_9 rfl (ban b_5).1, b60 b_11 rfl (ban b_5).2, b1to0 (ban b_5).1, b1to0 (ban b_5).2⟩
              have hPc := vaP_r hPn
              have hDc := vaD_r hDn
              have hFc := fr_part hDn hS hA
              refine va_callv (va_runI (As := [.int (k 0), .int p0, .int p6, .ref q_16]) (rest := [.ref q_13, .ref h0]) ⟨hx, hb, hml, hown, hts⟩ (xn_Paid l dC dI q_13 q_16 (q 0) (q 1) (q 5) (k 0) p0 p6 H.size) (cwI 4 hts gX11_paid_X6_init rfl rfl rfl (hts (.initialized RX6) (by decide +kernel)) (hts (.methodLink RX11 111 yX6_init) (by decide +kernel)) (hts (.instanceMethod yX6_init) (by decide +kernel)) rfl (by decide +kernel) ⟨Nat.le_of_ble_eq_true rfl, Nat.le_of_ble_eq_true rfl⟩) ⟨gw_fb, fun U hU hW => ⟨rfl, by rw [hU], pw_to hU hW hPc (hK.sub (tys' := [(q 0, .int), (q 1, .boolean), (q 5, .object "PageOne$Piece")]) [0, 1, 5] rfl) hN, hDc.weaken (fun _ _ _ _ => trivial)⟩⟩ rfl rfl hl.1 rfl (lv_room (Nat.le_of_ble_eq_true rfl)) dX11_paid_95 ⟨Nat.le_of_ble_eq_true rfl, Nat.le_of_ble_eq_true rfl⟩) hS (fun q _ h => hFc q h) hFc (fun u t H1 locs ht hvm hw hB hz1 hk1 hS => ?_)
              obtain ⟨qa_24, qa_25, qa_26, hP1, hD1⟩ := hB
              rw [ht] at hP1
              obtain ⟨hP, hD⟩ := va_joinQ (X := [(q_13, .inr (5, [.int 0, .int 0, .null, .int 0, .null, .int 0, .int 0, .null, .null]))]) (cx := [(q_13, .inr (5, [.int 0, .int 0, .null, .int 0, .null, .int 0, .int 0, .null, .null]))]) (wr := []) (w1 := [(qa_24, aI (q 0) 5 (fun _ => (-1))), (qa_25, aR (q 5) 1 (fun _ => none)), (qa_26, aI (q 1) 400 (fun _ => 0)), (q_13, .inr (5, [.int (k 0), .int 3, .ref qa_25, .int 0, .ref qa_24, .int p0, .int p6, .ref q_16, .ref qa_26]))]) (pl := va_pl z_18.1 f_19) (vaP_swap hPn) (vaD_rotR hDn) [0] [] rfl rfl rfl (fun i hi => absurd hi List.not_mem_nil) hk1 hFc hP1 hD1
              generalize H1 = H at hP hS ⊢
              obtain ⟨hnm_27, hP, hD⟩ := pushC hP hD
              obtain ⟨z_28, ez_28⟩ : ∃ y : gS, y = pz z_18 qa_24 (17, 0, []) := ⟨_, rfl⟩
              obtain ⟨f_29, ef_29⟩ : ∃ y : xF, y = va_up f_19 qa_24 (aI (q 0) 5 (fun _ => (-1))) := ⟨_, rfl⟩
              have hE_30 : zE z_18 z_28 := by rw [ez_28]; exact pz_E hnm_27 _
              have hI : xI q h0 d k z_28 f_29 := by rw [ez_28, ef_29]; exact x_push hI hnm_27 (Or.inr (by decide : (15 : Nat) < 17)) (cO_17 (by rw [pz_s]) ⟨_, rfl⟩)
              rw [show z_18.1 ++ [qa_24] = z_28.1 from by rw [ez_28]; rfl, ← ef_29] at hP hD
              have hlg_23 := zE_lg hE_30 hlg_23
              have hp_22 := zE_pc hE_30 hp_22
              have ht_31 : tg z_28 qa_24 17 := by rw [ez_28]; exact pz_t _ _ _
              have hEz : zE z z_28 := zE_tr hEz hE_30
              obtain ⟨hnm_32, hP, hD⟩ := pushC hP hD
              obtain ⟨z_33, ez_33⟩ : ∃ y : gS, y = pz z_28 qa_25 (16, q_13, []) := ⟨_, rfl⟩
              obtain ⟨f_34, ef_34⟩ : ∃ y : xF, y = va_up f_29 qa_25 (aR (q 5) 1 (fun _ => none)) := ⟨_, rfl⟩
              have hE_35 : zE z_28 z_33 := by rw [ez_33]; exact pz_E hnm_32 _
              have hI : xI q h0 d k z_33 f_34 := by rw [ez_33, ef_34]; exact x_push hI hnm_32 (Or.inr (by decide : (15 : Nat) < 16)) (cO_16 (by rw [pz_s]) ⟨1, by decide, by decide, _, rfl, fun _ _ b hb => by cases hb⟩)
              rw [show z_28.1 ++ [qa_25] = z_33.1 from by rw [ez_33]; rfl, ← ef_34] at hP hD
              have hpf9 : f_34 qa_25 = aR (q 5) 1 (fun _ => none) := by rw [ef_34]; exact up_s
              have ho9 : (z_33.2 qa_25).2.1 = q_13 := by rw [ez_33, pz_s]
              have hlg_23 := zE_lg hE_35 hlg_23
              have ht_31 := zE_tg hE_35 ht_31
              have hp_22 := zE_pc hE_35 hp_22
              have ht_36 : tg z_33 qa_25 16 := by rw [ez_33]; exact pz_t _ _ _
              have hEz : zE z z_33 := zE_tr hEz hE_35
              obtain ⟨hnm_37, hP, hD⟩ := pushC hP hD
              obtain ⟨z_38, ez_38⟩ : ∃ y : gS, y = pz z_33 qa_26 (21, 0, []) := ⟨_, rfl⟩
              obtain ⟨f_39, ef_39⟩ : ∃ y : xF, y = va_up f_34 qa_26 (aI (q 1) 400 (fun _ => 0)) := ⟨_, rfl⟩
              have hE_40 : zE z_33 z_38 := by rw [ez_38]; exact pz_E hnm_37 _
              have hI : xI q h0 d k z_38 f_39 := by rw [ez_38, ef_39]; exact x_push hI hnm_37 (Or.inr (by decide : (15 : Nat) < 21)) (cO_21 (by rw [pz_s]) ⟨_, rfl⟩)
              rw [show z_33.1 ++ [qa_26] = z_38.1 from by rw [ez_38]; rfl, ← ef_39] at hP hD
              have hpf9 : f_39 qa_25 = aR (q 5) 1 (fun _ => none) := by rw [ef_39, up_o (fun e => hnm_37 (by rw [← e]; exact ht_36.1))]; exact hpf9
              have ho9 : (z_38.2 qa_25).2.1 = q_13 := by rw [zE_o hE_40 ht_36.1]; exact ho9
              have hlg_23 := zE_lg hE_40 hlg_23
              have ht_31 := zE_tg hE_40 ht_31
              have ht_36 := zE_tg hE_40 ht_36
              have hp_22 := zE_pc hE_40 hp_22
              have ht_41 : tg z_38 qa_26 21 := by rw [ez_38]; exact pz_t _ _ _
              have hEz : zE z z_38 := zE_tr hEz hE_40
              obtain ⟨hnm_42, hP, hD⟩ := pushC hP hD
              obtain ⟨z_43, ez_43⟩ : ∃ y : gS, y = pz z_38 q_13 (13, 0, []) := ⟨_, rfl⟩
              obtain ⟨f_44, ef_44⟩ : ∃ y : xF, y = va_up f_39 q_13 (.inr (5, [.int (k 0), .int 3, .ref qa_25, .int 0, .ref qa_24, .int p0, .int p6, .ref q_16, .ref qa_26])) := ⟨_, rfl⟩
              have hE_45 : zE z_38 z_43 := by rw [ez_43]; exact pz_E hnm_42 _
              have hI : xI q h0 d k z_43 f_44 := by rw [ez_43, ef_44]; exact x_pushI (n := 1) hI hnm_42 (by decide) ht_36 ho9 ht_31 hpf9 (by decide) ⟨fun x => absurd x (by decide), fun x => absurd x (by decide), fun x => absurd x (by decide), fun _ => ⟨_, _, _, _, rfl, b_1, zE_lg (pz_E hnm_42 _) hlg_23, zE_tg (pz_E hnm_42 _) ht_41⟩, fun x => absurd x (by decide), fun x => absurd x (by decide)⟩
              rw [show z_38.1 ++ [q_13] = z_43.1 from by rw [ez_43]; rfl, ← ef_44] at hP hD
              have hpf9 : f_44 qa_25 = aR (q 5) 1 (fun _ => none) := by rw [ef_44, up_o (fun e => hnm_42 (by rw [← e]; exact ht_36.1))]; exact hpf9
              have ho9 : (z_43.2 qa_25).2.1 = q_13 := by rw [zE_o hE_45 ht_36.1]; exact ho9
              have hlg_23 := zE_lg hE_45 hlg_23
              have ht_31 := zE_tg hE_45 ht_31
              have ht_36 := zE_tg hE_45 ht_36
              have ht_41 := zE_tg hE_45 ht_41
              have hp_22 := zE_pc hE_45 hp_22
              have ht_46 : tg z_43 q_13 13 := by rw [ez_43]; exact pz_t _ _ _
              have hEz : zE z z_43 := zE_tr hEz hE_45
              refine W.widen (k := 5) (n := 421) (Nat.le_of_ble_eq_true rfl) (Nat.le_of_ble_eq_true rfl) ?_
              refine W.eq (g2 := F0 m 98 ls [.ref q_13, .ref h0]) rfl ?_
              obtain ⟨kk_47, hk_48⟩ := pl_at hI.2.1.1.1 hI.2.2.2.1.1
              have hFc := fr_all hD hS hA
              refine va_calli (va_runV (As := [.ref q_13]) (rest := []) ⟨hx, hb, hml, hown, hts⟩ (x_enter l dC dI q h0 d k z_43 f_44 hI q_13 (tg_itm ht_46 (by decide)) H.size) (cwV 1 hts gX11_paid_X11_enter rfl rfl rfl (by decide +kernel) ⟨Nat.le_of_ble_eq_true rfl, Nat.le_of_ble_eq_true rfl⟩) ⟨gx_fb, va_recv hK hP (ci := 10) (q0 := kk_47) rfl hk_48, fun U hU hW => ⟨rfl, by rw [hU], px_to hU hW hP hK hN hXN, hD.weaken (fun _ _ _ _ => trivial)⟩⟩ rfl rfl hl.1 rfl (lv_room (Nat.le_of_ble_eq_true rfl)) dX11_paid_98 ⟨Nat.le_of_ble_eq_true rfl, Nat.le_of_ble_eq_true rfl⟩) hS (fun q _ h => hFc q h) hFc (fun r w_49 t H1 locs ht hvm hw hB hz1 hk1 hS => ?_)
              obtain ⟨hP, hD1⟩ := hB
              rw [ht] at hP
              rw [hw.2.1] at hP hD1
              have hD := hD1.weaken (fun _ q _ h => hFc q.1 h)
              have hI := hw.2.2
              have hw0 := hw
              generalize w_49.1 = k_51 at hI hw0
              generalize w_49.2.2 = f_50 at hP hD hI hw0
              generalize H1 = H at hP hS ⊢
              have hkk := hw0.1
              exact W.iret (v := r) hx hb hr (fun t ht hW => ⟨⟨r, (k_51, z_43, f_50), rfl, ⟨hkk, hEz, hI⟩, by rw [ht]; exact hP, hD⟩, hS.F ht⟩) hS.2.2 dX11_paid_101
            ·
              obtain rfl : r = 0 := b_f hw b_11
              refine lv_if_ne (tgt := 67) hx hb dX11_paid_62 (by decide) (fun c_53 => absurd (by decide) c_53) (fun c_53 => ?_)
              refine lv_iconst (v := (-1)) hx hb dX11_paid_65 (by decide) ?_
              refine W.widen (k := 5) (n := 421) (Nat.le_of_ble_eq_true rfl) (Nat.le_of_ble_eq_true rfl) ?_
              exact W.iret (v := (-1)) hx hb hr (fun t ht hW => ⟨⟨(-1), (k, z, f), rfl, ⟨fun _ _ => rfl, zE_rf z, hI⟩, by rw [ht]; exact hP, hD⟩, hS.F ht⟩) hS.2.2 dX11_paid_66
          ·
            obtain rfl : r = 0 := b_f hw b_9
            refine lv_if_eq (tgt := 65) hx hb dX11_paid_48 (by decide) (fun c_54 => ?_) (fun c_54 => absurd (by decide) c_54)
            refine lv_iconst (v := (-1)) hx hb dX11_paid_65 (by decide) ?_
            refine W.widen (k := 5) (n := 421) (Nat.le_of_ble_eq_true rfl) (Nat.le_of_ble_eq_true rfl) ?_
            exact W.iret (v := (-1)) hx hb hr (fun t ht hW => ⟨⟨(-1), (k, z, f), rfl, ⟨fun _ _ => rfl, zE_rf z, hI⟩, by rw [ht]; exact hP, hD⟩, hS.F ht⟩) hS.2.2 dX11_paid_66
        ·
          obtain rfl : r = 0 := b_f hw b_7
          refine lv_if_ne (tgt := 38) hx hb dX11_paid_33 (by decide) (fun c_55 => absurd (by decide) c_55) (fun c_55 => ?_)
          refine lv_iconst (v := (-1)) hx hb dX11_paid_36 (by decide) ?_
          refine W.widen (k := 5) (n := 421) (Nat.le_of_ble_eq_true rfl) (Nat.le_of_ble_eq_true rfl) ?_
          exact W.iret (v := (-1)) hx hb hr (fun t ht hW => ⟨⟨(-1), (k, z, f), rfl, ⟨fun _ _ => rfl, zE_rf z, hI⟩, by rw [ht]; exact hP, hD⟩, hS.F ht⟩) hS.2.2 dX11_paid_37
      ·
        obtain rfl : r = 0 := b_f hw b_5
        refine lv_if_eq (tgt := 36) hx hb dX11_paid_21 (by decide) (fun c_56 => ?_) (fun c_56 => absurd (by decide) c_56)
        refine lv_iconst (v := (-1)) hx hb dX11_paid_36 (by decide) ?_
        refine W.widen (k := 5) (n := 421) (Nat.le_of_ble_eq_true rfl) (Nat.le_of_ble_eq_true rfl) ?_
        exact W.iret (v := (-1)) hx hb hr (fun t ht hW => ⟨⟨(-1), (k, z, f), rfl, ⟨fun _ _ => rfl, zE_rf z, hI⟩, by rw [ht]; exact hP, hD⟩, hS.F ht⟩) hS.2.2 dX11_paid_37
    ·
      obtain rfl : r = 0 := b_f hw b_3
      refine lv_if_eq (tgt := 36) hx hb dX11_paid_11 (by decide) (fun c_57 => ?_) (fun c_57 => absurd (by decide) c_57)
      refine lv_iconst (v := (-1)) hx hb dX11_paid_36 (by decide) ?_
      refine W.widen (k := 5) (n := 421) (Nat.le_of_ble_eq_true rfl) (Nat.le_of_ble_eq_true rfl) ?_
      exact W.iret (v := (-1)) hx hb hr (fun t ht hW => ⟨⟨(-1), (k, z, f), rfl, ⟨fun _ _ => rfl, zE_rf z, hI⟩, by rw [ht]; exact hP, hD⟩, hS.F ht⟩) hS.2.2 dX11_paid_37
  ·
    obtain rfl : r = 0 := b_f hw b_1
    refine lv_if_eq (tgt := 36) hx hb dX11_paid_4 (by decide) (fun c_58 => ?_) (fun c_58 => absurd (by decide) c_58)
    refine lv_iconst (v := (-1)) hx hb dX11_paid_36 (by decide) ?_
    refine W.widen (k := 5) (n := 421) (Nat.le_of_ble_eq_true rfl) (Nat.le_of_ble_eq_true rfl) ?_
    exact W.iret (v := (-1)) hx hb hr (fun t ht hW => ⟨⟨(-1), (k, z, f), rfl, ⟨fun _ _ => rfl, zE_rf z, hI⟩, by rw [ht]; exact hP, hD⟩, hS.F ht⟩) hS.2.2 dX11_paid_37
