set_option maxHeartbeats 4000000 in
set_option maxRecDepth 100000 in
theorem x_story (l : Launch) (dC : Nat → ClassId) (dI : Nat → Nat → Nat) (q : Nat → ClassId) (h0 : Nat) (d : Nat → Nat) (k : Nat → Int32) (z : gS) (f : xF) (hI : xI q h0 d k z f) (p0 : Int32) (sz : Nat) : Met l yX11_story wsX11_story ({ frames := 3, cells := 5, slots := 110, locals := 68 }) (va_Pc [.ref h0, .int p0] (fun U => U.heap.size = sz ∧ PX dC dI (va_pl z.1 f) (xT q) U ∧ va_D (fun _ => True) (va_pl z.1 f))) (va_Qi (fun (r : Int32) (w : xU) => (∀ j, j ≠ 0 → w.1 j = k j) ∧ zE z w.2.1 ∧ xI q h0 d w.1 w.2.1 w.2.2) (fun (w : xU) t => va_P (dC, dI) vwCl (va_pl w.2.1.1 w.2.2) t.heap ∧ va_D (va_A (va_pl z.1 f) sz) (va_pl w.2.1.1 w.2.2)) (va_A (va_pl z.1 f) sz)) 5 110 (va_A (va_pl z.1 f) sz) := by
  refine Met.ofW (cc := cX11_story) (maxL := 2) (ret := (some .int)) (by decide) rfl ?_
  intro p e s m args below meth c s₁ B hml hv
  obtain ⟨rfl, hsz, ⟨⟨hP, hK, hN⟩, hXN⟩, hD0⟩ := hv
  have hx := B.exec
  have hb := B.bytes
  have hr := B.returns
  have hts := atoms_spec (ws := wsX11_story) B.pre
  have hown : s.vm.findClass RX11 = some m.cls := findClass_of_methodNamed B.named
  have hlocks := B.notSynchronized
  subst hsz
  have hD := hD0.self (sz := s.heap.size)
  generalize hAe : va_A (va_pl z.1 f) s.heap.size = A at hD ⊢
  have hA : ∀ q : Nat, s.heap.size ≤ q → A q := fun q h => by rw [← hAe]; exact Or.inr h
  have hS : va_S A s.heap s.heap [] := va_S.rf
  have hl := lv_entry ([.ref h0, .int p0]) (n := 2) (Nat.le_of_ble_eq_true rfl)
  rw [lg_entry_eq]
  generalize (lg_sl ([.ref h0, .int p0]) ++ List.replicate (2 - (lg_sl ([.ref h0, .int p0])).length) Slot.unset).toArray = ls at hl ⊢
  have hl : lv_has ls 2 [(0, .ref h0), (1, .int p0)] := hl
  refine lv_iload_n hx hb dX11_story_0 rfl (lv_at hl 1 rfl) ?_
  refine lv_iconst (v := 1) hx hb dX11_story_1 (by decide) ?_
  refine lv_bipush (v := 80) hx hb dX11_story_2 (by decide) ?_
  refine vp_callSi (va_runS (As := [.int p0, .int 1, .int 80]) (rest := []) ⟨hx, hb, hml, hown, hts⟩ (x_isWithin l dC dI p0 1 80) (va_cwS 3 hts gX11_story_X11_isWithin rfl rfl rfl (by decide +kernel) ⟨Nat.le_of_ble_eq_true rfl, Nat.le_of_ble_eq_true rfl⟩) ⟨pw_fb, fun U hU hW => ⟨rfl, pw_to hU hW (hP.sub (ws' := []) [] rfl) (hK.sub (tys' := []) [] rfl) hN⟩⟩ rfl rfl hl.1 rfl (lv_room (Nat.le_of_ble_eq_true rfl)) dX11_story_4 ⟨Nat.le_of_ble_eq_true rfl, Nat.le_of_ble_eq_true rfl⟩).run (fun r hw => ?_)
  rcases Bool.eq_false_or_eq_true (bw p0 1 80) with b_1 | b_1
  ·
    obtain rfl : r = 1 := b_t hw b_1
    refine lv_if_ne (tgt := 12) hx hb dX11_story_7 (by decide) (fun c_2 => ?_) (fun c_2 => absurd c_2 (by decide))
    refine lv_aload_n hx hb dX11_story_12 rfl (lv_at hl 0 rfl) ?_
    refine va_new (ci := 9) (fs := [.int 0, .int 0, .null, .int 0, .null, .int 0, .null, .int 0, .null]) (C := RX10) (T := TX10) (N := 9) hx hb hts (by decide +kernel) tyX10 tyX10_ok hown (hts (.classLink RX11 66 RX10) (by decide +kernel)) (hts (.instantiable RX10 9) (by decide +kernel)) (hts (.initialized RX10) (by decide +kernel)) hK hP hD hS hA rfl nwX10 (Nat.le_of_ble_eq_true rfl) (Nat.le_of_ble_eq_true rfl) dX11_story_13 (fun q_3 H hPn hDn hS => ?_)
    have hP := vaP_l hPn
    refine W.widen (k := 1) (n := 9) (Nat.le_of_ble_eq_true rfl) (Nat.le_of_ble_eq_true rfl) ?_
    refine lv_dup hx hb dX11_story_16 rfl ?_
    refine lv_aload_n hx hb dX11_story_17 rfl (lv_at hl 0 rfl) ?_
    obtain ⟨kk_4, hk_5⟩ := pl_at hI.2.1.1.1 hI.2.2.2.1.1
    refine va_get (D := (dC, dI)) (ci := 10) (v := .int (k 0)) (C := RX11) (T := TX11) (N := 9) hx hb hts (by decide +kernel) hown hK hP kk_4 hk_5 rfl 3 (by decide) (hts (.fieldLink RX11 24 "PageOne" "itemCount" "I") (by decide +kernel)) (fun _ h9 => h9) rfl dX11_story_18 ?_
    refine lv_iload_n hx hb dX11_story_21 rfl (lv_at hl 1 rfl) ?_
    have hPc := vaP_r hPn
    have hDc := vaD_r hDn
    have hFc := fr_part hDn hS hA
    refine va_callv (va_runI (As := [.int (k 0), .int p0]) (rest := [.ref q_3, .ref h0]) ⟨hx, hb, hml, hown, hts⟩ (xn_Story l dC dI q_3 (q 0) (q 1) (q 5) (k 0) p0 H.size) (cwI 2 hts gX11_story_X10_init rfl rfl rfl (hts (.initialized RX10) (by decide +kernel)) (hts (.methodLink RX11 68 yX10_init) (by decide +kernel)) (hts (.instanceMethod yX10_init) (by decide +kernel)) rfl (by decide +kernel) ⟨Nat.le_of_ble_eq_true rfl, Nat.le_of_ble_eq_true rfl⟩) ⟨gw_fb, fun U hU hW => ⟨rfl, by rw [hU], pw_to hU hW hPc (hK.sub (tys' := [(q 0, .int), (q 1, .boolean), (q 5, .object "PageOne$Piece")]) [0, 1, 5] rfl) hN, hDc.weaken (fun _ _ _ _ => trivial)⟩⟩ rfl rfl hl.1 rfl (lv_room (Nat.le_of_ble_eq_true rfl)) dX11_story_22 ⟨Nat.le_of_ble_eq_true rfl, Nat.le_of_ble_eq_true rfl⟩) hS (fun q _ h => hFc q h) hFc (fun u t H1 locs ht hvm hw hB hz1 hk1 hS => ?_)
    obtain ⟨qa_6, qa_7, qa_8, qa_9, hP1, hD1⟩ := hB
    rw [ht] at hP1
    obtain ⟨hP, hD⟩ := va_joinQ (X := [(q_3, .inr (9, [.int 0, .int 0, .null, .int 0, .null, .int 0, .null, .int 0, .null]))]) (cx := [(q_3, .inr (9, [.int 0, .int 0, .null, .int 0, .null, .int 0, .null, .int 0, .null]))]) (wr := []) (w1 := [(qa_6, aI (q 0) 5 (fun _ => (-1))), (qa_7, aR (q 5) 6 (fun _ => none)), (qa_8, aI (q 0) 80 (fun _ => 0)), (qa_9, aI (q 1) 10 (fun _ => 0)), (q_3, .inr (9, [.int (k 0), .int 0, .ref qa_7, .int 0, .ref qa_6, .int p0, .ref qa_8, .int 0, .ref qa_9]))]) (pl := va_pl z.1 f) (vaP_swap hPn) (vaD_rotR hDn) [0] [] rfl rfl rfl (fun i hi => absurd hi List.not_mem_nil) hk1 hFc hP1 hD1
    generalize H1 = H at hP hS ⊢
    obtain ⟨hnm_10, hP, hD⟩ := pushC hP hD
    obtain ⟨z_11, ez_11⟩ : ∃ y : gS, y = pz z qa_6 (17, 0, []) := ⟨_, rfl⟩
    obtain ⟨f_12, ef_12⟩ : ∃ y : xF, y = va_up f qa_6 (aI (q 0) 5 (fun _ => (-1))) := ⟨_, rfl⟩
    have hE_13 : zE z z_11 := by rw [ez_11]; exact pz_E hnm_10 _
    have hI : xI q h0 d k z_11 f_12 := by rw [ez_11, ef_12]; exact x_push hI hnm_10 (Or.inr (by decide : (15 : Nat) < 17)) (cO_17 (by rw [pz_s]) ⟨_, rfl⟩)
    rw [show z.1 ++ [qa_6] = z_11.1 from by rw [ez_11]; rfl, ← ef_12] at hP hD
    have ht_14 : tg z_11 qa_6 17 := by rw [ez_11]; exact pz_t _ _ _
    have hEz : zE z z_11 := zE_tr (zE_rf z) hE_13
    obtain ⟨hnm_15, hP, hD⟩ := pushC hP hD
    obtain ⟨z_16, ez_16⟩ : ∃ y : gS, y = pz z_11 qa_7 (16, q_3, []) := ⟨_, rfl⟩
    obtain ⟨f_17, ef_17⟩ : ∃ y : xF, y = va_up f_12 qa_7 (aR (q 5) 6 (fun _ => none)) := ⟨_, rfl⟩
    have hE_18 : zE z_11 z_16 := by rw [ez_16]; exact pz_E hnm_15 _
    have hI : xI q h0 d k z_16 f_17 := by rw [ez_16, ef_17]; exact x_push hI hnm_15 (Or.inr (by decide : (15 : Nat) < 16)) (cO_16 (by rw [pz_s]) ⟨6, by decide, by decide, _, rfl, fun _ _ b hb => by cases hb⟩)
    rw [show z_11.1 ++ [qa_7] = z_16.1 from by rw [ez_16]; rfl, ← ef_17] at hP hD
    have hpf9 : f_17 qa_7 = aR (q 5) 6 (fun _ => none) := by rw [ef_17]; exact up_s
    have ho9 : (z_16.2 qa_7).2.1 = q_3 := by rw [ez_16, pz_s]
    have ht_14 := zE_tg hE_18 ht_14
    have ht_19 : tg z_16 qa_7 16 := by rw [ez_16]; exact pz_t _ _ _
    have hEz : zE z z_16 := zE_tr hEz hE_18
    obtain ⟨hnm_20, hP, hD⟩ := pushC hP hD
    obtain ⟨z_21, ez_21⟩ : ∃ y : gS, y = pz z_16 qa_8 (18, 0, []) := ⟨_, rfl⟩
    obtain ⟨f_22, ef_22⟩ : ∃ y : xF, y = va_up f_17 qa_8 (aI (q 0) 80 (fun _ => 0)) := ⟨_, rfl⟩
    have hE_23 : zE z_16 z_21 := by rw [ez_21]; exact pz_E hnm_20 _
    have hI : xI q h0 d k z_21 f_22 := by rw [ez_21, ef_22]; exact x_push hI hnm_20 (Or.inr (by decide : (15 : Nat) < 18)) (cO_18 (by rw [pz_s]) ⟨_, rfl⟩)
    rw [show z_16.1 ++ [qa_8] = z_21.1 from by rw [ez_21]; rfl, ← ef_22] at hP hD
    have hpf9 : f_22 qa_7 = aR (q 5) 6 (fun _ => none) := by rw [ef_22, up_o (fun e => hnm_20 (by rw [← e]; exact ht_19.1))]; exact hpf9
    have ho9 : (z_21.2 qa_7).2.1 = q_3 := by rw [zE_o hE_23 ht_19.1]; exact ho9
    have ht_14 := zE_tg hE_23 ht_14
    have ht_19 := zE_tg hE_23 ht_19
    have ht_24 : tg z_21 qa_8 18 := by rw [ez_21]; exact pz_t _ _ _
    have hEz : zE z z_21 := zE_tr hEz hE_23
    obtain ⟨hnm_25, hP, hD⟩ := pushC hP hD
    obtain ⟨z_26, ez_26⟩ : ∃ y : gS, y = pz z_21 qa_9 (19, 0, []) := ⟨_, rfl⟩
    obtain ⟨f_27, ef_27⟩ : ∃ y : xF, y = va_up f_22 qa_9 (aI (q 1) 10 (fun _ => 0)) := ⟨_, rfl⟩
    have hE_28 : zE z_21 z_26 := by rw [ez_26]; exact pz_E hnm_25 _
    have hI : xI q h0 d k z_26 f_27 := by rw [ez_26, ef_27]; exact x_push hI hnm_25 (Or.inr (by decide : (15 : Nat) < 19)) (cO_19 (by rw [pz_s]) ⟨_, rfl⟩)
    rw [show z_21.1 ++ [qa_9] = z_26.1 from by rw [ez_26]; rfl, ← ef_27] at hP hD
    have hpf9 : f_27 qa_7 = aR (q 5) 6 (fun _ => none) := by rw [ef_27, up_o (fun e => hnm_25 (by rw [← e]; exact ht_19.1))]; exact hpf9
    have ho9 : (z_26.2 qa_7).2.1 = q_3 := by rw [zE_o hE_28 ht_19.1]; exact ho9
    have ht_14 := zE_tg hE_28 ht_14
    have ht_19 := zE_tg hE_28 ht_19
    have ht_24 := zE_tg hE_28 ht_24
    have ht_29 : tg z_26 qa_9 19 := by rw [ez_26]; exact pz_t _ _ _
    have hEz : zE z z_26 := zE_tr hEz hE_28
    obtain ⟨hnm_30, hP, hD⟩ := pushC hP hD
    obtain ⟨z_31, ez_31⟩ : ∃ y : gS, y = pz z_26 q_3 (15, 0, []) := ⟨_, rfl⟩
    obtain ⟨f_32, ef_32⟩ : ∃ y : xF, y = va_up f_27 q_3 (.inr (9, [.int (k 0), .int 0, .ref qa_7, .int 0, .ref qa_6, .int p0, .ref qa_8, .int 0, .ref qa_9])) := ⟨_, rfl⟩
    have hE_33 : zE z_26 z_31 := by rw [ez_31]; exact pz_E hnm_30 _
    have hI : xI q h0 d k z_31 f_32 := by rw [ez_31, ef_32]; exact x_pushI (n := 6) hI hnm_30 (by decide) ht_19 ho9 ht_14 hpf9 (by decide) ⟨fun x => absurd x (by decide), fun x => absurd x (by decide), fun x => absurd x (by decide), fun x => absurd x (by decide), fun x => absurd x (by decide), fun _ => ⟨_, _, _, _, rfl, zE_tg (pz_E hnm_30 _) ht_24, by decide, zE_tg (pz_E hnm_30 _) ht_29⟩⟩
    rw [show z_26.1 ++ [q_3] = z_31.1 from by rw [ez_31]; rfl, ← ef_32] at hP hD
    have hpf9 : f_32 qa_7 = aR (q 5) 6 (fun _ => none) := by rw [ef_32, up_o (fun e => hnm_30 (by rw [← e]; exact ht_19.1))]; exact hpf9
    have ho9 : (z_31.2 qa_7).2.1 = q_3 := by rw [zE_o hE_33 ht_19.1]; exact ho9
    have ht_14 := zE_tg hE_33 ht_14
    have ht_19 := zE_tg hE_33 ht_19
    have ht_24 := zE_tg hE_33 ht_24
    have ht_29 := zE_tg hE_33 ht_29
    have ht_34 : tg z_31 q_3 15 := by rw [ez_31]; exact pz_t _ _ _
    have hEz : zE z z_31 := zE_tr hEz hE_33
    refine W.widen (k := 5) (n := 110) (Nat.le_of_ble_eq_true rfl) (Nat.le_of_ble_eq_true rfl) ?_
    refine W.eq (g2 := F0 m 25 ls [.ref q_3, .ref h0]) rfl ?_
    obtain ⟨kk_35, hk_36⟩ := pl_at hI.2.1.1.1 hI.2.2.2.1.1
    have hFc := fr_all hD hS hA
    refine va_calli (va_runV (As := [.ref q_3]) (rest := []) ⟨hx, hb, hml, hown, hts⟩ (x_enter l dC dI q h0 d k z_31 f_32 hI q_3 (tg_itm ht_34 (by decide)) H.size) (cwV 1 hts gX11_story_X11_enter rfl rfl rfl (by decide +kernel) ⟨Nat.le_of_ble_eq_true rfl, Nat.le_of_ble_eq_true rfl⟩) ⟨gx_fb, va_recv hK hP (ci := 10) (q0 := kk_35) rfl hk_36, fun U hU hW => ⟨rfl, by rw [hU], px_to hU hW hP hK hN hXN, hD.weaken (fun _ _ _ _ => trivial)⟩⟩ rfl rfl hl.1 rfl (lv_room (Nat.le_of_ble_eq_true rfl)) dX11_story_25 ⟨Nat.le_of_ble_eq_true rfl, Nat.le_of_ble_eq_true rfl⟩) hS (fun q _ h => hFc q h) hFc (fun r w_37 t H1 locs ht hvm hw hB hz1 hk1 hS => ?_)
    obtain ⟨hP, hD1⟩ := hB
    rw [ht] at hP
    rw [hw.2.1] at hP hD1
    have hD := hD1.weaken (fun _ q _ h => hFc q.1 h)
    have hI := hw.2.2
    have hw0 := hw
    generalize w_37.1 = k_39 at hI hw0
    generalize w_37.2.2 = f_38 at hP hD hI hw0
    generalize H1 = H at hP hS ⊢
    have hkk := hw0.1
    exact W.iret (v := r) hx hb hr (fun t ht hW => ⟨⟨r, (k_39, z_31, f_38), rfl, ⟨hkk, hEz, hI⟩, by rw [ht]; exact hP, hD⟩, hS.F ht⟩) hS.2.2 dX11_story_28
  ·
    obtain rfl : r = 0 := b_f hw b_1
    refine lv_if_ne (tgt := 12) hx hb dX11_story_7 (by decide) (fun c_41 => absurd (by decide) c_41) (fun c_41 => ?_)
    refine lv_iconst (v := (-1)) hx hb dX11_story_10 (by decide) ?_
    refine W.widen (k := 5) (n := 110) (Nat.le_of_ble_eq_true rfl) (Nat.le_of_ble_eq_true rfl) ?_
    exact W.iret (v := (-1)) hx hb hr (fun t ht hW => ⟨⟨(-1), (k, z, f), rfl, ⟨fun _ _ => rfl, zE_rf z, hI⟩, by rw [ht]; exact hP, hD⟩, hS.F ht⟩) hS.2.2 dX11_story_11
set_option maxHeartbeats 4000000 in
set_option maxRecDepth 100000 in
theorem x_picture (l : Launch) (dC : Nat → ClassId) (dI : Nat → Nat → Nat) (q : Nat → ClassId) (h0 : Nat) (d : Nat → Nat) (k : Nat → Int32) (z : gS) (f : xF) (hI : xI q h0 d k z f) (sz : Nat) : Met l yX11_picture wsX11_picture ({ frames := 3, cells := 5, slots := 22, locals := 67 }) (va_Pc [.ref h0] (fun U => U.heap.size = sz ∧ PX dC dI (va_pl z.1 f) (xT q) U ∧ va_D (fun _ => True) (va_pl z.1 f))) (va_Qi (fun (r : Int32) (w : xU) => (∀ j, j ≠ 0 → w.1 j = k j) ∧ zE z w.2.1 ∧ xI q h0 d w.1 w.2.1 w.2.2) (fun (w : xU) t => va_P (dC, dI) vwCl (va_pl w.2.1.1 w.2.2) t.heap ∧ va_D (va_A (va_pl z.1 f) sz) (va_pl w.2.1.1 w.2.2)) (va_A (va_pl z.1 f) sz)) 5 22 (va_A (va_pl z.1 f) sz) := by
  refine Met.ofW (cc := cX11_picture) (maxL := 1) (ret := (some .int)) (by decide) rfl ?_
  intro p e s m args below meth c s₁ B hml hv
  obtain ⟨rfl, hsz, ⟨⟨hP, hK, hN⟩, hXN⟩, hD0⟩ := hv
  have hx := B.exec
  have hb := B.bytes
  have hr := B.returns
  have hts := atoms_spec (ws := wsX11_picture) B.pre
  have hown : s.vm.findClass RX11 = some m.cls := findClass_of_methodNamed B.named
  have hlocks := B.notSynchronized
  subst hsz
  have hD := hD0.self (sz := s.heap.size)
  generalize hAe : va_A (va_pl z.1 f) s.heap.size = A at hD ⊢
  have hA : ∀ q : Nat, s.heap.size ≤ q → A q := fun q h => by rw [← hAe]; exact Or.inr h
  have hS : va_S A s.heap s.heap [] := va_S.rf
  have hl := lv_entry ([.ref h0]) (n := 1) (Nat.le_of_ble_eq_true rfl)
  rw [lg_entry_eq]
  generalize (lg_sl ([.ref h0]) ++ List.replicate (1 - (lg_sl ([.ref h0])).length) Slot.unset).toArray = ls at hl ⊢
  have hl : lv_has ls 1 [(0, .ref h0)] := hl
  refine lv_aload_n hx hb dX11_picture_0 rfl (lv_at hl 0 rfl) ?_
  refine va_new (ci := 6) (fs := [.int 0, .int 0, .null, .int 0, .null, .null, .null, .int 0]) (C := RX7) (T := TX7) (N := 8) hx hb hts (by decide +kernel) tyX7 tyX7_ok hown (hts (.classLink RX11 88 RX7) (by decide +kernel)) (hts (.instantiable RX7 8) (by decide +kernel)) (hts (.initialized RX7) (by decide +kernel)) hK hP hD hS hA rfl nwX7 (Nat.le_of_ble_eq_true rfl) (Nat.le_of_ble_eq_true rfl) dX11_picture_1 (fun q_1 H hPn hDn hS => ?_)
  have hP := vaP_l hPn
  refine W.widen (k := 1) (n := 8) (Nat.le_of_ble_eq_true rfl) (Nat.le_of_ble_eq_true rfl) ?_
  refine lv_dup hx hb dX11_picture_4 rfl ?_
  refine lv_aload_n hx hb dX11_picture_5 rfl (lv_at hl 0 rfl) ?_
  obtain ⟨kk_2, hk_3⟩ := pl_at hI.2.1.1.1 hI.2.2.2.1.1
  refine va_get (D := (dC, dI)) (ci := 10) (v := .int (k 0)) (C := RX11) (T := TX11) (N := 9) hx hb hts (by decide +kernel) hown hK hP kk_2 hk_3 rfl 3 (by decide) (hts (.fieldLink RX11 24 "PageOne" "itemCount" "I") (by decide +kernel)) (fun _ h9 => h9) rfl dX11_picture_6 ?_
  have hPc := vaP_r hPn
  have hDc := vaD_r hDn
  have hFc := fr_part hDn hS hA
  refine va_callv (va_runI (As := [.int (k 0)]) (rest := [.ref q_1, .ref h0]) ⟨hx, hb, hml, hown, hts⟩ (xn_Picture l dC dI q_1 (q 0) (q 5) (k 0) H.size) (cwI 1 hts gX11_picture_X7_init rfl rfl rfl (hts (.initialized RX7) (by decide +kernel)) (hts (.methodLink RX11 90 yX7_init) (by decide +kernel)) (hts (.instanceMethod yX7_init) (by decide +kernel)) rfl (by decide +kernel) ⟨Nat.le_of_ble_eq_true rfl, Nat.le_of_ble_eq_true rfl⟩) ⟨gw_fb, fun U hU hW => ⟨rfl, by rw [hU], pw_to hU hW hPc (hK.sub (tys' := [(q 0, .int), (q 5, .object "PageOne$Piece")]) [0, 5] rfl) hN, hDc.weaken (fun _ _ _ _ => trivial)⟩⟩ rfl rfl hl.1 rfl (lv_room (Nat.le_of_ble_eq_true rfl)) dX11_picture_9 ⟨Nat.le_of_ble_eq_true rfl, Nat.le_of_ble_eq_true rfl⟩) hS (fun q _ h => hFc q h) hFc (fun u t H1 locs ht hvm hw hB hz1 hk1 hS => ?_)
  obtain ⟨qa_4, qa_5, qa_6, qa_7, hP1, hD1⟩ := hB
  rw [ht] at hP1
  obtain ⟨hP, hD⟩ := va_joinQ (X := [(q_1, .inr (6, [.int 0, .int 0, .null, .int 0, .null, .null, .null, .int 0]))]) (cx := [(q_1, .inr (6, [.int 0, .int 0, .null, .int 0, .null, .null, .null, .int 0]))]) (wr := []) (w1 := [(qa_4, aI (q 0) 5 (fun _ => (-1))), (qa_5, aR (q 5) 1 (fun _ => none)), (qa_6, aI (q 0) 4 (fun _ => 0)), (qa_7, aI (q 0) 4 (fun _ => 0)), (q_1, .inr (6, [.int (k 0), .int 2, .ref qa_5, .int 0, .ref qa_4, .ref qa_6, .ref qa_7, .int 0]))]) (pl := va_pl z.1 f) (vaP_swap hPn) (vaD_rotR hDn) [0] [] rfl rfl rfl (fun i hi => absurd hi List.not_mem_nil) hk1 hFc hP1 hD1
  generalize H1 = H at hP hS ⊢
  obtain ⟨hnm_8, hP, hD⟩ := pushC hP hD
  obtain ⟨z_9, ez_9⟩ : ∃ y : gS, y = pz z qa_4 (17, 0, []) := ⟨_, rfl⟩
  obtain ⟨f_10, ef_10⟩ : ∃ y : xF, y = va_up f qa_4 (aI (q 0) 5 (fun _ => (-1))) := ⟨_, rfl⟩
  have hE_11 : zE z z_9 := by rw [ez_9]; exact pz_E hnm_8 _
  have hI : xI q h0 d k z_9 f_10 := by rw [ez_9, ef_10]; exact x_push hI hnm_8 (Or.inr (by decide : (15 : Nat) < 17)) (cO_17 (by rw [pz_s]) ⟨_, rfl⟩)
  rw [show z.1 ++ [qa_4] = z_9.1 from by rw [ez_9]; rfl, ← ef_10] at hP hD
  have ht_12 : tg z_9 qa_4 17 := by rw [ez_9]; exact pz_t _ _ _
  have hEz : zE z z_9 := zE_tr (zE_rf z) hE_11
  obtain ⟨hnm_13, hP, hD⟩ := pushC hP hD
  obtain ⟨z_14, ez_14⟩ : ∃ y : gS, y = pz z_9 qa_5 (16, q_1, []) := ⟨_, rfl⟩
  obtain ⟨f_15, ef_15⟩ : ∃ y : xF, y = va_up f_10 qa_5 (aR (q 5) 1 (fun _ => none)) := ⟨_, rfl⟩
  have hE_16 : zE z_9 z_14 := by rw [ez_14]; exact pz_E hnm_13 _
  have hI : xI q h0 d k z_14 f_15 := by rw [ez_14, ef_15]; exact x_push hI hnm_13 (Or.inr (by decide : (15 : Nat) < 16)) (cO_16 (by rw [pz_s]) ⟨1, by decide, by decide, _, rfl, fun _ _ b hb => by cases hb⟩)
  rw [show z_9.1 ++ [qa_5] = z_14.1 from by rw [ez_14]; rfl, ← ef_15] at hP hD
  have hpf9 : f_15 qa_5 = aR (q 5) 1 (fun _ => none) := by rw [ef_15]; exact up_s
  have ho9 : (z_14.2 qa_5).2.1 = q_1 := by rw [ez_14, pz_s]
  have ht_12 := zE_tg hE_16 ht_12
  have ht_17 : tg z_14 qa_5 16 := by rw [ez_14]; exact pz_t _ _ _
  have hEz : zE z z_14 := zE_tr hEz hE_16
  obtain ⟨hnm_18, hP, hD⟩ := pushC hP hD
  obtain ⟨z_19, ez_19⟩ : ∃ y : gS, y = pz z_14 qa_6 (20, 0, []) := ⟨_, rfl⟩
  obtain ⟨f_20, ef_20⟩ : ∃ y : xF, y = va_up f_15 qa_6 (aI (q 0) 4 (fun _ => 0)) := ⟨_, rfl⟩
  have hE_21 : zE z_14 z_19 := by rw [ez_19]; exact pz_E hnm_18 _
  have hI : xI q h0 d k z_19 f_20 := by rw [ez_19, ef_20]; exact x_push hI hnm_18 (Or.inr (by decide : (15 : Nat) < 20)) (cO_20 (by rw [pz_s]) ⟨_, rfl⟩)
  rw [show z_14.1 ++ [qa_6] = z_19.1 from by rw [ez_19]; rfl, ← ef_20] at hP hD
  have hpf9 : f_20 qa_5 = aR (q 5) 1 (fun _ => none) := by rw [ef_20, up_o (fun e => hnm_18 (by rw [← e]; exact ht_17.1))]; exact hpf9
  have ho9 : (z_19.2 qa_5).2.1 = q_1 := by rw [zE_o hE_21 ht_17.1]; exact ho9
  have ht_12 := zE_tg hE_21 ht_12
  have ht_17 := zE_tg hE_21 ht_17
  have ht_22 : tg z_19 qa_6 20 := by rw [ez_19]; exact pz_t _ _ _
  have hEz : zE z z_19 := zE_tr hEz hE_21
  obtain ⟨hnm_23, hP, hD⟩ := pushC hP hD
  obtain ⟨z_24, ez_24⟩ : ∃ y : gS, y = pz z_19 qa_7 (20, 0, []) := ⟨_, rfl⟩
  obtain ⟨f_25, ef_25⟩ : ∃ y : xF, y = va_up f_20 qa_7 (aI (q 0) 4 (fun _ => 0)) := ⟨_, rfl⟩
  have hE_26 : zE z_19 z_24 := by rw [ez_24]; exact pz_E hnm_23 _
  have hI : xI q h0 d k z_24 f_25 := by rw [ez_24, ef_25]; exact x_push hI hnm_23 (Or.inr (by decide : (15 : Nat) < 20)) (cO_20 (by rw [pz_s]) ⟨_, rfl⟩)
  rw [show z_19.1 ++ [qa_7] = z_24.1 from by rw [ez_24]; rfl, ← ef_25] at hP hD
  have hpf9 : f_25 qa_5 = aR (q 5) 1 (fun _ => none) := by rw [ef_25, up_o (fun e => hnm_23 (by rw [← e]; exact ht_17.1))]; exact hpf9
  have ho9 : (z_24.2 qa_5).2.1 = q_1 := by rw [zE_o hE_26 ht_17.1]; exact ho9
  have ht_12 := zE_tg hE_26 ht_12
  have ht_17 := zE_tg hE_26 ht_17
  have ht_22 := zE_tg hE_26 ht_22
  have ht_27 : tg z_24 qa_7 20 := by rw [ez_24]; exact pz_t _ _ _
  have hEz : zE z z_24 := zE_tr hEz hE_26
  obtain ⟨hnm_28, hP, hD⟩ := pushC hP hD
  obtain ⟨z_29, ez_29⟩ : ∃ y : gS, y = pz z_24 q_1 (14, 0, []) := ⟨_, rfl⟩
  obtain ⟨f_30, ef_30⟩ : ∃ y : xF, y = va_up f_25 q_1 (.inr (6, [.int (k 0), .int 2, .ref qa_5, .int 0, .ref qa_4, .ref qa_6, .ref qa_7, .int 0])) := ⟨_, rfl⟩
  have hE_31 : zE z_24 z_29 := by rw [ez_29]; exact pz_E hnm_28 _
  have hI : xI q h0 d k z_29 f_30 := by rw [ez_29, ef_30]; exact x_pushI (n := 1) hI hnm_28 (by decide) ht_17 ho9 ht_12 hpf9 (by decide) ⟨fun x => absurd x (by decide), fun x => absurd x (by decide), fun x => absurd x (by decide), fun x => absurd x (by decide), fun _ => ⟨_, _, _, rfl, zE_tg (pz_E hnm_28 _) ht_22, zE_tg (pz_E hnm_28 _) ht_27, by decide⟩, fun x => absurd x (by decide)⟩
  rw [show z_24.1 ++ [q_1] = z_29.1 from by rw [ez_29]; rfl, ← ef_30] at hP hD
  have hpf9 : f_30 qa_5 = aR (q 5) 1 (fun _ => none) := by rw [ef_30, up_o (fun e => hnm_28 (by rw [← e]; exact ht_17.1))]; exact hpf9
  have ho9 : (z_29.2 qa_5).2.1 = q_1 := by rw [zE_o hE_31 ht_17.1]; exact ho9
  have ht_12 := zE_tg hE_31 ht_12
  have ht_17 := zE_tg hE_31 ht_17
  have ht_22 := zE_tg hE_31 ht_22
  have ht_27 := zE_tg hE_31 ht_27
  have ht_32 : tg z_29 q_1 14 := by rw [ez_29]; exact pz_t _ _ _
  have hEz : zE z z_29 := zE_tr hEz hE_31
  refine W.widen (k := 5) (n := 22) (Nat.le_of_ble_eq_true rfl) (Nat.le_of_ble_eq_true rfl) ?_
  refine W.eq (g2 := F0 m 12 ls [.ref q_1, .ref h0]) rfl ?_
  obtain ⟨kk_33, hk_34⟩ := pl_at hI.2.1.1.1 hI.2.2.2.1.1
  have hFc := fr_all hD hS hA
  refine va_calli (va_runV (As := [.ref q_1]) (rest := []) ⟨hx, hb, hml, hown, hts⟩ (x_enter l dC dI q h0 d k z_29 f_30 hI q_1 (tg_itm ht_32 (by decide)) H.size) (cwV 1 hts gX11_picture_X11_enter rfl rfl rfl (by decide +kernel) ⟨Nat.le_of_ble_eq_true rfl, Nat.le_of_ble_eq_true rfl⟩) ⟨gx_fb, va_recv hK hP (ci := 10) (q0 := kk_33) rfl hk_34, fun U hU hW => ⟨rfl, by rw [hU], px_to hU hW hP hK hN hXN, hD.weaken (fun _ _ _ _ => trivial)⟩⟩ rfl rfl hl.1 rfl (lv_room (Nat.le_of_ble_eq_true rfl)) dX11_picture_12 ⟨Nat.le_of_ble_eq_true rfl, Nat.le_of_ble_eq_true rfl⟩) hS (fun q _ h => hFc q h) hFc (fun r w_35 t H1 locs ht hvm hw hB hz1 hk1 hS => ?_)
  obtain ⟨hP, hD1⟩ := hB
  rw [ht] at hP
  rw [hw.2.1] at hP hD1
  have hD := hD1.weaken (fun _ q _ h => hFc q.1 h)
  have hI := hw.2.2
  have hw0 := hw
  generalize w_35.1 = k_37 at hI hw0
  generalize w_35.2.2 = f_36 at hP hD hI hw0
  generalize H1 = H at hP hS ⊢
  have hkk := hw0.1
  exact W.iret (v := r) hx hb hr (fun t ht hW => ⟨⟨r, (k_37, z_29, f_36), rfl, ⟨hkk, hEz, hI⟩, by rw [ht]; exact hP, hD⟩, hS.F ht⟩) hS.2.2 dX11_picture_15
set_option maxHeartbeats 4000000 in
set_option maxRecDepth 100000 in
theorem x_filler (l : Launch) (dC : Nat → ClassId) (dI : Nat → Nat → Nat) (q : Nat → ClassId) (h0 : Nat) (d : Nat → Nat) (k : Nat → Int32) (z : gS) (f : xF) (hI : xI q h0 d k z f) (p0 p1 : Int32) (sz : Nat) : Met l yX11_filler wsX11_filler ({ frames := 3, cells := 3, slots := 13, locals := 69 }) (va_Pc [.ref h0, .int p0, .int p1] (fun U => U.heap.size = sz ∧ PX dC dI (va_pl z.1 f) (xT q) U ∧ va_D (fun _ => True) (va_pl z.1 f))) (va_Qi (fun (r : Int32) (w : xU) => (∀ j, j ≠ 0 → w.1 j = k j) ∧ zE z w.2.1 ∧ xI q h0 d w.1 w.2.1 w.2.2) (fun (w : xU) t => va_P (dC, dI) vwCl (va_pl w.2.1.1 w.2.2) t.heap ∧ va_D (va_A (va_pl z.1 f) sz) (va_pl w.2.1.1 w.2.2)) (va_A (va_pl z.1 f) sz)) 3 13 (va_A (va_pl z.1 f) sz) := by
  refine Met.ofW (cc := cX11_filler) (maxL := 3) (ret := (some .int)) (by decide) rfl ?_
  intro p e s m args below meth c s₁ B hml hv
  obtain ⟨rfl, hsz, ⟨⟨hP, hK, hN⟩, hXN⟩, hD0⟩ := hv
  have hx := B.exec
  have hb := B.bytes
  have hr := B.returns
  have hts := atoms_spec (ws := wsX11_filler) B.pre
  have hown : s.vm.findClass RX11 = some m.cls := findClass_of_methodNamed B.named
  have hlocks := B.notSynchronized
  subst hsz
  have hD := hD0.self (sz := s.heap.size)
  generalize hAe : va_A (va_pl z.1 f) s.heap.size = A at hD ⊢
  have hA : ∀ q : Nat, s.heap.size ≤ q → A q := fun q h => by rw [← hAe]; exact Or.inr h
  have hS : va_S A s.heap s.heap [] := va_S.rf
  have hl := lv_entry ([.ref h0, .int p0, .int p1]) (n := 3) (Nat.le_of_ble_eq_true rfl)
  rw [lg_entry_eq]
  generalize (lg_sl ([.ref h0, .int p0, .int p1]) ++ List.replicate (3 - (lg_sl ([.ref h0, .int p0, .int p1])).length) Slot.unset).toArray = ls at hl ⊢
  have hl : lv_has ls 3 [(0, .ref h0), (1, .int p0), (2, .int p1)] := hl
  refine lv_iload_n hx hb dX11_filler_0 rfl (lv_at hl 2 rfl) ?_
  refine lv_iconst (v := 1) hx hb dX11_filler_1 (by decide) ?_
  refine lv_bipush (v := 60) hx hb dX11_filler_2 (by decide) ?_
  refine vp_callSi (va_runS (As := [.int p1, .int 1, .int 60]) (rest := []) ⟨hx, hb, hml, hown, hts⟩ (x_isWithin l dC dI p1 1 60) (va_cwS 3 hts gX11_filler_X11_isWithin rfl rfl rfl (by decide +kernel) ⟨Nat.le_of_ble_eq_true rfl, Nat.le_of_ble_eq_true rfl⟩) ⟨pw_fb, fun U hU hW => ⟨rfl, pw_to hU hW (hP.sub (ws' := []) [] rfl) (hK.sub (tys' := []) [] rfl) hN⟩⟩ rfl rfl hl.1 rfl (lv_room (Nat.le_of_ble_eq_true rfl)) dX11_filler_4 ⟨Nat.le_of_ble_eq_true rfl, Nat.le_of_ble_eq_true rfl⟩).run (fun r hw => ?_)
  rcases Bool.eq_false_or_eq_true (bw p1 1 60) with b_1 | b_1
  ·
    obtain rfl : r = 1 := b_t hw b_1
    refine lv_if_eq (tgt := 19) hx hb dX11_filler_7 (by decide) (fun c_2 => absurd c_2 (by decide)) (fun c_2 => ?_)
    refine lv_iload_n hx hb dX11_filler_10 rfl (lv_at hl 1 rfl) ?_
    refine lv_iconst (v := 1) hx hb dX11_filler_11 (by decide) ?_
    refine lv_iload_n hx hb dX11_filler_12 rfl (lv_at hl 2 rfl) ?_
    refine vp_callSi (va_runS (As := [.int p0, .int 1, .int p1]) (rest := []) ⟨hx, hb, hml, hown, hts⟩ (x_isWithin l dC dI p0 1 p1) (va_cwS 3 hts gX11_filler_X11_isWithin rfl rfl rfl (by decide +kernel) ⟨Nat.le_of_ble_eq_true rfl, Nat.le_of_ble_eq_true rfl⟩) ⟨pw_fb, fun U hU hW => ⟨rfl, pw_to hU hW (hP.sub (ws' := []) [] rfl) (hK.sub (tys' := []) [] rfl) hN⟩⟩ rfl rfl hl.1 rfl (lv_room (Nat.le_of_ble_eq_true rfl)) dX11_filler_13 ⟨Nat.le_of_ble_eq_true rfl, Nat.le_of_ble_eq_true rfl⟩).run (fun r hw => ?_)
    rcases Bool.eq_false_or_eq_true (bw p0 1 p1) with b_3 | b_3
    ·
      obtain rfl : r = 1 := b_t hw b_3
      refine lv_if_ne (tgt := 21) hx hb dX11_filler_16 (by decide) (fun c_4 => ?_) (fun c_4 => absurd c_4 (by decide))
      refine lv_aload_n hx hb dX11_filler_21 rfl (lv_at hl 0 rfl) ?_
      refine va_new (ci := 2) (fs := [.int 0, .int 0, .null, .int 0, .null, .int 0, .int 0]) (C := RX2) (T := TX2) (N := 7) hx hb hts (by decide +kernel) tyX2 tyX2_ok hown (hts (.classLink RX11 114 RX2) (by decide +kernel)) (hts (.instantiable RX2 7) (by decide +kernel)) (hts (.initialized RX2) (by decide +kernel)) hK hP hD hS hA rfl nwX2 (Nat.le_of_ble_eq_true rfl) (Nat.le_of_ble_eq_true rfl) dX11_filler_22 (fun q_5 H hPn hDn hS => ?_)
      have hP := vaP_l hPn
      refine W.widen (k := 1) (n := 7) (Nat.le_of_ble_eq_true rfl) (Nat.le_of_ble_eq_true rfl) ?_
      refine lv_dup hx hb dX11_filler_25 rfl ?_
      refine lv_aload_n hx hb dX11_filler_26 rfl (lv_at hl 0 rfl) ?_
      obtain ⟨kk_6, hk_7⟩ := pl_at hI.2.1.1.1 hI.2.2.2.1.1
      refine va_get (D := (dC, dI)) (ci := 10) (v := .int (k 0)) (C := RX11) (T := TX11) (N := 9) hx hb hts (by decide +kernel) hown hK hP kk_6 hk_7 rfl 3 (by decide) (hts (.fieldLink RX11 24 "PageOne" "itemCount" "I") (by decide +kernel)) (fun _ h9 => h9) rfl dX11_filler_27 ?_
      refine lv_iload_n hx hb dX11_filler_30 rfl (lv_at hl 1 rfl) ?_
      refine lv_iload_n hx hb dX11_filler_31 rfl (lv_at hl 2 rfl) ?_
      have hPc := vaP_r hPn
      have hDc := vaD_r hDn
      have hFc := fr_part hDn hS hA
      refine va_callv (va_runI (As := [.int (k 0), .int p0, .int p1]) (rest := [.ref q_5, .ref h0]) ⟨hx, hb, hml, hown, hts⟩ (xn_Filler l dC dI q_5 (q 0) (q 5) (k 0) p0 p1 H.size) (cwI 3 hts gX11_filler_X2_init rfl rfl rfl (hts (.initialized RX2) (by decide +kernel)) (hts (.methodLink RX11 116 yX2_init) (by decide +kernel)) (hts (.instanceMethod yX2_init) (by decide +kernel)) rfl (by decide +kernel) ⟨Nat.le_of_ble_eq_true rfl, Nat.le_of_ble_eq_true rfl⟩) ⟨gw_fb, fun U hU hW => ⟨rfl, by rw [hU], pw_to hU hW hPc (hK.sub (tys' := [(q 0, .int), (q 5, .object "PageOne$Piece")]) [0, 5] rfl) hN, hDc.weaken (fun _ _ _ _ => trivial)⟩⟩ rfl rfl hl.1 rfl (lv_room (Nat.le_of_ble_eq_true rfl)) dX11_filler_32 ⟨Nat.le_of_ble_eq_true rfl, Nat.le_of_ble_eq_true rfl⟩) hS (fun q _ h => hFc q h) hFc (fun u t H1 locs ht hvm hw hB hz1 hk1 hS => ?_)
      obtain ⟨qa_8, qa_9, hP1, hD1⟩ := hB
      rw [ht] at hP1
      obtain ⟨hP, hD⟩ := va_joinQ (X := [(q_5, .inr (2, [.int 0, .int 0, .null, .int 0, .null, .int 0, .int 0]))]) (cx := [(q_5, .inr (2, [.int 0, .int 0, .null, .int 0, .null, .int 0, .int 0]))]) (wr := []) (w1 := [(qa_8, aI (q 0) 5 (fun _ => (-1))), (qa_9, aR (q 5) 1 (fun _ => none)), (q_5, .inr (2, [.int (k 0), .int 4, .ref qa_9, .int 0, .ref qa_8, .int p0, .int p1]))]) (pl := va_pl z.1 f) (vaP_swap hPn) (vaD_rotR hDn) [0] [] rfl rfl rfl (fun i hi => absurd hi List.not_mem_nil) hk1 hFc hP1 hD1
      generalize H1 = H at hP hS ⊢
      obtain ⟨hnm_10, hP, hD⟩ := pushC hP hD
      obtain ⟨z_11, ez_11⟩ : ∃ y : gS, y = pz z qa_8 (17, 0, []) := ⟨_, rfl⟩
      obtain ⟨f_12, ef_12⟩ : ∃ y : xF, y = va_up f qa_8 (aI (q 0) 5 (fun _ => (-1))) := ⟨_, rfl⟩
      have hE_13 : zE z z_11 := by rw [ez_11]; exact pz_E hnm_10 _
      have hI : xI q h0 d k z_11 f_12 := by rw [ez_11, ef_12]; exact x_push hI hnm_10 (Or.inr (by decide : (15 : Nat) < 17)) (cO_17 (by rw [pz_s]) ⟨_, rfl⟩)
      rw [show z.1 ++ [qa_8] = z_11.1 from by rw [ez_11]; rfl, ← ef_12] at hP hD
      have ht_14 : tg z_11 qa_8 17 := by rw [ez_11]; exact pz_t _ _ _
      have hEz : zE z z_11 := zE_tr (zE_rf z) hE_13
      obtain ⟨hnm_15, hP, hD⟩ := pushC hP hD
      obtain ⟨z_16, ez_16⟩ : ∃ y : gS, y = pz z_11 qa_9 (16, q_5, []) := ⟨_, rfl⟩
      obtain ⟨f_17, ef_17⟩ : ∃ y : xF, y = va_up f_12 qa_9 (aR (q 5) 1 (fun _ => none)) := ⟨_, rfl⟩
      have hE_18 : zE z_11 z_16 := by rw [ez_16]; exact pz_E hnm_15 _
      have hI : xI q h0 d k z_16 f_17 := by rw [ez_16, ef_17]; exact x_push hI hnm_15 (Or.inr (by decide : (15 : Nat) < 16)) (cO_16 (by rw [pz_s]) ⟨1, by decide, by decide, _, rfl, fun _ _ b hb => by cases hb⟩)
      rw [show z_11.1 ++ [qa_9] = z_16.1 from by rw [ez_16]; rfl, ← ef_17] at hP hD
      have hpf9 : f_17 qa_9 = aR (q 5) 1 (fun _ => none) := by rw [ef_17]; exact up_s
      have ho9 : (z_16.2 qa_9).2.1 = q_5 := by rw [ez_16, pz_s]
      have ht_14 := zE_tg hE_18 ht_14
      have ht_19 : tg z_16 qa_9 16 := by rw [ez_16]; exact pz_t _ _ _
      have hEz : zE z z_16 := zE_tr hEz hE_18
      obtain ⟨hnm_20, hP, hD⟩ := pushC hP hD
      obtain ⟨z_21, ez_21⟩ : ∃ y : gS, y = pz z_16 q_5 (10, 0, []) := ⟨_, rfl⟩
      obtain ⟨f_22, ef_22⟩ : ∃ y : xF, y = va_up f_17 q_5 (.inr (2, [.int (k 0), .int 4, .ref qa_9, .int 0, .ref qa_8, .int p0, .int p1])) := ⟨_, rfl⟩
      have hE_23 : zE z_16 z_21 := by rw [ez_21]; exact pz_E hnm_20 _
      have hI : xI q h0 d k z_21 f_22 := by rw [ez_21, ef_22]; exact x_pushI (n := 1) hI hnm_20 (by decide) ht_19 ho9 ht_14 hpf9 (by decide) ⟨fun _ => ⟨_, _, rfl⟩, fun x => absurd x (by decide), fun x => absurd x (by decide), fun x => absurd x (by decide), fun x => absurd x (by decide), fun x => absurd x (by decide)⟩
      rw [show z_16.1 ++ [q_5] = z_21.1 from by rw [ez_21]; rfl, ← ef_22] at hP hD
      have hpf9 : f_22 qa_9 = aR (q 5) 1 (fun _ => none) := by rw [ef_22, up_o (fun e => hnm_20 (by rw [← e]; exact ht_19.1))]; exact hpf9
      have ho9 : (z_21.2 qa_9).2.1 = q_5 := by rw [zE_o hE_23 ht_19.1]; exact ho9
      have ht_14 := zE_tg hE_23 ht_14
      have ht_19 := zE_tg hE_23 ht_19
      have ht_24 : tg z_21 q_5 10 := by rw [ez_21]; exact pz_t _ _ _
      have hEz : zE z z_21 := zE_tr hEz hE_23
      refine W.widen (k := 3) (n := 13) (Nat.le_of_ble_eq_true rfl) (Nat.le_of_ble_eq_true rfl) ?_
      refine W.eq (g2 := F0 m 35 ls [.ref q_5, .ref h0]) rfl ?_
      obtain ⟨kk_25, hk_26⟩ := pl_at hI.2.1.1.1 hI.2.2.2.1.1
      have hFc := fr_all hD hS hA
      refine va_calli (va_runV (As := [.ref q_5]) (rest := []) ⟨hx, hb, hml, hown, hts⟩ (x_enter l dC dI q h0 d k z_21 f_22 hI q_5 (tg_itm ht_24 (by decide)) H.size) (cwV 1 hts gX11_filler_X11_enter rfl rfl rfl (by decide +kernel) ⟨Nat.le_of_ble_eq_true rfl, Nat.le_of_ble_eq_true rfl⟩) ⟨gx_fb, va_recv hK hP (ci := 10) (q0 := kk_25) rfl hk_26, fun U hU hW => ⟨rfl, by rw [hU], px_to hU hW hP hK hN hXN, hD.weaken (fun _ _ _ _ => trivial)⟩⟩ rfl rfl hl.1 rfl (lv_room (Nat.le_of_ble_eq_true rfl)) dX11_filler_35 ⟨Nat.le_of_ble_eq_true rfl, Nat.le_of_ble_eq_true rfl⟩) hS (fun q _ h => hFc q h) hFc (fun r w_27 t H1 locs ht hvm hw hB hz1 hk1 hS => ?_)
      obtain ⟨hP, hD1⟩ := hB
      rw [ht] at hP
      rw [hw.2.1] at hP hD1
      have hD := hD1.weaken (fun _ q _ h => hFc q.1 h)
      have hI := hw.2.2
      have hw0 := hw
      generalize w_27.1 = k_29 at hI hw0
      generalize w_27.2.2 = f_28 at hP hD hI hw0
      generalize H1 = H at hP hS ⊢
      have hkk := hw0.1
      exact W.iret (v := r) hx hb hr (fun t ht hW => ⟨⟨r, (k_29, z_21, f_28), rfl, ⟨hkk, hEz, hI⟩, by rw [ht]; exact hP, hD⟩, hS.F ht⟩) hS.2.2 dX11_filler_38
    ·
      obtain rfl : r = 0 := b_f hw b_3
      refine lv_if_ne (tgt := 21) hx hb dX11_filler_16 (by decide) (fun c_31 => absurd (by decide) c_31) (fun c_31 => ?_)
      refine lv_iconst (v := (-1)) hx hb dX11_filler_19 (by decide) ?_
      refine W.widen (k := 3) (n := 13) (Nat.le_of_ble_eq_true rfl) (Nat.le_of_ble_eq_true rfl) ?_
      exact W.iret (v := (-1)) hx hb hr (fun t ht hW => ⟨⟨(-1), (k, z, f), rfl, ⟨fun _ _ => rfl, zE_rf z, hI⟩, by rw [ht]; exact hP, hD⟩, hS.F ht⟩) hS.2.2 dX11_filler_20
  ·
    obtain rfl : r = 0 := b_f hw b_1
    refine lv_if_eq (tgt := 19) hx hb dX11_filler_7 (by decide) (fun c_32 => ?_) (fun c_32 => absurd (by decide) c_32)
    refine lv_iconst (v := (-1)) hx hb dX11_filler_19 (by decide) ?_
    refine W.widen (k := 3) (n := 13) (Nat.le_of_ble_eq_true rfl) (Nat.le_of_ble_eq_true rfl) ?_
    exact W.iret (v := (-1)) hx hb hr (fun t ht hW => ⟨⟨(-1), (k, z, f), rfl, ⟨fun _ _ => rfl, zE_rf z, hI⟩, by rw [ht]; exact hP, hD⟩, hS.F ht⟩) hS.2.2 dX11_filler_20
set_option maxHeartbeats 4000000 in
set_option maxRecDepth 100000 in
theorem x_head (l : Launch) (dC : Nat → ClassId) (dI : Nat → Nat → Nat) (q : Nat → ClassId) (h0 : Nat) (d : Nat → Nat) (k : Nat → Int32) (z : gS) (f : xF) (hI : xI q h0 d k z f) (p0 p1 p2 : Int32) (sz : Nat) : Met l yX11_head wsX11_head ({ frames := 3, cells := 3, slots := 14, locals := 70 }) (va_Pc [.ref h0, .int p0, .int p1, .int p2] (fun U => U.heap.size = sz ∧ PX dC dI (va_pl z.1 f) (xT q) U ∧ va_D (fun _ => True) (va_pl z.1 f))) (va_Qi (fun (r : Int32) (w : xU) => (∀ j, j ≠ 0 → w.1 j = k j) ∧ zE z w.2.1 ∧ xI q h0 d w.1 w.2.1 w.2.2) (fun (w : xU) t => va_P (dC, dI) vwCl (va_pl w.2.1.1 w.2.2) t.heap ∧ va_D (va_A (va_pl z.1 f) sz) (va_pl w.2.1.1 w.2.2)) (va_A (va_pl z.1 f) sz)) 3 14 (va_A (va_pl z.1 f) sz) := by
  refine Met.ofW (cc := cX11_head) (maxL := 6) (ret := (some .int)) (by decide) rfl ?_
  intro p e s m args below meth c s₁ B hml hv
  obtain ⟨rfl, hsz, ⟨⟨hP, hK, hN⟩, hXN⟩, hD0⟩ := hv
  have hx := B.exec
  have hb := B.bytes
  have hr := B.returns
  have hts := atoms_spec (ws := wsX11_head) B.pre
  have hown : s.vm.findClass RX11 = some m.cls := findClass_of_methodNamed B.named
  have hlocks := B.notSynchronized
  subst hsz
  have hD := hD0.self (sz := s.heap.size)
  generalize hAe : va_A (va_pl z.1 f) s.heap.size = A at hD ⊢
  have hA : ∀ q : Nat, s.heap.size ≤ q → A q := fun q h => by rw [← hAe]; exact Or.inr h
  have hS : va_S A s.heap s.heap [] := va_S.rf
  have hl := lv_entry ([.ref h0, .int p0, .int p1, .int p2]) (n := 6) (Nat.le_of_ble_eq_true rfl)
  rw [lg_entry_eq]
  generalize (lg_sl ([.ref h0, .int p0, .int p1, .int p2]) ++ List.replicate (6 - (lg_sl ([.ref h0, .int p0, .int p1, .int p2])).length) Slot.unset).toArray = ls at hl ⊢
  have hl : lv_has ls 6 [(0, .ref h0), (1, .int p0), (2, .int p1), (3, .int p2)] := hl
  refine lv_aload_n hx hb dX11_head_0 rfl (lv_at hl 0 rfl) ?_
  refine lv_iload_n hx hb dX11_head_1 rfl (lv_at hl 1 rfl) ?_
  obtain ⟨kk_1, hk_2⟩ := pl_at hI.2.1.1.1 hI.2.2.2.1.1
  refine va_csq (va_runV (As := [.int p0]) (rest := []) ⟨hx, hb, hml, hown, hts⟩ (x_itemOf l dC dI q h0 d k z f hI p0) (cwV 1 hts gX11_head_X11_itemOf rfl rfl rfl (by decide +kernel) ⟨Nat.le_of_ble_eq_true rfl, Nat.le_of_ble_eq_true rfl⟩) ⟨px_fb, va_recv hK hP (ci := 10) (q0 := kk_1) rfl hk_2, fun U hU hW => ⟨rfl, px_to hU hW hP hK hN hXN⟩⟩ rfl rfl hl.1 rfl (lv_room (Nat.le_of_ble_eq_true rfl)) dX11_head_2 ⟨Nat.le_of_ble_eq_true rfl, Nat.le_of_ble_eq_true rfl⟩).run (fun r hw => ?_)
  rcases r with _ | b_3
  ·
    refine W.eq (g2 := F0 m 5 ls [.null]) rfl ?_
    refine lv_astoreN (lv' := [(5, .null), (0, .ref h0), (1, .int p0), (2, .int p1), (3, .int p2)]) hx hb dX11_head_5 hl (by decide) rfl (fun ls hl => ?_)
    refine lv_aloadN hx hb dX11_head_7 (lv_at hl 0 rfl) ?_
    refine lv_instN hx hb dX11_head_9 ?_
    refine lv_if_eq (tgt := 42) hx hb dX11_head_12 (by decide) (fun c_5 => ?_) (fun c_5 => absurd (by decide) c_5)
    refine lv_iconst (v := (-1)) hx hb dX11_head_42 (by decide) ?_
    refine W.widen (k := 3) (n := 14) (Nat.le_of_ble_eq_true rfl) (Nat.le_of_ble_eq_true rfl) ?_
    exact W.iret (v := (-1)) hx hb hr (fun t ht hW => ⟨⟨(-1), (k, z, f), rfl, ⟨fun _ _ => rfl, zE_rf z, hI⟩, by rw [ht]; exact hP, hD⟩, hS.F ht⟩) hS.2.2 dX11_head_43
  ·
    have ht_4 := hw b_3 rfl
    refine W.eq (g2 := F0 m 5 ls [.ref b_3]) rfl ?_
    refine lv_astore (lv' := [(5, .ref b_3), (0, .ref h0), (1, .int p0), (2, .int p1), (3, .int p2)]) hx hb dX11_head_5 hl (by decide) rfl (fun ls hl => ?_)
    refine lv_aload hx hb dX11_head_7 (lv_at hl 0 rfl) ?_
    rcases Classical.em (tg z b_3 15) with ht9 | ht9
    ·
      have ht_6 := ht9
      obtain ⟨nu_8, kd_9, cn_10, pa_11, fa_12, l_13, co_14, wd_15, nm_16, hs_17, hs_18, hs_19, hs_20, hq_21, hq_22, hq_23⟩ := x_ist hI ht_6
      obtain ⟨kk_24, hk_25⟩ := pl_at ht_6.1 hs_17
      refine va_instS hx hb hown (hts (.classLink RX11 66 "PageOne$Story") (by decide +kernel)) (hK.1 9 (RX10, TX10, 9) rfl).2 (va_recv hK hP (ci := 9) (q0 := kk_24) rfl hk_25) dX11_head_9 ?_
      refine lv_if_eq (tgt := 42) hx hb dX11_head_12 (by decide) (fun c_26 => absurd c_26 (by decide)) (fun c_26 => ?_)
      refine lv_aload hx hb dX11_head_15 (lv_at hl 0 rfl) ?_
      obtain ⟨kk_27, hk_28⟩ := pl_at ht_6.1 hs_17
      refine va_castS hx hb hown (hts (.classLink RX11 66 "PageOne$Story") (by decide +kernel)) (hK.1 9 (RX10, TX10, 9) rfl).2 (va_recv hK hP (ci := 9) (q0 := kk_27) rfl hk_28) dX11_head_17 ?_
      refine lv_astore (lv' := [(4, .ref b_3), (5, .ref b_3), (0, .ref h0), (1, .int p0), (2, .int p1), (3, .int p2)]) hx hb dX11_head_20 hl (by decide) rfl (fun ls hl => ?_)
      refine lv_iload_n hx hb dX11_head_22 rfl (lv_at hl 4 rfl) ?_
      refine lv_iconst (v := 1) hx hb dX11_head_23 (by decide) ?_
      refine lv_bipush (v := 8) hx hb dX11_head_24 (by decide) ?_
      refine vp_callSi (va_runS (As := [.int p1, .int 1, .int 8]) (rest := []) ⟨hx, hb, hml, hown, hts⟩ (x_isWithin l dC dI p1 1 8) (va_cwS 3 hts gX11_head_X11_isWithin rfl rfl rfl (by decide +kernel) ⟨Nat.le_of_ble_eq_true rfl, Nat.le_of_ble_eq_true rfl⟩) ⟨pw_fb, fun U hU hW => ⟨rfl, pw_to hU hW (hP.sub (ws' := []) [] rfl) (hK.sub (tys' := []) [] rfl) hN⟩⟩ rfl rfl hl.1 rfl (lv_room (Nat.le_of_ble_eq_true rfl)) dX11_head_26 ⟨Nat.le_of_ble_eq_true rfl, Nat.le_of_ble_eq_true rfl⟩).run (fun r hw => ?_)
      rcases Bool.eq_false_or_eq_true (bw p1 1 8) with b_29 | b_29
      ·
        obtain rfl : r = 1 := b_t hw b_29
        refine lv_if_eq (tgt := 42) hx hb dX11_head_29 (by decide) (fun c_30 => absurd c_30 (by decide)) (fun c_30 => ?_)
        refine lv_iload_n hx hb dX11_head_32 rfl (lv_at hl 5 rfl) ?_
        refine lv_iconst (v := 1) hx hb dX11_head_33 (by decide) ?_
        refine lv_bipush (v := 9) hx hb dX11_head_34 (by decide) ?_
        refine vp_callSi (va_runS (As := [.int p2, .int 1, .int 9]) (rest := []) ⟨hx, hb, hml, hown, hts⟩ (x_isWithin l dC dI p2 1 9) (va_cwS 3 hts gX11_head_X11_isWithin rfl rfl rfl (by decide +kernel) ⟨Nat.le_of_ble_eq_true rfl, Nat.le_of_ble_eq_true rfl⟩) ⟨pw_fb, fun U hU hW => ⟨rfl, pw_to hU hW (hP.sub (ws' := []) [] rfl) (hK.sub (tys' := []) [] rfl) hN⟩⟩ rfl rfl hl.1 rfl (lv_room (Nat.le_of_ble_eq_true rfl)) dX11_head_36 ⟨Nat.le_of_ble_eq_true rfl, Nat.le_of_ble_eq_true rfl⟩).run (fun r hw => ?_)
        rcases Bool.eq_false_or_eq_true (bw p2 1 9) with b_31 | b_31
        ·
          obtain rfl : r = 1 := b_t hw b_31
          refine lv_if_ne (tgt := 44) hx hb dX11_head_39 (by decide) (fun c_32 => ?_) (fun c_32 => absurd c_32 (by decide))
          refine lv_aload_n hx hb dX11_head_44 rfl (lv_at hl 2 rfl) ?_
          refine va_new (ci := 3) (fs := [.int 0, .int 0, .null, .int 0, .null, .null, .int 0, .int 0]) (C := RX3) (T := TX3) (N := 8) hx hb hts (by decide +kernel) tyX3 tyX3_ok hown (hts (.classLink RX11 83 RX3) (by decide +kernel)) (hts (.instantiable RX3 8) (by decide +kernel)) (hts (.initialized RX3) (by decide +kernel)) hK hP hD hS hA rfl nwX3 (Nat.le_of_ble_eq_true rfl) (Nat.le_of_ble_eq_true rfl) dX11_head_45 (fun q_33 H hPn hDn hS => ?_)
          have hP := vaP_l hPn
          refine W.widen (k := 1) (n := 8) (Nat.le_of_ble_eq_true rfl) (Nat.le_of_ble_eq_true rfl) ?_
          refine lv_dup hx hb dX11_head_48 rfl ?_
          refine lv_aload_n hx hb dX11_head_49 rfl (lv_at hl 2 rfl) ?_
          obtain ⟨kk_34, hk_35⟩ := pl_at hI.2.1.1.1 hI.2.2.2.1.1
          refine va_get (D := (dC, dI)) (ci := 10) (v := .int (k 0)) (C := RX11) (T := TX11) (N := 9) hx hb hts (by decide +kernel) hown hK hP kk_34 hk_35 rfl 3 (by decide) (hts (.fieldLink RX11 24 "PageOne" "itemCount" "I") (by decide +kernel)) (fun _ h9 => h9) rfl dX11_head_50 ?_
          refine lv_aload hx hb dX11_head_53 (lv_at hl 0 rfl) ?_
          refine lv_iload_n hx hb dX11_head_55 rfl (lv_at hl 4 rfl) ?_
          refine lv_iload_n hx hb dX11_head_56 rfl (lv_at hl 5 rfl) ?_
          have hPc := vaP_r hPn
          have hDc := vaD_r hDn
          have hFc := fr_part hDn hS hA
          refine va_callv (va_runI (As := [.int (k 0), .ref b_3, .int p1, .int p2]) (rest := [.ref q_33, .ref h0]) ⟨hx, hb, hml, hown, hts⟩ (xn_Head l dC dI q_33 b_3 (q 0) (q 5) (k 0) p1 p2 H.size) (cwI 4 hts gX11_head_X3_init rfl rfl rfl (hts (.initialized RX3) (by decide +kernel)) (hts (.methodLink RX11 85 yX3_init) (by decide +kernel)) (hts (.instanceMethod yX3_init) (by decide +kernel)) rfl (by decide +kernel) ⟨Nat.le_of_ble_eq_true rfl, Nat.le_of_ble_eq_true rfl⟩) ⟨gw_fb, fun U hU hW => ⟨rfl, by rw [hU], pw_to hU hW hPc (hK.sub (tys' := [(q 0, .int), (q 5, .object "PageOne$Piece")]) [0, 5] rfl) hN, hDc.weaken (fun _ _ _ _ => trivial)⟩⟩ rfl rfl hl.1 rfl (lv_room (Nat.le_of_ble_eq_true rfl)) dX11_head_57 ⟨Nat.le_of_ble_eq_true rfl, Nat.le_of_ble_eq_true rfl⟩) hS (fun q _ h => hFc q h) hFc (fun u t H1 locs ht hvm hw hB hz1 hk1 hS => ?_)
          obtain ⟨qa_36, qa_37, hP1, hD1⟩ := hB
          rw [ht] at hP1
          obtain ⟨hP, hD⟩ := va_joinQ (X := [(q_33, .inr (3, [.int 0, .int 0, .null, .int 0, .null, .null, .int 0, .int 0]))]) (cx := [(q_33, .inr (3, [.int 0, .int 0, .null, .int 0, .null, .null, .int 0, .int 0]))]) (wr := []) (w1 := [(qa_36, aI (q 0) 5 (fun _ => (-1))), (qa_37, aR (q 5) 1 (fun _ => none)), (q_33, .inr (3, [.int (k 0), .int 1, .ref qa_37, .int 0, .ref qa_36, .ref b_3, .int p1, .int p2]))]) (pl := va_pl z.1 f) (vaP_swap hPn) (vaD_rotR hDn) [0] [] rfl rfl rfl (fun i hi => absurd hi List.not_mem_nil) hk1 hFc hP1 hD1
          generalize H1 = H at hP hS ⊢
          obtain ⟨hnm_38, hP, hD⟩ := pushC hP hD
          obtain ⟨z_39, ez_39⟩ : ∃ y : gS, y = pz z qa_36 (17, 0, []) := ⟨_, rfl⟩
          obtain ⟨f_40, ef_40⟩ : ∃ y : xF, y = va_up f qa_36 (aI (q 0) 5 (fun _ => (-1))) := ⟨_, rfl⟩
          have hE_41 : zE z z_39 := by rw [ez_39]; exact pz_E hnm_38 _
          have hI : xI q h0 d k z_39 f_40 := by rw [ez_39, ef_40]; exact x_push hI hnm_38 (Or.inr (by decide : (15 : Nat) < 17)) (cO_17 (by rw [pz_s]) ⟨_, rfl⟩)
          rw [show z.1 ++ [qa_36] = z_39.1 from by rw [ez_39]; rfl, ← ef_40] at hP hD
          have ht_6 := zE_tg hE_41 ht_6
          have hs_18 := zE_tg hE_41 hs_18
          have hs_20 := zE_tg hE_41 hs_20
          have hq_21 := zE_tg hE_41 hq_21
          have hq_23 := zE_tg hE_41 hq_23
          have ht_42 : tg z_39 qa_36 17 := by rw [ez_39]; exact pz_t _ _ _
          have hEz : zE z z_39 := zE_tr (zE_rf z) hE_41
          obtain ⟨hnm_43, hP, hD⟩ := pushC hP hD
          obtain ⟨z_44, ez_44⟩ : ∃ y : gS, y = pz z_39 qa_37 (16, q_33, []) := ⟨_, rfl⟩
          obtain ⟨f_45, ef_45⟩ : ∃ y : xF, y = va_up f_40 qa_37 (aR (q 5) 1 (fun _ => none)) := ⟨_, rfl⟩
          have hE_46 : zE z_39 z_44 := by rw [ez_44]; exact pz_E hnm_43 _
          have hI : xI q h0 d k z_44 f_45 := by rw [ez_44, ef_45]; exact x_push hI hnm_43 (Or.inr (by decide : (15 : Nat) < 16)) (cO_16 (by rw [pz_s]) ⟨1, by decide, by decide, _, rfl, fun _ _ b hb => by cases hb⟩)
          rw [show z_39.1 ++ [qa_37] = z_44.1 from by rw [ez_44]; rfl, ← ef_45] at hP hD
          have hpf9 : f_45 qa_37 = aR (q 5) 1 (fun _ => none) := by rw [ef_45]; exact up_s
          have ho9 : (z_44.2 qa_37).2.1 = q_33 := by rw [ez_44, pz_s]
          have ht_6 := zE_tg hE_46 ht_6
          have hs_18 := zE_tg hE_46 hs_18
          have hs_20 := zE_tg hE_46 hs_20
          have hq_21 := zE_tg hE_46 hq_21
          have hq_23 := zE_tg hE_46 hq_23
          have ht_42 := zE_tg hE_46 ht_42
          have ht_47 : tg z_44 qa_37 16 := by rw [ez_44]; exact pz_t _ _ _
          have hEz : zE z z_44 := zE_tr hEz hE_46
          obtain ⟨hnm_48, hP, hD⟩ := pushC hP hD
          obtain ⟨z_49, ez_49⟩ : ∃ y : gS, y = pz z_44 q_33 (11, 0, []) := ⟨_, rfl⟩
          obtain ⟨f_50, ef_50⟩ : ∃ y : xF, y = va_up f_45 q_33 (.inr (3, [.int (k 0), .int 1, .ref qa_37, .int 0, .ref qa_36, .ref b_3, .int p1, .int p2])) := ⟨_, rfl⟩
          have hE_51 : zE z_44 z_49 := by rw [ez_49]; exact pz_E hnm_48 _
          have hI : xI q h0 d k z_49 f_50 := by rw [ez_49, ef_50]; exact x_pushI (n := 1) hI hnm_48 (by decide) ht_47 ho9 ht_42 hpf9 (by decide) ⟨fun x => absurd x (by decide), fun _ => ⟨_, _, _, rfl, zE_tg (pz_E hnm_48 _) ht_6⟩, fun x => absurd x (by decide), fun x => absurd x (by decide), fun x => absurd x (by decide), fun x => absurd x (by decide)⟩
          rw [show z_44.1 ++ [q_33] = z_49.1 from by rw [ez_49]; rfl, ← ef_50] at hP hD
          have hpf9 : f_50 qa_37 = aR (q 5) 1 (fun _ => none) := by rw [ef_50, up_o (fun e => hnm_48 (by rw [← e]; exact ht_47.1))]; exact hpf9
          have ho9 : (z_49.2 qa_37).2.1 = q_33 := by rw [zE_o hE_51 ht_47.1]; exact ho9
          have ht_6 := zE_tg hE_51 ht_6
          have hs_18 := zE_tg hE_51 hs_18
          have hs_20 := zE_tg hE_51 hs_20
          have hq_21 := zE_tg hE_51 hq_21
          have hq_23 := zE_tg hE_51 hq_23
          have ht_42 := zE_tg hE_51 ht_42
          have ht_47 := zE_tg hE_51 ht_47
          have ht_52 : tg z_49 q_33 11 := by rw [ez_49]; exact pz_t _ _ _
          have hEz : zE z z_49 := zE_tr hEz hE_51
          refine W.widen (k := 3) (n := 14) (Nat.le_of_ble_eq_true rfl) (Nat.le_of_ble_eq_true rfl) ?_
          refine W.eq (g2 := F0 m 60 ls [.ref q_33, .ref h0]) rfl ?_
          obtain ⟨kk_53, hk_54⟩ := pl_at hI.2.1.1.1 hI.2.2.2.1.1
          have hFc := fr_all hD hS hA
          refine va_calli (va_runV (As := [.ref q_33]) (rest := []) ⟨hx, hb, hml, hown, hts⟩ (x_enter l dC dI q h0 d k z_49 f_50 hI q_33 (tg_itm ht_52 (by decide)) H.size) (cwV 1 hts gX11_head_X11_enter rfl rfl rfl (by decide +kernel) ⟨Nat.le_of_ble_eq_true rfl, Nat.le_of_ble_eq_true rfl⟩) ⟨gx_fb, va_recv hK hP (ci := 10) (q0 := kk_53) rfl hk_54, fun U hU hW => ⟨rfl, by rw [hU], px_to hU hW hP hK hN hXN, hD.weaken (fun _ _ _ _ => trivial)⟩⟩ rfl rfl hl.1 rfl (lv_room (Nat.le_of_ble_eq_true rfl)) dX11_head_60 ⟨Nat.le_of_ble_eq_true rfl, Nat.le_of_ble_eq_true rfl⟩) hS (fun q _ h => hFc q h) hFc (fun r w_55 t H1 locs ht hvm hw hB hz1 hk1 hS => ?_)
          obtain ⟨hP, hD1⟩ := hB
          rw [ht] at hP
          rw [hw.2.1] at hP hD1
          have hD := hD1.weaken (fun _ q _ h => hFc q.1 h)
          have hI := hw.2.2
          have hw0 := hw
          generalize w_55.1 = k_57 at hI hw0
          generalize w_55.2.2 = f_56 at hP hD hI hw0
          generalize H1 = H at hP hS ⊢
          have hkk := hw0.1
          exact W.iret (v := r) hx hb hr (fun t ht hW => ⟨⟨r, (k_57, z_49, f_56), rfl, ⟨hkk, hEz, hI⟩, by rw [ht]; exact hP, hD⟩, hS.F ht⟩) hS.2.2 dX11_head_63
        ·
          obtain rfl : r = 0 := b_f hw b_31
          refine lv_if_ne (tgt := 44) hx hb dX11_head_39 (by decide) (fun c_59 => absurd (by decide) c_59) (fun c_59 => ?_)
          refine lv_iconst (v := (-1)) hx hb dX11_head_42 (by decide) ?_
          refine W.widen (k := 3) (n := 14) (Nat.le_of_ble_eq_true rfl) (Nat.le_of_ble_eq_true rfl) ?_
          exact W.iret (v := (-1)) hx hb hr (fun t ht hW => ⟨⟨(-1), (k, z, f), rfl, ⟨fun _ _ => rfl, zE_rf z, hI⟩, by rw [ht]; exact hP, hD⟩, hS.F ht⟩) hS.2.2 dX11_head_43
      ·
        obtain rfl : r = 0 := b_f hw b_29
        refine lv_if_eq (tgt := 42) hx hb dX11_head_29 (by decide) (fun c_60 => ?_) (fun c_60 => absurd (by decide) c_60)
        refine lv_iconst (v := (-1)) hx hb dX11_head_42 (by decide) ?_
        refine W.widen (k := 3) (n := 14) (Nat.le_of_ble_eq_true rfl) (Nat.le_of_ble_eq_true rfl) ?_
        exact W.iret (v := (-1)) hx hb hr (fun t ht hW => ⟨⟨(-1), (k, z, f), rfl, ⟨fun _ _ => rfl, zE_rf z, hI⟩, by rw [ht]; exact hP, hD⟩, hS.F ht⟩) hS.2.2 dX11_head_43
    ·
      have hn_7 := ht9
      refine w_then (F0 m 12 ls [.int 0]) (fun hgo => ?_) ?_
      ·
        rcases x_tag ht_4 with ht8 | ht8 | ht8 | ht8 | ht8 | ht8
        ·
          obtain ⟨nu_61, kd_62, cn_63, pa_64, fa_65, l_66, m_67, hs_68, hs_69, hs_70, hs_71⟩ := x_ifl hI ht8
          obtain ⟨kk_72, hk_73⟩ := pl_at ht8.1 hs_68
          exact va_instNo hx hb hown (hts (.classLink RX11 66 "PageOne$Story") (by decide +kernel)) hXN.n_X2_X10 (va_recv hK hP (ci := 2) (q0 := kk_72) rfl hk_73) dX11_head_9 hgo
        ·
          obtain ⟨nu_74, kd_75, cn_76, pa_77, fa_78, o_79, w_80, y_81, hs_82, hs_83, hs_84, hs_85, hq_86⟩ := x_ihd hI ht8
          obtain ⟨kk_87, hk_88⟩ := pl_at ht8.1 hs_82
          exact va_instNo hx hb hown (hts (.classLink RX11 66 "PageOne$Story") (by decide +kernel)) hXN.n_X3_X10 (va_recv hK hP (ci := 3) (q0 := kk_87) rfl hk_88) dX11_head_9 hgo
        ·
          obtain ⟨nu_89, kd_90, cn_91, pa_92, fa_93, o_94, y_95, hs_96, hs_97, hs_98, hs_99, hq_100⟩ := x_ino hI ht8
          obtain ⟨kk_101, hk_102⟩ := pl_at ht8.1 hs_96
          exact va_instNo hx hb hown (hts (.classLink RX11 66 "PageOne$Story") (by decide +kernel)) hXN.n_X5_X10 (va_recv hK hP (ci := 4) (q0 := kk_101) rfl hk_102) dX11_head_9 hgo
        ·
          obtain ⟨nu_103, kd_104, cn_105, pa_106, fa_107, b_108, pr_109, sp_110, dy_111, hs_112, hs_113, hs_114, hs_115, hq_116, hq_117, hq_118⟩ := x_ipd hI ht8
          obtain ⟨kk_119, hk_120⟩ := pl_at ht8.1 hs_112
          exact va_instNo hx hb hown (hts (.classLink RX11 66 "PageOne$Story") (by decide +kernel)) hXN.n_X6_X10 (va_recv hK hP (ci := 5) (q0 := kk_119) rfl hk_120) dX11_head_9 hgo
        ·
          obtain ⟨nu_121, kd_122, cn_123, pa_124, fa_125, ww_126, hh_127, sz_128, hs_129, hs_130, hs_131, hs_132, hq_133, hq_134, hq_135⟩ := x_ipi hI ht8
          obtain ⟨kk_136, hk_137⟩ := pl_at ht8.1 hs_129
          exact va_instNo hx hb hown (hts (.classLink RX11 66 "PageOne$Story") (by decide +kernel)) hXN.n_X7_X10 (va_recv hK hP (ci := 6) (q0 := kk_136) rfl hk_137) dX11_head_9 hgo
        ·
          exact absurd ht8 ht9
      ·
        refine lv_if_eq (tgt := 42) hx hb dX11_head_12 (by decide) (fun c_138 => ?_) (fun c_138 => absurd (by decide) c_138)
        refine lv_iconst (v := (-1)) hx hb dX11_head_42 (by decide) ?_
        refine W.widen (k := 3) (n := 14) (Nat.le_of_ble_eq_true rfl) (Nat.le_of_ble_eq_true rfl) ?_
        exact W.iret (v := (-1)) hx hb hr (fun t ht hW => ⟨⟨(-1), (k, z, f), rfl, ⟨fun _ _ => rfl, zE_rf z, hI⟩, by rw [ht]; exact hP, hD⟩, hS.F ht⟩) hS.2.2 dX11_head_43
