set_option maxHeartbeats 4000000 in
set_option maxRecDepth 100000 in
theorem law_c10 {p : Program} {l : Launch} {e : Env} {s : State} {m : MethodId} {below : List Frame} {meth : Method} {c : Code} {b L : Nat} {xs : Nat → Int32} {A : Nat → Prop} {dC : Nat → ClassId} {dI : Nat → Nat → Nat} {q : Nat → ClassId} {h0 mm : Nat} {d v : Nat → Nat} {cells slots i : Nat} (C0 : lw_At p s m meth c b L xs) (hAe : A = fun q => s.heap.size ≤ q) (hN : NN s) (hXN : XN s) (hK : va_K (dC, dI) vwCl (xT q) s) (hL : 8 * i + 8 ≤ L) (hL2 : L ≤ 4096) (hRc : cells + 976 ≤ room_1.cells) (hRs : slots + 4880 ≤ room_1.slots) (kx : ∀ (d : Nat → Nat) (k : Nat → Int32) (z : gS) (f : xF) (u : mS) (H : Heap) (locs : List Loc) (ls : Array Slot), RR q h0 d k z f u → va_P (dC, dI) vwCl (va_pl z.1 f ++ mW mm v (q 0) (q 1) u) H → va_D A (va_pl z.1 f ++ mW mm v (q 0) (q 1) u) → va_S A s.heap H locs → lv_has ls 4 [(3, .int (nI (8 * i))), (2, .ref mm), (1, .ref h0), (0, .ref b)] → W p l e room_1 s m #[Value.ref b] below meth c H locs (cells + 976) (slots + 4880) (lw_Z below #[Value.ref b] s) (F0 m 1182 ls [])) {k : Nat → Int32} {z : gS} {f : xF} {u : mS} {H : Heap} {locs : List Loc} {ls : Array Slot} (hR : RR q h0 d k z f u) (hP : va_P (dC, dI) vwCl (va_pl z.1 f ++ mW mm v (q 0) (q 1) u) H) (hD : va_D A (va_pl z.1 f ++ mW mm v (q 0) (q 1) u)) (hS : va_S A s.heap H locs) (hl : lv_has ls 4 [(3, .int (nI (8 * i))), (2, .ref mm), (1, .ref h0), (0, .ref b)]) : W p l e room_1 s m #[Value.ref b] below meth c H locs cells slots (lw_Z below #[Value.ref b] s) (F0 m 552 ls []) := by
  obtain ⟨hx, hb, hr, hml, hown, hts, hX, hbl, hlocks, hgv⟩ := id C0
  have hbA : ¬ A b := by rw [hAe]; exact Nat.not_le.mpr hbl
  have hA : ∀ q : Nat, s.heap.size ≤ q → A q := fun q h => by rw [hAe]; exact h
  have hts := fun w h => hts w (wsL_law_in w h)
  have hR0 := hR
  obtain ⟨hI, hrp, ⟨hk0, hk1, hk2, hk3⟩, hz, es9, cf9, g9, hu, hg, hL⟩ := id hR
  have hk1o := hk1
  refine lv_aload_n hx hb dL_law_552 rfl (lv_at hl 2 rfl) ?_
  refine lv_aload_n hx hb dL_law_553 rfl (lv_at hl 3 rfl) ?_
  refine lv_iload_n hx hb dL_law_554 rfl (lv_at hl 0 rfl) ?_
  refine lv_iconst (v := 1) hx hb dL_law_555 (by decide) ?_
  refine lv_iadd hx hb dL_law_556 ?_
  refine lv_topi (fun y_1 ey_1 => ?_)
  obtain rfl : y_1 = nI (8 * i + 1) := ey_1.trans (nI_k _ 1 rfl)
  refine va_sld hx hb hX hbl hbA hS (vp_in_nI (by omega) (by omega)) dL_law_557 ?_
  refine lv_topi (fun y_2 ey_2 => ?_)
  obtain rfl : y_2 = xs (8 * i + 1) := ey_2.trans (by rw [nI_clamp (by omega)])
  refine lv_aload_n hx hb dL_law_558 rfl (lv_at hl 3 rfl) ?_
  refine lv_iload_n hx hb dL_law_559 rfl (lv_at hl 0 rfl) ?_
  refine lv_iconst (v := 2) hx hb dL_law_560 (by decide) ?_
  refine lv_iadd hx hb dL_law_561 ?_
  refine lv_topi (fun y_3 ey_3 => ?_)
  obtain rfl : y_3 = nI (8 * i + 2) := ey_3.trans (nI_k _ 2 rfl)
  refine va_sld hx hb hX hbl hbA hS (vp_in_nI (by omega) (by omega)) dL_law_562 ?_
  refine lv_topi (fun y_4 ey_4 => ?_)
  obtain rfl : y_4 = xs (8 * i + 2) := ey_4.trans (by rw [nI_clamp (by omega)])
  obtain ⟨kk_5, hk_6⟩ := pl_at hI.2.1.1.1 hI.2.2.2.1.1
  have hPc := vaP_l hP
  obtain ⟨g6, hg6, hz6⟩ := rv_g hI
  have hDc := vaD_l hD
  have hFc := fr_left hD hS hA
  refine va_calli (va_runV (As := [.int (xs (8 * i + 1)), .int (xs (8 * i + 2))]) (rest := []) ⟨hx, hb, hml, hown, hts⟩ (v_rival l dC dI q h0 d k z f hI (xs (8 * i + 1)) (xs (8 * i + 2)) u hrp hk0 hk1 hk2 hk3 hu.1 g6 hg6 hz6 H.size) (cwV 2 hts gL_law_X11_rival rfl rfl rfl zh_X11_rival_129 ⟨Nat.le_of_ble_eq_true rfl, Nat.le_of_ble_eq_true rfl⟩) ⟨gx_fb, va_recv hK hPc (ci := 10) (q0 := kk_5) rfl hk_6, fun U hU hW => ⟨rfl, by rw [hU], px_to hU hW hPc hK hN hXN, hDc.weaken (fun _ _ _ _ => trivial)⟩⟩ rfl rfl hl.1 rfl (lv_room (Nat.le_of_ble_eq_true rfl)) dL_law_563 ⟨by omega, by omega⟩) hS (fun q _ h => hFc q h) hFc (fun ra_11 w_10 t H1 locs ht hvm hw hB hz1 hk1 hS => ?_)
  obtain ⟨hP1, hD1⟩ := hB
  rw [ht] at hP1
  obtain ⟨hP, hD⟩ := jn hP hD hk1 hFc hP1 hD1
  generalize H1 = H at hP hS ⊢
  obtain ⟨k_7, z_8, f_9⟩ := w_10
  have hP : va_P (dC, dI) vwCl (va_pl z_8.1 f_9 ++ mW mm v (q 0) (q 1) u) H := hP
  have hD : va_D A (va_pl z_8.1 f_9 ++ mW mm v (q 0) (q 1) u) := hD
  refine W.widen (k := cells + 976) (n := slots + 4880) (by omega) (by omega) ?_
  have hx9 := hw
  refine lv_pop hx hb dL_law_566 rfl ?_
  refine lv_aload_n hx hb dL_law_567 rfl (lv_at hl 1 rfl) ?_
  refine lv_aload_n hx hb dL_law_568 rfl (lv_at hl 3 rfl) ?_
  refine lv_iload_n hx hb dL_law_569 rfl (lv_at hl 0 rfl) ?_
  refine lv_iconst (v := 1) hx hb dL_law_570 (by decide) ?_
  refine lv_iadd hx hb dL_law_571 ?_
  refine lv_topi (fun y_12 ey_12 => ?_)
  obtain rfl : y_12 = nI (8 * i + 1) := ey_12.trans (nI_k _ 1 rfl)
  refine va_sld hx hb hX hbl hbA hS (vp_in_nI (by omega) (by omega)) dL_law_572 ?_
  refine lv_topi (fun y_13 ey_13 => ?_)
  obtain rfl : y_13 = xs (8 * i + 1) := ey_13.trans (by rw [nI_clamp (by omega)])
  refine lv_aload_n hx hb dL_law_573 rfl (lv_at hl 3 rfl) ?_
  refine lv_iload_n hx hb dL_law_574 rfl (lv_at hl 0 rfl) ?_
  refine lv_iconst (v := 2) hx hb dL_law_575 (by decide) ?_
  refine lv_iadd hx hb dL_law_576 ?_
  refine lv_topi (fun y_14 ey_14 => ?_)
  obtain rfl : y_14 = nI (8 * i + 2) := ey_14.trans (nI_k _ 2 rfl)
  refine va_sld hx hb hX hbl hbA hS (vp_in_nI (by omega) (by omega)) dL_law_577 ?_
  refine lv_topi (fun y_15 ey_15 => ?_)
  obtain rfl : y_15 = xs (8 * i + 2) := ey_15.trans (by rw [nI_clamp (by omega)])
  have hPc := vaP_r hP
  have hKc := hK.sub (tys' := [(q 0, .int), (q 1, .boolean)]) [0, 1] rfl
  have hDc := vaD_r hD
  have hFc := fr_part hD hS hA
  refine va_calli (va_runV (As := [.int (xs (8 * i + 1)), .int (xs (8 * i + 2))]) (rest := []) ⟨hx, hb, hml, hown, hts⟩ (m_rival l dC dI mm v (q 0) (q 1) u (xs (8 * i + 1)) (xs (8 * i + 2)) hu.1.1 H.size) (cwV 2 hts gL_law_X12_rival rfl rfl rfl zh_X12_rival_130 ⟨Nat.le_of_ble_eq_true rfl, Nat.le_of_ble_eq_true rfl⟩) ⟨gw_fb, va_recv hKc hPc (ci := 11) (q0 := 0) rfl rfl, fun U hU hW => ⟨rfl, by rw [hU], pw_to hU hW hPc hKc hN, hDc.weaken (fun _ _ _ _ => trivial)⟩⟩ rfl rfl hl.1 rfl (lv_room (Nat.le_of_ble_eq_true rfl)) dL_law_578 ⟨by omega, by omega⟩) hS (fun q _ h => hFc q h) hFc (fun ra_17 u_16 t H1 locs ht hvm hw hB hz1 hk1 hS => ?_)
  obtain ⟨hP1, hD1⟩ := hB
  rw [ht] at hP1
  obtain ⟨hP, hD⟩ := jn (vaP_swap hP) (vaD_swap hD) hk1 hFc hP1 hD1
  generalize H1 = H at hP hS ⊢
  have hP := vaP_swap hP
  have hD := vaD_swap hD
  refine W.widen (k := cells + 976) (n := slots + 4880) (by omega) (by omega) ?_
  obtain ⟨hrb, hub⟩ : ra_17 = (mRival u (xs (8 * i + 1)) (xs (8 * i + 2))).1 ∧ u_16 = (mRival u (xs (8 * i + 1)) (xs (8 * i + 2))).2 := by rw [← hw]; exact ⟨rfl, rfl⟩
  have hs := step_small (R9 := (mRival u (xs (8 * i + 1)) (xs (8 * i + 2)))) hR0 hx9 (rival_1 u (xs (8 * i + 1)) (xs (8 * i + 2))) (fun _ _ h => uI_rival h (xs (8 * i + 1)) (xs (8 * i + 2)))
  have hrl : ra_11 = ra_17 := hs.1.trans hrb.symm
  have hR : RR q h0 d k_7 z_8 f_9 u_16 := by rw [hub]; exact hs.2
  refine lv_pop hx hb dL_law_581 rfl ?_
  refine lv_goto (tgt := 1182) hx hb dL_law_582 (by decide) ?_
  exact kx _ _ _ _ _ _ _ ls hR hP hD hS (lv_sub hl [0, 1, 2, 3] rfl)
set_option maxHeartbeats 4000000 in
set_option maxRecDepth 100000 in
theorem law_c11 {p : Program} {l : Launch} {e : Env} {s : State} {m : MethodId} {below : List Frame} {meth : Method} {c : Code} {b L : Nat} {xs : Nat → Int32} {A : Nat → Prop} {dC : Nat → ClassId} {dI : Nat → Nat → Nat} {q : Nat → ClassId} {h0 mm : Nat} {d v : Nat → Nat} {cells slots i : Nat} (C0 : lw_At p s m meth c b L xs) (hAe : A = fun q => s.heap.size ≤ q) (hN : NN s) (hXN : XN s) (hK : va_K (dC, dI) vwCl (xT q) s) (hL : 8 * i + 8 ≤ L) (hL2 : L ≤ 4096) (hRc : cells + 976 ≤ room_1.cells) (hRs : slots + 4880 ≤ room_1.slots) (kx : ∀ (d : Nat → Nat) (k : Nat → Int32) (z : gS) (f : xF) (u : mS) (H : Heap) (locs : List Loc) (ls : Array Slot), RR q h0 d k z f u → va_P (dC, dI) vwCl (va_pl z.1 f ++ mW mm v (q 0) (q 1) u) H → va_D A (va_pl z.1 f ++ mW mm v (q 0) (q 1) u) → va_S A s.heap H locs → lv_has ls 4 [(3, .int (nI (8 * i))), (2, .ref mm), (1, .ref h0), (0, .ref b)] → W p l e room_1 s m #[Value.ref b] below meth c H locs (cells + 976) (slots + 4880) (lw_Z below #[Value.ref b] s) (F0 m 1182 ls [])) {k : Nat → Int32} {z : gS} {f : xF} {u : mS} {H : Heap} {locs : List Loc} {ls : Array Slot} (hR : RR q h0 d k z f u) (hP : va_P (dC, dI) vwCl (va_pl z.1 f ++ mW mm v (q 0) (q 1) u) H) (hD : va_D A (va_pl z.1 f ++ mW mm v (q 0) (q 1) u)) (hS : va_S A s.heap H locs) (hl : lv_has ls 4 [(3, .int (nI (8 * i))), (2, .ref mm), (1, .ref h0), (0, .ref b)]) : W p l e room_1 s m #[Value.ref b] below meth c H locs cells slots (lw_Z below #[Value.ref b] s) (F0 m 585 ls []) := by
  obtain ⟨hx, hb, hr, hml, hown, hts, hX, hbl, hlocks, hgv⟩ := id C0
  have hbA : ¬ A b := by rw [hAe]; exact Nat.not_le.mpr hbl
  have hA : ∀ q : Nat, s.heap.size ≤ q → A q := fun q h => by rw [hAe]; exact h
  have hts := fun w h => hts w (wsL_law_in w h)
  have hR0 := hR
  obtain ⟨hI, hrp, ⟨hk0, hk1, hk2, hk3⟩, hz, es9, cf9, g9, hu, hg, hL⟩ := id hR
  have hk1o := hk1
  refine lv_aload_n hx hb dL_law_585 rfl (lv_at hl 2 rfl) ?_
  refine lv_aload_n hx hb dL_law_586 rfl (lv_at hl 3 rfl) ?_
  refine lv_iload_n hx hb dL_law_587 rfl (lv_at hl 0 rfl) ?_
  refine lv_iconst (v := 1) hx hb dL_law_588 (by decide) ?_
  refine lv_iadd hx hb dL_law_589 ?_
  refine lv_topi (fun y_1 ey_1 => ?_)
  obtain rfl : y_1 = nI (8 * i + 1) := ey_1.trans (nI_k _ 1 rfl)
  refine va_sld hx hb hX hbl hbA hS (vp_in_nI (by omega) (by omega)) dL_law_590 ?_
  refine lv_topi (fun y_2 ey_2 => ?_)
  obtain rfl : y_2 = xs (8 * i + 1) := ey_2.trans (by rw [nI_clamp (by omega)])
  refine lv_aload_n hx hb dL_law_591 rfl (lv_at hl 3 rfl) ?_
  refine lv_iload_n hx hb dL_law_592 rfl (lv_at hl 0 rfl) ?_
  refine lv_iconst (v := 2) hx hb dL_law_593 (by decide) ?_
  refine lv_iadd hx hb dL_law_594 ?_
  refine lv_topi (fun y_3 ey_3 => ?_)
  obtain rfl : y_3 = nI (8 * i + 2) := ey_3.trans (nI_k _ 2 rfl)
  refine va_sld hx hb hX hbl hbA hS (vp_in_nI (by omega) (by omega)) dL_law_595 ?_
  refine lv_topi (fun y_4 ey_4 => ?_)
  obtain rfl : y_4 = xs (8 * i + 2) := ey_4.trans (by rw [nI_clamp (by omega)])
  obtain ⟨kk_5, hk_6⟩ := pl_at hI.2.1.1.1 hI.2.2.2.1.1
  have hPc := vaP_l hP
  have hDc := vaD_l hD
  have hFc := fr_left hD hS hA
  refine va_calli (va_runV (As := [.int (xs (8 * i + 1)), .int (xs (8 * i + 2))]) (rest := []) ⟨hx, hb, hml, hown, hts⟩ (v_names l dC dI q h0 d k z f hI (xs (8 * i + 1)) (xs (8 * i + 2)) u hrp hk0 hk1 hk2 hk3 hu.1 H.size) (cwV 2 hts gL_law_X11_names rfl rfl rfl zh_X11_names_131 ⟨Nat.le_of_ble_eq_true rfl, Nat.le_of_ble_eq_true rfl⟩) ⟨gx_fb, va_recv hK hPc (ci := 10) (q0 := kk_5) rfl hk_6, fun U hU hW => ⟨rfl, by rw [hU], px_to hU hW hPc hK hN hXN, hDc.weaken (fun _ _ _ _ => trivial)⟩⟩ rfl rfl hl.1 rfl (lv_room (Nat.le_of_ble_eq_true rfl)) dL_law_596 ⟨by omega, by omega⟩) hS (fun q _ h => hFc q h) hFc (fun ra_11 w_10 t H1 locs ht hvm hw hB hz1 hk1 hS => ?_)
  obtain ⟨hP1, hD1⟩ := hB
  rw [ht] at hP1
  obtain ⟨hP, hD⟩ := jn hP hD hk1 hFc hP1 hD1
  generalize H1 = H at hP hS ⊢
  obtain ⟨k_7, z_8, f_9⟩ := w_10
  have hP : va_P (dC, dI) vwCl (va_pl z_8.1 f_9 ++ mW mm v (q 0) (q 1) u) H := hP
  have hD : va_D A (va_pl z_8.1 f_9 ++ mW mm v (q 0) (q 1) u) := hD
  refine W.widen (k := cells + 976) (n := slots + 4880) (by omega) (by omega) ?_
  have hx9 := hw
  refine lv_pop hx hb dL_law_599 rfl ?_
  refine lv_aload_n hx hb dL_law_600 rfl (lv_at hl 1 rfl) ?_
  refine lv_aload_n hx hb dL_law_601 rfl (lv_at hl 3 rfl) ?_
  refine lv_iload_n hx hb dL_law_602 rfl (lv_at hl 0 rfl) ?_
  refine lv_iconst (v := 1) hx hb dL_law_603 (by decide) ?_
  refine lv_iadd hx hb dL_law_604 ?_
  refine lv_topi (fun y_12 ey_12 => ?_)
  obtain rfl : y_12 = nI (8 * i + 1) := ey_12.trans (nI_k _ 1 rfl)
  refine va_sld hx hb hX hbl hbA hS (vp_in_nI (by omega) (by omega)) dL_law_605 ?_
  refine lv_topi (fun y_13 ey_13 => ?_)
  obtain rfl : y_13 = xs (8 * i + 1) := ey_13.trans (by rw [nI_clamp (by omega)])
  refine lv_aload_n hx hb dL_law_606 rfl (lv_at hl 3 rfl) ?_
  refine lv_iload_n hx hb dL_law_607 rfl (lv_at hl 0 rfl) ?_
  refine lv_iconst (v := 2) hx hb dL_law_608 (by decide) ?_
  refine lv_iadd hx hb dL_law_609 ?_
  refine lv_topi (fun y_14 ey_14 => ?_)
  obtain rfl : y_14 = nI (8 * i + 2) := ey_14.trans (nI_k _ 2 rfl)
  refine va_sld hx hb hX hbl hbA hS (vp_in_nI (by omega) (by omega)) dL_law_610 ?_
  refine lv_topi (fun y_15 ey_15 => ?_)
  obtain rfl : y_15 = xs (8 * i + 2) := ey_15.trans (by rw [nI_clamp (by omega)])
  have hPc := vaP_r hP
  have hKc := hK.sub (tys' := [(q 0, .int), (q 1, .boolean)]) [0, 1] rfl
  have hDc := vaD_r hD
  have hFc := fr_part hD hS hA
  refine va_calli (va_runV (As := [.int (xs (8 * i + 1)), .int (xs (8 * i + 2))]) (rest := []) ⟨hx, hb, hml, hown, hts⟩ (m_names l dC dI mm v (q 0) (q 1) u (xs (8 * i + 1)) (xs (8 * i + 2)) hu.1.1 H.size) (cwV 2 hts gL_law_X12_names rfl rfl rfl zh_X12_names_132 ⟨Nat.le_of_ble_eq_true rfl, Nat.le_of_ble_eq_true rfl⟩) ⟨gw_fb, va_recv hKc hPc (ci := 11) (q0 := 0) rfl rfl, fun U hU hW => ⟨rfl, by rw [hU], pw_to hU hW hPc hKc hN, hDc.weaken (fun _ _ _ _ => trivial)⟩⟩ rfl rfl hl.1 rfl (lv_room (Nat.le_of_ble_eq_true rfl)) dL_law_611 ⟨by omega, by omega⟩) hS (fun q _ h => hFc q h) hFc (fun ra_17 u_16 t H1 locs ht hvm hw hB hz1 hk1 hS => ?_)
  obtain ⟨hP1, hD1⟩ := hB
  rw [ht] at hP1
  obtain ⟨hP, hD⟩ := jn (vaP_swap hP) (vaD_swap hD) hk1 hFc hP1 hD1
  generalize H1 = H at hP hS ⊢
  have hP := vaP_swap hP
  have hD := vaD_swap hD
  refine W.widen (k := cells + 976) (n := slots + 4880) (by omega) (by omega) ?_
  obtain ⟨hrb, hub⟩ : ra_17 = (mNames u (xs (8 * i + 1)) (xs (8 * i + 2))).1 ∧ u_16 = (mNames u (xs (8 * i + 1)) (xs (8 * i + 2))).2 := by rw [← hw]; exact ⟨rfl, rfl⟩
  have hs := step_small (R9 := (mNames u (xs (8 * i + 1)) (xs (8 * i + 2)))) hR0 hx9 (names_1 u (xs (8 * i + 1)) (xs (8 * i + 2))) (fun _ _ h => uI_names h (xs (8 * i + 1)) (xs (8 * i + 2)))
  have hrl : ra_11 = ra_17 := hs.1.trans hrb.symm
  have hR : RR q h0 d k_7 z_8 f_9 u_16 := by rw [hub]; exact hs.2
  refine lv_pop hx hb dL_law_614 rfl ?_
  refine lv_goto (tgt := 1182) hx hb dL_law_615 (by decide) ?_
  exact kx _ _ _ _ _ _ _ ls hR hP hD hS (lv_sub hl [0, 1, 2, 3] rfl)
set_option maxHeartbeats 4000000 in
set_option maxRecDepth 100000 in
theorem law_c12 {p : Program} {l : Launch} {e : Env} {s : State} {m : MethodId} {below : List Frame} {meth : Method} {c : Code} {b L : Nat} {xs : Nat → Int32} {A : Nat → Prop} {dC : Nat → ClassId} {dI : Nat → Nat → Nat} {q : Nat → ClassId} {h0 mm : Nat} {d v : Nat → Nat} {cells slots i : Nat} (C0 : lw_At p s m meth c b L xs) (hAe : A = fun q => s.heap.size ≤ q) (hN : NN s) (hXN : XN s) (hK : va_K (dC, dI) vwCl (xT q) s) (hL : 8 * i + 8 ≤ L) (hL2 : L ≤ 4096) (hRc : cells + 976 ≤ room_1.cells) (hRs : slots + 4880 ≤ room_1.slots) (kx : ∀ (d : Nat → Nat) (k : Nat → Int32) (z : gS) (f : xF) (u : mS) (H : Heap) (locs : List Loc) (ls : Array Slot), RR q h0 d k z f u → va_P (dC, dI) vwCl (va_pl z.1 f ++ mW mm v (q 0) (q 1) u) H → va_D A (va_pl z.1 f ++ mW mm v (q 0) (q 1) u) → va_S A s.heap H locs → lv_has ls 4 [(3, .int (nI (8 * i))), (2, .ref mm), (1, .ref h0), (0, .ref b)] → W p l e room_1 s m #[Value.ref b] below meth c H locs (cells + 976) (slots + 4880) (lw_Z below #[Value.ref b] s) (F0 m 1182 ls [])) {k : Nat → Int32} {z : gS} {f : xF} {u : mS} {H : Heap} {locs : List Loc} {ls : Array Slot} (hR : RR q h0 d k z f u) (hP : va_P (dC, dI) vwCl (va_pl z.1 f ++ mW mm v (q 0) (q 1) u) H) (hD : va_D A (va_pl z.1 f ++ mW mm v (q 0) (q 1) u)) (hS : va_S A s.heap H locs) (hl : lv_has ls 4 [(3, .int (nI (8 * i))), (2, .ref mm), (1, .ref h0), (0, .ref b)]) : W p l e room_1 s m #[Value.ref b] below meth c H locs cells slots (lw_Z below #[Value.ref b] s) (F0 m 618 ls []) := by
  obtain ⟨hx, hb, hr, hml, hown, hts, hX, hbl, hlocks, hgv⟩ := id C0
  have hbA : ¬ A b := by rw [hAe]; exact Nat.not_le.mpr hbl
  have hA : ∀ q : Nat, s.heap.size ≤ q → A q := fun q h => by rw [hAe]; exact h
  have hts := fun w h => hts w (wsL_law_in w h)
  have hR0 := hR
  obtain ⟨hI, hrp, ⟨hk0, hk1, hk2, hk3⟩, hz, es9, cf9, g9, hu, hg, hL⟩ := id hR
  have hk1o := hk1
  refine lv_aload_n hx hb dL_law_618 rfl (lv_at hl 2 rfl) ?_
  refine lv_aload_n hx hb dL_law_619 rfl (lv_at hl 3 rfl) ?_
  refine lv_iload_n hx hb dL_law_620 rfl (lv_at hl 0 rfl) ?_
  refine lv_iconst (v := 1) hx hb dL_law_621 (by decide) ?_
  refine lv_iadd hx hb dL_law_622 ?_
  refine lv_topi (fun y_1 ey_1 => ?_)
  obtain rfl : y_1 = nI (8 * i + 1) := ey_1.trans (nI_k _ 1 rfl)
  refine va_sld hx hb hX hbl hbA hS (vp_in_nI (by omega) (by omega)) dL_law_623 ?_
  refine lv_topi (fun y_2 ey_2 => ?_)
  obtain rfl : y_2 = xs (8 * i + 1) := ey_2.trans (by rw [nI_clamp (by omega)])
  refine lv_aload_n hx hb dL_law_624 rfl (lv_at hl 3 rfl) ?_
  refine lv_iload_n hx hb dL_law_625 rfl (lv_at hl 0 rfl) ?_
  refine lv_iconst (v := 2) hx hb dL_law_626 (by decide) ?_
  refine lv_iadd hx hb dL_law_627 ?_
  refine lv_topi (fun y_3 ey_3 => ?_)
  obtain rfl : y_3 = nI (8 * i + 2) := ey_3.trans (nI_k _ 2 rfl)
  refine va_sld hx hb hX hbl hbA hS (vp_in_nI (by omega) (by omega)) dL_law_628 ?_
  refine lv_topi (fun y_4 ey_4 => ?_)
  obtain rfl : y_4 = xs (8 * i + 2) := ey_4.trans (by rw [nI_clamp (by omega)])
  refine lv_aload_n hx hb dL_law_629 rfl (lv_at hl 3 rfl) ?_
  refine lv_iload_n hx hb dL_law_630 rfl (lv_at hl 0 rfl) ?_
  refine lv_iconst (v := 3) hx hb dL_law_631 (by decide) ?_
  refine lv_iadd hx hb dL_law_632 ?_
  refine lv_topi (fun y_5 ey_5 => ?_)
  obtain rfl : y_5 = nI (8 * i + 3) := ey_5.trans (nI_k _ 3 rfl)
  refine va_sld hx hb hX hbl hbA hS (vp_in_nI (by omega) (by omega)) dL_law_633 ?_
  refine lv_topi (fun y_6 ey_6 => ?_)
  obtain rfl : y_6 = xs (8 * i + 3) := ey_6.trans (by rw [nI_clamp (by omega)])
  refine lv_aload_n hx hb dL_law_634 rfl (lv_at hl 3 rfl) ?_
  refine lv_iload_n hx hb dL_law_635 rfl (lv_at hl 0 rfl) ?_
  refine lv_iconst (v := 4) hx hb dL_law_636 (by decide) ?_
  refine lv_iadd hx hb dL_law_637 ?_
  refine lv_topi (fun y_7 ey_7 => ?_)
  obtain rfl : y_7 = nI (8 * i + 4) := ey_7.trans (nI_k _ 4 rfl)
  refine va_sld hx hb hX hbl hbA hS (vp_in_nI (by omega) (by omega)) dL_law_638 ?_
  refine lv_topi (fun y_8 ey_8 => ?_)
  obtain rfl : y_8 = xs (8 * i + 4) := ey_8.trans (by rw [nI_clamp (by omega)])
  refine lv_aload_n hx hb dL_law_639 rfl (lv_at hl 3 rfl) ?_
  refine lv_iload_n hx hb dL_law_640 rfl (lv_at hl 0 rfl) ?_
  refine lv_iconst (v := 5) hx hb dL_law_641 (by decide) ?_
  refine lv_iadd hx hb dL_law_642 ?_
  refine lv_topi (fun y_9 ey_9 => ?_)
  obtain rfl : y_9 = nI (8 * i + 5) := ey_9.trans (nI_k _ 5 rfl)
  refine va_sld hx hb hX hbl hbA hS (vp_in_nI (by omega) (by omega)) dL_law_643 ?_
  refine lv_topi (fun y_10 ey_10 => ?_)
  obtain rfl : y_10 = xs (8 * i + 5) := ey_10.trans (by rw [nI_clamp (by omega)])
  obtain ⟨kk_11, hk_12⟩ := pl_at hI.2.1.1.1 hI.2.2.2.1.1
  have hPc := vaP_l hP
  have hDc := vaD_l hD
  have hFc := fr_left hD hS hA
  refine va_calli (va_runV (As := [.int (xs (8 * i + 1)), .int (xs (8 * i + 2)), .int (xs (8 * i + 3)), .int (xs (8 * i + 4)), .int (xs (8 * i + 5))]) (rest := []) ⟨hx, hb, hml, hown, hts⟩ (y_put l dC dI q h0 d k z f hI (xs (8 * i + 1)) (xs (8 * i + 2)) (xs (8 * i + 3)) (xs (8 * i + 4)) (xs (8 * i + 5)) u hrp hk0 hk1 hk2 hk3 hu.1 hz (uI_ne hu) H.size) (cwV 5 hts gL_law_X11_put rfl rfl rfl zh_X11_put_133 ⟨Nat.le_of_ble_eq_true rfl, Nat.le_of_ble_eq_true rfl⟩) ⟨gx_fb, va_recv hK hPc (ci := 10) (q0 := kk_11) rfl hk_12, fun U hU hW => ⟨rfl, by rw [hU], px_to hU hW hPc hK hN hXN, hDc.weaken (fun _ _ _ _ => trivial)⟩⟩ rfl rfl hl.1 rfl (lv_room (Nat.le_of_ble_eq_true rfl)) dL_law_644 ⟨by omega, by omega⟩) hS (fun q _ h => hFc q h) hFc (fun ra_17 w_16 t H1 locs ht hvm hw hB hz1 hk1 hS => ?_)
  obtain ⟨hP1, hD1⟩ := hB
  rw [ht] at hP1
  obtain ⟨hP, hD⟩ := jn hP hD hk1 hFc hP1 hD1
  generalize H1 = H at hP hS ⊢
  obtain ⟨k_13, z_14, f_15⟩ := w_16
  have hP : va_P (dC, dI) vwCl (va_pl z_14.1 f_15 ++ mW mm v (q 0) (q 1) u) H := hP
  have hD : va_D A (va_pl z_14.1 f_15 ++ mW mm v (q 0) (q 1) u) := hD
  refine W.widen (k := cells + 976) (n := slots + 4880) (by omega) (by omega) ?_
  have hx9 := hw
  refine lv_pop hx hb dL_law_647 rfl ?_
  refine lv_aload_n hx hb dL_law_648 rfl (lv_at hl 1 rfl) ?_
  refine lv_aload_n hx hb dL_law_649 rfl (lv_at hl 3 rfl) ?_
  refine lv_iload_n hx hb dL_law_650 rfl (lv_at hl 0 rfl) ?_
  refine lv_iconst (v := 1) hx hb dL_law_651 (by decide) ?_
  refine lv_iadd hx hb dL_law_652 ?_
  refine lv_topi (fun y_18 ey_18 => ?_)
  obtain rfl : y_18 = nI (8 * i + 1) := ey_18.trans (nI_k _ 1 rfl)
  refine va_sld hx hb hX hbl hbA hS (vp_in_nI (by omega) (by omega)) dL_law_653 ?_
  refine lv_topi (fun y_19 ey_19 => ?_)
  obtain rfl : y_19 = xs (8 * i + 1) := ey_19.trans (by rw [nI_clamp (by omega)])
  refine lv_aload_n hx hb dL_law_654 rfl (lv_at hl 3 rfl) ?_
  refine lv_iload_n hx hb dL_law_655 rfl (lv_at hl 0 rfl) ?_
  refine lv_iconst (v := 2) hx hb dL_law_656 (by decide) ?_
  refine lv_iadd hx hb dL_law_657 ?_
  refine lv_topi (fun y_20 ey_20 => ?_)
  obtain rfl : y_20 = nI (8 * i + 2) := ey_20.trans (nI_k _ 2 rfl)
  refine va_sld hx hb hX hbl hbA hS (vp_in_nI (by omega) (by omega)) dL_law_658 ?_
  refine lv_topi (fun y_21 ey_21 => ?_)
  obtain rfl : y_21 = xs (8 * i + 2) := ey_21.trans (by rw [nI_clamp (by omega)])
  refine lv_aload_n hx hb dL_law_659 rfl (lv_at hl 3 rfl) ?_
  refine lv_iload_n hx hb dL_law_660 rfl (lv_at hl 0 rfl) ?_
  refine lv_iconst (v := 3) hx hb dL_law_661 (by decide) ?_
  refine lv_iadd hx hb dL_law_662 ?_
  refine lv_topi (fun y_22 ey_22 => ?_)
  obtain rfl : y_22 = nI (8 * i + 3) := ey_22.trans (nI_k _ 3 rfl)
  refine va_sld hx hb hX hbl hbA hS (vp_in_nI (by omega) (by omega)) dL_law_663 ?_
  refine lv_topi (fun y_23 ey_23 => ?_)
  obtain rfl : y_23 = xs (8 * i + 3) := ey_23.trans (by rw [nI_clamp (by omega)])
  refine lv_aload_n hx hb dL_law_664 rfl (lv_at hl 3 rfl) ?_
  refine lv_iload_n hx hb dL_law_665 rfl (lv_at hl 0 rfl) ?_
  refine lv_iconst (v := 4) hx hb dL_law_666 (by decide) ?_
  refine lv_iadd hx hb dL_law_667 ?_
  refine lv_topi (fun y_24 ey_24 => ?_)
  obtain rfl : y_24 = nI (8 * i + 4) := ey_24.trans (nI_k _ 4 rfl)
  refine va_sld hx hb hX hbl hbA hS (vp_in_nI (by omega) (by omega)) dL_law_668 ?_
  refine lv_topi (fun y_25 ey_25 => ?_)
  obtain rfl : y_25 = xs (8 * i + 4) := ey_25.trans (by rw [nI_clamp (by omega)])
  refine lv_aload_n hx hb dL_law_669 rfl (lv_at hl 3 rfl) ?_
  refine lv_iload_n hx hb dL_law_670 rfl (lv_at hl 0 rfl) ?_
  refine lv_iconst (v := 5) hx hb dL_law_671 (by decide) ?_
  refine lv_iadd hx hb dL_law_672 ?_
  refine lv_topi (fun y_26 ey_26 => ?_)
  obtain rfl : y_26 = nI (8 * i + 5) := ey_26.trans (nI_k _ 5 rfl)
  refine va_sld hx hb hX hbl hbA hS (vp_in_nI (by omega) (by omega)) dL_law_673 ?_
  refine lv_topi (fun y_27 ey_27 => ?_)
  obtain rfl : y_27 = xs (8 * i + 5) := ey_27.trans (by rw [nI_clamp (by omega)])
  have hPc := vaP_r hP
  have hKc := hK.sub (tys' := [(q 0, .int), (q 1, .boolean)]) [0, 1] rfl
  have hDc := vaD_r hD
  have hFc := fr_part hD hS hA
  refine va_calli (va_runV (As := [.int (xs (8 * i + 1)), .int (xs (8 * i + 2)), .int (xs (8 * i + 3)), .int (xs (8 * i + 4)), .int (xs (8 * i + 5))]) (rest := []) ⟨hx, hb, hml, hown, hts⟩ (o_put l dC dI mm v (q 0) (q 1) u (xs (8 * i + 1)) (xs (8 * i + 2)) (xs (8 * i + 3)) (xs (8 * i + 4)) (xs (8 * i + 5)) hu (RR_40 hR0).2 H.size) (cwV 5 hts gL_law_X12_put rfl rfl rfl zh_X12_put_134 ⟨Nat.le_of_ble_eq_true rfl, Nat.le_of_ble_eq_true rfl⟩) ⟨gw_fb, va_recv hKc hPc (ci := 11) (q0 := 0) rfl rfl, fun U hU hW => ⟨rfl, by rw [hU], pw_to hU hW hPc hKc hN, hDc.weaken (fun _ _ _ _ => trivial)⟩⟩ rfl rfl hl.1 rfl (lv_room (Nat.le_of_ble_eq_true rfl)) dL_law_674 ⟨by omega, by omega⟩) hS (fun q _ h => hFc q h) hFc (fun ra_29 u_28 t H1 locs ht hvm hw hB hz1 hk1 hS => ?_)
  obtain ⟨hP1, hD1⟩ := hB
  rw [ht] at hP1
  obtain ⟨hP, hD⟩ := jn (vaP_swap hP) (vaD_swap hD) hk1 hFc hP1 hD1
  generalize H1 = H at hP hS ⊢
  have hP := vaP_swap hP
  have hD := vaD_swap hD
  refine W.widen (k := cells + 976) (n := slots + 4880) (by omega) (by omega) ?_
  obtain ⟨W9, H9, ok9, o1, o2, o3, o4⟩ := hw
  have hs := step_put hR0 hx9 o1 o2 o3 o4
  have hrl : ra_17 = ra_29 := hs.1
  have hR : RR q h0 d k_13 z_14 f_15 u_28 := hs.2
  refine lv_pop hx hb dL_law_677 rfl ?_
  refine lv_goto (tgt := 1182) hx hb dL_law_678 (by decide) ?_
  exact kx _ _ _ _ _ _ _ ls hR hP hD hS (lv_sub hl [0, 1, 2, 3] rfl)
set_option maxHeartbeats 4000000 in
set_option maxRecDepth 100000 in
theorem law_c13 {p : Program} {l : Launch} {e : Env} {s : State} {m : MethodId} {below : List Frame} {meth : Method} {c : Code} {b L : Nat} {xs : Nat → Int32} {A : Nat → Prop} {dC : Nat → ClassId} {dI : Nat → Nat → Nat} {q : Nat → ClassId} {h0 mm : Nat} {d v : Nat → Nat} {cells slots i : Nat} (C0 : lw_At p s m meth c b L xs) (hAe : A = fun q => s.heap.size ≤ q) (hN : NN s) (hXN : XN s) (hK : va_K (dC, dI) vwCl (xT q) s) (hL : 8 * i + 8 ≤ L) (hL2 : L ≤ 4096) (hRc : cells + 976 ≤ room_1.cells) (hRs : slots + 4880 ≤ room_1.slots) (kx : ∀ (d : Nat → Nat) (k : Nat → Int32) (z : gS) (f : xF) (u : mS) (H : Heap) (locs : List Loc) (ls : Array Slot), RR q h0 d k z f u → va_P (dC, dI) vwCl (va_pl z.1 f ++ mW mm v (q 0) (q 1) u) H → va_D A (va_pl z.1 f ++ mW mm v (q 0) (q 1) u) → va_S A s.heap H locs → lv_has ls 4 [(3, .int (nI (8 * i))), (2, .ref mm), (1, .ref h0), (0, .ref b)] → W p l e room_1 s m #[Value.ref b] below meth c H locs (cells + 976) (slots + 4880) (lw_Z below #[Value.ref b] s) (F0 m 1182 ls [])) {k : Nat → Int32} {z : gS} {f : xF} {u : mS} {H : Heap} {locs : List Loc} {ls : Array Slot} (hR : RR q h0 d k z f u) (hP : va_P (dC, dI) vwCl (va_pl z.1 f ++ mW mm v (q 0) (q 1) u) H) (hD : va_D A (va_pl z.1 f ++ mW mm v (q 0) (q 1) u)) (hS : va_S A s.heap H locs) (hl : lv_has ls 4 [(3, .int (nI (8 * i))), (2, .ref mm), (1, .ref h0), (0, .ref b)]) : W p l e room_1 s m #[Value.ref b] below meth c H locs cells slots (lw_Z below #[Value.ref b] s) (F0 m 681 ls []) := by
  obtain ⟨hx, hb, hr, hml, hown, hts, hX, hbl, hlocks, hgv⟩ := id C0
  have hbA : ¬ A b := by rw [hAe]; exact Nat.not_le.mpr hbl
  have hA : ∀ q : Nat, s.heap.size ≤ q → A q := fun q h => by rw [hAe]; exact h
  have hts := fun w h => hts w (wsL_law_in w h)
  have hR0 := hR
  obtain ⟨hI, hrp, ⟨hk0, hk1, hk2, hk3⟩, hz, es9, cf9, g9, hu, hg, hL⟩ := id hR
  have hk1o := hk1
  refine lv_aload_n hx hb dL_law_681 rfl (lv_at hl 2 rfl) ?_
  refine lv_aload_n hx hb dL_law_682 rfl (lv_at hl 3 rfl) ?_
  refine lv_iload_n hx hb dL_law_683 rfl (lv_at hl 0 rfl) ?_
  refine lv_iconst (v := 1) hx hb dL_law_684 (by decide) ?_
  refine lv_iadd hx hb dL_law_685 ?_
  refine lv_topi (fun y_1 ey_1 => ?_)
  obtain rfl : y_1 = nI (8 * i + 1) := ey_1.trans (nI_k _ 1 rfl)
  refine va_sld hx hb hX hbl hbA hS (vp_in_nI (by omega) (by omega)) dL_law_686 ?_
  refine lv_topi (fun y_2 ey_2 => ?_)
  obtain rfl : y_2 = xs (8 * i + 1) := ey_2.trans (by rw [nI_clamp (by omega)])
  obtain ⟨kk_3, hk_4⟩ := pl_at hI.2.1.1.1 hI.2.2.2.1.1
  have hPc := vaP_l hP
  have hDc := vaD_l hD
  have hFc := fr_left hD hS hA
  refine va_calli (va_runV (As := [.int (xs (8 * i + 1))]) (rest := []) ⟨hx, hb, hml, hown, hts⟩ (y_lift l dC dI q h0 d k z f hI (xs (8 * i + 1)) u hrp hk0 hk1 hk2 hk3 hz (uI_pc hu) (uI_ne hu) H.size) (cwV 1 hts gL_law_X11_lift rfl rfl rfl zh_X11_lift_135 ⟨Nat.le_of_ble_eq_true rfl, Nat.le_of_ble_eq_true rfl⟩) ⟨gx_fb, va_recv hK hPc (ci := 10) (q0 := kk_3) rfl hk_4, fun U hU hW => ⟨rfl, by rw [hU], px_to hU hW hPc hK hN hXN, hDc.weaken (fun _ _ _ _ => trivial)⟩⟩ rfl rfl hl.1 rfl (lv_room (Nat.le_of_ble_eq_true rfl)) dL_law_687 ⟨by omega, by omega⟩) hS (fun q _ h => hFc q h) hFc (fun ra_9 w_8 t H1 locs ht hvm hw hB hz1 hk1 hS => ?_)
  obtain ⟨hP1, hD1⟩ := hB
  rw [ht] at hP1
  obtain ⟨hP, hD⟩ := jn hP hD hk1 hFc hP1 hD1
  generalize H1 = H at hP hS ⊢
  obtain ⟨k_5, z_6, f_7⟩ := w_8
  have hP : va_P (dC, dI) vwCl (va_pl z_6.1 f_7 ++ mW mm v (q 0) (q 1) u) H := hP
  have hD : va_D A (va_pl z_6.1 f_7 ++ mW mm v (q 0) (q 1) u) := hD
  refine W.widen (k := cells + 976) (n := slots + 4880) (by omega) (by omega) ?_
  have hx9 := hw
  refine lv_pop hx hb dL_law_690 rfl ?_
  refine lv_aload_n hx hb dL_law_691 rfl (lv_at hl 1 rfl) ?_
  refine lv_aload_n hx hb dL_law_692 rfl (lv_at hl 3 rfl) ?_
  refine lv_iload_n hx hb dL_law_693 rfl (lv_at hl 0 rfl) ?_
  refine lv_iconst (v := 1) hx hb dL_law_694 (by decide) ?_
  refine lv_iadd hx hb dL_law_695 ?_
  refine lv_topi (fun y_10 ey_10 => ?_)
  obtain rfl : y_10 = nI (8 * i + 1) := ey_10.trans (nI_k _ 1 rfl)
  refine va_sld hx hb hX hbl hbA hS (vp_in_nI (by omega) (by omega)) dL_law_696 ?_
  refine lv_topi (fun y_11 ey_11 => ?_)
  obtain rfl : y_11 = xs (8 * i + 1) := ey_11.trans (by rw [nI_clamp (by omega)])
  have hPc := vaP_r hP
  have hKc := hK.sub (tys' := [(q 0, .int), (q 1, .boolean)]) [0, 1] rfl
  have hDc := vaD_r hD
  have hFc := fr_part hD hS hA
  refine va_calli (va_runV (As := [.int (xs (8 * i + 1))]) (rest := []) ⟨hx, hb, hml, hown, hts⟩ (o_lift l dC dI mm v (q 0) (q 1) u (xs (8 * i + 1)) hu H.size) (cwV 1 hts gL_law_X12_lift rfl rfl rfl zh_X12_lift_136 ⟨Nat.le_of_ble_eq_true rfl, Nat.le_of_ble_eq_true rfl⟩) ⟨gw_fb, va_recv hKc hPc (ci := 11) (q0 := 0) rfl rfl, fun U hU hW => ⟨rfl, by rw [hU], pw_to hU hW hPc hKc hN, hDc.weaken (fun _ _ _ _ => trivial)⟩⟩ rfl rfl hl.1 rfl (lv_room (Nat.le_of_ble_eq_true rfl)) dL_law_697 ⟨by omega, by omega⟩) hS (fun q _ h => hFc q h) hFc (fun ra_13 u_12 t H1 locs ht hvm hw hB hz1 hk1 hS => ?_)
  obtain ⟨hP1, hD1⟩ := hB
  rw [ht] at hP1
  obtain ⟨hP, hD⟩ := jn (vaP_swap hP) (vaD_swap hD) hk1 hFc hP1 hD1
  generalize H1 = H at hP hS ⊢
  have hP := vaP_swap hP
  have hD := vaD_swap hD
  refine W.widen (k := cells + 976) (n := slots + 4880) (by omega) (by omega) ?_
  obtain ⟨P9, X9, Y9, D9, N9, hA9, hx9⟩ := hx9
  obtain ⟨P8, X8, Y8, D8, N8, hB9, hw⟩ := hw
  have hs := step_lift hR0 hx9 hA9 (hw.trans (lf_u hB9 hA9))
  have hrl : ra_9 = ra_13 := hs.1
  have hR : RR q h0 d k_5 z_6 f_7 u_12 := hs.2
  refine lv_pop hx hb dL_law_700 rfl ?_
  refine lv_goto (tgt := 1182) hx hb dL_law_701 (by decide) ?_
  exact kx _ _ _ _ _ _ _ ls hR hP hD hS (lv_sub hl [0, 1, 2, 3] rfl)
set_option maxHeartbeats 4000000 in
set_option maxRecDepth 100000 in
theorem law_c14 {p : Program} {l : Launch} {e : Env} {s : State} {m : MethodId} {below : List Frame} {meth : Method} {c : Code} {b L : Nat} {xs : Nat → Int32} {A : Nat → Prop} {dC : Nat → ClassId} {dI : Nat → Nat → Nat} {q : Nat → ClassId} {h0 mm : Nat} {d v : Nat → Nat} {cells slots i : Nat} (C0 : lw_At p s m meth c b L xs) (hAe : A = fun q => s.heap.size ≤ q) (hN : NN s) (hXN : XN s) (hK : va_K (dC, dI) vwCl (xT q) s) (hL : 8 * i + 8 ≤ L) (hL2 : L ≤ 4096) (hRc : cells + 976 ≤ room_1.cells) (hRs : slots + 4880 ≤ room_1.slots) (kx : ∀ (d : Nat → Nat) (k : Nat → Int32) (z : gS) (f : xF) (u : mS) (H : Heap) (locs : List Loc) (ls : Array Slot), RR q h0 d k z f u → va_P (dC, dI) vwCl (va_pl z.1 f ++ mW mm v (q 0) (q 1) u) H → va_D A (va_pl z.1 f ++ mW mm v (q 0) (q 1) u) → va_S A s.heap H locs → lv_has ls 4 [(3, .int (nI (8 * i))), (2, .ref mm), (1, .ref h0), (0, .ref b)] → W p l e room_1 s m #[Value.ref b] below meth c H locs (cells + 976) (slots + 4880) (lw_Z below #[Value.ref b] s) (F0 m 1182 ls [])) {k : Nat → Int32} {z : gS} {f : xF} {u : mS} {H : Heap} {locs : List Loc} {ls : Array Slot} (hR : RR q h0 d k z f u) (hP : va_P (dC, dI) vwCl (va_pl z.1 f ++ mW mm v (q 0) (q 1) u) H) (hD : va_D A (va_pl z.1 f ++ mW mm v (q 0) (q 1) u)) (hS : va_S A s.heap H locs) (hl : lv_has ls 4 [(3, .int (nI (8 * i))), (2, .ref mm), (1, .ref h0), (0, .ref b)]) : W p l e room_1 s m #[Value.ref b] below meth c H locs cells slots (lw_Z below #[Value.ref b] s) (F0 m 704 ls []) := by
  obtain ⟨hx, hb, hr, hml, hown, hts, hX, hbl, hlocks, hgv⟩ := id C0
  have hbA : ¬ A b := by rw [hAe]; exact Nat.not_le.mpr hbl
  have hA : ∀ q : Nat, s.heap.size ≤ q → A q := fun q h => by rw [hAe]; exact h
  have hts := fun w h => hts w (wsL_law_in w h)
  have hR0 := hR
  obtain ⟨hI, hrp, ⟨hk0, hk1, hk2, hk3⟩, hz, es9, cf9, g9, hu, hg, hL⟩ := id hR
  have hk1o := hk1
  refine lv_aload_n hx hb dL_law_704 rfl (lv_at hl 2 rfl) ?_
  refine lv_aload_n hx hb dL_law_705 rfl (lv_at hl 3 rfl) ?_
  refine lv_iload_n hx hb dL_law_706 rfl (lv_at hl 0 rfl) ?_
  refine lv_iconst (v := 1) hx hb dL_law_707 (by decide) ?_
  refine lv_iadd hx hb dL_law_708 ?_
  refine lv_topi (fun y_1 ey_1 => ?_)
  obtain rfl : y_1 = nI (8 * i + 1) := ey_1.trans (nI_k _ 1 rfl)
  refine va_sld hx hb hX hbl hbA hS (vp_in_nI (by omega) (by omega)) dL_law_709 ?_
  refine lv_topi (fun y_2 ey_2 => ?_)
  obtain rfl : y_2 = xs (8 * i + 1) := ey_2.trans (by rw [nI_clamp (by omega)])
  refine lv_aload_n hx hb dL_law_710 rfl (lv_at hl 3 rfl) ?_
  refine lv_iload_n hx hb dL_law_711 rfl (lv_at hl 0 rfl) ?_
  refine lv_iconst (v := 2) hx hb dL_law_712 (by decide) ?_
  refine lv_iadd hx hb dL_law_713 ?_
  refine lv_topi (fun y_3 ey_3 => ?_)
  obtain rfl : y_3 = nI (8 * i + 2) := ey_3.trans (nI_k _ 2 rfl)
  refine va_sld hx hb hX hbl hbA hS (vp_in_nI (by omega) (by omega)) dL_law_714 ?_
  refine lv_topi (fun y_4 ey_4 => ?_)
  obtain rfl : y_4 = xs (8 * i + 2) := ey_4.trans (by rw [nI_clamp (by omega)])
  refine lv_aload_n hx hb dL_law_715 rfl (lv_at hl 3 rfl) ?_
  refine lv_iload_n hx hb dL_law_716 rfl (lv_at hl 0 rfl) ?_
  refine lv_iconst (v := 3) hx hb dL_law_717 (by decide) ?_
  refine lv_iadd hx hb dL_law_718 ?_
  refine lv_topi (fun y_5 ey_5 => ?_)
  obtain rfl : y_5 = nI (8 * i + 3) := ey_5.trans (nI_k _ 3 rfl)
  refine va_sld hx hb hX hbl hbA hS (vp_in_nI (by omega) (by omega)) dL_law_719 ?_
  refine lv_topi (fun y_6 ey_6 => ?_)
  obtain rfl : y_6 = xs (8 * i + 3) := ey_6.trans (by rw [nI_clamp (by omega)])
  obtain ⟨kk_7, hk_8⟩ := pl_at hI.2.1.1.1 hI.2.2.2.1.1
  have hPc := vaP_l hP
  have hDc := vaD_l hD
  have hFc := fr_left hD hS hA
  refine va_calli (va_runV (As := [.int (xs (8 * i + 1)), .int (xs (8 * i + 2)), .int (xs (8 * i + 3))]) (rest := []) ⟨hx, hb, hml, hown, hts⟩ (y_rule l dC dI q h0 d k z f hI (xs (8 * i + 1)) (xs (8 * i + 2)) (xs (8 * i + 3)) u hrp hk0 hk1 hk2 hk3 hz (uI_ne hu) H.size) (cwV 3 hts gL_law_X11_rule rfl rfl rfl zh_X11_rule_137 ⟨Nat.le_of_ble_eq_true rfl, Nat.le_of_ble_eq_true rfl⟩) ⟨gx_fb, va_recv hK hPc (ci := 10) (q0 := kk_7) rfl hk_8, fun U hU hW => ⟨rfl, by rw [hU], px_to hU hW hPc hK hN hXN, hDc.weaken (fun _ _ _ _ => trivial)⟩⟩ rfl rfl hl.1 rfl (lv_room (Nat.le_of_ble_eq_true rfl)) dL_law_720 ⟨by omega, by omega⟩) hS (fun q _ h => hFc q h) hFc (fun ra_13 w_12 t H1 locs ht hvm hw hB hz1 hk1 hS => ?_)
  obtain ⟨hP1, hD1⟩ := hB
  rw [ht] at hP1
  obtain ⟨hP, hD⟩ := jn hP hD hk1 hFc hP1 hD1
  generalize H1 = H at hP hS ⊢
  obtain ⟨k_9, z_10, f_11⟩ := w_12
  have hP : va_P (dC, dI) vwCl (va_pl z_10.1 f_11 ++ mW mm v (q 0) (q 1) u) H := hP
  have hD : va_D A (va_pl z_10.1 f_11 ++ mW mm v (q 0) (q 1) u) := hD
  refine W.widen (k := cells + 976) (n := slots + 4880) (by omega) (by omega) ?_
  have hx9 := hw
  refine lv_pop hx hb dL_law_723 rfl ?_
  refine lv_aload_n hx hb dL_law_724 rfl (lv_at hl 1 rfl) ?_
  refine lv_aload_n hx hb dL_law_725 rfl (lv_at hl 3 rfl) ?_
  refine lv_iload_n hx hb dL_law_726 rfl (lv_at hl 0 rfl) ?_
  refine lv_iconst (v := 1) hx hb dL_law_727 (by decide) ?_
  refine lv_iadd hx hb dL_law_728 ?_
  refine lv_topi (fun y_14 ey_14 => ?_)
  obtain rfl : y_14 = nI (8 * i + 1) := ey_14.trans (nI_k _ 1 rfl)
  refine va_sld hx hb hX hbl hbA hS (vp_in_nI (by omega) (by omega)) dL_law_729 ?_
  refine lv_topi (fun y_15 ey_15 => ?_)
  obtain rfl : y_15 = xs (8 * i + 1) := ey_15.trans (by rw [nI_clamp (by omega)])
  refine lv_aload_n hx hb dL_law_730 rfl (lv_at hl 3 rfl) ?_
  refine lv_iload_n hx hb dL_law_731 rfl (lv_at hl 0 rfl) ?_
  refine lv_iconst (v := 2) hx hb dL_law_732 (by decide) ?_
  refine lv_iadd hx hb dL_law_733 ?_
  refine lv_topi (fun y_16 ey_16 => ?_)
  obtain rfl : y_16 = nI (8 * i + 2) := ey_16.trans (nI_k _ 2 rfl)
  refine va_sld hx hb hX hbl hbA hS (vp_in_nI (by omega) (by omega)) dL_law_734 ?_
  refine lv_topi (fun y_17 ey_17 => ?_)
  obtain rfl : y_17 = xs (8 * i + 2) := ey_17.trans (by rw [nI_clamp (by omega)])
  refine lv_aload_n hx hb dL_law_735 rfl (lv_at hl 3 rfl) ?_
  refine lv_iload_n hx hb dL_law_736 rfl (lv_at hl 0 rfl) ?_
  refine lv_iconst (v := 3) hx hb dL_law_737 (by decide) ?_
  refine lv_iadd hx hb dL_law_738 ?_
  refine lv_topi (fun y_18 ey_18 => ?_)
  obtain rfl : y_18 = nI (8 * i + 3) := ey_18.trans (nI_k _ 3 rfl)
  refine va_sld hx hb hX hbl hbA hS (vp_in_nI (by omega) (by omega)) dL_law_739 ?_
  refine lv_topi (fun y_19 ey_19 => ?_)
  obtain rfl : y_19 = xs (8 * i + 3) := ey_19.trans (by rw [nI_clamp (by omega)])
  have hPc := vaP_r hP
  have hKc := hK.sub (tys' := [(q 0, .int), (q 1, .boolean)]) [0, 1] rfl
  have hDc := vaD_r hD
  have hFc := fr_part hD hS hA
  refine va_calli (va_runV (As := [.int (xs (8 * i + 1)), .int (xs (8 * i + 2)), .int (xs (8 * i + 3))]) (rest := []) ⟨hx, hb, hml, hown, hts⟩ (m_rule l dC dI mm v (q 0) (q 1) u (xs (8 * i + 1)) (xs (8 * i + 2)) (xs (8 * i + 3)) hu.1.2.2.1 (inv_ha (uI_M hu)) H.size) (cwV 3 hts gL_law_X12_rule rfl rfl rfl zh_X12_rule_138 ⟨Nat.le_of_ble_eq_true rfl, Nat.le_of_ble_eq_true rfl⟩) ⟨gw_fb, va_recv hKc hPc (ci := 11) (q0 := 0) rfl rfl, fun U hU hW => ⟨rfl, by rw [hU], pw_to hU hW hPc hKc hN, hDc.weaken (fun _ _ _ _ => trivial)⟩⟩ rfl rfl hl.1 rfl (lv_room (Nat.le_of_ble_eq_true rfl)) dL_law_740 ⟨by omega, by omega⟩) hS (fun q _ h => hFc q h) hFc (fun ra_21 u_20 t H1 locs ht hvm hw hB hz1 hk1 hS => ?_)
  obtain ⟨hP1, hD1⟩ := hB
  rw [ht] at hP1
  obtain ⟨hP, hD⟩ := jn (vaP_swap hP) (vaD_swap hD) hk1 hFc hP1 hD1
  generalize H1 = H at hP hS ⊢
  have hP := vaP_swap hP
  have hD := vaD_swap hD
  refine W.widen (k := cells + 976) (n := slots + 4880) (by omega) (by omega) ?_
  have hs := step_rule hR0 hx9 hw
  have hrl : ra_13 = ra_21 := hs.1
  have hR : RR q h0 d k_9 z_10 f_11 u_20 := hs.2
  refine lv_pop hx hb dL_law_743 rfl ?_
  refine lv_goto (tgt := 1182) hx hb dL_law_744 (by decide) ?_
  exact kx _ _ _ _ _ _ _ ls hR hP hD hS (lv_sub hl [0, 1, 2, 3] rfl)
set_option maxHeartbeats 4000000 in
set_option maxRecDepth 100000 in
theorem law_c15 {p : Program} {l : Launch} {e : Env} {s : State} {m : MethodId} {below : List Frame} {meth : Method} {c : Code} {b L : Nat} {xs : Nat → Int32} {A : Nat → Prop} {dC : Nat → ClassId} {dI : Nat → Nat → Nat} {q : Nat → ClassId} {h0 mm : Nat} {d v : Nat → Nat} {cells slots i : Nat} (C0 : lw_At p s m meth c b L xs) (hAe : A = fun q => s.heap.size ≤ q) (hN : NN s) (hXN : XN s) (hK : va_K (dC, dI) vwCl (xT q) s) (hL : 8 * i + 8 ≤ L) (hL2 : L ≤ 4096) (hRc : cells + 976 ≤ room_1.cells) (hRs : slots + 4880 ≤ room_1.slots) (kx : ∀ (d : Nat → Nat) (k : Nat → Int32) (z : gS) (f : xF) (u : mS) (H : Heap) (locs : List Loc) (ls : Array Slot), RR q h0 d k z f u → va_P (dC, dI) vwCl (va_pl z.1 f ++ mW mm v (q 0) (q 1) u) H → va_D A (va_pl z.1 f ++ mW mm v (q 0) (q 1) u) → va_S A s.heap H locs → lv_has ls 4 [(3, .int (nI (8 * i))), (2, .ref mm), (1, .ref h0), (0, .ref b)] → W p l e room_1 s m #[Value.ref b] below meth c H locs (cells + 976) (slots + 4880) (lw_Z below #[Value.ref b] s) (F0 m 1182 ls [])) {k : Nat → Int32} {z : gS} {f : xF} {u : mS} {H : Heap} {locs : List Loc} {ls : Array Slot} (hR : RR q h0 d k z f u) (hP : va_P (dC, dI) vwCl (va_pl z.1 f ++ mW mm v (q 0) (q 1) u) H) (hD : va_D A (va_pl z.1 f ++ mW mm v (q 0) (q 1) u)) (hS : va_S A s.heap H locs) (hl : lv_has ls 4 [(3, .int (nI (8 * i))), (2, .ref mm), (1, .ref h0), (0, .ref b)]) : W p l e room_1 s m #[Value.ref b] below meth c H locs cells slots (lw_Z below #[Value.ref b] s) (F0 m 747 ls []) := by
  obtain ⟨hx, hb, hr, hml, hown, hts, hX, hbl, hlocks, hgv⟩ := id C0
  have hbA : ¬ A b := by rw [hAe]; exact Nat.not_le.mpr hbl
  have hA : ∀ q : Nat, s.heap.size ≤ q → A q := fun q h => by rw [hAe]; exact h
  have hts := fun w h => hts w (wsL_law_in w h)
  have hR0 := hR
  obtain ⟨hI, hrp, ⟨hk0, hk1, hk2, hk3⟩, hz, es9, cf9, g9, hu, hg, hL⟩ := id hR
  have hk1o := hk1
  refine lv_aload_n hx hb dL_law_747 rfl (lv_at hl 2 rfl) ?_
  refine lv_aload_n hx hb dL_law_748 rfl (lv_at hl 3 rfl) ?_
  refine lv_iload_n hx hb dL_law_749 rfl (lv_at hl 0 rfl) ?_
  refine lv_iconst (v := 1) hx hb dL_law_750 (by decide) ?_
  refine lv_iadd hx hb dL_law_751 ?_
  refine lv_topi (fun y_1 ey_1 => ?_)
  obtain rfl : y_1 = nI (8 * i + 1) := ey_1.trans (nI_k _ 1 rfl)
  refine va_sld hx hb hX hbl hbA hS (vp_in_nI (by omega) (by omega)) dL_law_752 ?_
  refine lv_topi (fun y_2 ey_2 => ?_)
  obtain rfl : y_2 = xs (8 * i + 1) := ey_2.trans (by rw [nI_clamp (by omega)])
  obtain ⟨kk_3, hk_4⟩ := pl_at hI.2.1.1.1 hI.2.2.2.1.1
  have hPc := vaP_l hP
  have hDc := vaD_l hD
  have hFc := fr_left hD hS hA
  refine va_calli (va_runV (As := [.int (xs (8 * i + 1))]) (rest := []) ⟨hx, hb, hml, hown, hts⟩ (y_fill l dC dI q h0 d k z f hI (xs (8 * i + 1)) u hrp hk0 hk1 hk2 hk3 hz (uI_ne hu) H.size) (cwV 1 hts gL_law_X11_fill rfl rfl rfl zh_X11_fill_139 ⟨Nat.le_of_ble_eq_true rfl, Nat.le_of_ble_eq_true rfl⟩) ⟨gx_fb, va_recv hK hPc (ci := 10) (q0 := kk_3) rfl hk_4, fun U hU hW => ⟨rfl, by rw [hU], px_to hU hW hPc hK hN hXN, hDc.weaken (fun _ _ _ _ => trivial)⟩⟩ rfl rfl hl.1 rfl (lv_room (Nat.le_of_ble_eq_true rfl)) dL_law_753 ⟨by omega, by omega⟩) hS (fun q _ h => hFc q h) hFc (fun ra_9 w_8 t H1 locs ht hvm hw hB hz1 hk1 hS => ?_)
  obtain ⟨hP1, hD1⟩ := hB
  rw [ht] at hP1
  obtain ⟨hP, hD⟩ := jn hP hD hk1 hFc hP1 hD1
  generalize H1 = H at hP hS ⊢
  obtain ⟨k_5, z_6, f_7⟩ := w_8
  have hP : va_P (dC, dI) vwCl (va_pl z_6.1 f_7 ++ mW mm v (q 0) (q 1) u) H := hP
  have hD : va_D A (va_pl z_6.1 f_7 ++ mW mm v (q 0) (q 1) u) := hD
  refine W.widen (k := cells + 976) (n := slots + 4880) (by omega) (by omega) ?_
  have hx9 := hw
  refine lv_pop hx hb dL_law_756 rfl ?_
  refine lv_aload_n hx hb dL_law_757 rfl (lv_at hl 1 rfl) ?_
  refine lv_aload_n hx hb dL_law_758 rfl (lv_at hl 3 rfl) ?_
  refine lv_iload_n hx hb dL_law_759 rfl (lv_at hl 0 rfl) ?_
  refine lv_iconst (v := 1) hx hb dL_law_760 (by decide) ?_
  refine lv_iadd hx hb dL_law_761 ?_
  refine lv_topi (fun y_10 ey_10 => ?_)
  obtain rfl : y_10 = nI (8 * i + 1) := ey_10.trans (nI_k _ 1 rfl)
  refine va_sld hx hb hX hbl hbA hS (vp_in_nI (by omega) (by omega)) dL_law_762 ?_
  refine lv_topi (fun y_11 ey_11 => ?_)
  obtain rfl : y_11 = xs (8 * i + 1) := ey_11.trans (by rw [nI_clamp (by omega)])
  have hPc := vaP_r hP
  have hKc := hK.sub (tys' := [(q 0, .int), (q 1, .boolean)]) [0, 1] rfl
  have hDc := vaD_r hD
  have hFc := fr_part hD hS hA
  refine va_calli (va_runV (As := [.int (xs (8 * i + 1))]) (rest := []) ⟨hx, hb, hml, hown, hts⟩ (n_fill l dC dI mm v (q 0) (q 1) u (xs (8 * i + 1)) hu.1.1 hu.1.2.2.1 (inv_ha (uI_M hu)) (fill_hfb (uI_M hu)) H.size) (cwV 1 hts gL_law_X12_fill rfl rfl rfl zh_X12_fill_140 ⟨Nat.le_of_ble_eq_true rfl, Nat.le_of_ble_eq_true rfl⟩) ⟨gw_fb, va_recv hKc hPc (ci := 11) (q0 := 0) rfl rfl, fun U hU hW => ⟨rfl, by rw [hU], pw_to hU hW hPc hKc hN, hDc.weaken (fun _ _ _ _ => trivial)⟩⟩ rfl rfl hl.1 rfl (lv_room (Nat.le_of_ble_eq_true rfl)) dL_law_763 ⟨by omega, by omega⟩) hS (fun q _ h => hFc q h) hFc (fun ra_13 u_12 t H1 locs ht hvm hw hB hz1 hk1 hS => ?_)
  obtain ⟨hP1, hD1⟩ := hB
  rw [ht] at hP1
  obtain ⟨hP, hD⟩ := jn (vaP_swap hP) (vaD_swap hD) hk1 hFc hP1 hD1
  generalize H1 = H at hP hS ⊢
  have hP := vaP_swap hP
  have hD := vaD_swap hD
  refine W.widen (k := cells + 976) (n := slots + 4880) (by omega) (by omega) ?_
  have hs := step_fill hR0 hx9 hw
  have hrl : ra_9 = ra_13 := hs.1
  have hR : RR q h0 d k_5 z_6 f_7 u_12 := hs.2
  refine lv_pop hx hb dL_law_766 rfl ?_
  refine lv_goto (tgt := 1182) hx hb dL_law_767 (by decide) ?_
  exact kx _ _ _ _ _ _ _ ls hR hP hD hS (lv_sub hl [0, 1, 2, 3] rfl)
set_option maxHeartbeats 4000000 in
set_option maxRecDepth 100000 in
theorem law_c16 {p : Program} {l : Launch} {e : Env} {s : State} {m : MethodId} {below : List Frame} {meth : Method} {c : Code} {b L : Nat} {xs : Nat → Int32} {A : Nat → Prop} {dC : Nat → ClassId} {dI : Nat → Nat → Nat} {q : Nat → ClassId} {h0 mm : Nat} {d v : Nat → Nat} {cells slots i : Nat} (C0 : lw_At p s m meth c b L xs) (hAe : A = fun q => s.heap.size ≤ q) (hN : NN s) (hXN : XN s) (hK : va_K (dC, dI) vwCl (xT q) s) (hL : 8 * i + 8 ≤ L) (hL2 : L ≤ 4096) (hRc : cells + 976 ≤ room_1.cells) (hRs : slots + 4880 ≤ room_1.slots) (kx : ∀ (d : Nat → Nat) (k : Nat → Int32) (z : gS) (f : xF) (u : mS) (H : Heap) (locs : List Loc) (ls : Array Slot), RR q h0 d k z f u → va_P (dC, dI) vwCl (va_pl z.1 f ++ mW mm v (q 0) (q 1) u) H → va_D A (va_pl z.1 f ++ mW mm v (q 0) (q 1) u) → va_S A s.heap H locs → lv_has ls 4 [(3, .int (nI (8 * i))), (2, .ref mm), (1, .ref h0), (0, .ref b)] → W p l e room_1 s m #[Value.ref b] below meth c H locs (cells + 976) (slots + 4880) (lw_Z below #[Value.ref b] s) (F0 m 1182 ls [])) {k : Nat → Int32} {z : gS} {f : xF} {u : mS} {H : Heap} {locs : List Loc} {ls : Array Slot} (hR : RR q h0 d k z f u) (hP : va_P (dC, dI) vwCl (va_pl z.1 f ++ mW mm v (q 0) (q 1) u) H) (hD : va_D A (va_pl z.1 f ++ mW mm v (q 0) (q 1) u)) (hS : va_S A s.heap H locs) (hl : lv_has ls 4 [(3, .int (nI (8 * i))), (2, .ref mm), (1, .ref h0), (0, .ref b)]) : W p l e room_1 s m #[Value.ref b] below meth c H locs cells slots (lw_Z below #[Value.ref b] s) (F0 m 770 ls []) := by
  obtain ⟨hx, hb, hr, hml, hown, hts, hX, hbl, hlocks, hgv⟩ := id C0
  have hbA : ¬ A b := by rw [hAe]; exact Nat.not_le.mpr hbl
  have hA : ∀ q : Nat, s.heap.size ≤ q → A q := fun q h => by rw [hAe]; exact h
  have hts := fun w h => hts w (wsL_law_in w h)
  have hR0 := hR
  obtain ⟨hI, hrp, ⟨hk0, hk1, hk2, hk3⟩, hz, es9, cf9, g9, hu, hg, hL⟩ := id hR
  have hk1o := hk1
  refine lv_aload_n hx hb dL_law_770 rfl (lv_at hl 2 rfl) ?_
  obtain ⟨kk_1, hk_2⟩ := pl_at hI.2.1.1.1 hI.2.2.2.1.1
  have hPc := vaP_l hP
  have hDc := vaD_l hD
  have hFc := fr_left hD hS hA
  refine va_calli (va_runV (As := []) (rest := []) ⟨hx, hb, hml, hown, hts⟩ (y_undo l dC dI q h0 d k z f hI  u hrp hk0 hk1 hk2 hk3 (bkT es9) g9 hg (un_pre (q := q) hk1 hu hL) (uI_ne hu) hz H.size) (cwV 0 hts gL_law_X11_undo rfl rfl rfl zh_X11_undo_141 ⟨Nat.le_of_ble_eq_true rfl, Nat.le_of_ble_eq_true rfl⟩) ⟨gx_fb, va_recv hK hPc (ci := 10) (q0 := kk_1) rfl hk_2, fun U hU hW => ⟨rfl, by rw [hU], px_to hU hW hPc hK hN hXN, hDc.weaken (fun _ _ _ _ => trivial)⟩⟩ rfl rfl hl.1 rfl (lv_room (Nat.le_of_ble_eq_true rfl)) dL_law_771 ⟨by omega, by omega⟩) hS (fun q _ h => hFc q h) hFc (fun ra_7 w_6 t H1 locs ht hvm hw hB hz1 hk1 hS => ?_)
  obtain ⟨hP1, hD1⟩ := hB
  rw [ht] at hP1
  obtain ⟨hP, hD⟩ := jn hP hD hk1 hFc hP1 hD1
  generalize H1 = H at hP hS ⊢
  obtain ⟨k_3, z_4, f_5⟩ := w_6
  have hP : va_P (dC, dI) vwCl (va_pl z_4.1 f_5 ++ mW mm v (q 0) (q 1) u) H := hP
  have hD : va_D A (va_pl z_4.1 f_5 ++ mW mm v (q 0) (q 1) u) := hD
  refine W.widen (k := cells + 976) (n := slots + 4880) (by omega) (by omega) ?_
  have hx9 := hw
  refine lv_pop hx hb dL_law_774 rfl ?_
  refine lv_aload_n hx hb dL_law_775 rfl (lv_at hl 1 rfl) ?_
  have hPc := vaP_r hP
  have hKc := hK.sub (tys' := [(q 0, .int), (q 1, .boolean)]) [0, 1] rfl
  have hDc := vaD_r hD
  have hFc := fr_part hD hS hA
  refine va_calli (va_runV (As := []) (rest := []) ⟨hx, hb, hml, hown, hts⟩ (o_undo l dC dI mm v (q 0) (q 1) u  hu H.size) (cwV 0 hts gL_law_X12_undo rfl rfl rfl zh_X12_undo_142 ⟨Nat.le_of_ble_eq_true rfl, Nat.le_of_ble_eq_true rfl⟩) ⟨gw_fb, va_recv hKc hPc (ci := 11) (q0 := 0) rfl rfl, fun U hU hW => ⟨rfl, by rw [hU], pw_to hU hW hPc hKc hN, hDc.weaken (fun _ _ _ _ => trivial)⟩⟩ rfl rfl hl.1 rfl (lv_room (Nat.le_of_ble_eq_true rfl)) dL_law_776 ⟨by omega, by omega⟩) hS (fun q _ h => hFc q h) hFc (fun ra_9 u_8 t H1 locs ht hvm hw hB hz1 hk1 hS => ?_)
  obtain ⟨hP1, hD1⟩ := hB
  rw [ht] at hP1
  obtain ⟨hP, hD⟩ := jn (vaP_swap hP) (vaD_swap hD) hk1 hFc hP1 hD1
  generalize H1 = H at hP hS ⊢
  have hP := vaP_swap hP
  have hD := vaD_swap hD
  refine W.widen (k := cells + 976) (n := slots + 4880) (by omega) (by omega) ?_
  have hs := step_undo hI hrp ⟨hk0, hk1o, hk2, hk3⟩ hz hu hg hL hx9 hw
  have hrl : ra_7 = ra_9 := hs.1
  have hR : RR q h0 d k_3 z_4 f_5 u_8 := hs.2
  refine lv_pop hx hb dL_law_779 rfl ?_
  refine lv_goto (tgt := 1182) hx hb dL_law_780 (by decide) ?_
  exact kx _ _ _ _ _ _ _ ls hR hP hD hS (lv_sub hl [0, 1, 2, 3] rfl)
set_option maxHeartbeats 4000000 in
set_option maxRecDepth 100000 in
theorem law_c17 {p : Program} {l : Launch} {e : Env} {s : State} {m : MethodId} {below : List Frame} {meth : Method} {c : Code} {b L : Nat} {xs : Nat → Int32} {A : Nat → Prop} {dC : Nat → ClassId} {dI : Nat → Nat → Nat} {q : Nat → ClassId} {h0 mm : Nat} {d v : Nat → Nat} {cells slots i : Nat} (C0 : lw_At p s m meth c b L xs) (hAe : A = fun q => s.heap.size ≤ q) (hN : NN s) (hXN : XN s) (hK : va_K (dC, dI) vwCl (xT q) s) (hL : 8 * i + 8 ≤ L) (hL2 : L ≤ 4096) (hRc : cells + 976 ≤ room_1.cells) (hRs : slots + 4880 ≤ room_1.slots) (kx : ∀ (d : Nat → Nat) (k : Nat → Int32) (z : gS) (f : xF) (u : mS) (H : Heap) (locs : List Loc) (ls : Array Slot), RR q h0 d k z f u → va_P (dC, dI) vwCl (va_pl z.1 f ++ mW mm v (q 0) (q 1) u) H → va_D A (va_pl z.1 f ++ mW mm v (q 0) (q 1) u) → va_S A s.heap H locs → lv_has ls 4 [(3, .int (nI (8 * i))), (2, .ref mm), (1, .ref h0), (0, .ref b)] → W p l e room_1 s m #[Value.ref b] below meth c H locs (cells + 976) (slots + 4880) (lw_Z below #[Value.ref b] s) (F0 m 1182 ls [])) {k : Nat → Int32} {z : gS} {f : xF} {u : mS} {H : Heap} {locs : List Loc} {ls : Array Slot} (hR : RR q h0 d k z f u) (hP : va_P (dC, dI) vwCl (va_pl z.1 f ++ mW mm v (q 0) (q 1) u) H) (hD : va_D A (va_pl z.1 f ++ mW mm v (q 0) (q 1) u)) (hS : va_S A s.heap H locs) (hl : lv_has ls 4 [(3, .int (nI (8 * i))), (2, .ref mm), (1, .ref h0), (0, .ref b)]) : W p l e room_1 s m #[Value.ref b] below meth c H locs cells slots (lw_Z below #[Value.ref b] s) (F0 m 783 ls []) := by
  obtain ⟨hx, hb, hr, hml, hown, hts, hX, hbl, hlocks, hgv⟩ := id C0
  have hbA : ¬ A b := by rw [hAe]; exact Nat.not_le.mpr hbl
  have hA : ∀ q : Nat, s.heap.size ≤ q → A q := fun q h => by rw [hAe]; exact h
  have hts := fun w h => hts w (wsL_law_in w h)
  have hR0 := hR
  obtain ⟨hI, hrp, ⟨hk0, hk1, hk2, hk3⟩, hz, es9, cf9, g9, hu, hg, hL⟩ := id hR
  have hk1o := hk1
  refine lv_aload_n hx hb dL_law_783 rfl (lv_at hl 2 rfl) ?_
  refine lv_aload_n hx hb dL_law_784 rfl (lv_at hl 3 rfl) ?_
  refine lv_iload_n hx hb dL_law_785 rfl (lv_at hl 0 rfl) ?_
  refine lv_iconst (v := 1) hx hb dL_law_786 (by decide) ?_
  refine lv_iadd hx hb dL_law_787 ?_
  refine lv_topi (fun y_1 ey_1 => ?_)
  obtain rfl : y_1 = nI (8 * i + 1) := ey_1.trans (nI_k _ 1 rfl)
  refine va_sld hx hb hX hbl hbA hS (vp_in_nI (by omega) (by omega)) dL_law_788 ?_
  refine lv_topi (fun y_2 ey_2 => ?_)
  obtain rfl : y_2 = xs (8 * i + 1) := ey_2.trans (by rw [nI_clamp (by omega)])
  obtain ⟨kk_3, hk_4⟩ := pl_at hI.2.1.1.1 hI.2.2.2.1.1
  have hPc := vaP_l hP
  have hDc := vaD_l hD
  have hFc := fr_left hD hS hA
  refine va_calli (va_runV (As := [.int (xs (8 * i + 1))]) (rest := []) ⟨hx, hb, hml, hown, hts⟩ (y_plate l dC dI q h0 d k z f hI (xs (8 * i + 1)) u hrp hk0 hk1 hk2 hk3 hu.2.1 (uI_pc hu) H.size) (cwV 1 hts gL_law_X11_plate rfl rfl rfl zh_X11_plate_143 ⟨Nat.le_of_ble_eq_true rfl, Nat.le_of_ble_eq_true rfl⟩) ⟨gx_fb, va_recv hK hPc (ci := 10) (q0 := kk_3) rfl hk_4, fun U hU hW => ⟨rfl, by rw [hU], px_to hU hW hPc hK hN hXN, hDc.weaken (fun _ _ _ _ => trivial)⟩⟩ rfl rfl hl.1 rfl (lv_room (Nat.le_of_ble_eq_true rfl)) dL_law_789 ⟨by omega, by omega⟩) hS (fun q _ h => hFc q h) hFc (fun ra_9 w_8 t H1 locs ht hvm hw hB hz1 hk1 hS => ?_)
  obtain ⟨hP1, hD1⟩ := hB
  rw [ht] at hP1
  obtain ⟨hP, hD⟩ := jn hP hD hk1 hFc hP1 hD1
  generalize H1 = H at hP hS ⊢
  obtain ⟨k_5, z_6, f_7⟩ := w_8
  have hP : va_P (dC, dI) vwCl (va_pl z_6.1 f_7 ++ mW mm v (q 0) (q 1) u) H := hP
  have hD : va_D A (va_pl z_6.1 f_7 ++ mW mm v (q 0) (q 1) u) := hD
  refine W.widen (k := cells + 976) (n := slots + 4880) (by omega) (by omega) ?_
  have hx9 := hw
  refine lv_pop hx hb dL_law_792 rfl ?_
  refine lv_aload_n hx hb dL_law_793 rfl (lv_at hl 1 rfl) ?_
  refine lv_aload_n hx hb dL_law_794 rfl (lv_at hl 3 rfl) ?_
  refine lv_iload_n hx hb dL_law_795 rfl (lv_at hl 0 rfl) ?_
  refine lv_iconst (v := 1) hx hb dL_law_796 (by decide) ?_
  refine lv_iadd hx hb dL_law_797 ?_
  refine lv_topi (fun y_10 ey_10 => ?_)
  obtain rfl : y_10 = nI (8 * i + 1) := ey_10.trans (nI_k _ 1 rfl)
  refine va_sld hx hb hX hbl hbA hS (vp_in_nI (by omega) (by omega)) dL_law_798 ?_
  refine lv_topi (fun y_11 ey_11 => ?_)
  obtain rfl : y_11 = xs (8 * i + 1) := ey_11.trans (by rw [nI_clamp (by omega)])
  have hPc := vaP_r hP
  have hKc := hK.sub (tys' := [(q 0, .int), (q 1, .boolean)]) [0, 1] rfl
  have hDc := vaD_r hD
  have hFc := fr_part hD hS hA
  refine va_calli (va_runV (As := [.int (xs (8 * i + 1))]) (rest := []) ⟨hx, hb, hml, hown, hts⟩ (n_plate l dC dI mm v (q 0) (q 1) u (xs (8 * i + 1)) hu.1.1 hu.1.2.2.1 hu.1.2.2.2.2.2.2.1 hu.2.1 (inv_pc (uI_M hu)) hu.1.2.2.2.2.2.2.2 H.size) (cwV 1 hts gL_law_X12_plate rfl rfl rfl zh_X12_plate_144 ⟨Nat.le_of_ble_eq_true rfl, Nat.le_of_ble_eq_true rfl⟩) ⟨gw_fb, va_recv hKc hPc (ci := 11) (q0 := 0) rfl rfl, fun U hU hW => ⟨rfl, by rw [hU], pw_to hU hW hPc hKc hN, hDc.weaken (fun _ _ _ _ => trivial)⟩⟩ rfl rfl hl.1 rfl (lv_room (Nat.le_of_ble_eq_true rfl)) dL_law_799 ⟨by omega, by omega⟩) hS (fun q _ h => hFc q h) hFc (fun ra_13 u_12 t H1 locs ht hvm hw hB hz1 hk1 hS => ?_)
  obtain ⟨hP1, hD1⟩ := hB
  rw [ht] at hP1
  obtain ⟨hP, hD⟩ := jn (vaP_swap hP) (vaD_swap hD) hk1 hFc hP1 hD1
  generalize H1 = H at hP hS ⊢
  have hP := vaP_swap hP
  have hD := vaD_swap hD
  refine W.widen (k := cells + 976) (n := slots + 4880) (by omega) (by omega) ?_
  have hs := step_plate hR0 hx9 hw
  have hrl : ra_9 = ra_13 := hs.1
  obtain ⟨d9, hR9⟩ := hs.2
  have hR : RR q h0 d9 k_5 z_6 f_7 u_12 := hR9
  refine lv_pop hx hb dL_law_802 rfl ?_
  refine lv_goto (tgt := 1182) hx hb dL_law_803 (by decide) ?_
  exact kx _ _ _ _ _ _ _ ls hR hP hD hS (lv_sub hl [0, 1, 2, 3] rfl)
set_option maxHeartbeats 4000000 in
set_option maxRecDepth 100000 in
theorem law_c18 {p : Program} {l : Launch} {e : Env} {s : State} {m : MethodId} {below : List Frame} {meth : Method} {c : Code} {b L : Nat} {xs : Nat → Int32} {A : Nat → Prop} {dC : Nat → ClassId} {dI : Nat → Nat → Nat} {q : Nat → ClassId} {h0 mm : Nat} {d v : Nat → Nat} {cells slots i : Nat} (C0 : lw_At p s m meth c b L xs) (hAe : A = fun q => s.heap.size ≤ q) (hN : NN s) (hXN : XN s) (hK : va_K (dC, dI) vwCl (xT q) s) (hL : 8 * i + 8 ≤ L) (hL2 : L ≤ 4096) (hRc : cells + 976 ≤ room_1.cells) (hRs : slots + 4880 ≤ room_1.slots) (kx : ∀ (d : Nat → Nat) (k : Nat → Int32) (z : gS) (f : xF) (u : mS) (H : Heap) (locs : List Loc) (ls : Array Slot), RR q h0 d k z f u → va_P (dC, dI) vwCl (va_pl z.1 f ++ mW mm v (q 0) (q 1) u) H → va_D A (va_pl z.1 f ++ mW mm v (q 0) (q 1) u) → va_S A s.heap H locs → lv_has ls 4 [(3, .int (nI (8 * i))), (2, .ref mm), (1, .ref h0), (0, .ref b)] → W p l e room_1 s m #[Value.ref b] below meth c H locs (cells + 976) (slots + 4880) (lw_Z below #[Value.ref b] s) (F0 m 1182 ls [])) {k : Nat → Int32} {z : gS} {f : xF} {u : mS} {H : Heap} {locs : List Loc} {ls : Array Slot} (hR : RR q h0 d k z f u) (hP : va_P (dC, dI) vwCl (va_pl z.1 f ++ mW mm v (q 0) (q 1) u) H) (hD : va_D A (va_pl z.1 f ++ mW mm v (q 0) (q 1) u)) (hS : va_S A s.heap H locs) (hl : lv_has ls 4 [(3, .int (nI (8 * i))), (2, .ref mm), (1, .ref h0), (0, .ref b)]) : W p l e room_1 s m #[Value.ref b] below meth c H locs cells slots (lw_Z below #[Value.ref b] s) (F0 m 806 ls []) := by
  obtain ⟨hx, hb, hr, hml, hown, hts, hX, hbl, hlocks, hgv⟩ := id C0
  have hbA : ¬ A b := by rw [hAe]; exact Nat.not_le.mpr hbl
  have hA : ∀ q : Nat, s.heap.size ≤ q → A q := fun q h => by rw [hAe]; exact h
  have hts := fun w h => hts w (wsL_law_in w h)
  have hR0 := hR
  obtain ⟨hI, hrp, ⟨hk0, hk1, hk2, hk3⟩, hz, es9, cf9, g9, hu, hg, hL⟩ := id hR
  have hk1o := hk1
  refine lv_aload_n hx hb dL_law_806 rfl (lv_at hl 2 rfl) ?_
  obtain ⟨kk_1, hk_2⟩ := pl_at hI.2.1.1.1 hI.2.2.2.1.1
  have hPc := vaP_l hP
  have hDc := vaD_l hD
  have hFc := fr_left hD hS hA
  refine va_calli (va_runV (As := []) (rest := []) ⟨hx, hb, hml, hown, hts⟩ (y_edition l dC dI q h0 d k z f hI  u hrp hk0 hk1 hk2 hk3 hz H.size) (cwV 0 hts gL_law_X11_edition rfl rfl rfl zh_X11_edition_145 ⟨Nat.le_of_ble_eq_true rfl, Nat.le_of_ble_eq_true rfl⟩) ⟨gx_fb, va_recv hK hPc (ci := 10) (q0 := kk_1) rfl hk_2, fun U hU hW => ⟨rfl, by rw [hU], px_to hU hW hPc hK hN hXN, hDc.weaken (fun _ _ _ _ => trivial)⟩⟩ rfl rfl hl.1 rfl (lv_room (Nat.le_of_ble_eq_true rfl)) dL_law_807 ⟨by omega, by omega⟩) hS (fun q _ h => hFc q h) hFc (fun ra_7 w_6 t H1 locs ht hvm hw hB hz1 hk1 hS => ?_)
  obtain ⟨hP1, hD1⟩ := hB
  rw [ht] at hP1
  obtain ⟨hP, hD⟩ := jn hP hD hk1 hFc hP1 hD1
  generalize H1 = H at hP hS ⊢
  obtain ⟨k_3, z_4, f_5⟩ := w_6
  have hP : va_P (dC, dI) vwCl (va_pl z_4.1 f_5 ++ mW mm v (q 0) (q 1) u) H := hP
  have hD : va_D A (va_pl z_4.1 f_5 ++ mW mm v (q 0) (q 1) u) := hD
  refine W.widen (k := cells + 976) (n := slots + 4880) (by omega) (by omega) ?_
  have hx9 := hw
  refine lv_pop hx hb dL_law_810 rfl ?_
  refine lv_aload_n hx hb dL_law_811 rfl (lv_at hl 1 rfl) ?_
  have hPc := vaP_r hP
  have hKc := hK.sub (tys' := [(q 0, .int), (q 1, .boolean)]) [0, 1] rfl
  have hDc := vaD_r hD
  have hFc := fr_part hD hS hA
  refine va_calli (va_runV (As := []) (rest := []) ⟨hx, hb, hml, hown, hts⟩ (m_edition l dC dI mm v (q 0) (q 1) u  hu.1.1 hu.1.2.1 H.size) (cwV 0 hts gL_law_X12_edition rfl rfl rfl zh_X12_edition_146 ⟨Nat.le_of_ble_eq_true rfl, Nat.le_of_ble_eq_true rfl⟩) ⟨gw_fb, va_recv hKc hPc (ci := 11) (q0 := 0) rfl rfl, fun U hU hW => ⟨rfl, by rw [hU], pw_to hU hW hPc hKc hN, hDc.weaken (fun _ _ _ _ => trivial)⟩⟩ rfl rfl hl.1 rfl (lv_room (Nat.le_of_ble_eq_true rfl)) dL_law_812 ⟨by omega, by omega⟩) hS (fun q _ h => hFc q h) hFc (fun ra_9 u_8 t H1 locs ht hvm hw hB hz1 hk1 hS => ?_)
  obtain ⟨hP1, hD1⟩ := hB
  rw [ht] at hP1
  obtain ⟨hP, hD⟩ := jn (vaP_swap hP) (vaD_swap hD) hk1 hFc hP1 hD1
  generalize H1 = H at hP hS ⊢
  have hP := vaP_swap hP
  have hD := vaD_swap hD
  refine W.widen (k := cells + 976) (n := slots + 4880) (by omega) (by omega) ?_
  have hs := step_ed hR0 hx9 hw (RR_40 hR0).1
  have hrl : ra_7 = ra_9 := hs.1
  have hR : RR q h0 d k_3 z_4 f_5 u_8 := hs.2
  refine lv_pop hx hb dL_law_815 rfl ?_
  refine lv_goto (tgt := 1182) hx hb dL_law_816 (by decide) ?_
  exact kx _ _ _ _ _ _ _ ls hR hP hD hS (lv_sub hl [0, 1, 2, 3] rfl)
set_option maxHeartbeats 4000000 in
set_option maxRecDepth 100000 in
theorem law_c19 {p : Program} {l : Launch} {e : Env} {s : State} {m : MethodId} {below : List Frame} {meth : Method} {c : Code} {b L : Nat} {xs : Nat → Int32} {A : Nat → Prop} {dC : Nat → ClassId} {dI : Nat → Nat → Nat} {q : Nat → ClassId} {h0 mm : Nat} {d v : Nat → Nat} {cells slots i : Nat} (C0 : lw_At p s m meth c b L xs) (hAe : A = fun q => s.heap.size ≤ q) (hN : NN s) (hXN : XN s) (hK : va_K (dC, dI) vwCl (xT q) s) (hL : 8 * i + 8 ≤ L) (hL2 : L ≤ 4096) (hRc : cells + 976 ≤ room_1.cells) (hRs : slots + 4880 ≤ room_1.slots) (kx : ∀ (d : Nat → Nat) (k : Nat → Int32) (z : gS) (f : xF) (u : mS) (H : Heap) (locs : List Loc) (ls : Array Slot), RR q h0 d k z f u → va_P (dC, dI) vwCl (va_pl z.1 f ++ mW mm v (q 0) (q 1) u) H → va_D A (va_pl z.1 f ++ mW mm v (q 0) (q 1) u) → va_S A s.heap H locs → lv_has ls 4 [(3, .int (nI (8 * i))), (2, .ref mm), (1, .ref h0), (0, .ref b)] → W p l e room_1 s m #[Value.ref b] below meth c H locs (cells + 976) (slots + 4880) (lw_Z below #[Value.ref b] s) (F0 m 1182 ls [])) {k : Nat → Int32} {z : gS} {f : xF} {u : mS} {H : Heap} {locs : List Loc} {ls : Array Slot} (hR : RR q h0 d k z f u) (hP : va_P (dC, dI) vwCl (va_pl z.1 f ++ mW mm v (q 0) (q 1) u) H) (hD : va_D A (va_pl z.1 f ++ mW mm v (q 0) (q 1) u)) (hS : va_S A s.heap H locs) (hl : lv_has ls 4 [(3, .int (nI (8 * i))), (2, .ref mm), (1, .ref h0), (0, .ref b)]) : W p l e room_1 s m #[Value.ref b] below meth c H locs cells slots (lw_Z below #[Value.ref b] s) (F0 m 819 ls []) := by
  obtain ⟨hx, hb, hr, hml, hown, hts, hX, hbl, hlocks, hgv⟩ := id C0
  have hbA : ¬ A b := by rw [hAe]; exact Nat.not_le.mpr hbl
  have hA : ∀ q : Nat, s.heap.size ≤ q → A q := fun q h => by rw [hAe]; exact h
  have hts := fun w h => hts w (wsL_law_in w h)
  have hR0 := hR
  obtain ⟨hI, hrp, ⟨hk0, hk1, hk2, hk3⟩, hz, es9, cf9, g9, hu, hg, hL⟩ := id hR
  have hk1o := hk1
  refine lv_aload_n hx hb dL_law_819 rfl (lv_at hl 2 rfl) ?_
  obtain ⟨kk_1, hk_2⟩ := pl_at hI.2.1.1.1 hI.2.2.2.1.1
  have hPc := vaP_l hP
  have hDc := vaD_l hD
  have hFc := fr_left hD hS hA
  refine va_calli (va_runV (As := []) (rest := []) ⟨hx, hb, hml, hown, hts⟩ (y_day l dC dI q h0 d k z f hI  u hrp hk0 hk1 hk2 hk3 hz H.size) (cwV 0 hts gL_law_X11_day rfl rfl rfl zh_X11_day_147 ⟨Nat.le_of_ble_eq_true rfl, Nat.le_of_ble_eq_true rfl⟩) ⟨gx_fb, va_recv hK hPc (ci := 10) (q0 := kk_1) rfl hk_2, fun U hU hW => ⟨rfl, by rw [hU], px_to hU hW hPc hK hN hXN, hDc.weaken (fun _ _ _ _ => trivial)⟩⟩ rfl rfl hl.1 rfl (lv_room (Nat.le_of_ble_eq_true rfl)) dL_law_820 ⟨by omega, by omega⟩) hS (fun q _ h => hFc q h) hFc (fun ra_7 w_6 t H1 locs ht hvm hw hB hz1 hk1 hS => ?_)
  obtain ⟨hP1, hD1⟩ := hB
  rw [ht] at hP1
  obtain ⟨hP, hD⟩ := jn hP hD hk1 hFc hP1 hD1
  generalize H1 = H at hP hS ⊢
  obtain ⟨k_3, z_4, f_5⟩ := w_6
  have hP : va_P (dC, dI) vwCl (va_pl z_4.1 f_5 ++ mW mm v (q 0) (q 1) u) H := hP
  have hD : va_D A (va_pl z_4.1 f_5 ++ mW mm v (q 0) (q 1) u) := hD
  refine W.widen (k := cells + 976) (n := slots + 4880) (by omega) (by omega) ?_
  have hx9 := hw
  refine lv_pop hx hb dL_law_823 rfl ?_
  refine lv_aload_n hx hb dL_law_824 rfl (lv_at hl 1 rfl) ?_
  have hPc := vaP_r hP
  have hKc := hK.sub (tys' := [(q 0, .int), (q 1, .boolean)]) [0, 1] rfl
  have hDc := vaD_r hD
  have hFc := fr_part hD hS hA
  refine va_calli (va_runV (As := []) (rest := []) ⟨hx, hb, hml, hown, hts⟩ (m_day l dC dI mm v (q 0) (q 1) u  hu.1.1 hu.1.2.1 H.size) (cwV 0 hts gL_law_X12_day rfl rfl rfl zh_X12_day_148 ⟨Nat.le_of_ble_eq_true rfl, Nat.le_of_ble_eq_true rfl⟩) ⟨gw_fb, va_recv hKc hPc (ci := 11) (q0 := 0) rfl rfl, fun U hU hW => ⟨rfl, by rw [hU], pw_to hU hW hPc hKc hN, hDc.weaken (fun _ _ _ _ => trivial)⟩⟩ rfl rfl hl.1 rfl (lv_room (Nat.le_of_ble_eq_true rfl)) dL_law_825 ⟨by omega, by omega⟩) hS (fun q _ h => hFc q h) hFc (fun ra_9 u_8 t H1 locs ht hvm hw hB hz1 hk1 hS => ?_)
  obtain ⟨hP1, hD1⟩ := hB
  rw [ht] at hP1
  obtain ⟨hP, hD⟩ := jn (vaP_swap hP) (vaD_swap hD) hk1 hFc hP1 hD1
  generalize H1 = H at hP hS ⊢
  have hP := vaP_swap hP
  have hD := vaD_swap hD
  refine W.widen (k := cells + 976) (n := slots + 4880) (by omega) (by omega) ?_
  have hs := step_dy hR0 hx9 hw (RR_40 hR0).1
  have hrl : ra_7 = ra_9 := hs.1
  have hR : RR q h0 d k_3 z_4 f_5 u_8 := hs.2
  refine lv_pop hx hb dL_law_828 rfl ?_
  refine lv_goto (tgt := 1182) hx hb dL_law_829 (by decide) ?_
  exact kx _ _ _ _ _ _ _ ls hR hP hD hS (lv_sub hl [0, 1, 2, 3] rfl)
