theorem rv_g {q : Nat → ClassId} {h0 : Nat} {d : Nat → Nat} {k : Nat → Int32} {z : gS} {f : xF} (hI : xI q h0 d k z f) : ∃ g, f (d 4) = aI (q 1) 100 g ∧ ∀ j, g j = 0 ∨ g j = 1 := by
  have t6 := hI.2.1.2.2.2.2.2
  exact (hI.2.2.1 (d 4) t6.1).2.2.2.2.1 t6.2
set_option maxHeartbeats 4000000 in
set_option maxRecDepth 100000 in
theorem law_c0 {p : Program} {l : Launch} {e : Env} {s : State} {m : MethodId} {below : List Frame} {meth : Method} {c : Code} {b L : Nat} {xs : Nat → Int32} {A : Nat → Prop} {dC : Nat → ClassId} {dI : Nat → Nat → Nat} {q : Nat → ClassId} {h0 mm : Nat} {d v : Nat → Nat} {cells slots i : Nat} (C0 : lw_At p s m meth c b L xs) (hAe : A = fun q => s.heap.size ≤ q) (hN : NN s) (hXN : XN s) (hK : va_K (dC, dI) vwCl (xT q) s) (hL : 8 * i + 8 ≤ L) (hL2 : L ≤ 4096) (hRc : cells + 976 ≤ room_1.cells) (hRs : slots + 4880 ≤ room_1.slots) (kx : ∀ (d : Nat → Nat) (k : Nat → Int32) (z : gS) (f : xF) (u : mS) (H : Heap) (locs : List Loc) (ls : Array Slot), RR q h0 d k z f u → va_P (dC, dI) vwCl (va_pl z.1 f ++ mW mm v (q 0) (q 1) u) H → va_D A (va_pl z.1 f ++ mW mm v (q 0) (q 1) u) → va_S A s.heap H locs → lv_has ls 4 [(3, .int (nI (8 * i))), (2, .ref mm), (1, .ref h0), (0, .ref b)] → W p l e room_1 s m #[Value.ref b] below meth c H locs (cells + 976) (slots + 4880) (lw_Z below #[Value.ref b] s) (F0 m 1182 ls [])) {k : Nat → Int32} {z : gS} {f : xF} {u : mS} {H : Heap} {locs : List Loc} {ls : Array Slot} (hR : RR q h0 d k z f u) (hP : va_P (dC, dI) vwCl (va_pl z.1 f ++ mW mm v (q 0) (q 1) u) H) (hD : va_D A (va_pl z.1 f ++ mW mm v (q 0) (q 1) u)) (hS : va_S A s.heap H locs) (hl : lv_has ls 4 [(3, .int (nI (8 * i))), (2, .ref mm), (1, .ref h0), (0, .ref b)]) : W p l e room_1 s m #[Value.ref b] below meth c H locs cells slots (lw_Z below #[Value.ref b] s) (F0 m 168 ls []) := by
  obtain ⟨hx, hb, hr, hml, hown, hts, hX, hbl, hlocks, hgv⟩ := id C0
  have hbA : ¬ A b := by rw [hAe]; exact Nat.not_le.mpr hbl
  have hA : ∀ q : Nat, s.heap.size ≤ q → A q := fun q h => by rw [hAe]; exact h
  have hts := fun w h => hts w (wsL_law_in w h)
  have hR0 := hR
  obtain ⟨hI, hrp, ⟨hk0, hk1, hk2, hk3⟩, hz, es9, cf9, g9, hu, hg, hL⟩ := id hR
  have hk1o := hk1
  refine lv_aload_n hx hb dL_law_168 rfl (lv_at hl 2 rfl) ?_
  refine lv_aload_n hx hb dL_law_169 rfl (lv_at hl 3 rfl) ?_
  refine lv_iload_n hx hb dL_law_170 rfl (lv_at hl 0 rfl) ?_
  refine lv_iconst (v := 1) hx hb dL_law_171 (by decide) ?_
  refine lv_iadd hx hb dL_law_172 ?_
  refine lv_topi (fun y_1 ey_1 => ?_)
  obtain rfl : y_1 = nI (8 * i + 1) := ey_1.trans (nI_k _ 1 rfl)
  refine va_sld hx hb hX hbl hbA hS (vp_in_nI (by omega) (by omega)) dL_law_173 ?_
  refine lv_topi (fun y_2 ey_2 => ?_)
  obtain rfl : y_2 = xs (8 * i + 1) := ey_2.trans (by rw [nI_clamp (by omega)])
  refine lv_aload_n hx hb dL_law_174 rfl (lv_at hl 3 rfl) ?_
  refine lv_iload_n hx hb dL_law_175 rfl (lv_at hl 0 rfl) ?_
  refine lv_iconst (v := 2) hx hb dL_law_176 (by decide) ?_
  refine lv_iadd hx hb dL_law_177 ?_
  refine lv_topi (fun y_3 ey_3 => ?_)
  obtain rfl : y_3 = nI (8 * i + 2) := ey_3.trans (nI_k _ 2 rfl)
  refine va_sld hx hb hX hbl hbA hS (vp_in_nI (by omega) (by omega)) dL_law_178 ?_
  refine lv_topi (fun y_4 ey_4 => ?_)
  obtain rfl : y_4 = xs (8 * i + 2) := ey_4.trans (by rw [nI_clamp (by omega)])
  refine lv_aload_n hx hb dL_law_179 rfl (lv_at hl 3 rfl) ?_
  refine lv_iload_n hx hb dL_law_180 rfl (lv_at hl 0 rfl) ?_
  refine lv_iconst (v := 3) hx hb dL_law_181 (by decide) ?_
  refine lv_iadd hx hb dL_law_182 ?_
  refine lv_topi (fun y_5 ey_5 => ?_)
  obtain rfl : y_5 = nI (8 * i + 3) := ey_5.trans (nI_k _ 3 rfl)
  refine va_sld hx hb hX hbl hbA hS (vp_in_nI (by omega) (by omega)) dL_law_183 ?_
  refine lv_topi (fun y_6 ey_6 => ?_)
  obtain rfl : y_6 = xs (8 * i + 3) := ey_6.trans (by rw [nI_clamp (by omega)])
  obtain ⟨kk_7, hk_8⟩ := pl_at hI.2.1.1.1 hI.2.2.2.1.1
  have hPc := vaP_l hP
  have hDc := vaD_l hD
  have hFc := fr_left hD hS hA
  refine va_calli (va_runV (As := [.int (xs (8 * i + 1)), .int (xs (8 * i + 2)), .int (xs (8 * i + 3))]) (rest := []) ⟨hx, hb, hml, hown, hts⟩ (v_column l dC dI q h0 d k z f hI (xs (8 * i + 1)) (xs (8 * i + 2)) (xs (8 * i + 3)) u hrp hk0 hk1 hk2 hk3 (uI_br hu) H.size) (cwV 3 hts gL_law_X11_column rfl rfl rfl zh_X11_column_109 ⟨Nat.le_of_ble_eq_true rfl, Nat.le_of_ble_eq_true rfl⟩) ⟨gx_fb, va_recv hK hPc (ci := 10) (q0 := kk_7) rfl hk_8, fun U hU hW => ⟨rfl, by rw [hU], px_to hU hW hPc hK hN hXN, hDc.weaken (fun _ _ _ _ => trivial)⟩⟩ rfl rfl hl.1 rfl (lv_room (Nat.le_of_ble_eq_true rfl)) dL_law_184 ⟨by omega, by omega⟩) hS (fun q _ h => hFc q h) hFc (fun ra_13 w_12 t H1 locs ht hvm hw hB hz1 hk1 hS => ?_)
  obtain ⟨hP1, hD1⟩ := hB
  rw [ht] at hP1
  obtain ⟨hP, hD⟩ := jn hP hD hk1 hFc hP1 hD1
  generalize H1 = H at hP hS ⊢
  obtain ⟨k_9, z_10, f_11⟩ := w_12
  have hP : va_P (dC, dI) vwCl (va_pl z_10.1 f_11 ++ mW mm v (q 0) (q 1) u) H := hP
  have hD : va_D A (va_pl z_10.1 f_11 ++ mW mm v (q 0) (q 1) u) := hD
  refine W.widen (k := cells + 976) (n := slots + 4880) (by omega) (by omega) ?_
  have hx9 := hw
  refine lv_pop hx hb dL_law_187 rfl ?_
  refine lv_aload_n hx hb dL_law_188 rfl (lv_at hl 1 rfl) ?_
  refine lv_aload_n hx hb dL_law_189 rfl (lv_at hl 3 rfl) ?_
  refine lv_iload_n hx hb dL_law_190 rfl (lv_at hl 0 rfl) ?_
  refine lv_iconst (v := 1) hx hb dL_law_191 (by decide) ?_
  refine lv_iadd hx hb dL_law_192 ?_
  refine lv_topi (fun y_14 ey_14 => ?_)
  obtain rfl : y_14 = nI (8 * i + 1) := ey_14.trans (nI_k _ 1 rfl)
  refine va_sld hx hb hX hbl hbA hS (vp_in_nI (by omega) (by omega)) dL_law_193 ?_
  refine lv_topi (fun y_15 ey_15 => ?_)
  obtain rfl : y_15 = xs (8 * i + 1) := ey_15.trans (by rw [nI_clamp (by omega)])
  refine lv_aload_n hx hb dL_law_194 rfl (lv_at hl 3 rfl) ?_
  refine lv_iload_n hx hb dL_law_195 rfl (lv_at hl 0 rfl) ?_
  refine lv_iconst (v := 2) hx hb dL_law_196 (by decide) ?_
  refine lv_iadd hx hb dL_law_197 ?_
  refine lv_topi (fun y_16 ey_16 => ?_)
  obtain rfl : y_16 = nI (8 * i + 2) := ey_16.trans (nI_k _ 2 rfl)
  refine va_sld hx hb hX hbl hbA hS (vp_in_nI (by omega) (by omega)) dL_law_198 ?_
  refine lv_topi (fun y_17 ey_17 => ?_)
  obtain rfl : y_17 = xs (8 * i + 2) := ey_17.trans (by rw [nI_clamp (by omega)])
  refine lv_aload_n hx hb dL_law_199 rfl (lv_at hl 3 rfl) ?_
  refine lv_iload_n hx hb dL_law_200 rfl (lv_at hl 0 rfl) ?_
  refine lv_iconst (v := 3) hx hb dL_law_201 (by decide) ?_
  refine lv_iadd hx hb dL_law_202 ?_
  refine lv_topi (fun y_18 ey_18 => ?_)
  obtain rfl : y_18 = nI (8 * i + 3) := ey_18.trans (nI_k _ 3 rfl)
  refine va_sld hx hb hX hbl hbA hS (vp_in_nI (by omega) (by omega)) dL_law_203 ?_
  refine lv_topi (fun y_19 ey_19 => ?_)
  obtain rfl : y_19 = xs (8 * i + 3) := ey_19.trans (by rw [nI_clamp (by omega)])
  have hPc := vaP_r hP
  have hKc := hK.sub (tys' := [(q 0, .int), (q 1, .boolean)]) [0, 1] rfl
  have hDc := vaD_r hD
  have hFc := fr_part hD hS hA
  refine va_calli (va_runV (As := [.int (xs (8 * i + 1)), .int (xs (8 * i + 2)), .int (xs (8 * i + 3))]) (rest := []) ⟨hx, hb, hml, hown, hts⟩ (m_column l dC dI mm v (q 0) (q 1) u (xs (8 * i + 1)) (xs (8 * i + 2)) (xs (8 * i + 3)) H.size) (cwV 3 hts gL_law_X12_column rfl rfl rfl zh_X12_column_110 ⟨Nat.le_of_ble_eq_true rfl, Nat.le_of_ble_eq_true rfl⟩) ⟨gw_fb, va_recv hKc hPc (ci := 11) (q0 := 0) rfl rfl, fun U hU hW => ⟨rfl, by rw [hU], pw_to hU hW hPc hKc hN, hDc.weaken (fun _ _ _ _ => trivial)⟩⟩ rfl rfl hl.1 rfl (lv_room (Nat.le_of_ble_eq_true rfl)) dL_law_204 ⟨by omega, by omega⟩) hS (fun q _ h => hFc q h) hFc (fun ra_21 u_20 t H1 locs ht hvm hw hB hz1 hk1 hS => ?_)
  obtain ⟨hP1, hD1⟩ := hB
  rw [ht] at hP1
  obtain ⟨hP, hD⟩ := jn (vaP_swap hP) (vaD_swap hD) hk1 hFc hP1 hD1
  generalize H1 = H at hP hS ⊢
  have hP := vaP_swap hP
  have hD := vaD_swap hD
  refine W.widen (k := cells + 976) (n := slots + 4880) (by omega) (by omega) ?_
  obtain ⟨hrb, hub⟩ : ra_21 = (mColumn u (xs (8 * i + 1)) (xs (8 * i + 2)) (xs (8 * i + 3))).1 ∧ u_20 = (mColumn u (xs (8 * i + 1)) (xs (8 * i + 2)) (xs (8 * i + 3))).2 := by rw [← hw]; exact ⟨rfl, rfl⟩
  have hs := step_small (R9 := (mColumn u (xs (8 * i + 1)) (xs (8 * i + 2)) (xs (8 * i + 3)))) hR0 hx9 (column_1 u (xs (8 * i + 1)) (xs (8 * i + 2)) (xs (8 * i + 3))) (fun _ _ h => uI_column h (xs (8 * i + 1)) (xs (8 * i + 2)) (xs (8 * i + 3)))
  have hrl : ra_13 = ra_21 := hs.1.trans hrb.symm
  have hR : RR q h0 d k_9 z_10 f_11 u_20 := by rw [hub]; exact hs.2
  refine lv_pop hx hb dL_law_207 rfl ?_
  refine lv_goto (tgt := 1182) hx hb dL_law_208 (by decide) ?_
  exact kx _ _ _ _ _ _ _ ls hR hP hD hS (lv_sub hl [0, 1, 2, 3] rfl)
set_option maxHeartbeats 4000000 in
set_option maxRecDepth 100000 in
theorem law_c1 {p : Program} {l : Launch} {e : Env} {s : State} {m : MethodId} {below : List Frame} {meth : Method} {c : Code} {b L : Nat} {xs : Nat → Int32} {A : Nat → Prop} {dC : Nat → ClassId} {dI : Nat → Nat → Nat} {q : Nat → ClassId} {h0 mm : Nat} {d v : Nat → Nat} {cells slots i : Nat} (C0 : lw_At p s m meth c b L xs) (hAe : A = fun q => s.heap.size ≤ q) (hN : NN s) (hXN : XN s) (hK : va_K (dC, dI) vwCl (xT q) s) (hL : 8 * i + 8 ≤ L) (hL2 : L ≤ 4096) (hRc : cells + 976 ≤ room_1.cells) (hRs : slots + 4880 ≤ room_1.slots) (kx : ∀ (d : Nat → Nat) (k : Nat → Int32) (z : gS) (f : xF) (u : mS) (H : Heap) (locs : List Loc) (ls : Array Slot), RR q h0 d k z f u → va_P (dC, dI) vwCl (va_pl z.1 f ++ mW mm v (q 0) (q 1) u) H → va_D A (va_pl z.1 f ++ mW mm v (q 0) (q 1) u) → va_S A s.heap H locs → lv_has ls 4 [(3, .int (nI (8 * i))), (2, .ref mm), (1, .ref h0), (0, .ref b)] → W p l e room_1 s m #[Value.ref b] below meth c H locs (cells + 976) (slots + 4880) (lw_Z below #[Value.ref b] s) (F0 m 1182 ls [])) {k : Nat → Int32} {z : gS} {f : xF} {u : mS} {H : Heap} {locs : List Loc} {ls : Array Slot} (hR : RR q h0 d k z f u) (hP : va_P (dC, dI) vwCl (va_pl z.1 f ++ mW mm v (q 0) (q 1) u) H) (hD : va_D A (va_pl z.1 f ++ mW mm v (q 0) (q 1) u)) (hS : va_S A s.heap H locs) (hl : lv_has ls 4 [(3, .int (nI (8 * i))), (2, .ref mm), (1, .ref h0), (0, .ref b)]) : W p l e room_1 s m #[Value.ref b] below meth c H locs cells slots (lw_Z below #[Value.ref b] s) (F0 m 211 ls []) := by
  obtain ⟨hx, hb, hr, hml, hown, hts, hX, hbl, hlocks, hgv⟩ := id C0
  have hbA : ¬ A b := by rw [hAe]; exact Nat.not_le.mpr hbl
  have hA : ∀ q : Nat, s.heap.size ≤ q → A q := fun q h => by rw [hAe]; exact h
  have hts := fun w h => hts w (wsL_law_in w h)
  have hR0 := hR
  obtain ⟨hI, hrp, ⟨hk0, hk1, hk2, hk3⟩, hz, es9, cf9, g9, hu, hg, hL⟩ := id hR
  have hk1o := hk1
  refine lv_aload_n hx hb dL_law_211 rfl (lv_at hl 2 rfl) ?_
  refine lv_aload_n hx hb dL_law_212 rfl (lv_at hl 3 rfl) ?_
  refine lv_iload_n hx hb dL_law_213 rfl (lv_at hl 0 rfl) ?_
  refine lv_iconst (v := 1) hx hb dL_law_214 (by decide) ?_
  refine lv_iadd hx hb dL_law_215 ?_
  refine lv_topi (fun y_1 ey_1 => ?_)
  obtain rfl : y_1 = nI (8 * i + 1) := ey_1.trans (nI_k _ 1 rfl)
  refine va_sld hx hb hX hbl hbA hS (vp_in_nI (by omega) (by omega)) dL_law_216 ?_
  refine lv_topi (fun y_2 ey_2 => ?_)
  obtain rfl : y_2 = xs (8 * i + 1) := ey_2.trans (by rw [nI_clamp (by omega)])
  refine lv_aload_n hx hb dL_law_217 rfl (lv_at hl 3 rfl) ?_
  refine lv_iload_n hx hb dL_law_218 rfl (lv_at hl 0 rfl) ?_
  refine lv_iconst (v := 2) hx hb dL_law_219 (by decide) ?_
  refine lv_iadd hx hb dL_law_220 ?_
  refine lv_topi (fun y_3 ey_3 => ?_)
  obtain rfl : y_3 = nI (8 * i + 2) := ey_3.trans (nI_k _ 2 rfl)
  refine va_sld hx hb hX hbl hbA hS (vp_in_nI (by omega) (by omega)) dL_law_221 ?_
  refine lv_topi (fun y_4 ey_4 => ?_)
  obtain rfl : y_4 = xs (8 * i + 2) := ey_4.trans (by rw [nI_clamp (by omega)])
  obtain ⟨kk_5, hk_6⟩ := pl_at hI.2.1.1.1 hI.2.2.2.1.1
  have hPc := vaP_l hP
  have hDc := vaD_l hD
  have hFc := fr_left hD hS hA
  refine va_calli (va_runV (As := [.int (xs (8 * i + 1)), .int (xs (8 * i + 2))]) (rest := []) ⟨hx, hb, hml, hown, hts⟩ (v_measure l dC dI q h0 d k z f hI (xs (8 * i + 1)) (xs (8 * i + 2)) u hrp hk0 hk1 hk2 hk3 (uI_br hu) H.size) (cwV 2 hts gL_law_X11_measure rfl rfl rfl zh_X11_measure_111 ⟨Nat.le_of_ble_eq_true rfl, Nat.le_of_ble_eq_true rfl⟩) ⟨gx_fb, va_recv hK hPc (ci := 10) (q0 := kk_5) rfl hk_6, fun U hU hW => ⟨rfl, by rw [hU], px_to hU hW hPc hK hN hXN, hDc.weaken (fun _ _ _ _ => trivial)⟩⟩ rfl rfl hl.1 rfl (lv_room (Nat.le_of_ble_eq_true rfl)) dL_law_222 ⟨by omega, by omega⟩) hS (fun q _ h => hFc q h) hFc (fun ra_11 w_10 t H1 locs ht hvm hw hB hz1 hk1 hS => ?_)
  obtain ⟨hP1, hD1⟩ := hB
  rw [ht] at hP1
  obtain ⟨hP, hD⟩ := jn hP hD hk1 hFc hP1 hD1
  generalize H1 = H at hP hS ⊢
  obtain ⟨k_7, z_8, f_9⟩ := w_10
  have hP : va_P (dC, dI) vwCl (va_pl z_8.1 f_9 ++ mW mm v (q 0) (q 1) u) H := hP
  have hD : va_D A (va_pl z_8.1 f_9 ++ mW mm v (q 0) (q 1) u) := hD
  refine W.widen (k := cells + 976) (n := slots + 4880) (by omega) (by omega) ?_
  have hx9 := hw
  refine lv_pop hx hb dL_law_225 rfl ?_
  refine lv_aload_n hx hb dL_law_226 rfl (lv_at hl 1 rfl) ?_
  refine lv_aload_n hx hb dL_law_227 rfl (lv_at hl 3 rfl) ?_
  refine lv_iload_n hx hb dL_law_228 rfl (lv_at hl 0 rfl) ?_
  refine lv_iconst (v := 1) hx hb dL_law_229 (by decide) ?_
  refine lv_iadd hx hb dL_law_230 ?_
  refine lv_topi (fun y_12 ey_12 => ?_)
  obtain rfl : y_12 = nI (8 * i + 1) := ey_12.trans (nI_k _ 1 rfl)
  refine va_sld hx hb hX hbl hbA hS (vp_in_nI (by omega) (by omega)) dL_law_231 ?_
  refine lv_topi (fun y_13 ey_13 => ?_)
  obtain rfl : y_13 = xs (8 * i + 1) := ey_13.trans (by rw [nI_clamp (by omega)])
  refine lv_aload_n hx hb dL_law_232 rfl (lv_at hl 3 rfl) ?_
  refine lv_iload_n hx hb dL_law_233 rfl (lv_at hl 0 rfl) ?_
  refine lv_iconst (v := 2) hx hb dL_law_234 (by decide) ?_
  refine lv_iadd hx hb dL_law_235 ?_
  refine lv_topi (fun y_14 ey_14 => ?_)
  obtain rfl : y_14 = nI (8 * i + 2) := ey_14.trans (nI_k _ 2 rfl)
  refine va_sld hx hb hX hbl hbA hS (vp_in_nI (by omega) (by omega)) dL_law_236 ?_
  refine lv_topi (fun y_15 ey_15 => ?_)
  obtain rfl : y_15 = xs (8 * i + 2) := ey_15.trans (by rw [nI_clamp (by omega)])
  have hPc := vaP_r hP
  have hKc := hK.sub (tys' := [(q 0, .int), (q 1, .boolean)]) [0, 1] rfl
  have hDc := vaD_r hD
  have hFc := fr_part hD hS hA
  refine va_calli (va_runV (As := [.int (xs (8 * i + 1)), .int (xs (8 * i + 2))]) (rest := []) ⟨hx, hb, hml, hown, hts⟩ (m_measure l dC dI mm v (q 0) (q 1) u (xs (8 * i + 1)) (xs (8 * i + 2)) H.size) (cwV 2 hts gL_law_X12_measure rfl rfl rfl zh_X12_measure_112 ⟨Nat.le_of_ble_eq_true rfl, Nat.le_of_ble_eq_true rfl⟩) ⟨gw_fb, va_recv hKc hPc (ci := 11) (q0 := 0) rfl rfl, fun U hU hW => ⟨rfl, by rw [hU], pw_to hU hW hPc hKc hN, hDc.weaken (fun _ _ _ _ => trivial)⟩⟩ rfl rfl hl.1 rfl (lv_room (Nat.le_of_ble_eq_true rfl)) dL_law_237 ⟨by omega, by omega⟩) hS (fun q _ h => hFc q h) hFc (fun ra_17 u_16 t H1 locs ht hvm hw hB hz1 hk1 hS => ?_)
  obtain ⟨hP1, hD1⟩ := hB
  rw [ht] at hP1
  obtain ⟨hP, hD⟩ := jn (vaP_swap hP) (vaD_swap hD) hk1 hFc hP1 hD1
  generalize H1 = H at hP hS ⊢
  have hP := vaP_swap hP
  have hD := vaD_swap hD
  refine W.widen (k := cells + 976) (n := slots + 4880) (by omega) (by omega) ?_
  obtain ⟨hrb, hub⟩ : ra_17 = (mMeasure u (xs (8 * i + 1)) (xs (8 * i + 2))).1 ∧ u_16 = (mMeasure u (xs (8 * i + 1)) (xs (8 * i + 2))).2 := by rw [← hw]; exact ⟨rfl, rfl⟩
  have hs := step_small (R9 := (mMeasure u (xs (8 * i + 1)) (xs (8 * i + 2)))) hR0 hx9 (measure_1 u (xs (8 * i + 1)) (xs (8 * i + 2))) (fun _ _ h => uI_measure h (xs (8 * i + 1)) (xs (8 * i + 2)))
  have hrl : ra_11 = ra_17 := hs.1.trans hrb.symm
  have hR : RR q h0 d k_7 z_8 f_9 u_16 := by rw [hub]; exact hs.2
  refine lv_pop hx hb dL_law_240 rfl ?_
  refine lv_goto (tgt := 1182) hx hb dL_law_241 (by decide) ?_
  exact kx _ _ _ _ _ _ _ ls hR hP hD hS (lv_sub hl [0, 1, 2, 3] rfl)
set_option maxHeartbeats 4000000 in
set_option maxRecDepth 100000 in
theorem law_c2 {p : Program} {l : Launch} {e : Env} {s : State} {m : MethodId} {below : List Frame} {meth : Method} {c : Code} {b L : Nat} {xs : Nat → Int32} {A : Nat → Prop} {dC : Nat → ClassId} {dI : Nat → Nat → Nat} {q : Nat → ClassId} {h0 mm : Nat} {d v : Nat → Nat} {cells slots i : Nat} (C0 : lw_At p s m meth c b L xs) (hAe : A = fun q => s.heap.size ≤ q) (hN : NN s) (hXN : XN s) (hK : va_K (dC, dI) vwCl (xT q) s) (hL : 8 * i + 8 ≤ L) (hL2 : L ≤ 4096) (hRc : cells + 976 ≤ room_1.cells) (hRs : slots + 4880 ≤ room_1.slots) (kx : ∀ (d : Nat → Nat) (k : Nat → Int32) (z : gS) (f : xF) (u : mS) (H : Heap) (locs : List Loc) (ls : Array Slot), RR q h0 d k z f u → va_P (dC, dI) vwCl (va_pl z.1 f ++ mW mm v (q 0) (q 1) u) H → va_D A (va_pl z.1 f ++ mW mm v (q 0) (q 1) u) → va_S A s.heap H locs → lv_has ls 4 [(3, .int (nI (8 * i))), (2, .ref mm), (1, .ref h0), (0, .ref b)] → W p l e room_1 s m #[Value.ref b] below meth c H locs (cells + 976) (slots + 4880) (lw_Z below #[Value.ref b] s) (F0 m 1182 ls [])) {k : Nat → Int32} {z : gS} {f : xF} {u : mS} {H : Heap} {locs : List Loc} {ls : Array Slot} (hR : RR q h0 d k z f u) (hP : va_P (dC, dI) vwCl (va_pl z.1 f ++ mW mm v (q 0) (q 1) u) H) (hD : va_D A (va_pl z.1 f ++ mW mm v (q 0) (q 1) u)) (hS : va_S A s.heap H locs) (hl : lv_has ls 4 [(3, .int (nI (8 * i))), (2, .ref mm), (1, .ref h0), (0, .ref b)]) : W p l e room_1 s m #[Value.ref b] below meth c H locs cells slots (lw_Z below #[Value.ref b] s) (F0 m 244 ls []) := by
  obtain ⟨hx, hb, hr, hml, hown, hts, hX, hbl, hlocks, hgv⟩ := id C0
  have hbA : ¬ A b := by rw [hAe]; exact Nat.not_le.mpr hbl
  have hA : ∀ q : Nat, s.heap.size ≤ q → A q := fun q h => by rw [hAe]; exact h
  have hts := fun w h => hts w (wsL_law_in w h)
  have hR0 := hR
  obtain ⟨hI, hrp, ⟨hk0, hk1, hk2, hk3⟩, hz, es9, cf9, g9, hu, hg, hL⟩ := id hR
  have hk1o := hk1
  refine lv_aload_n hx hb dL_law_244 rfl (lv_at hl 2 rfl) ?_
  refine lv_aload_n hx hb dL_law_245 rfl (lv_at hl 3 rfl) ?_
  refine lv_iload_n hx hb dL_law_246 rfl (lv_at hl 0 rfl) ?_
  refine lv_iconst (v := 1) hx hb dL_law_247 (by decide) ?_
  refine lv_iadd hx hb dL_law_248 ?_
  refine lv_topi (fun y_1 ey_1 => ?_)
  obtain rfl : y_1 = nI (8 * i + 1) := ey_1.trans (nI_k _ 1 rfl)
  refine va_sld hx hb hX hbl hbA hS (vp_in_nI (by omega) (by omega)) dL_law_249 ?_
  refine lv_topi (fun y_2 ey_2 => ?_)
  obtain rfl : y_2 = xs (8 * i + 1) := ey_2.trans (by rw [nI_clamp (by omega)])
  obtain ⟨kk_3, hk_4⟩ := pl_at hI.2.1.1.1 hI.2.2.2.1.1
  have hPc := vaP_l hP
  have hDc := vaD_l hD
  have hFc := fr_left hD hS hA
  refine va_calli (va_runV (As := [.int (xs (8 * i + 1))]) (rest := []) ⟨hx, hb, hml, hown, hts⟩ (y_story l dC dI q h0 d k z f hI (xs (8 * i + 1)) u hrp hk0 hk1 hk2 hk3 hz hu.2.2.2.2.1 H.size) (cwV 1 hts gL_law_X11_story rfl rfl rfl zh_X11_story_113 ⟨Nat.le_of_ble_eq_true rfl, Nat.le_of_ble_eq_true rfl⟩) ⟨gx_fb, va_recv hK hPc (ci := 10) (q0 := kk_3) rfl hk_4, fun U hU hW => ⟨rfl, by rw [hU], px_to hU hW hPc hK hN hXN, hDc.weaken (fun _ _ _ _ => trivial)⟩⟩ rfl rfl hl.1 rfl (lv_room (Nat.le_of_ble_eq_true rfl)) dL_law_250 ⟨by omega, by omega⟩) hS (fun q _ h => hFc q h) hFc (fun ra_9 w_8 t H1 locs ht hvm hw hB hz1 hk1 hS => ?_)
  obtain ⟨hP1, hD1⟩ := hB
  rw [ht] at hP1
  obtain ⟨hP, hD⟩ := jn hP hD hk1 hFc hP1 hD1
  generalize H1 = H at hP hS ⊢
  obtain ⟨k_5, z_6, f_7⟩ := w_8
  have hP : va_P (dC, dI) vwCl (va_pl z_6.1 f_7 ++ mW mm v (q 0) (q 1) u) H := hP
  have hD : va_D A (va_pl z_6.1 f_7 ++ mW mm v (q 0) (q 1) u) := hD
  refine W.widen (k := cells + 976) (n := slots + 4880) (by omega) (by omega) ?_
  have hx9 := hw
  refine lv_pop hx hb dL_law_253 rfl ?_
  refine lv_aload_n hx hb dL_law_254 rfl (lv_at hl 1 rfl) ?_
  refine lv_aload_n hx hb dL_law_255 rfl (lv_at hl 3 rfl) ?_
  refine lv_iload_n hx hb dL_law_256 rfl (lv_at hl 0 rfl) ?_
  refine lv_iconst (v := 1) hx hb dL_law_257 (by decide) ?_
  refine lv_iadd hx hb dL_law_258 ?_
  refine lv_topi (fun y_10 ey_10 => ?_)
  obtain rfl : y_10 = nI (8 * i + 1) := ey_10.trans (nI_k _ 1 rfl)
  refine va_sld hx hb hX hbl hbA hS (vp_in_nI (by omega) (by omega)) dL_law_259 ?_
  refine lv_topi (fun y_11 ey_11 => ?_)
  obtain rfl : y_11 = xs (8 * i + 1) := ey_11.trans (by rw [nI_clamp (by omega)])
  have hPc := vaP_r hP
  have hKc := hK.sub (tys' := [(q 0, .int), (q 1, .boolean)]) [0, 1] rfl
  have hDc := vaD_r hD
  have hFc := fr_part hD hS hA
  refine va_calli (va_runV (As := [.int (xs (8 * i + 1))]) (rest := []) ⟨hx, hb, hml, hown, hts⟩ (m_story l dC dI mm v (q 0) (q 1) u (xs (8 * i + 1)) hu.1.1 H.size) (cwV 1 hts gL_law_X12_story rfl rfl rfl zh_X12_story_114 ⟨Nat.le_of_ble_eq_true rfl, Nat.le_of_ble_eq_true rfl⟩) ⟨gw_fb, va_recv hKc hPc (ci := 11) (q0 := 0) rfl rfl, fun U hU hW => ⟨rfl, by rw [hU], pw_to hU hW hPc hKc hN, hDc.weaken (fun _ _ _ _ => trivial)⟩⟩ rfl rfl hl.1 rfl (lv_room (Nat.le_of_ble_eq_true rfl)) dL_law_260 ⟨by omega, by omega⟩) hS (fun q _ h => hFc q h) hFc (fun ra_13 u_12 t H1 locs ht hvm hw hB hz1 hk1 hS => ?_)
  obtain ⟨hP1, hD1⟩ := hB
  rw [ht] at hP1
  obtain ⟨hP, hD⟩ := jn (vaP_swap hP) (vaD_swap hD) hk1 hFc hP1 hD1
  generalize H1 = H at hP hS ⊢
  have hP := vaP_swap hP
  have hD := vaD_swap hD
  refine W.widen (k := cells + 976) (n := slots + 4880) (by omega) (by omega) ?_
  obtain ⟨hrb, hub⟩ : ra_13 = (mStory u (xs (8 * i + 1))).1 ∧ u_12 = (mStory u (xs (8 * i + 1))).2 := by rw [← hw]; exact ⟨rfl, rfl⟩
  have hs := step_mk (R9 := (mStory u (xs (8 * i + 1)))) hR0 hx9 (fun j hj => story_1 u (xs (8 * i + 1)) hj) (fun _ _ h => uI_story h (xs (8 * i + 1)))
  have hrl : ra_9 = ra_13 := hs.1.trans hrb.symm
  obtain ⟨d9, hR9⟩ := hs.2
  have hR : RR q h0 d9 k_5 z_6 f_7 u_12 := by rw [hub]; exact hR9
  refine lv_pop hx hb dL_law_263 rfl ?_
  refine lv_goto (tgt := 1182) hx hb dL_law_264 (by decide) ?_
  exact kx _ _ _ _ _ _ _ ls hR hP hD hS (lv_sub hl [0, 1, 2, 3] rfl)
set_option maxHeartbeats 4000000 in
set_option maxRecDepth 100000 in
theorem law_c3 {p : Program} {l : Launch} {e : Env} {s : State} {m : MethodId} {below : List Frame} {meth : Method} {c : Code} {b L : Nat} {xs : Nat → Int32} {A : Nat → Prop} {dC : Nat → ClassId} {dI : Nat → Nat → Nat} {q : Nat → ClassId} {h0 mm : Nat} {d v : Nat → Nat} {cells slots i : Nat} (C0 : lw_At p s m meth c b L xs) (hAe : A = fun q => s.heap.size ≤ q) (hN : NN s) (hXN : XN s) (hK : va_K (dC, dI) vwCl (xT q) s) (hL : 8 * i + 8 ≤ L) (hL2 : L ≤ 4096) (hRc : cells + 976 ≤ room_1.cells) (hRs : slots + 4880 ≤ room_1.slots) (kx : ∀ (d : Nat → Nat) (k : Nat → Int32) (z : gS) (f : xF) (u : mS) (H : Heap) (locs : List Loc) (ls : Array Slot), RR q h0 d k z f u → va_P (dC, dI) vwCl (va_pl z.1 f ++ mW mm v (q 0) (q 1) u) H → va_D A (va_pl z.1 f ++ mW mm v (q 0) (q 1) u) → va_S A s.heap H locs → lv_has ls 4 [(3, .int (nI (8 * i))), (2, .ref mm), (1, .ref h0), (0, .ref b)] → W p l e room_1 s m #[Value.ref b] below meth c H locs (cells + 976) (slots + 4880) (lw_Z below #[Value.ref b] s) (F0 m 1182 ls [])) {k : Nat → Int32} {z : gS} {f : xF} {u : mS} {H : Heap} {locs : List Loc} {ls : Array Slot} (hR : RR q h0 d k z f u) (hP : va_P (dC, dI) vwCl (va_pl z.1 f ++ mW mm v (q 0) (q 1) u) H) (hD : va_D A (va_pl z.1 f ++ mW mm v (q 0) (q 1) u)) (hS : va_S A s.heap H locs) (hl : lv_has ls 4 [(3, .int (nI (8 * i))), (2, .ref mm), (1, .ref h0), (0, .ref b)]) : W p l e room_1 s m #[Value.ref b] below meth c H locs cells slots (lw_Z below #[Value.ref b] s) (F0 m 267 ls []) := by
  obtain ⟨hx, hb, hr, hml, hown, hts, hX, hbl, hlocks, hgv⟩ := id C0
  have hbA : ¬ A b := by rw [hAe]; exact Nat.not_le.mpr hbl
  have hA : ∀ q : Nat, s.heap.size ≤ q → A q := fun q h => by rw [hAe]; exact h
  have hts := fun w h => hts w (wsL_law_in w h)
  have hR0 := hR
  obtain ⟨hI, hrp, ⟨hk0, hk1, hk2, hk3⟩, hz, es9, cf9, g9, hu, hg, hL⟩ := id hR
  have hk1o := hk1
  refine lv_aload_n hx hb dL_law_267 rfl (lv_at hl 2 rfl) ?_
  refine lv_aload_n hx hb dL_law_268 rfl (lv_at hl 3 rfl) ?_
  refine lv_iload_n hx hb dL_law_269 rfl (lv_at hl 0 rfl) ?_
  refine lv_iconst (v := 1) hx hb dL_law_270 (by decide) ?_
  refine lv_iadd hx hb dL_law_271 ?_
  refine lv_topi (fun y_1 ey_1 => ?_)
  obtain rfl : y_1 = nI (8 * i + 1) := ey_1.trans (nI_k _ 1 rfl)
  refine va_sld hx hb hX hbl hbA hS (vp_in_nI (by omega) (by omega)) dL_law_272 ?_
  refine lv_topi (fun y_2 ey_2 => ?_)
  obtain rfl : y_2 = xs (8 * i + 1) := ey_2.trans (by rw [nI_clamp (by omega)])
  refine lv_aload_n hx hb dL_law_273 rfl (lv_at hl 3 rfl) ?_
  refine lv_iload_n hx hb dL_law_274 rfl (lv_at hl 0 rfl) ?_
  refine lv_iconst (v := 2) hx hb dL_law_275 (by decide) ?_
  refine lv_iadd hx hb dL_law_276 ?_
  refine lv_topi (fun y_3 ey_3 => ?_)
  obtain rfl : y_3 = nI (8 * i + 2) := ey_3.trans (nI_k _ 2 rfl)
  refine va_sld hx hb hX hbl hbA hS (vp_in_nI (by omega) (by omega)) dL_law_277 ?_
  refine lv_topi (fun y_4 ey_4 => ?_)
  obtain rfl : y_4 = xs (8 * i + 2) := ey_4.trans (by rw [nI_clamp (by omega)])
  obtain ⟨kk_5, hk_6⟩ := pl_at hI.2.1.1.1 hI.2.2.2.1.1
  have hPc := vaP_l hP
  have hDc := vaD_l hD
  have hFc := fr_left hD hS hA
  refine va_calli (va_runV (As := [.int (xs (8 * i + 1)), .int (xs (8 * i + 2))]) (rest := []) ⟨hx, hb, hml, hown, hts⟩ (v_line l dC dI q h0 d k z f hI (xs (8 * i + 1)) (xs (8 * i + 2)) u hrp hk0 hk1 hk2 hk3 hu.1 H.size) (cwV 2 hts gL_law_X11_line rfl rfl rfl zh_X11_line_115 ⟨Nat.le_of_ble_eq_true rfl, Nat.le_of_ble_eq_true rfl⟩) ⟨gx_fb, va_recv hK hPc (ci := 10) (q0 := kk_5) rfl hk_6, fun U hU hW => ⟨rfl, by rw [hU], px_to hU hW hPc hK hN hXN, hDc.weaken (fun _ _ _ _ => trivial)⟩⟩ rfl rfl hl.1 rfl (lv_room (Nat.le_of_ble_eq_true rfl)) dL_law_278 ⟨by omega, by omega⟩) hS (fun q _ h => hFc q h) hFc (fun ra_11 w_10 t H1 locs ht hvm hw hB hz1 hk1 hS => ?_)
  obtain ⟨hP1, hD1⟩ := hB
  rw [ht] at hP1
  obtain ⟨hP, hD⟩ := jn hP hD hk1 hFc hP1 hD1
  generalize H1 = H at hP hS ⊢
  obtain ⟨k_7, z_8, f_9⟩ := w_10
  have hP : va_P (dC, dI) vwCl (va_pl z_8.1 f_9 ++ mW mm v (q 0) (q 1) u) H := hP
  have hD : va_D A (va_pl z_8.1 f_9 ++ mW mm v (q 0) (q 1) u) := hD
  refine W.widen (k := cells + 976) (n := slots + 4880) (by omega) (by omega) ?_
  have hx9 := hw
  refine lv_pop hx hb dL_law_281 rfl ?_
  refine lv_aload_n hx hb dL_law_282 rfl (lv_at hl 1 rfl) ?_
  refine lv_aload_n hx hb dL_law_283 rfl (lv_at hl 3 rfl) ?_
  refine lv_iload_n hx hb dL_law_284 rfl (lv_at hl 0 rfl) ?_
  refine lv_iconst (v := 1) hx hb dL_law_285 (by decide) ?_
  refine lv_iadd hx hb dL_law_286 ?_
  refine lv_topi (fun y_12 ey_12 => ?_)
  obtain rfl : y_12 = nI (8 * i + 1) := ey_12.trans (nI_k _ 1 rfl)
  refine va_sld hx hb hX hbl hbA hS (vp_in_nI (by omega) (by omega)) dL_law_287 ?_
  refine lv_topi (fun y_13 ey_13 => ?_)
  obtain rfl : y_13 = xs (8 * i + 1) := ey_13.trans (by rw [nI_clamp (by omega)])
  refine lv_aload_n hx hb dL_law_288 rfl (lv_at hl 3 rfl) ?_
  refine lv_iload_n hx hb dL_law_289 rfl (lv_at hl 0 rfl) ?_
  refine lv_iconst (v := 2) hx hb dL_law_290 (by decide) ?_
  refine lv_iadd hx hb dL_law_291 ?_
  refine lv_topi (fun y_14 ey_14 => ?_)
  obtain rfl : y_14 = nI (8 * i + 2) := ey_14.trans (nI_k _ 2 rfl)
  refine va_sld hx hb hX hbl hbA hS (vp_in_nI (by omega) (by omega)) dL_law_292 ?_
  refine lv_topi (fun y_15 ey_15 => ?_)
  obtain rfl : y_15 = xs (8 * i + 2) := ey_15.trans (by rw [nI_clamp (by omega)])
  have hPc := vaP_r hP
  have hKc := hK.sub (tys' := [(q 0, .int), (q 1, .boolean)]) [0, 1] rfl
  have hDc := vaD_r hD
  have hFc := fr_part hD hS hA
  refine va_calli (va_runV (As := [.int (xs (8 * i + 1)), .int (xs (8 * i + 2))]) (rest := []) ⟨hx, hb, hml, hown, hts⟩ (m_line l dC dI mm v (q 0) (q 1) u (xs (8 * i + 1)) (xs (8 * i + 2)) hu.1.1 hu.1.2.2.2.2.1 H.size) (cwV 2 hts gL_law_X12_line rfl rfl rfl zh_X12_line_116 ⟨Nat.le_of_ble_eq_true rfl, Nat.le_of_ble_eq_true rfl⟩) ⟨gw_fb, va_recv hKc hPc (ci := 11) (q0 := 0) rfl rfl, fun U hU hW => ⟨rfl, by rw [hU], pw_to hU hW hPc hKc hN, hDc.weaken (fun _ _ _ _ => trivial)⟩⟩ rfl rfl hl.1 rfl (lv_room (Nat.le_of_ble_eq_true rfl)) dL_law_293 ⟨by omega, by omega⟩) hS (fun q _ h => hFc q h) hFc (fun ra_17 u_16 t H1 locs ht hvm hw hB hz1 hk1 hS => ?_)
  obtain ⟨hP1, hD1⟩ := hB
  rw [ht] at hP1
  obtain ⟨hP, hD⟩ := jn (vaP_swap hP) (vaD_swap hD) hk1 hFc hP1 hD1
  generalize H1 = H at hP hS ⊢
  have hP := vaP_swap hP
  have hD := vaD_swap hD
  refine W.widen (k := cells + 976) (n := slots + 4880) (by omega) (by omega) ?_
  obtain ⟨hrb, hub⟩ : ra_17 = (mLine u (xs (8 * i + 1)) (xs (8 * i + 2))).1 ∧ u_16 = (mLine u (xs (8 * i + 1)) (xs (8 * i + 2))).2 := by rw [← hw]; exact ⟨rfl, rfl⟩
  have hs := step_small (R9 := (mLine u (xs (8 * i + 1)) (xs (8 * i + 2)))) hR0 hx9 (line_1 u (xs (8 * i + 1)) (xs (8 * i + 2))) (fun _ _ h => uI_line h (xs (8 * i + 1)) (xs (8 * i + 2)))
  have hrl : ra_11 = ra_17 := hs.1.trans hrb.symm
  have hR : RR q h0 d k_7 z_8 f_9 u_16 := by rw [hub]; exact hs.2
  refine lv_pop hx hb dL_law_296 rfl ?_
  refine lv_goto (tgt := 1182) hx hb dL_law_297 (by decide) ?_
  exact kx _ _ _ _ _ _ _ ls hR hP hD hS (lv_sub hl [0, 1, 2, 3] rfl)
set_option maxHeartbeats 4000000 in
set_option maxRecDepth 100000 in
theorem law_c4 {p : Program} {l : Launch} {e : Env} {s : State} {m : MethodId} {below : List Frame} {meth : Method} {c : Code} {b L : Nat} {xs : Nat → Int32} {A : Nat → Prop} {dC : Nat → ClassId} {dI : Nat → Nat → Nat} {q : Nat → ClassId} {h0 mm : Nat} {d v : Nat → Nat} {cells slots i : Nat} (C0 : lw_At p s m meth c b L xs) (hAe : A = fun q => s.heap.size ≤ q) (hN : NN s) (hXN : XN s) (hK : va_K (dC, dI) vwCl (xT q) s) (hL : 8 * i + 8 ≤ L) (hL2 : L ≤ 4096) (hRc : cells + 976 ≤ room_1.cells) (hRs : slots + 4880 ≤ room_1.slots) (kx : ∀ (d : Nat → Nat) (k : Nat → Int32) (z : gS) (f : xF) (u : mS) (H : Heap) (locs : List Loc) (ls : Array Slot), RR q h0 d k z f u → va_P (dC, dI) vwCl (va_pl z.1 f ++ mW mm v (q 0) (q 1) u) H → va_D A (va_pl z.1 f ++ mW mm v (q 0) (q 1) u) → va_S A s.heap H locs → lv_has ls 4 [(3, .int (nI (8 * i))), (2, .ref mm), (1, .ref h0), (0, .ref b)] → W p l e room_1 s m #[Value.ref b] below meth c H locs (cells + 976) (slots + 4880) (lw_Z below #[Value.ref b] s) (F0 m 1182 ls [])) {k : Nat → Int32} {z : gS} {f : xF} {u : mS} {H : Heap} {locs : List Loc} {ls : Array Slot} (hR : RR q h0 d k z f u) (hP : va_P (dC, dI) vwCl (va_pl z.1 f ++ mW mm v (q 0) (q 1) u) H) (hD : va_D A (va_pl z.1 f ++ mW mm v (q 0) (q 1) u)) (hS : va_S A s.heap H locs) (hl : lv_has ls 4 [(3, .int (nI (8 * i))), (2, .ref mm), (1, .ref h0), (0, .ref b)]) : W p l e room_1 s m #[Value.ref b] below meth c H locs cells slots (lw_Z below #[Value.ref b] s) (F0 m 300 ls []) := by
  obtain ⟨hx, hb, hr, hml, hown, hts, hX, hbl, hlocks, hgv⟩ := id C0
  have hbA : ¬ A b := by rw [hAe]; exact Nat.not_le.mpr hbl
  have hA : ∀ q : Nat, s.heap.size ≤ q → A q := fun q h => by rw [hAe]; exact h
  have hts := fun w h => hts w (wsL_law_in w h)
  have hR0 := hR
  obtain ⟨hI, hrp, ⟨hk0, hk1, hk2, hk3⟩, hz, es9, cf9, g9, hu, hg, hL⟩ := id hR
  have hk1o := hk1
  refine lv_aload_n hx hb dL_law_300 rfl (lv_at hl 2 rfl) ?_
  refine lv_aload_n hx hb dL_law_301 rfl (lv_at hl 3 rfl) ?_
  refine lv_iload_n hx hb dL_law_302 rfl (lv_at hl 0 rfl) ?_
  refine lv_iconst (v := 1) hx hb dL_law_303 (by decide) ?_
  refine lv_iadd hx hb dL_law_304 ?_
  refine lv_topi (fun y_1 ey_1 => ?_)
  obtain rfl : y_1 = nI (8 * i + 1) := ey_1.trans (nI_k _ 1 rfl)
  refine va_sld hx hb hX hbl hbA hS (vp_in_nI (by omega) (by omega)) dL_law_305 ?_
  refine lv_topi (fun y_2 ey_2 => ?_)
  obtain rfl : y_2 = xs (8 * i + 1) := ey_2.trans (by rw [nI_clamp (by omega)])
  refine lv_aload_n hx hb dL_law_306 rfl (lv_at hl 3 rfl) ?_
  refine lv_iload_n hx hb dL_law_307 rfl (lv_at hl 0 rfl) ?_
  refine lv_iconst (v := 2) hx hb dL_law_308 (by decide) ?_
  refine lv_iadd hx hb dL_law_309 ?_
  refine lv_topi (fun y_3 ey_3 => ?_)
  obtain rfl : y_3 = nI (8 * i + 2) := ey_3.trans (nI_k _ 2 rfl)
  refine va_sld hx hb hX hbl hbA hS (vp_in_nI (by omega) (by omega)) dL_law_310 ?_
  refine lv_topi (fun y_4 ey_4 => ?_)
  obtain rfl : y_4 = xs (8 * i + 2) := ey_4.trans (by rw [nI_clamp (by omega)])
  refine lv_aload_n hx hb dL_law_311 rfl (lv_at hl 3 rfl) ?_
  refine lv_iload_n hx hb dL_law_312 rfl (lv_at hl 0 rfl) ?_
  refine lv_iconst (v := 3) hx hb dL_law_313 (by decide) ?_
  refine lv_iadd hx hb dL_law_314 ?_
  refine lv_topi (fun y_5 ey_5 => ?_)
  obtain rfl : y_5 = nI (8 * i + 3) := ey_5.trans (nI_k _ 3 rfl)
  refine va_sld hx hb hX hbl hbA hS (vp_in_nI (by omega) (by omega)) dL_law_315 ?_
  refine lv_topi (fun y_6 ey_6 => ?_)
  obtain rfl : y_6 = xs (8 * i + 3) := ey_6.trans (by rw [nI_clamp (by omega)])
  obtain ⟨kk_7, hk_8⟩ := pl_at hI.2.1.1.1 hI.2.2.2.1.1
  have hPc := vaP_l hP
  have hDc := vaD_l hD
  have hFc := fr_left hD hS hA
  refine va_calli (va_runV (As := [.int (xs (8 * i + 1)), .int (xs (8 * i + 2)), .int (xs (8 * i + 3))]) (rest := []) ⟨hx, hb, hml, hown, hts⟩ (y_head l dC dI q h0 d k z f hI (xs (8 * i + 1)) (xs (8 * i + 2)) (xs (8 * i + 3)) u hrp hk0 hk1 hk2 hk3 hz hu.2.2.2.2.1 H.size) (cwV 3 hts gL_law_X11_head rfl rfl rfl zh_X11_head_117 ⟨Nat.le_of_ble_eq_true rfl, Nat.le_of_ble_eq_true rfl⟩) ⟨gx_fb, va_recv hK hPc (ci := 10) (q0 := kk_7) rfl hk_8, fun U hU hW => ⟨rfl, by rw [hU], px_to hU hW hPc hK hN hXN, hDc.weaken (fun _ _ _ _ => trivial)⟩⟩ rfl rfl hl.1 rfl (lv_room (Nat.le_of_ble_eq_true rfl)) dL_law_316 ⟨by omega, by omega⟩) hS (fun q _ h => hFc q h) hFc (fun ra_13 w_12 t H1 locs ht hvm hw hB hz1 hk1 hS => ?_)
  obtain ⟨hP1, hD1⟩ := hB
  rw [ht] at hP1
  obtain ⟨hP, hD⟩ := jn hP hD hk1 hFc hP1 hD1
  generalize H1 = H at hP hS ⊢
  obtain ⟨k_9, z_10, f_11⟩ := w_12
  have hP : va_P (dC, dI) vwCl (va_pl z_10.1 f_11 ++ mW mm v (q 0) (q 1) u) H := hP
  have hD : va_D A (va_pl z_10.1 f_11 ++ mW mm v (q 0) (q 1) u) := hD
  refine W.widen (k := cells + 976) (n := slots + 4880) (by omega) (by omega) ?_
  have hx9 := hw
  refine lv_pop hx hb dL_law_319 rfl ?_
  refine lv_aload_n hx hb dL_law_320 rfl (lv_at hl 1 rfl) ?_
  refine lv_aload_n hx hb dL_law_321 rfl (lv_at hl 3 rfl) ?_
  refine lv_iload_n hx hb dL_law_322 rfl (lv_at hl 0 rfl) ?_
  refine lv_iconst (v := 1) hx hb dL_law_323 (by decide) ?_
  refine lv_iadd hx hb dL_law_324 ?_
  refine lv_topi (fun y_14 ey_14 => ?_)
  obtain rfl : y_14 = nI (8 * i + 1) := ey_14.trans (nI_k _ 1 rfl)
  refine va_sld hx hb hX hbl hbA hS (vp_in_nI (by omega) (by omega)) dL_law_325 ?_
  refine lv_topi (fun y_15 ey_15 => ?_)
  obtain rfl : y_15 = xs (8 * i + 1) := ey_15.trans (by rw [nI_clamp (by omega)])
  refine lv_aload_n hx hb dL_law_326 rfl (lv_at hl 3 rfl) ?_
  refine lv_iload_n hx hb dL_law_327 rfl (lv_at hl 0 rfl) ?_
  refine lv_iconst (v := 2) hx hb dL_law_328 (by decide) ?_
  refine lv_iadd hx hb dL_law_329 ?_
  refine lv_topi (fun y_16 ey_16 => ?_)
  obtain rfl : y_16 = nI (8 * i + 2) := ey_16.trans (nI_k _ 2 rfl)
  refine va_sld hx hb hX hbl hbA hS (vp_in_nI (by omega) (by omega)) dL_law_330 ?_
  refine lv_topi (fun y_17 ey_17 => ?_)
  obtain rfl : y_17 = xs (8 * i + 2) := ey_17.trans (by rw [nI_clamp (by omega)])
  refine lv_aload_n hx hb dL_law_331 rfl (lv_at hl 3 rfl) ?_
  refine lv_iload_n hx hb dL_law_332 rfl (lv_at hl 0 rfl) ?_
  refine lv_iconst (v := 3) hx hb dL_law_333 (by decide) ?_
  refine lv_iadd hx hb dL_law_334 ?_
  refine lv_topi (fun y_18 ey_18 => ?_)
  obtain rfl : y_18 = nI (8 * i + 3) := ey_18.trans (nI_k _ 3 rfl)
  refine va_sld hx hb hX hbl hbA hS (vp_in_nI (by omega) (by omega)) dL_law_335 ?_
  refine lv_topi (fun y_19 ey_19 => ?_)
  obtain rfl : y_19 = xs (8 * i + 3) := ey_19.trans (by rw [nI_clamp (by omega)])
  have hPc := vaP_r hP
  have hKc := hK.sub (tys' := [(q 0, .int), (q 1, .boolean)]) [0, 1] rfl
  have hDc := vaD_r hD
  have hFc := fr_part hD hS hA
  refine va_calli (va_runV (As := [.int (xs (8 * i + 1)), .int (xs (8 * i + 2)), .int (xs (8 * i + 3))]) (rest := []) ⟨hx, hb, hml, hown, hts⟩ (m_head l dC dI mm v (q 0) (q 1) u (xs (8 * i + 1)) (xs (8 * i + 2)) (xs (8 * i + 3)) hu.1.1 H.size) (cwV 3 hts gL_law_X12_head rfl rfl rfl zh_X12_head_118 ⟨Nat.le_of_ble_eq_true rfl, Nat.le_of_ble_eq_true rfl⟩) ⟨gw_fb, va_recv hKc hPc (ci := 11) (q0 := 0) rfl rfl, fun U hU hW => ⟨rfl, by rw [hU], pw_to hU hW hPc hKc hN, hDc.weaken (fun _ _ _ _ => trivial)⟩⟩ rfl rfl hl.1 rfl (lv_room (Nat.le_of_ble_eq_true rfl)) dL_law_336 ⟨by omega, by omega⟩) hS (fun q _ h => hFc q h) hFc (fun ra_21 u_20 t H1 locs ht hvm hw hB hz1 hk1 hS => ?_)
  obtain ⟨hP1, hD1⟩ := hB
  rw [ht] at hP1
  obtain ⟨hP, hD⟩ := jn (vaP_swap hP) (vaD_swap hD) hk1 hFc hP1 hD1
  generalize H1 = H at hP hS ⊢
  have hP := vaP_swap hP
  have hD := vaD_swap hD
  refine W.widen (k := cells + 976) (n := slots + 4880) (by omega) (by omega) ?_
  obtain ⟨hrb, hub⟩ : ra_21 = (mHead u (xs (8 * i + 1)) (xs (8 * i + 2)) (xs (8 * i + 3))).1 ∧ u_20 = (mHead u (xs (8 * i + 1)) (xs (8 * i + 2)) (xs (8 * i + 3))).2 := by rw [← hw]; exact ⟨rfl, rfl⟩
  have hs := step_mk (R9 := (mHead u (xs (8 * i + 1)) (xs (8 * i + 2)) (xs (8 * i + 3)))) hR0 hx9 (fun j hj => head_1 u (xs (8 * i + 1)) (xs (8 * i + 2)) (xs (8 * i + 3)) hj) (fun _ _ h => uI_head h (xs (8 * i + 1)) (xs (8 * i + 2)) (xs (8 * i + 3)))
  have hrl : ra_13 = ra_21 := hs.1.trans hrb.symm
  obtain ⟨d9, hR9⟩ := hs.2
  have hR : RR q h0 d9 k_9 z_10 f_11 u_20 := by rw [hub]; exact hR9
  refine lv_pop hx hb dL_law_339 rfl ?_
  refine lv_goto (tgt := 1182) hx hb dL_law_340 (by decide) ?_
  exact kx _ _ _ _ _ _ _ ls hR hP hD hS (lv_sub hl [0, 1, 2, 3] rfl)
set_option maxHeartbeats 4000000 in
set_option maxRecDepth 100000 in
theorem law_c5 {p : Program} {l : Launch} {e : Env} {s : State} {m : MethodId} {below : List Frame} {meth : Method} {c : Code} {b L : Nat} {xs : Nat → Int32} {A : Nat → Prop} {dC : Nat → ClassId} {dI : Nat → Nat → Nat} {q : Nat → ClassId} {h0 mm : Nat} {d v : Nat → Nat} {cells slots i : Nat} (C0 : lw_At p s m meth c b L xs) (hAe : A = fun q => s.heap.size ≤ q) (hN : NN s) (hXN : XN s) (hK : va_K (dC, dI) vwCl (xT q) s) (hL : 8 * i + 8 ≤ L) (hL2 : L ≤ 4096) (hRc : cells + 976 ≤ room_1.cells) (hRs : slots + 4880 ≤ room_1.slots) (kx : ∀ (d : Nat → Nat) (k : Nat → Int32) (z : gS) (f : xF) (u : mS) (H : Heap) (locs : List Loc) (ls : Array Slot), RR q h0 d k z f u → va_P (dC, dI) vwCl (va_pl z.1 f ++ mW mm v (q 0) (q 1) u) H → va_D A (va_pl z.1 f ++ mW mm v (q 0) (q 1) u) → va_S A s.heap H locs → lv_has ls 4 [(3, .int (nI (8 * i))), (2, .ref mm), (1, .ref h0), (0, .ref b)] → W p l e room_1 s m #[Value.ref b] below meth c H locs (cells + 976) (slots + 4880) (lw_Z below #[Value.ref b] s) (F0 m 1182 ls [])) {k : Nat → Int32} {z : gS} {f : xF} {u : mS} {H : Heap} {locs : List Loc} {ls : Array Slot} (hR : RR q h0 d k z f u) (hP : va_P (dC, dI) vwCl (va_pl z.1 f ++ mW mm v (q 0) (q 1) u) H) (hD : va_D A (va_pl z.1 f ++ mW mm v (q 0) (q 1) u)) (hS : va_S A s.heap H locs) (hl : lv_has ls 4 [(3, .int (nI (8 * i))), (2, .ref mm), (1, .ref h0), (0, .ref b)]) : W p l e room_1 s m #[Value.ref b] below meth c H locs cells slots (lw_Z below #[Value.ref b] s) (F0 m 343 ls []) := by
  obtain ⟨hx, hb, hr, hml, hown, hts, hX, hbl, hlocks, hgv⟩ := id C0
  have hbA : ¬ A b := by rw [hAe]; exact Nat.not_le.mpr hbl
  have hA : ∀ q : Nat, s.heap.size ≤ q → A q := fun q h => by rw [hAe]; exact h
  have hts := fun w h => hts w (wsL_law_in w h)
  have hR0 := hR
  obtain ⟨hI, hrp, ⟨hk0, hk1, hk2, hk3⟩, hz, es9, cf9, g9, hu, hg, hL⟩ := id hR
  have hk1o := hk1
  refine lv_aload_n hx hb dL_law_343 rfl (lv_at hl 2 rfl) ?_
  obtain ⟨kk_1, hk_2⟩ := pl_at hI.2.1.1.1 hI.2.2.2.1.1
  have hPc := vaP_l hP
  have hDc := vaD_l hD
  have hFc := fr_left hD hS hA
  refine va_calli (va_runV (As := []) (rest := []) ⟨hx, hb, hml, hown, hts⟩ (y_picture l dC dI q h0 d k z f hI  u hrp hk0 hk1 hk2 hk3 hz hu.2.2.2.2.1 H.size) (cwV 0 hts gL_law_X11_picture rfl rfl rfl zh_X11_picture_119 ⟨Nat.le_of_ble_eq_true rfl, Nat.le_of_ble_eq_true rfl⟩) ⟨gx_fb, va_recv hK hPc (ci := 10) (q0 := kk_1) rfl hk_2, fun U hU hW => ⟨rfl, by rw [hU], px_to hU hW hPc hK hN hXN, hDc.weaken (fun _ _ _ _ => trivial)⟩⟩ rfl rfl hl.1 rfl (lv_room (Nat.le_of_ble_eq_true rfl)) dL_law_344 ⟨by omega, by omega⟩) hS (fun q _ h => hFc q h) hFc (fun ra_7 w_6 t H1 locs ht hvm hw hB hz1 hk1 hS => ?_)
  obtain ⟨hP1, hD1⟩ := hB
  rw [ht] at hP1
  obtain ⟨hP, hD⟩ := jn hP hD hk1 hFc hP1 hD1
  generalize H1 = H at hP hS ⊢
  obtain ⟨k_3, z_4, f_5⟩ := w_6
  have hP : va_P (dC, dI) vwCl (va_pl z_4.1 f_5 ++ mW mm v (q 0) (q 1) u) H := hP
  have hD : va_D A (va_pl z_4.1 f_5 ++ mW mm v (q 0) (q 1) u) := hD
  refine W.widen (k := cells + 976) (n := slots + 4880) (by omega) (by omega) ?_
  have hx9 := hw
  refine lv_pop hx hb dL_law_347 rfl ?_
  refine lv_aload_n hx hb dL_law_348 rfl (lv_at hl 1 rfl) ?_
  have hPc := vaP_r hP
  have hKc := hK.sub (tys' := [(q 0, .int), (q 1, .boolean)]) [0, 1] rfl
  have hDc := vaD_r hD
  have hFc := fr_part hD hS hA
  refine va_calli (va_runV (As := []) (rest := []) ⟨hx, hb, hml, hown, hts⟩ (m_picture l dC dI mm v (q 0) (q 1) u  hu.1.1 H.size) (cwV 0 hts gL_law_X12_picture rfl rfl rfl zh_X12_picture_120 ⟨Nat.le_of_ble_eq_true rfl, Nat.le_of_ble_eq_true rfl⟩) ⟨gw_fb, va_recv hKc hPc (ci := 11) (q0 := 0) rfl rfl, fun U hU hW => ⟨rfl, by rw [hU], pw_to hU hW hPc hKc hN, hDc.weaken (fun _ _ _ _ => trivial)⟩⟩ rfl rfl hl.1 rfl (lv_room (Nat.le_of_ble_eq_true rfl)) dL_law_349 ⟨by omega, by omega⟩) hS (fun q _ h => hFc q h) hFc (fun ra_9 u_8 t H1 locs ht hvm hw hB hz1 hk1 hS => ?_)
  obtain ⟨hP1, hD1⟩ := hB
  rw [ht] at hP1
  obtain ⟨hP, hD⟩ := jn (vaP_swap hP) (vaD_swap hD) hk1 hFc hP1 hD1
  generalize H1 = H at hP hS ⊢
  have hP := vaP_swap hP
  have hD := vaD_swap hD
  refine W.widen (k := cells + 976) (n := slots + 4880) (by omega) (by omega) ?_
  obtain ⟨hrb, hub⟩ : ra_9 = (mPicture u ).1 ∧ u_8 = (mPicture u ).2 := by rw [← hw]; exact ⟨rfl, rfl⟩
  have hs := step_mk (R9 := (mPicture u )) hR0 hx9 (fun j hj => picture_1 u  hj) (fun _ _ h => uI_picture h )
  have hrl : ra_7 = ra_9 := hs.1.trans hrb.symm
  obtain ⟨d9, hR9⟩ := hs.2
  have hR : RR q h0 d9 k_3 z_4 f_5 u_8 := by rw [hub]; exact hR9
  refine lv_pop hx hb dL_law_352 rfl ?_
  refine lv_goto (tgt := 1182) hx hb dL_law_353 (by decide) ?_
  exact kx _ _ _ _ _ _ _ ls hR hP hD hS (lv_sub hl [0, 1, 2, 3] rfl)
set_option maxHeartbeats 4000000 in
set_option maxRecDepth 100000 in
theorem law_c6 {p : Program} {l : Launch} {e : Env} {s : State} {m : MethodId} {below : List Frame} {meth : Method} {c : Code} {b L : Nat} {xs : Nat → Int32} {A : Nat → Prop} {dC : Nat → ClassId} {dI : Nat → Nat → Nat} {q : Nat → ClassId} {h0 mm : Nat} {d v : Nat → Nat} {cells slots i : Nat} (C0 : lw_At p s m meth c b L xs) (hAe : A = fun q => s.heap.size ≤ q) (hN : NN s) (hXN : XN s) (hK : va_K (dC, dI) vwCl (xT q) s) (hL : 8 * i + 8 ≤ L) (hL2 : L ≤ 4096) (hRc : cells + 976 ≤ room_1.cells) (hRs : slots + 4880 ≤ room_1.slots) (kx : ∀ (d : Nat → Nat) (k : Nat → Int32) (z : gS) (f : xF) (u : mS) (H : Heap) (locs : List Loc) (ls : Array Slot), RR q h0 d k z f u → va_P (dC, dI) vwCl (va_pl z.1 f ++ mW mm v (q 0) (q 1) u) H → va_D A (va_pl z.1 f ++ mW mm v (q 0) (q 1) u) → va_S A s.heap H locs → lv_has ls 4 [(3, .int (nI (8 * i))), (2, .ref mm), (1, .ref h0), (0, .ref b)] → W p l e room_1 s m #[Value.ref b] below meth c H locs (cells + 976) (slots + 4880) (lw_Z below #[Value.ref b] s) (F0 m 1182 ls [])) {k : Nat → Int32} {z : gS} {f : xF} {u : mS} {H : Heap} {locs : List Loc} {ls : Array Slot} (hR : RR q h0 d k z f u) (hP : va_P (dC, dI) vwCl (va_pl z.1 f ++ mW mm v (q 0) (q 1) u) H) (hD : va_D A (va_pl z.1 f ++ mW mm v (q 0) (q 1) u)) (hS : va_S A s.heap H locs) (hl : lv_has ls 4 [(3, .int (nI (8 * i))), (2, .ref mm), (1, .ref h0), (0, .ref b)]) : W p l e room_1 s m #[Value.ref b] below meth c H locs cells slots (lw_Z below #[Value.ref b] s) (F0 m 356 ls []) := by
  obtain ⟨hx, hb, hr, hml, hown, hts, hX, hbl, hlocks, hgv⟩ := id C0
  have hbA : ¬ A b := by rw [hAe]; exact Nat.not_le.mpr hbl
  have hA : ∀ q : Nat, s.heap.size ≤ q → A q := fun q h => by rw [hAe]; exact h
  have hts := fun w h => hts w (wsL_law_in w h)
  have hR0 := hR
  obtain ⟨hI, hrp, ⟨hk0, hk1, hk2, hk3⟩, hz, es9, cf9, g9, hu, hg, hL⟩ := id hR
  have hk1o := hk1
  refine lv_aload_n hx hb dL_law_356 rfl (lv_at hl 2 rfl) ?_
  refine lv_aload_n hx hb dL_law_357 rfl (lv_at hl 3 rfl) ?_
  refine lv_iload_n hx hb dL_law_358 rfl (lv_at hl 0 rfl) ?_
  refine lv_iconst (v := 1) hx hb dL_law_359 (by decide) ?_
  refine lv_iadd hx hb dL_law_360 ?_
  refine lv_topi (fun y_1 ey_1 => ?_)
  obtain rfl : y_1 = nI (8 * i + 1) := ey_1.trans (nI_k _ 1 rfl)
  refine va_sld hx hb hX hbl hbA hS (vp_in_nI (by omega) (by omega)) dL_law_361 ?_
  refine lv_topi (fun y_2 ey_2 => ?_)
  obtain rfl : y_2 = xs (8 * i + 1) := ey_2.trans (by rw [nI_clamp (by omega)])
  refine lv_aload_n hx hb dL_law_362 rfl (lv_at hl 3 rfl) ?_
  refine lv_iload_n hx hb dL_law_363 rfl (lv_at hl 0 rfl) ?_
  refine lv_iconst (v := 2) hx hb dL_law_364 (by decide) ?_
  refine lv_iadd hx hb dL_law_365 ?_
  refine lv_topi (fun y_3 ey_3 => ?_)
  obtain rfl : y_3 = nI (8 * i + 2) := ey_3.trans (nI_k _ 2 rfl)
  refine va_sld hx hb hX hbl hbA hS (vp_in_nI (by omega) (by omega)) dL_law_366 ?_
  refine lv_topi (fun y_4 ey_4 => ?_)
  obtain rfl : y_4 = xs (8 * i + 2) := ey_4.trans (by rw [nI_clamp (by omega)])
  refine lv_aload_n hx hb dL_law_367 rfl (lv_at hl 3 rfl) ?_
  refine lv_iload_n hx hb dL_law_368 rfl (lv_at hl 0 rfl) ?_
  refine lv_iconst (v := 3) hx hb dL_law_369 (by decide) ?_
  refine lv_iadd hx hb dL_law_370 ?_
  refine lv_topi (fun y_5 ey_5 => ?_)
  obtain rfl : y_5 = nI (8 * i + 3) := ey_5.trans (nI_k _ 3 rfl)
  refine va_sld hx hb hX hbl hbA hS (vp_in_nI (by omega) (by omega)) dL_law_371 ?_
  refine lv_topi (fun y_6 ey_6 => ?_)
  obtain rfl : y_6 = xs (8 * i + 3) := ey_6.trans (by rw [nI_clamp (by omega)])
  obtain ⟨kk_7, hk_8⟩ := pl_at hI.2.1.1.1 hI.2.2.2.1.1
  have hPc := vaP_l hP
  have hDc := vaD_l hD
  have hFc := fr_left hD hS hA
  refine va_calli (va_runV (As := [.int (xs (8 * i + 1)), .int (xs (8 * i + 2)), .int (xs (8 * i + 3))]) (rest := []) ⟨hx, hb, hml, hown, hts⟩ (v_size l dC dI q h0 d k z f hI (xs (8 * i + 1)) (xs (8 * i + 2)) (xs (8 * i + 3)) u hrp hk0 hk1 hk2 hk3 hu.1 H.size) (cwV 3 hts gL_law_X11_size rfl rfl rfl zh_X11_size_121 ⟨Nat.le_of_ble_eq_true rfl, Nat.le_of_ble_eq_true rfl⟩) ⟨gx_fb, va_recv hK hPc (ci := 10) (q0 := kk_7) rfl hk_8, fun U hU hW => ⟨rfl, by rw [hU], px_to hU hW hPc hK hN hXN, hDc.weaken (fun _ _ _ _ => trivial)⟩⟩ rfl rfl hl.1 rfl (lv_room (Nat.le_of_ble_eq_true rfl)) dL_law_372 ⟨by omega, by omega⟩) hS (fun q _ h => hFc q h) hFc (fun ra_13 w_12 t H1 locs ht hvm hw hB hz1 hk1 hS => ?_)
  obtain ⟨hP1, hD1⟩ := hB
  rw [ht] at hP1
  obtain ⟨hP, hD⟩ := jn hP hD hk1 hFc hP1 hD1
  generalize H1 = H at hP hS ⊢
  obtain ⟨k_9, z_10, f_11⟩ := w_12
  have hP : va_P (dC, dI) vwCl (va_pl z_10.1 f_11 ++ mW mm v (q 0) (q 1) u) H := hP
  have hD : va_D A (va_pl z_10.1 f_11 ++ mW mm v (q 0) (q 1) u) := hD
  refine W.widen (k := cells + 976) (n := slots + 4880) (by omega) (by omega) ?_
  have hx9 := hw
  refine lv_pop hx hb dL_law_375 rfl ?_
  refine lv_aload_n hx hb dL_law_376 rfl (lv_at hl 1 rfl) ?_
  refine lv_aload_n hx hb dL_law_377 rfl (lv_at hl 3 rfl) ?_
  refine lv_iload_n hx hb dL_law_378 rfl (lv_at hl 0 rfl) ?_
  refine lv_iconst (v := 1) hx hb dL_law_379 (by decide) ?_
  refine lv_iadd hx hb dL_law_380 ?_
  refine lv_topi (fun y_14 ey_14 => ?_)
  obtain rfl : y_14 = nI (8 * i + 1) := ey_14.trans (nI_k _ 1 rfl)
  refine va_sld hx hb hX hbl hbA hS (vp_in_nI (by omega) (by omega)) dL_law_381 ?_
  refine lv_topi (fun y_15 ey_15 => ?_)
  obtain rfl : y_15 = xs (8 * i + 1) := ey_15.trans (by rw [nI_clamp (by omega)])
  refine lv_aload_n hx hb dL_law_382 rfl (lv_at hl 3 rfl) ?_
  refine lv_iload_n hx hb dL_law_383 rfl (lv_at hl 0 rfl) ?_
  refine lv_iconst (v := 2) hx hb dL_law_384 (by decide) ?_
  refine lv_iadd hx hb dL_law_385 ?_
  refine lv_topi (fun y_16 ey_16 => ?_)
  obtain rfl : y_16 = nI (8 * i + 2) := ey_16.trans (nI_k _ 2 rfl)
  refine va_sld hx hb hX hbl hbA hS (vp_in_nI (by omega) (by omega)) dL_law_386 ?_
  refine lv_topi (fun y_17 ey_17 => ?_)
  obtain rfl : y_17 = xs (8 * i + 2) := ey_17.trans (by rw [nI_clamp (by omega)])
  refine lv_aload_n hx hb dL_law_387 rfl (lv_at hl 3 rfl) ?_
  refine lv_iload_n hx hb dL_law_388 rfl (lv_at hl 0 rfl) ?_
  refine lv_iconst (v := 3) hx hb dL_law_389 (by decide) ?_
  refine lv_iadd hx hb dL_law_390 ?_
  refine lv_topi (fun y_18 ey_18 => ?_)
  obtain rfl : y_18 = nI (8 * i + 3) := ey_18.trans (nI_k _ 3 rfl)
  refine va_sld hx hb hX hbl hbA hS (vp_in_nI (by omega) (by omega)) dL_law_391 ?_
  refine lv_topi (fun y_19 ey_19 => ?_)
  obtain rfl : y_19 = xs (8 * i + 3) := ey_19.trans (by rw [nI_clamp (by omega)])
  have hPc := vaP_r hP
  have hKc := hK.sub (tys' := [(q 0, .int), (q 1, .boolean)]) [0, 1] rfl
  have hDc := vaD_r hD
  have hFc := fr_part hD hS hA
  refine va_calli (va_runV (As := [.int (xs (8 * i + 1)), .int (xs (8 * i + 2)), .int (xs (8 * i + 3))]) (rest := []) ⟨hx, hb, hml, hown, hts⟩ (m_size l dC dI mm v (q 0) (q 1) u (xs (8 * i + 1)) (xs (8 * i + 2)) (xs (8 * i + 3)) hu.1.1 hu.1.2.2.2.2.2.1 H.size) (cwV 3 hts gL_law_X12_size rfl rfl rfl zh_X12_size_122 ⟨Nat.le_of_ble_eq_true rfl, Nat.le_of_ble_eq_true rfl⟩) ⟨gw_fb, va_recv hKc hPc (ci := 11) (q0 := 0) rfl rfl, fun U hU hW => ⟨rfl, by rw [hU], pw_to hU hW hPc hKc hN, hDc.weaken (fun _ _ _ _ => trivial)⟩⟩ rfl rfl hl.1 rfl (lv_room (Nat.le_of_ble_eq_true rfl)) dL_law_392 ⟨by omega, by omega⟩) hS (fun q _ h => hFc q h) hFc (fun ra_21 u_20 t H1 locs ht hvm hw hB hz1 hk1 hS => ?_)
  obtain ⟨hP1, hD1⟩ := hB
  rw [ht] at hP1
  obtain ⟨hP, hD⟩ := jn (vaP_swap hP) (vaD_swap hD) hk1 hFc hP1 hD1
  generalize H1 = H at hP hS ⊢
  have hP := vaP_swap hP
  have hD := vaD_swap hD
  refine W.widen (k := cells + 976) (n := slots + 4880) (by omega) (by omega) ?_
  obtain ⟨hrb, hub⟩ : ra_21 = (mSize u (xs (8 * i + 1)) (xs (8 * i + 2)) (xs (8 * i + 3))).1 ∧ u_20 = (mSize u (xs (8 * i + 1)) (xs (8 * i + 2)) (xs (8 * i + 3))).2 := by rw [← hw]; exact ⟨rfl, rfl⟩
  have hs := step_small (R9 := (mSize u (xs (8 * i + 1)) (xs (8 * i + 2)) (xs (8 * i + 3)))) hR0 hx9 (size_1 u (xs (8 * i + 1)) (xs (8 * i + 2)) (xs (8 * i + 3))) (fun _ _ h => uI_size h (xs (8 * i + 1)) (xs (8 * i + 2)) (xs (8 * i + 3)))
  have hrl : ra_13 = ra_21 := hs.1.trans hrb.symm
  have hR : RR q h0 d k_9 z_10 f_11 u_20 := by rw [hub]; exact hs.2
  refine lv_pop hx hb dL_law_395 rfl ?_
  refine lv_goto (tgt := 1182) hx hb dL_law_396 (by decide) ?_
  exact kx _ _ _ _ _ _ _ ls hR hP hD hS (lv_sub hl [0, 1, 2, 3] rfl)
set_option maxHeartbeats 4000000 in
set_option maxRecDepth 100000 in
theorem law_c7 {p : Program} {l : Launch} {e : Env} {s : State} {m : MethodId} {below : List Frame} {meth : Method} {c : Code} {b L : Nat} {xs : Nat → Int32} {A : Nat → Prop} {dC : Nat → ClassId} {dI : Nat → Nat → Nat} {q : Nat → ClassId} {h0 mm : Nat} {d v : Nat → Nat} {cells slots i : Nat} (C0 : lw_At p s m meth c b L xs) (hAe : A = fun q => s.heap.size ≤ q) (hN : NN s) (hXN : XN s) (hK : va_K (dC, dI) vwCl (xT q) s) (hL : 8 * i + 8 ≤ L) (hL2 : L ≤ 4096) (hRc : cells + 976 ≤ room_1.cells) (hRs : slots + 4880 ≤ room_1.slots) (kx : ∀ (d : Nat → Nat) (k : Nat → Int32) (z : gS) (f : xF) (u : mS) (H : Heap) (locs : List Loc) (ls : Array Slot), RR q h0 d k z f u → va_P (dC, dI) vwCl (va_pl z.1 f ++ mW mm v (q 0) (q 1) u) H → va_D A (va_pl z.1 f ++ mW mm v (q 0) (q 1) u) → va_S A s.heap H locs → lv_has ls 4 [(3, .int (nI (8 * i))), (2, .ref mm), (1, .ref h0), (0, .ref b)] → W p l e room_1 s m #[Value.ref b] below meth c H locs (cells + 976) (slots + 4880) (lw_Z below #[Value.ref b] s) (F0 m 1182 ls [])) {k : Nat → Int32} {z : gS} {f : xF} {u : mS} {H : Heap} {locs : List Loc} {ls : Array Slot} (hR : RR q h0 d k z f u) (hP : va_P (dC, dI) vwCl (va_pl z.1 f ++ mW mm v (q 0) (q 1) u) H) (hD : va_D A (va_pl z.1 f ++ mW mm v (q 0) (q 1) u)) (hS : va_S A s.heap H locs) (hl : lv_has ls 4 [(3, .int (nI (8 * i))), (2, .ref mm), (1, .ref h0), (0, .ref b)]) : W p l e room_1 s m #[Value.ref b] below meth c H locs cells slots (lw_Z below #[Value.ref b] s) (F0 m 399 ls []) := by
  obtain ⟨hx, hb, hr, hml, hown, hts, hX, hbl, hlocks, hgv⟩ := id C0
  have hbA : ¬ A b := by rw [hAe]; exact Nat.not_le.mpr hbl
  have hA : ∀ q : Nat, s.heap.size ≤ q → A q := fun q h => by rw [hAe]; exact h
  have hts := fun w h => hts w (wsL_law_in w h)
  have hR0 := hR
  obtain ⟨hI, hrp, ⟨hk0, hk1, hk2, hk3⟩, hz, es9, cf9, g9, hu, hg, hL⟩ := id hR
  have hk1o := hk1
  refine lv_aload_n hx hb dL_law_399 rfl (lv_at hl 2 rfl) ?_
  refine lv_aload_n hx hb dL_law_400 rfl (lv_at hl 3 rfl) ?_
  refine lv_iload_n hx hb dL_law_401 rfl (lv_at hl 0 rfl) ?_
  refine lv_iconst (v := 1) hx hb dL_law_402 (by decide) ?_
  refine lv_iadd hx hb dL_law_403 ?_
  refine lv_topi (fun y_1 ey_1 => ?_)
  obtain rfl : y_1 = nI (8 * i + 1) := ey_1.trans (nI_k _ 1 rfl)
  refine va_sld hx hb hX hbl hbA hS (vp_in_nI (by omega) (by omega)) dL_law_404 ?_
  refine lv_topi (fun y_2 ey_2 => ?_)
  obtain rfl : y_2 = xs (8 * i + 1) := ey_2.trans (by rw [nI_clamp (by omega)])
  refine lv_aload_n hx hb dL_law_405 rfl (lv_at hl 3 rfl) ?_
  refine lv_iload_n hx hb dL_law_406 rfl (lv_at hl 0 rfl) ?_
  refine lv_iconst (v := 2) hx hb dL_law_407 (by decide) ?_
  refine lv_iadd hx hb dL_law_408 ?_
  refine lv_topi (fun y_3 ey_3 => ?_)
  obtain rfl : y_3 = nI (8 * i + 2) := ey_3.trans (nI_k _ 2 rfl)
  refine va_sld hx hb hX hbl hbA hS (vp_in_nI (by omega) (by omega)) dL_law_409 ?_
  refine lv_topi (fun y_4 ey_4 => ?_)
  obtain rfl : y_4 = xs (8 * i + 2) := ey_4.trans (by rw [nI_clamp (by omega)])
  refine lv_aload_n hx hb dL_law_410 rfl (lv_at hl 3 rfl) ?_
  refine lv_iload_n hx hb dL_law_411 rfl (lv_at hl 0 rfl) ?_
  refine lv_iconst (v := 3) hx hb dL_law_412 (by decide) ?_
  refine lv_iadd hx hb dL_law_413 ?_
  refine lv_topi (fun y_5 ey_5 => ?_)
  obtain rfl : y_5 = nI (8 * i + 3) := ey_5.trans (nI_k _ 3 rfl)
  refine va_sld hx hb hX hbl hbA hS (vp_in_nI (by omega) (by omega)) dL_law_414 ?_
  refine lv_topi (fun y_6 ey_6 => ?_)
  obtain rfl : y_6 = xs (8 * i + 3) := ey_6.trans (by rw [nI_clamp (by omega)])
  refine lv_aload_n hx hb dL_law_415 rfl (lv_at hl 3 rfl) ?_
  refine lv_iload_n hx hb dL_law_416 rfl (lv_at hl 0 rfl) ?_
  refine lv_iconst (v := 4) hx hb dL_law_417 (by decide) ?_
  refine lv_iadd hx hb dL_law_418 ?_
  refine lv_topi (fun y_7 ey_7 => ?_)
  obtain rfl : y_7 = nI (8 * i + 4) := ey_7.trans (nI_k _ 4 rfl)
  refine va_sld hx hb hX hbl hbA hS (vp_in_nI (by omega) (by omega)) dL_law_419 ?_
  refine lv_topi (fun y_8 ey_8 => ?_)
  obtain rfl : y_8 = xs (8 * i + 4) := ey_8.trans (by rw [nI_clamp (by omega)])
  refine lv_aload_n hx hb dL_law_420 rfl (lv_at hl 3 rfl) ?_
  refine lv_iload_n hx hb dL_law_421 rfl (lv_at hl 0 rfl) ?_
  refine lv_iconst (v := 5) hx hb dL_law_422 (by decide) ?_
  refine lv_iadd hx hb dL_law_423 ?_
  refine lv_topi (fun y_9 ey_9 => ?_)
  obtain rfl : y_9 = nI (8 * i + 5) := ey_9.trans (nI_k _ 5 rfl)
  refine va_sld hx hb hX hbl hbA hS (vp_in_nI (by omega) (by omega)) dL_law_424 ?_
  refine lv_topi (fun y_10 ey_10 => ?_)
  obtain rfl : y_10 = xs (8 * i + 5) := ey_10.trans (by rw [nI_clamp (by omega)])
  refine lv_aload_n hx hb dL_law_425 rfl (lv_at hl 3 rfl) ?_
  refine lv_iload_n hx hb dL_law_426 rfl (lv_at hl 0 rfl) ?_
  refine lv_bipush (v := 6) hx hb dL_law_427 (by decide) ?_
  refine lv_iadd hx hb dL_law_429 ?_
  refine lv_topi (fun y_11 ey_11 => ?_)
  obtain rfl : y_11 = nI (8 * i + 6) := ey_11.trans (nI_k _ 6 rfl)
  refine va_sld hx hb hX hbl hbA hS (vp_in_nI (by omega) (by omega)) dL_law_430 ?_
  refine lv_topi (fun y_12 ey_12 => ?_)
  obtain rfl : y_12 = xs (8 * i + 6) := ey_12.trans (by rw [nI_clamp (by omega)])
  refine lv_aload_n hx hb dL_law_431 rfl (lv_at hl 3 rfl) ?_
  refine lv_iload_n hx hb dL_law_432 rfl (lv_at hl 0 rfl) ?_
  refine lv_bipush (v := 7) hx hb dL_law_433 (by decide) ?_
  refine lv_iadd hx hb dL_law_435 ?_
  refine lv_topi (fun y_13 ey_13 => ?_)
  obtain rfl : y_13 = nI (8 * i + 7) := ey_13.trans (nI_k _ 7 rfl)
  refine va_sld hx hb hX hbl hbA hS (vp_in_nI (by omega) (by omega)) dL_law_436 ?_
  refine lv_topi (fun y_14 ey_14 => ?_)
  obtain rfl : y_14 = xs (8 * i + 7) := ey_14.trans (by rw [nI_clamp (by omega)])
  obtain ⟨kk_15, hk_16⟩ := pl_at hI.2.1.1.1 hI.2.2.2.1.1
  have hPc := vaP_l hP
  have hDc := vaD_l hD
  have hFc := fr_left hD hS hA
  refine va_calli (va_runV (As := [.int (xs (8 * i + 1)), .int (xs (8 * i + 2)), .int (xs (8 * i + 3)), .int (xs (8 * i + 4)), .int (xs (8 * i + 5)), .int (xs (8 * i + 6)), .int (xs (8 * i + 7))]) (rest := []) ⟨hx, hb, hml, hown, hts⟩ (y_paid l dC dI q h0 d k z f hI (xs (8 * i + 1)) (xs (8 * i + 2)) (xs (8 * i + 3)) (xs (8 * i + 4)) (xs (8 * i + 5)) (xs (8 * i + 6)) (xs (8 * i + 7)) u hrp hk0 hk1 hk2 hk3 hz hu.2.2.2.2.1 H.size) (cwV 7 hts gL_law_X11_paid rfl rfl rfl zh_X11_paid_123 ⟨Nat.le_of_ble_eq_true rfl, Nat.le_of_ble_eq_true rfl⟩) ⟨gx_fb, va_recv hK hPc (ci := 10) (q0 := kk_15) rfl hk_16, fun U hU hW => ⟨rfl, by rw [hU], px_to hU hW hPc hK hN hXN, hDc.weaken (fun _ _ _ _ => trivial)⟩⟩ rfl rfl hl.1 rfl (lv_room (Nat.le_of_ble_eq_true rfl)) dL_law_437 ⟨by omega, by omega⟩) hS (fun q _ h => hFc q h) hFc (fun ra_21 w_20 t H1 locs ht hvm hw hB hz1 hk1 hS => ?_)
  obtain ⟨hP1, hD1⟩ := hB
  rw [ht] at hP1
  obtain ⟨hP, hD⟩ := jn hP hD hk1 hFc hP1 hD1
  generalize H1 = H at hP hS ⊢
  obtain ⟨k_17, z_18, f_19⟩ := w_20
  have hP : va_P (dC, dI) vwCl (va_pl z_18.1 f_19 ++ mW mm v (q 0) (q 1) u) H := hP
  have hD : va_D A (va_pl z_18.1 f_19 ++ mW mm v (q 0) (q 1) u) := hD
  refine W.widen (k := cells + 976) (n := slots + 4880) (by omega) (by omega) ?_
  have hx9 := hw
  refine lv_pop hx hb dL_law_440 rfl ?_
  refine lv_aload_n hx hb dL_law_441 rfl (lv_at hl 1 rfl) ?_
  refine lv_aload_n hx hb dL_law_442 rfl (lv_at hl 3 rfl) ?_
  refine lv_iload_n hx hb dL_law_443 rfl (lv_at hl 0 rfl) ?_
  refine lv_iconst (v := 1) hx hb dL_law_444 (by decide) ?_
  refine lv_iadd hx hb dL_law_445 ?_
  refine lv_topi (fun y_22 ey_22 => ?_)
  obtain rfl : y_22 = nI (8 * i + 1) := ey_22.trans (nI_k _ 1 rfl)
  refine va_sld hx hb hX hbl hbA hS (vp_in_nI (by omega) (by omega)) dL_law_446 ?_
  refine lv_topi (fun y_23 ey_23 => ?_)
  obtain rfl : y_23 = xs (8 * i + 1) := ey_23.trans (by rw [nI_clamp (by omega)])
  refine lv_aload_n hx hb dL_law_447 rfl (lv_at hl 3 rfl) ?_
  refine lv_iload_n hx hb dL_law_448 rfl (lv_at hl 0 rfl) ?_
  refine lv_iconst (v := 2) hx hb dL_law_449 (by decide) ?_
  refine lv_iadd hx hb dL_law_450 ?_
  refine lv_topi (fun y_24 ey_24 => ?_)
  obtain rfl : y_24 = nI (8 * i + 2) := ey_24.trans (nI_k _ 2 rfl)
  refine va_sld hx hb hX hbl hbA hS (vp_in_nI (by omega) (by omega)) dL_law_451 ?_
  refine lv_topi (fun y_25 ey_25 => ?_)
  obtain rfl : y_25 = xs (8 * i + 2) := ey_25.trans (by rw [nI_clamp (by omega)])
  refine lv_aload_n hx hb dL_law_452 rfl (lv_at hl 3 rfl) ?_
  refine lv_iload_n hx hb dL_law_453 rfl (lv_at hl 0 rfl) ?_
  refine lv_iconst (v := 3) hx hb dL_law_454 (by decide) ?_
  refine lv_iadd hx hb dL_law_455 ?_
  refine lv_topi (fun y_26 ey_26 => ?_)
  obtain rfl : y_26 = nI (8 * i + 3) := ey_26.trans (nI_k _ 3 rfl)
  refine va_sld hx hb hX hbl hbA hS (vp_in_nI (by omega) (by omega)) dL_law_456 ?_
  refine lv_topi (fun y_27 ey_27 => ?_)
  obtain rfl : y_27 = xs (8 * i + 3) := ey_27.trans (by rw [nI_clamp (by omega)])
  refine lv_aload_n hx hb dL_law_457 rfl (lv_at hl 3 rfl) ?_
  refine lv_iload_n hx hb dL_law_458 rfl (lv_at hl 0 rfl) ?_
  refine lv_iconst (v := 4) hx hb dL_law_459 (by decide) ?_
  refine lv_iadd hx hb dL_law_460 ?_
  refine lv_topi (fun y_28 ey_28 => ?_)
  obtain rfl : y_28 = nI (8 * i + 4) := ey_28.trans (nI_k _ 4 rfl)
  refine va_sld hx hb hX hbl hbA hS (vp_in_nI (by omega) (by omega)) dL_law_461 ?_
  refine lv_topi (fun y_29 ey_29 => ?_)
  obtain rfl : y_29 = xs (8 * i + 4) := ey_29.trans (by rw [nI_clamp (by omega)])
  refine lv_aload_n hx hb dL_law_462 rfl (lv_at hl 3 rfl) ?_
  refine lv_iload_n hx hb dL_law_463 rfl (lv_at hl 0 rfl) ?_
  refine lv_iconst (v := 5) hx hb dL_law_464 (by decide) ?_
  refine lv_iadd hx hb dL_law_465 ?_
  refine lv_topi (fun y_30 ey_30 => ?_)
  obtain rfl : y_30 = nI (8 * i + 5) := ey_30.trans (nI_k _ 5 rfl)
  refine va_sld hx hb hX hbl hbA hS (vp_in_nI (by omega) (by omega)) dL_law_466 ?_
  refine lv_topi (fun y_31 ey_31 => ?_)
  obtain rfl : y_31 = xs (8 * i + 5) := ey_31.trans (by rw [nI_clamp (by omega)])
  refine lv_aload_n hx hb dL_law_467 rfl (lv_at hl 3 rfl) ?_
  refine lv_iload_n hx hb dL_law_468 rfl (lv_at hl 0 rfl) ?_
  refine lv_bipush (v := 6) hx hb dL_law_469 (by decide) ?_
  refine lv_iadd hx hb dL_law_471 ?_
  refine lv_topi (fun y_32 ey_32 => ?_)
  obtain rfl : y_32 = nI (8 * i + 6) := ey_32.trans (nI_k _ 6 rfl)
  refine va_sld hx hb hX hbl hbA hS (vp_in_nI (by omega) (by omega)) dL_law_472 ?_
  refine lv_topi (fun y_33 ey_33 => ?_)
  obtain rfl : y_33 = xs (8 * i + 6) := ey_33.trans (by rw [nI_clamp (by omega)])
  refine lv_aload_n hx hb dL_law_473 rfl (lv_at hl 3 rfl) ?_
  refine lv_iload_n hx hb dL_law_474 rfl (lv_at hl 0 rfl) ?_
  refine lv_bipush (v := 7) hx hb dL_law_475 (by decide) ?_
  refine lv_iadd hx hb dL_law_477 ?_
  refine lv_topi (fun y_34 ey_34 => ?_)
  obtain rfl : y_34 = nI (8 * i + 7) := ey_34.trans (nI_k _ 7 rfl)
  refine va_sld hx hb hX hbl hbA hS (vp_in_nI (by omega) (by omega)) dL_law_478 ?_
  refine lv_topi (fun y_35 ey_35 => ?_)
  obtain rfl : y_35 = xs (8 * i + 7) := ey_35.trans (by rw [nI_clamp (by omega)])
  have hPc := vaP_r hP
  have hKc := hK.sub (tys' := [(q 0, .int), (q 1, .boolean)]) [0, 1] rfl
  have hDc := vaD_r hD
  have hFc := fr_part hD hS hA
  refine va_calli (va_runV (As := [.int (xs (8 * i + 1)), .int (xs (8 * i + 2)), .int (xs (8 * i + 3)), .int (xs (8 * i + 4)), .int (xs (8 * i + 5)), .int (xs (8 * i + 6)), .int (xs (8 * i + 7))]) (rest := []) ⟨hx, hb, hml, hown, hts⟩ (m_paid l dC dI mm v (q 0) (q 1) u (xs (8 * i + 1)) (xs (8 * i + 2)) (xs (8 * i + 3)) (xs (8 * i + 4)) (xs (8 * i + 5)) (xs (8 * i + 6)) (xs (8 * i + 7)) hu.1.1 H.size) (cwV 7 hts gL_law_X12_paid rfl rfl rfl zh_X12_paid_124 ⟨Nat.le_of_ble_eq_true rfl, Nat.le_of_ble_eq_true rfl⟩) ⟨gw_fb, va_recv hKc hPc (ci := 11) (q0 := 0) rfl rfl, fun U hU hW => ⟨rfl, by rw [hU], pw_to hU hW hPc hKc hN, hDc.weaken (fun _ _ _ _ => trivial)⟩⟩ rfl rfl hl.1 rfl (lv_room (Nat.le_of_ble_eq_true rfl)) dL_law_479 ⟨by omega, by omega⟩) hS (fun q _ h => hFc q h) hFc (fun ra_37 u_36 t H1 locs ht hvm hw hB hz1 hk1 hS => ?_)
  obtain ⟨hP1, hD1⟩ := hB
  rw [ht] at hP1
  obtain ⟨hP, hD⟩ := jn (vaP_swap hP) (vaD_swap hD) hk1 hFc hP1 hD1
  generalize H1 = H at hP hS ⊢
  have hP := vaP_swap hP
  have hD := vaD_swap hD
  refine W.widen (k := cells + 976) (n := slots + 4880) (by omega) (by omega) ?_
  obtain ⟨hrb, hub⟩ : ra_37 = (mPaid u (xs (8 * i + 1)) (xs (8 * i + 2)) (xs (8 * i + 3)) (xs (8 * i + 4)) (xs (8 * i + 5)) (xs (8 * i + 6)) (xs (8 * i + 7))).1 ∧ u_36 = (mPaid u (xs (8 * i + 1)) (xs (8 * i + 2)) (xs (8 * i + 3)) (xs (8 * i + 4)) (xs (8 * i + 5)) (xs (8 * i + 6)) (xs (8 * i + 7))).2 := by rw [← hw]; exact ⟨rfl, rfl⟩
  have hs := step_mk (R9 := (mPaid u (xs (8 * i + 1)) (xs (8 * i + 2)) (xs (8 * i + 3)) (xs (8 * i + 4)) (xs (8 * i + 5)) (xs (8 * i + 6)) (xs (8 * i + 7)))) hR0 hx9 (fun j hj => paid_1 u (xs (8 * i + 1)) (xs (8 * i + 2)) (xs (8 * i + 3)) (xs (8 * i + 4)) (xs (8 * i + 5)) (xs (8 * i + 6)) (xs (8 * i + 7)) hj) (fun _ _ h => uI_paid h (xs (8 * i + 1)) (xs (8 * i + 2)) (xs (8 * i + 3)) (xs (8 * i + 4)) (xs (8 * i + 5)) (xs (8 * i + 6)) (xs (8 * i + 7)))
  have hrl : ra_21 = ra_37 := hs.1.trans hrb.symm
  obtain ⟨d9, hR9⟩ := hs.2
  have hR : RR q h0 d9 k_17 z_18 f_19 u_36 := by rw [hub]; exact hR9
  refine lv_pop hx hb dL_law_482 rfl ?_
  refine lv_goto (tgt := 1182) hx hb dL_law_483 (by decide) ?_
  exact kx _ _ _ _ _ _ _ ls hR hP hD hS (lv_sub hl [0, 1, 2, 3] rfl)
set_option maxHeartbeats 4000000 in
set_option maxRecDepth 100000 in
theorem law_c8 {p : Program} {l : Launch} {e : Env} {s : State} {m : MethodId} {below : List Frame} {meth : Method} {c : Code} {b L : Nat} {xs : Nat → Int32} {A : Nat → Prop} {dC : Nat → ClassId} {dI : Nat → Nat → Nat} {q : Nat → ClassId} {h0 mm : Nat} {d v : Nat → Nat} {cells slots i : Nat} (C0 : lw_At p s m meth c b L xs) (hAe : A = fun q => s.heap.size ≤ q) (hN : NN s) (hXN : XN s) (hK : va_K (dC, dI) vwCl (xT q) s) (hL : 8 * i + 8 ≤ L) (hL2 : L ≤ 4096) (hRc : cells + 976 ≤ room_1.cells) (hRs : slots + 4880 ≤ room_1.slots) (kx : ∀ (d : Nat → Nat) (k : Nat → Int32) (z : gS) (f : xF) (u : mS) (H : Heap) (locs : List Loc) (ls : Array Slot), RR q h0 d k z f u → va_P (dC, dI) vwCl (va_pl z.1 f ++ mW mm v (q 0) (q 1) u) H → va_D A (va_pl z.1 f ++ mW mm v (q 0) (q 1) u) → va_S A s.heap H locs → lv_has ls 4 [(3, .int (nI (8 * i))), (2, .ref mm), (1, .ref h0), (0, .ref b)] → W p l e room_1 s m #[Value.ref b] below meth c H locs (cells + 976) (slots + 4880) (lw_Z below #[Value.ref b] s) (F0 m 1182 ls [])) {k : Nat → Int32} {z : gS} {f : xF} {u : mS} {H : Heap} {locs : List Loc} {ls : Array Slot} (hR : RR q h0 d k z f u) (hP : va_P (dC, dI) vwCl (va_pl z.1 f ++ mW mm v (q 0) (q 1) u) H) (hD : va_D A (va_pl z.1 f ++ mW mm v (q 0) (q 1) u)) (hS : va_S A s.heap H locs) (hl : lv_has ls 4 [(3, .int (nI (8 * i))), (2, .ref mm), (1, .ref h0), (0, .ref b)]) : W p l e room_1 s m #[Value.ref b] below meth c H locs cells slots (lw_Z below #[Value.ref b] s) (F0 m 486 ls []) := by
  obtain ⟨hx, hb, hr, hml, hown, hts, hX, hbl, hlocks, hgv⟩ := id C0
  have hbA : ¬ A b := by rw [hAe]; exact Nat.not_le.mpr hbl
  have hA : ∀ q : Nat, s.heap.size ≤ q → A q := fun q h => by rw [hAe]; exact h
  have hts := fun w h => hts w (wsL_law_in w h)
  have hR0 := hR
  obtain ⟨hI, hrp, ⟨hk0, hk1, hk2, hk3⟩, hz, es9, cf9, g9, hu, hg, hL⟩ := id hR
  have hk1o := hk1
  refine lv_aload_n hx hb dL_law_486 rfl (lv_at hl 2 rfl) ?_
  refine lv_aload_n hx hb dL_law_487 rfl (lv_at hl 3 rfl) ?_
  refine lv_iload_n hx hb dL_law_488 rfl (lv_at hl 0 rfl) ?_
  refine lv_iconst (v := 1) hx hb dL_law_489 (by decide) ?_
  refine lv_iadd hx hb dL_law_490 ?_
  refine lv_topi (fun y_1 ey_1 => ?_)
  obtain rfl : y_1 = nI (8 * i + 1) := ey_1.trans (nI_k _ 1 rfl)
  refine va_sld hx hb hX hbl hbA hS (vp_in_nI (by omega) (by omega)) dL_law_491 ?_
  refine lv_topi (fun y_2 ey_2 => ?_)
  obtain rfl : y_2 = xs (8 * i + 1) := ey_2.trans (by rw [nI_clamp (by omega)])
  refine lv_aload_n hx hb dL_law_492 rfl (lv_at hl 3 rfl) ?_
  refine lv_iload_n hx hb dL_law_493 rfl (lv_at hl 0 rfl) ?_
  refine lv_iconst (v := 2) hx hb dL_law_494 (by decide) ?_
  refine lv_iadd hx hb dL_law_495 ?_
  refine lv_topi (fun y_3 ey_3 => ?_)
  obtain rfl : y_3 = nI (8 * i + 2) := ey_3.trans (nI_k _ 2 rfl)
  refine va_sld hx hb hX hbl hbA hS (vp_in_nI (by omega) (by omega)) dL_law_496 ?_
  refine lv_topi (fun y_4 ey_4 => ?_)
  obtain rfl : y_4 = xs (8 * i + 2) := ey_4.trans (by rw [nI_clamp (by omega)])
  obtain ⟨kk_5, hk_6⟩ := pl_at hI.2.1.1.1 hI.2.2.2.1.1
  have hPc := vaP_l hP
  have hDc := vaD_l hD
  have hFc := fr_left hD hS hA
  refine va_calli (va_runV (As := [.int (xs (8 * i + 1)), .int (xs (8 * i + 2))]) (rest := []) ⟨hx, hb, hml, hown, hts⟩ (y_filler l dC dI q h0 d k z f hI (xs (8 * i + 1)) (xs (8 * i + 2)) u hrp hk0 hk1 hk2 hk3 hz hu.2.2.2.2.1 H.size) (cwV 2 hts gL_law_X11_filler rfl rfl rfl zh_X11_filler_125 ⟨Nat.le_of_ble_eq_true rfl, Nat.le_of_ble_eq_true rfl⟩) ⟨gx_fb, va_recv hK hPc (ci := 10) (q0 := kk_5) rfl hk_6, fun U hU hW => ⟨rfl, by rw [hU], px_to hU hW hPc hK hN hXN, hDc.weaken (fun _ _ _ _ => trivial)⟩⟩ rfl rfl hl.1 rfl (lv_room (Nat.le_of_ble_eq_true rfl)) dL_law_497 ⟨by omega, by omega⟩) hS (fun q _ h => hFc q h) hFc (fun ra_11 w_10 t H1 locs ht hvm hw hB hz1 hk1 hS => ?_)
  obtain ⟨hP1, hD1⟩ := hB
  rw [ht] at hP1
  obtain ⟨hP, hD⟩ := jn hP hD hk1 hFc hP1 hD1
  generalize H1 = H at hP hS ⊢
  obtain ⟨k_7, z_8, f_9⟩ := w_10
  have hP : va_P (dC, dI) vwCl (va_pl z_8.1 f_9 ++ mW mm v (q 0) (q 1) u) H := hP
  have hD : va_D A (va_pl z_8.1 f_9 ++ mW mm v (q 0) (q 1) u) := hD
  refine W.widen (k := cells + 976) (n := slots + 4880) (by omega) (by omega) ?_
  have hx9 := hw
  refine lv_pop hx hb dL_law_500 rfl ?_
  refine lv_aload_n hx hb dL_law_501 rfl (lv_at hl 1 rfl) ?_
  refine lv_aload_n hx hb dL_law_502 rfl (lv_at hl 3 rfl) ?_
  refine lv_iload_n hx hb dL_law_503 rfl (lv_at hl 0 rfl) ?_
  refine lv_iconst (v := 1) hx hb dL_law_504 (by decide) ?_
  refine lv_iadd hx hb dL_law_505 ?_
  refine lv_topi (fun y_12 ey_12 => ?_)
  obtain rfl : y_12 = nI (8 * i + 1) := ey_12.trans (nI_k _ 1 rfl)
  refine va_sld hx hb hX hbl hbA hS (vp_in_nI (by omega) (by omega)) dL_law_506 ?_
  refine lv_topi (fun y_13 ey_13 => ?_)
  obtain rfl : y_13 = xs (8 * i + 1) := ey_13.trans (by rw [nI_clamp (by omega)])
  refine lv_aload_n hx hb dL_law_507 rfl (lv_at hl 3 rfl) ?_
  refine lv_iload_n hx hb dL_law_508 rfl (lv_at hl 0 rfl) ?_
  refine lv_iconst (v := 2) hx hb dL_law_509 (by decide) ?_
  refine lv_iadd hx hb dL_law_510 ?_
  refine lv_topi (fun y_14 ey_14 => ?_)
  obtain rfl : y_14 = nI (8 * i + 2) := ey_14.trans (nI_k _ 2 rfl)
  refine va_sld hx hb hX hbl hbA hS (vp_in_nI (by omega) (by omega)) dL_law_511 ?_
  refine lv_topi (fun y_15 ey_15 => ?_)
  obtain rfl : y_15 = xs (8 * i + 2) := ey_15.trans (by rw [nI_clamp (by omega)])
  have hPc := vaP_r hP
  have hKc := hK.sub (tys' := [(q 0, .int), (q 1, .boolean)]) [0, 1] rfl
  have hDc := vaD_r hD
  have hFc := fr_part hD hS hA
  refine va_calli (va_runV (As := [.int (xs (8 * i + 1)), .int (xs (8 * i + 2))]) (rest := []) ⟨hx, hb, hml, hown, hts⟩ (m_filler l dC dI mm v (q 0) (q 1) u (xs (8 * i + 1)) (xs (8 * i + 2)) hu.1.1 H.size) (cwV 2 hts gL_law_X12_filler rfl rfl rfl zh_X12_filler_126 ⟨Nat.le_of_ble_eq_true rfl, Nat.le_of_ble_eq_true rfl⟩) ⟨gw_fb, va_recv hKc hPc (ci := 11) (q0 := 0) rfl rfl, fun U hU hW => ⟨rfl, by rw [hU], pw_to hU hW hPc hKc hN, hDc.weaken (fun _ _ _ _ => trivial)⟩⟩ rfl rfl hl.1 rfl (lv_room (Nat.le_of_ble_eq_true rfl)) dL_law_512 ⟨by omega, by omega⟩) hS (fun q _ h => hFc q h) hFc (fun ra_17 u_16 t H1 locs ht hvm hw hB hz1 hk1 hS => ?_)
  obtain ⟨hP1, hD1⟩ := hB
  rw [ht] at hP1
  obtain ⟨hP, hD⟩ := jn (vaP_swap hP) (vaD_swap hD) hk1 hFc hP1 hD1
  generalize H1 = H at hP hS ⊢
  have hP := vaP_swap hP
  have hD := vaD_swap hD
  refine W.widen (k := cells + 976) (n := slots + 4880) (by omega) (by omega) ?_
  obtain ⟨hrb, hub⟩ : ra_17 = (mFiller u (xs (8 * i + 1)) (xs (8 * i + 2))).1 ∧ u_16 = (mFiller u (xs (8 * i + 1)) (xs (8 * i + 2))).2 := by rw [← hw]; exact ⟨rfl, rfl⟩
  have hs := step_mk (R9 := (mFiller u (xs (8 * i + 1)) (xs (8 * i + 2)))) hR0 hx9 (fun j hj => filler_1 u (xs (8 * i + 1)) (xs (8 * i + 2)) hj) (fun _ _ h => uI_filler h (xs (8 * i + 1)) (xs (8 * i + 2)))
  have hrl : ra_11 = ra_17 := hs.1.trans hrb.symm
  obtain ⟨d9, hR9⟩ := hs.2
  have hR : RR q h0 d9 k_7 z_8 f_9 u_16 := by rw [hub]; exact hR9
  refine lv_pop hx hb dL_law_515 rfl ?_
  refine lv_goto (tgt := 1182) hx hb dL_law_516 (by decide) ?_
  exact kx _ _ _ _ _ _ _ ls hR hP hD hS (lv_sub hl [0, 1, 2, 3] rfl)
set_option maxHeartbeats 4000000 in
set_option maxRecDepth 100000 in
theorem law_c9 {p : Program} {l : Launch} {e : Env} {s : State} {m : MethodId} {below : List Frame} {meth : Method} {c : Code} {b L : Nat} {xs : Nat → Int32} {A : Nat → Prop} {dC : Nat → ClassId} {dI : Nat → Nat → Nat} {q : Nat → ClassId} {h0 mm : Nat} {d v : Nat → Nat} {cells slots i : Nat} (C0 : lw_At p s m meth c b L xs) (hAe : A = fun q => s.heap.size ≤ q) (hN : NN s) (hXN : XN s) (hK : va_K (dC, dI) vwCl (xT q) s) (hL : 8 * i + 8 ≤ L) (hL2 : L ≤ 4096) (hRc : cells + 976 ≤ room_1.cells) (hRs : slots + 4880 ≤ room_1.slots) (kx : ∀ (d : Nat → Nat) (k : Nat → Int32) (z : gS) (f : xF) (u : mS) (H : Heap) (locs : List Loc) (ls : Array Slot), RR q h0 d k z f u → va_P (dC, dI) vwCl (va_pl z.1 f ++ mW mm v (q 0) (q 1) u) H → va_D A (va_pl z.1 f ++ mW mm v (q 0) (q 1) u) → va_S A s.heap H locs → lv_has ls 4 [(3, .int (nI (8 * i))), (2, .ref mm), (1, .ref h0), (0, .ref b)] → W p l e room_1 s m #[Value.ref b] below meth c H locs (cells + 976) (slots + 4880) (lw_Z below #[Value.ref b] s) (F0 m 1182 ls [])) {k : Nat → Int32} {z : gS} {f : xF} {u : mS} {H : Heap} {locs : List Loc} {ls : Array Slot} (hR : RR q h0 d k z f u) (hP : va_P (dC, dI) vwCl (va_pl z.1 f ++ mW mm v (q 0) (q 1) u) H) (hD : va_D A (va_pl z.1 f ++ mW mm v (q 0) (q 1) u)) (hS : va_S A s.heap H locs) (hl : lv_has ls 4 [(3, .int (nI (8 * i))), (2, .ref mm), (1, .ref h0), (0, .ref b)]) : W p l e room_1 s m #[Value.ref b] below meth c H locs cells slots (lw_Z below #[Value.ref b] s) (F0 m 519 ls []) := by
  obtain ⟨hx, hb, hr, hml, hown, hts, hX, hbl, hlocks, hgv⟩ := id C0
  have hbA : ¬ A b := by rw [hAe]; exact Nat.not_le.mpr hbl
  have hA : ∀ q : Nat, s.heap.size ≤ q → A q := fun q h => by rw [hAe]; exact h
  have hts := fun w h => hts w (wsL_law_in w h)
  have hR0 := hR
  obtain ⟨hI, hrp, ⟨hk0, hk1, hk2, hk3⟩, hz, es9, cf9, g9, hu, hg, hL⟩ := id hR
  have hk1o := hk1
  refine lv_aload_n hx hb dL_law_519 rfl (lv_at hl 2 rfl) ?_
  refine lv_aload_n hx hb dL_law_520 rfl (lv_at hl 3 rfl) ?_
  refine lv_iload_n hx hb dL_law_521 rfl (lv_at hl 0 rfl) ?_
  refine lv_iconst (v := 1) hx hb dL_law_522 (by decide) ?_
  refine lv_iadd hx hb dL_law_523 ?_
  refine lv_topi (fun y_1 ey_1 => ?_)
  obtain rfl : y_1 = nI (8 * i + 1) := ey_1.trans (nI_k _ 1 rfl)
  refine va_sld hx hb hX hbl hbA hS (vp_in_nI (by omega) (by omega)) dL_law_524 ?_
  refine lv_topi (fun y_2 ey_2 => ?_)
  obtain rfl : y_2 = xs (8 * i + 1) := ey_2.trans (by rw [nI_clamp (by omega)])
  refine lv_aload_n hx hb dL_law_525 rfl (lv_at hl 3 rfl) ?_
  refine lv_iload_n hx hb dL_law_526 rfl (lv_at hl 0 rfl) ?_
  refine lv_iconst (v := 2) hx hb dL_law_527 (by decide) ?_
  refine lv_iadd hx hb dL_law_528 ?_
  refine lv_topi (fun y_3 ey_3 => ?_)
  obtain rfl : y_3 = nI (8 * i + 2) := ey_3.trans (nI_k _ 2 rfl)
  refine va_sld hx hb hX hbl hbA hS (vp_in_nI (by omega) (by omega)) dL_law_529 ?_
  refine lv_topi (fun y_4 ey_4 => ?_)
  obtain rfl : y_4 = xs (8 * i + 2) := ey_4.trans (by rw [nI_clamp (by omega)])
  obtain ⟨kk_5, hk_6⟩ := pl_at hI.2.1.1.1 hI.2.2.2.1.1
  have hPc := vaP_l hP
  have hDc := vaD_l hD
  have hFc := fr_left hD hS hA
  refine va_calli (va_runV (As := [.int (xs (8 * i + 1)), .int (xs (8 * i + 2))]) (rest := []) ⟨hx, hb, hml, hown, hts⟩ (y_notice l dC dI q h0 d k z f hI (xs (8 * i + 1)) (xs (8 * i + 2)) u hrp hk0 hk1 hk2 hk3 hz hu.2.2.2.2.1 hu.2.2.2.2.2.1 (uI_fi hu) H.size) (cwV 2 hts gL_law_X11_notice rfl rfl rfl zh_X11_notice_127 ⟨Nat.le_of_ble_eq_true rfl, Nat.le_of_ble_eq_true rfl⟩) ⟨gx_fb, va_recv hK hPc (ci := 10) (q0 := kk_5) rfl hk_6, fun U hU hW => ⟨rfl, by rw [hU], px_to hU hW hPc hK hN hXN, hDc.weaken (fun _ _ _ _ => trivial)⟩⟩ rfl rfl hl.1 rfl (lv_room (Nat.le_of_ble_eq_true rfl)) dL_law_530 ⟨by omega, by omega⟩) hS (fun q _ h => hFc q h) hFc (fun ra_11 w_10 t H1 locs ht hvm hw hB hz1 hk1 hS => ?_)
  obtain ⟨hP1, hD1⟩ := hB
  rw [ht] at hP1
  obtain ⟨hP, hD⟩ := jn hP hD hk1 hFc hP1 hD1
  generalize H1 = H at hP hS ⊢
  obtain ⟨k_7, z_8, f_9⟩ := w_10
  have hP : va_P (dC, dI) vwCl (va_pl z_8.1 f_9 ++ mW mm v (q 0) (q 1) u) H := hP
  have hD : va_D A (va_pl z_8.1 f_9 ++ mW mm v (q 0) (q 1) u) := hD
  refine W.widen (k := cells + 976) (n := slots + 4880) (by omega) (by omega) ?_
  have hx9 := hw
  refine lv_pop hx hb dL_law_533 rfl ?_
  refine lv_aload_n hx hb dL_law_534 rfl (lv_at hl 1 rfl) ?_
  refine lv_aload_n hx hb dL_law_535 rfl (lv_at hl 3 rfl) ?_
  refine lv_iload_n hx hb dL_law_536 rfl (lv_at hl 0 rfl) ?_
  refine lv_iconst (v := 1) hx hb dL_law_537 (by decide) ?_
  refine lv_iadd hx hb dL_law_538 ?_
  refine lv_topi (fun y_12 ey_12 => ?_)
  obtain rfl : y_12 = nI (8 * i + 1) := ey_12.trans (nI_k _ 1 rfl)
  refine va_sld hx hb hX hbl hbA hS (vp_in_nI (by omega) (by omega)) dL_law_539 ?_
  refine lv_topi (fun y_13 ey_13 => ?_)
  obtain rfl : y_13 = xs (8 * i + 1) := ey_13.trans (by rw [nI_clamp (by omega)])
  refine lv_aload_n hx hb dL_law_540 rfl (lv_at hl 3 rfl) ?_
  refine lv_iload_n hx hb dL_law_541 rfl (lv_at hl 0 rfl) ?_
  refine lv_iconst (v := 2) hx hb dL_law_542 (by decide) ?_
  refine lv_iadd hx hb dL_law_543 ?_
  refine lv_topi (fun y_14 ey_14 => ?_)
  obtain rfl : y_14 = nI (8 * i + 2) := ey_14.trans (nI_k _ 2 rfl)
  refine va_sld hx hb hX hbl hbA hS (vp_in_nI (by omega) (by omega)) dL_law_544 ?_
  refine lv_topi (fun y_15 ey_15 => ?_)
  obtain rfl : y_15 = xs (8 * i + 2) := ey_15.trans (by rw [nI_clamp (by omega)])
  have hPc := vaP_r hP
  have hKc := hK.sub (tys' := [(q 0, .int), (q 1, .boolean)]) [0, 1] rfl
  have hDc := vaD_r hD
  have hFc := fr_part hD hS hA
  refine va_calli (va_runV (As := [.int (xs (8 * i + 1)), .int (xs (8 * i + 2))]) (rest := []) ⟨hx, hb, hml, hown, hts⟩ (n_notice l dC dI mm v (q 0) (q 1) u (xs (8 * i + 1)) (xs (8 * i + 2)) hu.1.1 H.size) (cwV 2 hts gL_law_X12_notice rfl rfl rfl zh_X12_notice_128 ⟨Nat.le_of_ble_eq_true rfl, Nat.le_of_ble_eq_true rfl⟩) ⟨gw_fb, va_recv hKc hPc (ci := 11) (q0 := 0) rfl rfl, fun U hU hW => ⟨rfl, by rw [hU], pw_to hU hW hPc hKc hN, hDc.weaken (fun _ _ _ _ => trivial)⟩⟩ rfl rfl hl.1 rfl (lv_room (Nat.le_of_ble_eq_true rfl)) dL_law_545 ⟨by omega, by omega⟩) hS (fun q _ h => hFc q h) hFc (fun ra_17 u_16 t H1 locs ht hvm hw hB hz1 hk1 hS => ?_)
  obtain ⟨hP1, hD1⟩ := hB
  rw [ht] at hP1
  obtain ⟨hP, hD⟩ := jn (vaP_swap hP) (vaD_swap hD) hk1 hFc hP1 hD1
  generalize H1 = H at hP hS ⊢
  have hP := vaP_swap hP
  have hD := vaD_swap hD
  refine W.widen (k := cells + 976) (n := slots + 4880) (by omega) (by omega) ?_
  obtain ⟨hrb, hub⟩ : ra_17 = (mNoticeX u (xs (8 * i + 1)) (xs (8 * i + 2))).1 ∧ u_16 = (mNoticeX u (xs (8 * i + 1)) (xs (8 * i + 2))).2 := by rw [← hw]; exact ⟨rfl, rfl⟩
  have hs := step_mk (R9 := (mNoticeX u (xs (8 * i + 1)) (xs (8 * i + 2)))) hR0 hx9 (fun j hj => notice_1 u (xs (8 * i + 1)) (xs (8 * i + 2)) hj) (fun _ _ h => uI_notice h (xs (8 * i + 1)) (xs (8 * i + 2)))
  have hrl : ra_11 = ra_17 := hs.1.trans hrb.symm
  obtain ⟨d9, hR9⟩ := hs.2
  have hR : RR q h0 d9 k_7 z_8 f_9 u_16 := by rw [hub]; exact hR9
  refine lv_pop hx hb dL_law_548 rfl ?_
  refine lv_goto (tgt := 1182) hx hb dL_law_549 (by decide) ?_
  exact kx _ _ _ _ _ _ _ ls hR hP hD hS (lv_sub hl [0, 1, 2, 3] rfl)
