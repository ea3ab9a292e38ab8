set_option maxHeartbeats 4000000 in
set_option maxRecDepth 100000 in
theorem law_c20 {p : Program} {l : Launch} {e : Env} {s : State} {m : MethodId} {below : List Frame} {meth : Method} {c : Code} {b L : Nat} {xs : Nat → Int32} {A : Nat → Prop} {dC : Nat → ClassId} {dI : Nat → Nat → Nat} {q : Nat → ClassId} {h0 mm : Nat} {d v : Nat → Nat} {cells slots i : Nat} (C0 : lw_At p s m meth c b L xs) (hAe : A = fun q => s.heap.size ≤ q) (hN : NN s) (hXN : XN s) (hK : va_K (dC, dI) vwCl (xT q) s) (hL : 8 * i + 8 ≤ L) (hL2 : L ≤ 4096) (hRc : cells + 976 ≤ room_1.cells) (hRs : slots + 4880 ≤ room_1.slots) (kx : ∀ (d : Nat → Nat) (k : Nat → Int32) (z : gS) (f : xF) (u : mS) (H : Heap) (locs : List Loc) (ls : Array Slot), RR q h0 d k z f u → va_P (dC, dI) vwCl (va_pl z.1 f ++ mW mm v (q 0) (q 1) u) H → va_D A (va_pl z.1 f ++ mW mm v (q 0) (q 1) u) → va_S A s.heap H locs → lv_has ls 4 [(3, .int (nI (8 * i))), (2, .ref mm), (1, .ref h0), (0, .ref b)] → W p l e room_1 s m #[Value.ref b] below meth c H locs (cells + 976) (slots + 4880) (lw_Z below #[Value.ref b] s) (F0 m 1182 ls [])) {k : Nat → Int32} {z : gS} {f : xF} {u : mS} {H : Heap} {locs : List Loc} {ls : Array Slot} (hR : RR q h0 d k z f u) (hP : va_P (dC, dI) vwCl (va_pl z.1 f ++ mW mm v (q 0) (q 1) u) H) (hD : va_D A (va_pl z.1 f ++ mW mm v (q 0) (q 1) u)) (hS : va_S A s.heap H locs) (hl : lv_has ls 4 [(3, .int (nI (8 * i))), (2, .ref mm), (1, .ref h0), (0, .ref b)]) : W p l e room_1 s m #[Value.ref b] below meth c H locs cells slots (lw_Z below #[Value.ref b] s) (F0 m 832 ls []) := by
  obtain ⟨hx, hb, hr, hml, hown, hts, hX, hbl, hlocks, hgv⟩ := id C0
  have hbA : ¬ A b := by rw [hAe]; exact Nat.not_le.mpr hbl
  have hA : ∀ q : Nat, s.heap.size ≤ q → A q := fun q h => by rw [hAe]; exact h
  have hts := fun w h => hts w (wsL_law_in w h)
  have hR0 := hR
  obtain ⟨hI, hrp, ⟨hk0, hk1, hk2, hk3⟩, hz, es9, cf9, g9, hu, hg, hL⟩ := id hR
  have hk1o := hk1
  refine lv_aload_n hx hb dL_law_832 rfl (lv_at hl 2 rfl) ?_
  refine lv_aload_n hx hb dL_law_833 rfl (lv_at hl 3 rfl) ?_
  refine lv_iload_n hx hb dL_law_834 rfl (lv_at hl 0 rfl) ?_
  refine lv_iconst (v := 1) hx hb dL_law_835 (by decide) ?_
  refine lv_iadd hx hb dL_law_836 ?_
  refine lv_topi (fun y_1 ey_1 => ?_)
  obtain rfl : y_1 = nI (8 * i + 1) := ey_1.trans (nI_k _ 1 rfl)
  refine va_sld hx hb hX hbl hbA hS (vp_in_nI (by omega) (by omega)) dL_law_837 ?_
  refine lv_topi (fun y_2 ey_2 => ?_)
  obtain rfl : y_2 = xs (8 * i + 1) := ey_2.trans (by rw [nI_clamp (by omega)])
  refine lv_aload_n hx hb dL_law_838 rfl (lv_at hl 3 rfl) ?_
  refine lv_iload_n hx hb dL_law_839 rfl (lv_at hl 0 rfl) ?_
  refine lv_iconst (v := 2) hx hb dL_law_840 (by decide) ?_
  refine lv_iadd hx hb dL_law_841 ?_
  refine lv_topi (fun y_3 ey_3 => ?_)
  obtain rfl : y_3 = nI (8 * i + 2) := ey_3.trans (nI_k _ 2 rfl)
  refine va_sld hx hb hX hbl hbA hS (vp_in_nI (by omega) (by omega)) dL_law_842 ?_
  refine lv_topi (fun y_4 ey_4 => ?_)
  obtain rfl : y_4 = xs (8 * i + 2) := ey_4.trans (by rw [nI_clamp (by omega)])
  refine lv_aload_n hx hb dL_law_843 rfl (lv_at hl 3 rfl) ?_
  refine lv_iload_n hx hb dL_law_844 rfl (lv_at hl 0 rfl) ?_
  refine lv_iconst (v := 3) hx hb dL_law_845 (by decide) ?_
  refine lv_iadd hx hb dL_law_846 ?_
  refine lv_topi (fun y_5 ey_5 => ?_)
  obtain rfl : y_5 = nI (8 * i + 3) := ey_5.trans (nI_k _ 3 rfl)
  refine va_sld hx hb hX hbl hbA hS (vp_in_nI (by omega) (by omega)) dL_law_847 ?_
  refine lv_topi (fun y_6 ey_6 => ?_)
  obtain rfl : y_6 = xs (8 * i + 3) := ey_6.trans (by rw [nI_clamp (by omega)])
  obtain ⟨kk_7, hk_8⟩ := pl_at hI.2.1.1.1 hI.2.2.2.1.1
  have hPc := vaP_l hP
  refine vp_callSi (va_runV (As := [.int (xs (8 * i + 1)), .int (xs (8 * i + 2)), .int (xs (8 * i + 3))]) (rest := []) ⟨hx, hb, hml, hown, hts⟩ (y_cell l dC dI q h0 d k z f hI (xs (8 * i + 1)) (xs (8 * i + 2)) (xs (8 * i + 3)) u hrp) (cwV 3 hts gL_law_X11_cell rfl rfl rfl zh_X11_cell_149 ⟨Nat.le_of_ble_eq_true rfl, Nat.le_of_ble_eq_true rfl⟩) ⟨px_fb, va_recv hK hPc (ci := 10) (q0 := kk_7) rfl hk_8, fun U hU hW => ⟨rfl, px_to hU hW hPc hK hN hXN⟩⟩ rfl rfl hl.1 rfl (lv_room (Nat.le_of_ble_eq_true rfl)) dL_law_848 ⟨by omega, by omega⟩).run (fun r hw => ?_)
  generalize r = ra_9 at hw ⊢
  have hx9 := hw
  refine lv_pop hx hb dL_law_851 rfl ?_
  refine lv_aload_n hx hb dL_law_852 rfl (lv_at hl 1 rfl) ?_
  refine lv_aload_n hx hb dL_law_853 rfl (lv_at hl 3 rfl) ?_
  refine lv_iload_n hx hb dL_law_854 rfl (lv_at hl 0 rfl) ?_
  refine lv_iconst (v := 1) hx hb dL_law_855 (by decide) ?_
  refine lv_iadd hx hb dL_law_856 ?_
  refine lv_topi (fun y_10 ey_10 => ?_)
  obtain rfl : y_10 = nI (8 * i + 1) := ey_10.trans (nI_k _ 1 rfl)
  refine va_sld hx hb hX hbl hbA hS (vp_in_nI (by omega) (by omega)) dL_law_857 ?_
  refine lv_topi (fun y_11 ey_11 => ?_)
  obtain rfl : y_11 = xs (8 * i + 1) := ey_11.trans (by rw [nI_clamp (by omega)])
  refine lv_aload_n hx hb dL_law_858 rfl (lv_at hl 3 rfl) ?_
  refine lv_iload_n hx hb dL_law_859 rfl (lv_at hl 0 rfl) ?_
  refine lv_iconst (v := 2) hx hb dL_law_860 (by decide) ?_
  refine lv_iadd hx hb dL_law_861 ?_
  refine lv_topi (fun y_12 ey_12 => ?_)
  obtain rfl : y_12 = nI (8 * i + 2) := ey_12.trans (nI_k _ 2 rfl)
  refine va_sld hx hb hX hbl hbA hS (vp_in_nI (by omega) (by omega)) dL_law_862 ?_
  refine lv_topi (fun y_13 ey_13 => ?_)
  obtain rfl : y_13 = xs (8 * i + 2) := ey_13.trans (by rw [nI_clamp (by omega)])
  refine lv_aload_n hx hb dL_law_863 rfl (lv_at hl 3 rfl) ?_
  refine lv_iload_n hx hb dL_law_864 rfl (lv_at hl 0 rfl) ?_
  refine lv_iconst (v := 3) hx hb dL_law_865 (by decide) ?_
  refine lv_iadd hx hb dL_law_866 ?_
  refine lv_topi (fun y_14 ey_14 => ?_)
  obtain rfl : y_14 = nI (8 * i + 3) := ey_14.trans (nI_k _ 3 rfl)
  refine va_sld hx hb hX hbl hbA hS (vp_in_nI (by omega) (by omega)) dL_law_867 ?_
  refine lv_topi (fun y_15 ey_15 => ?_)
  obtain rfl : y_15 = xs (8 * i + 3) := ey_15.trans (by rw [nI_clamp (by omega)])
  have hPc := vaP_r hP
  have hKc := hK.sub (tys' := [(q 0, .int), (q 1, .boolean)]) [0, 1] rfl
  refine vp_callSi (va_runV (As := [.int (xs (8 * i + 1)), .int (xs (8 * i + 2)), .int (xs (8 * i + 3))]) (rest := []) ⟨hx, hb, hml, hown, hts⟩ (m_cell l dC dI mm v (q 0) (q 1) u (xs (8 * i + 1)) (xs (8 * i + 2)) (xs (8 * i + 3)) hu.1.2.2.1) (cwV 3 hts gL_law_X12_cell rfl rfl rfl zh_X12_cell_150 ⟨Nat.le_of_ble_eq_true rfl, Nat.le_of_ble_eq_true rfl⟩) ⟨pw_fb, va_recv hKc hPc (ci := 11) (q0 := 0) rfl rfl, fun U hU hW => ⟨rfl, pw_to hU hW hPc hKc hN⟩⟩ rfl rfl hl.1 rfl (lv_room (Nat.le_of_ble_eq_true rfl)) dL_law_868 ⟨by omega, by omega⟩).run (fun r hw => ?_)
  generalize r = ra_16 at hw ⊢
  have hrl : ra_9 = ra_16 := hx9.trans hw.symm
  refine lv_pop hx hb dL_law_871 rfl ?_
  refine lv_goto (tgt := 1182) hx hb dL_law_872 (by decide) ?_
  refine W.widen (k := cells + 976) (n := slots + 4880) (by omega) (by omega) ?_
  exact kx _ _ _ _ _ _ _ ls hR hP hD hS (lv_sub hl [0, 1, 2, 3] rfl)
set_option maxHeartbeats 4000000 in
set_option maxRecDepth 100000 in
theorem law_c21 {p : Program} {l : Launch} {e : Env} {s : State} {m : MethodId} {below : List Frame} {meth : Method} {c : Code} {b L : Nat} {xs : Nat → Int32} {A : Nat → Prop} {dC : Nat → ClassId} {dI : Nat → Nat → Nat} {q : Nat → ClassId} {h0 mm : Nat} {d v : Nat → Nat} {cells slots i : Nat} (C0 : lw_At p s m meth c b L xs) (hAe : A = fun q => s.heap.size ≤ q) (hN : NN s) (hXN : XN s) (hK : va_K (dC, dI) vwCl (xT q) s) (hL : 8 * i + 8 ≤ L) (hL2 : L ≤ 4096) (hRc : cells + 976 ≤ room_1.cells) (hRs : slots + 4880 ≤ room_1.slots) (kx : ∀ (d : Nat → Nat) (k : Nat → Int32) (z : gS) (f : xF) (u : mS) (H : Heap) (locs : List Loc) (ls : Array Slot), RR q h0 d k z f u → va_P (dC, dI) vwCl (va_pl z.1 f ++ mW mm v (q 0) (q 1) u) H → va_D A (va_pl z.1 f ++ mW mm v (q 0) (q 1) u) → va_S A s.heap H locs → lv_has ls 4 [(3, .int (nI (8 * i))), (2, .ref mm), (1, .ref h0), (0, .ref b)] → W p l e room_1 s m #[Value.ref b] below meth c H locs (cells + 976) (slots + 4880) (lw_Z below #[Value.ref b] s) (F0 m 1182 ls [])) {k : Nat → Int32} {z : gS} {f : xF} {u : mS} {H : Heap} {locs : List Loc} {ls : Array Slot} (hR : RR q h0 d k z f u) (hP : va_P (dC, dI) vwCl (va_pl z.1 f ++ mW mm v (q 0) (q 1) u) H) (hD : va_D A (va_pl z.1 f ++ mW mm v (q 0) (q 1) u)) (hS : va_S A s.heap H locs) (hl : lv_has ls 4 [(3, .int (nI (8 * i))), (2, .ref mm), (1, .ref h0), (0, .ref b)]) : W p l e room_1 s m #[Value.ref b] below meth c H locs cells slots (lw_Z below #[Value.ref b] s) (F0 m 875 ls []) := by
  obtain ⟨hx, hb, hr, hml, hown, hts, hX, hbl, hlocks, hgv⟩ := id C0
  have hbA : ¬ A b := by rw [hAe]; exact Nat.not_le.mpr hbl
  have hA : ∀ q : Nat, s.heap.size ≤ q → A q := fun q h => by rw [hAe]; exact h
  have hts := fun w h => hts w (wsL_law_in w h)
  have hR0 := hR
  obtain ⟨hI, hrp, ⟨hk0, hk1, hk2, hk3⟩, hz, es9, cf9, g9, hu, hg, hL⟩ := id hR
  have hk1o := hk1
  refine lv_aload_n hx hb dL_law_875 rfl (lv_at hl 2 rfl) ?_
  refine lv_aload_n hx hb dL_law_876 rfl (lv_at hl 3 rfl) ?_
  refine lv_iload_n hx hb dL_law_877 rfl (lv_at hl 0 rfl) ?_
  refine lv_iconst (v := 1) hx hb dL_law_878 (by decide) ?_
  refine lv_iadd hx hb dL_law_879 ?_
  refine lv_topi (fun y_1 ey_1 => ?_)
  obtain rfl : y_1 = nI (8 * i + 1) := ey_1.trans (nI_k _ 1 rfl)
  refine va_sld hx hb hX hbl hbA hS (vp_in_nI (by omega) (by omega)) dL_law_880 ?_
  refine lv_topi (fun y_2 ey_2 => ?_)
  obtain rfl : y_2 = xs (8 * i + 1) := ey_2.trans (by rw [nI_clamp (by omega)])
  refine lv_aload_n hx hb dL_law_881 rfl (lv_at hl 3 rfl) ?_
  refine lv_iload_n hx hb dL_law_882 rfl (lv_at hl 0 rfl) ?_
  refine lv_iconst (v := 2) hx hb dL_law_883 (by decide) ?_
  refine lv_iadd hx hb dL_law_884 ?_
  refine lv_topi (fun y_3 ey_3 => ?_)
  obtain rfl : y_3 = nI (8 * i + 2) := ey_3.trans (nI_k _ 2 rfl)
  refine va_sld hx hb hX hbl hbA hS (vp_in_nI (by omega) (by omega)) dL_law_885 ?_
  refine lv_topi (fun y_4 ey_4 => ?_)
  obtain rfl : y_4 = xs (8 * i + 2) := ey_4.trans (by rw [nI_clamp (by omega)])
  refine lv_aload_n hx hb dL_law_886 rfl (lv_at hl 3 rfl) ?_
  refine lv_iload_n hx hb dL_law_887 rfl (lv_at hl 0 rfl) ?_
  refine lv_iconst (v := 3) hx hb dL_law_888 (by decide) ?_
  refine lv_iadd hx hb dL_law_889 ?_
  refine lv_topi (fun y_5 ey_5 => ?_)
  obtain rfl : y_5 = nI (8 * i + 3) := ey_5.trans (nI_k _ 3 rfl)
  refine va_sld hx hb hX hbl hbA hS (vp_in_nI (by omega) (by omega)) dL_law_890 ?_
  refine lv_topi (fun y_6 ey_6 => ?_)
  obtain rfl : y_6 = xs (8 * i + 3) := ey_6.trans (by rw [nI_clamp (by omega)])
  obtain ⟨kk_7, hk_8⟩ := pl_at hI.2.1.1.1 hI.2.2.2.1.1
  have hPc := vaP_l hP
  refine vp_callSi (va_runV (As := [.int (xs (8 * i + 1)), .int (xs (8 * i + 2)), .int (xs (8 * i + 3))]) (rest := []) ⟨hx, hb, hml, hown, hts⟩ (y_piece l dC dI q h0 d k z f hI (xs (8 * i + 1)) (xs (8 * i + 2)) (xs (8 * i + 3)) u hrp hk0 hk1 hk2 hk3) (cwV 3 hts gL_law_X11_piece rfl rfl rfl zh_X11_piece_151 ⟨Nat.le_of_ble_eq_true rfl, Nat.le_of_ble_eq_true rfl⟩) ⟨px_fb, va_recv hK hPc (ci := 10) (q0 := kk_7) rfl hk_8, fun U hU hW => ⟨rfl, px_to hU hW hPc hK hN hXN⟩⟩ rfl rfl hl.1 rfl (lv_room (Nat.le_of_ble_eq_true rfl)) dL_law_891 ⟨by omega, by omega⟩).run (fun r hw => ?_)
  generalize r = ra_9 at hw ⊢
  have hx9 := hw
  refine lv_pop hx hb dL_law_894 rfl ?_
  refine lv_aload_n hx hb dL_law_895 rfl (lv_at hl 1 rfl) ?_
  refine lv_aload_n hx hb dL_law_896 rfl (lv_at hl 3 rfl) ?_
  refine lv_iload_n hx hb dL_law_897 rfl (lv_at hl 0 rfl) ?_
  refine lv_iconst (v := 1) hx hb dL_law_898 (by decide) ?_
  refine lv_iadd hx hb dL_law_899 ?_
  refine lv_topi (fun y_10 ey_10 => ?_)
  obtain rfl : y_10 = nI (8 * i + 1) := ey_10.trans (nI_k _ 1 rfl)
  refine va_sld hx hb hX hbl hbA hS (vp_in_nI (by omega) (by omega)) dL_law_900 ?_
  refine lv_topi (fun y_11 ey_11 => ?_)
  obtain rfl : y_11 = xs (8 * i + 1) := ey_11.trans (by rw [nI_clamp (by omega)])
  refine lv_aload_n hx hb dL_law_901 rfl (lv_at hl 3 rfl) ?_
  refine lv_iload_n hx hb dL_law_902 rfl (lv_at hl 0 rfl) ?_
  refine lv_iconst (v := 2) hx hb dL_law_903 (by decide) ?_
  refine lv_iadd hx hb dL_law_904 ?_
  refine lv_topi (fun y_12 ey_12 => ?_)
  obtain rfl : y_12 = nI (8 * i + 2) := ey_12.trans (nI_k _ 2 rfl)
  refine va_sld hx hb hX hbl hbA hS (vp_in_nI (by omega) (by omega)) dL_law_905 ?_
  refine lv_topi (fun y_13 ey_13 => ?_)
  obtain rfl : y_13 = xs (8 * i + 2) := ey_13.trans (by rw [nI_clamp (by omega)])
  refine lv_aload_n hx hb dL_law_906 rfl (lv_at hl 3 rfl) ?_
  refine lv_iload_n hx hb dL_law_907 rfl (lv_at hl 0 rfl) ?_
  refine lv_iconst (v := 3) hx hb dL_law_908 (by decide) ?_
  refine lv_iadd hx hb dL_law_909 ?_
  refine lv_topi (fun y_14 ey_14 => ?_)
  obtain rfl : y_14 = nI (8 * i + 3) := ey_14.trans (nI_k _ 3 rfl)
  refine va_sld hx hb hX hbl hbA hS (vp_in_nI (by omega) (by omega)) dL_law_910 ?_
  refine lv_topi (fun y_15 ey_15 => ?_)
  obtain rfl : y_15 = xs (8 * i + 3) := ey_15.trans (by rw [nI_clamp (by omega)])
  have hPc := vaP_r hP
  have hKc := hK.sub (tys' := [(q 0, .int), (q 1, .boolean)]) [0, 1] rfl
  refine vp_callSi (va_runV (As := [.int (xs (8 * i + 1)), .int (xs (8 * i + 2)), .int (xs (8 * i + 3))]) (rest := []) ⟨hx, hb, hml, hown, hts⟩ (m_piece l dC dI mm v (q 0) (q 1) u (xs (8 * i + 1)) (xs (8 * i + 2)) (xs (8 * i + 3)) hu.1.1 (inv_pc (uI_M hu))) (cwV 3 hts gL_law_X12_piece rfl rfl rfl zh_X12_piece_152 ⟨Nat.le_of_ble_eq_true rfl, Nat.le_of_ble_eq_true rfl⟩) ⟨pw_fb, va_recv hKc hPc (ci := 11) (q0 := 0) rfl rfl, fun U hU hW => ⟨rfl, pw_to hU hW hPc hKc hN⟩⟩ rfl rfl hl.1 rfl (lv_room (Nat.le_of_ble_eq_true rfl)) dL_law_911 ⟨by omega, by omega⟩).run (fun r hw => ?_)
  generalize r = ra_16 at hw ⊢
  have hrl : ra_9 = ra_16 := hx9.trans hw.symm
  refine lv_pop hx hb dL_law_914 rfl ?_
  refine lv_goto (tgt := 1182) hx hb dL_law_915 (by decide) ?_
  refine W.widen (k := cells + 976) (n := slots + 4880) (by omega) (by omega) ?_
  exact kx _ _ _ _ _ _ _ ls hR hP hD hS (lv_sub hl [0, 1, 2, 3] rfl)
set_option maxHeartbeats 4000000 in
set_option maxRecDepth 100000 in
theorem law_c22 {p : Program} {l : Launch} {e : Env} {s : State} {m : MethodId} {below : List Frame} {meth : Method} {c : Code} {b L : Nat} {xs : Nat → Int32} {A : Nat → Prop} {dC : Nat → ClassId} {dI : Nat → Nat → Nat} {q : Nat → ClassId} {h0 mm : Nat} {d v : Nat → Nat} {cells slots i : Nat} (C0 : lw_At p s m meth c b L xs) (hAe : A = fun q => s.heap.size ≤ q) (hN : NN s) (hXN : XN s) (hK : va_K (dC, dI) vwCl (xT q) s) (hL : 8 * i + 8 ≤ L) (hL2 : L ≤ 4096) (hRc : cells + 976 ≤ room_1.cells) (hRs : slots + 4880 ≤ room_1.slots) (kx : ∀ (d : Nat → Nat) (k : Nat → Int32) (z : gS) (f : xF) (u : mS) (H : Heap) (locs : List Loc) (ls : Array Slot), RR q h0 d k z f u → va_P (dC, dI) vwCl (va_pl z.1 f ++ mW mm v (q 0) (q 1) u) H → va_D A (va_pl z.1 f ++ mW mm v (q 0) (q 1) u) → va_S A s.heap H locs → lv_has ls 4 [(3, .int (nI (8 * i))), (2, .ref mm), (1, .ref h0), (0, .ref b)] → W p l e room_1 s m #[Value.ref b] below meth c H locs (cells + 976) (slots + 4880) (lw_Z below #[Value.ref b] s) (F0 m 1182 ls [])) {k : Nat → Int32} {z : gS} {f : xF} {u : mS} {H : Heap} {locs : List Loc} {ls : Array Slot} (hR : RR q h0 d k z f u) (hP : va_P (dC, dI) vwCl (va_pl z.1 f ++ mW mm v (q 0) (q 1) u) H) (hD : va_D A (va_pl z.1 f ++ mW mm v (q 0) (q 1) u)) (hS : va_S A s.heap H locs) (hl : lv_has ls 4 [(3, .int (nI (8 * i))), (2, .ref mm), (1, .ref h0), (0, .ref b)]) : W p l e room_1 s m #[Value.ref b] below meth c H locs cells slots (lw_Z below #[Value.ref b] s) (F0 m 918 ls []) := by
  obtain ⟨hx, hb, hr, hml, hown, hts, hX, hbl, hlocks, hgv⟩ := id C0
  have hbA : ¬ A b := by rw [hAe]; exact Nat.not_le.mpr hbl
  have hA : ∀ q : Nat, s.heap.size ≤ q → A q := fun q h => by rw [hAe]; exact h
  have hts := fun w h => hts w (wsL_law_in w h)
  have hR0 := hR
  obtain ⟨hI, hrp, ⟨hk0, hk1, hk2, hk3⟩, hz, es9, cf9, g9, hu, hg, hL⟩ := id hR
  have hk1o := hk1
  refine lv_aload_n hx hb dL_law_918 rfl (lv_at hl 2 rfl) ?_
  refine lv_aload_n hx hb dL_law_919 rfl (lv_at hl 3 rfl) ?_
  refine lv_iload_n hx hb dL_law_920 rfl (lv_at hl 0 rfl) ?_
  refine lv_iconst (v := 1) hx hb dL_law_921 (by decide) ?_
  refine lv_iadd hx hb dL_law_922 ?_
  refine lv_topi (fun y_1 ey_1 => ?_)
  obtain rfl : y_1 = nI (8 * i + 1) := ey_1.trans (nI_k _ 1 rfl)
  refine va_sld hx hb hX hbl hbA hS (vp_in_nI (by omega) (by omega)) dL_law_923 ?_
  refine lv_topi (fun y_2 ey_2 => ?_)
  obtain rfl : y_2 = xs (8 * i + 1) := ey_2.trans (by rw [nI_clamp (by omega)])
  refine lv_aload_n hx hb dL_law_924 rfl (lv_at hl 3 rfl) ?_
  refine lv_iload_n hx hb dL_law_925 rfl (lv_at hl 0 rfl) ?_
  refine lv_iconst (v := 2) hx hb dL_law_926 (by decide) ?_
  refine lv_iadd hx hb dL_law_927 ?_
  refine lv_topi (fun y_3 ey_3 => ?_)
  obtain rfl : y_3 = nI (8 * i + 2) := ey_3.trans (nI_k _ 2 rfl)
  refine va_sld hx hb hX hbl hbA hS (vp_in_nI (by omega) (by omega)) dL_law_928 ?_
  refine lv_topi (fun y_4 ey_4 => ?_)
  obtain rfl : y_4 = xs (8 * i + 2) := ey_4.trans (by rw [nI_clamp (by omega)])
  obtain ⟨kk_5, hk_6⟩ := pl_at hI.2.1.1.1 hI.2.2.2.1.1
  have hPc := vaP_l hP
  refine vp_callSi (va_runV (As := [.int (xs (8 * i + 1)), .int (xs (8 * i + 2))]) (rest := []) ⟨hx, hb, hml, hown, hts⟩ (x_item l dC dI q h0 d k z f hI (xs (8 * i + 1)) (xs (8 * i + 2))) (cwV 2 hts gL_law_X11_item rfl rfl rfl zh_X11_item_153 ⟨Nat.le_of_ble_eq_true rfl, Nat.le_of_ble_eq_true rfl⟩) ⟨px_fb, va_recv hK hPc (ci := 10) (q0 := kk_5) rfl hk_6, fun U hU hW => ⟨rfl, px_to hU hW hPc hK hN hXN⟩⟩ rfl rfl hl.1 rfl (lv_room (Nat.le_of_ble_eq_true rfl)) dL_law_929 ⟨by omega, by omega⟩).run (fun r hw => ?_)
  generalize r = ra_7 at hw ⊢
  have hx9 := hw
  refine lv_pop hx hb dL_law_932 rfl ?_
  refine lv_aload_n hx hb dL_law_933 rfl (lv_at hl 1 rfl) ?_
  refine lv_aload_n hx hb dL_law_934 rfl (lv_at hl 3 rfl) ?_
  refine lv_iload_n hx hb dL_law_935 rfl (lv_at hl 0 rfl) ?_
  refine lv_iconst (v := 1) hx hb dL_law_936 (by decide) ?_
  refine lv_iadd hx hb dL_law_937 ?_
  refine lv_topi (fun y_8 ey_8 => ?_)
  obtain rfl : y_8 = nI (8 * i + 1) := ey_8.trans (nI_k _ 1 rfl)
  refine va_sld hx hb hX hbl hbA hS (vp_in_nI (by omega) (by omega)) dL_law_938 ?_
  refine lv_topi (fun y_9 ey_9 => ?_)
  obtain rfl : y_9 = xs (8 * i + 1) := ey_9.trans (by rw [nI_clamp (by omega)])
  refine lv_aload_n hx hb dL_law_939 rfl (lv_at hl 3 rfl) ?_
  refine lv_iload_n hx hb dL_law_940 rfl (lv_at hl 0 rfl) ?_
  refine lv_iconst (v := 2) hx hb dL_law_941 (by decide) ?_
  refine lv_iadd hx hb dL_law_942 ?_
  refine lv_topi (fun y_10 ey_10 => ?_)
  obtain rfl : y_10 = nI (8 * i + 2) := ey_10.trans (nI_k _ 2 rfl)
  refine va_sld hx hb hX hbl hbA hS (vp_in_nI (by omega) (by omega)) dL_law_943 ?_
  refine lv_topi (fun y_11 ey_11 => ?_)
  obtain rfl : y_11 = xs (8 * i + 2) := ey_11.trans (by rw [nI_clamp (by omega)])
  have hPc := vaP_r hP
  have hKc := hK.sub (tys' := [(q 0, .int), (q 1, .boolean)]) [0, 1] rfl
  refine vp_callSi (va_runV (As := [.int (xs (8 * i + 1)), .int (xs (8 * i + 2))]) (rest := []) ⟨hx, hb, hml, hown, hts⟩ (m_item l dC dI mm v (q 0) (q 1) u (xs (8 * i + 1)) (xs (8 * i + 2)) hu.1.1 (inv_pc (uI_M hu))) (cwV 2 hts gL_law_X12_item rfl rfl rfl zh_X12_item_154 ⟨Nat.le_of_ble_eq_true rfl, Nat.le_of_ble_eq_true rfl⟩) ⟨pw_fb, va_recv hKc hPc (ci := 11) (q0 := 0) rfl rfl, fun U hU hW => ⟨rfl, pw_to hU hW hPc hKc hN⟩⟩ rfl rfl hl.1 rfl (lv_room (Nat.le_of_ble_eq_true rfl)) dL_law_944 ⟨by omega, by omega⟩).run (fun r hw => ?_)
  generalize r = ra_12 at hw ⊢
  refine lv_pop hx hb dL_law_947 rfl ?_
  refine lv_goto (tgt := 1182) hx hb dL_law_948 (by decide) ?_
  refine W.widen (k := cells + 976) (n := slots + 4880) (by omega) (by omega) ?_
  exact kx _ _ _ _ _ _ _ ls hR hP hD hS (lv_sub hl [0, 1, 2, 3] rfl)
set_option maxHeartbeats 4000000 in
set_option maxRecDepth 100000 in
theorem law_c23 {p : Program} {l : Launch} {e : Env} {s : State} {m : MethodId} {below : List Frame} {meth : Method} {c : Code} {b L : Nat} {xs : Nat → Int32} {A : Nat → Prop} {dC : Nat → ClassId} {dI : Nat → Nat → Nat} {q : Nat → ClassId} {h0 mm : Nat} {d v : Nat → Nat} {cells slots i : Nat} (C0 : lw_At p s m meth c b L xs) (hAe : A = fun q => s.heap.size ≤ q) (hN : NN s) (hXN : XN s) (hK : va_K (dC, dI) vwCl (xT q) s) (hL : 8 * i + 8 ≤ L) (hL2 : L ≤ 4096) (hRc : cells + 976 ≤ room_1.cells) (hRs : slots + 4880 ≤ room_1.slots) (kx : ∀ (d : Nat → Nat) (k : Nat → Int32) (z : gS) (f : xF) (u : mS) (H : Heap) (locs : List Loc) (ls : Array Slot), RR q h0 d k z f u → va_P (dC, dI) vwCl (va_pl z.1 f ++ mW mm v (q 0) (q 1) u) H → va_D A (va_pl z.1 f ++ mW mm v (q 0) (q 1) u) → va_S A s.heap H locs → lv_has ls 4 [(3, .int (nI (8 * i))), (2, .ref mm), (1, .ref h0), (0, .ref b)] → W p l e room_1 s m #[Value.ref b] below meth c H locs (cells + 976) (slots + 4880) (lw_Z below #[Value.ref b] s) (F0 m 1182 ls [])) {k : Nat → Int32} {z : gS} {f : xF} {u : mS} {H : Heap} {locs : List Loc} {ls : Array Slot} (hR : RR q h0 d k z f u) (hP : va_P (dC, dI) vwCl (va_pl z.1 f ++ mW mm v (q 0) (q 1) u) H) (hD : va_D A (va_pl z.1 f ++ mW mm v (q 0) (q 1) u)) (hS : va_S A s.heap H locs) (hl : lv_has ls 4 [(3, .int (nI (8 * i))), (2, .ref mm), (1, .ref h0), (0, .ref b)]) : W p l e room_1 s m #[Value.ref b] below meth c H locs cells slots (lw_Z below #[Value.ref b] s) (F0 m 951 ls []) := by
  obtain ⟨hx, hb, hr, hml, hown, hts, hX, hbl, hlocks, hgv⟩ := id C0
  have hbA : ¬ A b := by rw [hAe]; exact Nat.not_le.mpr hbl
  have hA : ∀ q : Nat, s.heap.size ≤ q → A q := fun q h => by rw [hAe]; exact h
  have hts := fun w h => hts w (wsL_law_in w h)
  have hR0 := hR
  obtain ⟨hI, hrp, ⟨hk0, hk1, hk2, hk3⟩, hz, es9, cf9, g9, hu, hg, hL⟩ := id hR
  have hk1o := hk1
  refine lv_aload_n hx hb dL_law_951 rfl (lv_at hl 2 rfl) ?_
  refine lv_aload_n hx hb dL_law_952 rfl (lv_at hl 3 rfl) ?_
  refine lv_iload_n hx hb dL_law_953 rfl (lv_at hl 0 rfl) ?_
  refine lv_iconst (v := 1) hx hb dL_law_954 (by decide) ?_
  refine lv_iadd hx hb dL_law_955 ?_
  refine lv_topi (fun y_1 ey_1 => ?_)
  obtain rfl : y_1 = nI (8 * i + 1) := ey_1.trans (nI_k _ 1 rfl)
  refine va_sld hx hb hX hbl hbA hS (vp_in_nI (by omega) (by omega)) dL_law_956 ?_
  refine lv_topi (fun y_2 ey_2 => ?_)
  obtain rfl : y_2 = xs (8 * i + 1) := ey_2.trans (by rw [nI_clamp (by omega)])
  refine lv_aload_n hx hb dL_law_957 rfl (lv_at hl 3 rfl) ?_
  refine lv_iload_n hx hb dL_law_958 rfl (lv_at hl 0 rfl) ?_
  refine lv_iconst (v := 2) hx hb dL_law_959 (by decide) ?_
  refine lv_iadd hx hb dL_law_960 ?_
  refine lv_topi (fun y_3 ey_3 => ?_)
  obtain rfl : y_3 = nI (8 * i + 2) := ey_3.trans (nI_k _ 2 rfl)
  refine va_sld hx hb hX hbl hbA hS (vp_in_nI (by omega) (by omega)) dL_law_961 ?_
  refine lv_topi (fun y_4 ey_4 => ?_)
  obtain rfl : y_4 = xs (8 * i + 2) := ey_4.trans (by rw [nI_clamp (by omega)])
  obtain ⟨kk_5, hk_6⟩ := pl_at hI.2.1.1.1 hI.2.2.2.1.1
  have hPc := vaP_l hP
  refine vp_callSi (va_runV (As := [.int (xs (8 * i + 1)), .int (xs (8 * i + 2))]) (rest := []) ⟨hx, hb, hml, hown, hts⟩ (y_shortOf l dC dI q h0 d k z f hI (xs (8 * i + 1)) (xs (8 * i + 2)) u hrp) (cwV 2 hts gL_law_X11_shortOf rfl rfl rfl zh_X11_shortOf_155 ⟨Nat.le_of_ble_eq_true rfl, Nat.le_of_ble_eq_true rfl⟩) ⟨px_fb, va_recv hK hPc (ci := 10) (q0 := kk_5) rfl hk_6, fun U hU hW => ⟨rfl, px_to hU hW hPc hK hN hXN⟩⟩ rfl rfl hl.1 rfl (lv_room (Nat.le_of_ble_eq_true rfl)) dL_law_962 ⟨by omega, by omega⟩).run (fun r hw => ?_)
  generalize r = ra_7 at hw ⊢
  have hx9 := hw
  refine lv_pop hx hb dL_law_965 rfl ?_
  refine lv_aload_n hx hb dL_law_966 rfl (lv_at hl 1 rfl) ?_
  refine lv_aload_n hx hb dL_law_967 rfl (lv_at hl 3 rfl) ?_
  refine lv_iload_n hx hb dL_law_968 rfl (lv_at hl 0 rfl) ?_
  refine lv_iconst (v := 1) hx hb dL_law_969 (by decide) ?_
  refine lv_iadd hx hb dL_law_970 ?_
  refine lv_topi (fun y_8 ey_8 => ?_)
  obtain rfl : y_8 = nI (8 * i + 1) := ey_8.trans (nI_k _ 1 rfl)
  refine va_sld hx hb hX hbl hbA hS (vp_in_nI (by omega) (by omega)) dL_law_971 ?_
  refine lv_topi (fun y_9 ey_9 => ?_)
  obtain rfl : y_9 = xs (8 * i + 1) := ey_9.trans (by rw [nI_clamp (by omega)])
  refine lv_aload_n hx hb dL_law_972 rfl (lv_at hl 3 rfl) ?_
  refine lv_iload_n hx hb dL_law_973 rfl (lv_at hl 0 rfl) ?_
  refine lv_iconst (v := 2) hx hb dL_law_974 (by decide) ?_
  refine lv_iadd hx hb dL_law_975 ?_
  refine lv_topi (fun y_10 ey_10 => ?_)
  obtain rfl : y_10 = nI (8 * i + 2) := ey_10.trans (nI_k _ 2 rfl)
  refine va_sld hx hb hX hbl hbA hS (vp_in_nI (by omega) (by omega)) dL_law_976 ?_
  refine lv_topi (fun y_11 ey_11 => ?_)
  obtain rfl : y_11 = xs (8 * i + 2) := ey_11.trans (by rw [nI_clamp (by omega)])
  have hPc := vaP_r hP
  have hKc := hK.sub (tys' := [(q 0, .int), (q 1, .boolean)]) [0, 1] rfl
  refine vp_callSi (va_runV (As := [.int (xs (8 * i + 1)), .int (xs (8 * i + 2))]) (rest := []) ⟨hx, hb, hml, hown, hts⟩ (m_shortOf l dC dI mm v (q 0) (q 1) u (xs (8 * i + 1)) (xs (8 * i + 2)) hu.1.2.2.1) (cwV 2 hts gL_law_X12_shortOf rfl rfl rfl zh_X12_shortOf_156 ⟨Nat.le_of_ble_eq_true rfl, Nat.le_of_ble_eq_true rfl⟩) ⟨pw_fb, va_recv hKc hPc (ci := 11) (q0 := 0) rfl rfl, fun U hU hW => ⟨rfl, pw_to hU hW hPc hKc hN⟩⟩ rfl rfl hl.1 rfl (lv_room (Nat.le_of_ble_eq_true rfl)) dL_law_977 ⟨by omega, by omega⟩).run (fun r hw => ?_)
  generalize r = ra_12 at hw ⊢
  have hrl : ra_7 = ra_12 := hx9.trans hw.symm
  refine lv_pop hx hb dL_law_980 rfl ?_
  refine lv_goto (tgt := 1182) hx hb dL_law_981 (by decide) ?_
  refine W.widen (k := cells + 976) (n := slots + 4880) (by omega) (by omega) ?_
  exact kx _ _ _ _ _ _ _ ls hR hP hD hS (lv_sub hl [0, 1, 2, 3] rfl)
set_option maxHeartbeats 4000000 in
set_option maxRecDepth 100000 in
theorem law_c24 {p : Program} {l : Launch} {e : Env} {s : State} {m : MethodId} {below : List Frame} {meth : Method} {c : Code} {b L : Nat} {xs : Nat → Int32} {A : Nat → Prop} {dC : Nat → ClassId} {dI : Nat → Nat → Nat} {q : Nat → ClassId} {h0 mm : Nat} {d v : Nat → Nat} {cells slots i : Nat} (C0 : lw_At p s m meth c b L xs) (hAe : A = fun q => s.heap.size ≤ q) (hN : NN s) (hXN : XN s) (hK : va_K (dC, dI) vwCl (xT q) s) (hL : 8 * i + 8 ≤ L) (hL2 : L ≤ 4096) (hRc : cells + 976 ≤ room_1.cells) (hRs : slots + 4880 ≤ room_1.slots) (kx : ∀ (d : Nat → Nat) (k : Nat → Int32) (z : gS) (f : xF) (u : mS) (H : Heap) (locs : List Loc) (ls : Array Slot), RR q h0 d k z f u → va_P (dC, dI) vwCl (va_pl z.1 f ++ mW mm v (q 0) (q 1) u) H → va_D A (va_pl z.1 f ++ mW mm v (q 0) (q 1) u) → va_S A s.heap H locs → lv_has ls 4 [(3, .int (nI (8 * i))), (2, .ref mm), (1, .ref h0), (0, .ref b)] → W p l e room_1 s m #[Value.ref b] below meth c H locs (cells + 976) (slots + 4880) (lw_Z below #[Value.ref b] s) (F0 m 1182 ls [])) {k : Nat → Int32} {z : gS} {f : xF} {u : mS} {H : Heap} {locs : List Loc} {ls : Array Slot} (hR : RR q h0 d k z f u) (hP : va_P (dC, dI) vwCl (va_pl z.1 f ++ mW mm v (q 0) (q 1) u) H) (hD : va_D A (va_pl z.1 f ++ mW mm v (q 0) (q 1) u)) (hS : va_S A s.heap H locs) (hl : lv_has ls 4 [(3, .int (nI (8 * i))), (2, .ref mm), (1, .ref h0), (0, .ref b)]) : W p l e room_1 s m #[Value.ref b] below meth c H locs cells slots (lw_Z below #[Value.ref b] s) (F0 m 984 ls []) := by
  obtain ⟨hx, hb, hr, hml, hown, hts, hX, hbl, hlocks, hgv⟩ := id C0
  have hbA : ¬ A b := by rw [hAe]; exact Nat.not_le.mpr hbl
  have hA : ∀ q : Nat, s.heap.size ≤ q → A q := fun q h => by rw [hAe]; exact h
  have hts := fun w h => hts w (wsL_law_in w h)
  have hR0 := hR
  obtain ⟨hI, hrp, ⟨hk0, hk1, hk2, hk3⟩, hz, es9, cf9, g9, hu, hg, hL⟩ := id hR
  have hk1o := hk1
  refine lv_aload_n hx hb dL_law_984 rfl (lv_at hl 2 rfl) ?_
  refine lv_aload_n hx hb dL_law_985 rfl (lv_at hl 3 rfl) ?_
  refine lv_iload_n hx hb dL_law_986 rfl (lv_at hl 0 rfl) ?_
  refine lv_iconst (v := 1) hx hb dL_law_987 (by decide) ?_
  refine lv_iadd hx hb dL_law_988 ?_
  refine lv_topi (fun y_1 ey_1 => ?_)
  obtain rfl : y_1 = nI (8 * i + 1) := ey_1.trans (nI_k _ 1 rfl)
  refine va_sld hx hb hX hbl hbA hS (vp_in_nI (by omega) (by omega)) dL_law_989 ?_
  refine lv_topi (fun y_2 ey_2 => ?_)
  obtain rfl : y_2 = xs (8 * i + 1) := ey_2.trans (by rw [nI_clamp (by omega)])
  refine lv_aload_n hx hb dL_law_990 rfl (lv_at hl 3 rfl) ?_
  refine lv_iload_n hx hb dL_law_991 rfl (lv_at hl 0 rfl) ?_
  refine lv_iconst (v := 2) hx hb dL_law_992 (by decide) ?_
  refine lv_iadd hx hb dL_law_993 ?_
  refine lv_topi (fun y_3 ey_3 => ?_)
  obtain rfl : y_3 = nI (8 * i + 2) := ey_3.trans (nI_k _ 2 rfl)
  refine va_sld hx hb hX hbl hbA hS (vp_in_nI (by omega) (by omega)) dL_law_994 ?_
  refine lv_topi (fun y_4 ey_4 => ?_)
  obtain rfl : y_4 = xs (8 * i + 2) := ey_4.trans (by rw [nI_clamp (by omega)])
  obtain ⟨kk_5, hk_6⟩ := pl_at hI.2.1.1.1 hI.2.2.2.1.1
  have hPc := vaP_l hP
  have hDc := vaD_l hD
  have hFc := fr_left hD hS hA
  refine va_calli (va_runV (As := [.int (xs (8 * i + 1)), .int (xs (8 * i + 2))]) (rest := []) ⟨hx, hb, hml, hown, hts⟩ (y_broken l dC dI q h0 d k z f hI (xs (8 * i + 1)) (xs (8 * i + 2)) u hrp hk0 hk1 hk2 hk3 hu.2.1 (uI_pc hu) H.size) (cwV 2 hts gL_law_X11_broken rfl rfl rfl zh_X11_broken_157 ⟨Nat.le_of_ble_eq_true rfl, Nat.le_of_ble_eq_true rfl⟩) ⟨gx_fb, va_recv hK hPc (ci := 10) (q0 := kk_5) rfl hk_6, fun U hU hW => ⟨rfl, by rw [hU], px_to hU hW hPc hK hN hXN, hDc.weaken (fun _ _ _ _ => trivial)⟩⟩ rfl rfl hl.1 rfl (lv_room (Nat.le_of_ble_eq_true rfl)) dL_law_995 ⟨by omega, by omega⟩) hS (fun q _ h => hFc q h) hFc (fun ra_11 w_10 t H1 locs ht hvm hw hB hz1 hk1 hS => ?_)
  obtain ⟨hP1, hD1⟩ := hB
  rw [ht] at hP1
  obtain ⟨hP, hD⟩ := jn hP hD hk1 hFc hP1 hD1
  generalize H1 = H at hP hS ⊢
  obtain ⟨k_7, z_8, f_9⟩ := w_10
  have hP : va_P (dC, dI) vwCl (va_pl z_8.1 f_9 ++ mW mm v (q 0) (q 1) u) H := hP
  have hD : va_D A (va_pl z_8.1 f_9 ++ mW mm v (q 0) (q 1) u) := hD
  refine W.widen (k := cells + 976) (n := slots + 4880) (by omega) (by omega) ?_
  have hx9 := hw
  refine lv_pop hx hb dL_law_998 rfl ?_
  refine lv_aload_n hx hb dL_law_999 rfl (lv_at hl 1 rfl) ?_
  refine lv_aload_n hx hb dL_law_1000 rfl (lv_at hl 3 rfl) ?_
  refine lv_iload_n hx hb dL_law_1001 rfl (lv_at hl 0 rfl) ?_
  refine lv_iconst (v := 1) hx hb dL_law_1002 (by decide) ?_
  refine lv_iadd hx hb dL_law_1003 ?_
  refine lv_topi (fun y_12 ey_12 => ?_)
  obtain rfl : y_12 = nI (8 * i + 1) := ey_12.trans (nI_k _ 1 rfl)
  refine va_sld hx hb hX hbl hbA hS (vp_in_nI (by omega) (by omega)) dL_law_1004 ?_
  refine lv_topi (fun y_13 ey_13 => ?_)
  obtain rfl : y_13 = xs (8 * i + 1) := ey_13.trans (by rw [nI_clamp (by omega)])
  refine lv_aload_n hx hb dL_law_1005 rfl (lv_at hl 3 rfl) ?_
  refine lv_iload_n hx hb dL_law_1006 rfl (lv_at hl 0 rfl) ?_
  refine lv_iconst (v := 2) hx hb dL_law_1007 (by decide) ?_
  refine lv_iadd hx hb dL_law_1008 ?_
  refine lv_topi (fun y_14 ey_14 => ?_)
  obtain rfl : y_14 = nI (8 * i + 2) := ey_14.trans (nI_k _ 2 rfl)
  refine va_sld hx hb hX hbl hbA hS (vp_in_nI (by omega) (by omega)) dL_law_1009 ?_
  refine lv_topi (fun y_15 ey_15 => ?_)
  obtain rfl : y_15 = xs (8 * i + 2) := ey_15.trans (by rw [nI_clamp (by omega)])
  have hPc := vaP_r hP
  have hKc := hK.sub (tys' := [(q 0, .int), (q 1, .boolean)]) [0, 1] rfl
  have hDc := vaD_r hD
  have hFc := fr_part hD hS hA
  refine va_calli (va_runV (As := [.int (xs (8 * i + 1)), .int (xs (8 * i + 2))]) (rest := []) ⟨hx, hb, hml, hown, hts⟩ (n_broken l dC dI mm v (q 0) (q 1) u (xs (8 * i + 1)) (xs (8 * i + 2)) hu.1.1 hu.1.2.2.1 hu.1.2.2.2.2.2.2.1 hu.2.1 (inv_pc (uI_M hu)) hu.1.2.2.2.2.2.2.2 H.size) (cwV 2 hts gL_law_X12_broken rfl rfl rfl zh_X12_broken_158 ⟨Nat.le_of_ble_eq_true rfl, Nat.le_of_ble_eq_true rfl⟩) ⟨gw_fb, va_recv hKc hPc (ci := 11) (q0 := 0) rfl rfl, fun U hU hW => ⟨rfl, by rw [hU], pw_to hU hW hPc hKc hN, hDc.weaken (fun _ _ _ _ => trivial)⟩⟩ rfl rfl hl.1 rfl (lv_room (Nat.le_of_ble_eq_true rfl)) dL_law_1010 ⟨by omega, by omega⟩) hS (fun q _ h => hFc q h) hFc (fun ra_17 u_16 t H1 locs ht hvm hw hB hz1 hk1 hS => ?_)
  obtain ⟨hP1, hD1⟩ := hB
  rw [ht] at hP1
  obtain ⟨hP, hD⟩ := jn (vaP_swap hP) (vaD_swap hD) hk1 hFc hP1 hD1
  generalize H1 = H at hP hS ⊢
  have hP := vaP_swap hP
  have hD := vaD_swap hD
  refine W.widen (k := cells + 976) (n := slots + 4880) (by omega) (by omega) ?_
  have hs := step_broken hR0 hx9 hw
  have hrl : ra_11 = ra_17 := hs.1
  have hR : RR q h0 d k_7 z_8 f_9 u_16 := hs.2
  refine lv_pop hx hb dL_law_1013 rfl ?_
  refine lv_goto (tgt := 1182) hx hb dL_law_1014 (by decide) ?_
  exact kx _ _ _ _ _ _ _ ls hR hP hD hS (lv_sub hl [0, 1, 2, 3] rfl)
set_option maxHeartbeats 4000000 in
set_option maxRecDepth 100000 in
theorem law_c25 {p : Program} {l : Launch} {e : Env} {s : State} {m : MethodId} {below : List Frame} {meth : Method} {c : Code} {b L : Nat} {xs : Nat → Int32} {A : Nat → Prop} {dC : Nat → ClassId} {dI : Nat → Nat → Nat} {q : Nat → ClassId} {h0 mm : Nat} {d v : Nat → Nat} {cells slots i : Nat} (C0 : lw_At p s m meth c b L xs) (hAe : A = fun q => s.heap.size ≤ q) (hN : NN s) (hXN : XN s) (hK : va_K (dC, dI) vwCl (xT q) s) (hL : 8 * i + 8 ≤ L) (hL2 : L ≤ 4096) (hRc : cells + 976 ≤ room_1.cells) (hRs : slots + 4880 ≤ room_1.slots) (kx : ∀ (d : Nat → Nat) (k : Nat → Int32) (z : gS) (f : xF) (u : mS) (H : Heap) (locs : List Loc) (ls : Array Slot), RR q h0 d k z f u → va_P (dC, dI) vwCl (va_pl z.1 f ++ mW mm v (q 0) (q 1) u) H → va_D A (va_pl z.1 f ++ mW mm v (q 0) (q 1) u) → va_S A s.heap H locs → lv_has ls 4 [(3, .int (nI (8 * i))), (2, .ref mm), (1, .ref h0), (0, .ref b)] → W p l e room_1 s m #[Value.ref b] below meth c H locs (cells + 976) (slots + 4880) (lw_Z below #[Value.ref b] s) (F0 m 1182 ls [])) {k : Nat → Int32} {z : gS} {f : xF} {u : mS} {H : Heap} {locs : List Loc} {ls : Array Slot} (hR : RR q h0 d k z f u) (hP : va_P (dC, dI) vwCl (va_pl z.1 f ++ mW mm v (q 0) (q 1) u) H) (hD : va_D A (va_pl z.1 f ++ mW mm v (q 0) (q 1) u)) (hS : va_S A s.heap H locs) (hl : lv_has ls 4 [(3, .int (nI (8 * i))), (2, .ref mm), (1, .ref h0), (0, .ref b)]) : W p l e room_1 s m #[Value.ref b] below meth c H locs cells slots (lw_Z below #[Value.ref b] s) (F0 m 1017 ls []) := by
  obtain ⟨hx, hb, hr, hml, hown, hts, hX, hbl, hlocks, hgv⟩ := id C0
  have hbA : ¬ A b := by rw [hAe]; exact Nat.not_le.mpr hbl
  have hA : ∀ q : Nat, s.heap.size ≤ q → A q := fun q h => by rw [hAe]; exact h
  have hts := fun w h => hts w (wsL_law_in w h)
  have hR0 := hR
  obtain ⟨hI, hrp, ⟨hk0, hk1, hk2, hk3⟩, hz, es9, cf9, g9, hu, hg, hL⟩ := id hR
  have hk1o := hk1
  refine lv_aload_n hx hb dL_law_1017 rfl (lv_at hl 2 rfl) ?_
  refine lv_aload_n hx hb dL_law_1018 rfl (lv_at hl 3 rfl) ?_
  refine lv_iload_n hx hb dL_law_1019 rfl (lv_at hl 0 rfl) ?_
  refine lv_iconst (v := 1) hx hb dL_law_1020 (by decide) ?_
  refine lv_iadd hx hb dL_law_1021 ?_
  refine lv_topi (fun y_1 ey_1 => ?_)
  obtain rfl : y_1 = nI (8 * i + 1) := ey_1.trans (nI_k _ 1 rfl)
  refine va_sld hx hb hX hbl hbA hS (vp_in_nI (by omega) (by omega)) dL_law_1022 ?_
  refine lv_topi (fun y_2 ey_2 => ?_)
  obtain rfl : y_2 = xs (8 * i + 1) := ey_2.trans (by rw [nI_clamp (by omega)])
  refine lv_aload_n hx hb dL_law_1023 rfl (lv_at hl 3 rfl) ?_
  refine lv_iload_n hx hb dL_law_1024 rfl (lv_at hl 0 rfl) ?_
  refine lv_iconst (v := 2) hx hb dL_law_1025 (by decide) ?_
  refine lv_iadd hx hb dL_law_1026 ?_
  refine lv_topi (fun y_3 ey_3 => ?_)
  obtain rfl : y_3 = nI (8 * i + 2) := ey_3.trans (nI_k _ 2 rfl)
  refine va_sld hx hb hX hbl hbA hS (vp_in_nI (by omega) (by omega)) dL_law_1027 ?_
  refine lv_topi (fun y_4 ey_4 => ?_)
  obtain rfl : y_4 = xs (8 * i + 2) := ey_4.trans (by rw [nI_clamp (by omega)])
  obtain ⟨kk_5, hk_6⟩ := pl_at hI.2.1.1.1 hI.2.2.2.1.1
  have hPc := vaP_l hP
  refine vp_callSi (va_runV (As := [.int (xs (8 * i + 1)), .int (xs (8 * i + 2))]) (rest := []) ⟨hx, hb, hml, hown, hts⟩ (y_printed l dC dI q h0 d k z f hI (xs (8 * i + 1)) (xs (8 * i + 2)) u hrp hk0 hk1 hk2 hk3 hu.2.2.2.2.2.1 (uI_fi hu)) (cwV 2 hts gL_law_X11_printed rfl rfl rfl zh_X11_printed_159 ⟨Nat.le_of_ble_eq_true rfl, Nat.le_of_ble_eq_true rfl⟩) ⟨px_fb, va_recv hK hPc (ci := 10) (q0 := kk_5) rfl hk_6, fun U hU hW => ⟨rfl, px_to hU hW hPc hK hN hXN⟩⟩ rfl rfl hl.1 rfl (lv_room (Nat.le_of_ble_eq_true rfl)) dL_law_1028 ⟨by omega, by omega⟩).run (fun r hw => ?_)
  generalize r = ra_7 at hw ⊢
  have hx9 := hw
  refine lv_pop hx hb dL_law_1031 rfl ?_
  refine lv_aload_n hx hb dL_law_1032 rfl (lv_at hl 1 rfl) ?_
  refine lv_aload_n hx hb dL_law_1033 rfl (lv_at hl 3 rfl) ?_
  refine lv_iload_n hx hb dL_law_1034 rfl (lv_at hl 0 rfl) ?_
  refine lv_iconst (v := 1) hx hb dL_law_1035 (by decide) ?_
  refine lv_iadd hx hb dL_law_1036 ?_
  refine lv_topi (fun y_8 ey_8 => ?_)
  obtain rfl : y_8 = nI (8 * i + 1) := ey_8.trans (nI_k _ 1 rfl)
  refine va_sld hx hb hX hbl hbA hS (vp_in_nI (by omega) (by omega)) dL_law_1037 ?_
  refine lv_topi (fun y_9 ey_9 => ?_)
  obtain rfl : y_9 = xs (8 * i + 1) := ey_9.trans (by rw [nI_clamp (by omega)])
  refine lv_aload_n hx hb dL_law_1038 rfl (lv_at hl 3 rfl) ?_
  refine lv_iload_n hx hb dL_law_1039 rfl (lv_at hl 0 rfl) ?_
  refine lv_iconst (v := 2) hx hb dL_law_1040 (by decide) ?_
  refine lv_iadd hx hb dL_law_1041 ?_
  refine lv_topi (fun y_10 ey_10 => ?_)
  obtain rfl : y_10 = nI (8 * i + 2) := ey_10.trans (nI_k _ 2 rfl)
  refine va_sld hx hb hX hbl hbA hS (vp_in_nI (by omega) (by omega)) dL_law_1042 ?_
  refine lv_topi (fun y_11 ey_11 => ?_)
  obtain rfl : y_11 = xs (8 * i + 2) := ey_11.trans (by rw [nI_clamp (by omega)])
  have hPc := vaP_r hP
  have hKc := hK.sub (tys' := [(q 0, .int), (q 1, .boolean)]) [0, 1] rfl
  refine vp_callSi (va_runV (As := [.int (xs (8 * i + 1)), .int (xs (8 * i + 2))]) (rest := []) ⟨hx, hb, hml, hown, hts⟩ (m_printed l dC dI mm v (q 0) (q 1) u (xs (8 * i + 1)) (xs (8 * i + 2)) hu.1.1) (cwV 2 hts gL_law_X12_printed rfl rfl rfl zh_X12_printed_18 ⟨Nat.le_of_ble_eq_true rfl, Nat.le_of_ble_eq_true rfl⟩) ⟨pw_fb, va_recv hKc hPc (ci := 11) (q0 := 0) rfl rfl, fun U hU hW => ⟨rfl, pw_to hU hW hPc hKc hN⟩⟩ rfl rfl hl.1 rfl (lv_room (Nat.le_of_ble_eq_true rfl)) dL_law_1043 ⟨by omega, by omega⟩).run (fun r hw => ?_)
  generalize r = ra_12 at hw ⊢
  have hrl : ra_7 = ra_12 := hx9.trans (mPr_eq hw).symm
  refine lv_pop hx hb dL_law_1046 rfl ?_
  refine lv_goto (tgt := 1182) hx hb dL_law_1047 (by decide) ?_
  refine W.widen (k := cells + 976) (n := slots + 4880) (by omega) (by omega) ?_
  exact kx _ _ _ _ _ _ _ ls hR hP hD hS (lv_sub hl [0, 1, 2, 3] rfl)
set_option maxHeartbeats 4000000 in
set_option maxRecDepth 100000 in
theorem law_c26 {p : Program} {l : Launch} {e : Env} {s : State} {m : MethodId} {below : List Frame} {meth : Method} {c : Code} {b L : Nat} {xs : Nat → Int32} {A : Nat → Prop} {dC : Nat → ClassId} {dI : Nat → Nat → Nat} {q : Nat → ClassId} {h0 mm : Nat} {d v : Nat → Nat} {cells slots i : Nat} (C0 : lw_At p s m meth c b L xs) (hAe : A = fun q => s.heap.size ≤ q) (hN : NN s) (hXN : XN s) (hK : va_K (dC, dI) vwCl (xT q) s) (hL : 8 * i + 8 ≤ L) (hL2 : L ≤ 4096) (hRc : cells + 976 ≤ room_1.cells) (hRs : slots + 4880 ≤ room_1.slots) (kx : ∀ (d : Nat → Nat) (k : Nat → Int32) (z : gS) (f : xF) (u : mS) (H : Heap) (locs : List Loc) (ls : Array Slot), RR q h0 d k z f u → va_P (dC, dI) vwCl (va_pl z.1 f ++ mW mm v (q 0) (q 1) u) H → va_D A (va_pl z.1 f ++ mW mm v (q 0) (q 1) u) → va_S A s.heap H locs → lv_has ls 4 [(3, .int (nI (8 * i))), (2, .ref mm), (1, .ref h0), (0, .ref b)] → W p l e room_1 s m #[Value.ref b] below meth c H locs (cells + 976) (slots + 4880) (lw_Z below #[Value.ref b] s) (F0 m 1182 ls [])) {k : Nat → Int32} {z : gS} {f : xF} {u : mS} {H : Heap} {locs : List Loc} {ls : Array Slot} (hR : RR q h0 d k z f u) (hP : va_P (dC, dI) vwCl (va_pl z.1 f ++ mW mm v (q 0) (q 1) u) H) (hD : va_D A (va_pl z.1 f ++ mW mm v (q 0) (q 1) u)) (hS : va_S A s.heap H locs) (hl : lv_has ls 4 [(3, .int (nI (8 * i))), (2, .ref mm), (1, .ref h0), (0, .ref b)]) : W p l e room_1 s m #[Value.ref b] below meth c H locs cells slots (lw_Z below #[Value.ref b] s) (F0 m 1050 ls []) := by
  obtain ⟨hx, hb, hr, hml, hown, hts, hX, hbl, hlocks, hgv⟩ := id C0
  have hbA : ¬ A b := by rw [hAe]; exact Nat.not_le.mpr hbl
  have hA : ∀ q : Nat, s.heap.size ≤ q → A q := fun q h => by rw [hAe]; exact h
  have hts := fun w h => hts w (wsL_law_in w h)
  have hR0 := hR
  obtain ⟨hI, hrp, ⟨hk0, hk1, hk2, hk3⟩, hz, es9, cf9, g9, hu, hg, hL⟩ := id hR
  have hk1o := hk1
  refine lv_aload_n hx hb dL_law_1050 rfl (lv_at hl 2 rfl) ?_
  refine lv_aload_n hx hb dL_law_1051 rfl (lv_at hl 3 rfl) ?_
  refine lv_iload_n hx hb dL_law_1052 rfl (lv_at hl 0 rfl) ?_
  refine lv_iconst (v := 1) hx hb dL_law_1053 (by decide) ?_
  refine lv_iadd hx hb dL_law_1054 ?_
  refine lv_topi (fun y_1 ey_1 => ?_)
  obtain rfl : y_1 = nI (8 * i + 1) := ey_1.trans (nI_k _ 1 rfl)
  refine va_sld hx hb hX hbl hbA hS (vp_in_nI (by omega) (by omega)) dL_law_1055 ?_
  refine lv_topi (fun y_2 ey_2 => ?_)
  obtain rfl : y_2 = xs (8 * i + 1) := ey_2.trans (by rw [nI_clamp (by omega)])
  refine lv_aload_n hx hb dL_law_1056 rfl (lv_at hl 3 rfl) ?_
  refine lv_iload_n hx hb dL_law_1057 rfl (lv_at hl 0 rfl) ?_
  refine lv_iconst (v := 2) hx hb dL_law_1058 (by decide) ?_
  refine lv_iadd hx hb dL_law_1059 ?_
  refine lv_topi (fun y_3 ey_3 => ?_)
  obtain rfl : y_3 = nI (8 * i + 2) := ey_3.trans (nI_k _ 2 rfl)
  refine va_sld hx hb hX hbl hbA hS (vp_in_nI (by omega) (by omega)) dL_law_1060 ?_
  refine lv_topi (fun y_4 ey_4 => ?_)
  obtain rfl : y_4 = xs (8 * i + 2) := ey_4.trans (by rw [nI_clamp (by omega)])
  refine lv_aload_n hx hb dL_law_1061 rfl (lv_at hl 3 rfl) ?_
  refine lv_iload_n hx hb dL_law_1062 rfl (lv_at hl 0 rfl) ?_
  refine lv_iconst (v := 3) hx hb dL_law_1063 (by decide) ?_
  refine lv_iadd hx hb dL_law_1064 ?_
  refine lv_topi (fun y_5 ey_5 => ?_)
  obtain rfl : y_5 = nI (8 * i + 3) := ey_5.trans (nI_k _ 3 rfl)
  refine va_sld hx hb hX hbl hbA hS (vp_in_nI (by omega) (by omega)) dL_law_1065 ?_
  refine lv_topi (fun y_6 ey_6 => ?_)
  obtain rfl : y_6 = xs (8 * i + 3) := ey_6.trans (by rw [nI_clamp (by omega)])
  obtain ⟨kk_7, hk_8⟩ := pl_at hI.2.1.1.1 hI.2.2.2.1.1
  have hPc := vaP_l hP
  refine vp_callSi (va_runV (As := [.int (xs (8 * i + 1)), .int (xs (8 * i + 2)), .int (xs (8 * i + 3))]) (rest := []) ⟨hx, hb, hml, hown, hts⟩ (y_plated l dC dI q h0 d k z f hI (xs (8 * i + 1)) (xs (8 * i + 2)) (xs (8 * i + 3)) u hrp) (cwV 3 hts gL_law_X11_plated rfl rfl rfl zh_X11_plated_160 ⟨Nat.le_of_ble_eq_true rfl, Nat.le_of_ble_eq_true rfl⟩) ⟨px_fb, va_recv hK hPc (ci := 10) (q0 := kk_7) rfl hk_8, fun U hU hW => ⟨rfl, px_to hU hW hPc hK hN hXN⟩⟩ rfl rfl hl.1 rfl (lv_room (Nat.le_of_ble_eq_true rfl)) dL_law_1066 ⟨by omega, by omega⟩).run (fun r hw => ?_)
  generalize r = ra_9 at hw ⊢
  have hx9 := hw
  refine lv_pop hx hb dL_law_1069 rfl ?_
  refine lv_aload_n hx hb dL_law_1070 rfl (lv_at hl 1 rfl) ?_
  refine lv_aload_n hx hb dL_law_1071 rfl (lv_at hl 3 rfl) ?_
  refine lv_iload_n hx hb dL_law_1072 rfl (lv_at hl 0 rfl) ?_
  refine lv_iconst (v := 1) hx hb dL_law_1073 (by decide) ?_
  refine lv_iadd hx hb dL_law_1074 ?_
  refine lv_topi (fun y_10 ey_10 => ?_)
  obtain rfl : y_10 = nI (8 * i + 1) := ey_10.trans (nI_k _ 1 rfl)
  refine va_sld hx hb hX hbl hbA hS (vp_in_nI (by omega) (by omega)) dL_law_1075 ?_
  refine lv_topi (fun y_11 ey_11 => ?_)
  obtain rfl : y_11 = xs (8 * i + 1) := ey_11.trans (by rw [nI_clamp (by omega)])
  refine lv_aload_n hx hb dL_law_1076 rfl (lv_at hl 3 rfl) ?_
  refine lv_iload_n hx hb dL_law_1077 rfl (lv_at hl 0 rfl) ?_
  refine lv_iconst (v := 2) hx hb dL_law_1078 (by decide) ?_
  refine lv_iadd hx hb dL_law_1079 ?_
  refine lv_topi (fun y_12 ey_12 => ?_)
  obtain rfl : y_12 = nI (8 * i + 2) := ey_12.trans (nI_k _ 2 rfl)
  refine va_sld hx hb hX hbl hbA hS (vp_in_nI (by omega) (by omega)) dL_law_1080 ?_
  refine lv_topi (fun y_13 ey_13 => ?_)
  obtain rfl : y_13 = xs (8 * i + 2) := ey_13.trans (by rw [nI_clamp (by omega)])
  refine lv_aload_n hx hb dL_law_1081 rfl (lv_at hl 3 rfl) ?_
  refine lv_iload_n hx hb dL_law_1082 rfl (lv_at hl 0 rfl) ?_
  refine lv_iconst (v := 3) hx hb dL_law_1083 (by decide) ?_
  refine lv_iadd hx hb dL_law_1084 ?_
  refine lv_topi (fun y_14 ey_14 => ?_)
  obtain rfl : y_14 = nI (8 * i + 3) := ey_14.trans (nI_k _ 3 rfl)
  refine va_sld hx hb hX hbl hbA hS (vp_in_nI (by omega) (by omega)) dL_law_1085 ?_
  refine lv_topi (fun y_15 ey_15 => ?_)
  obtain rfl : y_15 = xs (8 * i + 3) := ey_15.trans (by rw [nI_clamp (by omega)])
  have hPc := vaP_r hP
  have hKc := hK.sub (tys' := [(q 0, .int), (q 1, .boolean)]) [0, 1] rfl
  refine vp_callSi (va_runV (As := [.int (xs (8 * i + 1)), .int (xs (8 * i + 2)), .int (xs (8 * i + 3))]) (rest := []) ⟨hx, hb, hml, hown, hts⟩ (m_plated l dC dI mm v (q 0) (q 1) u (xs (8 * i + 1)) (xs (8 * i + 2)) (xs (8 * i + 3)) hu.1.2.2.2.1) (cwV 3 hts gL_law_X12_plated rfl rfl rfl zh_X12_plated_161 ⟨Nat.le_of_ble_eq_true rfl, Nat.le_of_ble_eq_true rfl⟩) ⟨pw_fb, va_recv hKc hPc (ci := 11) (q0 := 0) rfl rfl, fun U hU hW => ⟨rfl, pw_to hU hW hPc hKc hN⟩⟩ rfl rfl hl.1 rfl (lv_room (Nat.le_of_ble_eq_true rfl)) dL_law_1086 ⟨by omega, by omega⟩).run (fun r hw => ?_)
  generalize r = ra_16 at hw ⊢
  have hrl : ra_9 = ra_16 := hx9.trans hw.symm
  refine lv_pop hx hb dL_law_1089 rfl ?_
  refine lv_goto (tgt := 1182) hx hb dL_law_1090 (by decide) ?_
  refine W.widen (k := cells + 976) (n := slots + 4880) (by omega) (by omega) ?_
  exact kx _ _ _ _ _ _ _ ls hR hP hD hS (lv_sub hl [0, 1, 2, 3] rfl)
set_option maxHeartbeats 4000000 in
set_option maxRecDepth 100000 in
theorem law_c27 {p : Program} {l : Launch} {e : Env} {s : State} {m : MethodId} {below : List Frame} {meth : Method} {c : Code} {b L : Nat} {xs : Nat → Int32} {A : Nat → Prop} {dC : Nat → ClassId} {dI : Nat → Nat → Nat} {q : Nat → ClassId} {h0 mm : Nat} {d v : Nat → Nat} {cells slots i : Nat} (C0 : lw_At p s m meth c b L xs) (hAe : A = fun q => s.heap.size ≤ q) (hN : NN s) (hXN : XN s) (hK : va_K (dC, dI) vwCl (xT q) s) (hL : 8 * i + 8 ≤ L) (hL2 : L ≤ 4096) (hRc : cells + 976 ≤ room_1.cells) (hRs : slots + 4880 ≤ room_1.slots) (kx : ∀ (d : Nat → Nat) (k : Nat → Int32) (z : gS) (f : xF) (u : mS) (H : Heap) (locs : List Loc) (ls : Array Slot), RR q h0 d k z f u → va_P (dC, dI) vwCl (va_pl z.1 f ++ mW mm v (q 0) (q 1) u) H → va_D A (va_pl z.1 f ++ mW mm v (q 0) (q 1) u) → va_S A s.heap H locs → lv_has ls 4 [(3, .int (nI (8 * i))), (2, .ref mm), (1, .ref h0), (0, .ref b)] → W p l e room_1 s m #[Value.ref b] below meth c H locs (cells + 976) (slots + 4880) (lw_Z below #[Value.ref b] s) (F0 m 1182 ls [])) {k : Nat → Int32} {z : gS} {f : xF} {u : mS} {H : Heap} {locs : List Loc} {ls : Array Slot} (hR : RR q h0 d k z f u) (hP : va_P (dC, dI) vwCl (va_pl z.1 f ++ mW mm v (q 0) (q 1) u) H) (hD : va_D A (va_pl z.1 f ++ mW mm v (q 0) (q 1) u)) (hS : va_S A s.heap H locs) (hl : lv_has ls 4 [(3, .int (nI (8 * i))), (2, .ref mm), (1, .ref h0), (0, .ref b)]) : W p l e room_1 s m #[Value.ref b] below meth c H locs cells slots (lw_Z below #[Value.ref b] s) (F0 m 1093 ls []) := by
  obtain ⟨hx, hb, hr, hml, hown, hts, hX, hbl, hlocks, hgv⟩ := id C0
  have hbA : ¬ A b := by rw [hAe]; exact Nat.not_le.mpr hbl
  have hA : ∀ q : Nat, s.heap.size ≤ q → A q := fun q h => by rw [hAe]; exact h
  have hts := fun w h => hts w (wsL_law_in w h)
  have hR0 := hR
  obtain ⟨hI, hrp, ⟨hk0, hk1, hk2, hk3⟩, hz, es9, cf9, g9, hu, hg, hL⟩ := id hR
  have hk1o := hk1
  refine lv_aload_n hx hb dL_law_1093 rfl (lv_at hl 2 rfl) ?_
  refine lv_aload_n hx hb dL_law_1094 rfl (lv_at hl 3 rfl) ?_
  refine lv_iload_n hx hb dL_law_1095 rfl (lv_at hl 0 rfl) ?_
  refine lv_iconst (v := 1) hx hb dL_law_1096 (by decide) ?_
  refine lv_iadd hx hb dL_law_1097 ?_
  refine lv_topi (fun y_1 ey_1 => ?_)
  obtain rfl : y_1 = nI (8 * i + 1) := ey_1.trans (nI_k _ 1 rfl)
  refine va_sld hx hb hX hbl hbA hS (vp_in_nI (by omega) (by omega)) dL_law_1098 ?_
  refine lv_topi (fun y_2 ey_2 => ?_)
  obtain rfl : y_2 = xs (8 * i + 1) := ey_2.trans (by rw [nI_clamp (by omega)])
  refine lv_aload_n hx hb dL_law_1099 rfl (lv_at hl 3 rfl) ?_
  refine lv_iload_n hx hb dL_law_1100 rfl (lv_at hl 0 rfl) ?_
  refine lv_iconst (v := 2) hx hb dL_law_1101 (by decide) ?_
  refine lv_iadd hx hb dL_law_1102 ?_
  refine lv_topi (fun y_3 ey_3 => ?_)
  obtain rfl : y_3 = nI (8 * i + 2) := ey_3.trans (nI_k _ 2 rfl)
  refine va_sld hx hb hX hbl hbA hS (vp_in_nI (by omega) (by omega)) dL_law_1103 ?_
  refine lv_topi (fun y_4 ey_4 => ?_)
  obtain rfl : y_4 = xs (8 * i + 2) := ey_4.trans (by rw [nI_clamp (by omega)])
  obtain ⟨kk_5, hk_6⟩ := pl_at hI.2.1.1.1 hI.2.2.2.1.1
  have hPc := vaP_l hP
  refine vp_callSi (va_runV (As := [.int (xs (8 * i + 1)), .int (xs (8 * i + 2))]) (rest := []) ⟨hx, hb, hml, hown, hts⟩ (y_plateOf l dC dI q h0 d k z f hI (xs (8 * i + 1)) (xs (8 * i + 2)) u hrp) (cwV 2 hts gL_law_X11_plateOf rfl rfl rfl zh_X11_plateOf_162 ⟨Nat.le_of_ble_eq_true rfl, Nat.le_of_ble_eq_true rfl⟩) ⟨px_fb, va_recv hK hPc (ci := 10) (q0 := kk_5) rfl hk_6, fun U hU hW => ⟨rfl, px_to hU hW hPc hK hN hXN⟩⟩ rfl rfl hl.1 rfl (lv_room (Nat.le_of_ble_eq_true rfl)) dL_law_1104 ⟨by omega, by omega⟩).run (fun r hw => ?_)
  generalize r = ra_7 at hw ⊢
  have hx9 := hw
  refine lv_pop hx hb dL_law_1107 rfl ?_
  refine lv_aload_n hx hb dL_law_1108 rfl (lv_at hl 1 rfl) ?_
  refine lv_aload_n hx hb dL_law_1109 rfl (lv_at hl 3 rfl) ?_
  refine lv_iload_n hx hb dL_law_1110 rfl (lv_at hl 0 rfl) ?_
  refine lv_iconst (v := 1) hx hb dL_law_1111 (by decide) ?_
  refine lv_iadd hx hb dL_law_1112 ?_
  refine lv_topi (fun y_8 ey_8 => ?_)
  obtain rfl : y_8 = nI (8 * i + 1) := ey_8.trans (nI_k _ 1 rfl)
  refine va_sld hx hb hX hbl hbA hS (vp_in_nI (by omega) (by omega)) dL_law_1113 ?_
  refine lv_topi (fun y_9 ey_9 => ?_)
  obtain rfl : y_9 = xs (8 * i + 1) := ey_9.trans (by rw [nI_clamp (by omega)])
  refine lv_aload_n hx hb dL_law_1114 rfl (lv_at hl 3 rfl) ?_
  refine lv_iload_n hx hb dL_law_1115 rfl (lv_at hl 0 rfl) ?_
  refine lv_iconst (v := 2) hx hb dL_law_1116 (by decide) ?_
  refine lv_iadd hx hb dL_law_1117 ?_
  refine lv_topi (fun y_10 ey_10 => ?_)
  obtain rfl : y_10 = nI (8 * i + 2) := ey_10.trans (nI_k _ 2 rfl)
  refine va_sld hx hb hX hbl hbA hS (vp_in_nI (by omega) (by omega)) dL_law_1118 ?_
  refine lv_topi (fun y_11 ey_11 => ?_)
  obtain rfl : y_11 = xs (8 * i + 2) := ey_11.trans (by rw [nI_clamp (by omega)])
  have hPc := vaP_r hP
  have hKc := hK.sub (tys' := [(q 0, .int), (q 1, .boolean)]) [0, 1] rfl
  refine vp_callSi (va_runV (As := [.int (xs (8 * i + 1)), .int (xs (8 * i + 2))]) (rest := []) ⟨hx, hb, hml, hown, hts⟩ (m_plateOf l dC dI mm v (q 0) (q 1) u (xs (8 * i + 1)) (xs (8 * i + 2))) (cwV 2 hts gL_law_X12_plateOf rfl rfl rfl zh_X12_plateOf_163 ⟨Nat.le_of_ble_eq_true rfl, Nat.le_of_ble_eq_true rfl⟩) ⟨pw_fb, va_recv hKc hPc (ci := 11) (q0 := 0) rfl rfl, fun U hU hW => ⟨rfl, pw_to hU hW hPc hKc hN⟩⟩ rfl rfl hl.1 rfl (lv_room (Nat.le_of_ble_eq_true rfl)) dL_law_1119 ⟨by omega, by omega⟩).run (fun r hw => ?_)
  generalize r = ra_12 at hw ⊢
  have hrl : ra_7 = ra_12 := hx9.trans hw.symm
  refine lv_pop hx hb dL_law_1122 rfl ?_
  refine lv_goto (tgt := 1182) hx hb dL_law_1123 (by decide) ?_
  refine W.widen (k := cells + 976) (n := slots + 4880) (by omega) (by omega) ?_
  exact kx _ _ _ _ _ _ _ ls hR hP hD hS (lv_sub hl [0, 1, 2, 3] rfl)
set_option maxHeartbeats 4000000 in
set_option maxRecDepth 100000 in
theorem law_c28 {p : Program} {l : Launch} {e : Env} {s : State} {m : MethodId} {below : List Frame} {meth : Method} {c : Code} {b L : Nat} {xs : Nat → Int32} {A : Nat → Prop} {dC : Nat → ClassId} {dI : Nat → Nat → Nat} {q : Nat → ClassId} {h0 mm : Nat} {d v : Nat → Nat} {cells slots i : Nat} (C0 : lw_At p s m meth c b L xs) (hAe : A = fun q => s.heap.size ≤ q) (hN : NN s) (hXN : XN s) (hK : va_K (dC, dI) vwCl (xT q) s) (hL : 8 * i + 8 ≤ L) (hL2 : L ≤ 4096) (hRc : cells + 976 ≤ room_1.cells) (hRs : slots + 4880 ≤ room_1.slots) (kx : ∀ (d : Nat → Nat) (k : Nat → Int32) (z : gS) (f : xF) (u : mS) (H : Heap) (locs : List Loc) (ls : Array Slot), RR q h0 d k z f u → va_P (dC, dI) vwCl (va_pl z.1 f ++ mW mm v (q 0) (q 1) u) H → va_D A (va_pl z.1 f ++ mW mm v (q 0) (q 1) u) → va_S A s.heap H locs → lv_has ls 4 [(3, .int (nI (8 * i))), (2, .ref mm), (1, .ref h0), (0, .ref b)] → W p l e room_1 s m #[Value.ref b] below meth c H locs (cells + 976) (slots + 4880) (lw_Z below #[Value.ref b] s) (F0 m 1182 ls [])) {k : Nat → Int32} {z : gS} {f : xF} {u : mS} {H : Heap} {locs : List Loc} {ls : Array Slot} (hR : RR q h0 d k z f u) (hP : va_P (dC, dI) vwCl (va_pl z.1 f ++ mW mm v (q 0) (q 1) u) H) (hD : va_D A (va_pl z.1 f ++ mW mm v (q 0) (q 1) u)) (hS : va_S A s.heap H locs) (hl : lv_has ls 4 [(3, .int (nI (8 * i))), (2, .ref mm), (1, .ref h0), (0, .ref b)]) : W p l e room_1 s m #[Value.ref b] below meth c H locs cells slots (lw_Z below #[Value.ref b] s) (F0 m 1126 ls []) := by
  obtain ⟨hx, hb, hr, hml, hown, hts, hX, hbl, hlocks, hgv⟩ := id C0
  have hbA : ¬ A b := by rw [hAe]; exact Nat.not_le.mpr hbl
  have hA : ∀ q : Nat, s.heap.size ≤ q → A q := fun q h => by rw [hAe]; exact h
  have hts := fun w h => hts w (wsL_law_in w h)
  have hR0 := hR
  obtain ⟨hI, hrp, ⟨hk0, hk1, hk2, hk3⟩, hz, es9, cf9, g9, hu, hg, hL⟩ := id hR
  have hk1o := hk1
  refine lv_aload_n hx hb dL_law_1126 rfl (lv_at hl 2 rfl) ?_
  refine lv_aload_n hx hb dL_law_1127 rfl (lv_at hl 3 rfl) ?_
  refine lv_iload_n hx hb dL_law_1128 rfl (lv_at hl 0 rfl) ?_
  refine lv_iconst (v := 1) hx hb dL_law_1129 (by decide) ?_
  refine lv_iadd hx hb dL_law_1130 ?_
  refine lv_topi (fun y_1 ey_1 => ?_)
  obtain rfl : y_1 = nI (8 * i + 1) := ey_1.trans (nI_k _ 1 rfl)
  refine va_sld hx hb hX hbl hbA hS (vp_in_nI (by omega) (by omega)) dL_law_1131 ?_
  refine lv_topi (fun y_2 ey_2 => ?_)
  obtain rfl : y_2 = xs (8 * i + 1) := ey_2.trans (by rw [nI_clamp (by omega)])
  refine lv_aload_n hx hb dL_law_1132 rfl (lv_at hl 3 rfl) ?_
  refine lv_iload_n hx hb dL_law_1133 rfl (lv_at hl 0 rfl) ?_
  refine lv_iconst (v := 2) hx hb dL_law_1134 (by decide) ?_
  refine lv_iadd hx hb dL_law_1135 ?_
  refine lv_topi (fun y_3 ey_3 => ?_)
  obtain rfl : y_3 = nI (8 * i + 2) := ey_3.trans (nI_k _ 2 rfl)
  refine va_sld hx hb hX hbl hbA hS (vp_in_nI (by omega) (by omega)) dL_law_1136 ?_
  refine lv_topi (fun y_4 ey_4 => ?_)
  obtain rfl : y_4 = xs (8 * i + 2) := ey_4.trans (by rw [nI_clamp (by omega)])
  obtain ⟨kk_5, hk_6⟩ := pl_at hI.2.1.1.1 hI.2.2.2.1.1
  have hPc := vaP_l hP
  refine vp_callSi (va_runV (As := [.int (xs (8 * i + 1)), .int (xs (8 * i + 2))]) (rest := []) ⟨hx, hb, hml, hown, hts⟩ (y_bill l dC dI q h0 d k z f hI (xs (8 * i + 1)) (xs (8 * i + 2)) u hrp hk0 hk1 hk2 hk3 hu.2.2.2.2.2.1 hu.2.2.2.2.2.2.1) (cwV 2 hts gL_law_X11_bill rfl rfl rfl zh_X11_bill_164 ⟨Nat.le_of_ble_eq_true rfl, Nat.le_of_ble_eq_true rfl⟩) ⟨px_fb, va_recv hK hPc (ci := 10) (q0 := kk_5) rfl hk_6, fun U hU hW => ⟨rfl, px_to hU hW hPc hK hN hXN⟩⟩ rfl rfl hl.1 rfl (lv_room (Nat.le_of_ble_eq_true rfl)) dL_law_1137 ⟨by omega, by omega⟩).run (fun r hw => ?_)
  generalize r = ra_7 at hw ⊢
  have hx9 := hw
  refine lv_pop hx hb dL_law_1140 rfl ?_
  refine lv_aload_n hx hb dL_law_1141 rfl (lv_at hl 1 rfl) ?_
  refine lv_aload_n hx hb dL_law_1142 rfl (lv_at hl 3 rfl) ?_
  refine lv_iload_n hx hb dL_law_1143 rfl (lv_at hl 0 rfl) ?_
  refine lv_iconst (v := 1) hx hb dL_law_1144 (by decide) ?_
  refine lv_iadd hx hb dL_law_1145 ?_
  refine lv_topi (fun y_8 ey_8 => ?_)
  obtain rfl : y_8 = nI (8 * i + 1) := ey_8.trans (nI_k _ 1 rfl)
  refine va_sld hx hb hX hbl hbA hS (vp_in_nI (by omega) (by omega)) dL_law_1146 ?_
  refine lv_topi (fun y_9 ey_9 => ?_)
  obtain rfl : y_9 = xs (8 * i + 1) := ey_9.trans (by rw [nI_clamp (by omega)])
  refine lv_aload_n hx hb dL_law_1147 rfl (lv_at hl 3 rfl) ?_
  refine lv_iload_n hx hb dL_law_1148 rfl (lv_at hl 0 rfl) ?_
  refine lv_iconst (v := 2) hx hb dL_law_1149 (by decide) ?_
  refine lv_iadd hx hb dL_law_1150 ?_
  refine lv_topi (fun y_10 ey_10 => ?_)
  obtain rfl : y_10 = nI (8 * i + 2) := ey_10.trans (nI_k _ 2 rfl)
  refine va_sld hx hb hX hbl hbA hS (vp_in_nI (by omega) (by omega)) dL_law_1151 ?_
  refine lv_topi (fun y_11 ey_11 => ?_)
  obtain rfl : y_11 = xs (8 * i + 2) := ey_11.trans (by rw [nI_clamp (by omega)])
  have hPc := vaP_r hP
  have hKc := hK.sub (tys' := [(q 0, .int), (q 1, .boolean)]) [0, 1] rfl
  refine vp_callSi (va_runV (As := [.int (xs (8 * i + 1)), .int (xs (8 * i + 2))]) (rest := []) ⟨hx, hb, hml, hown, hts⟩ (n_bill l dC dI mm v (q 0) (q 1) u (xs (8 * i + 1)) (xs (8 * i + 2)) hu.1.1 hu.1.2.1) (cwV 2 hts gL_law_X12_bill rfl rfl rfl zh_X12_bill_165 ⟨Nat.le_of_ble_eq_true rfl, Nat.le_of_ble_eq_true rfl⟩) ⟨pw_fb, va_recv hKc hPc (ci := 11) (q0 := 0) rfl rfl, fun U hU hW => ⟨rfl, pw_to hU hW hPc hKc hN⟩⟩ rfl rfl hl.1 rfl (lv_room (Nat.le_of_ble_eq_true rfl)) dL_law_1152 ⟨by omega, by omega⟩).run (fun r hw => ?_)
  generalize r = ra_12 at hw ⊢
  have hrl : ra_7 = ra_12 := hx9.trans hw.symm
  refine lv_pop hx hb dL_law_1155 rfl ?_
  refine lv_goto (tgt := 1182) hx hb dL_law_1156 (by decide) ?_
  refine W.widen (k := cells + 976) (n := slots + 4880) (by omega) (by omega) ?_
  exact kx _ _ _ _ _ _ _ ls hR hP hD hS (lv_sub hl [0, 1, 2, 3] rfl)
set_option maxHeartbeats 4000000 in
set_option maxRecDepth 100000 in
theorem law_c29 {p : Program} {l : Launch} {e : Env} {s : State} {m : MethodId} {below : List Frame} {meth : Method} {c : Code} {b L : Nat} {xs : Nat → Int32} {A : Nat → Prop} {dC : Nat → ClassId} {dI : Nat → Nat → Nat} {q : Nat → ClassId} {h0 mm : Nat} {d v : Nat → Nat} {cells slots i : Nat} (C0 : lw_At p s m meth c b L xs) (hAe : A = fun q => s.heap.size ≤ q) (hN : NN s) (hXN : XN s) (hK : va_K (dC, dI) vwCl (xT q) s) (hL : 8 * i + 8 ≤ L) (hL2 : L ≤ 4096) (hRc : cells + 976 ≤ room_1.cells) (hRs : slots + 4880 ≤ room_1.slots) (kx : ∀ (d : Nat → Nat) (k : Nat → Int32) (z : gS) (f : xF) (u : mS) (H : Heap) (locs : List Loc) (ls : Array Slot), RR q h0 d k z f u → va_P (dC, dI) vwCl (va_pl z.1 f ++ mW mm v (q 0) (q 1) u) H → va_D A (va_pl z.1 f ++ mW mm v (q 0) (q 1) u) → va_S A s.heap H locs → lv_has ls 4 [(3, .int (nI (8 * i))), (2, .ref mm), (1, .ref h0), (0, .ref b)] → W p l e room_1 s m #[Value.ref b] below meth c H locs (cells + 976) (slots + 4880) (lw_Z below #[Value.ref b] s) (F0 m 1182 ls [])) {k : Nat → Int32} {z : gS} {f : xF} {u : mS} {H : Heap} {locs : List Loc} {ls : Array Slot} (hR : RR q h0 d k z f u) (hP : va_P (dC, dI) vwCl (va_pl z.1 f ++ mW mm v (q 0) (q 1) u) H) (hD : va_D A (va_pl z.1 f ++ mW mm v (q 0) (q 1) u)) (hS : va_S A s.heap H locs) (hl : lv_has ls 4 [(3, .int (nI (8 * i))), (2, .ref mm), (1, .ref h0), (0, .ref b)]) : W p l e room_1 s m #[Value.ref b] below meth c H locs cells slots (lw_Z below #[Value.ref b] s) (F0 m 1159 ls []) := by
  obtain ⟨hx, hb, hr, hml, hown, hts, hX, hbl, hlocks, hgv⟩ := id C0
  have hbA : ¬ A b := by rw [hAe]; exact Nat.not_le.mpr hbl
  have hA : ∀ q : Nat, s.heap.size ≤ q → A q := fun q h => by rw [hAe]; exact h
  have hts := fun w h => hts w (wsL_law_in w h)
  have hR0 := hR
  obtain ⟨hI, hrp, ⟨hk0, hk1, hk2, hk3⟩, hz, es9, cf9, g9, hu, hg, hL⟩ := id hR
  have hk1o := hk1
  refine lv_aload_n hx hb dL_law_1159 rfl (lv_at hl 2 rfl) ?_
  refine lv_aload_n hx hb dL_law_1160 rfl (lv_at hl 3 rfl) ?_
  refine lv_iload_n hx hb dL_law_1161 rfl (lv_at hl 0 rfl) ?_
  refine lv_iconst (v := 1) hx hb dL_law_1162 (by decide) ?_
  refine lv_iadd hx hb dL_law_1163 ?_
  refine lv_topi (fun y_1 ey_1 => ?_)
  obtain rfl : y_1 = nI (8 * i + 1) := ey_1.trans (nI_k _ 1 rfl)
  refine va_sld hx hb hX hbl hbA hS (vp_in_nI (by omega) (by omega)) dL_law_1164 ?_
  refine lv_topi (fun y_2 ey_2 => ?_)
  obtain rfl : y_2 = xs (8 * i + 1) := ey_2.trans (by rw [nI_clamp (by omega)])
  obtain ⟨kk_3, hk_4⟩ := pl_at hI.2.1.1.1 hI.2.2.2.1.1
  have hPc := vaP_l hP
  refine vp_callSi (va_runV (As := [.int (xs (8 * i + 1))]) (rest := []) ⟨hx, hb, hml, hown, hts⟩ (y_about l dC dI q h0 d k z f hI (xs (8 * i + 1)) u hrp hk0 hk1 hk2 hk3) (cwV 1 hts gL_law_X11_about rfl rfl rfl zh_X11_about_166 ⟨Nat.le_of_ble_eq_true rfl, Nat.le_of_ble_eq_true rfl⟩) ⟨px_fb, va_recv hK hPc (ci := 10) (q0 := kk_3) rfl hk_4, fun U hU hW => ⟨rfl, px_to hU hW hPc hK hN hXN⟩⟩ rfl rfl hl.1 rfl (lv_room (Nat.le_of_ble_eq_true rfl)) dL_law_1165 ⟨by omega, by omega⟩).run (fun r hw => ?_)
  generalize r = ra_5 at hw ⊢
  have hx9 := hw
  refine lv_aload_n hx hb dL_law_1168 rfl (lv_at hl 1 rfl) ?_
  refine lv_aload_n hx hb dL_law_1169 rfl (lv_at hl 3 rfl) ?_
  refine lv_iload_n hx hb dL_law_1170 rfl (lv_at hl 0 rfl) ?_
  refine lv_iconst (v := 1) hx hb dL_law_1171 (by decide) ?_
  refine lv_iadd hx hb dL_law_1172 ?_
  refine lv_topi (fun y_6 ey_6 => ?_)
  obtain rfl : y_6 = nI (8 * i + 1) := ey_6.trans (nI_k _ 1 rfl)
  refine va_sld hx hb hX hbl hbA hS (vp_in_nI (by omega) (by omega)) dL_law_1173 ?_
  refine lv_topi (fun y_7 ey_7 => ?_)
  obtain rfl : y_7 = xs (8 * i + 1) := ey_7.trans (by rw [nI_clamp (by omega)])
  have hPc := vaP_r hP
  have hKc := hK.sub (tys' := [(q 0, .int), (q 1, .boolean)]) [0, 1] rfl
  refine vp_callSi (va_runV (As := [.int (xs (8 * i + 1))]) (rest := [.int ra_5]) ⟨hx, hb, hml, hown, hts⟩ (m_about l dC dI mm v (q 0) (q 1) u (xs (8 * i + 1))) (cwV 1 hts gL_law_X12_about rfl rfl rfl zh_X12_about_167 ⟨Nat.le_of_ble_eq_true rfl, Nat.le_of_ble_eq_true rfl⟩) ⟨pw_fb, va_recv hKc hPc (ci := 11) (q0 := 0) rfl rfl, fun U hU hW => ⟨rfl, pw_to hU hW hPc hKc hN⟩⟩ rfl rfl hl.1 rfl (lv_room (Nat.le_of_ble_eq_true rfl)) dL_law_1174 ⟨by omega, by omega⟩).run (fun r hw => ?_)
  generalize r = ra_8 at hw ⊢
  have hrl : ra_5 = ra_8 := hx9.trans hw.symm
  refine lv_icmp_eq (tgt := 1182) hx hb dL_law_1177 (by decide) (fun c_9 => ?_) (fun c_9 => absurd (hrl) c_9)
  refine W.widen (k := cells + 976) (n := slots + 4880) (by omega) (by omega) ?_
  exact kx _ _ _ _ _ _ _ ls hR hP hD hS (lv_sub hl [0, 1, 2, 3] rfl)
