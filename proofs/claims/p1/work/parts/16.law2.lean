set_option maxHeartbeats 4000000 in
set_option maxRecDepth 100000 in
theorem law_c20 {p : Program} {l : Launch} {e : Env} {s : State} {m : MethodId} {below : List Frame} {meth : Method} {c : Code} {b : Nat} {xs : Nat → Int32} {A : Nat → Prop} {H : Heap} {locs : List Loc} {dC : Nat → ClassId} {dI : Nat → Nat → Nat} {h0 pg pl it ac rv mm : Nat} {sa la ca v : Nat → Nat} {g1 : Nat → Int32} {cI cZ cS cT cA : ClassId} (C0 : lw_At p s m meth c b 8 xs) (hAe : A = fun q => s.heap.size ≤ q) (hN : NN s) (hK : va_K (dC, dI) vwCl [(cI, .int), (cZ, .boolean), (cS, .object "PageOne$Sheet"), (cT, .object "PageOne$Item"), (cA, .object "PageOne$Act")] s) (hP : va_P (dC, dI) vwCl ([(h0, .inr (10, [.ref pg, .ref pl, .ref it, .int 0, .ref ac, .int 0, .ref rv, .int 0, .int 0])), (pg, .inl (cS, 12, .inr (.inr (.inr (.inr (fun j => some (sa j))))))), (pl, .inl (cS, 12, .inr (.inr (.inr (.inr (fun _ => none)))))), (it, .inl (cT, 80, .inr (.inr (.inr (.inr (fun _ => none)))))), (ac, .inl (cA, 300, .inr (.inr (.inr (.inr (fun _ => none)))))), (rv, .inl (cZ, 100, .inl (fun _ => 0))), (mm, .inr (11, mO v 0 0 0 0 0 0 0 0)), ((v 0), .inl (cI, 96, .inl (fun _ => 0))), ((v 1), .inl (cI, 12, .inl g1)), ((v 2), .inl (cI, 5760, .inl (fun _ => (-2)))), ((v 4), .inl (cI, 80, .inl (fun _ => 0))), ((v 5), .inl (cI, 80, .inl (fun _ => 0))), ((v 6), .inl (cI, 80, .inl (fun _ => 0))), ((v 7), .inl (cI, 80, .inl (fun _ => 0))), ((v 8), .inl (cI, 80, .inl (fun _ => 0))), ((v 9), .inl (cI, 80, .inl (fun _ => 0))), ((v 10), .inl (cI, 80, .inl (fun _ => 0))), ((v 11), .inl (cI, 80, .inl (fun _ => 0))), ((v 12), .inl (cI, 80, .inl (fun _ => 0))), ((v 13), .inl (cI, 80, .inl (fun _ => 0))), ((v 14), .inl (cI, 80, .inl (fun _ => 0))), ((v 15), .inl (cI, 80, .inl (fun _ => 0))), ((v 17), .inl (cI, 80, .inl (fun _ => 0))), ((v 20), .inl (cZ, 100, .inl (fun _ => 0))), ((v 22), .inl (cI, 80, .inl (fun _ => 0))), ((v 40), .inl (cZ, 12, .inl (fun _ => 0)))] ++ shW cI sa la ca) H) (hD : va_D A ([(h0, .inr (10, [.ref pg, .ref pl, .ref it, .int 0, .ref ac, .int 0, .ref rv, .int 0, .int 0])), (pg, .inl (cS, 12, .inr (.inr (.inr (.inr (fun j => some (sa j))))))), (pl, .inl (cS, 12, .inr (.inr (.inr (.inr (fun _ => none)))))), (it, .inl (cT, 80, .inr (.inr (.inr (.inr (fun _ => none)))))), (ac, .inl (cA, 300, .inr (.inr (.inr (.inr (fun _ => none)))))), (rv, .inl (cZ, 100, .inl (fun _ => 0))), (mm, .inr (11, mO v 0 0 0 0 0 0 0 0)), ((v 0), .inl (cI, 96, .inl (fun _ => 0))), ((v 1), .inl (cI, 12, .inl g1)), ((v 2), .inl (cI, 5760, .inl (fun _ => (-2)))), ((v 4), .inl (cI, 80, .inl (fun _ => 0))), ((v 5), .inl (cI, 80, .inl (fun _ => 0))), ((v 6), .inl (cI, 80, .inl (fun _ => 0))), ((v 7), .inl (cI, 80, .inl (fun _ => 0))), ((v 8), .inl (cI, 80, .inl (fun _ => 0))), ((v 9), .inl (cI, 80, .inl (fun _ => 0))), ((v 10), .inl (cI, 80, .inl (fun _ => 0))), ((v 11), .inl (cI, 80, .inl (fun _ => 0))), ((v 12), .inl (cI, 80, .inl (fun _ => 0))), ((v 13), .inl (cI, 80, .inl (fun _ => 0))), ((v 14), .inl (cI, 80, .inl (fun _ => 0))), ((v 15), .inl (cI, 80, .inl (fun _ => 0))), ((v 17), .inl (cI, 80, .inl (fun _ => 0))), ((v 20), .inl (cZ, 100, .inl (fun _ => 0))), ((v 22), .inl (cI, 80, .inl (fun _ => 0))), ((v 40), .inl (cZ, 12, .inl (fun _ => 0)))] ++ shW cI sa la ca)) (hS : va_S A s.heap H locs) {ls : Array Slot} (hl : lv_has ls 4 [(3, .int 0), (2, .ref mm), (1, .ref h0), (0, .ref b)]) : W p l e room_1 s m #[Value.ref b] below meth c H locs 87 66821 (lw_Z below #[Value.ref b] s) (F0 m 832 ls []) := by
  obtain ⟨hx, hb, hr, hml, hown, hts, hX, hbl, hlocks, hgv⟩ := id C0
  have hbA : ¬ A b := by rw [hAe]; exact Nat.not_le.mpr hbl
  have hA : ∀ q : Nat, s.heap.size ≤ q → A q := fun q h => by rw [hAe]; exact h
  have hts := fun w h => hts w (wsL_law_in w h)
  refine lv_aload_n hx hb dL_law_832 rfl (lv_at hl 2 rfl) ?_
  refine lv_aload_n hx hb dL_law_833 rfl (lv_at hl 3 rfl) ?_
  refine lv_iload_n hx hb dL_law_834 rfl (lv_at hl 0 rfl) ?_
  refine lv_iconst (v := 1) hx hb dL_law_835 (by decide) ?_
  refine lv_iadd hx hb dL_law_836 ?_
  refine lv_topi (fun k_1 ek_1 => ?_)
  obtain rfl : k_1 = 1 := ek_1.trans (by decide)
  refine va_sld hx hb hX hbl hbA hS (by unfold vp_in; decide) dL_law_837 ?_
  refine lv_aload_n hx hb dL_law_838 rfl (lv_at hl 3 rfl) ?_
  refine lv_iload_n hx hb dL_law_839 rfl (lv_at hl 0 rfl) ?_
  refine lv_iconst (v := 2) hx hb dL_law_840 (by decide) ?_
  refine lv_iadd hx hb dL_law_841 ?_
  refine lv_topi (fun k_2 ek_2 => ?_)
  obtain rfl : k_2 = 2 := ek_2.trans (by decide)
  refine va_sld hx hb hX hbl hbA hS (by unfold vp_in; decide) dL_law_842 ?_
  refine lv_aload_n hx hb dL_law_843 rfl (lv_at hl 3 rfl) ?_
  refine lv_iload_n hx hb dL_law_844 rfl (lv_at hl 0 rfl) ?_
  refine lv_iconst (v := 3) hx hb dL_law_845 (by decide) ?_
  refine lv_iadd hx hb dL_law_846 ?_
  refine lv_topi (fun k_3 ek_3 => ?_)
  obtain rfl : k_3 = 3 := ek_3.trans (by decide)
  refine va_sld hx hb hX hbl hbA hS (by unfold vp_in; decide) dL_law_847 ?_
  have hPc := hP.sub (ws' := ([(h0, .inr (10, [.ref pg, .ref pl, .ref it, .int 0, .ref ac, .int 0, .ref rv, .int 0, .int 0])), (pg, .inl (cS, 12, .inr (.inr (.inr (.inr (fun j => some (sa j)))))))] ++ shW cI sa la ca)) [0, 1, 26, 27, 28, 29, 30, 31, 32, 33, 34, 35, 36, 37, 38, 39, 40, 41, 42, 43, 44, 45, 46, 47, 48, 49, 50, 51, 52, 53, 54, 55, 56, 57, 58, 59, 60, 61] rfl
  have hKc := hK.sub (tys' := [(cI, .int), (cS, .object "PageOne$Sheet")]) [0, 2] rfl
  refine vp_callSi (va_runV (As := [.int (xs 1), .int (xs 2), .int (xs 3)]) (rest := []) ⟨hx, hb, hml, hown, hts⟩ (x_cell l dC dI h0 pg pl it ac rv sa la ca cI cS (xs 1) (xs 2) (xs 3)) (cwV 3 hts gL_law_X11_cell rfl rfl rfl (by decide +kernel) ⟨Nat.le_of_ble_eq_true rfl, Nat.le_of_ble_eq_true rfl⟩) ⟨pw_fb, va_recv hKc hPc (ci := 10) (q0 := 0) rfl rfl, fun U hU hW => ⟨rfl, pw_to hU hW hPc hKc hN⟩⟩ rfl rfl hl.1 rfl (lv_room (Nat.le_of_ble_eq_true rfl)) dL_law_848 ⟨Nat.le_of_ble_eq_true rfl, Nat.le_of_ble_eq_true rfl⟩).run (fun r hw => ?_)
  obtain rfl : r = (-1) := hw
  refine lv_aload_n hx hb dL_law_851 rfl (lv_at hl 1 rfl) ?_
  refine lv_aload_n hx hb dL_law_852 rfl (lv_at hl 3 rfl) ?_
  refine lv_iload_n hx hb dL_law_853 rfl (lv_at hl 0 rfl) ?_
  refine lv_iconst (v := 1) hx hb dL_law_854 (by decide) ?_
  refine lv_iadd hx hb dL_law_855 ?_
  refine lv_topi (fun k_4 ek_4 => ?_)
  obtain rfl : k_4 = 1 := ek_4.trans (by decide)
  refine va_sld hx hb hX hbl hbA hS (by unfold vp_in; decide) dL_law_856 ?_
  refine lv_aload_n hx hb dL_law_857 rfl (lv_at hl 3 rfl) ?_
  refine lv_iload_n hx hb dL_law_858 rfl (lv_at hl 0 rfl) ?_
  refine lv_iconst (v := 2) hx hb dL_law_859 (by decide) ?_
  refine lv_iadd hx hb dL_law_860 ?_
  refine lv_topi (fun k_5 ek_5 => ?_)
  obtain rfl : k_5 = 2 := ek_5.trans (by decide)
  refine va_sld hx hb hX hbl hbA hS (by unfold vp_in; decide) dL_law_861 ?_
  refine lv_aload_n hx hb dL_law_862 rfl (lv_at hl 3 rfl) ?_
  refine lv_iload_n hx hb dL_law_863 rfl (lv_at hl 0 rfl) ?_
  refine lv_iconst (v := 3) hx hb dL_law_864 (by decide) ?_
  refine lv_iadd hx hb dL_law_865 ?_
  refine lv_topi (fun k_6 ek_6 => ?_)
  obtain rfl : k_6 = 3 := ek_6.trans (by decide)
  refine va_sld hx hb hX hbl hbA hS (by unfold vp_in; decide) dL_law_866 ?_
  have hPc := hP.sub (ws' := [(mm, .inr (11, mO v 0 0 0 0 0 0 0 0)), ((v 0), .inl (cI, 96, .inl (fun _ => 0)))]) [6, 7] rfl
  have hKc := hK.sub (tys' := [(cI, .int)]) [0] rfl
  refine vp_callSi (va_runV (As := [.int (xs 1), .int (xs 2), .int (xs 3)]) (rest := [.int (-1)]) ⟨hx, hb, hml, hown, hts⟩ (m_cell l dC dI mm v cI (xs 1) (xs 2) (xs 3)) (cwV 3 hts gL_law_X12_cell rfl rfl rfl (by decide +kernel) ⟨Nat.le_of_ble_eq_true rfl, Nat.le_of_ble_eq_true rfl⟩) ⟨pw_fb, va_recv hKc hPc (ci := 11) (q0 := 0) rfl rfl, fun U hU hW => ⟨rfl, pw_to hU hW hPc hKc hN⟩⟩ rfl rfl hl.1 rfl (lv_room (Nat.le_of_ble_eq_true rfl)) dL_law_867 ⟨Nat.le_of_ble_eq_true rfl, Nat.le_of_ble_eq_true rfl⟩).run (fun r hw => ?_)
  obtain rfl : r = (-1) := hw
  refine lv_icmp_eq (tgt := 1182) hx hb dL_law_870 (by decide) (fun c_7 => ?_) (fun c_7 => absurd (rfl) c_7)
  exact law_tail C0 hAe hS (lv_sub hl [0, 3] rfl) (Nat.le_of_ble_eq_true rfl) (Nat.le_of_ble_eq_true rfl)
set_option maxHeartbeats 4000000 in
set_option maxRecDepth 100000 in
theorem law_c21 {p : Program} {l : Launch} {e : Env} {s : State} {m : MethodId} {below : List Frame} {meth : Method} {c : Code} {b : Nat} {xs : Nat → Int32} {A : Nat → Prop} {H : Heap} {locs : List Loc} {dC : Nat → ClassId} {dI : Nat → Nat → Nat} {h0 pg pl it ac rv mm : Nat} {sa la ca v : Nat → Nat} {g1 : Nat → Int32} {cI cZ cS cT cA : ClassId} (C0 : lw_At p s m meth c b 8 xs) (hAe : A = fun q => s.heap.size ≤ q) (hN : NN s) (hK : va_K (dC, dI) vwCl [(cI, .int), (cZ, .boolean), (cS, .object "PageOne$Sheet"), (cT, .object "PageOne$Item"), (cA, .object "PageOne$Act")] s) (hP : va_P (dC, dI) vwCl ([(h0, .inr (10, [.ref pg, .ref pl, .ref it, .int 0, .ref ac, .int 0, .ref rv, .int 0, .int 0])), (pg, .inl (cS, 12, .inr (.inr (.inr (.inr (fun j => some (sa j))))))), (pl, .inl (cS, 12, .inr (.inr (.inr (.inr (fun _ => none)))))), (it, .inl (cT, 80, .inr (.inr (.inr (.inr (fun _ => none)))))), (ac, .inl (cA, 300, .inr (.inr (.inr (.inr (fun _ => none)))))), (rv, .inl (cZ, 100, .inl (fun _ => 0))), (mm, .inr (11, mO v 0 0 0 0 0 0 0 0)), ((v 0), .inl (cI, 96, .inl (fun _ => 0))), ((v 1), .inl (cI, 12, .inl g1)), ((v 2), .inl (cI, 5760, .inl (fun _ => (-2)))), ((v 4), .inl (cI, 80, .inl (fun _ => 0))), ((v 5), .inl (cI, 80, .inl (fun _ => 0))), ((v 6), .inl (cI, 80, .inl (fun _ => 0))), ((v 7), .inl (cI, 80, .inl (fun _ => 0))), ((v 8), .inl (cI, 80, .inl (fun _ => 0))), ((v 9), .inl (cI, 80, .inl (fun _ => 0))), ((v 10), .inl (cI, 80, .inl (fun _ => 0))), ((v 11), .inl (cI, 80, .inl (fun _ => 0))), ((v 12), .inl (cI, 80, .inl (fun _ => 0))), ((v 13), .inl (cI, 80, .inl (fun _ => 0))), ((v 14), .inl (cI, 80, .inl (fun _ => 0))), ((v 15), .inl (cI, 80, .inl (fun _ => 0))), ((v 17), .inl (cI, 80, .inl (fun _ => 0))), ((v 20), .inl (cZ, 100, .inl (fun _ => 0))), ((v 22), .inl (cI, 80, .inl (fun _ => 0))), ((v 40), .inl (cZ, 12, .inl (fun _ => 0)))] ++ shW cI sa la ca) H) (hD : va_D A ([(h0, .inr (10, [.ref pg, .ref pl, .ref it, .int 0, .ref ac, .int 0, .ref rv, .int 0, .int 0])), (pg, .inl (cS, 12, .inr (.inr (.inr (.inr (fun j => some (sa j))))))), (pl, .inl (cS, 12, .inr (.inr (.inr (.inr (fun _ => none)))))), (it, .inl (cT, 80, .inr (.inr (.inr (.inr (fun _ => none)))))), (ac, .inl (cA, 300, .inr (.inr (.inr (.inr (fun _ => none)))))), (rv, .inl (cZ, 100, .inl (fun _ => 0))), (mm, .inr (11, mO v 0 0 0 0 0 0 0 0)), ((v 0), .inl (cI, 96, .inl (fun _ => 0))), ((v 1), .inl (cI, 12, .inl g1)), ((v 2), .inl (cI, 5760, .inl (fun _ => (-2)))), ((v 4), .inl (cI, 80, .inl (fun _ => 0))), ((v 5), .inl (cI, 80, .inl (fun _ => 0))), ((v 6), .inl (cI, 80, .inl (fun _ => 0))), ((v 7), .inl (cI, 80, .inl (fun _ => 0))), ((v 8), .inl (cI, 80, .inl (fun _ => 0))), ((v 9), .inl (cI, 80, .inl (fun _ => 0))), ((v 10), .inl (cI, 80, .inl (fun _ => 0))), ((v 11), .inl (cI, 80, .inl (fun _ => 0))), ((v 12), .inl (cI, 80, .inl (fun _ => 0))), ((v 13), .inl (cI, 80, .inl (fun _ => 0))), ((v 14), .inl (cI, 80, .inl (fun _ => 0))), ((v 15), .inl (cI, 80, .inl (fun _ => 0))), ((v 17), .inl (cI, 80, .inl (fun _ => 0))), ((v 20), .inl (cZ, 100, .inl (fun _ => 0))), ((v 22), .inl (cI, 80, .inl (fun _ => 0))), ((v 40), .inl (cZ, 12, .inl (fun _ => 0)))] ++ shW cI sa la ca)) (hS : va_S A s.heap H locs) {ls : Array Slot} (hl : lv_has ls 4 [(3, .int 0), (2, .ref mm), (1, .ref h0), (0, .ref b)]) : W p l e room_1 s m #[Value.ref b] below meth c H locs 87 66821 (lw_Z below #[Value.ref b] s) (F0 m 875 ls []) := by
  obtain ⟨hx, hb, hr, hml, hown, hts, hX, hbl, hlocks, hgv⟩ := id C0
  have hbA : ¬ A b := by rw [hAe]; exact Nat.not_le.mpr hbl
  have hA : ∀ q : Nat, s.heap.size ≤ q → A q := fun q h => by rw [hAe]; exact h
  have hts := fun w h => hts w (wsL_law_in w h)
  refine lv_aload_n hx hb dL_law_875 rfl (lv_at hl 2 rfl) ?_
  refine lv_aload_n hx hb dL_law_876 rfl (lv_at hl 3 rfl) ?_
  refine lv_iload_n hx hb dL_law_877 rfl (lv_at hl 0 rfl) ?_
  refine lv_iconst (v := 1) hx hb dL_law_878 (by decide) ?_
  refine lv_iadd hx hb dL_law_879 ?_
  refine lv_topi (fun k_1 ek_1 => ?_)
  obtain rfl : k_1 = 1 := ek_1.trans (by decide)
  refine va_sld hx hb hX hbl hbA hS (by unfold vp_in; decide) dL_law_880 ?_
  refine lv_aload_n hx hb dL_law_881 rfl (lv_at hl 3 rfl) ?_
  refine lv_iload_n hx hb dL_law_882 rfl (lv_at hl 0 rfl) ?_
  refine lv_iconst (v := 2) hx hb dL_law_883 (by decide) ?_
  refine lv_iadd hx hb dL_law_884 ?_
  refine lv_topi (fun k_2 ek_2 => ?_)
  obtain rfl : k_2 = 2 := ek_2.trans (by decide)
  refine va_sld hx hb hX hbl hbA hS (by unfold vp_in; decide) dL_law_885 ?_
  refine lv_aload_n hx hb dL_law_886 rfl (lv_at hl 3 rfl) ?_
  refine lv_iload_n hx hb dL_law_887 rfl (lv_at hl 0 rfl) ?_
  refine lv_iconst (v := 3) hx hb dL_law_888 (by decide) ?_
  refine lv_iadd hx hb dL_law_889 ?_
  refine lv_topi (fun k_3 ek_3 => ?_)
  obtain rfl : k_3 = 3 := ek_3.trans (by decide)
  refine va_sld hx hb hX hbl hbA hS (by unfold vp_in; decide) dL_law_890 ?_
  have hPc := hP.sub (ws' := [(h0, .inr (10, [.ref pg, .ref pl, .ref it, .int 0, .ref ac, .int 0, .ref rv, .int 0, .int 0]))]) [0] rfl
  have hKc := hK.sub (tys' := []) [] rfl
  refine vp_callSi (va_runV (As := [.int (xs 1), .int (xs 2), .int (xs 3)]) (rest := []) ⟨hx, hb, hml, hown, hts⟩ (x_piece l dC dI h0 pg pl it ac rv (xs 1) (xs 2) (xs 3)) (cwV 3 hts gL_law_X11_piece rfl rfl rfl (by decide +kernel) ⟨Nat.le_of_ble_eq_true rfl, Nat.le_of_ble_eq_true rfl⟩) ⟨pw_fb, va_recv hKc hPc (ci := 10) (q0 := 0) rfl rfl, fun U hU hW => ⟨rfl, pw_to hU hW hPc hKc hN⟩⟩ rfl rfl hl.1 rfl (lv_room (Nat.le_of_ble_eq_true rfl)) dL_law_891 ⟨Nat.le_of_ble_eq_true rfl, Nat.le_of_ble_eq_true rfl⟩).run (fun r hw => ?_)
  obtain rfl : r = (-1) := hw
  refine lv_aload_n hx hb dL_law_894 rfl (lv_at hl 1 rfl) ?_
  refine lv_aload_n hx hb dL_law_895 rfl (lv_at hl 3 rfl) ?_
  refine lv_iload_n hx hb dL_law_896 rfl (lv_at hl 0 rfl) ?_
  refine lv_iconst (v := 1) hx hb dL_law_897 (by decide) ?_
  refine lv_iadd hx hb dL_law_898 ?_
  refine lv_topi (fun k_4 ek_4 => ?_)
  obtain rfl : k_4 = 1 := ek_4.trans (by decide)
  refine va_sld hx hb hX hbl hbA hS (by unfold vp_in; decide) dL_law_899 ?_
  refine lv_aload_n hx hb dL_law_900 rfl (lv_at hl 3 rfl) ?_
  refine lv_iload_n hx hb dL_law_901 rfl (lv_at hl 0 rfl) ?_
  refine lv_iconst (v := 2) hx hb dL_law_902 (by decide) ?_
  refine lv_iadd hx hb dL_law_903 ?_
  refine lv_topi (fun k_5 ek_5 => ?_)
  obtain rfl : k_5 = 2 := ek_5.trans (by decide)
  refine va_sld hx hb hX hbl hbA hS (by unfold vp_in; decide) dL_law_904 ?_
  refine lv_aload_n hx hb dL_law_905 rfl (lv_at hl 3 rfl) ?_
  refine lv_iload_n hx hb dL_law_906 rfl (lv_at hl 0 rfl) ?_
  refine lv_iconst (v := 3) hx hb dL_law_907 (by decide) ?_
  refine lv_iadd hx hb dL_law_908 ?_
  refine lv_topi (fun k_6 ek_6 => ?_)
  obtain rfl : k_6 = 3 := ek_6.trans (by decide)
  refine va_sld hx hb hX hbl hbA hS (by unfold vp_in; decide) dL_law_909 ?_
  have hPc := hP.sub (ws' := [(mm, .inr (11, mO v 0 0 0 0 0 0 0 0))]) [6] rfl
  have hKc := hK.sub (tys' := []) [] rfl
  refine vp_callSi (va_runV (As := [.int (xs 1), .int (xs 2), .int (xs 3)]) (rest := [.int (-1)]) ⟨hx, hb, hml, hown, hts⟩ (m_piece l dC dI mm v (xs 1) (xs 2) (xs 3)) (cwV 3 hts gL_law_X12_piece rfl rfl rfl (by decide +kernel) ⟨Nat.le_of_ble_eq_true rfl, Nat.le_of_ble_eq_true rfl⟩) ⟨pw_fb, va_recv hKc hPc (ci := 11) (q0 := 0) rfl rfl, fun U hU hW => ⟨rfl, pw_to hU hW hPc hKc hN⟩⟩ rfl rfl hl.1 rfl (lv_room (Nat.le_of_ble_eq_true rfl)) dL_law_910 ⟨Nat.le_of_ble_eq_true rfl, Nat.le_of_ble_eq_true rfl⟩).run (fun r hw => ?_)
  obtain rfl : r = (-1) := hw
  refine lv_icmp_eq (tgt := 1182) hx hb dL_law_913 (by decide) (fun c_7 => ?_) (fun c_7 => absurd (rfl) c_7)
  exact law_tail C0 hAe hS (lv_sub hl [0, 3] rfl) (Nat.le_of_ble_eq_true rfl) (Nat.le_of_ble_eq_true rfl)
set_option maxHeartbeats 4000000 in
set_option maxRecDepth 100000 in
theorem law_c22 {p : Program} {l : Launch} {e : Env} {s : State} {m : MethodId} {below : List Frame} {meth : Method} {c : Code} {b : Nat} {xs : Nat → Int32} {A : Nat → Prop} {H : Heap} {locs : List Loc} {dC : Nat → ClassId} {dI : Nat → Nat → Nat} {h0 pg pl it ac rv mm : Nat} {sa la ca v : Nat → Nat} {g1 : Nat → Int32} {cI cZ cS cT cA : ClassId} (C0 : lw_At p s m meth c b 8 xs) (hAe : A = fun q => s.heap.size ≤ q) (hN : NN s) (hK : va_K (dC, dI) vwCl [(cI, .int), (cZ, .boolean), (cS, .object "PageOne$Sheet"), (cT, .object "PageOne$Item"), (cA, .object "PageOne$Act")] s) (hP : va_P (dC, dI) vwCl ([(h0, .inr (10, [.ref pg, .ref pl, .ref it, .int 0, .ref ac, .int 0, .ref rv, .int 0, .int 0])), (pg, .inl (cS, 12, .inr (.inr (.inr (.inr (fun j => some (sa j))))))), (pl, .inl (cS, 12, .inr (.inr (.inr (.inr (fun _ => none)))))), (it, .inl (cT, 80, .inr (.inr (.inr (.inr (fun _ => none)))))), (ac, .inl (cA, 300, .inr (.inr (.inr (.inr (fun _ => none)))))), (rv, .inl (cZ, 100, .inl (fun _ => 0))), (mm, .inr (11, mO v 0 0 0 0 0 0 0 0)), ((v 0), .inl (cI, 96, .inl (fun _ => 0))), ((v 1), .inl (cI, 12, .inl g1)), ((v 2), .inl (cI, 5760, .inl (fun _ => (-2)))), ((v 4), .inl (cI, 80, .inl (fun _ => 0))), ((v 5), .inl (cI, 80, .inl (fun _ => 0))), ((v 6), .inl (cI, 80, .inl (fun _ => 0))), ((v 7), .inl (cI, 80, .inl (fun _ => 0))), ((v 8), .inl (cI, 80, .inl (fun _ => 0))), ((v 9), .inl (cI, 80, .inl (fun _ => 0))), ((v 10), .inl (cI, 80, .inl (fun _ => 0))), ((v 11), .inl (cI, 80, .inl (fun _ => 0))), ((v 12), .inl (cI, 80, .inl (fun _ => 0))), ((v 13), .inl (cI, 80, .inl (fun _ => 0))), ((v 14), .inl (cI, 80, .inl (fun _ => 0))), ((v 15), .inl (cI, 80, .inl (fun _ => 0))), ((v 17), .inl (cI, 80, .inl (fun _ => 0))), ((v 20), .inl (cZ, 100, .inl (fun _ => 0))), ((v 22), .inl (cI, 80, .inl (fun _ => 0))), ((v 40), .inl (cZ, 12, .inl (fun _ => 0)))] ++ shW cI sa la ca) H) (hD : va_D A ([(h0, .inr (10, [.ref pg, .ref pl, .ref it, .int 0, .ref ac, .int 0, .ref rv, .int 0, .int 0])), (pg, .inl (cS, 12, .inr (.inr (.inr (.inr (fun j => some (sa j))))))), (pl, .inl (cS, 12, .inr (.inr (.inr (.inr (fun _ => none)))))), (it, .inl (cT, 80, .inr (.inr (.inr (.inr (fun _ => none)))))), (ac, .inl (cA, 300, .inr (.inr (.inr (.inr (fun _ => none)))))), (rv, .inl (cZ, 100, .inl (fun _ => 0))), (mm, .inr (11, mO v 0 0 0 0 0 0 0 0)), ((v 0), .inl (cI, 96, .inl (fun _ => 0))), ((v 1), .inl (cI, 12, .inl g1)), ((v 2), .inl (cI, 5760, .inl (fun _ => (-2)))), ((v 4), .inl (cI, 80, .inl (fun _ => 0))), ((v 5), .inl (cI, 80, .inl (fun _ => 0))), ((v 6), .inl (cI, 80, .inl (fun _ => 0))), ((v 7), .inl (cI, 80, .inl (fun _ => 0))), ((v 8), .inl (cI, 80, .inl (fun _ => 0))), ((v 9), .inl (cI, 80, .inl (fun _ => 0))), ((v 10), .inl (cI, 80, .inl (fun _ => 0))), ((v 11), .inl (cI, 80, .inl (fun _ => 0))), ((v 12), .inl (cI, 80, .inl (fun _ => 0))), ((v 13), .inl (cI, 80, .inl (fun _ => 0))), ((v 14), .inl (cI, 80, .inl (fun _ => 0))), ((v 15), .inl (cI, 80, .inl (fun _ => 0))), ((v 17), .inl (cI, 80, .inl (fun _ => 0))), ((v 20), .inl (cZ, 100, .inl (fun _ => 0))), ((v 22), .inl (cI, 80, .inl (fun _ => 0))), ((v 40), .inl (cZ, 12, .inl (fun _ => 0)))] ++ shW cI sa la ca)) (hS : va_S A s.heap H locs) {ls : Array Slot} (hl : lv_has ls 4 [(3, .int 0), (2, .ref mm), (1, .ref h0), (0, .ref b)]) : W p l e room_1 s m #[Value.ref b] below meth c H locs 87 66821 (lw_Z below #[Value.ref b] s) (F0 m 918 ls []) := by
  obtain ⟨hx, hb, hr, hml, hown, hts, hX, hbl, hlocks, hgv⟩ := id C0
  have hbA : ¬ A b := by rw [hAe]; exact Nat.not_le.mpr hbl
  have hA : ∀ q : Nat, s.heap.size ≤ q → A q := fun q h => by rw [hAe]; exact h
  have hts := fun w h => hts w (wsL_law_in w h)
  refine lv_aload_n hx hb dL_law_918 rfl (lv_at hl 2 rfl) ?_
  refine lv_aload_n hx hb dL_law_919 rfl (lv_at hl 3 rfl) ?_
  refine lv_iload_n hx hb dL_law_920 rfl (lv_at hl 0 rfl) ?_
  refine lv_iconst (v := 1) hx hb dL_law_921 (by decide) ?_
  refine lv_iadd hx hb dL_law_922 ?_
  refine lv_topi (fun k_1 ek_1 => ?_)
  obtain rfl : k_1 = 1 := ek_1.trans (by decide)
  refine va_sld hx hb hX hbl hbA hS (by unfold vp_in; decide) dL_law_923 ?_
  refine lv_aload_n hx hb dL_law_924 rfl (lv_at hl 3 rfl) ?_
  refine lv_iload_n hx hb dL_law_925 rfl (lv_at hl 0 rfl) ?_
  refine lv_iconst (v := 2) hx hb dL_law_926 (by decide) ?_
  refine lv_iadd hx hb dL_law_927 ?_
  refine lv_topi (fun k_2 ek_2 => ?_)
  obtain rfl : k_2 = 2 := ek_2.trans (by decide)
  refine va_sld hx hb hX hbl hbA hS (by unfold vp_in; decide) dL_law_928 ?_
  have hPc := hP.sub (ws' := [(h0, .inr (10, [.ref pg, .ref pl, .ref it, .int 0, .ref ac, .int 0, .ref rv, .int 0, .int 0]))]) [0] rfl
  have hKc := hK.sub (tys' := []) [] rfl
  refine vp_callSi (va_runV (As := [.int (xs 1), .int (xs 2)]) (rest := []) ⟨hx, hb, hml, hown, hts⟩ (x_item l dC dI h0 pg pl it ac rv (xs 1) (xs 2)) (cwV 2 hts gL_law_X11_item rfl rfl rfl (by decide +kernel) ⟨Nat.le_of_ble_eq_true rfl, Nat.le_of_ble_eq_true rfl⟩) ⟨pw_fb, va_recv hKc hPc (ci := 10) (q0 := 0) rfl rfl, fun U hU hW => ⟨rfl, pw_to hU hW hPc hKc hN⟩⟩ rfl rfl hl.1 rfl (lv_room (Nat.le_of_ble_eq_true rfl)) dL_law_929 ⟨Nat.le_of_ble_eq_true rfl, Nat.le_of_ble_eq_true rfl⟩).run (fun r hw => ?_)
  obtain rfl : r = (-1) := hw
  refine lv_aload_n hx hb dL_law_932 rfl (lv_at hl 1 rfl) ?_
  refine lv_aload_n hx hb dL_law_933 rfl (lv_at hl 3 rfl) ?_
  refine lv_iload_n hx hb dL_law_934 rfl (lv_at hl 0 rfl) ?_
  refine lv_iconst (v := 1) hx hb dL_law_935 (by decide) ?_
  refine lv_iadd hx hb dL_law_936 ?_
  refine lv_topi (fun k_3 ek_3 => ?_)
  obtain rfl : k_3 = 1 := ek_3.trans (by decide)
  refine va_sld hx hb hX hbl hbA hS (by unfold vp_in; decide) dL_law_937 ?_
  refine lv_aload_n hx hb dL_law_938 rfl (lv_at hl 3 rfl) ?_
  refine lv_iload_n hx hb dL_law_939 rfl (lv_at hl 0 rfl) ?_
  refine lv_iconst (v := 2) hx hb dL_law_940 (by decide) ?_
  refine lv_iadd hx hb dL_law_941 ?_
  refine lv_topi (fun k_4 ek_4 => ?_)
  obtain rfl : k_4 = 2 := ek_4.trans (by decide)
  refine va_sld hx hb hX hbl hbA hS (by unfold vp_in; decide) dL_law_942 ?_
  have hPc := hP.sub (ws' := [(mm, .inr (11, mO v 0 0 0 0 0 0 0 0))]) [6] rfl
  have hKc := hK.sub (tys' := []) [] rfl
  refine vp_callSi (va_runV (As := [.int (xs 1), .int (xs 2)]) (rest := [.int (-1)]) ⟨hx, hb, hml, hown, hts⟩ (m_item l dC dI mm v (xs 1) (xs 2)) (cwV 2 hts gL_law_X12_item rfl rfl rfl (by decide +kernel) ⟨Nat.le_of_ble_eq_true rfl, Nat.le_of_ble_eq_true rfl⟩) ⟨pw_fb, va_recv hKc hPc (ci := 11) (q0 := 0) rfl rfl, fun U hU hW => ⟨rfl, pw_to hU hW hPc hKc hN⟩⟩ rfl rfl hl.1 rfl (lv_room (Nat.le_of_ble_eq_true rfl)) dL_law_943 ⟨Nat.le_of_ble_eq_true rfl, Nat.le_of_ble_eq_true rfl⟩).run (fun r hw => ?_)
  obtain rfl : r = (-1) := hw
  refine lv_icmp_eq (tgt := 1182) hx hb dL_law_946 (by decide) (fun c_5 => ?_) (fun c_5 => absurd (rfl) c_5)
  exact law_tail C0 hAe hS (lv_sub hl [0, 3] rfl) (Nat.le_of_ble_eq_true rfl) (Nat.le_of_ble_eq_true rfl)
set_option maxHeartbeats 4000000 in
set_option maxRecDepth 100000 in
theorem law_c23 {p : Program} {l : Launch} {e : Env} {s : State} {m : MethodId} {below : List Frame} {meth : Method} {c : Code} {b : Nat} {xs : Nat → Int32} {A : Nat → Prop} {H : Heap} {locs : List Loc} {dC : Nat → ClassId} {dI : Nat → Nat → Nat} {h0 pg pl it ac rv mm : Nat} {sa la ca v : Nat → Nat} {g1 : Nat → Int32} {cI cZ cS cT cA : ClassId} (C0 : lw_At p s m meth c b 8 xs) (hAe : A = fun q => s.heap.size ≤ q) (hN : NN s) (hK : va_K (dC, dI) vwCl [(cI, .int), (cZ, .boolean), (cS, .object "PageOne$Sheet"), (cT, .object "PageOne$Item"), (cA, .object "PageOne$Act")] s) (hP : va_P (dC, dI) vwCl ([(h0, .inr (10, [.ref pg, .ref pl, .ref it, .int 0, .ref ac, .int 0, .ref rv, .int 0, .int 0])), (pg, .inl (cS, 12, .inr (.inr (.inr (.inr (fun j => some (sa j))))))), (pl, .inl (cS, 12, .inr (.inr (.inr (.inr (fun _ => none)))))), (it, .inl (cT, 80, .inr (.inr (.inr (.inr (fun _ => none)))))), (ac, .inl (cA, 300, .inr (.inr (.inr (.inr (fun _ => none)))))), (rv, .inl (cZ, 100, .inl (fun _ => 0))), (mm, .inr (11, mO v 0 0 0 0 0 0 0 0)), ((v 0), .inl (cI, 96, .inl (fun _ => 0))), ((v 1), .inl (cI, 12, .inl g1)), ((v 2), .inl (cI, 5760, .inl (fun _ => (-2)))), ((v 4), .inl (cI, 80, .inl (fun _ => 0))), ((v 5), .inl (cI, 80, .inl (fun _ => 0))), ((v 6), .inl (cI, 80, .inl (fun _ => 0))), ((v 7), .inl (cI, 80, .inl (fun _ => 0))), ((v 8), .inl (cI, 80, .inl (fun _ => 0))), ((v 9), .inl (cI, 80, .inl (fun _ => 0))), ((v 10), .inl (cI, 80, .inl (fun _ => 0))), ((v 11), .inl (cI, 80, .inl (fun _ => 0))), ((v 12), .inl (cI, 80, .inl (fun _ => 0))), ((v 13), .inl (cI, 80, .inl (fun _ => 0))), ((v 14), .inl (cI, 80, .inl (fun _ => 0))), ((v 15), .inl (cI, 80, .inl (fun _ => 0))), ((v 17), .inl (cI, 80, .inl (fun _ => 0))), ((v 20), .inl (cZ, 100, .inl (fun _ => 0))), ((v 22), .inl (cI, 80, .inl (fun _ => 0))), ((v 40), .inl (cZ, 12, .inl (fun _ => 0)))] ++ shW cI sa la ca) H) (hD : va_D A ([(h0, .inr (10, [.ref pg, .ref pl, .ref it, .int 0, .ref ac, .int 0, .ref rv, .int 0, .int 0])), (pg, .inl (cS, 12, .inr (.inr (.inr (.inr (fun j => some (sa j))))))), (pl, .inl (cS, 12, .inr (.inr (.inr (.inr (fun _ => none)))))), (it, .inl (cT, 80, .inr (.inr (.inr (.inr (fun _ => none)))))), (ac, .inl (cA, 300, .inr (.inr (.inr (.inr (fun _ => none)))))), (rv, .inl (cZ, 100, .inl (fun _ => 0))), (mm, .inr (11, mO v 0 0 0 0 0 0 0 0)), ((v 0), .inl (cI, 96, .inl (fun _ => 0))), ((v 1), .inl (cI, 12, .inl g1)), ((v 2), .inl (cI, 5760, .inl (fun _ => (-2)))), ((v 4), .inl (cI, 80, .inl (fun _ => 0))), ((v 5), .inl (cI, 80, .inl (fun _ => 0))), ((v 6), .inl (cI, 80, .inl (fun _ => 0))), ((v 7), .inl (cI, 80, .inl (fun _ => 0))), ((v 8), .inl (cI, 80, .inl (fun _ => 0))), ((v 9), .inl (cI, 80, .inl (fun _ => 0))), ((v 10), .inl (cI, 80, .inl (fun _ => 0))), ((v 11), .inl (cI, 80, .inl (fun _ => 0))), ((v 12), .inl (cI, 80, .inl (fun _ => 0))), ((v 13), .inl (cI, 80, .inl (fun _ => 0))), ((v 14), .inl (cI, 80, .inl (fun _ => 0))), ((v 15), .inl (cI, 80, .inl (fun _ => 0))), ((v 17), .inl (cI, 80, .inl (fun _ => 0))), ((v 20), .inl (cZ, 100, .inl (fun _ => 0))), ((v 22), .inl (cI, 80, .inl (fun _ => 0))), ((v 40), .inl (cZ, 12, .inl (fun _ => 0)))] ++ shW cI sa la ca)) (hS : va_S A s.heap H locs) {ls : Array Slot} (hl : lv_has ls 4 [(3, .int 0), (2, .ref mm), (1, .ref h0), (0, .ref b)]) : W p l e room_1 s m #[Value.ref b] below meth c H locs 87 66821 (lw_Z below #[Value.ref b] s) (F0 m 951 ls []) := by
  obtain ⟨hx, hb, hr, hml, hown, hts, hX, hbl, hlocks, hgv⟩ := id C0
  have hbA : ¬ A b := by rw [hAe]; exact Nat.not_le.mpr hbl
  have hA : ∀ q : Nat, s.heap.size ≤ q → A q := fun q h => by rw [hAe]; exact h
  have hts := fun w h => hts w (wsL_law_in w h)
  refine lv_aload_n hx hb dL_law_951 rfl (lv_at hl 2 rfl) ?_
  refine lv_aload_n hx hb dL_law_952 rfl (lv_at hl 3 rfl) ?_
  refine lv_iload_n hx hb dL_law_953 rfl (lv_at hl 0 rfl) ?_
  refine lv_iconst (v := 1) hx hb dL_law_954 (by decide) ?_
  refine lv_iadd hx hb dL_law_955 ?_
  refine lv_topi (fun k_1 ek_1 => ?_)
  obtain rfl : k_1 = 1 := ek_1.trans (by decide)
  refine va_sld hx hb hX hbl hbA hS (by unfold vp_in; decide) dL_law_956 ?_
  refine lv_aload_n hx hb dL_law_957 rfl (lv_at hl 3 rfl) ?_
  refine lv_iload_n hx hb dL_law_958 rfl (lv_at hl 0 rfl) ?_
  refine lv_iconst (v := 2) hx hb dL_law_959 (by decide) ?_
  refine lv_iadd hx hb dL_law_960 ?_
  refine lv_topi (fun k_2 ek_2 => ?_)
  obtain rfl : k_2 = 2 := ek_2.trans (by decide)
  refine va_sld hx hb hX hbl hbA hS (by unfold vp_in; decide) dL_law_961 ?_
  have hPc := hP.sub (ws' := ([(h0, .inr (10, [.ref pg, .ref pl, .ref it, .int 0, .ref ac, .int 0, .ref rv, .int 0, .int 0])), (pg, .inl (cS, 12, .inr (.inr (.inr (.inr (fun j => some (sa j)))))))] ++ shW cI sa la ca)) [0, 1, 26, 27, 28, 29, 30, 31, 32, 33, 34, 35, 36, 37, 38, 39, 40, 41, 42, 43, 44, 45, 46, 47, 48, 49, 50, 51, 52, 53, 54, 55, 56, 57, 58, 59, 60, 61] rfl
  have hKc := hK.sub (tys' := [(cI, .int), (cS, .object "PageOne$Sheet")]) [0, 2] rfl
  refine vp_callSi (va_runV (As := [.int (xs 1), .int (xs 2)]) (rest := []) ⟨hx, hb, hml, hown, hts⟩ (x_shortOf l dC dI h0 pg pl it ac rv sa la ca cI cS (xs 1) (xs 2)) (cwV 2 hts gL_law_X11_shortOf rfl rfl rfl (by decide +kernel) ⟨Nat.le_of_ble_eq_true rfl, Nat.le_of_ble_eq_true rfl⟩) ⟨pw_fb, va_recv hKc hPc (ci := 10) (q0 := 0) rfl rfl, fun U hU hW => ⟨rfl, pw_to hU hW hPc hKc hN⟩⟩ rfl rfl hl.1 rfl (lv_room (Nat.le_of_ble_eq_true rfl)) dL_law_962 ⟨Nat.le_of_ble_eq_true rfl, Nat.le_of_ble_eq_true rfl⟩).run (fun r hw => ?_)
  obtain rfl : r = (if bw (xs 1) 0 11 && bw (xs 2) 0 7 then 0 else (-1)) := hw
  refine lv_aload_n hx hb dL_law_965 rfl (lv_at hl 1 rfl) ?_
  refine lv_aload_n hx hb dL_law_966 rfl (lv_at hl 3 rfl) ?_
  refine lv_iload_n hx hb dL_law_967 rfl (lv_at hl 0 rfl) ?_
  refine lv_iconst (v := 1) hx hb dL_law_968 (by decide) ?_
  refine lv_iadd hx hb dL_law_969 ?_
  refine lv_topi (fun k_3 ek_3 => ?_)
  obtain rfl : k_3 = 1 := ek_3.trans (by decide)
  refine va_sld hx hb hX hbl hbA hS (by unfold vp_in; decide) dL_law_970 ?_
  refine lv_aload_n hx hb dL_law_971 rfl (lv_at hl 3 rfl) ?_
  refine lv_iload_n hx hb dL_law_972 rfl (lv_at hl 0 rfl) ?_
  refine lv_iconst (v := 2) hx hb dL_law_973 (by decide) ?_
  refine lv_iadd hx hb dL_law_974 ?_
  refine lv_topi (fun k_4 ek_4 => ?_)
  obtain rfl : k_4 = 2 := ek_4.trans (by decide)
  refine va_sld hx hb hX hbl hbA hS (by unfold vp_in; decide) dL_law_975 ?_
  have hPc := hP.sub (ws' := [(mm, .inr (11, mO v 0 0 0 0 0 0 0 0)), ((v 0), .inl (cI, 96, .inl (fun _ => 0)))]) [6, 7] rfl
  have hKc := hK.sub (tys' := [(cI, .int)]) [0] rfl
  refine vp_callSi (va_runV (As := [.int (xs 1), .int (xs 2)]) (rest := [.int (if bw (xs 1) 0 11 && bw (xs 2) 0 7 then 0 else (-1))]) ⟨hx, hb, hml, hown, hts⟩ (m_shortOf l dC dI mm v cI (xs 1) (xs 2)) (cwV 2 hts gL_law_X12_shortOf rfl rfl rfl (by decide +kernel) ⟨Nat.le_of_ble_eq_true rfl, Nat.le_of_ble_eq_true rfl⟩) ⟨pw_fb, va_recv hKc hPc (ci := 11) (q0 := 0) rfl rfl, fun U hU hW => ⟨rfl, pw_to hU hW hPc hKc hN⟩⟩ rfl rfl hl.1 rfl (lv_room (Nat.le_of_ble_eq_true rfl)) dL_law_976 ⟨Nat.le_of_ble_eq_true rfl, Nat.le_of_ble_eq_true rfl⟩).run (fun r hw => ?_)
  obtain rfl : r = (if bw (xs 1) 0 11 && bw (xs 2) 0 7 then 0 else (-1)) := hw
  refine lv_icmp_eq (tgt := 1182) hx hb dL_law_979 (by decide) (fun c_5 => ?_) (fun c_5 => absurd (rfl) c_5)
  exact law_tail C0 hAe hS (lv_sub hl [0, 3] rfl) (Nat.le_of_ble_eq_true rfl) (Nat.le_of_ble_eq_true rfl)
set_option maxHeartbeats 4000000 in
set_option maxRecDepth 100000 in
theorem law_c24 {p : Program} {l : Launch} {e : Env} {s : State} {m : MethodId} {below : List Frame} {meth : Method} {c : Code} {b : Nat} {xs : Nat → Int32} {A : Nat → Prop} {H : Heap} {locs : List Loc} {dC : Nat → ClassId} {dI : Nat → Nat → Nat} {h0 pg pl it ac rv mm : Nat} {sa la ca v : Nat → Nat} {g1 : Nat → Int32} {cI cZ cS cT cA : ClassId} (C0 : lw_At p s m meth c b 8 xs) (hAe : A = fun q => s.heap.size ≤ q) (hN : NN s) (hK : va_K (dC, dI) vwCl [(cI, .int), (cZ, .boolean), (cS, .object "PageOne$Sheet"), (cT, .object "PageOne$Item"), (cA, .object "PageOne$Act")] s) (hP : va_P (dC, dI) vwCl ([(h0, .inr (10, [.ref pg, .ref pl, .ref it, .int 0, .ref ac, .int 0, .ref rv, .int 0, .int 0])), (pg, .inl (cS, 12, .inr (.inr (.inr (.inr (fun j => some (sa j))))))), (pl, .inl (cS, 12, .inr (.inr (.inr (.inr (fun _ => none)))))), (it, .inl (cT, 80, .inr (.inr (.inr (.inr (fun _ => none)))))), (ac, .inl (cA, 300, .inr (.inr (.inr (.inr (fun _ => none)))))), (rv, .inl (cZ, 100, .inl (fun _ => 0))), (mm, .inr (11, mO v 0 0 0 0 0 0 0 0)), ((v 0), .inl (cI, 96, .inl (fun _ => 0))), ((v 1), .inl (cI, 12, .inl g1)), ((v 2), .inl (cI, 5760, .inl (fun _ => (-2)))), ((v 4), .inl (cI, 80, .inl (fun _ => 0))), ((v 5), .inl (cI, 80, .inl (fun _ => 0))), ((v 6), .inl (cI, 80, .inl (fun _ => 0))), ((v 7), .inl (cI, 80, .inl (fun _ => 0))), ((v 8), .inl (cI, 80, .inl (fun _ => 0))), ((v 9), .inl (cI, 80, .inl (fun _ => 0))), ((v 10), .inl (cI, 80, .inl (fun _ => 0))), ((v 11), .inl (cI, 80, .inl (fun _ => 0))), ((v 12), .inl (cI, 80, .inl (fun _ => 0))), ((v 13), .inl (cI, 80, .inl (fun _ => 0))), ((v 14), .inl (cI, 80, .inl (fun _ => 0))), ((v 15), .inl (cI, 80, .inl (fun _ => 0))), ((v 17), .inl (cI, 80, .inl (fun _ => 0))), ((v 20), .inl (cZ, 100, .inl (fun _ => 0))), ((v 22), .inl (cI, 80, .inl (fun _ => 0))), ((v 40), .inl (cZ, 12, .inl (fun _ => 0)))] ++ shW cI sa la ca) H) (hD : va_D A ([(h0, .inr (10, [.ref pg, .ref pl, .ref it, .int 0, .ref ac, .int 0, .ref rv, .int 0, .int 0])), (pg, .inl (cS, 12, .inr (.inr (.inr (.inr (fun j => some (sa j))))))), (pl, .inl (cS, 12, .inr (.inr (.inr (.inr (fun _ => none)))))), (it, .inl (cT, 80, .inr (.inr (.inr (.inr (fun _ => none)))))), (ac, .inl (cA, 300, .inr (.inr (.inr (.inr (fun _ => none)))))), (rv, .inl (cZ, 100, .inl (fun _ => 0))), (mm, .inr (11, mO v 0 0 0 0 0 0 0 0)), ((v 0), .inl (cI, 96, .inl (fun _ => 0))), ((v 1), .inl (cI, 12, .inl g1)), ((v 2), .inl (cI, 5760, .inl (fun _ => (-2)))), ((v 4), .inl (cI, 80, .inl (fun _ => 0))), ((v 5), .inl (cI, 80, .inl (fun _ => 0))), ((v 6), .inl (cI, 80, .inl (fun _ => 0))), ((v 7), .inl (cI, 80, .inl (fun _ => 0))), ((v 8), .inl (cI, 80, .inl (fun _ => 0))), ((v 9), .inl (cI, 80, .inl (fun _ => 0))), ((v 10), .inl (cI, 80, .inl (fun _ => 0))), ((v 11), .inl (cI, 80, .inl (fun _ => 0))), ((v 12), .inl (cI, 80, .inl (fun _ => 0))), ((v 13), .inl (cI, 80, .inl (fun _ => 0))), ((v 14), .inl (cI, 80, .inl (fun _ => 0))), ((v 15), .inl (cI, 80, .inl (fun _ => 0))), ((v 17), .inl (cI, 80, .inl (fun _ => 0))), ((v 20), .inl (cZ, 100, .inl (fun _ => 0))), ((v 22), .inl (cI, 80, .inl (fun _ => 0))), ((v 40), .inl (cZ, 12, .inl (fun _ => 0)))] ++ shW cI sa la ca)) (hS : va_S A s.heap H locs) {ls : Array Slot} (hl : lv_has ls 4 [(3, .int 0), (2, .ref mm), (1, .ref h0), (0, .ref b)]) : W p l e room_1 s m #[Value.ref b] below meth c H locs 87 66821 (lw_Z below #[Value.ref b] s) (F0 m 984 ls []) := by
  obtain ⟨hx, hb, hr, hml, hown, hts, hX, hbl, hlocks, hgv⟩ := id C0
  have hbA : ¬ A b := by rw [hAe]; exact Nat.not_le.mpr hbl
  have hA : ∀ q : Nat, s.heap.size ≤ q → A q := fun q h => by rw [hAe]; exact h
  have hts := fun w h => hts w (wsL_law_in w h)
  refine lv_aload_n hx hb dL_law_984 rfl (lv_at hl 2 rfl) ?_
  refine lv_aload_n hx hb dL_law_985 rfl (lv_at hl 3 rfl) ?_
  refine lv_iload_n hx hb dL_law_986 rfl (lv_at hl 0 rfl) ?_
  refine lv_iconst (v := 1) hx hb dL_law_987 (by decide) ?_
  refine lv_iadd hx hb dL_law_988 ?_
  refine lv_topi (fun k_1 ek_1 => ?_)
  obtain rfl : k_1 = 1 := ek_1.trans (by decide)
  refine va_sld hx hb hX hbl hbA hS (by unfold vp_in; decide) dL_law_989 ?_
  refine lv_aload_n hx hb dL_law_990 rfl (lv_at hl 3 rfl) ?_
  refine lv_iload_n hx hb dL_law_991 rfl (lv_at hl 0 rfl) ?_
  refine lv_iconst (v := 2) hx hb dL_law_992 (by decide) ?_
  refine lv_iadd hx hb dL_law_993 ?_
  refine lv_topi (fun k_2 ek_2 => ?_)
  obtain rfl : k_2 = 2 := ek_2.trans (by decide)
  refine va_sld hx hb hX hbl hbA hS (by unfold vp_in; decide) dL_law_994 ?_
  have hPc := hP.sub (ws' := [(h0, .inr (10, [.ref pg, .ref pl, .ref it, .int 0, .ref ac, .int 0, .ref rv, .int 0, .int 0]))]) [0] rfl
  have hKc := hK.sub (tys' := []) [] rfl
  have hDc := hD.sub (ws' := [(h0, .inr (10, [.ref pg, .ref pl, .ref it, .int 0, .ref ac, .int 0, .ref rv, .int 0, .int 0]))]) [0] (by decide) rfl
  have hFc := va_free (wc := [(h0, .inr (10, [.ref pg, .ref pl, .ref it, .int 0, .ref ac, .int 0, .ref rv, .int 0, .int 0]))]) hD hS hA [0] rfl
  refine va_calli (va_runV (As := [.int (xs 1), .int (xs 2)]) (rest := []) ⟨hx, hb, hml, hown, hts⟩ (x_broken l dC dI h0 pg pl it ac rv (xs 1) (xs 2) H.size) (cwV 2 hts gL_law_X11_broken rfl rfl rfl (by decide +kernel) ⟨Nat.le_of_ble_eq_true rfl, Nat.le_of_ble_eq_true rfl⟩) ⟨gw_fb, va_recv hKc hPc (ci := 10) (q0 := 0) rfl rfl, fun U hU hW => ⟨rfl, by rw [hU], pw_to hU hW hPc hKc hN, hDc.weaken (fun _ _ _ _ => trivial)⟩⟩ rfl rfl hl.1 rfl (lv_room (Nat.le_of_ble_eq_true rfl)) dL_law_995 ⟨Nat.le_of_ble_eq_true rfl, Nat.le_of_ble_eq_true rfl⟩) hS (fun q _ h => hFc q h) hFc (fun r u t H1 locs ht hvm hw hB hz1 hk1 hS => ?_)
  have hP1 : va_P (dC, dI) vwCl [] H1 := fun k q h => by simp at h
  have hD1 : va_D (va_A [(h0, .inr (10, [.ref pg, .ref pl, .ref it, .int 0, .ref ac, .int 0, .ref rv, .int 0, .int 0]))] H.size) [] := ⟨fun i j p q h => by simp at h, fun k q h => by simp at h⟩
  obtain ⟨hP, hD⟩ := va_join (wr := ([(pg, .inl (cS, 12, .inr (.inr (.inr (.inr (fun j => some (sa j))))))), (pl, .inl (cS, 12, .inr (.inr (.inr (.inr (fun _ => none)))))), (it, .inl (cT, 80, .inr (.inr (.inr (.inr (fun _ => none)))))), (ac, .inl (cA, 300, .inr (.inr (.inr (.inr (fun _ => none)))))), (rv, .inl (cZ, 100, .inl (fun _ => 0))), (mm, .inr (11, mO v 0 0 0 0 0 0 0 0)), ((v 0), .inl (cI, 96, .inl (fun _ => 0))), ((v 1), .inl (cI, 12, .inl g1)), ((v 2), .inl (cI, 5760, .inl (fun _ => (-2)))), ((v 4), .inl (cI, 80, .inl (fun _ => 0))), ((v 5), .inl (cI, 80, .inl (fun _ => 0))), ((v 6), .inl (cI, 80, .inl (fun _ => 0))), ((v 7), .inl (cI, 80, .inl (fun _ => 0))), ((v 8), .inl (cI, 80, .inl (fun _ => 0))), ((v 9), .inl (cI, 80, .inl (fun _ => 0))), ((v 10), .inl (cI, 80, .inl (fun _ => 0))), ((v 11), .inl (cI, 80, .inl (fun _ => 0))), ((v 12), .inl (cI, 80, .inl (fun _ => 0))), ((v 13), .inl (cI, 80, .inl (fun _ => 0))), ((v 14), .inl (cI, 80, .inl (fun _ => 0))), ((v 15), .inl (cI, 80, .inl (fun _ => 0))), ((v 17), .inl (cI, 80, .inl (fun _ => 0))), ((v 20), .inl (cZ, 100, .inl (fun _ => 0))), ((v 22), .inl (cI, 80, .inl (fun _ => 0))), ((v 40), .inl (cZ, 12, .inl (fun _ => 0)))] ++ shW cI sa la ca)) (w1 := []) hP hD [0] [1, 2, 3, 4, 5, 6, 7, 8, 9, 10, 11, 12, 13, 14, 15, 16, 17, 18, 19, 20, 21, 22, 23, 24, 25, 26, 27, 28, 29, 30, 31, 32, 33, 34, 35, 36, 37, 38, 39, 40, 41, 42, 43, 44, 45, 46, 47, 48, 49, 50, 51, 52, 53, 54, 55, 56, 57, 58, 59, 60, 61] rfl rfl (by decide) (by decide) hk1 hFc hP1 hD1
  generalize H1 = H at hP hS ⊢
  have hP : va_P (dC, dI) vwCl ([(pg, .inl (cS, 12, .inr (.inr (.inr (.inr (fun j => some (sa j))))))), (pl, .inl (cS, 12, .inr (.inr (.inr (.inr (fun _ => none)))))), (it, .inl (cT, 80, .inr (.inr (.inr (.inr (fun _ => none)))))), (ac, .inl (cA, 300, .inr (.inr (.inr (.inr (fun _ => none)))))), (rv, .inl (cZ, 100, .inl (fun _ => 0))), (mm, .inr (11, mO v 0 0 0 0 0 0 0 0)), ((v 0), .inl (cI, 96, .inl (fun _ => 0))), ((v 1), .inl (cI, 12, .inl g1)), ((v 2), .inl (cI, 5760, .inl (fun _ => (-2)))), ((v 4), .inl (cI, 80, .inl (fun _ => 0))), ((v 5), .inl (cI, 80, .inl (fun _ => 0))), ((v 6), .inl (cI, 80, .inl (fun _ => 0))), ((v 7), .inl (cI, 80, .inl (fun _ => 0))), ((v 8), .inl (cI, 80, .inl (fun _ => 0))), ((v 9), .inl (cI, 80, .inl (fun _ => 0))), ((v 10), .inl (cI, 80, .inl (fun _ => 0))), ((v 11), .inl (cI, 80, .inl (fun _ => 0))), ((v 12), .inl (cI, 80, .inl (fun _ => 0))), ((v 13), .inl (cI, 80, .inl (fun _ => 0))), ((v 14), .inl (cI, 80, .inl (fun _ => 0))), ((v 15), .inl (cI, 80, .inl (fun _ => 0))), ((v 17), .inl (cI, 80, .inl (fun _ => 0))), ((v 20), .inl (cZ, 100, .inl (fun _ => 0))), ((v 22), .inl (cI, 80, .inl (fun _ => 0))), ((v 40), .inl (cZ, 12, .inl (fun _ => 0)))] ++ shW cI sa la ca) H := hP
  have hD : va_D A ([(pg, .inl (cS, 12, .inr (.inr (.inr (.inr (fun j => some (sa j))))))), (pl, .inl (cS, 12, .inr (.inr (.inr (.inr (fun _ => none)))))), (it, .inl (cT, 80, .inr (.inr (.inr (.inr (fun _ => none)))))), (ac, .inl (cA, 300, .inr (.inr (.inr (.inr (fun _ => none)))))), (rv, .inl (cZ, 100, .inl (fun _ => 0))), (mm, .inr (11, mO v 0 0 0 0 0 0 0 0)), ((v 0), .inl (cI, 96, .inl (fun _ => 0))), ((v 1), .inl (cI, 12, .inl g1)), ((v 2), .inl (cI, 5760, .inl (fun _ => (-2)))), ((v 4), .inl (cI, 80, .inl (fun _ => 0))), ((v 5), .inl (cI, 80, .inl (fun _ => 0))), ((v 6), .inl (cI, 80, .inl (fun _ => 0))), ((v 7), .inl (cI, 80, .inl (fun _ => 0))), ((v 8), .inl (cI, 80, .inl (fun _ => 0))), ((v 9), .inl (cI, 80, .inl (fun _ => 0))), ((v 10), .inl (cI, 80, .inl (fun _ => 0))), ((v 11), .inl (cI, 80, .inl (fun _ => 0))), ((v 12), .inl (cI, 80, .inl (fun _ => 0))), ((v 13), .inl (cI, 80, .inl (fun _ => 0))), ((v 14), .inl (cI, 80, .inl (fun _ => 0))), ((v 15), .inl (cI, 80, .inl (fun _ => 0))), ((v 17), .inl (cI, 80, .inl (fun _ => 0))), ((v 20), .inl (cZ, 100, .inl (fun _ => 0))), ((v 22), .inl (cI, 80, .inl (fun _ => 0))), ((v 40), .inl (cZ, 12, .inl (fun _ => 0)))] ++ shW cI sa la ca) := hD
  refine W.widen (k := 88) (n := 66824) (Nat.le_of_ble_eq_true rfl) (Nat.le_of_ble_eq_true rfl) ?_
  obtain rfl : r = (if bw (xs 1) 0 11 && bw (xs 2) 0 2 then (if (xs 2) = 0 then 0 else (-1)) else (-1)) := hw
  refine lv_aload_n hx hb dL_law_998 rfl (lv_at hl 1 rfl) ?_
  refine lv_aload_n hx hb dL_law_999 rfl (lv_at hl 3 rfl) ?_
  refine lv_iload_n hx hb dL_law_1000 rfl (lv_at hl 0 rfl) ?_
  refine lv_iconst (v := 1) hx hb dL_law_1001 (by decide) ?_
  refine lv_iadd hx hb dL_law_1002 ?_
  refine lv_topi (fun k_3 ek_3 => ?_)
  obtain rfl : k_3 = 1 := ek_3.trans (by decide)
  refine va_sld hx hb hX hbl hbA hS (by unfold vp_in; decide) dL_law_1003 ?_
  refine lv_aload_n hx hb dL_law_1004 rfl (lv_at hl 3 rfl) ?_
  refine lv_iload_n hx hb dL_law_1005 rfl (lv_at hl 0 rfl) ?_
  refine lv_iconst (v := 2) hx hb dL_law_1006 (by decide) ?_
  refine lv_iadd hx hb dL_law_1007 ?_
  refine lv_topi (fun k_4 ek_4 => ?_)
  obtain rfl : k_4 = 2 := ek_4.trans (by decide)
  refine va_sld hx hb hX hbl hbA hS (by unfold vp_in; decide) dL_law_1008 ?_
  have hPc := hP.sub (ws' := [(mm, .inr (11, mO v 0 0 0 0 0 0 0 0)), ((v 0), .inl (cI, 96, .inl (fun _ => 0)))]) [5, 6] rfl
  have hKc := hK.sub (tys' := [(cI, .int)]) [0] rfl
  have hDc := hD.sub (ws' := [(mm, .inr (11, mO v 0 0 0 0 0 0 0 0)), ((v 0), .inl (cI, 96, .inl (fun _ => 0)))]) [5, 6] (by decide) rfl
  have hFc := va_free (wc := [(mm, .inr (11, mO v 0 0 0 0 0 0 0 0)), ((v 0), .inl (cI, 96, .inl (fun _ => 0)))]) hD hS hA [5, 6] rfl
  refine va_calli (va_runV (As := [.int (xs 1), .int (xs 2)]) (rest := [.int (if bw (xs 1) 0 11 && bw (xs 2) 0 2 then (if (xs 2) = 0 then 0 else (-1)) else (-1))]) ⟨hx, hb, hml, hown, hts⟩ (m_broken l dC dI mm v cI (xs 1) (xs 2) H.size) (cwV 2 hts gL_law_X12_broken rfl rfl rfl (by decide +kernel) ⟨Nat.le_of_ble_eq_true rfl, Nat.le_of_ble_eq_true rfl⟩) ⟨gw_fb, va_recv hKc hPc (ci := 11) (q0 := 0) rfl rfl, fun U hU hW => ⟨rfl, by rw [hU], pw_to hU hW hPc hKc hN, hDc.weaken (fun _ _ _ _ => trivial)⟩⟩ rfl rfl hl.1 rfl (lv_room (Nat.le_of_ble_eq_true rfl)) dL_law_1009 ⟨Nat.le_of_ble_eq_true rfl, Nat.le_of_ble_eq_true rfl⟩) hS (fun q _ h => hFc q h) hFc (fun r u t H1 locs ht hvm hw hB hz1 hk1 hS => ?_)
  have hP1 : va_P (dC, dI) vwCl [] H1 := fun k q h => by simp at h
  have hD1 : va_D (va_A [(mm, .inr (11, mO v 0 0 0 0 0 0 0 0)), ((v 0), .inl (cI, 96, .inl (fun _ => 0)))] H.size) [] := ⟨fun i j p q h => by simp at h, fun k q h => by simp at h⟩
  obtain ⟨hP, hD⟩ := va_join (wr := ([(pg, .inl (cS, 12, .inr (.inr (.inr (.inr (fun j => some (sa j))))))), (pl, .inl (cS, 12, .inr (.inr (.inr (.inr (fun _ => none)))))), (it, .inl (cT, 80, .inr (.inr (.inr (.inr (fun _ => none)))))), (ac, .inl (cA, 300, .inr (.inr (.inr (.inr (fun _ => none)))))), (rv, .inl (cZ, 100, .inl (fun _ => 0))), ((v 1), .inl (cI, 12, .inl g1)), ((v 2), .inl (cI, 5760, .inl (fun _ => (-2)))), ((v 4), .inl (cI, 80, .inl (fun _ => 0))), ((v 5), .inl (cI, 80, .inl (fun _ => 0))), ((v 6), .inl (cI, 80, .inl (fun _ => 0))), ((v 7), .inl (cI, 80, .inl (fun _ => 0))), ((v 8), .inl (cI, 80, .inl (fun _ => 0))), ((v 9), .inl (cI, 80, .inl (fun _ => 0))), ((v 10), .inl (cI, 80, .inl (fun _ => 0))), ((v 11), .inl (cI, 80, .inl (fun _ => 0))), ((v 12), .inl (cI, 80, .inl (fun _ => 0))), ((v 13), .inl (cI, 80, .inl (fun _ => 0))), ((v 14), .inl (cI, 80, .inl (fun _ => 0))), ((v 15), .inl (cI, 80, .inl (fun _ => 0))), ((v 17), .inl (cI, 80, .inl (fun _ => 0))), ((v 20), .inl (cZ, 100, .inl (fun _ => 0))), ((v 22), .inl (cI, 80, .inl (fun _ => 0))), ((v 40), .inl (cZ, 12, .inl (fun _ => 0)))] ++ shW cI sa la ca)) (w1 := []) hP hD [5, 6] [0, 1, 2, 3, 4, 7, 8, 9, 10, 11, 12, 13, 14, 15, 16, 17, 18, 19, 20, 21, 22, 23, 24, 25, 26, 27, 28, 29, 30, 31, 32, 33, 34, 35, 36, 37, 38, 39, 40, 41, 42, 43, 44, 45, 46, 47, 48, 49, 50, 51, 52, 53, 54, 55, 56, 57, 58, 59, 60] rfl rfl (by decide) (by decide) hk1 hFc hP1 hD1
  generalize H1 = H at hP hS ⊢
  have hP : va_P (dC, dI) vwCl ([(pg, .inl (cS, 12, .inr (.inr (.inr (.inr (fun j => some (sa j))))))), (pl, .inl (cS, 12, .inr (.inr (.inr (.inr (fun _ => none)))))), (it, .inl (cT, 80, .inr (.inr (.inr (.inr (fun _ => none)))))), (ac, .inl (cA, 300, .inr (.inr (.inr (.inr (fun _ => none)))))), (rv, .inl (cZ, 100, .inl (fun _ => 0))), ((v 1), .inl (cI, 12, .inl g1)), ((v 2), .inl (cI, 5760, .inl (fun _ => (-2)))), ((v 4), .inl (cI, 80, .inl (fun _ => 0))), ((v 5), .inl (cI, 80, .inl (fun _ => 0))), ((v 6), .inl (cI, 80, .inl (fun _ => 0))), ((v 7), .inl (cI, 80, .inl (fun _ => 0))), ((v 8), .inl (cI, 80, .inl (fun _ => 0))), ((v 9), .inl (cI, 80, .inl (fun _ => 0))), ((v 10), .inl (cI, 80, .inl (fun _ => 0))), ((v 11), .inl (cI, 80, .inl (fun _ => 0))), ((v 12), .inl (cI, 80, .inl (fun _ => 0))), ((v 13), .inl (cI, 80, .inl (fun _ => 0))), ((v 14), .inl (cI, 80, .inl (fun _ => 0))), ((v 15), .inl (cI, 80, .inl (fun _ => 0))), ((v 17), .inl (cI, 80, .inl (fun _ => 0))), ((v 20), .inl (cZ, 100, .inl (fun _ => 0))), ((v 22), .inl (cI, 80, .inl (fun _ => 0))), ((v 40), .inl (cZ, 12, .inl (fun _ => 0)))] ++ shW cI sa la ca) H := hP
  have hD : va_D A ([(pg, .inl (cS, 12, .inr (.inr (.inr (.inr (fun j => some (sa j))))))), (pl, .inl (cS, 12, .inr (.inr (.inr (.inr (fun _ => none)))))), (it, .inl (cT, 80, .inr (.inr (.inr (.inr (fun _ => none)))))), (ac, .inl (cA, 300, .inr (.inr (.inr (.inr (fun _ => none)))))), (rv, .inl (cZ, 100, .inl (fun _ => 0))), ((v 1), .inl (cI, 12, .inl g1)), ((v 2), .inl (cI, 5760, .inl (fun _ => (-2)))), ((v 4), .inl (cI, 80, .inl (fun _ => 0))), ((v 5), .inl (cI, 80, .inl (fun _ => 0))), ((v 6), .inl (cI, 80, .inl (fun _ => 0))), ((v 7), .inl (cI, 80, .inl (fun _ => 0))), ((v 8), .inl (cI, 80, .inl (fun _ => 0))), ((v 9), .inl (cI, 80, .inl (fun _ => 0))), ((v 10), .inl (cI, 80, .inl (fun _ => 0))), ((v 11), .inl (cI, 80, .inl (fun _ => 0))), ((v 12), .inl (cI, 80, .inl (fun _ => 0))), ((v 13), .inl (cI, 80, .inl (fun _ => 0))), ((v 14), .inl (cI, 80, .inl (fun _ => 0))), ((v 15), .inl (cI, 80, .inl (fun _ => 0))), ((v 17), .inl (cI, 80, .inl (fun _ => 0))), ((v 20), .inl (cZ, 100, .inl (fun _ => 0))), ((v 22), .inl (cI, 80, .inl (fun _ => 0))), ((v 40), .inl (cZ, 12, .inl (fun _ => 0)))] ++ shW cI sa la ca) := hD
  refine W.widen (k := 88) (n := 66824) (Nat.le_of_ble_eq_true rfl) (Nat.le_of_ble_eq_true rfl) ?_
  obtain rfl : r = (if bw (xs 1) 0 11 && bw (xs 2) 0 2 then (if (xs 2) = 0 then 0 else (-1)) else (-1)) := hw
  refine lv_icmp_eq (tgt := 1182) hx hb dL_law_1012 (by decide) (fun c_5 => ?_) (fun c_5 => absurd (rfl) c_5)
  exact law_tail C0 hAe hS (lv_sub hl [0, 3] rfl) (Nat.le_of_ble_eq_true rfl) (Nat.le_of_ble_eq_true rfl)
set_option maxHeartbeats 4000000 in
set_option maxRecDepth 100000 in
theorem law_c25 {p : Program} {l : Launch} {e : Env} {s : State} {m : MethodId} {below : List Frame} {meth : Method} {c : Code} {b : Nat} {xs : Nat → Int32} {A : Nat → Prop} {H : Heap} {locs : List Loc} {dC : Nat → ClassId} {dI : Nat → Nat → Nat} {h0 pg pl it ac rv mm : Nat} {sa la ca v : Nat → Nat} {g1 : Nat → Int32} {cI cZ cS cT cA : ClassId} (C0 : lw_At p s m meth c b 8 xs) (hAe : A = fun q => s.heap.size ≤ q) (hN : NN s) (hK : va_K (dC, dI) vwCl [(cI, .int), (cZ, .boolean), (cS, .object "PageOne$Sheet"), (cT, .object "PageOne$Item"), (cA, .object "PageOne$Act")] s) (hP : va_P (dC, dI) vwCl ([(h0, .inr (10, [.ref pg, .ref pl, .ref it, .int 0, .ref ac, .int 0, .ref rv, .int 0, .int 0])), (pg, .inl (cS, 12, .inr (.inr (.inr (.inr (fun j => some (sa j))))))), (pl, .inl (cS, 12, .inr (.inr (.inr (.inr (fun _ => none)))))), (it, .inl (cT, 80, .inr (.inr (.inr (.inr (fun _ => none)))))), (ac, .inl (cA, 300, .inr (.inr (.inr (.inr (fun _ => none)))))), (rv, .inl (cZ, 100, .inl (fun _ => 0))), (mm, .inr (11, mO v 0 0 0 0 0 0 0 0)), ((v 0), .inl (cI, 96, .inl (fun _ => 0))), ((v 1), .inl (cI, 12, .inl g1)), ((v 2), .inl (cI, 5760, .inl (fun _ => (-2)))), ((v 4), .inl (cI, 80, .inl (fun _ => 0))), ((v 5), .inl (cI, 80, .inl (fun _ => 0))), ((v 6), .inl (cI, 80, .inl (fun _ => 0))), ((v 7), .inl (cI, 80, .inl (fun _ => 0))), ((v 8), .inl (cI, 80, .inl (fun _ => 0))), ((v 9), .inl (cI, 80, .inl (fun _ => 0))), ((v 10), .inl (cI, 80, .inl (fun _ => 0))), ((v 11), .inl (cI, 80, .inl (fun _ => 0))), ((v 12), .inl (cI, 80, .inl (fun _ => 0))), ((v 13), .inl (cI, 80, .inl (fun _ => 0))), ((v 14), .inl (cI, 80, .inl (fun _ => 0))), ((v 15), .inl (cI, 80, .inl (fun _ => 0))), ((v 17), .inl (cI, 80, .inl (fun _ => 0))), ((v 20), .inl (cZ, 100, .inl (fun _ => 0))), ((v 22), .inl (cI, 80, .inl (fun _ => 0))), ((v 40), .inl (cZ, 12, .inl (fun _ => 0)))] ++ shW cI sa la ca) H) (hD : va_D A ([(h0, .inr (10, [.ref pg, .ref pl, .ref it, .int 0, .ref ac, .int 0, .ref rv, .int 0, .int 0])), (pg, .inl (cS, 12, .inr (.inr (.inr (.inr (fun j => some (sa j))))))), (pl, .inl (cS, 12, .inr (.inr (.inr (.inr (fun _ => none)))))), (it, .inl (cT, 80, .inr (.inr (.inr (.inr (fun _ => none)))))), (ac, .inl (cA, 300, .inr (.inr (.inr (.inr (fun _ => none)))))), (rv, .inl (cZ, 100, .inl (fun _ => 0))), (mm, .inr (11, mO v 0 0 0 0 0 0 0 0)), ((v 0), .inl (cI, 96, .inl (fun _ => 0))), ((v 1), .inl (cI, 12, .inl g1)), ((v 2), .inl (cI, 5760, .inl (fun _ => (-2)))), ((v 4), .inl (cI, 80, .inl (fun _ => 0))), ((v 5), .inl (cI, 80, .inl (fun _ => 0))), ((v 6), .inl (cI, 80, .inl (fun _ => 0))), ((v 7), .inl (cI, 80, .inl (fun _ => 0))), ((v 8), .inl (cI, 80, .inl (fun _ => 0))), ((v 9), .inl (cI, 80, .inl (fun _ => 0))), ((v 10), .inl (cI, 80, .inl (fun _ => 0))), ((v 11), .inl (cI, 80, .inl (fun _ => 0))), ((v 12), .inl (cI, 80, .inl (fun _ => 0))), ((v 13), .inl (cI, 80, .inl (fun _ => 0))), ((v 14), .inl (cI, 80, .inl (fun _ => 0))), ((v 15), .inl (cI, 80, .inl (fun _ => 0))), ((v 17), .inl (cI, 80, .inl (fun _ => 0))), ((v 20), .inl (cZ, 100, .inl (fun _ => 0))), ((v 22), .inl (cI, 80, .inl (fun _ => 0))), ((v 40), .inl (cZ, 12, .inl (fun _ => 0)))] ++ shW cI sa la ca)) (hS : va_S A s.heap H locs) {ls : Array Slot} (hl : lv_has ls 4 [(3, .int 0), (2, .ref mm), (1, .ref h0), (0, .ref b)]) : W p l e room_1 s m #[Value.ref b] below meth c H locs 87 66821 (lw_Z below #[Value.ref b] s) (F0 m 1017 ls []) := by
  obtain ⟨hx, hb, hr, hml, hown, hts, hX, hbl, hlocks, hgv⟩ := id C0
  have hbA : ¬ A b := by rw [hAe]; exact Nat.not_le.mpr hbl
  have hA : ∀ q : Nat, s.heap.size ≤ q → A q := fun q h => by rw [hAe]; exact h
  have hts := fun w h => hts w (wsL_law_in w h)
  refine lv_aload_n hx hb dL_law_1017 rfl (lv_at hl 2 rfl) ?_
  refine lv_aload_n hx hb dL_law_1018 rfl (lv_at hl 3 rfl) ?_
  refine lv_iload_n hx hb dL_law_1019 rfl (lv_at hl 0 rfl) ?_
  refine lv_iconst (v := 1) hx hb dL_law_1020 (by decide) ?_
  refine lv_iadd hx hb dL_law_1021 ?_
  refine lv_topi (fun k_1 ek_1 => ?_)
  obtain rfl : k_1 = 1 := ek_1.trans (by decide)
  refine va_sld hx hb hX hbl hbA hS (by unfold vp_in; decide) dL_law_1022 ?_
  refine lv_aload_n hx hb dL_law_1023 rfl (lv_at hl 3 rfl) ?_
  refine lv_iload_n hx hb dL_law_1024 rfl (lv_at hl 0 rfl) ?_
  refine lv_iconst (v := 2) hx hb dL_law_1025 (by decide) ?_
  refine lv_iadd hx hb dL_law_1026 ?_
  refine lv_topi (fun k_2 ek_2 => ?_)
  obtain rfl : k_2 = 2 := ek_2.trans (by decide)
  refine va_sld hx hb hX hbl hbA hS (by unfold vp_in; decide) dL_law_1027 ?_
  have hPc := hP.sub (ws' := [(h0, .inr (10, [.ref pg, .ref pl, .ref it, .int 0, .ref ac, .int 0, .ref rv, .int 0, .int 0]))]) [0] rfl
  have hKc := hK.sub (tys' := []) [] rfl
  refine vp_callSi (va_runV (As := [.int (xs 1), .int (xs 2)]) (rest := []) ⟨hx, hb, hml, hown, hts⟩ (x_printed l dC dI h0 pg pl it ac rv (xs 1) (xs 2)) (cwV 2 hts gL_law_X11_printed rfl rfl rfl (by decide +kernel) ⟨Nat.le_of_ble_eq_true rfl, Nat.le_of_ble_eq_true rfl⟩) ⟨pw_fb, va_recv hKc hPc (ci := 10) (q0 := 0) rfl rfl, fun U hU hW => ⟨rfl, pw_to hU hW hPc hKc hN⟩⟩ rfl rfl hl.1 rfl (lv_room (Nat.le_of_ble_eq_true rfl)) dL_law_1028 ⟨Nat.le_of_ble_eq_true rfl, Nat.le_of_ble_eq_true rfl⟩).run (fun r hw => ?_)
  obtain rfl : r = (-1) := hw
  refine lv_aload_n hx hb dL_law_1031 rfl (lv_at hl 1 rfl) ?_
  refine lv_aload_n hx hb dL_law_1032 rfl (lv_at hl 3 rfl) ?_
  refine lv_iload_n hx hb dL_law_1033 rfl (lv_at hl 0 rfl) ?_
  refine lv_iconst (v := 1) hx hb dL_law_1034 (by decide) ?_
  refine lv_iadd hx hb dL_law_1035 ?_
  refine lv_topi (fun k_3 ek_3 => ?_)
  obtain rfl : k_3 = 1 := ek_3.trans (by decide)
  refine va_sld hx hb hX hbl hbA hS (by unfold vp_in; decide) dL_law_1036 ?_
  refine lv_aload_n hx hb dL_law_1037 rfl (lv_at hl 3 rfl) ?_
  refine lv_iload_n hx hb dL_law_1038 rfl (lv_at hl 0 rfl) ?_
  refine lv_iconst (v := 2) hx hb dL_law_1039 (by decide) ?_
  refine lv_iadd hx hb dL_law_1040 ?_
  refine lv_topi (fun k_4 ek_4 => ?_)
  obtain rfl : k_4 = 2 := ek_4.trans (by decide)
  refine va_sld hx hb hX hbl hbA hS (by unfold vp_in; decide) dL_law_1041 ?_
  have hPc := hP.sub (ws' := [(mm, .inr (11, mO v 0 0 0 0 0 0 0 0))]) [6] rfl
  have hKc := hK.sub (tys' := []) [] rfl
  refine vp_callSi (va_runV (As := [.int (xs 1), .int (xs 2)]) (rest := [.int (-1)]) ⟨hx, hb, hml, hown, hts⟩ (m_printed l dC dI mm v (xs 1) (xs 2)) (cwV 2 hts gL_law_X12_printed rfl rfl rfl (by decide +kernel) ⟨Nat.le_of_ble_eq_true rfl, Nat.le_of_ble_eq_true rfl⟩) ⟨pw_fb, va_recv hKc hPc (ci := 11) (q0 := 0) rfl rfl, fun U hU hW => ⟨rfl, pw_to hU hW hPc hKc hN⟩⟩ rfl rfl hl.1 rfl (lv_room (Nat.le_of_ble_eq_true rfl)) dL_law_1042 ⟨Nat.le_of_ble_eq_true rfl, Nat.le_of_ble_eq_true rfl⟩).run (fun r hw => ?_)
  obtain rfl : r = (-1) := hw
  refine lv_icmp_eq (tgt := 1182) hx hb dL_law_1045 (by decide) (fun c_5 => ?_) (fun c_5 => absurd (rfl) c_5)
  exact law_tail C0 hAe hS (lv_sub hl [0, 3] rfl) (Nat.le_of_ble_eq_true rfl) (Nat.le_of_ble_eq_true rfl)
set_option maxHeartbeats 4000000 in
set_option maxRecDepth 100000 in
theorem law_c26 {p : Program} {l : Launch} {e : Env} {s : State} {m : MethodId} {below : List Frame} {meth : Method} {c : Code} {b : Nat} {xs : Nat → Int32} {A : Nat → Prop} {H : Heap} {locs : List Loc} {dC : Nat → ClassId} {dI : Nat → Nat → Nat} {h0 pg pl it ac rv mm : Nat} {sa la ca v : Nat → Nat} {g1 : Nat → Int32} {cI cZ cS cT cA : ClassId} (C0 : lw_At p s m meth c b 8 xs) (hAe : A = fun q => s.heap.size ≤ q) (hN : NN s) (hK : va_K (dC, dI) vwCl [(cI, .int), (cZ, .boolean), (cS, .object "PageOne$Sheet"), (cT, .object "PageOne$Item"), (cA, .object "PageOne$Act")] s) (hP : va_P (dC, dI) vwCl ([(h0, .inr (10, [.ref pg, .ref pl, .ref it, .int 0, .ref ac, .int 0, .ref rv, .int 0, .int 0])), (pg, .inl (cS, 12, .inr (.inr (.inr (.inr (fun j => some (sa j))))))), (pl, .inl (cS, 12, .inr (.inr (.inr (.inr (fun _ => none)))))), (it, .inl (cT, 80, .inr (.inr (.inr (.inr (fun _ => none)))))), (ac, .inl (cA, 300, .inr (.inr (.inr (.inr (fun _ => none)))))), (rv, .inl (cZ, 100, .inl (fun _ => 0))), (mm, .inr (11, mO v 0 0 0 0 0 0 0 0)), ((v 0), .inl (cI, 96, .inl (fun _ => 0))), ((v 1), .inl (cI, 12, .inl g1)), ((v 2), .inl (cI, 5760, .inl (fun _ => (-2)))), ((v 4), .inl (cI, 80, .inl (fun _ => 0))), ((v 5), .inl (cI, 80, .inl (fun _ => 0))), ((v 6), .inl (cI, 80, .inl (fun _ => 0))), ((v 7), .inl (cI, 80, .inl (fun _ => 0))), ((v 8), .inl (cI, 80, .inl (fun _ => 0))), ((v 9), .inl (cI, 80, .inl (fun _ => 0))), ((v 10), .inl (cI, 80, .inl (fun _ => 0))), ((v 11), .inl (cI, 80, .inl (fun _ => 0))), ((v 12), .inl (cI, 80, .inl (fun _ => 0))), ((v 13), .inl (cI, 80, .inl (fun _ => 0))), ((v 14), .inl (cI, 80, .inl (fun _ => 0))), ((v 15), .inl (cI, 80, .inl (fun _ => 0))), ((v 17), .inl (cI, 80, .inl (fun _ => 0))), ((v 20), .inl (cZ, 100, .inl (fun _ => 0))), ((v 22), .inl (cI, 80, .inl (fun _ => 0))), ((v 40), .inl (cZ, 12, .inl (fun _ => 0)))] ++ shW cI sa la ca) H) (hD : va_D A ([(h0, .inr (10, [.ref pg, .ref pl, .ref it, .int 0, .ref ac, .int 0, .ref rv, .int 0, .int 0])), (pg, .inl (cS, 12, .inr (.inr (.inr (.inr (fun j => some (sa j))))))), (pl, .inl (cS, 12, .inr (.inr (.inr (.inr (fun _ => none)))))), (it, .inl (cT, 80, .inr (.inr (.inr (.inr (fun _ => none)))))), (ac, .inl (cA, 300, .inr (.inr (.inr (.inr (fun _ => none)))))), (rv, .inl (cZ, 100, .inl (fun _ => 0))), (mm, .inr (11, mO v 0 0 0 0 0 0 0 0)), ((v 0), .inl (cI, 96, .inl (fun _ => 0))), ((v 1), .inl (cI, 12, .inl g1)), ((v 2), .inl (cI, 5760, .inl (fun _ => (-2)))), ((v 4), .inl (cI, 80, .inl (fun _ => 0))), ((v 5), .inl (cI, 80, .inl (fun _ => 0))), ((v 6), .inl (cI, 80, .inl (fun _ => 0))), ((v 7), .inl (cI, 80, .inl (fun _ => 0))), ((v 8), .inl (cI, 80, .inl (fun _ => 0))), ((v 9), .inl (cI, 80, .inl (fun _ => 0))), ((v 10), .inl (cI, 80, .inl (fun _ => 0))), ((v 11), .inl (cI, 80, .inl (fun _ => 0))), ((v 12), .inl (cI, 80, .inl (fun _ => 0))), ((v 13), .inl (cI, 80, .inl (fun _ => 0))), ((v 14), .inl (cI, 80, .inl (fun _ => 0))), ((v 15), .inl (cI, 80, .inl (fun _ => 0))), ((v 17), .inl (cI, 80, .inl (fun _ => 0))), ((v 20), .inl (cZ, 100, .inl (fun _ => 0))), ((v 22), .inl (cI, 80, .inl (fun _ => 0))), ((v 40), .inl (cZ, 12, .inl (fun _ => 0)))] ++ shW cI sa la ca)) (hS : va_S A s.heap H locs) {ls : Array Slot} (hl : lv_has ls 4 [(3, .int 0), (2, .ref mm), (1, .ref h0), (0, .ref b)]) : W p l e room_1 s m #[Value.ref b] below meth c H locs 87 66821 (lw_Z below #[Value.ref b] s) (F0 m 1050 ls []) := by
  obtain ⟨hx, hb, hr, hml, hown, hts, hX, hbl, hlocks, hgv⟩ := id C0
  have hbA : ¬ A b := by rw [hAe]; exact Nat.not_le.mpr hbl
  have hA : ∀ q : Nat, s.heap.size ≤ q → A q := fun q h => by rw [hAe]; exact h
  have hts := fun w h => hts w (wsL_law_in w h)
  refine lv_aload_n hx hb dL_law_1050 rfl (lv_at hl 2 rfl) ?_
  refine lv_aload_n hx hb dL_law_1051 rfl (lv_at hl 3 rfl) ?_
  refine lv_iload_n hx hb dL_law_1052 rfl (lv_at hl 0 rfl) ?_
  refine lv_iconst (v := 1) hx hb dL_law_1053 (by decide) ?_
  refine lv_iadd hx hb dL_law_1054 ?_
  refine lv_topi (fun k_1 ek_1 => ?_)
  obtain rfl : k_1 = 1 := ek_1.trans (by decide)
  refine va_sld hx hb hX hbl hbA hS (by unfold vp_in; decide) dL_law_1055 ?_
  refine lv_aload_n hx hb dL_law_1056 rfl (lv_at hl 3 rfl) ?_
  refine lv_iload_n hx hb dL_law_1057 rfl (lv_at hl 0 rfl) ?_
  refine lv_iconst (v := 2) hx hb dL_law_1058 (by decide) ?_
  refine lv_iadd hx hb dL_law_1059 ?_
  refine lv_topi (fun k_2 ek_2 => ?_)
  obtain rfl : k_2 = 2 := ek_2.trans (by decide)
  refine va_sld hx hb hX hbl hbA hS (by unfold vp_in; decide) dL_law_1060 ?_
  refine lv_aload_n hx hb dL_law_1061 rfl (lv_at hl 3 rfl) ?_
  refine lv_iload_n hx hb dL_law_1062 rfl (lv_at hl 0 rfl) ?_
  refine lv_iconst (v := 3) hx hb dL_law_1063 (by decide) ?_
  refine lv_iadd hx hb dL_law_1064 ?_
  refine lv_topi (fun k_3 ek_3 => ?_)
  obtain rfl : k_3 = 3 := ek_3.trans (by decide)
  refine va_sld hx hb hX hbl hbA hS (by unfold vp_in; decide) dL_law_1065 ?_
  have hPc := hP.sub (ws' := [(h0, .inr (10, [.ref pg, .ref pl, .ref it, .int 0, .ref ac, .int 0, .ref rv, .int 0, .int 0])), (pl, .inl (cS, 12, .inr (.inr (.inr (.inr (fun _ => none))))))]) [0, 2] rfl
  have hKc := hK.sub (tys' := [(cS, .object "PageOne$Sheet")]) [2] rfl
  refine vp_callSi (va_runV (As := [.int (xs 1), .int (xs 2), .int (xs 3)]) (rest := []) ⟨hx, hb, hml, hown, hts⟩ (x_plated l dC dI h0 pg pl it ac rv cS (xs 1) (xs 2) (xs 3)) (cwV 3 hts gL_law_X11_plated rfl rfl rfl (by decide +kernel) ⟨Nat.le_of_ble_eq_true rfl, Nat.le_of_ble_eq_true rfl⟩) ⟨pw_fb, va_recv hKc hPc (ci := 10) (q0 := 0) rfl rfl, fun U hU hW => ⟨rfl, pw_to hU hW hPc hKc hN⟩⟩ rfl rfl hl.1 rfl (lv_room (Nat.le_of_ble_eq_true rfl)) dL_law_1066 ⟨Nat.le_of_ble_eq_true rfl, Nat.le_of_ble_eq_true rfl⟩).run (fun r hw => ?_)
  obtain rfl : r = (-1) := hw
  refine lv_aload_n hx hb dL_law_1069 rfl (lv_at hl 1 rfl) ?_
  refine lv_aload_n hx hb dL_law_1070 rfl (lv_at hl 3 rfl) ?_
  refine lv_iload_n hx hb dL_law_1071 rfl (lv_at hl 0 rfl) ?_
  refine lv_iconst (v := 1) hx hb dL_law_1072 (by decide) ?_
  refine lv_iadd hx hb dL_law_1073 ?_
  refine lv_topi (fun k_4 ek_4 => ?_)
  obtain rfl : k_4 = 1 := ek_4.trans (by decide)
  refine va_sld hx hb hX hbl hbA hS (by unfold vp_in; decide) dL_law_1074 ?_
  refine lv_aload_n hx hb dL_law_1075 rfl (lv_at hl 3 rfl) ?_
  refine lv_iload_n hx hb dL_law_1076 rfl (lv_at hl 0 rfl) ?_
  refine lv_iconst (v := 2) hx hb dL_law_1077 (by decide) ?_
  refine lv_iadd hx hb dL_law_1078 ?_
  refine lv_topi (fun k_5 ek_5 => ?_)
  obtain rfl : k_5 = 2 := ek_5.trans (by decide)
  refine va_sld hx hb hX hbl hbA hS (by unfold vp_in; decide) dL_law_1079 ?_
  refine lv_aload_n hx hb dL_law_1080 rfl (lv_at hl 3 rfl) ?_
  refine lv_iload_n hx hb dL_law_1081 rfl (lv_at hl 0 rfl) ?_
  refine lv_iconst (v := 3) hx hb dL_law_1082 (by decide) ?_
  refine lv_iadd hx hb dL_law_1083 ?_
  refine lv_topi (fun k_6 ek_6 => ?_)
  obtain rfl : k_6 = 3 := ek_6.trans (by decide)
  refine va_sld hx hb hX hbl hbA hS (by unfold vp_in; decide) dL_law_1084 ?_
  have hPc := hP.sub (ws' := [(mm, .inr (11, mO v 0 0 0 0 0 0 0 0)), ((v 40), .inl (cZ, 12, .inl (fun _ => 0)))]) [6, 25] rfl
  have hKc := hK.sub (tys' := [(cZ, .boolean)]) [1] rfl
  refine vp_callSi (va_runV (As := [.int (xs 1), .int (xs 2), .int (xs 3)]) (rest := [.int (-1)]) ⟨hx, hb, hml, hown, hts⟩ (m_plated l dC dI mm v cZ (xs 1) (xs 2) (xs 3)) (cwV 3 hts gL_law_X12_plated rfl rfl rfl (by decide +kernel) ⟨Nat.le_of_ble_eq_true rfl, Nat.le_of_ble_eq_true rfl⟩) ⟨pw_fb, va_recv hKc hPc (ci := 11) (q0 := 0) rfl rfl, fun U hU hW => ⟨rfl, pw_to hU hW hPc hKc hN⟩⟩ rfl rfl hl.1 rfl (lv_room (Nat.le_of_ble_eq_true rfl)) dL_law_1085 ⟨Nat.le_of_ble_eq_true rfl, Nat.le_of_ble_eq_true rfl⟩).run (fun r hw => ?_)
  obtain rfl : r = (-1) := hw
  refine lv_icmp_eq (tgt := 1182) hx hb dL_law_1088 (by decide) (fun c_7 => ?_) (fun c_7 => absurd (rfl) c_7)
  exact law_tail C0 hAe hS (lv_sub hl [0, 3] rfl) (Nat.le_of_ble_eq_true rfl) (Nat.le_of_ble_eq_true rfl)
set_option maxHeartbeats 4000000 in
set_option maxRecDepth 100000 in
theorem law_c27 {p : Program} {l : Launch} {e : Env} {s : State} {m : MethodId} {below : List Frame} {meth : Method} {c : Code} {b : Nat} {xs : Nat → Int32} {A : Nat → Prop} {H : Heap} {locs : List Loc} {dC : Nat → ClassId} {dI : Nat → Nat → Nat} {h0 pg pl it ac rv mm : Nat} {sa la ca v : Nat → Nat} {g1 : Nat → Int32} {cI cZ cS cT cA : ClassId} (C0 : lw_At p s m meth c b 8 xs) (hAe : A = fun q => s.heap.size ≤ q) (hN : NN s) (hK : va_K (dC, dI) vwCl [(cI, .int), (cZ, .boolean), (cS, .object "PageOne$Sheet"), (cT, .object "PageOne$Item"), (cA, .object "PageOne$Act")] s) (hP : va_P (dC, dI) vwCl ([(h0, .inr (10, [.ref pg, .ref pl, .ref it, .int 0, .ref ac, .int 0, .ref rv, .int 0, .int 0])), (pg, .inl (cS, 12, .inr (.inr (.inr (.inr (fun j => some (sa j))))))), (pl, .inl (cS, 12, .inr (.inr (.inr (.inr (fun _ => none)))))), (it, .inl (cT, 80, .inr (.inr (.inr (.inr (fun _ => none)))))), (ac, .inl (cA, 300, .inr (.inr (.inr (.inr (fun _ => none)))))), (rv, .inl (cZ, 100, .inl (fun _ => 0))), (mm, .inr (11, mO v 0 0 0 0 0 0 0 0)), ((v 0), .inl (cI, 96, .inl (fun _ => 0))), ((v 1), .inl (cI, 12, .inl g1)), ((v 2), .inl (cI, 5760, .inl (fun _ => (-2)))), ((v 4), .inl (cI, 80, .inl (fun _ => 0))), ((v 5), .inl (cI, 80, .inl (fun _ => 0))), ((v 6), .inl (cI, 80, .inl (fun _ => 0))), ((v 7), .inl (cI, 80, .inl (fun _ => 0))), ((v 8), .inl (cI, 80, .inl (fun _ => 0))), ((v 9), .inl (cI, 80, .inl (fun _ => 0))), ((v 10), .inl (cI, 80, .inl (fun _ => 0))), ((v 11), .inl (cI, 80, .inl (fun _ => 0))), ((v 12), .inl (cI, 80, .inl (fun _ => 0))), ((v 13), .inl (cI, 80, .inl (fun _ => 0))), ((v 14), .inl (cI, 80, .inl (fun _ => 0))), ((v 15), .inl (cI, 80, .inl (fun _ => 0))), ((v 17), .inl (cI, 80, .inl (fun _ => 0))), ((v 20), .inl (cZ, 100, .inl (fun _ => 0))), ((v 22), .inl (cI, 80, .inl (fun _ => 0))), ((v 40), .inl (cZ, 12, .inl (fun _ => 0)))] ++ shW cI sa la ca) H) (hD : va_D A ([(h0, .inr (10, [.ref pg, .ref pl, .ref it, .int 0, .ref ac, .int 0, .ref rv, .int 0, .int 0])), (pg, .inl (cS, 12, .inr (.inr (.inr (.inr (fun j => some (sa j))))))), (pl, .inl (cS, 12, .inr (.inr (.inr (.inr (fun _ => none)))))), (it, .inl (cT, 80, .inr (.inr (.inr (.inr (fun _ => none)))))), (ac, .inl (cA, 300, .inr (.inr (.inr (.inr (fun _ => none)))))), (rv, .inl (cZ, 100, .inl (fun _ => 0))), (mm, .inr (11, mO v 0 0 0 0 0 0 0 0)), ((v 0), .inl (cI, 96, .inl (fun _ => 0))), ((v 1), .inl (cI, 12, .inl g1)), ((v 2), .inl (cI, 5760, .inl (fun _ => (-2)))), ((v 4), .inl (cI, 80, .inl (fun _ => 0))), ((v 5), .inl (cI, 80, .inl (fun _ => 0))), ((v 6), .inl (cI, 80, .inl (fun _ => 0))), ((v 7), .inl (cI, 80, .inl (fun _ => 0))), ((v 8), .inl (cI, 80, .inl (fun _ => 0))), ((v 9), .inl (cI, 80, .inl (fun _ => 0))), ((v 10), .inl (cI, 80, .inl (fun _ => 0))), ((v 11), .inl (cI, 80, .inl (fun _ => 0))), ((v 12), .inl (cI, 80, .inl (fun _ => 0))), ((v 13), .inl (cI, 80, .inl (fun _ => 0))), ((v 14), .inl (cI, 80, .inl (fun _ => 0))), ((v 15), .inl (cI, 80, .inl (fun _ => 0))), ((v 17), .inl (cI, 80, .inl (fun _ => 0))), ((v 20), .inl (cZ, 100, .inl (fun _ => 0))), ((v 22), .inl (cI, 80, .inl (fun _ => 0))), ((v 40), .inl (cZ, 12, .inl (fun _ => 0)))] ++ shW cI sa la ca)) (hS : va_S A s.heap H locs) {ls : Array Slot} (hl : lv_has ls 4 [(3, .int 0), (2, .ref mm), (1, .ref h0), (0, .ref b)]) : W p l e room_1 s m #[Value.ref b] below meth c H locs 87 66821 (lw_Z below #[Value.ref b] s) (F0 m 1093 ls []) := by
  obtain ⟨hx, hb, hr, hml, hown, hts, hX, hbl, hlocks, hgv⟩ := id C0
  have hbA : ¬ A b := by rw [hAe]; exact Nat.not_le.mpr hbl
  have hA : ∀ q : Nat, s.heap.size ≤ q → A q := fun q h => by rw [hAe]; exact h
  have hts := fun w h => hts w (wsL_law_in w h)
  refine lv_aload_n hx hb dL_law_1093 rfl (lv_at hl 2 rfl) ?_
  refine lv_aload_n hx hb dL_law_1094 rfl (lv_at hl 3 rfl) ?_
  refine lv_iload_n hx hb dL_law_1095 rfl (lv_at hl 0 rfl) ?_
  refine lv_iconst (v := 1) hx hb dL_law_1096 (by decide) ?_
  refine lv_iadd hx hb dL_law_1097 ?_
  refine lv_topi (fun k_1 ek_1 => ?_)
  obtain rfl : k_1 = 1 := ek_1.trans (by decide)
  refine va_sld hx hb hX hbl hbA hS (by unfold vp_in; decide) dL_law_1098 ?_
  refine lv_aload_n hx hb dL_law_1099 rfl (lv_at hl 3 rfl) ?_
  refine lv_iload_n hx hb dL_law_1100 rfl (lv_at hl 0 rfl) ?_
  refine lv_iconst (v := 2) hx hb dL_law_1101 (by decide) ?_
  refine lv_iadd hx hb dL_law_1102 ?_
  refine lv_topi (fun k_2 ek_2 => ?_)
  obtain rfl : k_2 = 2 := ek_2.trans (by decide)
  refine va_sld hx hb hX hbl hbA hS (by unfold vp_in; decide) dL_law_1103 ?_
  have hPc := hP.sub (ws' := [(h0, .inr (10, [.ref pg, .ref pl, .ref it, .int 0, .ref ac, .int 0, .ref rv, .int 0, .int 0])), (pl, .inl (cS, 12, .inr (.inr (.inr (.inr (fun _ => none))))))]) [0, 2] rfl
  have hKc := hK.sub (tys' := [(cS, .object "PageOne$Sheet")]) [2] rfl
  refine vp_callSi (va_runV (As := [.int (xs 1), .int (xs 2)]) (rest := []) ⟨hx, hb, hml, hown, hts⟩ (x_plateOf l dC dI h0 pg pl it ac rv cS (xs 1) (xs 2)) (cwV 2 hts gL_law_X11_plateOf rfl rfl rfl (by decide +kernel) ⟨Nat.le_of_ble_eq_true rfl, Nat.le_of_ble_eq_true rfl⟩) ⟨pw_fb, va_recv hKc hPc (ci := 10) (q0 := 0) rfl rfl, fun U hU hW => ⟨rfl, pw_to hU hW hPc hKc hN⟩⟩ rfl rfl hl.1 rfl (lv_room (Nat.le_of_ble_eq_true rfl)) dL_law_1104 ⟨Nat.le_of_ble_eq_true rfl, Nat.le_of_ble_eq_true rfl⟩).run (fun r hw => ?_)
  obtain rfl : r = (-1) := hw
  refine lv_aload_n hx hb dL_law_1107 rfl (lv_at hl 1 rfl) ?_
  refine lv_aload_n hx hb dL_law_1108 rfl (lv_at hl 3 rfl) ?_
  refine lv_iload_n hx hb dL_law_1109 rfl (lv_at hl 0 rfl) ?_
  refine lv_iconst (v := 1) hx hb dL_law_1110 (by decide) ?_
  refine lv_iadd hx hb dL_law_1111 ?_
  refine lv_topi (fun k_3 ek_3 => ?_)
  obtain rfl : k_3 = 1 := ek_3.trans (by decide)
  refine va_sld hx hb hX hbl hbA hS (by unfold vp_in; decide) dL_law_1112 ?_
  refine lv_aload_n hx hb dL_law_1113 rfl (lv_at hl 3 rfl) ?_
  refine lv_iload_n hx hb dL_law_1114 rfl (lv_at hl 0 rfl) ?_
  refine lv_iconst (v := 2) hx hb dL_law_1115 (by decide) ?_
  refine lv_iadd hx hb dL_law_1116 ?_
  refine lv_topi (fun k_4 ek_4 => ?_)
  obtain rfl : k_4 = 2 := ek_4.trans (by decide)
  refine va_sld hx hb hX hbl hbA hS (by unfold vp_in; decide) dL_law_1117 ?_
  have hPc := hP.sub (ws' := [(mm, .inr (11, mO v 0 0 0 0 0 0 0 0)), ((v 40), .inl (cZ, 12, .inl (fun _ => 0)))]) [6, 25] rfl
  have hKc := hK.sub (tys' := [(cZ, .boolean)]) [1] rfl
  refine vp_callSi (va_runV (As := [.int (xs 1), .int (xs 2)]) (rest := [.int (-1)]) ⟨hx, hb, hml, hown, hts⟩ (m_plateOf l dC dI mm v cZ (xs 1) (xs 2)) (cwV 2 hts gL_law_X12_plateOf rfl rfl rfl (by decide +kernel) ⟨Nat.le_of_ble_eq_true rfl, Nat.le_of_ble_eq_true rfl⟩) ⟨pw_fb, va_recv hKc hPc (ci := 11) (q0 := 0) rfl rfl, fun U hU hW => ⟨rfl, pw_to hU hW hPc hKc hN⟩⟩ rfl rfl hl.1 rfl (lv_room (Nat.le_of_ble_eq_true rfl)) dL_law_1118 ⟨Nat.le_of_ble_eq_true rfl, Nat.le_of_ble_eq_true rfl⟩).run (fun r hw => ?_)
  obtain rfl : r = (-1) := hw
  refine lv_icmp_eq (tgt := 1182) hx hb dL_law_1121 (by decide) (fun c_5 => ?_) (fun c_5 => absurd (rfl) c_5)
  exact law_tail C0 hAe hS (lv_sub hl [0, 3] rfl) (Nat.le_of_ble_eq_true rfl) (Nat.le_of_ble_eq_true rfl)
set_option maxHeartbeats 4000000 in
set_option maxRecDepth 100000 in
theorem law_c28 {p : Program} {l : Launch} {e : Env} {s : State} {m : MethodId} {below : List Frame} {meth : Method} {c : Code} {b : Nat} {xs : Nat → Int32} {A : Nat → Prop} {H : Heap} {locs : List Loc} {dC : Nat → ClassId} {dI : Nat → Nat → Nat} {h0 pg pl it ac rv mm : Nat} {sa la ca v : Nat → Nat} {g1 : Nat → Int32} {cI cZ cS cT cA : ClassId} (C0 : lw_At p s m meth c b 8 xs) (hAe : A = fun q => s.heap.size ≤ q) (hN : NN s) (hK : va_K (dC, dI) vwCl [(cI, .int), (cZ, .boolean), (cS, .object "PageOne$Sheet"), (cT, .object "PageOne$Item"), (cA, .object "PageOne$Act")] s) (hP : va_P (dC, dI) vwCl ([(h0, .inr (10, [.ref pg, .ref pl, .ref it, .int 0, .ref ac, .int 0, .ref rv, .int 0, .int 0])), (pg, .inl (cS, 12, .inr (.inr (.inr (.inr (fun j => some (sa j))))))), (pl, .inl (cS, 12, .inr (.inr (.inr (.inr (fun _ => none)))))), (it, .inl (cT, 80, .inr (.inr (.inr (.inr (fun _ => none)))))), (ac, .inl (cA, 300, .inr (.inr (.inr (.inr (fun _ => none)))))), (rv, .inl (cZ, 100, .inl (fun _ => 0))), (mm, .inr (11, mO v 0 0 0 0 0 0 0 0)), ((v 0), .inl (cI, 96, .inl (fun _ => 0))), ((v 1), .inl (cI, 12, .inl g1)), ((v 2), .inl (cI, 5760, .inl (fun _ => (-2)))), ((v 4), .inl (cI, 80, .inl (fun _ => 0))), ((v 5), .inl (cI, 80, .inl (fun _ => 0))), ((v 6), .inl (cI, 80, .inl (fun _ => 0))), ((v 7), .inl (cI, 80, .inl (fun _ => 0))), ((v 8), .inl (cI, 80, .inl (fun _ => 0))), ((v 9), .inl (cI, 80, .inl (fun _ => 0))), ((v 10), .inl (cI, 80, .inl (fun _ => 0))), ((v 11), .inl (cI, 80, .inl (fun _ => 0))), ((v 12), .inl (cI, 80, .inl (fun _ => 0))), ((v 13), .inl (cI, 80, .inl (fun _ => 0))), ((v 14), .inl (cI, 80, .inl (fun _ => 0))), ((v 15), .inl (cI, 80, .inl (fun _ => 0))), ((v 17), .inl (cI, 80, .inl (fun _ => 0))), ((v 20), .inl (cZ, 100, .inl (fun _ => 0))), ((v 22), .inl (cI, 80, .inl (fun _ => 0))), ((v 40), .inl (cZ, 12, .inl (fun _ => 0)))] ++ shW cI sa la ca) H) (hD : va_D A ([(h0, .inr (10, [.ref pg, .ref pl, .ref it, .int 0, .ref ac, .int 0, .ref rv, .int 0, .int 0])), (pg, .inl (cS, 12, .inr (.inr (.inr (.inr (fun j => some (sa j))))))), (pl, .inl (cS, 12, .inr (.inr (.inr (.inr (fun _ => none)))))), (it, .inl (cT, 80, .inr (.inr (.inr (.inr (fun _ => none)))))), (ac, .inl (cA, 300, .inr (.inr (.inr (.inr (fun _ => none)))))), (rv, .inl (cZ, 100, .inl (fun _ => 0))), (mm, .inr (11, mO v 0 0 0 0 0 0 0 0)), ((v 0), .inl (cI, 96, .inl (fun _ => 0))), ((v 1), .inl (cI, 12, .inl g1)), ((v 2), .inl (cI, 5760, .inl (fun _ => (-2)))), ((v 4), .inl (cI, 80, .inl (fun _ => 0))), ((v 5), .inl (cI, 80, .inl (fun _ => 0))), ((v 6), .inl (cI, 80, .inl (fun _ => 0))), ((v 7), .inl (cI, 80, .inl (fun _ => 0))), ((v 8), .inl (cI, 80, .inl (fun _ => 0))), ((v 9), .inl (cI, 80, .inl (fun _ => 0))), ((v 10), .inl (cI, 80, .inl (fun _ => 0))), ((v 11), .inl (cI, 80, .inl (fun _ => 0))), ((v 12), .inl (cI, 80, .inl (fun _ => 0))), ((v 13), .inl (cI, 80, .inl (fun _ => 0))), ((v 14), .inl (cI, 80, .inl (fun _ => 0))), ((v 15), .inl (cI, 80, .inl (fun _ => 0))), ((v 17), .inl (cI, 80, .inl (fun _ => 0))), ((v 20), .inl (cZ, 100, .inl (fun _ => 0))), ((v 22), .inl (cI, 80, .inl (fun _ => 0))), ((v 40), .inl (cZ, 12, .inl (fun _ => 0)))] ++ shW cI sa la ca)) (hS : va_S A s.heap H locs) {ls : Array Slot} (hl : lv_has ls 4 [(3, .int 0), (2, .ref mm), (1, .ref h0), (0, .ref b)]) : W p l e room_1 s m #[Value.ref b] below meth c H locs 87 66821 (lw_Z below #[Value.ref b] s) (F0 m 1126 ls []) := by
  obtain ⟨hx, hb, hr, hml, hown, hts, hX, hbl, hlocks, hgv⟩ := id C0
  have hbA : ¬ A b := by rw [hAe]; exact Nat.not_le.mpr hbl
  have hA : ∀ q : Nat, s.heap.size ≤ q → A q := fun q h => by rw [hAe]; exact h
  have hts := fun w h => hts w (wsL_law_in w h)
  refine lv_aload_n hx hb dL_law_1126 rfl (lv_at hl 2 rfl) ?_
  refine lv_aload_n hx hb dL_law_1127 rfl (lv_at hl 3 rfl) ?_
  refine lv_iload_n hx hb dL_law_1128 rfl (lv_at hl 0 rfl) ?_
  refine lv_iconst (v := 1) hx hb dL_law_1129 (by decide) ?_
  refine lv_iadd hx hb dL_law_1130 ?_
  refine lv_topi (fun k_1 ek_1 => ?_)
  obtain rfl : k_1 = 1 := ek_1.trans (by decide)
  refine va_sld hx hb hX hbl hbA hS (by unfold vp_in; decide) dL_law_1131 ?_
  refine lv_aload_n hx hb dL_law_1132 rfl (lv_at hl 3 rfl) ?_
  refine lv_iload_n hx hb dL_law_1133 rfl (lv_at hl 0 rfl) ?_
  refine lv_iconst (v := 2) hx hb dL_law_1134 (by decide) ?_
  refine lv_iadd hx hb dL_law_1135 ?_
  refine lv_topi (fun k_2 ek_2 => ?_)
  obtain rfl : k_2 = 2 := ek_2.trans (by decide)
  refine va_sld hx hb hX hbl hbA hS (by unfold vp_in; decide) dL_law_1136 ?_
  have hPc := hP.sub (ws' := [(h0, .inr (10, [.ref pg, .ref pl, .ref it, .int 0, .ref ac, .int 0, .ref rv, .int 0, .int 0]))]) [0] rfl
  have hKc := hK.sub (tys' := []) [] rfl
  refine vp_callSi (va_runV (As := [.int (xs 1), .int (xs 2)]) (rest := []) ⟨hx, hb, hml, hown, hts⟩ (x_bill l dC dI h0 pg pl it ac rv (xs 1) (xs 2)) (cwV 2 hts gL_law_X11_bill rfl rfl rfl (by decide +kernel) ⟨Nat.le_of_ble_eq_true rfl, Nat.le_of_ble_eq_true rfl⟩) ⟨pw_fb, va_recv hKc hPc (ci := 10) (q0 := 0) rfl rfl, fun U hU hW => ⟨rfl, pw_to hU hW hPc hKc hN⟩⟩ rfl rfl hl.1 rfl (lv_room (Nat.le_of_ble_eq_true rfl)) dL_law_1137 ⟨Nat.le_of_ble_eq_true rfl, Nat.le_of_ble_eq_true rfl⟩).run (fun r hw => ?_)
  obtain rfl : r = (if bw (xs 1) 0 9 && bw (xs 2) 0 0 then 0 else (-1)) := hw
  refine lv_aload_n hx hb dL_law_1140 rfl (lv_at hl 1 rfl) ?_
  refine lv_aload_n hx hb dL_law_1141 rfl (lv_at hl 3 rfl) ?_
  refine lv_iload_n hx hb dL_law_1142 rfl (lv_at hl 0 rfl) ?_
  refine lv_iconst (v := 1) hx hb dL_law_1143 (by decide) ?_
  refine lv_iadd hx hb dL_law_1144 ?_
  refine lv_topi (fun k_3 ek_3 => ?_)
  obtain rfl : k_3 = 1 := ek_3.trans (by decide)
  refine va_sld hx hb hX hbl hbA hS (by unfold vp_in; decide) dL_law_1145 ?_
  refine lv_aload_n hx hb dL_law_1146 rfl (lv_at hl 3 rfl) ?_
  refine lv_iload_n hx hb dL_law_1147 rfl (lv_at hl 0 rfl) ?_
  refine lv_iconst (v := 2) hx hb dL_law_1148 (by decide) ?_
  refine lv_iadd hx hb dL_law_1149 ?_
  refine lv_topi (fun k_4 ek_4 => ?_)
  obtain rfl : k_4 = 2 := ek_4.trans (by decide)
  refine va_sld hx hb hX hbl hbA hS (by unfold vp_in; decide) dL_law_1150 ?_
  have hPc := hP.sub (ws' := [(mm, .inr (11, mO v 0 0 0 0 0 0 0 0))]) [6] rfl
  have hKc := hK.sub (tys' := []) [] rfl
  refine vp_callSi (va_runV (As := [.int (xs 1), .int (xs 2)]) (rest := [.int (if bw (xs 1) 0 9 && bw (xs 2) 0 0 then 0 else (-1))]) ⟨hx, hb, hml, hown, hts⟩ (m_bill l dC dI mm v (xs 1) (xs 2)) (cwV 2 hts gL_law_X12_bill rfl rfl rfl (by decide +kernel) ⟨Nat.le_of_ble_eq_true rfl, Nat.le_of_ble_eq_true rfl⟩) ⟨pw_fb, va_recv hKc hPc (ci := 11) (q0 := 0) rfl rfl, fun U hU hW => ⟨rfl, pw_to hU hW hPc hKc hN⟩⟩ rfl rfl hl.1 rfl (lv_room (Nat.le_of_ble_eq_true rfl)) dL_law_1151 ⟨Nat.le_of_ble_eq_true rfl, Nat.le_of_ble_eq_true rfl⟩).run (fun r hw => ?_)
  obtain rfl : r = (if bw (xs 1) 0 9 && bw (xs 2) 0 0 then 0 else (-1)) := hw
  refine lv_icmp_eq (tgt := 1182) hx hb dL_law_1154 (by decide) (fun c_5 => ?_) (fun c_5 => absurd (rfl) c_5)
  exact law_tail C0 hAe hS (lv_sub hl [0, 3] rfl) (Nat.le_of_ble_eq_true rfl) (Nat.le_of_ble_eq_true rfl)
set_option maxHeartbeats 4000000 in
set_option maxRecDepth 100000 in
theorem law_c29 {p : Program} {l : Launch} {e : Env} {s : State} {m : MethodId} {below : List Frame} {meth : Method} {c : Code} {b : Nat} {xs : Nat → Int32} {A : Nat → Prop} {H : Heap} {locs : List Loc} {dC : Nat → ClassId} {dI : Nat → Nat → Nat} {h0 pg pl it ac rv mm : Nat} {sa la ca v : Nat → Nat} {g1 : Nat → Int32} {cI cZ cS cT cA : ClassId} (C0 : lw_At p s m meth c b 8 xs) (hAe : A = fun q => s.heap.size ≤ q) (hN : NN s) (hK : va_K (dC, dI) vwCl [(cI, .int), (cZ, .boolean), (cS, .object "PageOne$Sheet"), (cT, .object "PageOne$Item"), (cA, .object "PageOne$Act")] s) (hP : va_P (dC, dI) vwCl ([(h0, .inr (10, [.ref pg, .ref pl, .ref it, .int 0, .ref ac, .int 0, .ref rv, .int 0, .int 0])), (pg, .inl (cS, 12, .inr (.inr (.inr (.inr (fun j => some (sa j))))))), (pl, .inl (cS, 12, .inr (.inr (.inr (.inr (fun _ => none)))))), (it, .inl (cT, 80, .inr (.inr (.inr (.inr (fun _ => none)))))), (ac, .inl (cA, 300, .inr (.inr (.inr (.inr (fun _ => none)))))), (rv, .inl (cZ, 100, .inl (fun _ => 0))), (mm, .inr (11, mO v 0 0 0 0 0 0 0 0)), ((v 0), .inl (cI, 96, .inl (fun _ => 0))), ((v 1), .inl (cI, 12, .inl g1)), ((v 2), .inl (cI, 5760, .inl (fun _ => (-2)))), ((v 4), .inl (cI, 80, .inl (fun _ => 0))), ((v 5), .inl (cI, 80, .inl (fun _ => 0))), ((v 6), .inl (cI, 80, .inl (fun _ => 0))), ((v 7), .inl (cI, 80, .inl (fun _ => 0))), ((v 8), .inl (cI, 80, .inl (fun _ => 0))), ((v 9), .inl (cI, 80, .inl (fun _ => 0))), ((v 10), .inl (cI, 80, .inl (fun _ => 0))), ((v 11), .inl (cI, 80, .inl (fun _ => 0))), ((v 12), .inl (cI, 80, .inl (fun _ => 0))), ((v 13), .inl (cI, 80, .inl (fun _ => 0))), ((v 14), .inl (cI, 80, .inl (fun _ => 0))), ((v 15), .inl (cI, 80, .inl (fun _ => 0))), ((v 17), .inl (cI, 80, .inl (fun _ => 0))), ((v 20), .inl (cZ, 100, .inl (fun _ => 0))), ((v 22), .inl (cI, 80, .inl (fun _ => 0))), ((v 40), .inl (cZ, 12, .inl (fun _ => 0)))] ++ shW cI sa la ca) H) (hD : va_D A ([(h0, .inr (10, [.ref pg, .ref pl, .ref it, .int 0, .ref ac, .int 0, .ref rv, .int 0, .int 0])), (pg, .inl (cS, 12, .inr (.inr (.inr (.inr (fun j => some (sa j))))))), (pl, .inl (cS, 12, .inr (.inr (.inr (.inr (fun _ => none)))))), (it, .inl (cT, 80, .inr (.inr (.inr (.inr (fun _ => none)))))), (ac, .inl (cA, 300, .inr (.inr (.inr (.inr (fun _ => none)))))), (rv, .inl (cZ, 100, .inl (fun _ => 0))), (mm, .inr (11, mO v 0 0 0 0 0 0 0 0)), ((v 0), .inl (cI, 96, .inl (fun _ => 0))), ((v 1), .inl (cI, 12, .inl g1)), ((v 2), .inl (cI, 5760, .inl (fun _ => (-2)))), ((v 4), .inl (cI, 80, .inl (fun _ => 0))), ((v 5), .inl (cI, 80, .inl (fun _ => 0))), ((v 6), .inl (cI, 80, .inl (fun _ => 0))), ((v 7), .inl (cI, 80, .inl (fun _ => 0))), ((v 8), .inl (cI, 80, .inl (fun _ => 0))), ((v 9), .inl (cI, 80, .inl (fun _ => 0))), ((v 10), .inl (cI, 80, .inl (fun _ => 0))), ((v 11), .inl (cI, 80, .inl (fun _ => 0))), ((v 12), .inl (cI, 80, .inl (fun _ => 0))), ((v 13), .inl (cI, 80, .inl (fun _ => 0))), ((v 14), .inl (cI, 80, .inl (fun _ => 0))), ((v 15), .inl (cI, 80, .inl (fun _ => 0))), ((v 17), .inl (cI, 80, .inl (fun _ => 0))), ((v 20), .inl (cZ, 100, .inl (fun _ => 0))), ((v 22), .inl (cI, 80, .inl (fun _ => 0))), ((v 40), .inl (cZ, 12, .inl (fun _ => 0)))] ++ shW cI sa la ca)) (hS : va_S A s.heap H locs) {ls : Array Slot} (hl : lv_has ls 4 [(3, .int 0), (2, .ref mm), (1, .ref h0), (0, .ref b)]) : W p l e room_1 s m #[Value.ref b] below meth c H locs 87 66821 (lw_Z below #[Value.ref b] s) (F0 m 1159 ls []) := by
  obtain ⟨hx, hb, hr, hml, hown, hts, hX, hbl, hlocks, hgv⟩ := id C0
  have hbA : ¬ A b := by rw [hAe]; exact Nat.not_le.mpr hbl
  have hA : ∀ q : Nat, s.heap.size ≤ q → A q := fun q h => by rw [hAe]; exact h
  have hts := fun w h => hts w (wsL_law_in w h)
  refine lv_aload_n hx hb dL_law_1159 rfl (lv_at hl 2 rfl) ?_
  refine lv_aload_n hx hb dL_law_1160 rfl (lv_at hl 3 rfl) ?_
  refine lv_iload_n hx hb dL_law_1161 rfl (lv_at hl 0 rfl) ?_
  refine lv_iconst (v := 1) hx hb dL_law_1162 (by decide) ?_
  refine lv_iadd hx hb dL_law_1163 ?_
  refine lv_topi (fun k_1 ek_1 => ?_)
  obtain rfl : k_1 = 1 := ek_1.trans (by decide)
  refine va_sld hx hb hX hbl hbA hS (by unfold vp_in; decide) dL_law_1164 ?_
  have hPc := hP.sub (ws' := [(h0, .inr (10, [.ref pg, .ref pl, .ref it, .int 0, .ref ac, .int 0, .ref rv, .int 0, .int 0])), (pl, .inl (cS, 12, .inr (.inr (.inr (.inr (fun _ => none))))))]) [0, 2] rfl
  have hKc := hK.sub (tys' := [(cS, .object "PageOne$Sheet")]) [2] rfl
  refine vp_callSi (va_runV (As := [.int (xs 1)]) (rest := []) ⟨hx, hb, hml, hown, hts⟩ (x_about l dC dI h0 pg pl it ac rv cS (xs 1)) (cwV 1 hts gL_law_X11_about rfl rfl rfl (by decide +kernel) ⟨Nat.le_of_ble_eq_true rfl, Nat.le_of_ble_eq_true rfl⟩) ⟨pw_fb, va_recv hKc hPc (ci := 10) (q0 := 0) rfl rfl, fun U hU hW => ⟨rfl, pw_to hU hW hPc hKc hN⟩⟩ rfl rfl hl.1 rfl (lv_room (Nat.le_of_ble_eq_true rfl)) dL_law_1165 ⟨Nat.le_of_ble_eq_true rfl, Nat.le_of_ble_eq_true rfl⟩).run (fun r hw => ?_)
  obtain rfl : r = (if bw (xs 1) 0 4 = true then 0 else (-1)) := hw
  refine lv_aload_n hx hb dL_law_1168 rfl (lv_at hl 1 rfl) ?_
  refine lv_aload_n hx hb dL_law_1169 rfl (lv_at hl 3 rfl) ?_
  refine lv_iload_n hx hb dL_law_1170 rfl (lv_at hl 0 rfl) ?_
  refine lv_iconst (v := 1) hx hb dL_law_1171 (by decide) ?_
  refine lv_iadd hx hb dL_law_1172 ?_
  refine lv_topi (fun k_2 ek_2 => ?_)
  obtain rfl : k_2 = 1 := ek_2.trans (by decide)
  refine va_sld hx hb hX hbl hbA hS (by unfold vp_in; decide) dL_law_1173 ?_
  have hPc := hP.sub (ws' := [(mm, .inr (11, mO v 0 0 0 0 0 0 0 0)), ((v 40), .inl (cZ, 12, .inl (fun _ => 0)))]) [6, 25] rfl
  have hKc := hK.sub (tys' := [(cZ, .boolean)]) [1] rfl
  refine vp_callSi (va_runV (As := [.int (xs 1)]) (rest := [.int (if bw (xs 1) 0 4 = true then 0 else (-1))]) ⟨hx, hb, hml, hown, hts⟩ (m_about l dC dI mm v cZ (xs 1)) (cwV 1 hts gL_law_X12_about rfl rfl rfl (by decide +kernel) ⟨Nat.le_of_ble_eq_true rfl, Nat.le_of_ble_eq_true rfl⟩) ⟨pw_fb, va_recv hKc hPc (ci := 11) (q0 := 0) rfl rfl, fun U hU hW => ⟨rfl, pw_to hU hW hPc hKc hN⟩⟩ rfl rfl hl.1 rfl (lv_room (Nat.le_of_ble_eq_true rfl)) dL_law_1174 ⟨Nat.le_of_ble_eq_true rfl, Nat.le_of_ble_eq_true rfl⟩).run (fun r hw => ?_)
  obtain rfl : r = (if bw (xs 1) 0 4 = true then 0 else (-1)) := hw
  refine lv_icmp_eq (tgt := 1182) hx hb dL_law_1177 (by decide) (fun c_3 => ?_) (fun c_3 => absurd (rfl) c_3)
  exact law_tail C0 hAe hS (lv_sub hl [0, 3] rfl) (Nat.le_of_ble_eq_true rfl) (Nat.le_of_ble_eq_true rfl)
