set_option maxHeartbeats 4000000 in
set_option maxRecDepth 100000 in
/-- THE LAW, from its entry -/
theorem whole_start {p : Program} {e : Env} {s : State} {m : MethodId} {below : List Frame} {meth : Method} {c : Code} (l : Launch) {b L : Nat} {xs : Nat → Int32} (hL : L ≤ 8) (C0 : lw_At p s m meth c b L xs) : W p l e room_1 s m #[Value.ref b] below meth c s.heap [] 0 0 (lw_Z below #[Value.ref b] s) (entryFrame m ([Value.ref b] : List Value).toArray 4) := by
  obtain ⟨hx, hb, hr, hml, hown, hts0, hX, hbl, hlocks, hgv⟩ := id C0
  have hN : NN s := NN.of hts0
  have hts := fun w h => hts0 w (wsL_law_in w h)
  obtain ⟨A, hAe⟩ : ∃ A : Nat → Prop, A = fun q => s.heap.size ≤ q := ⟨_, rfl⟩
  have hA : ∀ q : Nat, s.heap.size ≤ q → A q := fun q h => by rw [hAe]; exact h
  have hbA : ¬ A b := by rw [hAe]; exact Nat.not_le.mpr hbl
  obtain ⟨cc0, iS0, hKn0⟩ := u_known (C := RX0) (T := TX0) (N := 4) (n := 4) hts0 inX0 (hts (.instantiable RX0 4) (List.mem_of_getElem? (i := 387) rfl))
  obtain ⟨cc1, iS1, hKn1⟩ := u_known (C := RX1) (T := TX1) (N := 3) (n := 3) hts0 inX1 (hts (.instantiable RX1 3) (List.mem_of_getElem? (i := 698) rfl))
  obtain ⟨cc2, iS2, hKn2⟩ := u_known (C := RX2) (T := TX2) (N := 7) (n := 7) hts0 inX2 (hts (.instantiable RX2 7) (List.mem_of_getElem? (i := 290) rfl))
  obtain ⟨cc3, iS3, hKn3⟩ := u_known (C := RX3) (T := TX3) (N := 8) (n := 8) hts0 inX3 (hts (.instantiable RX3 8) (List.mem_of_getElem? (i := 200) rfl))
  obtain ⟨cc4, iS4, hKn4⟩ := u_known (C := RX5) (T := TX5) (N := 7) (n := 7) hts0 inX5 (hts (.instantiable RX5 7) (List.mem_of_getElem? (i := 308) rfl))
  obtain ⟨cc5, iS5, hKn5⟩ := u_known (C := RX6) (T := TX6) (N := 9) (n := 9) hts0 inX6 (hts (.instantiable RX6 9) (List.mem_of_getElem? (i := 252) rfl))
  obtain ⟨cc6, iS6, hKn6⟩ := u_known (C := RX7) (T := TX7) (N := 8) (n := 8) hts0 inX7 (hts (.instantiable RX7 8) (List.mem_of_getElem? (i := 218) rfl))
  obtain ⟨cc7, iS7, hKn7⟩ := u_known (C := RX8) (T := TX8) (N := 6) (n := 6) hts0 inX8 (hts (.instantiable RX8 6) (List.mem_of_getElem? (i := 255) rfl))
  obtain ⟨cc8, iS8, hKn8⟩ := u_known (C := RX9) (T := TX9) (N := 5) (n := 5) hts0 inX9 (hts (.instantiable RX9 5) (List.mem_of_getElem? (i := 25) rfl))
  obtain ⟨cc9, iS9, hKn9⟩ := u_known (C := RX10) (T := TX10) (N := 9) (n := 9) hts0 inX10 (hts (.instantiable RX10 9) (List.mem_of_getElem? (i := 135) rfl))
  obtain ⟨cc10, iS10, hKn10⟩ := u_known (C := RX11) (T := TX11) (N := 9) (n := 9) hts0 inX11 (hts (.instantiable RX11 9) (List.mem_of_getElem? (i := 1) rfl))
  obtain ⟨cc11, iS11, hKn11⟩ := u_known (C := RX12) (T := TX12) (N := 52) (n := 52) hts0 inX12 (hts (.instantiable RX12 52) (List.mem_of_getElem? (i := 4) rfl))
  obtain ⟨dC, dI, hKc⟩ : ∃ (dC : Nat → ClassId) (dI : Nat → Nat → Nat), ∀ (k : Nat) (q : vw_C), vwCl[k]? = some q → u_Kn s q.1 q.2.1 q.2.2 (dC k) (dI k) := by
    refine ⟨fun k => if k = 0 then cc0 else if k = 1 then cc1 else if k = 2 then cc2 else if k = 3 then cc3 else if k = 4 then cc4 else if k = 5 then cc5 else if k = 6 then cc6 else if k = 7 then cc7 else if k = 8 then cc8 else if k = 9 then cc9 else if k = 10 then cc10 else cc11, fun k => if k = 0 then iS0 else if k = 1 then iS1 else if k = 2 then iS2 else if k = 3 then iS3 else if k = 4 then iS4 else if k = 5 then iS5 else if k = 6 then iS6 else if k = 7 then iS7 else if k = 8 then iS8 else if k = 9 then iS9 else if k = 10 then iS10 else iS11, ?_⟩
    intro k q hq
    match k, hq with
    | 0, hq => cases hq; exact hKn0
    | 1, hq => cases hq; exact hKn1
    | 2, hq => cases hq; exact hKn2
    | 3, hq => cases hq; exact hKn3
    | 4, hq => cases hq; exact hKn4
    | 5, hq => cases hq; exact hKn5
    | 6, hq => cases hq; exact hKn6
    | 7, hq => cases hq; exact hKn7
    | 8, hq => cases hq; exact hKn8
    | 9, hq => cases hq; exact hKn9
    | 10, hq => cases hq; exact hKn10
    | 11, hq => cases hq; exact hKn11
    | k + 12, hq => simp [vwCl] at hq
  obtain ⟨cI, hI1, hI2⟩ := karr (ty := .int) rfl (hts (.arrayClass .int) (List.mem_of_getElem? (i := 31) rfl))
  obtain ⟨cZ, hZ1, hZ2⟩ := karr (ty := .boolean) rfl (hts (.arrayClass .boolean) (List.mem_of_getElem? (i := 21) rfl))
  have hS : va_S A s.heap s.heap [] := va_S.rf
  have hK : va_K (dC, dI) vwCl [(cI, .int), (cZ, .boolean)] s := ⟨hKc, fun k q h => by
    match k, h with
    | 0, h => cases h; exact ⟨hI1, hI2⟩
    | 1, h => cases h; exact ⟨hZ1, hZ2⟩
    | k + 2, h => simp at h⟩
  have hP : va_P (dC, dI) vwCl [] s.heap := fun k q h => by simp at h
  have hD : va_D A [] := ⟨fun i j p q h => by simp at h, fun k q h => by simp at h⟩
  have hl := lv_entry ([.ref b]) (n := 4) (Nat.le_of_ble_eq_true rfl)
  rw [lg_entry_eq]
  generalize (lg_sl ([.ref b]) ++ List.replicate (4 - (lg_sl ([.ref b])).length) Slot.unset).toArray = ls at hl ⊢
  have hl : lv_has ls 4 [(0, .ref b)] := hl
  refine va_new (ci := 10) (fs := [.null, .null, .null, .int 0, .null, .int 0, .null, .int 0, .int 0]) (C := RX11) (T := TX11) (N := 9) hx hb hts inlX11 tyX11 tyX11_ok hown (hts (.classLink RL 7 RX11) (by decide +kernel)) (hts (.instantiable RX11 9) (by decide +kernel)) (hts (.initialized RX11) (by decide +kernel)) hK hP hD hS hA rfl nwX11 (Nat.le_of_ble_eq_true rfl) (Nat.le_of_ble_eq_true rfl) dL_law_0 (fun q_1 H hP hD hS => ?_)
  have hP : va_P (dC, dI) vwCl [(q_1, .inr (10, [.null, .null, .null, .int 0, .null, .int 0, .null, .int 0, .int 0]))] H := hP
  have hD : va_D A [(q_1, .inr (10, [.null, .null, .null, .int 0, .null, .int 0, .null, .int 0, .int 0]))] := hD
  refine W.widen (k := 1) (n := 9) (Nat.le_of_ble_eq_true rfl) (Nat.le_of_ble_eq_true rfl) ?_
  refine lv_dup hx hb dL_law_3 rfl ?_
  have hPc := hP.sub (ws' := [(q_1, .inr (10, [.null, .null, .null, .int 0, .null, .int 0, .null, .int 0, .int 0]))]) [0] rfl
  have hKc := hK.sub (tys' := [(cI, .int), (cZ, .boolean)]) [0, 1] rfl
  have hDc := hD.sub (ws' := [(q_1, .inr (10, [.null, .null, .null, .int 0, .null, .int 0, .null, .int 0, .int 0]))]) [0] (by decide) rfl
  have hFc := va_free (wc := [(q_1, .inr (10, [.null, .null, .null, .int 0, .null, .int 0, .null, .int 0, .int 0]))]) hD hS hA [0] rfl
  refine va_callv (va_runI (As := []) (rest := [.ref q_1]) ⟨hx, hb, hml, hown, hts⟩ (x_PageOne l dC dI q_1 cI cZ H.size) (cwI 0 hts gL_law_X11_init rfl rfl rfl (hts (.initialized RX11) (by decide +kernel)) (hts (.methodLink RL 9 yX11_init) (by decide +kernel)) (hts (.instanceMethod yX11_init) (by decide +kernel)) rfl (by decide +kernel) ⟨Nat.le_of_ble_eq_true rfl, Nat.le_of_ble_eq_true rfl⟩) ⟨gw_fb, fun U hU hW => ⟨rfl, by rw [hU], pw_to hU hW hPc hKc hN, hDc.weaken (fun _ _ _ _ => trivial)⟩⟩ rfl rfl hl.1 rfl (lv_room (Nat.le_of_ble_eq_true rfl)) dL_law_4 ⟨Nat.le_of_ble_eq_true rfl, Nat.le_of_ble_eq_true rfl⟩) hS (fun q _ h => hFc q h) hFc (fun u t H1 locs ht hvm hw hB hz1 hk1 hS => ?_)
  obtain ⟨pg, pl, it, ac, rv, sa, la, ca, cS, cT, cA, hP1, hK1, hD1⟩ := hB
  rw [ht] at hP1
  have hK := va_K.moved hvm.symm hK1
  obtain ⟨hP, hD⟩ := va_join (wr := []) (w1 := ([(q_1, .inr (10, [.ref pg, .ref pl, .ref it, .int 0, .ref ac, .int 0, .ref rv, .int 0, .int 0])), (pg, .inl (cS, 12, .inr (.inr (.inr (.inr (fun j => some (sa j))))))), (pl, .inl (cS, 12, .inr (.inr (.inr (.inr (fun _ => none)))))), (it, .inl (cT, 80, .inr (.inr (.inr (.inr (fun _ => none)))))), (ac, .inl (cA, 300, .inr (.inr (.inr (.inr (fun _ => none)))))), (rv, .inl (cZ, 100, .inl (fun _ => 0)))] ++ shW cI sa la ca)) hP hD [0] [] rfl rfl (by decide) (by decide) hk1 hFc hP1 hD1
  generalize H1 = H at hP hS ⊢
  have hP : va_P (dC, dI) vwCl ([(q_1, .inr (10, [.ref pg, .ref pl, .ref it, .int 0, .ref ac, .int 0, .ref rv, .int 0, .int 0])), (pg, .inl (cS, 12, .inr (.inr (.inr (.inr (fun j => some (sa j))))))), (pl, .inl (cS, 12, .inr (.inr (.inr (.inr (fun _ => none)))))), (it, .inl (cT, 80, .inr (.inr (.inr (.inr (fun _ => none)))))), (ac, .inl (cA, 300, .inr (.inr (.inr (.inr (fun _ => none)))))), (rv, .inl (cZ, 100, .inl (fun _ => 0)))] ++ shW cI sa la ca) H := hP
  have hD : va_D A ([(q_1, .inr (10, [.ref pg, .ref pl, .ref it, .int 0, .ref ac, .int 0, .ref rv, .int 0, .int 0])), (pg, .inl (cS, 12, .inr (.inr (.inr (.inr (fun j => some (sa j))))))), (pl, .inl (cS, 12, .inr (.inr (.inr (.inr (fun _ => none)))))), (it, .inl (cT, 80, .inr (.inr (.inr (.inr (fun _ => none)))))), (ac, .inl (cA, 300, .inr (.inr (.inr (.inr (fun _ => none)))))), (rv, .inl (cZ, 100, .inl (fun _ => 0)))] ++ shW cI sa la ca) := hD
  refine W.widen (k := 42) (n := 6429) (Nat.le_of_ble_eq_true rfl) (Nat.le_of_ble_eq_true rfl) ?_
  refine lv_astore_n (lv' := [(1, .ref q_1), (0, .ref b)]) hx hb dL_law_7 rfl hl (by decide) rfl (fun ls hl => ?_)
  refine va_new (ci := 11) (fs := [.null, .null, .null, .int 0, .null, .null, .null, .null, .null, .null, .null, .null, .null, .null, .null, .null, .null, .null, .null, .null, .null, .null, .null, .null, .null, .null, .null, .null, .int 0, .null, .null, .null, .null, .null, .null, .null, .int 0, .null, .int 0, .int 0, .null, .null, .null, .null, .null, .null, .null, .null, .null, .int 0, .int 0, .int 0]) (C := RX12) (T := TX12) (N := 52) hx hb hts inlX12 tyX12 tyX12_ok hown (hts (.classLink RL 10 RX12) (by decide +kernel)) (hts (.instantiable RX12 52) (by decide +kernel)) (hts (.initialized RX12) (by decide +kernel)) hK hP hD hS hA rfl nwX12 (Nat.le_of_ble_eq_true rfl) (Nat.le_of_ble_eq_true rfl) dL_law_8 (fun q_2 H hP hD hS => ?_)
  have hP := hP.sub (ws' := ([(q_1, .inr (10, [.ref pg, .ref pl, .ref it, .int 0, .ref ac, .int 0, .ref rv, .int 0, .int 0])), (pg, .inl (cS, 12, .inr (.inr (.inr (.inr (fun j => some (sa j))))))), (pl, .inl (cS, 12, .inr (.inr (.inr (.inr (fun _ => none)))))), (it, .inl (cT, 80, .inr (.inr (.inr (.inr (fun _ => none)))))), (ac, .inl (cA, 300, .inr (.inr (.inr (.inr (fun _ => none)))))), (rv, .inl (cZ, 100, .inl (fun _ => 0))), (q_2, .inr (11, [.null, .null, .null, .int 0, .null, .null, .null, .null, .null, .null, .null, .null, .null, .null, .null, .null, .null, .null, .null, .null, .null, .null, .null, .null, .null, .null, .null, .null, .int 0, .null, .null, .null, .null, .null, .null, .null, .int 0, .null, .int 0, .int 0, .null, .null, .null, .null, .null, .null, .null, .null, .null, .int 0, .int 0, .int 0]))] ++ shW cI sa la ca)) [0, 1, 2, 3, 4, 5, 42, 6, 7, 8, 9, 10, 11, 12, 13, 14, 15, 16, 17, 18, 19, 20, 21, 22, 23, 24, 25, 26, 27, 28, 29, 30, 31, 32, 33, 34, 35, 36, 37, 38, 39, 40, 41] rfl
  have hD := hD.sub (ws' := ([(q_1, .inr (10, [.ref pg, .ref pl, .ref it, .int 0, .ref ac, .int 0, .ref rv, .int 0, .int 0])), (pg, .inl (cS, 12, .inr (.inr (.inr (.inr (fun j => some (sa j))))))), (pl, .inl (cS, 12, .inr (.inr (.inr (.inr (fun _ => none)))))), (it, .inl (cT, 80, .inr (.inr (.inr (.inr (fun _ => none)))))), (ac, .inl (cA, 300, .inr (.inr (.inr (.inr (fun _ => none)))))), (rv, .inl (cZ, 100, .inl (fun _ => 0))), (q_2, .inr (11, [.null, .null, .null, .int 0, .null, .null, .null, .null, .null, .null, .null, .null, .null, .null, .null, .null, .null, .null, .null, .null, .null, .null, .null, .null, .null, .null, .null, .null, .int 0, .null, .null, .null, .null, .null, .null, .null, .int 0, .null, .int 0, .int 0, .null, .null, .null, .null, .null, .null, .null, .null, .null, .int 0, .int 0, .int 0]))] ++ shW cI sa la ca)) [0, 1, 2, 3, 4, 5, 42, 6, 7, 8, 9, 10, 11, 12, 13, 14, 15, 16, 17, 18, 19, 20, 21, 22, 23, 24, 25, 26, 27, 28, 29, 30, 31, 32, 33, 34, 35, 36, 37, 38, 39, 40, 41] (by decide) rfl
  have hP : va_P (dC, dI) vwCl ([(q_1, .inr (10, [.ref pg, .ref pl, .ref it, .int 0, .ref ac, .int 0, .ref rv, .int 0, .int 0])), (pg, .inl (cS, 12, .inr (.inr (.inr (.inr (fun j => some (sa j))))))), (pl, .inl (cS, 12, .inr (.inr (.inr (.inr (fun _ => none)))))), (it, .inl (cT, 80, .inr (.inr (.inr (.inr (fun _ => none)))))), (ac, .inl (cA, 300, .inr (.inr (.inr (.inr (fun _ => none)))))), (rv, .inl (cZ, 100, .inl (fun _ => 0))), (q_2, .inr (11, [.null, .null, .null, .int 0, .null, .null, .null, .null, .null, .null, .null, .null, .null, .null, .null, .null, .null, .null, .null, .null, .null, .null, .null, .null, .null, .null, .null, .null, .int 0, .null, .null, .null, .null, .null, .null, .null, .int 0, .null, .int 0, .int 0, .null, .null, .null, .null, .null, .null, .null, .null, .null, .int 0, .int 0, .int 0]))] ++ shW cI sa la ca) H := hP
  have hD : va_D A ([(q_1, .inr (10, [.ref pg, .ref pl, .ref it, .int 0, .ref ac, .int 0, .ref rv, .int 0, .int 0])), (pg, .inl (cS, 12, .inr (.inr (.inr (.inr (fun j => some (sa j))))))), (pl, .inl (cS, 12, .inr (.inr (.inr (.inr (fun _ => none)))))), (it, .inl (cT, 80, .inr (.inr (.inr (.inr (fun _ => none)))))), (ac, .inl (cA, 300, .inr (.inr (.inr (.inr (fun _ => none)))))), (rv, .inl (cZ, 100, .inl (fun _ => 0))), (q_2, .inr (11, [.null, .null, .null, .int 0, .null, .null, .null, .null, .null, .null, .null, .null, .null, .null, .null, .null, .null, .null, .null, .null, .null, .null, .null, .null, .null, .null, .null, .null, .int 0, .null, .null, .null, .null, .null, .null, .null, .int 0, .null, .int 0, .int 0, .null, .null, .null, .null, .null, .null, .null, .null, .null, .int 0, .int 0, .int 0]))] ++ shW cI sa la ca) := hD
  refine W.widen (k := 43) (n := 6481) (Nat.le_of_ble_eq_true rfl) (Nat.le_of_ble_eq_true rfl) ?_
  refine lv_dup hx hb dL_law_11 rfl ?_
  have hPc := hP.sub (ws' := [(q_2, .inr (11, [.null, .null, .null, .int 0, .null, .null, .null, .null, .null, .null, .null, .null, .null, .null, .null, .null, .null, .null, .null, .null, .null, .null, .null, .null, .null, .null, .null, .null, .int 0, .null, .null, .null, .null, .null, .null, .null, .int 0, .null, .int 0, .int 0, .null, .null, .null, .null, .null, .null, .null, .null, .null, .int 0, .int 0, .int 0]))]) [6] rfl
  have hKc := hK.sub (tys' := [(cI, .int), (cZ, .boolean)]) [0, 1] rfl
  have hDc := hD.sub (ws' := [(q_2, .inr (11, [.null, .null, .null, .int 0, .null, .null, .null, .null, .null, .null, .null, .null, .null, .null, .null, .null, .null, .null, .null, .null, .null, .null, .null, .null, .null, .null, .null, .null, .int 0, .null, .null, .null, .null, .null, .null, .null, .int 0, .null, .int 0, .int 0, .null, .null, .null, .null, .null, .null, .null, .null, .null, .int 0, .int 0, .int 0]))]) [6] (by decide) rfl
  have hFc := va_free (wc := [(q_2, .inr (11, [.null, .null, .null, .int 0, .null, .null, .null, .null, .null, .null, .null, .null, .null, .null, .null, .null, .null, .null, .null, .null, .null, .null, .null, .null, .null, .null, .null, .null, .int 0, .null, .null, .null, .null, .null, .null, .null, .int 0, .null, .int 0, .int 0, .null, .null, .null, .null, .null, .null, .null, .null, .null, .int 0, .int 0, .int 0]))]) hD hS hA [6] rfl
  refine va_callv (va_runI (As := []) (rest := [.ref q_2]) ⟨hx, hb, hml, hown, hts⟩ (m_Model l dC dI q_2 cI cZ H.size) (cwI 0 hts gL_law_X12_init rfl rfl rfl (hts (.initialized RX12) (by decide +kernel)) (hts (.methodLink RL 12 yX12_init) (by decide +kernel)) (hts (.instanceMethod yX12_init) (by decide +kernel)) rfl (by decide +kernel) ⟨Nat.le_of_ble_eq_true rfl, Nat.le_of_ble_eq_true rfl⟩) ⟨gw_fb, fun U hU hW => ⟨rfl, by rw [hU], pw_to hU hW hPc hKc hN, hDc.weaken (fun _ _ _ _ => trivial)⟩⟩ rfl rfl hl.1 rfl (lv_room (Nat.le_of_ble_eq_true rfl)) dL_law_12 ⟨Nat.le_of_ble_eq_true rfl, Nat.le_of_ble_eq_true rfl⟩) hS (fun q _ h => hFc q h) hFc (fun u t H1 locs ht hvm hw hB hz1 hk1 hS => ?_)
  obtain ⟨v, g1, hP1, hD1⟩ := hB
  rw [ht] at hP1
  obtain ⟨hP, hD⟩ := va_join (wr := ([(q_1, .inr (10, [.ref pg, .ref pl, .ref it, .int 0, .ref ac, .int 0, .ref rv, .int 0, .int 0])), (pg, .inl (cS, 12, .inr (.inr (.inr (.inr (fun j => some (sa j))))))), (pl, .inl (cS, 12, .inr (.inr (.inr (.inr (fun _ => none)))))), (it, .inl (cT, 80, .inr (.inr (.inr (.inr (fun _ => none)))))), (ac, .inl (cA, 300, .inr (.inr (.inr (.inr (fun _ => none)))))), (rv, .inl (cZ, 100, .inl (fun _ => 0)))] ++ shW cI sa la ca)) (w1 := [(q_2, .inr (11, mO v 0 0 0 0 0 0 0 0)), ((v 0), .inl (cI, 96, .inl (fun _ => 0))), ((v 1), .inl (cI, 12, .inl g1)), ((v 2), .inl (cI, 5760, .inl (fun _ => (-2)))), ((v 4), .inl (cI, 80, .inl (fun _ => 0))), ((v 5), .inl (cI, 80, .inl (fun _ => 0))), ((v 6), .inl (cI, 80, .inl (fun _ => 0))), ((v 7), .inl (cI, 80, .inl (fun _ => 0))), ((v 8), .inl (cI, 80, .inl (fun _ => 0))), ((v 9), .inl (cI, 80, .inl (fun _ => 0))), ((v 10), .inl (cI, 80, .inl (fun _ => 0))), ((v 11), .inl (cI, 80, .inl (fun _ => 0))), ((v 12), .inl (cI, 80, .inl (fun _ => 0))), ((v 13), .inl (cI, 80, .inl (fun _ => 0))), ((v 14), .inl (cI, 80, .inl (fun _ => 0))), ((v 15), .inl (cI, 80, .inl (fun _ => 0))), ((v 17), .inl (cI, 80, .inl (fun _ => 0))), ((v 20), .inl (cZ, 100, .inl (fun _ => 0))), ((v 22), .inl (cI, 80, .inl (fun _ => 0))), ((v 40), .inl (cZ, 12, .inl (fun _ => 0)))]) hP hD [6] [0, 1, 2, 3, 4, 5, 7, 8, 9, 10, 11, 12, 13, 14, 15, 16, 17, 18, 19, 20, 21, 22, 23, 24, 25, 26, 27, 28, 29, 30, 31, 32, 33, 34, 35, 36, 37, 38, 39, 40, 41, 42] rfl rfl (by decide) (by decide) hk1 hFc hP1 hD1
  generalize H1 = H at hP hS ⊢
  have hP := hP.sub (ws' := ([(q_1, .inr (10, [.ref pg, .ref pl, .ref it, .int 0, .ref ac, .int 0, .ref rv, .int 0, .int 0])), (pg, .inl (cS, 12, .inr (.inr (.inr (.inr (fun j => some (sa j))))))), (pl, .inl (cS, 12, .inr (.inr (.inr (.inr (fun _ => none)))))), (it, .inl (cT, 80, .inr (.inr (.inr (.inr (fun _ => none)))))), (ac, .inl (cA, 300, .inr (.inr (.inr (.inr (fun _ => none)))))), (rv, .inl (cZ, 100, .inl (fun _ => 0))), (q_2, .inr (11, mO v 0 0 0 0 0 0 0 0)), ((v 0), .inl (cI, 96, .inl (fun _ => 0))), ((v 1), .inl (cI, 12, .inl g1)), ((v 2), .inl (cI, 5760, .inl (fun _ => (-2)))), ((v 4), .inl (cI, 80, .inl (fun _ => 0))), ((v 5), .inl (cI, 80, .inl (fun _ => 0))), ((v 6), .inl (cI, 80, .inl (fun _ => 0))), ((v 7), .inl (cI, 80, .inl (fun _ => 0))), ((v 8), .inl (cI, 80, .inl (fun _ => 0))), ((v 9), .inl (cI, 80, .inl (fun _ => 0))), ((v 10), .inl (cI, 80, .inl (fun _ => 0))), ((v 11), .inl (cI, 80, .inl (fun _ => 0))), ((v 12), .inl (cI, 80, .inl (fun _ => 0))), ((v 13), .inl (cI, 80, .inl (fun _ => 0))), ((v 14), .inl (cI, 80, .inl (fun _ => 0))), ((v 15), .inl (cI, 80, .inl (fun _ => 0))), ((v 17), .inl (cI, 80, .inl (fun _ => 0))), ((v 20), .inl (cZ, 100, .inl (fun _ => 0))), ((v 22), .inl (cI, 80, .inl (fun _ => 0))), ((v 40), .inl (cZ, 12, .inl (fun _ => 0)))] ++ shW cI sa la ca)) [0, 1, 2, 3, 4, 5, 42, 43, 44, 45, 46, 47, 48, 49, 50, 51, 52, 53, 54, 55, 56, 57, 58, 59, 60, 61, 6, 7, 8, 9, 10, 11, 12, 13, 14, 15, 16, 17, 18, 19, 20, 21, 22, 23, 24, 25, 26, 27, 28, 29, 30, 31, 32, 33, 34, 35, 36, 37, 38, 39, 40, 41] rfl
  have hD := hD.sub (ws' := ([(q_1, .inr (10, [.ref pg, .ref pl, .ref it, .int 0, .ref ac, .int 0, .ref rv, .int 0, .int 0])), (pg, .inl (cS, 12, .inr (.inr (.inr (.inr (fun j => some (sa j))))))), (pl, .inl (cS, 12, .inr (.inr (.inr (.inr (fun _ => none)))))), (it, .inl (cT, 80, .inr (.inr (.inr (.inr (fun _ => none)))))), (ac, .inl (cA, 300, .inr (.inr (.inr (.inr (fun _ => none)))))), (rv, .inl (cZ, 100, .inl (fun _ => 0))), (q_2, .inr (11, mO v 0 0 0 0 0 0 0 0)), ((v 0), .inl (cI, 96, .inl (fun _ => 0))), ((v 1), .inl (cI, 12, .inl g1)), ((v 2), .inl (cI, 5760, .inl (fun _ => (-2)))), ((v 4), .inl (cI, 80, .inl (fun _ => 0))), ((v 5), .inl (cI, 80, .inl (fun _ => 0))), ((v 6), .inl (cI, 80, .inl (fun _ => 0))), ((v 7), .inl (cI, 80, .inl (fun _ => 0))), ((v 8), .inl (cI, 80, .inl (fun _ => 0))), ((v 9), .inl (cI, 80, .inl (fun _ => 0))), ((v 10), .inl (cI, 80, .inl (fun _ => 0))), ((v 11), .inl (cI, 80, .inl (fun _ => 0))), ((v 12), .inl (cI, 80, .inl (fun _ => 0))), ((v 13), .inl (cI, 80, .inl (fun _ => 0))), ((v 14), .inl (cI, 80, .inl (fun _ => 0))), ((v 15), .inl (cI, 80, .inl (fun _ => 0))), ((v 17), .inl (cI, 80, .inl (fun _ => 0))), ((v 20), .inl (cZ, 100, .inl (fun _ => 0))), ((v 22), .inl (cI, 80, .inl (fun _ => 0))), ((v 40), .inl (cZ, 12, .inl (fun _ => 0)))] ++ shW cI sa la ca)) [0, 1, 2, 3, 4, 5, 42, 43, 44, 45, 46, 47, 48, 49, 50, 51, 52, 53, 54, 55, 56, 57, 58, 59, 60, 61, 6, 7, 8, 9, 10, 11, 12, 13, 14, 15, 16, 17, 18, 19, 20, 21, 22, 23, 24, 25, 26, 27, 28, 29, 30, 31, 32, 33, 34, 35, 36, 37, 38, 39, 40, 41] (by decide) rfl
  have hP : va_P (dC, dI) vwCl ([(q_1, .inr (10, [.ref pg, .ref pl, .ref it, .int 0, .ref ac, .int 0, .ref rv, .int 0, .int 0])), (pg, .inl (cS, 12, .inr (.inr (.inr (.inr (fun j => some (sa j))))))), (pl, .inl (cS, 12, .inr (.inr (.inr (.inr (fun _ => none)))))), (it, .inl (cT, 80, .inr (.inr (.inr (.inr (fun _ => none)))))), (ac, .inl (cA, 300, .inr (.inr (.inr (.inr (fun _ => none)))))), (rv, .inl (cZ, 100, .inl (fun _ => 0))), (q_2, .inr (11, mO v 0 0 0 0 0 0 0 0)), ((v 0), .inl (cI, 96, .inl (fun _ => 0))), ((v 1), .inl (cI, 12, .inl g1)), ((v 2), .inl (cI, 5760, .inl (fun _ => (-2)))), ((v 4), .inl (cI, 80, .inl (fun _ => 0))), ((v 5), .inl (cI, 80, .inl (fun _ => 0))), ((v 6), .inl (cI, 80, .inl (fun _ => 0))), ((v 7), .inl (cI, 80, .inl (fun _ => 0))), ((v 8), .inl (cI, 80, .inl (fun _ => 0))), ((v 9), .inl (cI, 80, .inl (fun _ => 0))), ((v 10), .inl (cI, 80, .inl (fun _ => 0))), ((v 11), .inl (cI, 80, .inl (fun _ => 0))), ((v 12), .inl (cI, 80, .inl (fun _ => 0))), ((v 13), .inl (cI, 80, .inl (fun _ => 0))), ((v 14), .inl (cI, 80, .inl (fun _ => 0))), ((v 15), .inl (cI, 80, .inl (fun _ => 0))), ((v 17), .inl (cI, 80, .inl (fun _ => 0))), ((v 20), .inl (cZ, 100, .inl (fun _ => 0))), ((v 22), .inl (cI, 80, .inl (fun _ => 0))), ((v 40), .inl (cZ, 12, .inl (fun _ => 0)))] ++ shW cI sa la ca) H := hP
  have hD : va_D A ([(q_1, .inr (10, [.ref pg, .ref pl, .ref it, .int 0, .ref ac, .int 0, .ref rv, .int 0, .int 0])), (pg, .inl (cS, 12, .inr (.inr (.inr (.inr (fun j => some (sa j))))))), (pl, .inl (cS, 12, .inr (.inr (.inr (.inr (fun _ => none)))))), (it, .inl (cT, 80, .inr (.inr (.inr (.inr (fun _ => none)))))), (ac, .inl (cA, 300, .inr (.inr (.inr (.inr (fun _ => none)))))), (rv, .inl (cZ, 100, .inl (fun _ => 0))), (q_2, .inr (11, mO v 0 0 0 0 0 0 0 0)), ((v 0), .inl (cI, 96, .inl (fun _ => 0))), ((v 1), .inl (cI, 12, .inl g1)), ((v 2), .inl (cI, 5760, .inl (fun _ => (-2)))), ((v 4), .inl (cI, 80, .inl (fun _ => 0))), ((v 5), .inl (cI, 80, .inl (fun _ => 0))), ((v 6), .inl (cI, 80, .inl (fun _ => 0))), ((v 7), .inl (cI, 80, .inl (fun _ => 0))), ((v 8), .inl (cI, 80, .inl (fun _ => 0))), ((v 9), .inl (cI, 80, .inl (fun _ => 0))), ((v 10), .inl (cI, 80, .inl (fun _ => 0))), ((v 11), .inl (cI, 80, .inl (fun _ => 0))), ((v 12), .inl (cI, 80, .inl (fun _ => 0))), ((v 13), .inl (cI, 80, .inl (fun _ => 0))), ((v 14), .inl (cI, 80, .inl (fun _ => 0))), ((v 15), .inl (cI, 80, .inl (fun _ => 0))), ((v 17), .inl (cI, 80, .inl (fun _ => 0))), ((v 20), .inl (cZ, 100, .inl (fun _ => 0))), ((v 22), .inl (cI, 80, .inl (fun _ => 0))), ((v 40), .inl (cZ, 12, .inl (fun _ => 0)))] ++ shW cI sa la ca) := hD
  refine W.widen (k := 87) (n := 66821) (Nat.le_of_ble_eq_true rfl) (Nat.le_of_ble_eq_true rfl) ?_
  refine lv_astore_n (lv' := [(2, .ref q_2), (1, .ref q_1), (0, .ref b)]) hx hb dL_law_15 rfl hl (by decide) rfl (fun ls hl => ?_)
  refine lv_iconst (v := 0) hx hb dL_law_16 (by decide) ?_
  refine lv_istore_n (lv' := [(3, .int 0), (2, .ref q_2), (1, .ref q_1), (0, .ref b)]) hx hb dL_law_17 rfl hl (by decide) rfl (fun ls hl => ?_)
  refine lv_iload_n hx hb dL_law_18 rfl (lv_at hl 0 rfl) ?_
  refine lv_aload_n hx hb dL_law_19 rfl (lv_at hl 3 rfl) ?_
  refine va_slen hx hb hX hbl hbA hS dL_law_20 ?_
  refine lv_bipush (v := 8) hx hb dL_law_21 (by decide) ?_
  refine lv_isub hx hb dL_law_23 ?_
  rcases Nat.lt_or_ge L 8 with hlt | hge
  · refine lv_icmp_gt (tgt := 1188) hx hb dL_law_24 (by decide) (fun _ => ?_) (fun c_1 => absurd (len_lt hlt) c_1)
    exact law_end C0 hAe hS (Nat.le_of_ble_eq_true rfl) (Nat.le_of_ble_eq_true rfl)
  · obtain rfl : L = 8 := by omega
    refine lv_icmp_gt (tgt := 1188) hx hb dL_law_24 (by decide) (fun c_1 => absurd c_1 (by decide)) (fun _ => ?_)
    refine lv_aload_n hx hb dL_law_27 rfl (lv_at hl 3 rfl) ?_
    refine lv_iload_n hx hb dL_law_28 rfl (lv_at hl 0 rfl) ?_
    refine va_sld hx hb hX hbl hbA hS (by unfold vp_in; decide) dL_law_29 ?_
    refine lv_bipush (v := 31) hx hb dL_law_30 (by decide) ?_
    refine lv_iand hx hb dL_law_32 ?_
    refine lv_topi (fun y ey => ?_)
    obtain ⟨j, hj, ej⟩ := pk_andE (xs (0 : Int32).toNatClampNeg) (m := 31) 5 rfl
    obtain rfl : y = nI j := ey.trans ej
    have hl : lv_has ls 4 [(3, .int 0), (2, .ref q_2), (1, .ref q_1), (0, .ref b)] := lv_sub hl [0, 1, 2, 3] rfl
    match j, (show j < 32 from hj) with
    | 0, _ =>
      refine lv_tableIn (tgt := 168) (off := 135) hx hb dL_law_33 (by decide) (by decide) (by decide) (by decide) ?_
      exact law_c0 C0 hAe hN hK hP hD hS hl
    | 1, _ =>
      refine lv_tableIn (tgt := 211) (off := 178) hx hb dL_law_33 (by decide) (by decide) (by decide) (by decide) ?_
      exact law_c1 C0 hAe hN hK hP hD hS hl
    | 2, _ =>
      refine lv_tableIn (tgt := 244) (off := 211) hx hb dL_law_33 (by decide) (by decide) (by decide) (by decide) ?_
      exact law_c2 C0 hAe hN hK hP hD hS hl
    | 3, _ =>
      refine lv_tableIn (tgt := 267) (off := 234) hx hb dL_law_33 (by decide) (by decide) (by decide) (by decide) ?_
      exact law_c3 C0 hAe hN hK hP hD hS hl
    | 4, _ =>
      refine lv_tableIn (tgt := 300) (off := 267) hx hb dL_law_33 (by decide) (by decide) (by decide) (by decide) ?_
      exact law_c4 C0 hAe hN hK hP hD hS hl
    | 5, _ =>
      refine lv_tableIn (tgt := 343) (off := 310) hx hb dL_law_33 (by decide) (by decide) (by decide) (by decide) ?_
      exact law_c5 C0 hAe hN hK hP hD hS hl
    | 6, _ =>
      refine lv_tableIn (tgt := 356) (off := 323) hx hb dL_law_33 (by decide) (by decide) (by decide) (by decide) ?_
      exact law_c6 C0 hAe hN hK hP hD hS hl
    | 7, _ =>
      refine lv_tableIn (tgt := 399) (off := 366) hx hb dL_law_33 (by decide) (by decide) (by decide) (by decide) ?_
      exact law_c7 C0 hAe hN hK hP hD hS hl
    | 8, _ =>
      refine lv_tableIn (tgt := 486) (off := 453) hx hb dL_law_33 (by decide) (by decide) (by decide) (by decide) ?_
      exact law_c8 C0 hAe hN hK hP hD hS hl
    | 9, _ =>
      refine lv_tableIn (tgt := 519) (off := 486) hx hb dL_law_33 (by decide) (by decide) (by decide) (by decide) ?_
      exact law_c9 C0 hAe hN hK hP hD hS hl
    | 10, _ =>
      refine lv_tableIn (tgt := 552) (off := 519) hx hb dL_law_33 (by decide) (by decide) (by decide) (by decide) ?_
      exact law_c10 C0 hAe hN hK hP hD hS hl
    | 11, _ =>
      refine lv_tableIn (tgt := 585) (off := 552) hx hb dL_law_33 (by decide) (by decide) (by decide) (by decide) ?_
      exact law_c11 C0 hAe hN hK hP hD hS hl
    | 12, _ =>
      refine lv_tableIn (tgt := 618) (off := 585) hx hb dL_law_33 (by decide) (by decide) (by decide) (by decide) ?_
      exact law_c12 C0 hAe hN hK hP hD hS hl
    | 13, _ =>
      refine lv_tableIn (tgt := 681) (off := 648) hx hb dL_law_33 (by decide) (by decide) (by decide) (by decide) ?_
      exact law_c13 C0 hAe hN hK hP hD hS hl
    | 14, _ =>
      refine lv_tableIn (tgt := 704) (off := 671) hx hb dL_law_33 (by decide) (by decide) (by decide) (by decide) ?_
      exact law_c14 C0 hAe hN hK hP hD hS hl
    | 15, _ =>
      refine lv_tableIn (tgt := 747) (off := 714) hx hb dL_law_33 (by decide) (by decide) (by decide) (by decide) ?_
      exact law_c15 C0 hAe hN hK hP hD hS hl
    | 16, _ =>
      refine lv_tableIn (tgt := 770) (off := 737) hx hb dL_law_33 (by decide) (by decide) (by decide) (by decide) ?_
      exact law_c16 C0 hAe hN hK hP hD hS hl
    | 17, _ =>
      refine lv_tableIn (tgt := 783) (off := 750) hx hb dL_law_33 (by decide) (by decide) (by decide) (by decide) ?_
      exact law_c17 C0 hAe hN hK hP hD hS hl
    | 18, _ =>
      refine lv_tableIn (tgt := 806) (off := 773) hx hb dL_law_33 (by decide) (by decide) (by decide) (by decide) ?_
      exact law_c18 C0 hAe hN hK hP hD hS hl
    | 19, _ =>
      refine lv_tableIn (tgt := 819) (off := 786) hx hb dL_law_33 (by decide) (by decide) (by decide) (by decide) ?_
      exact law_c19 C0 hAe hN hK hP hD hS hl
    | 20, _ =>
      refine lv_tableIn (tgt := 832) (off := 799) hx hb dL_law_33 (by decide) (by decide) (by decide) (by decide) ?_
      exact law_c20 C0 hAe hN hK hP hD hS hl
    | 21, _ =>
      refine lv_tableIn (tgt := 875) (off := 842) hx hb dL_law_33 (by decide) (by decide) (by decide) (by decide) ?_
      exact law_c21 C0 hAe hN hK hP hD hS hl
    | 22, _ =>
      refine lv_tableIn (tgt := 918) (off := 885) hx hb dL_law_33 (by decide) (by decide) (by decide) (by decide) ?_
      exact law_c22 C0 hAe hN hK hP hD hS hl
    | 23, _ =>
      refine lv_tableIn (tgt := 951) (off := 918) hx hb dL_law_33 (by decide) (by decide) (by decide) (by decide) ?_
      exact law_c23 C0 hAe hN hK hP hD hS hl
    | 24, _ =>
      refine lv_tableIn (tgt := 984) (off := 951) hx hb dL_law_33 (by decide) (by decide) (by decide) (by decide) ?_
      exact law_c24 C0 hAe hN hK hP hD hS hl
    | 25, _ =>
      refine lv_tableIn (tgt := 1017) (off := 984) hx hb dL_law_33 (by decide) (by decide) (by decide) (by decide) ?_
      exact law_c25 C0 hAe hN hK hP hD hS hl
    | 26, _ =>
      refine lv_tableIn (tgt := 1050) (off := 1017) hx hb dL_law_33 (by decide) (by decide) (by decide) (by decide) ?_
      exact law_c26 C0 hAe hN hK hP hD hS hl
    | 27, _ =>
      refine lv_tableIn (tgt := 1093) (off := 1060) hx hb dL_law_33 (by decide) (by decide) (by decide) (by decide) ?_
      exact law_c27 C0 hAe hN hK hP hD hS hl
    | 28, _ =>
      refine lv_tableIn (tgt := 1126) (off := 1093) hx hb dL_law_33 (by decide) (by decide) (by decide) (by decide) ?_
      exact law_c28 C0 hAe hN hK hP hD hS hl
    | 29, _ =>
      refine lv_tableIn (tgt := 1159) (off := 1126) hx hb dL_law_33 (by decide) (by decide) (by decide) (by decide) ?_
      exact law_c29 C0 hAe hN hK hP hD hS hl
    | 30, _ =>
      refine lv_tableOut (tgt := 1182) hx hb dL_law_33 (by decide) (by decide) ?_
      exact law_tail C0 hAe hS (lv_sub hl [0, 3] rfl) (Nat.le_of_ble_eq_true rfl) (Nat.le_of_ble_eq_true rfl)
    | 31, _ =>
      refine lv_tableOut (tgt := 1182) hx hb dL_law_33 (by decide) (by decide) ?_
      exact law_tail C0 hAe hS (lv_sub hl [0, 3] rfl) (Nat.le_of_ble_eq_true rfl) (Nat.le_of_ble_eq_true rfl)
    | j + 32, h => exact absurd h (by omega)
