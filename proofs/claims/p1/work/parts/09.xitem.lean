set_option maxHeartbeats 4000000 in
set_option maxRecDepth 100000 in
theorem x_Item_Story (l : Launch) (dC : Nat → ClassId) (dI : Nat → Nat → Nat) (h0 : Nat) (cI : ClassId) (p0 : Int32) (sz : Nat) : Met l yX4_init wsX4_init ({ frames := 1, cells := 2, slots := 11, locals := 23 }) (va_Pc [.ref h0, .int p0, .int 0, .int 6] (fun U => U.heap.size = sz ∧ PW dC dI [(h0, .inr (9, [.int 0, .int 0, .null, .int 0, .null, .int 0, .null, .int 0, .null]))] [(cI, .int)] U ∧ va_D (fun _ => True) [(h0, .inr (9, [.int 0, .int 0, .null, .int 0, .null, .int 0, .null, .int 0, .null]))])) (va_Qv (fun _ : Unit => True) (fun _ t => ∃ q1 q2 : Nat, va_P (dC, dI) vwCl [(h0, .inr (9, [.int p0, .int 0, .ref q2, .int 0, .ref q1, .int 0, .null, .int 0, .null]))] t.heap ∧ va_D (va_A [(h0, .inr (9, [.int 0, .int 0, .null, .int 0, .null, .int 0, .null, .int 0, .null]))] sz) [(h0, .inr (9, [.int p0, .int 0, .ref q2, .int 0, .ref q1, .int 0, .null, .int 0, .null]))]) (va_A [(h0, .inr (9, [.int 0, .int 0, .null, .int 0, .null, .int 0, .null, .int 0, .null]))] sz)) 2 11 (va_A [(h0, .inr (9, [.int 0, .int 0, .null, .int 0, .null, .int 0, .null, .int 0, .null]))] sz) := by
  refine Met.ofW (cc := cX4_init) (maxL := 4) (ret := none) (by decide) rfl ?_
  intro p e s m args below meth c s₁ B hml hv
  obtain ⟨rfl, hsz, ⟨hP, hK, hN⟩, hD0⟩ := hv
  have hx := B.exec
  have hb := B.bytes
  have hr := B.returns
  have hts := atoms_spec (ws := wsX4_init) B.pre
  have hown : s.vm.findClass RX4 = some m.cls := findClass_of_methodNamed B.named
  have hlocks := B.notSynchronized
  have hin : meth.name = "<init>" := (name_of_methodNamed B.named B.method).1
  subst hsz
  have hD := hD0.self (sz := s.heap.size)
  generalize hAe : va_A [(h0, .inr (9, [.int 0, .int 0, .null, .int 0, .null, .int 0, .null, .int 0, .null]))] s.heap.size = A at hD ⊢
  have hA : ∀ q : Nat, s.heap.size ≤ q → A q := fun q h => by rw [← hAe]; exact Or.inr h
  have hS : va_S A s.heap s.heap [] := va_S.rf
  have hP : va_P (dC, dI) vwCl [(h0, .inr (9, [.int 0, .int 0, .null, .int 0, .null, .int 0, .null, .int 0, .null]))] s.heap := hP
  have hl := lv_entry ([.ref h0, .int p0, .int 0, .int 6]) (n := 4) (Nat.le_of_ble_eq_true rfl)
  rw [lg_entry_eq]
  generalize (lg_sl ([.ref h0, .int p0, .int 0, .int 6]) ++ List.replicate (4 - (lg_sl ([.ref h0, .int p0, .int 0, .int 6])).length) Slot.unset).toArray = ls at hl ⊢
  have hl : lv_has ls 4 [(0, .ref h0), (1, .int p0), (2, .int 0), (3, .int 6)] := hl
  refine lv_aload_n hx hb dX4_init_0 rfl (lv_at hl 0 rfl) ?_
  refine W.objInit hx hb hown (hts (.methodLink RX4 3 objectInit) (by decide +kernel)) (hts (.instanceMethod objectInit) (by decide +kernel)) (hts (.code objectInit ⟨#[0xb1]⟩ 1 none) (by decide +kernel)) rfl (by rw [hml]; exact hl.1) rfl dX4_init_1 (Nat.le_of_ble_eq_true rfl) (Nat.le_of_ble_eq_true rfl) ?_
  refine W.eq (g2 := F0 m 4 ls []) rfl ?_
  refine lv_aload_n hx hb dX4_init_4 rfl (lv_at hl 0 rfl) ?_
  refine lv_iconst (v := 0) hx hb dX4_init_5 (by decide) ?_
  refine va_put (D := (dC, dI)) (ci := 9) (v := .int 0) (ty := .int) (C := RX10) (T := TX10) (N := 9) hx hb hts (by decide +kernel) tyX10 tyX10_ok nmX10 hown hK hP hD hS 0 rfl rfl 3 (by decide) (hts (.fieldLink RX4 9 "PageOne$Item" "count" "I") (by decide +kernel)) (fun _ h9 => h9) rfl (by decide +kernel) rfl rfl (Nat.le_of_ble_eq_true rfl) dX4_init_6 (fun H locs hP hD hS => ?_)
  have hP : va_P (dC, dI) vwCl [(h0, .inr (9, [.int 0, .int 0, .null, .int 0, .null, .int 0, .null, .int 0, .null]))] H := hP
  have hD : va_D A [(h0, .inr (9, [.int 0, .int 0, .null, .int 0, .null, .int 0, .null, .int 0, .null]))] := hD
  refine lv_aload_n hx hb dX4_init_9 rfl (lv_at hl 0 rfl) ?_
  refine lv_iconst (v := 5) hx hb dX4_init_10 (by decide) ?_
  refine va_newa (atype := .int) (ty := .int) (a0 := (5, .inl (fun _ => 0))) (N' := 5) hx hb (hts (.arrayClass .int) (by decide +kernel)) rfl hK hP hD hS hA (newI 5) (by decide) (by decide) (nbI (Nat.le_of_ble_eq_true rfl)) (Nat.le_of_ble_eq_true rfl) (Nat.le_of_ble_eq_true rfl) dX4_init_11 (fun q_1 cA_2 H hK hP hD hS => ?_)
  obtain rfl : cI = cA_2 := kuniq hK 0 1 rfl rfl
  have hK := hK.sub (tys' := [(cI, .int)]) [0] rfl
  have hK : va_K (dC, dI) vwCl [(cI, .int)] s := hK
  have hP : va_P (dC, dI) vwCl [(h0, .inr (9, [.int 0, .int 0, .null, .int 0, .null, .int 0, .null, .int 0, .null])), (q_1, .inl (cI, 5, .inl (fun _ => 0)))] H := hP
  have hD : va_D A [(h0, .inr (9, [.int 0, .int 0, .null, .int 0, .null, .int 0, .null, .int 0, .null])), (q_1, .inl (cI, 5, .inl (fun _ => 0)))] := hD
  refine W.widen (k := 1) (n := 5) (Nat.le_of_ble_eq_true rfl) (Nat.le_of_ble_eq_true rfl) ?_
  refine va_putF (D := (dC, dI)) (ci := 9) (v := .ref q_1) (ty := .array .int) (C := RX10) (T := TX10) (N := 9) hx hb hts (by decide +kernel) tyX10 tyX10_ok nmX10 hown hK hP hD hS 0 rfl rfl 4 (by decide) (hts (.fieldLink RX4 15 "PageOne$Item" "first" "[I") (by decide +kernel)) (fun _ h9 => h9) rfl hin rfl (by decide +kernel) rfl rfl (Nat.le_of_ble_eq_true rfl) dX4_init_13 (fun H locs hP hD hS => ?_)
  have hP : va_P (dC, dI) vwCl [(h0, .inr (9, [.int 0, .int 0, .null, .int 0, .ref q_1, .int 0, .null, .int 0, .null])), (q_1, .inl (cI, 5, .inl (fun _ => 0)))] H := hP
  have hD : va_D A [(h0, .inr (9, [.int 0, .int 0, .null, .int 0, .ref q_1, .int 0, .null, .int 0, .null])), (q_1, .inl (cI, 5, .inl (fun _ => 0)))] := hD
  refine lv_aload_n hx hb dX4_init_16 rfl (lv_at hl 0 rfl) ?_
  refine lv_iload_n hx hb dX4_init_17 rfl (lv_at hl 1 rfl) ?_
  refine va_putF (D := (dC, dI)) (ci := 9) (v := .int p0) (ty := .int) (C := RX10) (T := TX10) (N := 9) hx hb hts (by decide +kernel) tyX10 tyX10_ok nmX10 hown hK hP hD hS 0 rfl rfl 0 (by decide) (hts (.fieldLink RX4 19 "PageOne$Item" "number" "I") (by decide +kernel)) (fun _ h9 => h9) rfl hin rfl (by decide +kernel) rfl rfl (Nat.le_of_ble_eq_true rfl) dX4_init_18 (fun H locs hP hD hS => ?_)
  have hP : va_P (dC, dI) vwCl [(h0, .inr (9, [.int p0, .int 0, .null, .int 0, .ref q_1, .int 0, .null, .int 0, .null])), (q_1, .inl (cI, 5, .inl (fun _ => 0)))] H := hP
  have hD : va_D A [(h0, .inr (9, [.int p0, .int 0, .null, .int 0, .ref q_1, .int 0, .null, .int 0, .null])), (q_1, .inl (cI, 5, .inl (fun _ => 0)))] := hD
  refine lv_aload_n hx hb dX4_init_21 rfl (lv_at hl 0 rfl) ?_
  refine lv_iload_n hx hb dX4_init_22 rfl (lv_at hl 2 rfl) ?_
  refine va_putF (D := (dC, dI)) (ci := 9) (v := .int 0) (ty := .int) (C := RX10) (T := TX10) (N := 9) hx hb hts (by decide +kernel) tyX10 tyX10_ok nmX10 hown hK hP hD hS 0 rfl rfl 1 (by decide) (hts (.fieldLink RX4 22 "PageOne$Item" "kind" "I") (by decide +kernel)) (fun _ h9 => h9) rfl hin rfl (by decide +kernel) rfl rfl (Nat.le_of_ble_eq_true rfl) dX4_init_23 (fun H locs hP hD hS => ?_)
  have hP : va_P (dC, dI) vwCl [(h0, .inr (9, [.int p0, .int 0, .null, .int 0, .ref q_1, .int 0, .null, .int 0, .null])), (q_1, .inl (cI, 5, .inl (fun _ => 0)))] H := hP
  have hD : va_D A [(h0, .inr (9, [.int p0, .int 0, .null, .int 0, .ref q_1, .int 0, .null, .int 0, .null])), (q_1, .inl (cI, 5, .inl (fun _ => 0)))] := hD
  refine lv_aload_n hx hb dX4_init_26 rfl (lv_at hl 0 rfl) ?_
  refine lv_iload_n hx hb dX4_init_27 rfl (lv_at hl 3 rfl) ?_
  refine lv_iconst (v := 1) hx hb dX4_init_28 (by decide) ?_
  refine lv_bipush (v := 6) hx hb dX4_init_29 (by decide) ?_
  have hPc := hP.sub (ws' := []) [] rfl
  have hKc := hK.sub (tys' := []) [] rfl
  refine vp_callSi (va_runSN (As := [.int 6, .int 1, .int 6]) (rest := [.ref h0]) ⟨hx, hb, hml, hown, hts⟩ (x_isWithin l dC dI 6 1 6) ⟨va_cnB (host := "PageOne") 3 hts gX4_init_X11_isWithin_n25 rfl rfl rfl hN.n_RX4_25 (hts (.initialized RX11) (by decide +kernel)) (by decide +kernel) ⟨Nat.le_of_ble_eq_true rfl, Nat.le_of_ble_eq_true rfl⟩, hts (.static yX11_isWithin) (by decide +kernel), trivial⟩ ⟨pw_fb, fun U hU hW => ⟨rfl, pw_to hU hW hPc hKc hN⟩⟩ rfl rfl hl.1 rfl (lv_room (Nat.le_of_ble_eq_true rfl)) dX4_init_31 ⟨Nat.le_of_ble_eq_true rfl, Nat.le_of_ble_eq_true rfl⟩).run (fun r hw => ?_)
  obtain rfl : r = 1 := hw.trans (by decide)
  refine lv_if_eq (tgt := 41) hx hb dX4_init_34 (by decide) (fun c_3 => absurd c_3 (by decide)) (fun c_3 => ?_)
  refine lv_iload_n hx hb dX4_init_37 rfl (lv_at hl 3 rfl) ?_
  refine lv_goto (tgt := 42) hx hb dX4_init_38 (by decide) ?_
  refine va_newq (N' := 6) (C := RX8) hx hb hown (hts (.classLink RX4 29 RX8) (by decide +kernel)) hN.ao_Piece hK hP hD hS hA (by decide) (by decide) (by decide) (Nat.le_of_ble_eq_true rfl) (Nat.le_of_ble_eq_true rfl) dX4_init_42 (fun q_4 cA_5 H hK hP hD hS => ?_)
  have hK : va_K (dC, dI) vwCl [(cI, .int), (cA_5, .object "PageOne$Piece")] s := hK
  have hP : va_P (dC, dI) vwCl [(h0, .inr (9, [.int p0, .int 0, .null, .int 0, .ref q_1, .int 0, .null, .int 0, .null])), (q_1, .inl (cI, 5, .inl (fun _ => 0))), (q_4, .inl (cA_5, 6, .inr (.inr (.inr (.inr (fun _ => none))))))] H := hP
  have hD : va_D A [(h0, .inr (9, [.int p0, .int 0, .null, .int 0, .ref q_1, .int 0, .null, .int 0, .null])), (q_1, .inl (cI, 5, .inl (fun _ => 0))), (q_4, .inl (cA_5, 6, .inr (.inr (.inr (.inr (fun _ => none))))))] := hD
  refine W.widen (k := 2) (n := 11) (Nat.le_of_ble_eq_true rfl) (Nat.le_of_ble_eq_true rfl) ?_
  refine va_putF (D := (dC, dI)) (ci := 9) (v := .ref q_4) (ty := .array (.object "PageOne$Piece")) (C := RX10) (T := TX10) (N := 9) hx hb hts (by decide +kernel) tyX10 tyX10_ok nmX10 hown hK hP hD hS 0 rfl rfl 2 (by decide) (hts (.fieldLink RX4 31 "PageOne$Item" "pieces" "[LPageOne$Piece;") (by decide +kernel)) (fun _ h9 => h9) rfl hin rfl (by decide +kernel) rfl rfl (Nat.le_of_ble_eq_true rfl) dX4_init_45 (fun H locs hP hD hS => ?_)
  have hP : va_P (dC, dI) vwCl [(h0, .inr (9, [.int p0, .int 0, .ref q_4, .int 0, .ref q_1, .int 0, .null, .int 0, .null])), (q_1, .inl (cI, 5, .inl (fun _ => 0))), (q_4, .inl (cA_5, 6, .inr (.inr (.inr (.inr (fun _ => none))))))] H := hP
  have hD : va_D A [(h0, .inr (9, [.int p0, .int 0, .ref q_4, .int 0, .ref q_1, .int 0, .null, .int 0, .null])), (q_1, .inl (cI, 5, .inl (fun _ => 0))), (q_4, .inl (cA_5, 6, .inr (.inr (.inr (.inr (fun _ => none))))))] := hD
  refine lv_aload_n hx hb dX4_init_48 rfl (lv_at hl 0 rfl) ?_
  refine va_get (D := (dC, dI)) (ci := 9) (v := .ref q_1) (C := RX10) (T := TX10) (N := 9) hx hb hts (by decide +kernel) hown hK hP 0 rfl rfl 4 (by decide) (hts (.fieldLink RX4 15 "PageOne$Item" "first" "[I") (by decide +kernel)) (fun _ h9 => h9) rfl dX4_init_49 ?_
  refine lv_iconst (v := (-1)) hx hb dX4_init_52 (by decide) ?_
  have hPc := hP.sub (ws' := [(q_1, .inl (cI, 5, .inl (fun _ => 0)))]) [1] rfl
  have hKc := hK.sub (tys' := [(cI, .int)]) [0] rfl
  have hDc := hD.sub (ws' := [(q_1, .inl (cI, 5, .inl (fun _ => 0)))]) [1] (by decide) rfl
  have hFc := va_free (wc := [(q_1, .inl (cI, 5, .inl (fun _ => 0)))]) hD hS hA [1] rfl
  refine va_callv (va_runS (As := [.ref q_1, .int (-1)]) (rest := []) ⟨hx, hb, hml, hown, hts⟩ (j_fill l dC dI q_1 cI 5 (fun _ => 0) (-1) (by decide) H.size) (va_cwS 2 hts gX4_init_J7_fill_53178 rfl rfl rfl (by decide +kernel) ⟨Nat.le_of_ble_eq_true rfl, Nat.le_of_ble_eq_true rfl⟩) ⟨gw_fb, fun U hU hW => ⟨rfl, by rw [hU], pw_to hU hW hPc hKc hN, hDc.weaken (fun _ _ _ _ => trivial)⟩⟩ rfl rfl hl.1 rfl (lv_room (Nat.le_of_ble_eq_true rfl)) dX4_init_53 ⟨Nat.le_of_ble_eq_true rfl, Nat.le_of_ble_eq_true rfl⟩) hS (fun q _ h => hFc q h) hFc (fun u t H1 locs ht hvm hw hB hz1 hk1 hS => ?_)
  obtain ⟨hP1, hD1⟩ := hB
  rw [ht] at hP1
  obtain ⟨hP, hD⟩ := va_join (wr := [(h0, .inr (9, [.int p0, .int 0, .ref q_4, .int 0, .ref q_1, .int 0, .null, .int 0, .null])), (q_4, .inl (cA_5, 6, .inr (.inr (.inr (.inr (fun _ => none))))))]) (w1 := [(q_1, .inl (cI, 5, .inl (fun _ => (-1))))]) hP hD [1] [0, 2] rfl rfl (by decide) (by decide) hk1 hFc hP1 hD1
  generalize H1 = H at hP hS ⊢
  have hP : va_P (dC, dI) vwCl [(h0, .inr (9, [.int p0, .int 0, .ref q_4, .int 0, .ref q_1, .int 0, .null, .int 0, .null])), (q_4, .inl (cA_5, 6, .inr (.inr (.inr (.inr (fun _ => none)))))), (q_1, .inl (cI, 5, .inl (fun _ => (-1))))] H := hP
  have hD : va_D A [(h0, .inr (9, [.int p0, .int 0, .ref q_4, .int 0, .ref q_1, .int 0, .null, .int 0, .null])), (q_4, .inl (cA_5, 6, .inr (.inr (.inr (.inr (fun _ => none)))))), (q_1, .inl (cI, 5, .inl (fun _ => (-1))))] := hD
  refine W.widen (k := 2) (n := 11) (Nat.le_of_ble_eq_true rfl) (Nat.le_of_ble_eq_true rfl) ?_
  exact W.vret hx hb hr (fun t ht hW => ⟨⟨(), rfl, trivial, ⟨q_1, q_4, by rw [ht]; exact hP.sub [0] rfl, hD.sub [0] (by decide) rfl⟩⟩, hS.F ht⟩) hS.2.2 dX4_init_56
set_option maxHeartbeats 4000000 in
set_option maxRecDepth 100000 in
theorem x_Item_Picture (l : Launch) (dC : Nat → ClassId) (dI : Nat → Nat → Nat) (h0 : Nat) (cI : ClassId) (p0 : Int32) (sz : Nat) : Met l yX4_init wsX4_init ({ frames := 1, cells := 2, slots := 6, locals := 23 }) (va_Pc [.ref h0, .int p0, .int 2, .int 1] (fun U => U.heap.size = sz ∧ PW dC dI [(h0, .inr (6, [.int 0, .int 0, .null, .int 0, .null, .null, .null, .int 0]))] [(cI, .int)] U ∧ va_D (fun _ => True) [(h0, .inr (6, [.int 0, .int 0, .null, .int 0, .null, .null, .null, .int 0]))])) (va_Qv (fun _ : Unit => True) (fun _ t => ∃ q1 q2 : Nat, va_P (dC, dI) vwCl [(h0, .inr (6, [.int p0, .int 2, .ref q2, .int 0, .ref q1, .null, .null, .int 0]))] t.heap ∧ va_D (va_A [(h0, .inr (6, [.int 0, .int 0, .null, .int 0, .null, .null, .null, .int 0]))] sz) [(h0, .inr (6, [.int p0, .int 2, .ref q2, .int 0, .ref q1, .null, .null, .int 0]))]) (va_A [(h0, .inr (6, [.int 0, .int 0, .null, .int 0, .null, .null, .null, .int 0]))] sz)) 2 6 (va_A [(h0, .inr (6, [.int 0, .int 0, .null, .int 0, .null, .null, .null, .int 0]))] sz) := by
  refine Met.ofW (cc := cX4_init) (maxL := 4) (ret := none) (by decide) rfl ?_
  intro p e s m args below meth c s₁ B hml hv
  obtain ⟨rfl, hsz, ⟨hP, hK, hN⟩, hD0⟩ := hv
  have hx := B.exec
  have hb := B.bytes
  have hr := B.returns
  have hts := atoms_spec (ws := wsX4_init) B.pre
  have hown : s.vm.findClass RX4 = some m.cls := findClass_of_methodNamed B.named
  have hlocks := B.notSynchronized
  have hin : meth.name = "<init>" := (name_of_methodNamed B.named B.method).1
  subst hsz
  have hD := hD0.self (sz := s.heap.size)
  generalize hAe : va_A [(h0, .inr (6, [.int 0, .int 0, .null, .int 0, .null, .null, .null, .int 0]))] s.heap.size = A at hD ⊢
  have hA : ∀ q : Nat, s.heap.size ≤ q → A q := fun q h => by rw [← hAe]; exact Or.inr h
  have hS : va_S A s.heap s.heap [] := va_S.rf
  have hP : va_P (dC, dI) vwCl [(h0, .inr (6, [.int 0, .int 0, .null, .int 0, .null, .null, .null, .int 0]))] s.heap := hP
  have hl := lv_entry ([.ref h0, .int p0, .int 2, .int 1]) (n := 4) (Nat.le_of_ble_eq_true rfl)
  rw [lg_entry_eq]
  generalize (lg_sl ([.ref h0, .int p0, .int 2, .int 1]) ++ List.replicate (4 - (lg_sl ([.ref h0, .int p0, .int 2, .int 1])).length) Slot.unset).toArray = ls at hl ⊢
  have hl : lv_has ls 4 [(0, .ref h0), (1, .int p0), (2, .int 2), (3, .int 1)] := hl
  refine lv_aload_n hx hb dX4_init_0 rfl (lv_at hl 0 rfl) ?_
  refine W.objInit hx hb hown (hts (.methodLink RX4 3 objectInit) (by decide +kernel)) (hts (.instanceMethod objectInit) (by decide +kernel)) (hts (.code objectInit ⟨#[0xb1]⟩ 1 none) (by decide +kernel)) rfl (by rw [hml]; exact hl.1) rfl dX4_init_1 (Nat.le_of_ble_eq_true rfl) (Nat.le_of_ble_eq_true rfl) ?_
  refine W.eq (g2 := F0 m 4 ls []) rfl ?_
  refine lv_aload_n hx hb dX4_init_4 rfl (lv_at hl 0 rfl) ?_
  refine lv_iconst (v := 0) hx hb dX4_init_5 (by decide) ?_
  refine va_put (D := (dC, dI)) (ci := 6) (v := .int 0) (ty := .int) (C := RX7) (T := TX7) (N := 8) hx hb hts (by decide +kernel) tyX7 tyX7_ok nmX7 hown hK hP hD hS 0 rfl rfl 3 (by decide) (hts (.fieldLink RX4 9 "PageOne$Item" "count" "I") (by decide +kernel)) (fun _ h9 => h9) rfl (by decide +kernel) rfl rfl (Nat.le_of_ble_eq_true rfl) dX4_init_6 (fun H locs hP hD hS => ?_)
  have hP : va_P (dC, dI) vwCl [(h0, .inr (6, [.int 0, .int 0, .null, .int 0, .null, .null, .null, .int 0]))] H := hP
  have hD : va_D A [(h0, .inr (6, [.int 0, .int 0, .null, .int 0, .null, .null, .null, .int 0]))] := hD
  refine lv_aload_n hx hb dX4_init_9 rfl (lv_at hl 0 rfl) ?_
  refine lv_iconst (v := 5) hx hb dX4_init_10 (by decide) ?_
  refine va_newa (atype := .int) (ty := .int) (a0 := (5, .inl (fun _ => 0))) (N' := 5) hx hb (hts (.arrayClass .int) (by decide +kernel)) rfl hK hP hD hS hA (newI 5) (by decide) (by decide) (nbI (Nat.le_of_ble_eq_true rfl)) (Nat.le_of_ble_eq_true rfl) (Nat.le_of_ble_eq_true rfl) dX4_init_11 (fun q_1 cA_2 H hK hP hD hS => ?_)
  obtain rfl : cI = cA_2 := kuniq hK 0 1 rfl rfl
  have hK := hK.sub (tys' := [(cI, .int)]) [0] rfl
  have hK : va_K (dC, dI) vwCl [(cI, .int)] s := hK
  have hP : va_P (dC, dI) vwCl [(h0, .inr (6, [.int 0, .int 0, .null, .int 0, .null, .null, .null, .int 0])), (q_1, .inl (cI, 5, .inl (fun _ => 0)))] H := hP
  have hD : va_D A [(h0, .inr (6, [.int 0, .int 0, .null, .int 0, .null, .null, .null, .int 0])), (q_1, .inl (cI, 5, .inl (fun _ => 0)))] := hD
  refine W.widen (k := 1) (n := 5) (Nat.le_of_ble_eq_true rfl) (Nat.le_of_ble_eq_true rfl) ?_
  refine va_putF (D := (dC, dI)) (ci := 6) (v := .ref q_1) (ty := .array .int) (C := RX7) (T := TX7) (N := 8) hx hb hts (by decide +kernel) tyX7 tyX7_ok nmX7 hown hK hP hD hS 0 rfl rfl 4 (by decide) (hts (.fieldLink RX4 15 "PageOne$Item" "first" "[I") (by decide +kernel)) (fun _ h9 => h9) rfl hin rfl (by decide +kernel) rfl rfl (Nat.le_of_ble_eq_true rfl) dX4_init_13 (fun H locs hP hD hS => ?_)
  have hP : va_P (dC, dI) vwCl [(h0, .inr (6, [.int 0, .int 0, .null, .int 0, .ref q_1, .null, .null, .int 0])), (q_1, .inl (cI, 5, .inl (fun _ => 0)))] H := hP
  have hD : va_D A [(h0, .inr (6, [.int 0, .int 0, .null, .int 0, .ref q_1, .null, .null, .int 0])), (q_1, .inl (cI, 5, .inl (fun _ => 0)))] := hD
  refine lv_aload_n hx hb dX4_init_16 rfl (lv_at hl 0 rfl) ?_
  refine lv_iload_n hx hb dX4_init_17 rfl (lv_at hl 1 rfl) ?_
  refine va_putF (D := (dC, dI)) (ci := 6) (v := .int p0) (ty := .int) (C := RX7) (T := TX7) (N := 8) hx hb hts (by decide +kernel) tyX7 tyX7_ok nmX7 hown hK hP hD hS 0 rfl rfl 0 (by decide) (hts (.fieldLink RX4 19 "PageOne$Item" "number" "I") (by decide +kernel)) (fun _ h9 => h9) rfl hin rfl (by decide +kernel) rfl rfl (Nat.le_of_ble_eq_true rfl) dX4_init_18 (fun H locs hP hD hS => ?_)
  have hP : va_P (dC, dI) vwCl [(h0, .inr (6, [.int p0, .int 0, .null, .int 0, .ref q_1, .null, .null, .int 0])), (q_1, .inl (cI, 5, .inl (fun _ => 0)))] H := hP
  have hD : va_D A [(h0, .inr (6, [.int p0, .int 0, .null, .int 0, .ref q_1, .null, .null, .int 0])), (q_1, .inl (cI, 5, .inl (fun _ => 0)))] := hD
  refine lv_aload_n hx hb dX4_init_21 rfl (lv_at hl 0 rfl) ?_
  refine lv_iload_n hx hb dX4_init_22 rfl (lv_at hl 2 rfl) ?_
  refine va_putF (D := (dC, dI)) (ci := 6) (v := .int 2) (ty := .int) (C := RX7) (T := TX7) (N := 8) hx hb hts (by decide +kernel) tyX7 tyX7_ok nmX7 hown hK hP hD hS 0 rfl rfl 1 (by decide) (hts (.fieldLink RX4 22 "PageOne$Item" "kind" "I") (by decide +kernel)) (fun _ h9 => h9) rfl hin rfl (by decide +kernel) rfl rfl (Nat.le_of_ble_eq_true rfl) dX4_init_23 (fun H locs hP hD hS => ?_)
  have hP : va_P (dC, dI) vwCl [(h0, .inr (6, [.int p0, .int 2, .null, .int 0, .ref q_1, .null, .null, .int 0])), (q_1, .inl (cI, 5, .inl (fun _ => 0)))] H := hP
  have hD : va_D A [(h0, .inr (6, [.int p0, .int 2, .null, .int 0, .ref q_1, .null, .null, .int 0])), (q_1, .inl (cI, 5, .inl (fun _ => 0)))] := hD
  refine lv_aload_n hx hb dX4_init_26 rfl (lv_at hl 0 rfl) ?_
  refine lv_iload_n hx hb dX4_init_27 rfl (lv_at hl 3 rfl) ?_
  refine lv_iconst (v := 1) hx hb dX4_init_28 (by decide) ?_
  refine lv_bipush (v := 6) hx hb dX4_init_29 (by decide) ?_
  have hPc := hP.sub (ws' := []) [] rfl
  have hKc := hK.sub (tys' := []) [] rfl
  refine vp_callSi (va_runSN (As := [.int 1, .int 1, .int 6]) (rest := [.ref h0]) ⟨hx, hb, hml, hown, hts⟩ (x_isWithin l dC dI 1 1 6) ⟨va_cnB (host := "PageOne") 3 hts gX4_init_X11_isWithin_n25 rfl rfl rfl hN.n_RX4_25 (hts (.initialized RX11) (by decide +kernel)) (by decide +kernel) ⟨Nat.le_of_ble_eq_true rfl, Nat.le_of_ble_eq_true rfl⟩, hts (.static yX11_isWithin) (by decide +kernel), trivial⟩ ⟨pw_fb, fun U hU hW => ⟨rfl, pw_to hU hW hPc hKc hN⟩⟩ rfl rfl hl.1 rfl (lv_room (Nat.le_of_ble_eq_true rfl)) dX4_init_31 ⟨Nat.le_of_ble_eq_true rfl, Nat.le_of_ble_eq_true rfl⟩).run (fun r hw => ?_)
  obtain rfl : r = 1 := hw.trans (by decide)
  refine lv_if_eq (tgt := 41) hx hb dX4_init_34 (by decide) (fun c_3 => absurd c_3 (by decide)) (fun c_3 => ?_)
  refine lv_iload_n hx hb dX4_init_37 rfl (lv_at hl 3 rfl) ?_
  refine lv_goto (tgt := 42) hx hb dX4_init_38 (by decide) ?_
  refine va_newq (N' := 1) (C := RX8) hx hb hown (hts (.classLink RX4 29 RX8) (by decide +kernel)) hN.ao_Piece hK hP hD hS hA (by decide) (by decide) (by decide) (Nat.le_of_ble_eq_true rfl) (Nat.le_of_ble_eq_true rfl) dX4_init_42 (fun q_4 cA_5 H hK hP hD hS => ?_)
  have hK : va_K (dC, dI) vwCl [(cI, .int), (cA_5, .object "PageOne$Piece")] s := hK
  have hP : va_P (dC, dI) vwCl [(h0, .inr (6, [.int p0, .int 2, .null, .int 0, .ref q_1, .null, .null, .int 0])), (q_1, .inl (cI, 5, .inl (fun _ => 0))), (q_4, .inl (cA_5, 1, .inr (.inr (.inr (.inr (fun _ => none))))))] H := hP
  have hD : va_D A [(h0, .inr (6, [.int p0, .int 2, .null, .int 0, .ref q_1, .null, .null, .int 0])), (q_1, .inl (cI, 5, .inl (fun _ => 0))), (q_4, .inl (cA_5, 1, .inr (.inr (.inr (.inr (fun _ => none))))))] := hD
  refine W.widen (k := 2) (n := 6) (Nat.le_of_ble_eq_true rfl) (Nat.le_of_ble_eq_true rfl) ?_
  refine va_putF (D := (dC, dI)) (ci := 6) (v := .ref q_4) (ty := .array (.object "PageOne$Piece")) (C := RX7) (T := TX7) (N := 8) hx hb hts (by decide +kernel) tyX7 tyX7_ok nmX7 hown hK hP hD hS 0 rfl rfl 2 (by decide) (hts (.fieldLink RX4 31 "PageOne$Item" "pieces" "[LPageOne$Piece;") (by decide +kernel)) (fun _ h9 => h9) rfl hin rfl (by decide +kernel) rfl rfl (Nat.le_of_ble_eq_true rfl) dX4_init_45 (fun H locs hP hD hS => ?_)
  have hP : va_P (dC, dI) vwCl [(h0, .inr (6, [.int p0, .int 2, .ref q_4, .int 0, .ref q_1, .null, .null, .int 0])), (q_1, .inl (cI, 5, .inl (fun _ => 0))), (q_4, .inl (cA_5, 1, .inr (.inr (.inr (.inr (fun _ => none))))))] H := hP
  have hD : va_D A [(h0, .inr (6, [.int p0, .int 2, .ref q_4, .int 0, .ref q_1, .null, .null, .int 0])), (q_1, .inl (cI, 5, .inl (fun _ => 0))), (q_4, .inl (cA_5, 1, .inr (.inr (.inr (.inr (fun _ => none))))))] := hD
  refine lv_aload_n hx hb dX4_init_48 rfl (lv_at hl 0 rfl) ?_
  refine va_get (D := (dC, dI)) (ci := 6) (v := .ref q_1) (C := RX7) (T := TX7) (N := 8) hx hb hts (by decide +kernel) hown hK hP 0 rfl rfl 4 (by decide) (hts (.fieldLink RX4 15 "PageOne$Item" "first" "[I") (by decide +kernel)) (fun _ h9 => h9) rfl dX4_init_49 ?_
  refine lv_iconst (v := (-1)) hx hb dX4_init_52 (by decide) ?_
  have hPc := hP.sub (ws' := [(q_1, .inl (cI, 5, .inl (fun _ => 0)))]) [1] rfl
  have hKc := hK.sub (tys' := [(cI, .int)]) [0] rfl
  have hDc := hD.sub (ws' := [(q_1, .inl (cI, 5, .inl (fun _ => 0)))]) [1] (by decide) rfl
  have hFc := va_free (wc := [(q_1, .inl (cI, 5, .inl (fun _ => 0)))]) hD hS hA [1] rfl
  refine va_callv (va_runS (As := [.ref q_1, .int (-1)]) (rest := []) ⟨hx, hb, hml, hown, hts⟩ (j_fill l dC dI q_1 cI 5 (fun _ => 0) (-1) (by decide) H.size) (va_cwS 2 hts gX4_init_J7_fill_53178 rfl rfl rfl (by decide +kernel) ⟨Nat.le_of_ble_eq_true rfl, Nat.le_of_ble_eq_true rfl⟩) ⟨gw_fb, fun U hU hW => ⟨rfl, by rw [hU], pw_to hU hW hPc hKc hN, hDc.weaken (fun _ _ _ _ => trivial)⟩⟩ rfl rfl hl.1 rfl (lv_room (Nat.le_of_ble_eq_true rfl)) dX4_init_53 ⟨Nat.le_of_ble_eq_true rfl, Nat.le_of_ble_eq_true rfl⟩) hS (fun q _ h => hFc q h) hFc (fun u t H1 locs ht hvm hw hB hz1 hk1 hS => ?_)
  obtain ⟨hP1, hD1⟩ := hB
  rw [ht] at hP1
  obtain ⟨hP, hD⟩ := va_join (wr := [(h0, .inr (6, [.int p0, .int 2, .ref q_4, .int 0, .ref q_1, .null, .null, .int 0])), (q_4, .inl (cA_5, 1, .inr (.inr (.inr (.inr (fun _ => none))))))]) (w1 := [(q_1, .inl (cI, 5, .inl (fun _ => (-1))))]) hP hD [1] [0, 2] rfl rfl (by decide) (by decide) hk1 hFc hP1 hD1
  generalize H1 = H at hP hS ⊢
  have hP : va_P (dC, dI) vwCl [(h0, .inr (6, [.int p0, .int 2, .ref q_4, .int 0, .ref q_1, .null, .null, .int 0])), (q_4, .inl (cA_5, 1, .inr (.inr (.inr (.inr (fun _ => none)))))), (q_1, .inl (cI, 5, .inl (fun _ => (-1))))] H := hP
  have hD : va_D A [(h0, .inr (6, [.int p0, .int 2, .ref q_4, .int 0, .ref q_1, .null, .null, .int 0])), (q_4, .inl (cA_5, 1, .inr (.inr (.inr (.inr (fun _ => none)))))), (q_1, .inl (cI, 5, .inl (fun _ => (-1))))] := hD
  refine W.widen (k := 2) (n := 6) (Nat.le_of_ble_eq_true rfl) (Nat.le_of_ble_eq_true rfl) ?_
  exact W.vret hx hb hr (fun t ht hW => ⟨⟨(), rfl, trivial, ⟨q_1, q_4, by rw [ht]; exact hP.sub [0] rfl, hD.sub [0] (by decide) rfl⟩⟩, hS.F ht⟩) hS.2.2 dX4_init_56
set_option maxHeartbeats 4000000 in
set_option maxRecDepth 100000 in
theorem x_Item_Paid (l : Launch) (dC : Nat → ClassId) (dI : Nat → Nat → Nat) (h0 : Nat) (cI : ClassId) (p0 : Int32) (sz : Nat) : Met l yX4_init wsX4_init ({ frames := 1, cells := 2, slots := 6, locals := 23 }) (va_Pc [.ref h0, .int p0, .int 3, .int 1] (fun U => U.heap.size = sz ∧ PW dC dI [(h0, .inr (5, [.int 0, .int 0, .null, .int 0, .null, .int 0, .int 0, .null, .null]))] [(cI, .int)] U ∧ va_D (fun _ => True) [(h0, .inr (5, [.int 0, .int 0, .null, .int 0, .null, .int 0, .int 0, .null, .null]))])) (va_Qv (fun _ : Unit => True) (fun _ t => ∃ q1 q2 : Nat, va_P (dC, dI) vwCl [(h0, .inr (5, [.int p0, .int 3, .ref q2, .int 0, .ref q1, .int 0, .int 0, .null, .null]))] t.heap ∧ va_D (va_A [(h0, .inr (5, [.int 0, .int 0, .null, .int 0, .null, .int 0, .int 0, .null, .null]))] sz) [(h0, .inr (5, [.int p0, .int 3, .ref q2, .int 0, .ref q1, .int 0, .int 0, .null, .null]))]) (va_A [(h0, .inr (5, [.int 0, .int 0, .null, .int 0, .null, .int 0, .int 0, .null, .null]))] sz)) 2 6 (va_A [(h0, .inr (5, [.int 0, .int 0, .null, .int 0, .null, .int 0, .int 0, .null, .null]))] sz) := by
  refine Met.ofW (cc := cX4_init) (maxL := 4) (ret := none) (by decide) rfl ?_
  intro p e s m args below meth c s₁ B hml hv
  obtain ⟨rfl, hsz, ⟨hP, hK, hN⟩, hD0⟩ := hv
  have hx := B.exec
  have hb := B.bytes
  have hr := B.returns
  have hts := atoms_spec (ws := wsX4_init) B.pre
  have hown : s.vm.findClass RX4 = some m.cls := findClass_of_methodNamed B.named
  have hlocks := B.notSynchronized
  have hin : meth.name = "<init>" := (name_of_methodNamed B.named B.method).1
  subst hsz
  have hD := hD0.self (sz := s.heap.size)
  generalize hAe : va_A [(h0, .inr (5, [.int 0, .int 0, .null, .int 0, .null, .int 0, .int 0, .null, .null]))] s.heap.size = A at hD ⊢
  have hA : ∀ q : Nat, s.heap.size ≤ q → A q := fun q h => by rw [← hAe]; exact Or.inr h
  have hS : va_S A s.heap s.heap [] := va_S.rf
  have hP : va_P (dC, dI) vwCl [(h0, .inr (5, [.int 0, .int 0, .null, .int 0, .null, .int 0, .int 0, .null, .null]))] s.heap := hP
  have hl := lv_entry ([.ref h0, .int p0, .int 3, .int 1]) (n := 4) (Nat.le_of_ble_eq_true rfl)
  rw [lg_entry_eq]
  generalize (lg_sl ([.ref h0, .int p0, .int 3, .int 1]) ++ List.replicate (4 - (lg_sl ([.ref h0, .int p0, .int 3, .int 1])).length) Slot.unset).toArray = ls at hl ⊢
  have hl : lv_has ls 4 [(0, .ref h0), (1, .int p0), (2, .int 3), (3, .int 1)] := hl
  refine lv_aload_n hx hb dX4_init_0 rfl (lv_at hl 0 rfl) ?_
  refine W.objInit hx hb hown (hts (.methodLink RX4 3 objectInit) (by decide +kernel)) (hts (.instanceMethod objectInit) (by decide +kernel)) (hts (.code objectInit ⟨#[0xb1]⟩ 1 none) (by decide +kernel)) rfl (by rw [hml]; exact hl.1) rfl dX4_init_1 (Nat.le_of_ble_eq_true rfl) (Nat.le_of_ble_eq_true rfl) ?_
  refine W.eq (g2 := F0 m 4 ls []) rfl ?_
  refine lv_aload_n hx hb dX4_init_4 rfl (lv_at hl 0 rfl) ?_
  refine lv_iconst (v := 0) hx hb dX4_init_5 (by decide) ?_
  refine va_put (D := (dC, dI)) (ci := 5) (v := .int 0) (ty := .int) (C := RX6) (T := TX6) (N := 9) hx hb hts (by decide +kernel) tyX6 tyX6_ok nmX6 hown hK hP hD hS 0 rfl rfl 3 (by decide) (hts (.fieldLink RX4 9 "PageOne$Item" "count" "I") (by decide +kernel)) (fun _ h9 => h9) rfl (by decide +kernel) rfl rfl (Nat.le_of_ble_eq_true rfl) dX4_init_6 (fun H locs hP hD hS => ?_)
  have hP : va_P (dC, dI) vwCl [(h0, .inr (5, [.int 0, .int 0, .null, .int 0, .null, .int 0, .int 0, .null, .null]))] H := hP
  have hD : va_D A [(h0, .inr (5, [.int 0, .int 0, .null, .int 0, .null, .int 0, .int 0, .null, .null]))] := hD
  refine lv_aload_n hx hb dX4_init_9 rfl (lv_at hl 0 rfl) ?_
  refine lv_iconst (v := 5) hx hb dX4_init_10 (by decide) ?_
  refine va_newa (atype := .int) (ty := .int) (a0 := (5, .inl (fun _ => 0))) (N' := 5) hx hb (hts (.arrayClass .int) (by decide +kernel)) rfl hK hP hD hS hA (newI 5) (by decide) (by decide) (nbI (Nat.le_of_ble_eq_true rfl)) (Nat.le_of_ble_eq_true rfl) (Nat.le_of_ble_eq_true rfl) dX4_init_11 (fun q_1 cA_2 H hK hP hD hS => ?_)
  obtain rfl : cI = cA_2 := kuniq hK 0 1 rfl rfl
  have hK := hK.sub (tys' := [(cI, .int)]) [0] rfl
  have hK : va_K (dC, dI) vwCl [(cI, .int)] s := hK
  have hP : va_P (dC, dI) vwCl [(h0, .inr (5, [.int 0, .int 0, .null, .int 0, .null, .int 0, .int 0, .null, .null])), (q_1, .inl (cI, 5, .inl (fun _ => 0)))] H := hP
  have hD : va_D A [(h0, .inr (5, [.int 0, .int 0, .null, .int 0, .null, .int 0, .int 0, .null, .null])), (q_1, .inl (cI, 5, .inl (fun _ => 0)))] := hD
  refine W.widen (k := 1) (n := 5) (Nat.le_of_ble_eq_true rfl) (Nat.le_of_ble_eq_true rfl) ?_
  refine va_putF (D := (dC, dI)) (ci := 5) (v := .ref q_1) (ty := .array .int) (C := RX6) (T := TX6) (N := 9) hx hb hts (by decide +kernel) tyX6 tyX6_ok nmX6 hown hK hP hD hS 0 rfl rfl 4 (by decide) (hts (.fieldLink RX4 15 "PageOne$Item" "first" "[I") (by decide +kernel)) (fun _ h9 => h9) rfl hin rfl (by decide +kernel) rfl rfl (Nat.le_of_ble_eq_true rfl) dX4_init_13 (fun H locs hP hD hS => ?_)
  have hP : va_P (dC, dI) vwCl [(h0, .inr (5, [.int 0, .int 0, .null, .int 0, .ref q_1, .int 0, .int 0, .null, .null])), (q_1, .inl (cI, 5, .inl (fun _ => 0)))] H := hP
  have hD : va_D A [(h0, .inr (5, [.int 0, .int 0, .null, .int 0, .ref q_1, .int 0, .int 0, .null, .null])), (q_1, .inl (cI, 5, .inl (fun _ => 0)))] := hD
  refine lv_aload_n hx hb dX4_init_16 rfl (lv_at hl 0 rfl) ?_
  refine lv_iload_n hx hb dX4_init_17 rfl (lv_at hl 1 rfl) ?_
  refine va_putF (D := (dC, dI)) (ci := 5) (v := .int p0) (ty := .int) (C := RX6) (T := TX6) (N := 9) hx hb hts (by decide +kernel) tyX6 tyX6_ok nmX6 hown hK hP hD hS 0 rfl rfl 0 (by decide) (hts (.fieldLink RX4 19 "PageOne$Item" "number" "I") (by decide +kernel)) (fun _ h9 => h9) rfl hin rfl (by decide +kernel) rfl rfl (Nat.le_of_ble_eq_true rfl) dX4_init_18 (fun H locs hP hD hS => ?_)
  have hP : va_P (dC, dI) vwCl [(h0, .inr (5, [.int p0, .int 0, .null, .int 0, .ref q_1, .int 0, .int 0, .null, .null])), (q_1, .inl (cI, 5, .inl (fun _ => 0)))] H := hP
  have hD : va_D A [(h0, .inr (5, [.int p0, .int 0, .null, .int 0, .ref q_1, .int 0, .int 0, .null, .null])), (q_1, .inl (cI, 5, .inl (fun _ => 0)))] := hD
  refine lv_aload_n hx hb dX4_init_21 rfl (lv_at hl 0 rfl) ?_
  refine lv_iload_n hx hb dX4_init_22 rfl (lv_at hl 2 rfl) ?_
  refine va_putF (D := (dC, dI)) (ci := 5) (v := .int 3) (ty := .int) (C := RX6) (T := TX6) (N := 9) hx hb hts (by decide +kernel) tyX6 tyX6_ok nmX6 hown hK hP hD hS 0 rfl rfl 1 (by decide) (hts (.fieldLink RX4 22 "PageOne$Item" "kind" "I") (by decide +kernel)) (fun _ h9 => h9) rfl hin rfl (by decide +kernel) rfl rfl (Nat.le_of_ble_eq_true rfl) dX4_init_23 (fun H locs hP hD hS => ?_)
  have hP : va_P (dC, dI) vwCl [(h0, .inr (5, [.int p0, .int 3, .null, .int 0, .ref q_1, .int 0, .int 0, .null, .null])), (q_1, .inl (cI, 5, .inl (fun _ => 0)))] H := hP
  have hD : va_D A [(h0, .inr (5, [.int p0, .int 3, .null, .int 0, .ref q_1, .int 0, .int 0, .null, .null])), (q_1, .inl (cI, 5, .inl (fun _ => 0)))] := hD
  refine lv_aload_n hx hb dX4_init_26 rfl (lv_at hl 0 rfl) ?_
  refine lv_iload_n hx hb dX4_init_27 rfl (lv_at hl 3 rfl) ?_
  refine lv_iconst (v := 1) hx hb dX4_init_28 (by decide) ?_
  refine lv_bipush (v := 6) hx hb dX4_init_29 (by decide) ?_
  have hPc := hP.sub (ws' := []) [] rfl
  have hKc := hK.sub (tys' := []) [] rfl
  refine vp_callSi (va_runSN (As := [.int 1, .int 1, .int 6]) (rest := [.ref h0]) ⟨hx, hb, hml, hown, hts⟩ (x_isWithin l dC dI 1 1 6) ⟨va_cnB (host := "PageOne") 3 hts gX4_init_X11_isWithin_n25 rfl rfl rfl hN.n_RX4_25 (hts (.initialized RX11) (by decide +kernel)) (by decide +kernel) ⟨Nat.le_of_ble_eq_true rfl, Nat.le_of_ble_eq_true rfl⟩, hts (.static yX11_isWithin) (by decide +kernel), trivial⟩ ⟨pw_fb, fun U hU hW => ⟨rfl, pw_to hU hW hPc hKc hN⟩⟩ rfl rfl hl.1 rfl (lv_room (Nat.le_of_ble_eq_true rfl)) dX4_init_31 ⟨Nat.le_of_ble_eq_true rfl, Nat.le_of_ble_eq_true rfl⟩).run (fun r hw => ?_)
  obtain rfl : r = 1 := hw.trans (by decide)
  refine lv_if_eq (tgt := 41) hx hb dX4_init_34 (by decide) (fun c_3 => absurd c_3 (by decide)) (fun c_3 => ?_)
  refine lv_iload_n hx hb dX4_init_37 rfl (lv_at hl 3 rfl) ?_
  refine lv_goto (tgt := 42) hx hb dX4_init_38 (by decide) ?_
  refine va_newq (N' := 1) (C := RX8) hx hb hown (hts (.classLink RX4 29 RX8) (by decide +kernel)) hN.ao_Piece hK hP hD hS hA (by decide) (by decide) (by decide) (Nat.le_of_ble_eq_true rfl) (Nat.le_of_ble_eq_true rfl) dX4_init_42 (fun q_4 cA_5 H hK hP hD hS => ?_)
  have hK : va_K (dC, dI) vwCl [(cI, .int), (cA_5, .object "PageOne$Piece")] s := hK
  have hP : va_P (dC, dI) vwCl [(h0, .inr (5, [.int p0, .int 3, .null, .int 0, .ref q_1, .int 0, .int 0, .null, .null])), (q_1, .inl (cI, 5, .inl (fun _ => 0))), (q_4, .inl (cA_5, 1, .inr (.inr (.inr (.inr (fun _ => none))))))] H := hP
  have hD : va_D A [(h0, .inr (5, [.int p0, .int 3, .null, .int 0, .ref q_1, .int 0, .int 0, .null, .null])), (q_1, .inl (cI, 5, .inl (fun _ => 0))), (q_4, .inl (cA_5, 1, .inr (.inr (.inr (.inr (fun _ => none))))))] := hD
  refine W.widen (k := 2) (n := 6) (Nat.le_of_ble_eq_true rfl) (Nat.le_of_ble_eq_true rfl) ?_
  refine va_putF (D := (dC, dI)) (ci := 5) (v := .ref q_4) (ty := .array (.object "PageOne$Piece")) (C := RX6) (T := TX6) (N := 9) hx hb hts (by decide +kernel) tyX6 tyX6_ok nmX6 hown hK hP hD hS 0 rfl rfl 2 (by decide) (hts (.fieldLink RX4 31 "PageOne$Item" "pieces" "[LPageOne$Piece;") (by decide +kernel)) (fun _ h9 => h9) rfl hin rfl (by decide +kernel) rfl rfl (Nat.le_of_ble_eq_true rfl) dX4_init_45 (fun H locs hP hD hS => ?_)
  have hP : va_P (dC, dI) vwCl [(h0, .inr (5, [.int p0, .int 3, .ref q_4, .int 0, .ref q_1, .int 0, .int 0, .null, .null])), (q_1, .inl (cI, 5, .inl (fun _ => 0))), (q_4, .inl (cA_5, 1, .inr (.inr (.inr (.inr (fun _ => none))))))] H := hP
  have hD : va_D A [(h0, .inr (5, [.int p0, .int 3, .ref q_4, .int 0, .ref q_1, .int 0, .int 0, .null, .null])), (q_1, .inl (cI, 5, .inl (fun _ => 0))), (q_4, .inl (cA_5, 1, .inr (.inr (.inr (.inr (fun _ => none))))))] := hD
  refine lv_aload_n hx hb dX4_init_48 rfl (lv_at hl 0 rfl) ?_
  refine va_get (D := (dC, dI)) (ci := 5) (v := .ref q_1) (C := RX6) (T := TX6) (N := 9) hx hb hts (by decide +kernel) hown hK hP 0 rfl rfl 4 (by decide) (hts (.fieldLink RX4 15 "PageOne$Item" "first" "[I") (by decide +kernel)) (fun _ h9 => h9) rfl dX4_init_49 ?_
  refine lv_iconst (v := (-1)) hx hb dX4_init_52 (by decide) ?_
  have hPc := hP.sub (ws' := [(q_1, .inl (cI, 5, .inl (fun _ => 0)))]) [1] rfl
  have hKc := hK.sub (tys' := [(cI, .int)]) [0] rfl
  have hDc := hD.sub (ws' := [(q_1, .inl (cI, 5, .inl (fun _ => 0)))]) [1] (by decide) rfl
  have hFc := va_free (wc := [(q_1, .inl (cI, 5, .inl (fun _ => 0)))]) hD hS hA [1] rfl
  refine va_callv (va_runS (As := [.ref q_1, .int (-1)]) (rest := []) ⟨hx, hb, hml, hown, hts⟩ (j_fill l dC dI q_1 cI 5 (fun _ => 0) (-1) (by decide) H.size) (va_cwS 2 hts gX4_init_J7_fill_53178 rfl rfl rfl (by decide +kernel) ⟨Nat.le_of_ble_eq_true rfl, Nat.le_of_ble_eq_true rfl⟩) ⟨gw_fb, fun U hU hW => ⟨rfl, by rw [hU], pw_to hU hW hPc hKc hN, hDc.weaken (fun _ _ _ _ => trivial)⟩⟩ rfl rfl hl.1 rfl (lv_room (Nat.le_of_ble_eq_true rfl)) dX4_init_53 ⟨Nat.le_of_ble_eq_true rfl, Nat.le_of_ble_eq_true rfl⟩) hS (fun q _ h => hFc q h) hFc (fun u t H1 locs ht hvm hw hB hz1 hk1 hS => ?_)
  obtain ⟨hP1, hD1⟩ := hB
  rw [ht] at hP1
  obtain ⟨hP, hD⟩ := va_join (wr := [(h0, .inr (5, [.int p0, .int 3, .ref q_4, .int 0, .ref q_1, .int 0, .int 0, .null, .null])), (q_4, .inl (cA_5, 1, .inr (.inr (.inr (.inr (fun _ => none))))))]) (w1 := [(q_1, .inl (cI, 5, .inl (fun _ => (-1))))]) hP hD [1] [0, 2] rfl rfl (by decide) (by decide) hk1 hFc hP1 hD1
  generalize H1 = H at hP hS ⊢
  have hP : va_P (dC, dI) vwCl [(h0, .inr (5, [.int p0, .int 3, .ref q_4, .int 0, .ref q_1, .int 0, .int 0, .null, .null])), (q_4, .inl (cA_5, 1, .inr (.inr (.inr (.inr (fun _ => none)))))), (q_1, .inl (cI, 5, .inl (fun _ => (-1))))] H := hP
  have hD : va_D A [(h0, .inr (5, [.int p0, .int 3, .ref q_4, .int 0, .ref q_1, .int 0, .int 0, .null, .null])), (q_4, .inl (cA_5, 1, .inr (.inr (.inr (.inr (fun _ => none)))))), (q_1, .inl (cI, 5, .inl (fun _ => (-1))))] := hD
  refine W.widen (k := 2) (n := 6) (Nat.le_of_ble_eq_true rfl) (Nat.le_of_ble_eq_true rfl) ?_
  exact W.vret hx hb hr (fun t ht hW => ⟨⟨(), rfl, trivial, ⟨q_1, q_4, by rw [ht]; exact hP.sub [0] rfl, hD.sub [0] (by decide) rfl⟩⟩, hS.F ht⟩) hS.2.2 dX4_init_56
set_option maxHeartbeats 4000000 in
set_option maxRecDepth 100000 in
theorem x_Item_Filler (l : Launch) (dC : Nat → ClassId) (dI : Nat → Nat → Nat) (h0 : Nat) (cI : ClassId) (p0 : Int32) (sz : Nat) : Met l yX4_init wsX4_init ({ frames := 1, cells := 2, slots := 6, locals := 23 }) (va_Pc [.ref h0, .int p0, .int 4, .int 1] (fun U => U.heap.size = sz ∧ PW dC dI [(h0, .inr (2, [.int 0, .int 0, .null, .int 0, .null, .int 0, .int 0]))] [(cI, .int)] U ∧ va_D (fun _ => True) [(h0, .inr (2, [.int 0, .int 0, .null, .int 0, .null, .int 0, .int 0]))])) (va_Qv (fun _ : Unit => True) (fun _ t => ∃ q1 q2 : Nat, va_P (dC, dI) vwCl [(h0, .inr (2, [.int p0, .int 4, .ref q2, .int 0, .ref q1, .int 0, .int 0]))] t.heap ∧ va_D (va_A [(h0, .inr (2, [.int 0, .int 0, .null, .int 0, .null, .int 0, .int 0]))] sz) [(h0, .inr (2, [.int p0, .int 4, .ref q2, .int 0, .ref q1, .int 0, .int 0]))]) (va_A [(h0, .inr (2, [.int 0, .int 0, .null, .int 0, .null, .int 0, .int 0]))] sz)) 2 6 (va_A [(h0, .inr (2, [.int 0, .int 0, .null, .int 0, .null, .int 0, .int 0]))] sz) := by
  refine Met.ofW (cc := cX4_init) (maxL := 4) (ret := none) (by decide) rfl ?_
  intro p e s m args below meth c s₁ B hml hv
  obtain ⟨rfl, hsz, ⟨hP, hK, hN⟩, hD0⟩ := hv
  have hx := B.exec
  have hb := B.bytes
  have hr := B.returns
  have hts := atoms_spec (ws := wsX4_init) B.pre
  have hown : s.vm.findClass RX4 = some m.cls := findClass_of_methodNamed B.named
  have hlocks := B.notSynchronized
  have hin : meth.name = "<init>" := (name_of_methodNamed B.named B.method).1
  subst hsz
  have hD := hD0.self (sz := s.heap.size)
  generalize hAe : va_A [(h0, .inr (2, [.int 0, .int 0, .null, .int 0, .null, .int 0, .int 0]))] s.heap.size = A at hD ⊢
  have hA : ∀ q : Nat, s.heap.size ≤ q → A q := fun q h => by rw [← hAe]; exact Or.inr h
  have hS : va_S A s.heap s.heap [] := va_S.rf
  have hP : va_P (dC, dI) vwCl [(h0, .inr (2, [.int 0, .int 0, .null, .int 0, .null, .int 0, .int 0]))] s.heap := hP
  have hl := lv_entry ([.ref h0, .int p0, .int 4, .int 1]) (n := 4) (Nat.le_of_ble_eq_true rfl)
  rw [lg_entry_eq]
  generalize (lg_sl ([.ref h0, .int p0, .int 4, .int 1]) ++ List.replicate (4 - (lg_sl ([.ref h0, .int p0, .int 4, .int 1])).length) Slot.unset).toArray = ls at hl ⊢
  have hl : lv_has ls 4 [(0, .ref h0), (1, .int p0), (2, .int 4), (3, .int 1)] := hl
  refine lv_aload_n hx hb dX4_init_0 rfl (lv_at hl 0 rfl) ?_
  refine W.objInit hx hb hown (hts (.methodLink RX4 3 objectInit) (by decide +kernel)) (hts (.instanceMethod objectInit) (by decide +kernel)) (hts (.code objectInit ⟨#[0xb1]⟩ 1 none) (by decide +kernel)) rfl (by rw [hml]; exact hl.1) rfl dX4_init_1 (Nat.le_of_ble_eq_true rfl) (Nat.le_of_ble_eq_true rfl) ?_
  refine W.eq (g2 := F0 m 4 ls []) rfl ?_
  refine lv_aload_n hx hb dX4_init_4 rfl (lv_at hl 0 rfl) ?_
  refine lv_iconst (v := 0) hx hb dX4_init_5 (by decide) ?_
  refine va_put (D := (dC, dI)) (ci := 2) (v := .int 0) (ty := .int) (C := RX2) (T := TX2) (N := 7) hx hb hts (by decide +kernel) tyX2 tyX2_ok nmX2 hown hK hP hD hS 0 rfl rfl 3 (by decide) (hts (.fieldLink RX4 9 "PageOne$Item" "count" "I") (by decide +kernel)) (fun _ h9 => h9) rfl (by decide +kernel) rfl rfl (Nat.le_of_ble_eq_true rfl) dX4_init_6 (fun H locs hP hD hS => ?_)
  have hP : va_P (dC, dI) vwCl [(h0, .inr (2, [.int 0, .int 0, .null, .int 0, .null, .int 0, .int 0]))] H := hP
  have hD : va_D A [(h0, .inr (2, [.int 0, .int 0, .null, .int 0, .null, .int 0, .int 0]))] := hD
  refine lv_aload_n hx hb dX4_init_9 rfl (lv_at hl 0 rfl) ?_
  refine lv_iconst (v := 5) hx hb dX4_init_10 (by decide) ?_
  refine va_newa (atype := .int) (ty := .int) (a0 := (5, .inl (fun _ => 0))) (N' := 5) hx hb (hts (.arrayClass .int) (by decide +kernel)) rfl hK hP hD hS hA (newI 5) (by decide) (by decide) (nbI (Nat.le_of_ble_eq_true rfl)) (Nat.le_of_ble_eq_true rfl) (Nat.le_of_ble_eq_true rfl) dX4_init_11 (fun q_1 cA_2 H hK hP hD hS => ?_)
  obtain rfl : cI = cA_2 := kuniq hK 0 1 rfl rfl
  have hK := hK.sub (tys' := [(cI, .int)]) [0] rfl
  have hK : va_K (dC, dI) vwCl [(cI, .int)] s := hK
  have hP : va_P (dC, dI) vwCl [(h0, .inr (2, [.int 0, .int 0, .null, .int 0, .null, .int 0, .int 0])), (q_1, .inl (cI, 5, .inl (fun _ => 0)))] H := hP
  have hD : va_D A [(h0, .inr (2, [.int 0, .int 0, .null, .int 0, .null, .int 0, .int 0])), (q_1, .inl (cI, 5, .inl (fun _ => 0)))] := hD
  refine W.widen (k := 1) (n := 5) (Nat.le_of_ble_eq_true rfl) (Nat.le_of_ble_eq_true rfl) ?_
  refine va_putF (D := (dC, dI)) (ci := 2) (v := .ref q_1) (ty := .array .int) (C := RX2) (T := TX2) (N := 7) hx hb hts (by decide +kernel) tyX2 tyX2_ok nmX2 hown hK hP hD hS 0 rfl rfl 4 (by decide) (hts (.fieldLink RX4 15 "PageOne$Item" "first" "[I") (by decide +kernel)) (fun _ h9 => h9) rfl hin rfl (by decide +kernel) rfl rfl (Nat.le_of_ble_eq_true rfl) dX4_init_13 (fun H locs hP hD hS => ?_)
  have hP : va_P (dC, dI) vwCl [(h0, .inr (2, [.int 0, .int 0, .null, .int 0, .ref q_1, .int 0, .int 0])), (q_1, .inl (cI, 5, .inl (fun _ => 0)))] H := hP
  have hD : va_D A [(h0, .inr (2, [.int 0, .int 0, .null, .int 0, .ref q_1, .int 0, .int 0])), (q_1, .inl (cI, 5, .inl (fun _ => 0)))] := hD
  refine lv_aload_n hx hb dX4_init_16 rfl (lv_at hl 0 rfl) ?_
  refine lv_iload_n hx hb dX4_init_17 rfl (lv_at hl 1 rfl) ?_
  refine va_putF (D := (dC, dI)) (ci := 2) (v := .int p0) (ty := .int) (C := RX2) (T := TX2) (N := 7) hx hb hts (by decide +kernel) tyX2 tyX2_ok nmX2 hown hK hP hD hS 0 rfl rfl 0 (by decide) (hts (.fieldLink RX4 19 "PageOne$Item" "number" "I") (by decide +kernel)) (fun _ h9 => h9) rfl hin rfl (by decide +kernel) rfl rfl (Nat.le_of_ble_eq_true rfl) dX4_init_18 (fun H locs hP hD hS => ?_)
  have hP : va_P (dC, dI) vwCl [(h0, .inr (2, [.int p0, .int 0, .null, .int 0, .ref q_1, .int 0, .int 0])), (q_1, .inl (cI, 5, .inl (fun _ => 0)))] H := hP
  have hD : va_D A [(h0, .inr (2, [.int p0, .int 0, .null, .int 0, .ref q_1, .int 0, .int 0])), (q_1, .inl (cI, 5, .inl (fun _ => 0)))] := hD
  refine lv_aload_n hx hb dX4_init_21 rfl (lv_at hl 0 rfl) ?_
  refine lv_iload_n hx hb dX4_init_22 rfl (lv_at hl 2 rfl) ?_
  refine va_putF (D := (dC, dI)) (ci := 2) (v := .int 4) (ty := .int) (C := RX2) (T := TX2) (N := 7) hx hb hts (by decide +kernel) tyX2 tyX2_ok nmX2 hown hK hP hD hS 0 rfl rfl 1 (by decide) (hts (.fieldLink RX4 22 "PageOne$Item" "kind" "I") (by decide +kernel)) (fun _ h9 => h9) rfl hin rfl (by decide +kernel) rfl rfl (Nat.le_of_ble_eq_true rfl) dX4_init_23 (fun H locs hP hD hS => ?_)
  have hP : va_P (dC, dI) vwCl [(h0, .inr (2, [.int p0, .int 4, .null, .int 0, .ref q_1, .int 0, .int 0])), (q_1, .inl (cI, 5, .inl (fun _ => 0)))] H := hP
  have hD : va_D A [(h0, .inr (2, [.int p0, .int 4, .null, .int 0, .ref q_1, .int 0, .int 0])), (q_1, .inl (cI, 5, .inl (fun _ => 0)))] := hD
  refine lv_aload_n hx hb dX4_init_26 rfl (lv_at hl 0 rfl) ?_
  refine lv_iload_n hx hb dX4_init_27 rfl (lv_at hl 3 rfl) ?_
  refine lv_iconst (v := 1) hx hb dX4_init_28 (by decide) ?_
  refine lv_bipush (v := 6) hx hb dX4_init_29 (by decide) ?_
  have hPc := hP.sub (ws' := []) [] rfl
  have hKc := hK.sub (tys' := []) [] rfl
  refine vp_callSi (va_runSN (As := [.int 1, .int 1, .int 6]) (rest := [.ref h0]) ⟨hx, hb, hml, hown, hts⟩ (x_isWithin l dC dI 1 1 6) ⟨va_cnB (host := "PageOne") 3 hts gX4_init_X11_isWithin_n25 rfl rfl rfl hN.n_RX4_25 (hts (.initialized RX11) (by decide +kernel)) (by decide +kernel) ⟨Nat.le_of_ble_eq_true rfl, Nat.le_of_ble_eq_true rfl⟩, hts (.static yX11_isWithin) (by decide +kernel), trivial⟩ ⟨pw_fb, fun U hU hW => ⟨rfl, pw_to hU hW hPc hKc hN⟩⟩ rfl rfl hl.1 rfl (lv_room (Nat.le_of_ble_eq_true rfl)) dX4_init_31 ⟨Nat.le_of_ble_eq_true rfl, Nat.le_of_ble_eq_true rfl⟩).run (fun r hw => ?_)
  obtain rfl : r = 1 := hw.trans (by decide)
  refine lv_if_eq (tgt := 41) hx hb dX4_init_34 (by decide) (fun c_3 => absurd c_3 (by decide)) (fun c_3 => ?_)
  refine lv_iload_n hx hb dX4_init_37 rfl (lv_at hl 3 rfl) ?_
  refine lv_goto (tgt := 42) hx hb dX4_init_38 (by decide) ?_
  refine va_newq (N' := 1) (C := RX8) hx hb hown (hts (.classLink RX4 29 RX8) (by decide +kernel)) hN.ao_Piece hK hP hD hS hA (by decide) (by decide) (by decide) (Nat.le_of_ble_eq_true rfl) (Nat.le_of_ble_eq_true rfl) dX4_init_42 (fun q_4 cA_5 H hK hP hD hS => ?_)
  have hK : va_K (dC, dI) vwCl [(cI, .int), (cA_5, .object "PageOne$Piece")] s := hK
  have hP : va_P (dC, dI) vwCl [(h0, .inr (2, [.int p0, .int 4, .null, .int 0, .ref q_1, .int 0, .int 0])), (q_1, .inl (cI, 5, .inl (fun _ => 0))), (q_4, .inl (cA_5, 1, .inr (.inr (.inr (.inr (fun _ => none))))))] H := hP
  have hD : va_D A [(h0, .inr (2, [.int p0, .int 4, .null, .int 0, .ref q_1, .int 0, .int 0])), (q_1, .inl (cI, 5, .inl (fun _ => 0))), (q_4, .inl (cA_5, 1, .inr (.inr (.inr (.inr (fun _ => none))))))] := hD
  refine W.widen (k := 2) (n := 6) (Nat.le_of_ble_eq_true rfl) (Nat.le_of_ble_eq_true rfl) ?_
  refine va_putF (D := (dC, dI)) (ci := 2) (v := .ref q_4) (ty := .array (.object "PageOne$Piece")) (C := RX2) (T := TX2) (N := 7) hx hb hts (by decide +kernel) tyX2 tyX2_ok nmX2 hown hK hP hD hS 0 rfl rfl 2 (by decide) (hts (.fieldLink RX4 31 "PageOne$Item" "pieces" "[LPageOne$Piece;") (by decide +kernel)) (fun _ h9 => h9) rfl hin rfl (by decide +kernel) rfl rfl (Nat.le_of_ble_eq_true rfl) dX4_init_45 (fun H locs hP hD hS => ?_)
  have hP : va_P (dC, dI) vwCl [(h0, .inr (2, [.int p0, .int 4, .ref q_4, .int 0, .ref q_1, .int 0, .int 0])), (q_1, .inl (cI, 5, .inl (fun _ => 0))), (q_4, .inl (cA_5, 1, .inr (.inr (.inr (.inr (fun _ => none))))))] H := hP
  have hD : va_D A [(h0, .inr (2, [.int p0, .int 4, .ref q_4, .int 0, .ref q_1, .int 0, .int 0])), (q_1, .inl (cI, 5, .inl (fun _ => 0))), (q_4, .inl (cA_5, 1, .inr (.inr (.inr (.inr (fun _ => none))))))] := hD
  refine lv_aload_n hx hb dX4_init_48 rfl (lv_at hl 0 rfl) ?_
  refine va_get (D := (dC, dI)) (ci := 2) (v := .ref q_1) (C := RX2) (T := TX2) (N := 7) hx hb hts (by decide +kernel) hown hK hP 0 rfl rfl 4 (by decide) (hts (.fieldLink RX4 15 "PageOne$Item" "first" "[I") (by decide +kernel)) (fun _ h9 => h9) rfl dX4_init_49 ?_
  refine lv_iconst (v := (-1)) hx hb dX4_init_52 (by decide) ?_
  have hPc := hP.sub (ws' := [(q_1, .inl (cI, 5, .inl (fun _ => 0)))]) [1] rfl
  have hKc := hK.sub (tys' := [(cI, .int)]) [0] rfl
  have hDc := hD.sub (ws' := [(q_1, .inl (cI, 5, .inl (fun _ => 0)))]) [1] (by decide) rfl
  have hFc := va_free (wc := [(q_1, .inl (cI, 5, .inl (fun _ => 0)))]) hD hS hA [1] rfl
  refine va_callv (va_runS (As := [.ref q_1, .int (-1)]) (rest := []) ⟨hx, hb, hml, hown, hts⟩ (j_fill l dC dI q_1 cI 5 (fun _ => 0) (-1) (by decide) H.size) (va_cwS 2 hts gX4_init_J7_fill_53178 rfl rfl rfl (by decide +kernel) ⟨Nat.le_of_ble_eq_true rfl, Nat.le_of_ble_eq_true rfl⟩) ⟨gw_fb, fun U hU hW => ⟨rfl, by rw [hU], pw_to hU hW hPc hKc hN, hDc.weaken (fun _ _ _ _ => trivial)⟩⟩ rfl rfl hl.1 rfl (lv_room (Nat.le_of_ble_eq_true rfl)) dX4_init_53 ⟨Nat.le_of_ble_eq_true rfl, Nat.le_of_ble_eq_true rfl⟩) hS (fun q _ h => hFc q h) hFc (fun u t H1 locs ht hvm hw hB hz1 hk1 hS => ?_)
  obtain ⟨hP1, hD1⟩ := hB
  rw [ht] at hP1
  obtain ⟨hP, hD⟩ := va_join (wr := [(h0, .inr (2, [.int p0, .int 4, .ref q_4, .int 0, .ref q_1, .int 0, .int 0])), (q_4, .inl (cA_5, 1, .inr (.inr (.inr (.inr (fun _ => none))))))]) (w1 := [(q_1, .inl (cI, 5, .inl (fun _ => (-1))))]) hP hD [1] [0, 2] rfl rfl (by decide) (by decide) hk1 hFc hP1 hD1
  generalize H1 = H at hP hS ⊢
  have hP : va_P (dC, dI) vwCl [(h0, .inr (2, [.int p0, .int 4, .ref q_4, .int 0, .ref q_1, .int 0, .int 0])), (q_4, .inl (cA_5, 1, .inr (.inr (.inr (.inr (fun _ => none)))))), (q_1, .inl (cI, 5, .inl (fun _ => (-1))))] H := hP
  have hD : va_D A [(h0, .inr (2, [.int p0, .int 4, .ref q_4, .int 0, .ref q_1, .int 0, .int 0])), (q_4, .inl (cA_5, 1, .inr (.inr (.inr (.inr (fun _ => none)))))), (q_1, .inl (cI, 5, .inl (fun _ => (-1))))] := hD
  refine W.widen (k := 2) (n := 6) (Nat.le_of_ble_eq_true rfl) (Nat.le_of_ble_eq_true rfl) ?_
  exact W.vret hx hb hr (fun t ht hW => ⟨⟨(), rfl, trivial, ⟨q_1, q_4, by rw [ht]; exact hP.sub [0] rfl, hD.sub [0] (by decide) rfl⟩⟩, hS.F ht⟩) hS.2.2 dX4_init_56
set_option maxHeartbeats 4000000 in
set_option maxRecDepth 100000 in
theorem x_Piece (l : Launch) (dC : Nat → ClassId) (dI : Nat → Nat → Nat) (h0 : Nat) (p0 p1 p2 p3 p4 : Int32) (sz : Nat) : Met l yX8_init wsX8_init ({ frames := 1, cells := 0, slots := 0, locals := 12 }) (va_Pc [.ref h0, .null, .int p0, .int p1, .int p2, .int p3, .int p4] (fun U => U.heap.size = sz ∧ PW dC dI [(h0, .inr (7, [.null, .int 0, .int 0, .int 0, .int 0, .int 0]))] [] U ∧ va_D (fun _ => True) [(h0, .inr (7, [.null, .int 0, .int 0, .int 0, .int 0, .int 0]))])) (va_Qv (fun _ : Unit => True) (fun _ t => va_P (dC, dI) vwCl [(h0, .inr (7, [.null, .int p0, .int p1, .int p2, .int p3, .int p4]))] t.heap ∧ va_D (va_A [(h0, .inr (7, [.null, .int 0, .int 0, .int 0, .int 0, .int 0]))] sz) [(h0, .inr (7, [.null, .int p0, .int p1, .int p2, .int p3, .int p4]))]) (va_A [(h0, .inr (7, [.null, .int 0, .int 0, .int 0, .int 0, .int 0]))] sz)) 0 0 (va_A [(h0, .inr (7, [.null, .int 0, .int 0, .int 0, .int 0, .int 0]))] sz) := by
  refine Met.ofW (cc := cX8_init) (maxL := 7) (ret := none) (by decide) rfl ?_
  intro p e s m args below meth c s₁ B hml hv
  obtain ⟨rfl, hsz, ⟨hP, hK, hN⟩, hD0⟩ := hv
  have hx := B.exec
  have hb := B.bytes
  have hr := B.returns
  have hts := atoms_spec (ws := wsX8_init) B.pre
  have hown : s.vm.findClass RX8 = some m.cls := findClass_of_methodNamed B.named
  have hlocks := B.notSynchronized
  have hin : meth.name = "<init>" := (name_of_methodNamed B.named B.method).1
  subst hsz
  have hD := hD0.self (sz := s.heap.size)
  generalize hAe : va_A [(h0, .inr (7, [.null, .int 0, .int 0, .int 0, .int 0, .int 0]))] s.heap.size = A at hD ⊢
  have hA : ∀ q : Nat, s.heap.size ≤ q → A q := fun q h => by rw [← hAe]; exact Or.inr h
  have hS : va_S A s.heap s.heap [] := va_S.rf
  have hP : va_P (dC, dI) vwCl [(h0, .inr (7, [.null, .int 0, .int 0, .int 0, .int 0, .int 0]))] s.heap := hP
  have hl := lv_entry ([.ref h0, .null, .int p0, .int p1, .int p2, .int p3, .int p4]) (n := 7) (Nat.le_of_ble_eq_true rfl)
  rw [lg_entry_eq]
  generalize (lg_sl ([.ref h0, .null, .int p0, .int p1, .int p2, .int p3, .int p4]) ++ List.replicate (7 - (lg_sl ([.ref h0, .null, .int p0, .int p1, .int p2, .int p3, .int p4])).length) Slot.unset).toArray = ls at hl ⊢
  have hl : lv_has ls 7 [(0, .ref h0), (1, .null), (2, .int p0), (3, .int p1), (4, .int p2), (5, .int p3), (6, .int p4)] := hl
  refine lv_aload_n hx hb dX8_init_0 rfl (lv_at hl 0 rfl) ?_
  refine W.objInit hx hb hown (hts (.methodLink RX8 3 objectInit) (by decide +kernel)) (hts (.instanceMethod objectInit) (by decide +kernel)) (hts (.code objectInit ⟨#[0xb1]⟩ 1 none) (by decide +kernel)) rfl (by rw [hml]; exact hl.1) rfl dX8_init_1 (Nat.le_of_ble_eq_true rfl) (Nat.le_of_ble_eq_true rfl) ?_
  refine W.eq (g2 := F0 m 4 ls []) rfl ?_
  refine lv_aload_n hx hb dX8_init_4 rfl (lv_at hl 0 rfl) ?_
  refine lv_aload_nN hx hb dX8_init_5 rfl (lv_at hl 1 rfl) ?_
  refine va_putF (D := (dC, dI)) (ci := 7) (v := .null) (ty := .object "PageOne$Item") (C := RX8) (T := TX8) (N := 6) hx hb hts (by decide +kernel) tyX8 tyX8_ok nmX8 hown hK hP hD hS 0 rfl rfl 0 (by decide) (hts (.fieldLink RX8 9 "PageOne$Piece" "item" "LPageOne$Item;") (by decide +kernel)) (fun _ h9 => h9) rfl hin rfl (by decide +kernel) rfl rfl (Nat.le_of_ble_eq_true rfl) dX8_init_6 (fun H locs hP hD hS => ?_)
  have hP : va_P (dC, dI) vwCl [(h0, .inr (7, [.null, .int 0, .int 0, .int 0, .int 0, .int 0]))] H := hP
  have hD : va_D A [(h0, .inr (7, [.null, .int 0, .int 0, .int 0, .int 0, .int 0]))] := hD
  refine lv_aload_n hx hb dX8_init_9 rfl (lv_at hl 0 rfl) ?_
  refine lv_iload_n hx hb dX8_init_10 rfl (lv_at hl 2 rfl) ?_
  refine va_putF (D := (dC, dI)) (ci := 7) (v := .int p0) (ty := .int) (C := RX8) (T := TX8) (N := 6) hx hb hts (by decide +kernel) tyX8 tyX8_ok nmX8 hown hK hP hD hS 0 rfl rfl 1 (by decide) (hts (.fieldLink RX8 15 "PageOne$Piece" "page" "I") (by decide +kernel)) (fun _ h9 => h9) rfl hin rfl (by decide +kernel) rfl rfl (Nat.le_of_ble_eq_true rfl) dX8_init_11 (fun H locs hP hD hS => ?_)
  have hP : va_P (dC, dI) vwCl [(h0, .inr (7, [.null, .int p0, .int 0, .int 0, .int 0, .int 0]))] H := hP
  have hD : va_D A [(h0, .inr (7, [.null, .int p0, .int 0, .int 0, .int 0, .int 0]))] := hD
  refine lv_aload_n hx hb dX8_init_14 rfl (lv_at hl 0 rfl) ?_
  refine lv_iload_n hx hb dX8_init_15 rfl (lv_at hl 3 rfl) ?_
  refine va_putF (D := (dC, dI)) (ci := 7) (v := .int p1) (ty := .int) (C := RX8) (T := TX8) (N := 6) hx hb hts (by decide +kernel) tyX8 tyX8_ok nmX8 hown hK hP hD hS 0 rfl rfl 2 (by decide) (hts (.fieldLink RX8 19 "PageOne$Piece" "column" "I") (by decide +kernel)) (fun _ h9 => h9) rfl hin rfl (by decide +kernel) rfl rfl (Nat.le_of_ble_eq_true rfl) dX8_init_16 (fun H locs hP hD hS => ?_)
  have hP : va_P (dC, dI) vwCl [(h0, .inr (7, [.null, .int p0, .int p1, .int 0, .int 0, .int 0]))] H := hP
  have hD : va_D A [(h0, .inr (7, [.null, .int p0, .int p1, .int 0, .int 0, .int 0]))] := hD
  refine lv_aload_n hx hb dX8_init_19 rfl (lv_at hl 0 rfl) ?_
  refine lv_iload hx hb dX8_init_20 (lv_at hl 4 rfl) ?_
  refine va_putF (D := (dC, dI)) (ci := 7) (v := .int p2) (ty := .int) (C := RX8) (T := TX8) (N := 6) hx hb hts (by decide +kernel) tyX8 tyX8_ok nmX8 hown hK hP hD hS 0 rfl rfl 3 (by decide) (hts (.fieldLink RX8 22 "PageOne$Piece" "line" "I") (by decide +kernel)) (fun _ h9 => h9) rfl hin rfl (by decide +kernel) rfl rfl (Nat.le_of_ble_eq_true rfl) dX8_init_22 (fun H locs hP hD hS => ?_)
  have hP : va_P (dC, dI) vwCl [(h0, .inr (7, [.null, .int p0, .int p1, .int p2, .int 0, .int 0]))] H := hP
  have hD : va_D A [(h0, .inr (7, [.null, .int p0, .int p1, .int p2, .int 0, .int 0]))] := hD
  refine lv_aload_n hx hb dX8_init_25 rfl (lv_at hl 0 rfl) ?_
  refine lv_iload hx hb dX8_init_26 (lv_at hl 5 rfl) ?_
  refine va_putF (D := (dC, dI)) (ci := 7) (v := .int p3) (ty := .int) (C := RX8) (T := TX8) (N := 6) hx hb hts (by decide +kernel) tyX8 tyX8_ok nmX8 hown hK hP hD hS 0 rfl rfl 4 (by decide) (hts (.fieldLink RX8 25 "PageOne$Piece" "w" "I") (by decide +kernel)) (fun _ h9 => h9) rfl hin rfl (by decide +kernel) rfl rfl (Nat.le_of_ble_eq_true rfl) dX8_init_28 (fun H locs hP hD hS => ?_)
  have hP : va_P (dC, dI) vwCl [(h0, .inr (7, [.null, .int p0, .int p1, .int p2, .int p3, .int 0]))] H := hP
  have hD : va_D A [(h0, .inr (7, [.null, .int p0, .int p1, .int p2, .int p3, .int 0]))] := hD
  refine lv_aload_n hx hb dX8_init_31 rfl (lv_at hl 0 rfl) ?_
  refine lv_iload hx hb dX8_init_32 (lv_at hl 6 rfl) ?_
  refine va_putF (D := (dC, dI)) (ci := 7) (v := .int p4) (ty := .int) (C := RX8) (T := TX8) (N := 6) hx hb hts (by decide +kernel) tyX8 tyX8_ok nmX8 hown hK hP hD hS 0 rfl rfl 5 (by decide) (hts (.fieldLink RX8 28 "PageOne$Piece" "h" "I") (by decide +kernel)) (fun _ h9 => h9) rfl hin rfl (by decide +kernel) rfl rfl (Nat.le_of_ble_eq_true rfl) dX8_init_34 (fun H locs hP hD hS => ?_)
  have hP : va_P (dC, dI) vwCl [(h0, .inr (7, [.null, .int p0, .int p1, .int p2, .int p3, .int p4]))] H := hP
  have hD : va_D A [(h0, .inr (7, [.null, .int p0, .int p1, .int p2, .int p3, .int p4]))] := hD
  exact W.vret hx hb hr (fun t ht hW => ⟨⟨(), rfl, trivial, ⟨by rw [ht]; exact hP.sub [0] rfl, hD.sub [0] (by decide) rfl⟩⟩, hS.F ht⟩) hS.2.2 dX8_init_37
set_option maxHeartbeats 4000000 in
set_option maxRecDepth 100000 in
theorem x_Breach (l : Launch) (dC : Nat → ClassId) (dI : Nat → Nat → Nat) (h0 : Nat) (p0 p1 p2 : Int32) (sz : Nat) : Met l yX1_init wsX1_init ({ frames := 1, cells := 0, slots := 0, locals := 12 }) (va_Pc [.ref h0, .int p0, .int p1, .int p2] (fun U => U.heap.size = sz ∧ PW dC dI [(h0, .inr (1, [.int 0, .int 0, .int 0]))] [] U ∧ va_D (fun _ => True) [(h0, .inr (1, [.int 0, .int 0, .int 0]))])) (va_Qv (fun _ : Unit => True) (fun _ t => va_P (dC, dI) vwCl [(h0, .inr (1, [.int p0, .int p1, .int p2]))] t.heap ∧ va_D (va_A [(h0, .inr (1, [.int 0, .int 0, .int 0]))] sz) [(h0, .inr (1, [.int p0, .int p1, .int p2]))]) (va_A [(h0, .inr (1, [.int 0, .int 0, .int 0]))] sz)) 0 0 (va_A [(h0, .inr (1, [.int 0, .int 0, .int 0]))] sz) := by
  refine Met.ofW (cc := cX1_init) (maxL := 4) (ret := none) (by decide) rfl ?_
  intro p e s m args below meth c s₁ B hml hv
  obtain ⟨rfl, hsz, ⟨hP, hK, hN⟩, hD0⟩ := hv
  have hx := B.exec
  have hb := B.bytes
  have hr := B.returns
  have hts := atoms_spec (ws := wsX1_init) B.pre
  have hown : s.vm.findClass RX1 = some m.cls := findClass_of_methodNamed B.named
  have hlocks := B.notSynchronized
  have hin : meth.name = "<init>" := (name_of_methodNamed B.named B.method).1
  subst hsz
  have hD := hD0.self (sz := s.heap.size)
  generalize hAe : va_A [(h0, .inr (1, [.int 0, .int 0, .int 0]))] s.heap.size = A at hD ⊢
  have hA : ∀ q : Nat, s.heap.size ≤ q → A q := fun q h => by rw [← hAe]; exact Or.inr h
  have hS : va_S A s.heap s.heap [] := va_S.rf
  have hP : va_P (dC, dI) vwCl [(h0, .inr (1, [.int 0, .int 0, .int 0]))] s.heap := hP
  have hl := lv_entry ([.ref h0, .int p0, .int p1, .int p2]) (n := 4) (Nat.le_of_ble_eq_true rfl)
  rw [lg_entry_eq]
  generalize (lg_sl ([.ref h0, .int p0, .int p1, .int p2]) ++ List.replicate (4 - (lg_sl ([.ref h0, .int p0, .int p1, .int p2])).length) Slot.unset).toArray = ls at hl ⊢
  have hl : lv_has ls 4 [(0, .ref h0), (1, .int p0), (2, .int p1), (3, .int p2)] := hl
  refine lv_aload_n hx hb dX1_init_0 rfl (lv_at hl 0 rfl) ?_
  refine W.objInit hx hb hown (hts (.methodLink RX1 1 objectInit) (by decide +kernel)) (hts (.instanceMethod objectInit) (by decide +kernel)) (hts (.code objectInit ⟨#[0xb1]⟩ 1 none) (by decide +kernel)) rfl (by rw [hml]; exact hl.1) rfl dX1_init_1 (Nat.le_of_ble_eq_true rfl) (Nat.le_of_ble_eq_true rfl) ?_
  refine W.eq (g2 := F0 m 4 ls []) rfl ?_
  refine lv_aload_n hx hb dX1_init_4 rfl (lv_at hl 0 rfl) ?_
  refine lv_iload_n hx hb dX1_init_5 rfl (lv_at hl 1 rfl) ?_
  refine va_putF (D := (dC, dI)) (ci := 1) (v := .int p0) (ty := .int) (C := RX1) (T := TX1) (N := 3) hx hb hts (by decide +kernel) tyX1 tyX1_ok nmX1 hown hK hP hD hS 0 rfl rfl 0 (by decide) (hts (.fieldLink RX1 7 "PageOne$Breach" "kind" "I") (by decide +kernel)) (fun _ h9 => h9) rfl hin rfl (by decide +kernel) rfl rfl (Nat.le_of_ble_eq_true rfl) dX1_init_6 (fun H locs hP hD hS => ?_)
  have hP : va_P (dC, dI) vwCl [(h0, .inr (1, [.int p0, .int 0, .int 0]))] H := hP
  have hD : va_D A [(h0, .inr (1, [.int p0, .int 0, .int 0]))] := hD
  refine lv_aload_n hx hb dX1_init_9 rfl (lv_at hl 0 rfl) ?_
  refine lv_iload_n hx hb dX1_init_10 rfl (lv_at hl 2 rfl) ?_
  refine va_putF (D := (dC, dI)) (ci := 1) (v := .int p1) (ty := .int) (C := RX1) (T := TX1) (N := 3) hx hb hts (by decide +kernel) tyX1 tyX1_ok nmX1 hown hK hP hD hS 0 rfl rfl 1 (by decide) (hts (.fieldLink RX1 13 "PageOne$Breach" "first" "I") (by decide +kernel)) (fun _ h9 => h9) rfl hin rfl (by decide +kernel) rfl rfl (Nat.le_of_ble_eq_true rfl) dX1_init_11 (fun H locs hP hD hS => ?_)
  have hP : va_P (dC, dI) vwCl [(h0, .inr (1, [.int p0, .int p1, .int 0]))] H := hP
  have hD : va_D A [(h0, .inr (1, [.int p0, .int p1, .int 0]))] := hD
  refine lv_aload_n hx hb dX1_init_14 rfl (lv_at hl 0 rfl) ?_
  refine lv_iload_n hx hb dX1_init_15 rfl (lv_at hl 3 rfl) ?_
  refine va_putF (D := (dC, dI)) (ci := 1) (v := .int p2) (ty := .int) (C := RX1) (T := TX1) (N := 3) hx hb hts (by decide +kernel) tyX1 tyX1_ok nmX1 hown hK hP hD hS 0 rfl rfl 2 (by decide) (hts (.fieldLink RX1 16 "PageOne$Breach" "other" "I") (by decide +kernel)) (fun _ h9 => h9) rfl hin rfl (by decide +kernel) rfl rfl (Nat.le_of_ble_eq_true rfl) dX1_init_16 (fun H locs hP hD hS => ?_)
  have hP : va_P (dC, dI) vwCl [(h0, .inr (1, [.int p0, .int p1, .int p2]))] H := hP
  have hD : va_D A [(h0, .inr (1, [.int p0, .int p1, .int p2]))] := hD
  exact W.vret hx hb hr (fun t ht hW => ⟨⟨(), rfl, trivial, ⟨by rw [ht]; exact hP.sub [0] rfl, hD.sub [0] (by decide) rfl⟩⟩, hS.F ht⟩) hS.2.2 dX1_init_19
set_option maxHeartbeats 4000000 in
set_option maxRecDepth 100000 in
theorem x_Story (l : Launch) (dC : Nat → ClassId) (dI : Nat → Nat → Nat) (h0 : Nat) (cI cZ : ClassId) (p0 p1 : Int32) (sz : Nat) : Met l yX10_init wsX10_init ({ frames := 2, cells := 4, slots := 101, locals := 46 }) (va_Pc [.ref h0, .int p0, .int p1] (fun U => U.heap.size = sz ∧ PW dC dI [(h0, .inr (9, [.int 0, .int 0, .null, .int 0, .null, .int 0, .null, .int 0, .null]))] [(cI, .int), (cZ, .boolean)] U ∧ va_D (fun _ => True) [(h0, .inr (9, [.int 0, .int 0, .null, .int 0, .null, .int 0, .null, .int 0, .null]))])) (va_Qv (fun _ : Unit => True) (fun _ t => ∃ r0 r1 r2 r3 : Nat, va_P (dC, dI) vwCl [(h0, .inr (9, [.int p0, .int 0, .ref r0, .int 0, .ref r1, .int p1, .ref r2, .int 0, .ref r3]))] t.heap ∧ va_D (va_A [(h0, .inr (9, [.int 0, .int 0, .null, .int 0, .null, .int 0, .null, .int 0, .null]))] sz) [(h0, .inr (9, [.int p0, .int 0, .ref r0, .int 0, .ref r1, .int p1, .ref r2, .int 0, .ref r3]))]) (va_A [(h0, .inr (9, [.int 0, .int 0, .null, .int 0, .null, .int 0, .null, .int 0, .null]))] sz)) 4 101 (va_A [(h0, .inr (9, [.int 0, .int 0, .null, .int 0, .null, .int 0, .null, .int 0, .null]))] sz) := by
  refine Met.ofW (cc := cX10_init) (maxL := 3) (ret := none) (by decide) rfl ?_
  intro p e s m args below meth c s₁ B hml hv
  obtain ⟨rfl, hsz, ⟨hP, hK, hN⟩, hD0⟩ := hv
  have hx := B.exec
  have hb := B.bytes
  have hr := B.returns
  have hts := atoms_spec (ws := wsX10_init) B.pre
  have hown : s.vm.findClass RX10 = some m.cls := findClass_of_methodNamed B.named
  have hlocks := B.notSynchronized
  have hin : meth.name = "<init>" := (name_of_methodNamed B.named B.method).1
  subst hsz
  have hD := hD0.self (sz := s.heap.size)
  generalize hAe : va_A [(h0, .inr (9, [.int 0, .int 0, .null, .int 0, .null, .int 0, .null, .int 0, .null]))] s.heap.size = A at hD ⊢
  have hA : ∀ q : Nat, s.heap.size ≤ q → A q := fun q h => by rw [← hAe]; exact Or.inr h
  have hS : va_S A s.heap s.heap [] := va_S.rf
  have hP : va_P (dC, dI) vwCl [(h0, .inr (9, [.int 0, .int 0, .null, .int 0, .null, .int 0, .null, .int 0, .null]))] s.heap := hP
  have hl := lv_entry ([.ref h0, .int p0, .int p1]) (n := 3) (Nat.le_of_ble_eq_true rfl)
  rw [lg_entry_eq]
  generalize (lg_sl ([.ref h0, .int p0, .int p1]) ++ List.replicate (3 - (lg_sl ([.ref h0, .int p0, .int p1])).length) Slot.unset).toArray = ls at hl ⊢
  have hl : lv_has ls 3 [(0, .ref h0), (1, .int p0), (2, .int p1)] := hl
  refine lv_aload_n hx hb dX10_init_0 rfl (lv_at hl 0 rfl) ?_
  refine lv_iload_n hx hb dX10_init_1 rfl (lv_at hl 1 rfl) ?_
  refine lv_iconst (v := 0) hx hb dX10_init_2 (by decide) ?_
  refine lv_bipush (v := 6) hx hb dX10_init_3 (by decide) ?_
  have hPc := hP.sub (ws' := [(h0, .inr (9, [.int 0, .int 0, .null, .int 0, .null, .int 0, .null, .int 0, .null]))]) [0] rfl
  have hKc := hK.sub (tys' := [(cI, .int)]) [0] rfl
  have hDc := hD.sub (ws' := [(h0, .inr (9, [.int 0, .int 0, .null, .int 0, .null, .int 0, .null, .int 0, .null]))]) [0] (by decide) rfl
  have hFc := va_free (wc := [(h0, .inr (9, [.int 0, .int 0, .null, .int 0, .null, .int 0, .null, .int 0, .null]))]) hD hS hA [0] rfl
  refine va_callv (va_runI (As := [.int p0, .int 0, .int 6]) (rest := []) ⟨hx, hb, hml, hown, hts⟩ (x_Item_Story l dC dI h0 cI p0 s.heap.size) (cwI 3 hts gX10_init_X4_init rfl rfl rfl (hts (.initialized RX4) (by decide +kernel)) (hts (.methodLink RX10 3 yX4_init) (by decide +kernel)) (hts (.instanceMethod yX4_init) (by decide +kernel)) rfl (by decide +kernel) ⟨Nat.le_of_ble_eq_true rfl, Nat.le_of_ble_eq_true rfl⟩) ⟨gw_fb, fun U hU hW => ⟨rfl, by rw [hU], pw_to hU hW hPc hKc hN, hDc.weaken (fun _ _ _ _ => trivial)⟩⟩ rfl rfl hl.1 rfl (lv_room (Nat.le_of_ble_eq_true rfl)) dX10_init_5 ⟨Nat.le_of_ble_eq_true rfl, Nat.le_of_ble_eq_true rfl⟩) hS (fun q _ h => hFc q h) hFc (fun u t H1 locs ht hvm hw hB hz1 hk1 hS => ?_)
  obtain ⟨qa_1, qa_2, hP1, hD1⟩ := hB
  rw [ht] at hP1
  obtain ⟨hP, hD⟩ := va_join (wr := []) (w1 := [(h0, .inr (9, [.int p0, .int 0, .ref qa_2, .int 0, .ref qa_1, .int 0, .null, .int 0, .null]))]) hP hD [0] [] rfl rfl (by decide) (by decide) hk1 hFc hP1 hD1
  generalize H1 = H at hP hS ⊢
  have hP : va_P (dC, dI) vwCl [(h0, .inr (9, [.int p0, .int 0, .ref qa_2, .int 0, .ref qa_1, .int 0, .null, .int 0, .null]))] H := hP
  have hD : va_D A [(h0, .inr (9, [.int p0, .int 0, .ref qa_2, .int 0, .ref qa_1, .int 0, .null, .int 0, .null]))] := hD
  refine W.widen (k := 2) (n := 11) (Nat.le_of_ble_eq_true rfl) (Nat.le_of_ble_eq_true rfl) ?_
  refine lv_aload_n hx hb dX10_init_8 rfl (lv_at hl 0 rfl) ?_
  refine lv_bipush (v := 80) hx hb dX10_init_9 (by decide) ?_
  refine va_newa (atype := .int) (ty := .int) (a0 := (80, .inl (fun _ => 0))) (N' := 80) hx hb (hts (.arrayClass .int) (by decide +kernel)) rfl hK hP hD hS hA (newI 80) (by decide) (by decide) (nbI (Nat.le_of_ble_eq_true rfl)) (Nat.le_of_ble_eq_true rfl) (Nat.le_of_ble_eq_true rfl) dX10_init_11 (fun q_3 cA_4 H hK hP hD hS => ?_)
  obtain rfl : cI = cA_4 := kuniq hK 0 2 rfl rfl
  have hK := hK.sub (tys' := [(cI, .int), (cZ, .boolean)]) [0, 1] rfl
  have hK : va_K (dC, dI) vwCl [(cI, .int), (cZ, .boolean)] s := hK
  have hP : va_P (dC, dI) vwCl [(h0, .inr (9, [.int p0, .int 0, .ref qa_2, .int 0, .ref qa_1, .int 0, .null, .int 0, .null])), (q_3, .inl (cI, 80, .inl (fun _ => 0)))] H := hP
  have hD : va_D A [(h0, .inr (9, [.int p0, .int 0, .ref qa_2, .int 0, .ref qa_1, .int 0, .null, .int 0, .null])), (q_3, .inl (cI, 80, .inl (fun _ => 0)))] := hD
  refine W.widen (k := 3) (n := 91) (Nat.le_of_ble_eq_true rfl) (Nat.le_of_ble_eq_true rfl) ?_
  refine va_putF (D := (dC, dI)) (ci := 9) (v := .ref q_3) (ty := .array .int) (C := RX10) (T := TX10) (N := 9) hx hb hts (by decide +kernel) tyX10 tyX10_ok nmX10 hown hK hP hD hS 0 rfl rfl 6 (by decide) (hts (.fieldLink RX10 9 "PageOne$Story" "widths" "[I") (by decide +kernel)) (fun _ h9 => h9) rfl hin rfl (by decide +kernel) rfl rfl (Nat.le_of_ble_eq_true rfl) dX10_init_13 (fun H locs hP hD hS => ?_)
  have hP : va_P (dC, dI) vwCl [(h0, .inr (9, [.int p0, .int 0, .ref qa_2, .int 0, .ref qa_1, .int 0, .ref q_3, .int 0, .null])), (q_3, .inl (cI, 80, .inl (fun _ => 0)))] H := hP
  have hD : va_D A [(h0, .inr (9, [.int p0, .int 0, .ref qa_2, .int 0, .ref qa_1, .int 0, .ref q_3, .int 0, .null])), (q_3, .inl (cI, 80, .inl (fun _ => 0)))] := hD
  refine lv_aload_n hx hb dX10_init_16 rfl (lv_at hl 0 rfl) ?_
  refine lv_iconst (v := 0) hx hb dX10_init_17 (by decide) ?_
  refine va_put (D := (dC, dI)) (ci := 9) (v := .int 0) (ty := .int) (C := RX10) (T := TX10) (N := 9) hx hb hts (by decide +kernel) tyX10 tyX10_ok nmX10 hown hK hP hD hS 0 rfl rfl 7 (by decide) (hts (.fieldLink RX10 15 "PageOne$Story" "come" "I") (by decide +kernel)) (fun _ h9 => h9) rfl (by decide +kernel) rfl rfl (Nat.le_of_ble_eq_true rfl) dX10_init_18 (fun H locs hP hD hS => ?_)
  have hP : va_P (dC, dI) vwCl [(h0, .inr (9, [.int p0, .int 0, .ref qa_2, .int 0, .ref qa_1, .int 0, .ref q_3, .int 0, .null])), (q_3, .inl (cI, 80, .inl (fun _ => 0)))] H := hP
  have hD : va_D A [(h0, .inr (9, [.int p0, .int 0, .ref qa_2, .int 0, .ref qa_1, .int 0, .ref q_3, .int 0, .null])), (q_3, .inl (cI, 80, .inl (fun _ => 0)))] := hD
  refine lv_aload_n hx hb dX10_init_21 rfl (lv_at hl 0 rfl) ?_
  refine lv_bipush (v := 10) hx hb dX10_init_22 (by decide) ?_
  refine va_newa (atype := .boolean) (ty := .boolean) (a0 := (10, .inl (fun _ => 0))) (N' := 10) hx hb (hts (.arrayClass .boolean) (by decide +kernel)) rfl hK hP hD hS hA (newZ 10) (by decide) (by decide) (nbZ (Nat.le_of_ble_eq_true rfl)) (Nat.le_of_ble_eq_true rfl) (Nat.le_of_ble_eq_true rfl) dX10_init_24 (fun q_5 cA_6 H hK hP hD hS => ?_)
  obtain rfl : cZ = cA_6 := kuniq hK 1 2 rfl rfl
  have hK := hK.sub (tys' := [(cI, .int), (cZ, .boolean)]) [0, 1] rfl
  have hK : va_K (dC, dI) vwCl [(cI, .int), (cZ, .boolean)] s := hK
  have hP : va_P (dC, dI) vwCl [(h0, .inr (9, [.int p0, .int 0, .ref qa_2, .int 0, .ref qa_1, .int 0, .ref q_3, .int 0, .null])), (q_3, .inl (cI, 80, .inl (fun _ => 0))), (q_5, .inl (cZ, 10, .inl (fun _ => 0)))] H := hP
  have hD : va_D A [(h0, .inr (9, [.int p0, .int 0, .ref qa_2, .int 0, .ref qa_1, .int 0, .ref q_3, .int 0, .null])), (q_3, .inl (cI, 80, .inl (fun _ => 0))), (q_5, .inl (cZ, 10, .inl (fun _ => 0)))] := hD
  refine W.widen (k := 4) (n := 101) (Nat.le_of_ble_eq_true rfl) (Nat.le_of_ble_eq_true rfl) ?_
  refine va_putF (D := (dC, dI)) (ci := 9) (v := .ref q_5) (ty := .array .boolean) (C := RX10) (T := TX10) (N := 9) hx hb hts (by decide +kernel) tyX10 tyX10_ok nmX10 hown hK hP hD hS 0 rfl rfl 8 (by decide) (hts (.fieldLink RX10 19 "PageOne$Story" "named" "[Z") (by decide +kernel)) (fun _ h9 => h9) rfl hin rfl (by decide +kernel) rfl rfl (Nat.le_of_ble_eq_true rfl) dX10_init_26 (fun H locs hP hD hS => ?_)
  have hP : va_P (dC, dI) vwCl [(h0, .inr (9, [.int p0, .int 0, .ref qa_2, .int 0, .ref qa_1, .int 0, .ref q_3, .int 0, .ref q_5])), (q_3, .inl (cI, 80, .inl (fun _ => 0))), (q_5, .inl (cZ, 10, .inl (fun _ => 0)))] H := hP
  have hD : va_D A [(h0, .inr (9, [.int p0, .int 0, .ref qa_2, .int 0, .ref qa_1, .int 0, .ref q_3, .int 0, .ref q_5])), (q_3, .inl (cI, 80, .inl (fun _ => 0))), (q_5, .inl (cZ, 10, .inl (fun _ => 0)))] := hD
  refine lv_aload_n hx hb dX10_init_29 rfl (lv_at hl 0 rfl) ?_
  refine lv_iload_n hx hb dX10_init_30 rfl (lv_at hl 2 rfl) ?_
  refine va_putF (D := (dC, dI)) (ci := 9) (v := .int p1) (ty := .int) (C := RX10) (T := TX10) (N := 9) hx hb hts (by decide +kernel) tyX10 tyX10_ok nmX10 hown hK hP hD hS 0 rfl rfl 5 (by decide) (hts (.fieldLink RX10 23 "PageOne$Story" "least" "I") (by decide +kernel)) (fun _ h9 => h9) rfl hin rfl (by decide +kernel) rfl rfl (Nat.le_of_ble_eq_true rfl) dX10_init_31 (fun H locs hP hD hS => ?_)
  have hP : va_P (dC, dI) vwCl [(h0, .inr (9, [.int p0, .int 0, .ref qa_2, .int 0, .ref qa_1, .int p1, .ref q_3, .int 0, .ref q_5])), (q_3, .inl (cI, 80, .inl (fun _ => 0))), (q_5, .inl (cZ, 10, .inl (fun _ => 0)))] H := hP
  have hD : va_D A [(h0, .inr (9, [.int p0, .int 0, .ref qa_2, .int 0, .ref qa_1, .int p1, .ref q_3, .int 0, .ref q_5])), (q_3, .inl (cI, 80, .inl (fun _ => 0))), (q_5, .inl (cZ, 10, .inl (fun _ => 0)))] := hD
  exact W.vret hx hb hr (fun t ht hW => ⟨⟨(), rfl, trivial, ⟨qa_2, qa_1, q_3, q_5, by rw [ht]; exact hP.sub [0] rfl, hD.sub [0] (by decide) rfl⟩⟩, hS.F ht⟩) hS.2.2 dX10_init_34
set_option maxHeartbeats 4000000 in
set_option maxRecDepth 100000 in
theorem x_enter_Story (l : Launch) (dC : Nat → ClassId) (dI : Nat → Nat → Nat) (h0 pg pl it ac rv : Nat) (io sp r0 r1 r2 r3 : Nat) (cT : ClassId) (n0 n1 n2 : Int32) (sz : Nat) : Met l yX11_enter wsX11_enter ({ frames := 0, cells := 0, slots := 0, locals := 0 }) (va_Pc [.ref h0, .ref io] (fun U => U.heap.size = sz ∧ PW dC dI [(h0, .inr (10, [.ref pg, .ref pl, .ref it, .int 0, .ref ac, .int 0, .ref rv, .int 0, .int 0])), (it, .inl (cT, 80, .inr (.inr (.inr (.inr (fun _ => none)))))), (io, .inr (9, [.int n0, .int 0, .ref r0, .int 0, .ref r1, .int n1, .ref r2, .int 0, .ref r3]))] [(cT, .object "PageOne$Item")] U ∧ va_D (fun _ => True) [(h0, .inr (10, [.ref pg, .ref pl, .ref it, .int 0, .ref ac, .int 0, .ref rv, .int 0, .int 0])), (it, .inl (cT, 80, .inr (.inr (.inr (.inr (fun _ => none)))))), (io, .inr (9, [.int n0, .int 0, .ref r0, .int 0, .ref r1, .int n1, .ref r2, .int 0, .ref r3]))])) (va_Qi (fun (r : Int32) (_ : Unit) => r = n0) (fun _ _ => True) (va_A [(h0, .inr (10, [.ref pg, .ref pl, .ref it, .int 0, .ref ac, .int 0, .ref rv, .int 0, .int 0])), (it, .inl (cT, 80, .inr (.inr (.inr (.inr (fun _ => none)))))), (io, .inr (9, [.int n0, .int 0, .ref r0, .int 0, .ref r1, .int n1, .ref r2, .int 0, .ref r3]))] sz)) 0 0 (va_A [(h0, .inr (10, [.ref pg, .ref pl, .ref it, .int 0, .ref ac, .int 0, .ref rv, .int 0, .int 0])), (it, .inl (cT, 80, .inr (.inr (.inr (.inr (fun _ => none)))))), (io, .inr (9, [.int n0, .int 0, .ref r0, .int 0, .ref r1, .int n1, .ref r2, .int 0, .ref r3]))] sz) := by
  refine Met.ofW (cc := cX11_enter) (maxL := 2) (ret := (some .int)) (by decide) rfl ?_
  intro p e s m args below meth c s₁ B hml hv
  obtain ⟨rfl, hsz, ⟨hP, hK, hN⟩, hD0⟩ := hv
  have hx := B.exec
  have hb := B.bytes
  have hr := B.returns
  have hts := atoms_spec (ws := wsX11_enter) B.pre
  have hown : s.vm.findClass RX11 = some m.cls := findClass_of_methodNamed B.named
  have hlocks := B.notSynchronized
  subst hsz
  have hD := hD0.self (sz := s.heap.size)
  generalize hAe : va_A [(h0, .inr (10, [.ref pg, .ref pl, .ref it, .int 0, .ref ac, .int 0, .ref rv, .int 0, .int 0])), (it, .inl (cT, 80, .inr (.inr (.inr (.inr (fun _ => none)))))), (io, .inr (9, [.int n0, .int 0, .ref r0, .int 0, .ref r1, .int n1, .ref r2, .int 0, .ref r3]))] s.heap.size = A at hD ⊢
  have hA : ∀ q : Nat, s.heap.size ≤ q → A q := fun q h => by rw [← hAe]; exact Or.inr h
  have hS : va_S A s.heap s.heap [] := va_S.rf
  have hP : va_P (dC, dI) vwCl [(h0, .inr (10, [.ref pg, .ref pl, .ref it, .int 0, .ref ac, .int 0, .ref rv, .int 0, .int 0])), (it, .inl (cT, 80, .inr (.inr (.inr (.inr (fun _ => none)))))), (io, .inr (9, [.int n0, .int 0, .ref r0, .int 0, .ref r1, .int n1, .ref r2, .int 0, .ref r3]))] s.heap := hP
  have hl := lv_entry ([.ref h0, .ref io]) (n := 2) (Nat.le_of_ble_eq_true rfl)
  rw [lg_entry_eq]
  generalize (lg_sl ([.ref h0, .ref io]) ++ List.replicate (2 - (lg_sl ([.ref h0, .ref io])).length) Slot.unset).toArray = ls at hl ⊢
  have hl : lv_has ls 2 [(0, .ref h0), (1, .ref io)] := hl
  refine lv_aload_n hx hb dX11_enter_0 rfl (lv_at hl 0 rfl) ?_
  refine va_get (D := (dC, dI)) (ci := 10) (v := .int 0) (C := RX11) (T := TX11) (N := 9) hx hb hts (by decide +kernel) hown hK hP 0 rfl rfl 3 (by decide) (hts (.fieldLink RX11 24 "PageOne" "itemCount" "I") (by decide +kernel)) (fun _ h9 => h9) rfl dX11_enter_1 ?_
  refine lv_bipush (v := 80) hx hb dX11_enter_4 (by decide) ?_
  refine lv_icmp_lt (tgt := 11) hx hb dX11_enter_6 (by decide) (fun c_1 => ?_) (fun c_1 => absurd (by decide) c_1)
  refine lv_aload_n hx hb dX11_enter_11 rfl (lv_at hl 0 rfl) ?_
  refine va_get (D := (dC, dI)) (ci := 10) (v := .ref it) (C := RX11) (T := TX11) (N := 9) hx hb hts (by decide +kernel) hown hK hP 0 rfl rfl 2 (by decide) (hts (.fieldLink RX11 20 "PageOne" "items" "[LPageOne$Item;") (by decide +kernel)) (fun _ h9 => h9) rfl dX11_enter_12 ?_
  refine lv_aload_n hx hb dX11_enter_15 rfl (lv_at hl 0 rfl) ?_
  refine va_get (D := (dC, dI)) (ci := 10) (v := .int 0) (C := RX11) (T := TX11) (N := 9) hx hb hts (by decide +kernel) hown hK hP 0 rfl rfl 3 (by decide) (hts (.fieldLink RX11 24 "PageOne" "itemCount" "I") (by decide +kernel)) (fun _ h9 => h9) rfl dX11_enter_16 ?_
  refine lv_aload_n hx hb dX11_enter_19 rfl (lv_at hl 1 rfl) ?_
  refine va_astqO (r := (RX10, TX10, 9)) (E := "PageOne$Item") hx hb hK hP hD hS 1 0 2 9 rfl rfl hN.cast_X10 rfl rfl (by unfold vp_in; decide) dX11_enter_20 (fun H locs hP hD hS => ?_)
  have hP : va_P (dC, dI) vwCl [(h0, .inr (10, [.ref pg, .ref pl, .ref it, .int 0, .ref ac, .int 0, .ref rv, .int 0, .int 0])), (it, .inl (cT, 80, .inr (.inr (.inr (.inr (va_up (fun _ => none) 0 (some io))))))), (io, .inr (9, [.int n0, .int 0, .ref r0, .int 0, .ref r1, .int n1, .ref r2, .int 0, .ref r3]))] H := hP
  have hD : va_D A [(h0, .inr (10, [.ref pg, .ref pl, .ref it, .int 0, .ref ac, .int 0, .ref rv, .int 0, .int 0])), (it, .inl (cT, 80, .inr (.inr (.inr (.inr (va_up (fun _ => none) 0 (some io))))))), (io, .inr (9, [.int n0, .int 0, .ref r0, .int 0, .ref r1, .int n1, .ref r2, .int 0, .ref r3]))] := hD
  refine lv_aload_n hx hb dX11_enter_21 rfl (lv_at hl 0 rfl) ?_
  refine lv_dup hx hb dX11_enter_22 rfl ?_
  refine va_get (D := (dC, dI)) (ci := 10) (v := .int 0) (C := RX11) (T := TX11) (N := 9) hx hb hts (by decide +kernel) hown hK hP 0 rfl rfl 3 (by decide) (hts (.fieldLink RX11 24 "PageOne" "itemCount" "I") (by decide +kernel)) (fun _ h9 => h9) rfl dX11_enter_23 ?_
  refine lv_iconst (v := 1) hx hb dX11_enter_26 (by decide) ?_
  refine lv_iadd hx hb dX11_enter_27 ?_
  refine lv_topi (fun k_2 ek_2 => ?_)
  obtain rfl : k_2 = 1 := ek_2.trans (by decide)
  refine va_put (D := (dC, dI)) (ci := 10) (v := .int 1) (ty := .int) (C := RX11) (T := TX11) (N := 9) hx hb hts (by decide +kernel) tyX11 tyX11_ok nmX11 hown hK hP hD hS 0 rfl rfl 3 (by decide) (hts (.fieldLink RX11 24 "PageOne" "itemCount" "I") (by decide +kernel)) (fun _ h9 => h9) rfl (by decide +kernel) rfl rfl (Nat.le_of_ble_eq_true rfl) dX11_enter_28 (fun H locs hP hD hS => ?_)
  have hP : va_P (dC, dI) vwCl [(h0, .inr (10, [.ref pg, .ref pl, .ref it, .int 1, .ref ac, .int 0, .ref rv, .int 0, .int 0])), (it, .inl (cT, 80, .inr (.inr (.inr (.inr (va_up (fun _ => none) 0 (some io))))))), (io, .inr (9, [.int n0, .int 0, .ref r0, .int 0, .ref r1, .int n1, .ref r2, .int 0, .ref r3]))] H := hP
  have hD : va_D A [(h0, .inr (10, [.ref pg, .ref pl, .ref it, .int 1, .ref ac, .int 0, .ref rv, .int 0, .int 0])), (it, .inl (cT, 80, .inr (.inr (.inr (.inr (va_up (fun _ => none) 0 (some io))))))), (io, .inr (9, [.int n0, .int 0, .ref r0, .int 0, .ref r1, .int n1, .ref r2, .int 0, .ref r3]))] := hD
  refine lv_aload_n hx hb dX11_enter_31 rfl (lv_at hl 1 rfl) ?_
  refine va_get (D := (dC, dI)) (ci := 9) (v := .int n0) (C := RX10) (T := TX10) (N := 9) hx hb hts (by decide +kernel) hown hK hP 2 rfl rfl 0 (by decide) (hts (.fieldLink RX11 285 "PageOne$Item" "number" "I") (by decide +kernel)) (fun _ h9 => h9) rfl dX11_enter_32 ?_
  exact W.iret (v := n0) hx hb hr (fun t ht hW => ⟨⟨n0, (), rfl, rfl, trivial⟩, hS.F ht⟩) hS.2.2 dX11_enter_35
set_option maxHeartbeats 4000000 in
set_option maxRecDepth 100000 in
theorem x_Picture (l : Launch) (dC : Nat → ClassId) (dI : Nat → Nat → Nat) (h0 : Nat) (cI : ClassId) (p0 : Int32) (sz : Nat) : Met l yX7_init wsX7_init ({ frames := 2, cells := 4, slots := 14, locals := 46 }) (va_Pc [.ref h0, .int p0] (fun U => U.heap.size = sz ∧ PW dC dI [(h0, .inr (6, [.int 0, .int 0, .null, .int 0, .null, .null, .null, .int 0]))] [(cI, .int)] U ∧ va_D (fun _ => True) [(h0, .inr (6, [.int 0, .int 0, .null, .int 0, .null, .null, .null, .int 0]))])) (va_Qv (fun _ : Unit => True) (fun _ t => ∃ r0 r1 r2 r3 : Nat, va_P (dC, dI) vwCl [(h0, .inr (6, [.int p0, .int 2, .ref r0, .int 0, .ref r1, .ref r2, .ref r3, .int 0]))] t.heap ∧ va_D (va_A [(h0, .inr (6, [.int 0, .int 0, .null, .int 0, .null, .null, .null, .int 0]))] sz) [(h0, .inr (6, [.int p0, .int 2, .ref r0, .int 0, .ref r1, .ref r2, .ref r3, .int 0]))]) (va_A [(h0, .inr (6, [.int 0, .int 0, .null, .int 0, .null, .null, .null, .int 0]))] sz)) 4 14 (va_A [(h0, .inr (6, [.int 0, .int 0, .null, .int 0, .null, .null, .null, .int 0]))] sz) := by
  refine Met.ofW (cc := cX7_init) (maxL := 2) (ret := none) (by decide) rfl ?_
  intro p e s m args below meth c s₁ B hml hv
  obtain ⟨rfl, hsz, ⟨hP, hK, hN⟩, hD0⟩ := hv
  have hx := B.exec
  have hb := B.bytes
  have hr := B.returns
  have hts := atoms_spec (ws := wsX7_init) B.pre
  have hown : s.vm.findClass RX7 = some m.cls := findClass_of_methodNamed B.named
  have hlocks := B.notSynchronized
  have hin : meth.name = "<init>" := (name_of_methodNamed B.named B.method).1
  subst hsz
  have hD := hD0.self (sz := s.heap.size)
  generalize hAe : va_A [(h0, .inr (6, [.int 0, .int 0, .null, .int 0, .null, .null, .null, .int 0]))] s.heap.size = A at hD ⊢
  have hA : ∀ q : Nat, s.heap.size ≤ q → A q := fun q h => by rw [← hAe]; exact Or.inr h
  have hS : va_S A s.heap s.heap [] := va_S.rf
  have hP : va_P (dC, dI) vwCl [(h0, .inr (6, [.int 0, .int 0, .null, .int 0, .null, .null, .null, .int 0]))] s.heap := hP
  have hl := lv_entry ([.ref h0, .int p0]) (n := 2) (Nat.le_of_ble_eq_true rfl)
  rw [lg_entry_eq]
  generalize (lg_sl ([.ref h0, .int p0]) ++ List.replicate (2 - (lg_sl ([.ref h0, .int p0])).length) Slot.unset).toArray = ls at hl ⊢
  have hl : lv_has ls 2 [(0, .ref h0), (1, .int p0)] := hl
  refine lv_aload_n hx hb dX7_init_0 rfl (lv_at hl 0 rfl) ?_
  refine lv_iload_n hx hb dX7_init_1 rfl (lv_at hl 1 rfl) ?_
  refine lv_iconst (v := 2) hx hb dX7_init_2 (by decide) ?_
  refine lv_iconst (v := 1) hx hb dX7_init_3 (by decide) ?_
  have hPc := hP.sub (ws' := [(h0, .inr (6, [.int 0, .int 0, .null, .int 0, .null, .null, .null, .int 0]))]) [0] rfl
  have hKc := hK.sub (tys' := [(cI, .int)]) [0] rfl
  have hDc := hD.sub (ws' := [(h0, .inr (6, [.int 0, .int 0, .null, .int 0, .null, .null, .null, .int 0]))]) [0] (by decide) rfl
  have hFc := va_free (wc := [(h0, .inr (6, [.int 0, .int 0, .null, .int 0, .null, .null, .null, .int 0]))]) hD hS hA [0] rfl
  refine va_callv (va_runI (As := [.int p0, .int 2, .int 1]) (rest := []) ⟨hx, hb, hml, hown, hts⟩ (x_Item_Picture l dC dI h0 cI p0 s.heap.size) (cwI 3 hts gX7_init_X4_init rfl rfl rfl (hts (.initialized RX4) (by decide +kernel)) (hts (.methodLink RX7 3 yX4_init) (by decide +kernel)) (hts (.instanceMethod yX4_init) (by decide +kernel)) rfl (by decide +kernel) ⟨Nat.le_of_ble_eq_true rfl, Nat.le_of_ble_eq_true rfl⟩) ⟨gw_fb, fun U hU hW => ⟨rfl, by rw [hU], pw_to hU hW hPc hKc hN, hDc.weaken (fun _ _ _ _ => trivial)⟩⟩ rfl rfl hl.1 rfl (lv_room (Nat.le_of_ble_eq_true rfl)) dX7_init_4 ⟨Nat.le_of_ble_eq_true rfl, Nat.le_of_ble_eq_true rfl⟩) hS (fun q _ h => hFc q h) hFc (fun u t H1 locs ht hvm hw hB hz1 hk1 hS => ?_)
  obtain ⟨qa_1, qa_2, hP1, hD1⟩ := hB
  rw [ht] at hP1
  obtain ⟨hP, hD⟩ := va_join (wr := []) (w1 := [(h0, .inr (6, [.int p0, .int 2, .ref qa_2, .int 0, .ref qa_1, .null, .null, .int 0]))]) hP hD [0] [] rfl rfl (by decide) (by decide) hk1 hFc hP1 hD1
  generalize H1 = H at hP hS ⊢
  have hP : va_P (dC, dI) vwCl [(h0, .inr (6, [.int p0, .int 2, .ref qa_2, .int 0, .ref qa_1, .null, .null, .int 0]))] H := hP
  have hD : va_D A [(h0, .inr (6, [.int p0, .int 2, .ref qa_2, .int 0, .ref qa_1, .null, .null, .int 0]))] := hD
  refine W.widen (k := 2) (n := 6) (Nat.le_of_ble_eq_true rfl) (Nat.le_of_ble_eq_true rfl) ?_
  refine lv_aload_n hx hb dX7_init_7 rfl (lv_at hl 0 rfl) ?_
  refine lv_iconst (v := 4) hx hb dX7_init_8 (by decide) ?_
  refine va_newa (atype := .int) (ty := .int) (a0 := (4, .inl (fun _ => 0))) (N' := 4) hx hb (hts (.arrayClass .int) (by decide +kernel)) rfl hK hP hD hS hA (newI 4) (by decide) (by decide) (nbI (Nat.le_of_ble_eq_true rfl)) (Nat.le_of_ble_eq_true rfl) (Nat.le_of_ble_eq_true rfl) dX7_init_9 (fun q_3 cA_4 H hK hP hD hS => ?_)
  obtain rfl : cI = cA_4 := kuniq hK 0 1 rfl rfl
  have hK := hK.sub (tys' := [(cI, .int)]) [0] rfl
  have hK : va_K (dC, dI) vwCl [(cI, .int)] s := hK
  have hP : va_P (dC, dI) vwCl [(h0, .inr (6, [.int p0, .int 2, .ref qa_2, .int 0, .ref qa_1, .null, .null, .int 0])), (q_3, .inl (cI, 4, .inl (fun _ => 0)))] H := hP
  have hD : va_D A [(h0, .inr (6, [.int p0, .int 2, .ref qa_2, .int 0, .ref qa_1, .null, .null, .int 0])), (q_3, .inl (cI, 4, .inl (fun _ => 0)))] := hD
  refine W.widen (k := 3) (n := 10) (Nat.le_of_ble_eq_true rfl) (Nat.le_of_ble_eq_true rfl) ?_
  refine va_putF (D := (dC, dI)) (ci := 6) (v := .ref q_3) (ty := .array .int) (C := RX7) (T := TX7) (N := 8) hx hb hts (by decide +kernel) tyX7 tyX7_ok nmX7 hown hK hP hD hS 0 rfl rfl 5 (by decide) (hts (.fieldLink RX7 9 "PageOne$Picture" "widths" "[I") (by decide +kernel)) (fun _ h9 => h9) rfl hin rfl (by decide +kernel) rfl rfl (Nat.le_of_ble_eq_true rfl) dX7_init_11 (fun H locs hP hD hS => ?_)
  have hP : va_P (dC, dI) vwCl [(h0, .inr (6, [.int p0, .int 2, .ref qa_2, .int 0, .ref qa_1, .ref q_3, .null, .int 0])), (q_3, .inl (cI, 4, .inl (fun _ => 0)))] H := hP
  have hD : va_D A [(h0, .inr (6, [.int p0, .int 2, .ref qa_2, .int 0, .ref qa_1, .ref q_3, .null, .int 0])), (q_3, .inl (cI, 4, .inl (fun _ => 0)))] := hD
  refine lv_aload_n hx hb dX7_init_14 rfl (lv_at hl 0 rfl) ?_
  refine lv_iconst (v := 4) hx hb dX7_init_15 (by decide) ?_
  refine va_newa (atype := .int) (ty := .int) (a0 := (4, .inl (fun _ => 0))) (N' := 4) hx hb (hts (.arrayClass .int) (by decide +kernel)) rfl hK hP hD hS hA (newI 4) (by decide) (by decide) (nbI (Nat.le_of_ble_eq_true rfl)) (Nat.le_of_ble_eq_true rfl) (Nat.le_of_ble_eq_true rfl) dX7_init_16 (fun q_5 cA_6 H hK hP hD hS => ?_)
  obtain rfl : cI = cA_6 := kuniq hK 0 1 rfl rfl
  have hK := hK.sub (tys' := [(cI, .int)]) [0] rfl
  have hK : va_K (dC, dI) vwCl [(cI, .int)] s := hK
  have hP : va_P (dC, dI) vwCl [(h0, .inr (6, [.int p0, .int 2, .ref qa_2, .int 0, .ref qa_1, .ref q_3, .null, .int 0])), (q_3, .inl (cI, 4, .inl (fun _ => 0))), (q_5, .inl (cI, 4, .inl (fun _ => 0)))] H := hP
  have hD : va_D A [(h0, .inr (6, [.int p0, .int 2, .ref qa_2, .int 0, .ref qa_1, .ref q_3, .null, .int 0])), (q_3, .inl (cI, 4, .inl (fun _ => 0))), (q_5, .inl (cI, 4, .inl (fun _ => 0)))] := hD
  refine W.widen (k := 4) (n := 14) (Nat.le_of_ble_eq_true rfl) (Nat.le_of_ble_eq_true rfl) ?_
  refine va_putF (D := (dC, dI)) (ci := 6) (v := .ref q_5) (ty := .array .int) (C := RX7) (T := TX7) (N := 8) hx hb hts (by decide +kernel) tyX7 tyX7_ok nmX7 hown hK hP hD hS 0 rfl rfl 6 (by decide) (hts (.fieldLink RX7 15 "PageOne$Picture" "heights" "[I") (by decide +kernel)) (fun _ h9 => h9) rfl hin rfl (by decide +kernel) rfl rfl (Nat.le_of_ble_eq_true rfl) dX7_init_18 (fun H locs hP hD hS => ?_)
  have hP : va_P (dC, dI) vwCl [(h0, .inr (6, [.int p0, .int 2, .ref qa_2, .int 0, .ref qa_1, .ref q_3, .ref q_5, .int 0])), (q_3, .inl (cI, 4, .inl (fun _ => 0))), (q_5, .inl (cI, 4, .inl (fun _ => 0)))] H := hP
  have hD : va_D A [(h0, .inr (6, [.int p0, .int 2, .ref qa_2, .int 0, .ref qa_1, .ref q_3, .ref q_5, .int 0])), (q_3, .inl (cI, 4, .inl (fun _ => 0))), (q_5, .inl (cI, 4, .inl (fun _ => 0)))] := hD
  refine lv_aload_n hx hb dX7_init_21 rfl (lv_at hl 0 rfl) ?_
  refine lv_iconst (v := 0) hx hb dX7_init_22 (by decide) ?_
  refine va_put (D := (dC, dI)) (ci := 6) (v := .int 0) (ty := .int) (C := RX7) (T := TX7) (N := 8) hx hb hts (by decide +kernel) tyX7 tyX7_ok nmX7 hown hK hP hD hS 0 rfl rfl 7 (by decide) (hts (.fieldLink RX7 18 "PageOne$Picture" "sizes" "I") (by decide +kernel)) (fun _ h9 => h9) rfl (by decide +kernel) rfl rfl (Nat.le_of_ble_eq_true rfl) dX7_init_23 (fun H locs hP hD hS => ?_)
  have hP : va_P (dC, dI) vwCl [(h0, .inr (6, [.int p0, .int 2, .ref qa_2, .int 0, .ref qa_1, .ref q_3, .ref q_5, .int 0])), (q_3, .inl (cI, 4, .inl (fun _ => 0))), (q_5, .inl (cI, 4, .inl (fun _ => 0)))] H := hP
  have hD : va_D A [(h0, .inr (6, [.int p0, .int 2, .ref qa_2, .int 0, .ref qa_1, .ref q_3, .ref q_5, .int 0])), (q_3, .inl (cI, 4, .inl (fun _ => 0))), (q_5, .inl (cI, 4, .inl (fun _ => 0)))] := hD
  exact W.vret hx hb hr (fun t ht hW => ⟨⟨(), rfl, trivial, ⟨qa_2, qa_1, q_3, q_5, by rw [ht]; exact hP.sub [0] rfl, hD.sub [0] (by decide) rfl⟩⟩, hS.F ht⟩) hS.2.2 dX7_init_26
set_option maxHeartbeats 4000000 in
set_option maxRecDepth 100000 in
theorem x_enter_Picture (l : Launch) (dC : Nat → ClassId) (dI : Nat → Nat → Nat) (h0 pg pl it ac rv : Nat) (io sp r0 r1 r2 r3 : Nat) (cT : ClassId) (n0 n1 n2 : Int32) (sz : Nat) : Met l yX11_enter wsX11_enter ({ frames := 0, cells := 0, slots := 0, locals := 0 }) (va_Pc [.ref h0, .ref io] (fun U => U.heap.size = sz ∧ PW dC dI [(h0, .inr (10, [.ref pg, .ref pl, .ref it, .int 0, .ref ac, .int 0, .ref rv, .int 0, .int 0])), (it, .inl (cT, 80, .inr (.inr (.inr (.inr (fun _ => none)))))), (io, .inr (6, [.int n0, .int 2, .ref r0, .int 0, .ref r1, .ref r2, .ref r3, .int 0]))] [(cT, .object "PageOne$Item")] U ∧ va_D (fun _ => True) [(h0, .inr (10, [.ref pg, .ref pl, .ref it, .int 0, .ref ac, .int 0, .ref rv, .int 0, .int 0])), (it, .inl (cT, 80, .inr (.inr (.inr (.inr (fun _ => none)))))), (io, .inr (6, [.int n0, .int 2, .ref r0, .int 0, .ref r1, .ref r2, .ref r3, .int 0]))])) (va_Qi (fun (r : Int32) (_ : Unit) => r = n0) (fun _ _ => True) (va_A [(h0, .inr (10, [.ref pg, .ref pl, .ref it, .int 0, .ref ac, .int 0, .ref rv, .int 0, .int 0])), (it, .inl (cT, 80, .inr (.inr (.inr (.inr (fun _ => none)))))), (io, .inr (6, [.int n0, .int 2, .ref r0, .int 0, .ref r1, .ref r2, .ref r3, .int 0]))] sz)) 0 0 (va_A [(h0, .inr (10, [.ref pg, .ref pl, .ref it, .int 0, .ref ac, .int 0, .ref rv, .int 0, .int 0])), (it, .inl (cT, 80, .inr (.inr (.inr (.inr (fun _ => none)))))), (io, .inr (6, [.int n0, .int 2, .ref r0, .int 0, .ref r1, .ref r2, .ref r3, .int 0]))] sz) := by
  refine Met.ofW (cc := cX11_enter) (maxL := 2) (ret := (some .int)) (by decide) rfl ?_
  intro p e s m args below meth c s₁ B hml hv
  obtain ⟨rfl, hsz, ⟨hP, hK, hN⟩, hD0⟩ := hv
  have hx := B.exec
  have hb := B.bytes
  have hr := B.returns
  have hts := atoms_spec (ws := wsX11_enter) B.pre
  have hown : s.vm.findClass RX11 = some m.cls := findClass_of_methodNamed B.named
  have hlocks := B.notSynchronized
  subst hsz
  have hD := hD0.self (sz := s.heap.size)
  generalize hAe : va_A [(h0, .inr (10, [.ref pg, .ref pl, .ref it, .int 0, .ref ac, .int 0, .ref rv, .int 0, .int 0])), (it, .inl (cT, 80, .inr (.inr (.inr (.inr (fun _ => none)))))), (io, .inr (6, [.int n0, .int 2, .ref r0, .int 0, .ref r1, .ref r2, .ref r3, .int 0]))] s.heap.size = A at hD ⊢
  have hA : ∀ q : Nat, s.heap.size ≤ q → A q := fun q h => by rw [← hAe]; exact Or.inr h
  have hS : va_S A s.heap s.heap [] := va_S.rf
  have hP : va_P (dC, dI) vwCl [(h0, .inr (10, [.ref pg, .ref pl, .ref it, .int 0, .ref ac, .int 0, .ref rv, .int 0, .int 0])), (it, .inl (cT, 80, .inr (.inr (.inr (.inr (fun _ => none)))))), (io, .inr (6, [.int n0, .int 2, .ref r0, .int 0, .ref r1, .ref r2, .ref r3, .int 0]))] s.heap := hP
  have hl := lv_entry ([.ref h0, .ref io]) (n := 2) (Nat.le_of_ble_eq_true rfl)
  rw [lg_entry_eq]
  generalize (lg_sl ([.ref h0, .ref io]) ++ List.replicate (2 - (lg_sl ([.ref h0, .ref io])).length) Slot.unset).toArray = ls at hl ⊢
  have hl : lv_has ls 2 [(0, .ref h0), (1, .ref io)] := hl
  refine lv_aload_n hx hb dX11_enter_0 rfl (lv_at hl 0 rfl) ?_
  refine va_get (D := (dC, dI)) (ci := 10) (v := .int 0) (C := RX11) (T := TX11) (N := 9) hx hb hts (by decide +kernel) hown hK hP 0 rfl rfl 3 (by decide) (hts (.fieldLink RX11 24 "PageOne" "itemCount" "I") (by decide +kernel)) (fun _ h9 => h9) rfl dX11_enter_1 ?_
  refine lv_bipush (v := 80) hx hb dX11_enter_4 (by decide) ?_
  refine lv_icmp_lt (tgt := 11) hx hb dX11_enter_6 (by decide) (fun c_1 => ?_) (fun c_1 => absurd (by decide) c_1)
  refine lv_aload_n hx hb dX11_enter_11 rfl (lv_at hl 0 rfl) ?_
  refine va_get (D := (dC, dI)) (ci := 10) (v := .ref it) (C := RX11) (T := TX11) (N := 9) hx hb hts (by decide +kernel) hown hK hP 0 rfl rfl 2 (by decide) (hts (.fieldLink RX11 20 "PageOne" "items" "[LPageOne$Item;") (by decide +kernel)) (fun _ h9 => h9) rfl dX11_enter_12 ?_
  refine lv_aload_n hx hb dX11_enter_15 rfl (lv_at hl 0 rfl) ?_
  refine va_get (D := (dC, dI)) (ci := 10) (v := .int 0) (C := RX11) (T := TX11) (N := 9) hx hb hts (by decide +kernel) hown hK hP 0 rfl rfl 3 (by decide) (hts (.fieldLink RX11 24 "PageOne" "itemCount" "I") (by decide +kernel)) (fun _ h9 => h9) rfl dX11_enter_16 ?_
  refine lv_aload_n hx hb dX11_enter_19 rfl (lv_at hl 1 rfl) ?_
  refine va_astqO (r := (RX7, TX7, 8)) (E := "PageOne$Item") hx hb hK hP hD hS 1 0 2 6 rfl rfl hN.cast_X7 rfl rfl (by unfold vp_in; decide) dX11_enter_20 (fun H locs hP hD hS => ?_)
  have hP : va_P (dC, dI) vwCl [(h0, .inr (10, [.ref pg, .ref pl, .ref it, .int 0, .ref ac, .int 0, .ref rv, .int 0, .int 0])), (it, .inl (cT, 80, .inr (.inr (.inr (.inr (va_up (fun _ => none) 0 (some io))))))), (io, .inr (6, [.int n0, .int 2, .ref r0, .int 0, .ref r1, .ref r2, .ref r3, .int 0]))] H := hP
  have hD : va_D A [(h0, .inr (10, [.ref pg, .ref pl, .ref it, .int 0, .ref ac, .int 0, .ref rv, .int 0, .int 0])), (it, .inl (cT, 80, .inr (.inr (.inr (.inr (va_up (fun _ => none) 0 (some io))))))), (io, .inr (6, [.int n0, .int 2, .ref r0, .int 0, .ref r1, .ref r2, .ref r3, .int 0]))] := hD
  refine lv_aload_n hx hb dX11_enter_21 rfl (lv_at hl 0 rfl) ?_
  refine lv_dup hx hb dX11_enter_22 rfl ?_
  refine va_get (D := (dC, dI)) (ci := 10) (v := .int 0) (C := RX11) (T := TX11) (N := 9) hx hb hts (by decide +kernel) hown hK hP 0 rfl rfl 3 (by decide) (hts (.fieldLink RX11 24 "PageOne" "itemCount" "I") (by decide +kernel)) (fun _ h9 => h9) rfl dX11_enter_23 ?_
  refine lv_iconst (v := 1) hx hb dX11_enter_26 (by decide) ?_
  refine lv_iadd hx hb dX11_enter_27 ?_
  refine lv_topi (fun k_2 ek_2 => ?_)
  obtain rfl : k_2 = 1 := ek_2.trans (by decide)
  refine va_put (D := (dC, dI)) (ci := 10) (v := .int 1) (ty := .int) (C := RX11) (T := TX11) (N := 9) hx hb hts (by decide +kernel) tyX11 tyX11_ok nmX11 hown hK hP hD hS 0 rfl rfl 3 (by decide) (hts (.fieldLink RX11 24 "PageOne" "itemCount" "I") (by decide +kernel)) (fun _ h9 => h9) rfl (by decide +kernel) rfl rfl (Nat.le_of_ble_eq_true rfl) dX11_enter_28 (fun H locs hP hD hS => ?_)
  have hP : va_P (dC, dI) vwCl [(h0, .inr (10, [.ref pg, .ref pl, .ref it, .int 1, .ref ac, .int 0, .ref rv, .int 0, .int 0])), (it, .inl (cT, 80, .inr (.inr (.inr (.inr (va_up (fun _ => none) 0 (some io))))))), (io, .inr (6, [.int n0, .int 2, .ref r0, .int 0, .ref r1, .ref r2, .ref r3, .int 0]))] H := hP
  have hD : va_D A [(h0, .inr (10, [.ref pg, .ref pl, .ref it, .int 1, .ref ac, .int 0, .ref rv, .int 0, .int 0])), (it, .inl (cT, 80, .inr (.inr (.inr (.inr (va_up (fun _ => none) 0 (some io))))))), (io, .inr (6, [.int n0, .int 2, .ref r0, .int 0, .ref r1, .ref r2, .ref r3, .int 0]))] := hD
  refine lv_aload_n hx hb dX11_enter_31 rfl (lv_at hl 1 rfl) ?_
  refine va_get (D := (dC, dI)) (ci := 6) (v := .int n0) (C := RX7) (T := TX7) (N := 8) hx hb hts (by decide +kernel) hown hK hP 2 rfl rfl 0 (by decide) (hts (.fieldLink RX11 285 "PageOne$Item" "number" "I") (by decide +kernel)) (fun _ h9 => h9) rfl dX11_enter_32 ?_
  exact W.iret (v := n0) hx hb hr (fun t ht hW => ⟨⟨n0, (), rfl, rfl, trivial⟩, hS.F ht⟩) hS.2.2 dX11_enter_35
set_option maxHeartbeats 4000000 in
set_option maxRecDepth 100000 in
theorem x_Paid (l : Launch) (dC : Nat → ClassId) (dI : Nat → Nat → Nat) (h0 sp : Nat) (cI cZ : ClassId) (p0 p1 p2 : Int32) (sz : Nat) : Met l yX6_init wsX6_init ({ frames := 2, cells := 3, slots := 406, locals := 46 }) (va_Pc [.ref h0, .int p0, .int p1, .int p2, .ref sp] (fun U => U.heap.size = sz ∧ PW dC dI [(h0, .inr (5, [.int 0, .int 0, .null, .int 0, .null, .int 0, .int 0, .null, .null]))] [(cI, .int), (cZ, .boolean)] U ∧ va_D (fun _ => True) [(h0, .inr (5, [.int 0, .int 0, .null, .int 0, .null, .int 0, .int 0, .null, .null]))])) (va_Qv (fun _ : Unit => True) (fun _ t => ∃ r0 r1 r2 : Nat, va_P (dC, dI) vwCl [(h0, .inr (5, [.int p0, .int 3, .ref r0, .int 0, .ref r1, .int p1, .int p2, .ref sp, .ref r2]))] t.heap ∧ va_D (va_A [(h0, .inr (5, [.int 0, .int 0, .null, .int 0, .null, .int 0, .int 0, .null, .null]))] sz) [(h0, .inr (5, [.int p0, .int 3, .ref r0, .int 0, .ref r1, .int p1, .int p2, .ref sp, .ref r2]))]) (va_A [(h0, .inr (5, [.int 0, .int 0, .null, .int 0, .null, .int 0, .int 0, .null, .null]))] sz)) 3 406 (va_A [(h0, .inr (5, [.int 0, .int 0, .null, .int 0, .null, .int 0, .int 0, .null, .null]))] sz) := by
  refine Met.ofW (cc := cX6_init) (maxL := 5) (ret := none) (by decide) rfl ?_
  intro p e s m args below meth c s₁ B hml hv
  obtain ⟨rfl, hsz, ⟨hP, hK, hN⟩, hD0⟩ := hv
  have hx := B.exec
  have hb := B.bytes
  have hr := B.returns
  have hts := atoms_spec (ws := wsX6_init) B.pre
  have hown : s.vm.findClass RX6 = some m.cls := findClass_of_methodNamed B.named
  have hlocks := B.notSynchronized
  have hin : meth.name = "<init>" := (name_of_methodNamed B.named B.method).1
  subst hsz
  have hD := hD0.self (sz := s.heap.size)
  generalize hAe : va_A [(h0, .inr (5, [.int 0, .int 0, .null, .int 0, .null, .int 0, .int 0, .null, .null]))] s.heap.size = A at hD ⊢
  have hA : ∀ q : Nat, s.heap.size ≤ q → A q := fun q h => by rw [← hAe]; exact Or.inr h
  have hS : va_S A s.heap s.heap [] := va_S.rf
  have hP : va_P (dC, dI) vwCl [(h0, .inr (5, [.int 0, .int 0, .null, .int 0, .null, .int 0, .int 0, .null, .null]))] s.heap := hP
  have hl := lv_entry ([.ref h0, .int p0, .int p1, .int p2, .ref sp]) (n := 5) (Nat.le_of_ble_eq_true rfl)
  rw [lg_entry_eq]
  generalize (lg_sl ([.ref h0, .int p0, .int p1, .int p2, .ref sp]) ++ List.replicate (5 - (lg_sl ([.ref h0, .int p0, .int p1, .int p2, .ref sp])).length) Slot.unset).toArray = ls at hl ⊢
  have hl : lv_has ls 5 [(0, .ref h0), (1, .int p0), (2, .int p1), (3, .int p2), (4, .ref sp)] := hl
  refine lv_aload_n hx hb dX6_init_0 rfl (lv_at hl 0 rfl) ?_
  refine lv_iload_n hx hb dX6_init_1 rfl (lv_at hl 1 rfl) ?_
  refine lv_iconst (v := 3) hx hb dX6_init_2 (by decide) ?_
  refine lv_iconst (v := 1) hx hb dX6_init_3 (by decide) ?_
  have hPc := hP.sub (ws' := [(h0, .inr (5, [.int 0, .int 0, .null, .int 0, .null, .int 0, .int 0, .null, .null]))]) [0] rfl
  have hKc := hK.sub (tys' := [(cI, .int)]) [0] rfl
  have hDc := hD.sub (ws' := [(h0, .inr (5, [.int 0, .int 0, .null, .int 0, .null, .int 0, .int 0, .null, .null]))]) [0] (by decide) rfl
  have hFc := va_free (wc := [(h0, .inr (5, [.int 0, .int 0, .null, .int 0, .null, .int 0, .int 0, .null, .null]))]) hD hS hA [0] rfl
  refine va_callv (va_runI (As := [.int p0, .int 3, .int 1]) (rest := []) ⟨hx, hb, hml, hown, hts⟩ (x_Item_Paid l dC dI h0 cI p0 s.heap.size) (cwI 3 hts gX6_init_X4_init rfl rfl rfl (hts (.initialized RX4) (by decide +kernel)) (hts (.methodLink RX6 3 yX4_init) (by decide +kernel)) (hts (.instanceMethod yX4_init) (by decide +kernel)) rfl (by decide +kernel) ⟨Nat.le_of_ble_eq_true rfl, Nat.le_of_ble_eq_true rfl⟩) ⟨gw_fb, fun U hU hW => ⟨rfl, by rw [hU], pw_to hU hW hPc hKc hN, hDc.weaken (fun _ _ _ _ => trivial)⟩⟩ rfl rfl hl.1 rfl (lv_room (Nat.le_of_ble_eq_true rfl)) dX6_init_4 ⟨Nat.le_of_ble_eq_true rfl, Nat.le_of_ble_eq_true rfl⟩) hS (fun q _ h => hFc q h) hFc (fun u t H1 locs ht hvm hw hB hz1 hk1 hS => ?_)
  obtain ⟨qa_1, qa_2, hP1, hD1⟩ := hB
  rw [ht] at hP1
  obtain ⟨hP, hD⟩ := va_join (wr := []) (w1 := [(h0, .inr (5, [.int p0, .int 3, .ref qa_2, .int 0, .ref qa_1, .int 0, .int 0, .null, .null]))]) hP hD [0] [] rfl rfl (by decide) (by decide) hk1 hFc hP1 hD1
  generalize H1 = H at hP hS ⊢
  have hP : va_P (dC, dI) vwCl [(h0, .inr (5, [.int p0, .int 3, .ref qa_2, .int 0, .ref qa_1, .int 0, .int 0, .null, .null]))] H := hP
  have hD : va_D A [(h0, .inr (5, [.int p0, .int 3, .ref qa_2, .int 0, .ref qa_1, .int 0, .int 0, .null, .null]))] := hD
  refine W.widen (k := 2) (n := 6) (Nat.le_of_ble_eq_true rfl) (Nat.le_of_ble_eq_true rfl) ?_
  refine lv_aload_n hx hb dX6_init_7 rfl (lv_at hl 0 rfl) ?_
  refine lv_sipush (v := 400) hx hb dX6_init_8 (by decide) ?_
  refine va_newa (atype := .boolean) (ty := .boolean) (a0 := (400, .inl (fun _ => 0))) (N' := 400) hx hb (hts (.arrayClass .boolean) (by decide +kernel)) rfl hK hP hD hS hA (newZ 400) (by decide) (by decide) (nbZ (Nat.le_of_ble_eq_true rfl)) (Nat.le_of_ble_eq_true rfl) (Nat.le_of_ble_eq_true rfl) dX6_init_11 (fun q_3 cA_4 H hK hP hD hS => ?_)
  obtain rfl : cZ = cA_4 := kuniq hK 1 2 rfl rfl
  have hK := hK.sub (tys' := [(cI, .int), (cZ, .boolean)]) [0, 1] rfl
  have hK : va_K (dC, dI) vwCl [(cI, .int), (cZ, .boolean)] s := hK
  have hP : va_P (dC, dI) vwCl [(h0, .inr (5, [.int p0, .int 3, .ref qa_2, .int 0, .ref qa_1, .int 0, .int 0, .null, .null])), (q_3, .inl (cZ, 400, .inl (fun _ => 0)))] H := hP
  have hD : va_D A [(h0, .inr (5, [.int p0, .int 3, .ref qa_2, .int 0, .ref qa_1, .int 0, .int 0, .null, .null])), (q_3, .inl (cZ, 400, .inl (fun _ => 0)))] := hD
  refine W.widen (k := 3) (n := 406) (Nat.le_of_ble_eq_true rfl) (Nat.le_of_ble_eq_true rfl) ?_
  refine va_putF (D := (dC, dI)) (ci := 5) (v := .ref q_3) (ty := .array .boolean) (C := RX6) (T := TX6) (N := 9) hx hb hts (by decide +kernel) tyX6 tyX6_ok nmX6 hown hK hP hD hS 0 rfl rfl 8 (by decide) (hts (.fieldLink RX6 9 "PageOne$Paid" "days" "[Z") (by decide +kernel)) (fun _ h9 => h9) rfl hin rfl (by decide +kernel) rfl rfl (Nat.le_of_ble_eq_true rfl) dX6_init_13 (fun H locs hP hD hS => ?_)
  have hP : va_P (dC, dI) vwCl [(h0, .inr (5, [.int p0, .int 3, .ref qa_2, .int 0, .ref qa_1, .int 0, .int 0, .null, .ref q_3])), (q_3, .inl (cZ, 400, .inl (fun _ => 0)))] H := hP
  have hD : va_D A [(h0, .inr (5, [.int p0, .int 3, .ref qa_2, .int 0, .ref qa_1, .int 0, .int 0, .null, .ref q_3])), (q_3, .inl (cZ, 400, .inl (fun _ => 0)))] := hD
  refine lv_aload_n hx hb dX6_init_16 rfl (lv_at hl 0 rfl) ?_
  refine lv_iload_n hx hb dX6_init_17 rfl (lv_at hl 2 rfl) ?_
  refine va_putF (D := (dC, dI)) (ci := 5) (v := .int p1) (ty := .int) (C := RX6) (T := TX6) (N := 9) hx hb hts (by decide +kernel) tyX6 tyX6_ok nmX6 hown hK hP hD hS 0 rfl rfl 5 (by decide) (hts (.fieldLink RX6 15 "PageOne$Paid" "buyer" "I") (by decide +kernel)) (fun _ h9 => h9) rfl hin rfl (by decide +kernel) rfl rfl (Nat.le_of_ble_eq_true rfl) dX6_init_18 (fun H locs hP hD hS => ?_)
  have hP : va_P (dC, dI) vwCl [(h0, .inr (5, [.int p0, .int 3, .ref qa_2, .int 0, .ref qa_1, .int p1, .int 0, .null, .ref q_3])), (q_3, .inl (cZ, 400, .inl (fun _ => 0)))] H := hP
  have hD : va_D A [(h0, .inr (5, [.int p0, .int 3, .ref qa_2, .int 0, .ref qa_1, .int p1, .int 0, .null, .ref q_3])), (q_3, .inl (cZ, 400, .inl (fun _ => 0)))] := hD
  refine lv_aload_n hx hb dX6_init_21 rfl (lv_at hl 0 rfl) ?_
  refine lv_iload_n hx hb dX6_init_22 rfl (lv_at hl 3 rfl) ?_
  refine va_putF (D := (dC, dI)) (ci := 5) (v := .int p2) (ty := .int) (C := RX6) (T := TX6) (N := 9) hx hb hts (by decide +kernel) tyX6 tyX6_ok nmX6 hown hK hP hD hS 0 rfl rfl 6 (by decide) (hts (.fieldLink RX6 19 "PageOne$Paid" "price" "I") (by decide +kernel)) (fun _ h9 => h9) rfl hin rfl (by decide +kernel) rfl rfl (Nat.le_of_ble_eq_true rfl) dX6_init_23 (fun H locs hP hD hS => ?_)
  have hP : va_P (dC, dI) vwCl [(h0, .inr (5, [.int p0, .int 3, .ref qa_2, .int 0, .ref qa_1, .int p1, .int p2, .null, .ref q_3])), (q_3, .inl (cZ, 400, .inl (fun _ => 0)))] H := hP
  have hD : va_D A [(h0, .inr (5, [.int p0, .int 3, .ref qa_2, .int 0, .ref qa_1, .int p1, .int p2, .null, .ref q_3])), (q_3, .inl (cZ, 400, .inl (fun _ => 0)))] := hD
  refine lv_aload_n hx hb dX6_init_26 rfl (lv_at hl 0 rfl) ?_
  refine lv_aload hx hb dX6_init_27 (lv_at hl 4 rfl) ?_
  refine va_putF (D := (dC, dI)) (ci := 5) (v := .ref sp) (ty := .object "PageOne$Piece") (C := RX6) (T := TX6) (N := 9) hx hb hts (by decide +kernel) tyX6 tyX6_ok nmX6 hown hK hP hD hS 0 rfl rfl 7 (by decide) (hts (.fieldLink RX6 22 "PageOne$Paid" "spot" "LPageOne$Piece;") (by decide +kernel)) (fun _ h9 => h9) rfl hin rfl (by decide +kernel) rfl rfl (Nat.le_of_ble_eq_true rfl) dX6_init_29 (fun H locs hP hD hS => ?_)
  have hP : va_P (dC, dI) vwCl [(h0, .inr (5, [.int p0, .int 3, .ref qa_2, .int 0, .ref qa_1, .int p1, .int p2, .ref sp, .ref q_3])), (q_3, .inl (cZ, 400, .inl (fun _ => 0)))] H := hP
  have hD : va_D A [(h0, .inr (5, [.int p0, .int 3, .ref qa_2, .int 0, .ref qa_1, .int p1, .int p2, .ref sp, .ref q_3])), (q_3, .inl (cZ, 400, .inl (fun _ => 0)))] := hD
  exact W.vret hx hb hr (fun t ht hW => ⟨⟨(), rfl, trivial, ⟨qa_2, qa_1, q_3, by rw [ht]; exact hP.sub [0] rfl, hD.sub [0] (by decide) rfl⟩⟩, hS.F ht⟩) hS.2.2 dX6_init_32
set_option maxHeartbeats 4000000 in
set_option maxRecDepth 100000 in
theorem x_enter_Paid (l : Launch) (dC : Nat → ClassId) (dI : Nat → Nat → Nat) (h0 pg pl it ac rv : Nat) (io sp r0 r1 r2 : Nat) (cT : ClassId) (n0 n1 n2 : Int32) (sz : Nat) : Met l yX11_enter wsX11_enter ({ frames := 0, cells := 0, slots := 0, locals := 0 }) (va_Pc [.ref h0, .ref io] (fun U => U.heap.size = sz ∧ PW dC dI [(h0, .inr (10, [.ref pg, .ref pl, .ref it, .int 0, .ref ac, .int 0, .ref rv, .int 0, .int 0])), (it, .inl (cT, 80, .inr (.inr (.inr (.inr (fun _ => none)))))), (io, .inr (5, [.int n0, .int 3, .ref r0, .int 0, .ref r1, .int n1, .int n2, .ref sp, .ref r2]))] [(cT, .object "PageOne$Item")] U ∧ va_D (fun _ => True) [(h0, .inr (10, [.ref pg, .ref pl, .ref it, .int 0, .ref ac, .int 0, .ref rv, .int 0, .int 0])), (it, .inl (cT, 80, .inr (.inr (.inr (.inr (fun _ => none)))))), (io, .inr (5, [.int n0, .int 3, .ref r0, .int 0, .ref r1, .int n1, .int n2, .ref sp, .ref r2]))])) (va_Qi (fun (r : Int32) (_ : Unit) => r = n0) (fun _ _ => True) (va_A [(h0, .inr (10, [.ref pg, .ref pl, .ref it, .int 0, .ref ac, .int 0, .ref rv, .int 0, .int 0])), (it, .inl (cT, 80, .inr (.inr (.inr (.inr (fun _ => none)))))), (io, .inr (5, [.int n0, .int 3, .ref r0, .int 0, .ref r1, .int n1, .int n2, .ref sp, .ref r2]))] sz)) 0 0 (va_A [(h0, .inr (10, [.ref pg, .ref pl, .ref it, .int 0, .ref ac, .int 0, .ref rv, .int 0, .int 0])), (it, .inl (cT, 80, .inr (.inr (.inr (.inr (fun _ => none)))))), (io, .inr (5, [.int n0, .int 3, .ref r0, .int 0, .ref r1, .int n1, .int n2, .ref sp, .ref r2]))] sz) := by
  refine Met.ofW (cc := cX11_enter) (maxL := 2) (ret := (some .int)) (by decide) rfl ?_
  intro p e s m args below meth c s₁ B hml hv
  obtain ⟨rfl, hsz, ⟨hP, hK, hN⟩, hD0⟩ := hv
  have hx := B.exec
  have hb := B.bytes
  have hr := B.returns
  have hts := atoms_spec (ws := wsX11_enter) B.pre
  have hown : s.vm.findClass RX11 = some m.cls := findClass_of_methodNamed B.named
  have hlocks := B.notSynchronized
  subst hsz
  have hD := hD0.self (sz := s.heap.size)
  generalize hAe : va_A [(h0, .inr (10, [.ref pg, .ref pl, .ref it, .int 0, .ref ac, .int 0, .ref rv, .int 0, .int 0])), (it, .inl (cT, 80, .inr (.inr (.inr (.inr (fun _ => none)))))), (io, .inr (5, [.int n0, .int 3, .ref r0, .int 0, .ref r1, .int n1, .int n2, .ref sp, .ref r2]))] s.heap.size = A at hD ⊢
  have hA : ∀ q : Nat, s.heap.size ≤ q → A q := fun q h => by rw [← hAe]; exact Or.inr h
  have hS : va_S A s.heap s.heap [] := va_S.rf
  have hP : va_P (dC, dI) vwCl [(h0, .inr (10, [.ref pg, .ref pl, .ref it, .int 0, .ref ac, .int 0, .ref rv, .int 0, .int 0])), (it, .inl (cT, 80, .inr (.inr (.inr (.inr (fun _ => none)))))), (io, .inr (5, [.int n0, .int 3, .ref r0, .int 0, .ref r1, .int n1, .int n2, .ref sp, .ref r2]))] s.heap := hP
  have hl := lv_entry ([.ref h0, .ref io]) (n := 2) (Nat.le_of_ble_eq_true rfl)
  rw [lg_entry_eq]
  generalize (lg_sl ([.ref h0, .ref io]) ++ List.replicate (2 - (lg_sl ([.ref h0, .ref io])).length) Slot.unset).toArray = ls at hl ⊢
  have hl : lv_has ls 2 [(0, .ref h0), (1, .ref io)] := hl
  refine lv_aload_n hx hb dX11_enter_0 rfl (lv_at hl 0 rfl) ?_
  refine va_get (D := (dC, dI)) (ci := 10) (v := .int 0) (C := RX11) (T := TX11) (N := 9) hx hb hts (by decide +kernel) hown hK hP 0 rfl rfl 3 (by decide) (hts (.fieldLink RX11 24 "PageOne" "itemCount" "I") (by decide +kernel)) (fun _ h9 => h9) rfl dX11_enter_1 ?_
  refine lv_bipush (v := 80) hx hb dX11_enter_4 (by decide) ?_
  refine lv_icmp_lt (tgt := 11) hx hb dX11_enter_6 (by decide) (fun c_1 => ?_) (fun c_1 => absurd (by decide) c_1)
  refine lv_aload_n hx hb dX11_enter_11 rfl (lv_at hl 0 rfl) ?_
  refine va_get (D := (dC, dI)) (ci := 10) (v := .ref it) (C := RX11) (T := TX11) (N := 9) hx hb hts (by decide +kernel) hown hK hP 0 rfl rfl 2 (by decide) (hts (.fieldLink RX11 20 "PageOne" "items" "[LPageOne$Item;") (by decide +kernel)) (fun _ h9 => h9) rfl dX11_enter_12 ?_
  refine lv_aload_n hx hb dX11_enter_15 rfl (lv_at hl 0 rfl) ?_
  refine va_get (D := (dC, dI)) (ci := 10) (v := .int 0) (C := RX11) (T := TX11) (N := 9) hx hb hts (by decide +kernel) hown hK hP 0 rfl rfl 3 (by decide) (hts (.fieldLink RX11 24 "PageOne" "itemCount" "I") (by decide +kernel)) (fun _ h9 => h9) rfl dX11_enter_16 ?_
  refine lv_aload_n hx hb dX11_enter_19 rfl (lv_at hl 1 rfl) ?_
  refine va_astqO (r := (RX6, TX6, 9)) (E := "PageOne$Item") hx hb hK hP hD hS 1 0 2 5 rfl rfl hN.cast_X6 rfl rfl (by unfold vp_in; decide) dX11_enter_20 (fun H locs hP hD hS => ?_)
  have hP : va_P (dC, dI) vwCl [(h0, .inr (10, [.ref pg, .ref pl, .ref it, .int 0, .ref ac, .int 0, .ref rv, .int 0, .int 0])), (it, .inl (cT, 80, .inr (.inr (.inr (.inr (va_up (fun _ => none) 0 (some io))))))), (io, .inr (5, [.int n0, .int 3, .ref r0, .int 0, .ref r1, .int n1, .int n2, .ref sp, .ref r2]))] H := hP
  have hD : va_D A [(h0, .inr (10, [.ref pg, .ref pl, .ref it, .int 0, .ref ac, .int 0, .ref rv, .int 0, .int 0])), (it, .inl (cT, 80, .inr (.inr (.inr (.inr (va_up (fun _ => none) 0 (some io))))))), (io, .inr (5, [.int n0, .int 3, .ref r0, .int 0, .ref r1, .int n1, .int n2, .ref sp, .ref r2]))] := hD
  refine lv_aload_n hx hb dX11_enter_21 rfl (lv_at hl 0 rfl) ?_
  refine lv_dup hx hb dX11_enter_22 rfl ?_
  refine va_get (D := (dC, dI)) (ci := 10) (v := .int 0) (C := RX11) (T := TX11) (N := 9) hx hb hts (by decide +kernel) hown hK hP 0 rfl rfl 3 (by decide) (hts (.fieldLink RX11 24 "PageOne" "itemCount" "I") (by decide +kernel)) (fun _ h9 => h9) rfl dX11_enter_23 ?_
  refine lv_iconst (v := 1) hx hb dX11_enter_26 (by decide) ?_
  refine lv_iadd hx hb dX11_enter_27 ?_
  refine lv_topi (fun k_2 ek_2 => ?_)
  obtain rfl : k_2 = 1 := ek_2.trans (by decide)
  refine va_put (D := (dC, dI)) (ci := 10) (v := .int 1) (ty := .int) (C := RX11) (T := TX11) (N := 9) hx hb hts (by decide +kernel) tyX11 tyX11_ok nmX11 hown hK hP hD hS 0 rfl rfl 3 (by decide) (hts (.fieldLink RX11 24 "PageOne" "itemCount" "I") (by decide +kernel)) (fun _ h9 => h9) rfl (by decide +kernel) rfl rfl (Nat.le_of_ble_eq_true rfl) dX11_enter_28 (fun H locs hP hD hS => ?_)
  have hP : va_P (dC, dI) vwCl [(h0, .inr (10, [.ref pg, .ref pl, .ref it, .int 1, .ref ac, .int 0, .ref rv, .int 0, .int 0])), (it, .inl (cT, 80, .inr (.inr (.inr (.inr (va_up (fun _ => none) 0 (some io))))))), (io, .inr (5, [.int n0, .int 3, .ref r0, .int 0, .ref r1, .int n1, .int n2, .ref sp, .ref r2]))] H := hP
  have hD : va_D A [(h0, .inr (10, [.ref pg, .ref pl, .ref it, .int 1, .ref ac, .int 0, .ref rv, .int 0, .int 0])), (it, .inl (cT, 80, .inr (.inr (.inr (.inr (va_up (fun _ => none) 0 (some io))))))), (io, .inr (5, [.int n0, .int 3, .ref r0, .int 0, .ref r1, .int n1, .int n2, .ref sp, .ref r2]))] := hD
  refine lv_aload_n hx hb dX11_enter_31 rfl (lv_at hl 1 rfl) ?_
  refine va_get (D := (dC, dI)) (ci := 5) (v := .int n0) (C := RX6) (T := TX6) (N := 9) hx hb hts (by decide +kernel) hown hK hP 2 rfl rfl 0 (by decide) (hts (.fieldLink RX11 285 "PageOne$Item" "number" "I") (by decide +kernel)) (fun _ h9 => h9) rfl dX11_enter_32 ?_
  exact W.iret (v := n0) hx hb hr (fun t ht hW => ⟨⟨n0, (), rfl, rfl, trivial⟩, hS.F ht⟩) hS.2.2 dX11_enter_35
set_option maxHeartbeats 4000000 in
set_option maxRecDepth 100000 in
theorem x_Filler (l : Launch) (dC : Nat → ClassId) (dI : Nat → Nat → Nat) (h0 : Nat) (cI : ClassId) (p0 p1 p2 : Int32) (sz : Nat) : Met l yX2_init wsX2_init ({ frames := 2, cells := 2, slots := 6, locals := 46 }) (va_Pc [.ref h0, .int p0, .int p1, .int p2] (fun U => U.heap.size = sz ∧ PW dC dI [(h0, .inr (2, [.int 0, .int 0, .null, .int 0, .null, .int 0, .int 0]))] [(cI, .int)] U ∧ va_D (fun _ => True) [(h0, .inr (2, [.int 0, .int 0, .null, .int 0, .null, .int 0, .int 0]))])) (va_Qv (fun _ : Unit => True) (fun _ t => ∃ r0 r1 : Nat, va_P (dC, dI) vwCl [(h0, .inr (2, [.int p0, .int 4, .ref r0, .int 0, .ref r1, .int p1, .int p2]))] t.heap ∧ va_D (va_A [(h0, .inr (2, [.int 0, .int 0, .null, .int 0, .null, .int 0, .int 0]))] sz) [(h0, .inr (2, [.int p0, .int 4, .ref r0, .int 0, .ref r1, .int p1, .int p2]))]) (va_A [(h0, .inr (2, [.int 0, .int 0, .null, .int 0, .null, .int 0, .int 0]))] sz)) 2 6 (va_A [(h0, .inr (2, [.int 0, .int 0, .null, .int 0, .null, .int 0, .int 0]))] sz) := by
  refine Met.ofW (cc := cX2_init) (maxL := 4) (ret := none) (by decide) rfl ?_
  intro p e s m args below meth c s₁ B hml hv
  obtain ⟨rfl, hsz, ⟨hP, hK, hN⟩, hD0⟩ := hv
  have hx := B.exec
  have hb := B.bytes
  have hr := B.returns
  have hts := atoms_spec (ws := wsX2_init) B.pre
  have hown : s.vm.findClass RX2 = some m.cls := findClass_of_methodNamed B.named
  have hlocks := B.notSynchronized
  have hin : meth.name = "<init>" := (name_of_methodNamed B.named B.method).1
  subst hsz
  have hD := hD0.self (sz := s.heap.size)
  generalize hAe : va_A [(h0, .inr (2, [.int 0, .int 0, .null, .int 0, .null, .int 0, .int 0]))] s.heap.size = A at hD ⊢
  have hA : ∀ q : Nat, s.heap.size ≤ q → A q := fun q h => by rw [← hAe]; exact Or.inr h
  have hS : va_S A s.heap s.heap [] := va_S.rf
  have hP : va_P (dC, dI) vwCl [(h0, .inr (2, [.int 0, .int 0, .null, .int 0, .null, .int 0, .int 0]))] s.heap := hP
  have hl := lv_entry ([.ref h0, .int p0, .int p1, .int p2]) (n := 4) (Nat.le_of_ble_eq_true rfl)
  rw [lg_entry_eq]
  generalize (lg_sl ([.ref h0, .int p0, .int p1, .int p2]) ++ List.replicate (4 - (lg_sl ([.ref h0, .int p0, .int p1, .int p2])).length) Slot.unset).toArray = ls at hl ⊢
  have hl : lv_has ls 4 [(0, .ref h0), (1, .int p0), (2, .int p1), (3, .int p2)] := hl
  refine lv_aload_n hx hb dX2_init_0 rfl (lv_at hl 0 rfl) ?_
  refine lv_iload_n hx hb dX2_init_1 rfl (lv_at hl 1 rfl) ?_
  refine lv_iconst (v := 4) hx hb dX2_init_2 (by decide) ?_
  refine lv_iconst (v := 1) hx hb dX2_init_3 (by decide) ?_
  have hPc := hP.sub (ws' := [(h0, .inr (2, [.int 0, .int 0, .null, .int 0, .null, .int 0, .int 0]))]) [0] rfl
  have hKc := hK.sub (tys' := [(cI, .int)]) [0] rfl
  have hDc := hD.sub (ws' := [(h0, .inr (2, [.int 0, .int 0, .null, .int 0, .null, .int 0, .int 0]))]) [0] (by decide) rfl
  have hFc := va_free (wc := [(h0, .inr (2, [.int 0, .int 0, .null, .int 0, .null, .int 0, .int 0]))]) hD hS hA [0] rfl
  refine va_callv (va_runI (As := [.int p0, .int 4, .int 1]) (rest := []) ⟨hx, hb, hml, hown, hts⟩ (x_Item_Filler l dC dI h0 cI p0 s.heap.size) (cwI 3 hts gX2_init_X4_init rfl rfl rfl (hts (.initialized RX4) (by decide +kernel)) (hts (.methodLink RX2 3 yX4_init) (by decide +kernel)) (hts (.instanceMethod yX4_init) (by decide +kernel)) rfl (by decide +kernel) ⟨Nat.le_of_ble_eq_true rfl, Nat.le_of_ble_eq_true rfl⟩) ⟨gw_fb, fun U hU hW => ⟨rfl, by rw [hU], pw_to hU hW hPc hKc hN, hDc.weaken (fun _ _ _ _ => trivial)⟩⟩ rfl rfl hl.1 rfl (lv_room (Nat.le_of_ble_eq_true rfl)) dX2_init_4 ⟨Nat.le_of_ble_eq_true rfl, Nat.le_of_ble_eq_true rfl⟩) hS (fun q _ h => hFc q h) hFc (fun u t H1 locs ht hvm hw hB hz1 hk1 hS => ?_)
  obtain ⟨qa_1, qa_2, hP1, hD1⟩ := hB
  rw [ht] at hP1
  obtain ⟨hP, hD⟩ := va_join (wr := []) (w1 := [(h0, .inr (2, [.int p0, .int 4, .ref qa_2, .int 0, .ref qa_1, .int 0, .int 0]))]) hP hD [0] [] rfl rfl (by decide) (by decide) hk1 hFc hP1 hD1
  generalize H1 = H at hP hS ⊢
  have hP : va_P (dC, dI) vwCl [(h0, .inr (2, [.int p0, .int 4, .ref qa_2, .int 0, .ref qa_1, .int 0, .int 0]))] H := hP
  have hD : va_D A [(h0, .inr (2, [.int p0, .int 4, .ref qa_2, .int 0, .ref qa_1, .int 0, .int 0]))] := hD
  refine W.widen (k := 2) (n := 6) (Nat.le_of_ble_eq_true rfl) (Nat.le_of_ble_eq_true rfl) ?_
  refine lv_aload_n hx hb dX2_init_7 rfl (lv_at hl 0 rfl) ?_
  refine lv_iload_n hx hb dX2_init_8 rfl (lv_at hl 2 rfl) ?_
  refine va_putF (D := (dC, dI)) (ci := 2) (v := .int p1) (ty := .int) (C := RX2) (T := TX2) (N := 7) hx hb hts (by decide +kernel) tyX2 tyX2_ok nmX2 hown hK hP hD hS 0 rfl rfl 5 (by decide) (hts (.fieldLink RX2 9 "PageOne$Filler" "least" "I") (by decide +kernel)) (fun _ h9 => h9) rfl hin rfl (by decide +kernel) rfl rfl (Nat.le_of_ble_eq_true rfl) dX2_init_9 (fun H locs hP hD hS => ?_)
  have hP : va_P (dC, dI) vwCl [(h0, .inr (2, [.int p0, .int 4, .ref qa_2, .int 0, .ref qa_1, .int p1, .int 0]))] H := hP
  have hD : va_D A [(h0, .inr (2, [.int p0, .int 4, .ref qa_2, .int 0, .ref qa_1, .int p1, .int 0]))] := hD
  refine lv_aload_n hx hb dX2_init_12 rfl (lv_at hl 0 rfl) ?_
  refine lv_iload_n hx hb dX2_init_13 rfl (lv_at hl 3 rfl) ?_
  refine va_putF (D := (dC, dI)) (ci := 2) (v := .int p2) (ty := .int) (C := RX2) (T := TX2) (N := 7) hx hb hts (by decide +kernel) tyX2 tyX2_ok nmX2 hown hK hP hD hS 0 rfl rfl 6 (by decide) (hts (.fieldLink RX2 15 "PageOne$Filler" "most" "I") (by decide +kernel)) (fun _ h9 => h9) rfl hin rfl (by decide +kernel) rfl rfl (Nat.le_of_ble_eq_true rfl) dX2_init_14 (fun H locs hP hD hS => ?_)
  have hP : va_P (dC, dI) vwCl [(h0, .inr (2, [.int p0, .int 4, .ref qa_2, .int 0, .ref qa_1, .int p1, .int p2]))] H := hP
  have hD : va_D A [(h0, .inr (2, [.int p0, .int 4, .ref qa_2, .int 0, .ref qa_1, .int p1, .int p2]))] := hD
  exact W.vret hx hb hr (fun t ht hW => ⟨⟨(), rfl, trivial, ⟨qa_2, qa_1, by rw [ht]; exact hP.sub [0] rfl, hD.sub [0] (by decide) rfl⟩⟩, hS.F ht⟩) hS.2.2 dX2_init_17
set_option maxHeartbeats 4000000 in
set_option maxRecDepth 100000 in
theorem x_enter_Filler (l : Launch) (dC : Nat → ClassId) (dI : Nat → Nat → Nat) (h0 pg pl it ac rv : Nat) (io sp r0 r1 : Nat) (cT : ClassId) (n0 n1 n2 : Int32) (sz : Nat) : Met l yX11_enter wsX11_enter ({ frames := 0, cells := 0, slots := 0, locals := 0 }) (va_Pc [.ref h0, .ref io] (fun U => U.heap.size = sz ∧ PW dC dI [(h0, .inr (10, [.ref pg, .ref pl, .ref it, .int 0, .ref ac, .int 0, .ref rv, .int 0, .int 0])), (it, .inl (cT, 80, .inr (.inr (.inr (.inr (fun _ => none)))))), (io, .inr (2, [.int n0, .int 4, .ref r0, .int 0, .ref r1, .int n1, .int n2]))] [(cT, .object "PageOne$Item")] U ∧ va_D (fun _ => True) [(h0, .inr (10, [.ref pg, .ref pl, .ref it, .int 0, .ref ac, .int 0, .ref rv, .int 0, .int 0])), (it, .inl (cT, 80, .inr (.inr (.inr (.inr (fun _ => none)))))), (io, .inr (2, [.int n0, .int 4, .ref r0, .int 0, .ref r1, .int n1, .int n2]))])) (va_Qi (fun (r : Int32) (_ : Unit) => r = n0) (fun _ _ => True) (va_A [(h0, .inr (10, [.ref pg, .ref pl, .ref it, .int 0, .ref ac, .int 0, .ref rv, .int 0, .int 0])), (it, .inl (cT, 80, .inr (.inr (.inr (.inr (fun _ => none)))))), (io, .inr (2, [.int n0, .int 4, .ref r0, .int 0, .ref r1, .int n1, .int n2]))] sz)) 0 0 (va_A [(h0, .inr (10, [.ref pg, .ref pl, .ref it, .int 0, .ref ac, .int 0, .ref rv, .int 0, .int 0])), (it, .inl (cT, 80, .inr (.inr (.inr (.inr (fun _ => none)))))), (io, .inr (2, [.int n0, .int 4, .ref r0, .int 0, .ref r1, .int n1, .int n2]))] sz) := by
  refine Met.ofW (cc := cX11_enter) (maxL := 2) (ret := (some .int)) (by decide) rfl ?_
  intro p e s m args below meth c s₁ B hml hv
  obtain ⟨rfl, hsz, ⟨hP, hK, hN⟩, hD0⟩ := hv
  have hx := B.exec
  have hb := B.bytes
  have hr := B.returns
  have hts := atoms_spec (ws := wsX11_enter) B.pre
  have hown : s.vm.findClass RX11 = some m.cls := findClass_of_methodNamed B.named
  have hlocks := B.notSynchronized
  subst hsz
  have hD := hD0.self (sz := s.heap.size)
  generalize hAe : va_A [(h0, .inr (10, [.ref pg, .ref pl, .ref it, .int 0, .ref ac, .int 0, .ref rv, .int 0, .int 0])), (it, .inl (cT, 80, .inr (.inr (.inr (.inr (fun _ => none)))))), (io, .inr (2, [.int n0, .int 4, .ref r0, .int 0, .ref r1, .int n1, .int n2]))] s.heap.size = A at hD ⊢
  have hA : ∀ q : Nat, s.heap.size ≤ q → A q := fun q h => by rw [← hAe]; exact Or.inr h
  have hS : va_S A s.heap s.heap [] := va_S.rf
  have hP : va_P (dC, dI) vwCl [(h0, .inr (10, [.ref pg, .ref pl, .ref it, .int 0, .ref ac, .int 0, .ref rv, .int 0, .int 0])), (it, .inl (cT, 80, .inr (.inr (.inr (.inr (fun _ => none)))))), (io, .inr (2, [.int n0, .int 4, .ref r0, .int 0, .ref r1, .int n1, .int n2]))] s.heap := hP
  have hl := lv_entry ([.ref h0, .ref io]) (n := 2) (Nat.le_of_ble_eq_true rfl)
  rw [lg_entry_eq]
  generalize (lg_sl ([.ref h0, .ref io]) ++ List.replicate (2 - (lg_sl ([.ref h0, .ref io])).length) Slot.unset).toArray = ls at hl ⊢
  have hl : lv_has ls 2 [(0, .ref h0), (1, .ref io)] := hl
  refine lv_aload_n hx hb dX11_enter_0 rfl (lv_at hl 0 rfl) ?_
  refine va_get (D := (dC, dI)) (ci := 10) (v := .int 0) (C := RX11) (T := TX11) (N := 9) hx hb hts (by decide +kernel) hown hK hP 0 rfl rfl 3 (by decide) (hts (.fieldLink RX11 24 "PageOne" "itemCount" "I") (by decide +kernel)) (fun _ h9 => h9) rfl dX11_enter_1 ?_
  refine lv_bipush (v := 80) hx hb dX11_enter_4 (by decide) ?_
  refine lv_icmp_lt (tgt := 11) hx hb dX11_enter_6 (by decide) (fun c_1 => ?_) (fun c_1 => absurd (by decide) c_1)
  refine lv_aload_n hx hb dX11_enter_11 rfl (lv_at hl 0 rfl) ?_
  refine va_get (D := (dC, dI)) (ci := 10) (v := .ref it) (C := RX11) (T := TX11) (N := 9) hx hb hts (by decide +kernel) hown hK hP 0 rfl rfl 2 (by decide) (hts (.fieldLink RX11 20 "PageOne" "items" "[LPageOne$Item;") (by decide +kernel)) (fun _ h9 => h9) rfl dX11_enter_12 ?_
  refine lv_aload_n hx hb dX11_enter_15 rfl (lv_at hl 0 rfl) ?_
  refine va_get (D := (dC, dI)) (ci := 10) (v := .int 0) (C := RX11) (T := TX11) (N := 9) hx hb hts (by decide +kernel) hown hK hP 0 rfl rfl 3 (by decide) (hts (.fieldLink RX11 24 "PageOne" "itemCount" "I") (by decide +kernel)) (fun _ h9 => h9) rfl dX11_enter_16 ?_
  refine lv_aload_n hx hb dX11_enter_19 rfl (lv_at hl 1 rfl) ?_
  refine va_astqO (r := (RX2, TX2, 7)) (E := "PageOne$Item") hx hb hK hP hD hS 1 0 2 2 rfl rfl hN.cast_X2 rfl rfl (by unfold vp_in; decide) dX11_enter_20 (fun H locs hP hD hS => ?_)
  have hP : va_P (dC, dI) vwCl [(h0, .inr (10, [.ref pg, .ref pl, .ref it, .int 0, .ref ac, .int 0, .ref rv, .int 0, .int 0])), (it, .inl (cT, 80, .inr (.inr (.inr (.inr (va_up (fun _ => none) 0 (some io))))))), (io, .inr (2, [.int n0, .int 4, .ref r0, .int 0, .ref r1, .int n1, .int n2]))] H := hP
  have hD : va_D A [(h0, .inr (10, [.ref pg, .ref pl, .ref it, .int 0, .ref ac, .int 0, .ref rv, .int 0, .int 0])), (it, .inl (cT, 80, .inr (.inr (.inr (.inr (va_up (fun _ => none) 0 (some io))))))), (io, .inr (2, [.int n0, .int 4, .ref r0, .int 0, .ref r1, .int n1, .int n2]))] := hD
  refine lv_aload_n hx hb dX11_enter_21 rfl (lv_at hl 0 rfl) ?_
  refine lv_dup hx hb dX11_enter_22 rfl ?_
  refine va_get (D := (dC, dI)) (ci := 10) (v := .int 0) (C := RX11) (T := TX11) (N := 9) hx hb hts (by decide +kernel) hown hK hP 0 rfl rfl 3 (by decide) (hts (.fieldLink RX11 24 "PageOne" "itemCount" "I") (by decide +kernel)) (fun _ h9 => h9) rfl dX11_enter_23 ?_
  refine lv_iconst (v := 1) hx hb dX11_enter_26 (by decide) ?_
  refine lv_iadd hx hb dX11_enter_27 ?_
  refine lv_topi (fun k_2 ek_2 => ?_)
  obtain rfl : k_2 = 1 := ek_2.trans (by decide)
  refine va_put (D := (dC, dI)) (ci := 10) (v := .int 1) (ty := .int) (C := RX11) (T := TX11) (N := 9) hx hb hts (by decide +kernel) tyX11 tyX11_ok nmX11 hown hK hP hD hS 0 rfl rfl 3 (by decide) (hts (.fieldLink RX11 24 "PageOne" "itemCount" "I") (by decide +kernel)) (fun _ h9 => h9) rfl (by decide +kernel) rfl rfl (Nat.le_of_ble_eq_true rfl) dX11_enter_28 (fun H locs hP hD hS => ?_)
  have hP : va_P (dC, dI) vwCl [(h0, .inr (10, [.ref pg, .ref pl, .ref it, .int 1, .ref ac, .int 0, .ref rv, .int 0, .int 0])), (it, .inl (cT, 80, .inr (.inr (.inr (.inr (va_up (fun _ => none) 0 (some io))))))), (io, .inr (2, [.int n0, .int 4, .ref r0, .int 0, .ref r1, .int n1, .int n2]))] H := hP
  have hD : va_D A [(h0, .inr (10, [.ref pg, .ref pl, .ref it, .int 1, .ref ac, .int 0, .ref rv, .int 0, .int 0])), (it, .inl (cT, 80, .inr (.inr (.inr (.inr (va_up (fun _ => none) 0 (some io))))))), (io, .inr (2, [.int n0, .int 4, .ref r0, .int 0, .ref r1, .int n1, .int n2]))] := hD
  refine lv_aload_n hx hb dX11_enter_31 rfl (lv_at hl 1 rfl) ?_
  refine va_get (D := (dC, dI)) (ci := 2) (v := .int n0) (C := RX2) (T := TX2) (N := 7) hx hb hts (by decide +kernel) hown hK hP 2 rfl rfl 0 (by decide) (hts (.fieldLink RX11 285 "PageOne$Item" "number" "I") (by decide +kernel)) (fun _ h9 => h9) rfl dX11_enter_32 ?_
  exact W.iret (v := n0) hx hb hr (fun t ht hW => ⟨⟨n0, (), rfl, rfl, trivial⟩, hS.F ht⟩) hS.2.2 dX11_enter_35
