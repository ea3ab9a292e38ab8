theorem popAll_28 : ∀ (xs : List fX) (u : mS), (popAll u xs).1 28 = u.1 28
  | [], _ => rfl
  | x :: xs, u => by
    show (popAll (popS u x) xs).1 28 = _
    rw [popAll_28 xs]
    show (mset u 36 (u.1 36 - 1)).1 28 = _
    rfl
set_option maxHeartbeats 4000000 in
set_option maxRecDepth 100000 in
theorem n_undoP (l : Launch) (dC : Nat → ClassId) (dI : Nat → Nat → Nat) (h0 : Nat) (v : Nat → Nat) (cI cZ : ClassId) (u : mS) (a : Nat) (P X Y D N : Nat) (hPP : P < 12) (hXW : X + D ≤ 8) (hYN : Y + N ≤ 60) (ha8 : a < 80) (h30 : u.2 30 (u.1 28 - 1).toNatClampNeg = nI a) (hsl : slR u (nI a) P X Y D N) (hz0 : ¬ u.1 28 = 0) (ha1 : bw (u.1 28 - 1) 0 299 = true) (h29 : u.2 29 (u.1 28 - 1).toNatClampNeg = 0) (sz : Nat) : Met l yX12_undo wsX12_undo ({ frames := 3, cells := 0, slots := 0, locals := 77 }) (va_Pc [.ref h0] (fun U => U.heap.size = sz ∧ PW dC dI (mW h0 v cI cZ u) [(cI, .int), (cZ, .boolean)] U ∧ va_D (fun _ => True) (mW h0 v cI cZ u))) (va_Qi (fun (r : Int32) (u9 : mS) => r = u.1 28 - 1 ∧ u9 = mUnstand (mBack u) (nI a) P X Y D N) (fun u9 t => va_P (dC, dI) vwCl (mW h0 v cI cZ u9) t.heap ∧ va_D (va_A (mW h0 v cI cZ u) sz) (mW h0 v cI cZ u9)) (va_A (mW h0 v cI cZ u) sz)) 0 0 (va_A (mW h0 v cI cZ u) sz) := by
  refine Met.ofW (cc := cX12_undo) (maxL := 3) (ret := (some .int)) (by decide) rfl ?_
  intro p e s m args below meth c s₁ B hml hv
  obtain ⟨rfl, hsz, ⟨hP, hK, hN⟩, hD0⟩ := hv
  have hx := B.exec
  have hb := B.bytes
  have hr := B.returns
  have hts := atoms_spec (ws := wsX12_undo) B.pre
  have hown : s.vm.findClass RX12 = some m.cls := findClass_of_methodNamed B.named
  have hlocks := B.notSynchronized
  subst hsz
  have hD := hD0.self (sz := s.heap.size)
  generalize hAe : va_A (mW h0 v cI cZ u) s.heap.size = A at hD ⊢
  have hA : ∀ q : Nat, s.heap.size ≤ q → A q := fun q h => by rw [← hAe]; exact Or.inr h
  have hS : va_S A s.heap s.heap [] := va_S.rf
  have hl := lv_entry ([.ref h0]) (n := 3) (Nat.le_of_ble_eq_true rfl)
  rw [lg_entry_eq]
  generalize (lg_sl ([.ref h0]) ++ List.replicate (3 - (lg_sl ([.ref h0])).length) Slot.unset).toArray = ls at hl ⊢
  have hl : lv_has ls 3 [(0, .ref h0)] := hl
  refine lv_aload_n hx hb dX12_undo_0 rfl (lv_at hl 0 rfl) ?_
  refine va_get (D := (dC, dI)) (ci := 11) (v := .int (u.1 28)) (C := RX12) (T := TX12) (N := 52) hx hb hts (by decide +kernel) hown hK hP 0 rfl rfl 28 (by decide) (hts (.fieldLink RX12 158 "PageOneModel" "acts" "I") (by decide +kernel)) (fun _ h9 => h9) rfl dX12_undo_1 ?_
  refine lv_if_ne (tgt := 9) hx hb dX12_undo_4 (by decide) (fun c_1 => ?_) (fun c_1 => absurd c_1 (hz0))
  refine lv_aload_n hx hb dX12_undo_9 rfl (lv_at hl 0 rfl) ?_
  refine lv_dup hx hb dX12_undo_10 rfl ?_
  refine va_get (D := (dC, dI)) (ci := 11) (v := .int (u.1 28)) (C := RX12) (T := TX12) (N := 52) hx hb hts (by decide +kernel) hown hK hP 0 rfl rfl 28 (by decide) (hts (.fieldLink RX12 158 "PageOneModel" "acts" "I") (by decide +kernel)) (fun _ h9 => h9) rfl dX12_undo_11 ?_
  refine lv_iconst (v := 1) hx hb dX12_undo_14 (by decide) ?_
  refine lv_isub hx hb dX12_undo_15 ?_
  refine va_put (D := (dC, dI)) (ci := 11) (v := .int ((u.1 28) - 1)) (ty := .int) (C := RX12) (T := TX12) (N := 52) hx hb hts (by decide +kernel) tyX12 tyX12_ok nmX12 hown hK hP hD hS 0 rfl rfl 28 (by decide) (hts (.fieldLink RX12 158 "PageOneModel" "acts" "I") (by decide +kernel)) (fun _ h9 => h9) rfl (by decide +kernel) rfl rfl (Nat.le_of_ble_eq_true rfl) dX12_undo_16 (fun H locs hP hD hS => ?_)
  obtain ⟨u_2, eu_2⟩ : ∃ zz : mS, zz = mset u 28 ((u.1 28) - 1) := ⟨_, rfl⟩
  have hP : va_P (dC, dI) vwCl (mW h0 v cI cZ u_2) H := by rw [eu_2]; exact hP
  have hD : va_D A (mW h0 v cI cZ u_2) := by rw [eu_2]; exact hD
  refine lv_aload_n hx hb dX12_undo_19 rfl (lv_at hl 0 rfl) ?_
  refine va_get (D := (dC, dI)) (ci := 11) (v := .ref (v 30)) (C := RX12) (T := TX12) (N := 52) hx hb hts (by decide +kernel) hown hK hP 0 rfl rfl 30 (by decide) (hts (.fieldLink RX12 95 "PageOneModel" "actA" "[I") (by decide +kernel)) (fun _ h9 => h9) rfl dX12_undo_20 ?_
  refine lv_aload_n hx hb dX12_undo_23 rfl (lv_at hl 0 rfl) ?_
  refine va_get (D := (dC, dI)) (ci := 11) (v := .int (u_2.1 28)) (C := RX12) (T := TX12) (N := 52) hx hb hts (by decide +kernel) hown hK hP 0 rfl rfl 28 (by decide) (hts (.fieldLink RX12 158 "PageOneModel" "acts" "I") (by decide +kernel)) (fun _ h9 => h9) rfl dX12_undo_24 ?_
  refine va_iald hx hb hK hP 29 0 rfl rfl (by rw [eu_2, mset_same]; exact vAct ha1) dX12_undo_27 ?_
  refine lv_topi (fun y_3 ey_3 => ?_)
  obtain rfl : y_3 = (nI a) := ey_3.trans ((by rw [eu_2, mset_same]; exact h30))
  refine lv_istore_n (lv' := [(1, .int (nI a)), (0, .ref h0)]) hx hb dX12_undo_28 rfl hl (by decide) rfl (fun ls hl => ?_)
  refine lv_aload_n hx hb dX12_undo_29 rfl (lv_at hl 1 rfl) ?_
  refine va_get (D := (dC, dI)) (ci := 11) (v := .ref (v 29)) (C := RX12) (T := TX12) (N := 52) hx hb hts (by decide +kernel) hown hK hP 0 rfl rfl 29 (by decide) (hts (.fieldLink RX12 92 "PageOneModel" "actKind" "[I") (by decide +kernel)) (fun _ h9 => h9) rfl dX12_undo_30 ?_
  refine lv_aload_n hx hb dX12_undo_33 rfl (lv_at hl 1 rfl) ?_
  refine va_get (D := (dC, dI)) (ci := 11) (v := .int (u_2.1 28)) (C := RX12) (T := TX12) (N := 52) hx hb hts (by decide +kernel) hown hK hP 0 rfl rfl 28 (by decide) (hts (.fieldLink RX12 158 "PageOneModel" "acts" "I") (by decide +kernel)) (fun _ h9 => h9) rfl dX12_undo_34 ?_
  refine va_iald hx hb hK hP 28 0 rfl rfl (by rw [eu_2, mset_same]; exact vAct ha1) dX12_undo_37 ?_
  refine lv_topi (fun y_4 ey_4 => ?_)
  obtain rfl : y_4 = 0 := ey_4.trans ((by rw [eu_2, mset_same]; exact h29))
  refine lv_tableIn (tgt := 64) (off := 26) hx hb dX12_undo_38 (by decide) (by decide) (by decide) (by decide) ?_
  refine lv_aload_n hx hb dX12_undo_64 rfl (lv_at hl 1 rfl) ?_
  refine lv_iload_n hx hb dX12_undo_65 rfl (lv_at hl 0 rfl) ?_
  have hFc := fr_all hD hS hA
  refine va_callv (va_runV (As := [.int (nI a)]) (rest := []) ⟨hx, hb, hml, hown, hts⟩ (m_unstand l dC dI h0 v cI cZ u_2 (nI a) P X Y D N hPP hXW hYN (bw79 ha8) (by rw [eu_2]; exact hsl.1) (by rw [eu_2]; exact hsl.2.1) (by rw [eu_2]; exact hsl.2.2.1) (by rw [eu_2]; exact hsl.2.2.2.1) (by rw [eu_2]; exact hsl.2.2.2.2.1) (by rw [eu_2]; exact hsl.2.2.2.2.2) H.size) (cwV 1 hts gX12_undo_X12_unstand rfl rfl rfl (by decide +kernel) ⟨Nat.le_of_ble_eq_true rfl, Nat.le_of_ble_eq_true rfl⟩) ⟨gw_fb, va_recv hK hP (ci := 11) (q0 := 0) rfl rfl, fun U hU hW => ⟨rfl, by rw [hU], pw_to hU hW hP hK hN, hD.weaken (fun _ _ _ _ => trivial)⟩⟩ rfl rfl hl.1 rfl (lv_room (Nat.le_of_ble_eq_true rfl)) dX12_undo_66 ⟨Nat.le_of_ble_eq_true rfl, Nat.le_of_ble_eq_true rfl⟩) hS (fun q _ h => hFc q h) hFc (fun u_5 t H1 locs ht hvm hw hB hz1 hk1 hS => ?_)
  obtain ⟨hP, hD1⟩ := hB
  rw [ht] at hP
  have hD := hD1.weaken (fun _ q _ h => hFc q.1 h)
  generalize H1 = H at hP hS ⊢
  have eu_5 := hw
  refine lv_goto (tgt := 193) hx hb dX12_undo_69 (by decide) ?_
  refine lv_aload_n hx hb dX12_undo_193 rfl (lv_at hl 1 rfl) ?_
  refine va_get (D := (dC, dI)) (ci := 11) (v := .int (u_5.1 28)) (C := RX12) (T := TX12) (N := 52) hx hb hts (by decide +kernel) hown hK hP 0 rfl rfl 28 (by decide) (hts (.fieldLink RX12 158 "PageOneModel" "acts" "I") (by decide +kernel)) (fun _ h9 => h9) rfl dX12_undo_194 ?_
  exact W.iret (v := (u_5.1 28)) hx hb hr (fun t ht hW => ⟨⟨(u_5.1 28), u_5, rfl, ⟨(by rw [eu_5, eu_2]; exact back_28 u), (by rw [eu_5, eu_2]; rfl)⟩, by rw [ht]; exact hP, hD⟩, hS.F ht⟩) hS.2.2 dX12_undo_197
set_option maxHeartbeats 4000000 in
set_option maxRecDepth 100000 in
theorem n_undoL (l : Launch) (dC : Nat → ClassId) (dI : Nat → Nat → Nat) (h0 : Nat) (v : Nat → Nat) (cI cZ : ClassId) (u : mS) (a : Nat) (P X Y D N : Nat) (hPP : P < 12) (hXW : X + D ≤ 8) (hYN : Y + N ≤ 60) (ha8 : a < 80) (h30 : u.2 30 (u.1 28 - 1).toNatClampNeg = nI a) (h31 : u.2 31 (u.1 28 - 1).toNatClampNeg = nI P) (h32 : u.2 32 (u.1 28 - 1).toNatClampNeg = nI X) (h33 : u.2 33 (u.1 28 - 1).toNatClampNeg = nI Y) (h34 : u.2 34 (u.1 28 - 1).toNatClampNeg = nI D) (h35 : u.2 35 (u.1 28 - 1).toNatClampNeg = nI N) (hq5 : bw (u.2 22 (nI a).toNatClampNeg) 0 5 = true) (hz0 : ¬ u.1 28 = 0) (ha1 : bw (u.1 28 - 1) 0 299 = true) (h29 : u.2 29 (u.1 28 - 1).toNatClampNeg = 1) (sz : Nat) : Met l yX12_undo wsX12_undo ({ frames := 3, cells := 0, slots := 0, locals := 77 }) (va_Pc [.ref h0] (fun U => U.heap.size = sz ∧ PW dC dI (mW h0 v cI cZ u) [(cI, .int), (cZ, .boolean)] U ∧ va_D (fun _ => True) (mW h0 v cI cZ u))) (va_Qi (fun (r : Int32) (u9 : mS) => r = u.1 28 - 1 ∧ u9 = mStand (mBack u) (nI a) P X Y D N) (fun u9 t => va_P (dC, dI) vwCl (mW h0 v cI cZ u9) t.heap ∧ va_D (va_A (mW h0 v cI cZ u) sz) (mW h0 v cI cZ u9)) (va_A (mW h0 v cI cZ u) sz)) 0 0 (va_A (mW h0 v cI cZ u) sz) := by
  refine Met.ofW (cc := cX12_undo) (maxL := 3) (ret := (some .int)) (by decide) rfl ?_
  intro p e s m args below meth c s₁ B hml hv
  obtain ⟨rfl, hsz, ⟨hP, hK, hN⟩, hD0⟩ := hv
  have hx := B.exec
  have hb := B.bytes
  have hr := B.returns
  have hts := atoms_spec (ws := wsX12_undo) B.pre
  have hown : s.vm.findClass RX12 = some m.cls := findClass_of_methodNamed B.named
  have hlocks := B.notSynchronized
  subst hsz
  have hD := hD0.self (sz := s.heap.size)
  generalize hAe : va_A (mW h0 v cI cZ u) s.heap.size = A at hD ⊢
  have hA : ∀ q : Nat, s.heap.size ≤ q → A q := fun q h => by rw [← hAe]; exact Or.inr h
  have hS : va_S A s.heap s.heap [] := va_S.rf
  have hl := lv_entry ([.ref h0]) (n := 3) (Nat.le_of_ble_eq_true rfl)
  rw [lg_entry_eq]
  generalize (lg_sl ([.ref h0]) ++ List.replicate (3 - (lg_sl ([.ref h0])).length) Slot.unset).toArray = ls at hl ⊢
  have hl : lv_has ls 3 [(0, .ref h0)] := hl
  refine lv_aload_n hx hb dX12_undo_0 rfl (lv_at hl 0 rfl) ?_
  refine va_get (D := (dC, dI)) (ci := 11) (v := .int (u.1 28)) (C := RX12) (T := TX12) (N := 52) hx hb hts (by decide +kernel) hown hK hP 0 rfl rfl 28 (by decide) (hts (.fieldLink RX12 158 "PageOneModel" "acts" "I") (by decide +kernel)) (fun _ h9 => h9) rfl dX12_undo_1 ?_
  refine lv_if_ne (tgt := 9) hx hb dX12_undo_4 (by decide) (fun c_1 => ?_) (fun c_1 => absurd c_1 (hz0))
  refine lv_aload_n hx hb dX12_undo_9 rfl (lv_at hl 0 rfl) ?_
  refine lv_dup hx hb dX12_undo_10 rfl ?_
  refine va_get (D := (dC, dI)) (ci := 11) (v := .int (u.1 28)) (C := RX12) (T := TX12) (N := 52) hx hb hts (by decide +kernel) hown hK hP 0 rfl rfl 28 (by decide) (hts (.fieldLink RX12 158 "PageOneModel" "acts" "I") (by decide +kernel)) (fun _ h9 => h9) rfl dX12_undo_11 ?_
  refine lv_iconst (v := 1) hx hb dX12_undo_14 (by decide) ?_
  refine lv_isub hx hb dX12_undo_15 ?_
  refine va_put (D := (dC, dI)) (ci := 11) (v := .int ((u.1 28) - 1)) (ty := .int) (C := RX12) (T := TX12) (N := 52) hx hb hts (by decide +kernel) tyX12 tyX12_ok nmX12 hown hK hP hD hS 0 rfl rfl 28 (by decide) (hts (.fieldLink RX12 158 "PageOneModel" "acts" "I") (by decide +kernel)) (fun _ h9 => h9) rfl (by decide +kernel) rfl rfl (Nat.le_of_ble_eq_true rfl) dX12_undo_16 (fun H locs hP hD hS => ?_)
  obtain ⟨u_2, eu_2⟩ : ∃ zz : mS, zz = mset u 28 ((u.1 28) - 1) := ⟨_, rfl⟩
  have hP : va_P (dC, dI) vwCl (mW h0 v cI cZ u_2) H := by rw [eu_2]; exact hP
  have hD : va_D A (mW h0 v cI cZ u_2) := by rw [eu_2]; exact hD
  refine lv_aload_n hx hb dX12_undo_19 rfl (lv_at hl 0 rfl) ?_
  refine va_get (D := (dC, dI)) (ci := 11) (v := .ref (v 30)) (C := RX12) (T := TX12) (N := 52) hx hb hts (by decide +kernel) hown hK hP 0 rfl rfl 30 (by decide) (hts (.fieldLink RX12 95 "PageOneModel" "actA" "[I") (by decide +kernel)) (fun _ h9 => h9) rfl dX12_undo_20 ?_
  refine lv_aload_n hx hb dX12_undo_23 rfl (lv_at hl 0 rfl) ?_
  refine va_get (D := (dC, dI)) (ci := 11) (v := .int (u_2.1 28)) (C := RX12) (T := TX12) (N := 52) hx hb hts (by decide +kernel) hown hK hP 0 rfl rfl 28 (by decide) (hts (.fieldLink RX12 158 "PageOneModel" "acts" "I") (by decide +kernel)) (fun _ h9 => h9) rfl dX12_undo_24 ?_
  refine va_iald hx hb hK hP 29 0 rfl rfl (by rw [eu_2, mset_same]; exact vAct ha1) dX12_undo_27 ?_
  refine lv_topi (fun y_3 ey_3 => ?_)
  obtain rfl : y_3 = (nI a) := ey_3.trans ((by rw [eu_2, mset_same]; exact h30))
  refine lv_istore_n (lv' := [(1, .int (nI a)), (0, .ref h0)]) hx hb dX12_undo_28 rfl hl (by decide) rfl (fun ls hl => ?_)
  refine lv_aload_n hx hb dX12_undo_29 rfl (lv_at hl 1 rfl) ?_
  refine va_get (D := (dC, dI)) (ci := 11) (v := .ref (v 29)) (C := RX12) (T := TX12) (N := 52) hx hb hts (by decide +kernel) hown hK hP 0 rfl rfl 29 (by decide) (hts (.fieldLink RX12 92 "PageOneModel" "actKind" "[I") (by decide +kernel)) (fun _ h9 => h9) rfl dX12_undo_30 ?_
  refine lv_aload_n hx hb dX12_undo_33 rfl (lv_at hl 1 rfl) ?_
  refine va_get (D := (dC, dI)) (ci := 11) (v := .int (u_2.1 28)) (C := RX12) (T := TX12) (N := 52) hx hb hts (by decide +kernel) hown hK hP 0 rfl rfl 28 (by decide) (hts (.fieldLink RX12 158 "PageOneModel" "acts" "I") (by decide +kernel)) (fun _ h9 => h9) rfl dX12_undo_34 ?_
  refine va_iald hx hb hK hP 28 0 rfl rfl (by rw [eu_2, mset_same]; exact vAct ha1) dX12_undo_37 ?_
  refine lv_topi (fun y_4 ey_4 => ?_)
  obtain rfl : y_4 = 1 := ey_4.trans ((by rw [eu_2, mset_same]; exact h29))
  refine lv_tableIn (tgt := 72) (off := 34) hx hb dX12_undo_38 (by decide) (by decide) (by decide) (by decide) ?_
  refine lv_aload_n hx hb dX12_undo_72 rfl (lv_at hl 1 rfl) ?_
  refine lv_iload_n hx hb dX12_undo_73 rfl (lv_at hl 0 rfl) ?_
  refine lv_aload_n hx hb dX12_undo_74 rfl (lv_at hl 1 rfl) ?_
  refine va_get (D := (dC, dI)) (ci := 11) (v := .ref (v 31)) (C := RX12) (T := TX12) (N := 52) hx hb hts (by decide +kernel) hown hK hP 0 rfl rfl 31 (by decide) (hts (.fieldLink RX12 98 "PageOneModel" "actB" "[I") (by decide +kernel)) (fun _ h9 => h9) rfl dX12_undo_75 ?_
  refine lv_aload_n hx hb dX12_undo_78 rfl (lv_at hl 1 rfl) ?_
  refine va_get (D := (dC, dI)) (ci := 11) (v := .int (u_2.1 28)) (C := RX12) (T := TX12) (N := 52) hx hb hts (by decide +kernel) hown hK hP 0 rfl rfl 28 (by decide) (hts (.fieldLink RX12 158 "PageOneModel" "acts" "I") (by decide +kernel)) (fun _ h9 => h9) rfl dX12_undo_79 ?_
  refine va_iald hx hb hK hP 30 0 rfl rfl (by rw [eu_2, mset_same]; exact vAct ha1) dX12_undo_82 ?_
  refine lv_topi (fun y_5 ey_5 => ?_)
  obtain rfl : y_5 = (nI P) := ey_5.trans ((by rw [eu_2, mset_same]; exact h31))
  refine lv_aload_n hx hb dX12_undo_83 rfl (lv_at hl 1 rfl) ?_
  refine va_get (D := (dC, dI)) (ci := 11) (v := .ref (v 32)) (C := RX12) (T := TX12) (N := 52) hx hb hts (by decide +kernel) hown hK hP 0 rfl rfl 32 (by decide) (hts (.fieldLink RX12 101 "PageOneModel" "actC" "[I") (by decide +kernel)) (fun _ h9 => h9) rfl dX12_undo_84 ?_
  refine lv_aload_n hx hb dX12_undo_87 rfl (lv_at hl 1 rfl) ?_
  refine va_get (D := (dC, dI)) (ci := 11) (v := .int (u_2.1 28)) (C := RX12) (T := TX12) (N := 52) hx hb hts (by decide +kernel) hown hK hP 0 rfl rfl 28 (by decide) (hts (.fieldLink RX12 158 "PageOneModel" "acts" "I") (by decide +kernel)) (fun _ h9 => h9) rfl dX12_undo_88 ?_
  refine va_iald hx hb hK hP 31 0 rfl rfl (by rw [eu_2, mset_same]; exact vAct ha1) dX12_undo_91 ?_
  refine lv_topi (fun y_6 ey_6 => ?_)
  obtain rfl : y_6 = (nI X) := ey_6.trans ((by rw [eu_2, mset_same]; exact h32))
  refine lv_aload_n hx hb dX12_undo_92 rfl (lv_at hl 1 rfl) ?_
  refine va_get (D := (dC, dI)) (ci := 11) (v := .ref (v 33)) (C := RX12) (T := TX12) (N := 52) hx hb hts (by decide +kernel) hown hK hP 0 rfl rfl 33 (by decide) (hts (.fieldLink RX12 104 "PageOneModel" "actD" "[I") (by decide +kernel)) (fun _ h9 => h9) rfl dX12_undo_93 ?_
  refine lv_aload_n hx hb dX12_undo_96 rfl (lv_at hl 1 rfl) ?_
  refine va_get (D := (dC, dI)) (ci := 11) (v := .int (u_2.1 28)) (C := RX12) (T := TX12) (N := 52) hx hb hts (by decide +kernel) hown hK hP 0 rfl rfl 28 (by decide) (hts (.fieldLink RX12 158 "PageOneModel" "acts" "I") (by decide +kernel)) (fun _ h9 => h9) rfl dX12_undo_97 ?_
  refine va_iald hx hb hK hP 32 0 rfl rfl (by rw [eu_2, mset_same]; exact vAct ha1) dX12_undo_100 ?_
  refine lv_topi (fun y_7 ey_7 => ?_)
  obtain rfl : y_7 = (nI Y) := ey_7.trans ((by rw [eu_2, mset_same]; exact h33))
  refine lv_aload_n hx hb dX12_undo_101 rfl (lv_at hl 1 rfl) ?_
  refine va_get (D := (dC, dI)) (ci := 11) (v := .ref (v 34)) (C := RX12) (T := TX12) (N := 52) hx hb hts (by decide +kernel) hown hK hP 0 rfl rfl 34 (by decide) (hts (.fieldLink RX12 107 "PageOneModel" "actE" "[I") (by decide +kernel)) (fun _ h9 => h9) rfl dX12_undo_102 ?_
  refine lv_aload_n hx hb dX12_undo_105 rfl (lv_at hl 1 rfl) ?_
  refine va_get (D := (dC, dI)) (ci := 11) (v := .int (u_2.1 28)) (C := RX12) (T := TX12) (N := 52) hx hb hts (by decide +kernel) hown hK hP 0 rfl rfl 28 (by decide) (hts (.fieldLink RX12 158 "PageOneModel" "acts" "I") (by decide +kernel)) (fun _ h9 => h9) rfl dX12_undo_106 ?_
  refine va_iald hx hb hK hP 33 0 rfl rfl (by rw [eu_2, mset_same]; exact vAct ha1) dX12_undo_109 ?_
  refine lv_topi (fun y_8 ey_8 => ?_)
  obtain rfl : y_8 = (nI D) := ey_8.trans ((by rw [eu_2, mset_same]; exact h34))
  refine lv_aload_n hx hb dX12_undo_110 rfl (lv_at hl 1 rfl) ?_
  refine va_get (D := (dC, dI)) (ci := 11) (v := .ref (v 35)) (C := RX12) (T := TX12) (N := 52) hx hb hts (by decide +kernel) hown hK hP 0 rfl rfl 35 (by decide) (hts (.fieldLink RX12 110 "PageOneModel" "actF" "[I") (by decide +kernel)) (fun _ h9 => h9) rfl dX12_undo_111 ?_
  refine lv_aload_n hx hb dX12_undo_114 rfl (lv_at hl 1 rfl) ?_
  refine va_get (D := (dC, dI)) (ci := 11) (v := .int (u_2.1 28)) (C := RX12) (T := TX12) (N := 52) hx hb hts (by decide +kernel) hown hK hP 0 rfl rfl 28 (by decide) (hts (.fieldLink RX12 158 "PageOneModel" "acts" "I") (by decide +kernel)) (fun _ h9 => h9) rfl dX12_undo_115 ?_
  refine va_iald hx hb hK hP 34 0 rfl rfl (by rw [eu_2, mset_same]; exact vAct ha1) dX12_undo_118 ?_
  refine lv_topi (fun y_9 ey_9 => ?_)
  obtain rfl : y_9 = (nI N) := ey_9.trans ((by rw [eu_2, mset_same]; exact h35))
  have hFc := fr_all hD hS hA
  refine va_callv (va_runV (As := [.int (nI a), .int (nI P), .int (nI X), .int (nI Y), .int (nI D), .int (nI N)]) (rest := []) ⟨hx, hb, hml, hown, hts⟩ (m_stand l dC dI h0 v cI cZ u_2 (nI a) P X Y D N hPP hXW hYN (bw79 ha8) (by rw [eu_2]; exact hq5) H.size) (cwV 6 hts gX12_undo_X12_stand rfl rfl rfl (by decide +kernel) ⟨Nat.le_of_ble_eq_true rfl, Nat.le_of_ble_eq_true rfl⟩) ⟨gw_fb, va_recv hK hP (ci := 11) (q0 := 0) rfl rfl, fun U hU hW => ⟨rfl, by rw [hU], pw_to hU hW hP hK hN, hD.weaken (fun _ _ _ _ => trivial)⟩⟩ rfl rfl hl.1 rfl (lv_room (Nat.le_of_ble_eq_true rfl)) dX12_undo_119 ⟨Nat.le_of_ble_eq_true rfl, Nat.le_of_ble_eq_true rfl⟩) hS (fun q _ h => hFc q h) hFc (fun u_10 t H1 locs ht hvm hw hB hz1 hk1 hS => ?_)
  obtain ⟨hP, hD1⟩ := hB
  rw [ht] at hP
  have hD := hD1.weaken (fun _ q _ h => hFc q.1 h)
  generalize H1 = H at hP hS ⊢
  have eu_10 := hw
  refine lv_goto (tgt := 193) hx hb dX12_undo_122 (by decide) ?_
  refine lv_aload_n hx hb dX12_undo_193 rfl (lv_at hl 1 rfl) ?_
  refine va_get (D := (dC, dI)) (ci := 11) (v := .int (u_10.1 28)) (C := RX12) (T := TX12) (N := 52) hx hb hts (by decide +kernel) hown hK hP 0 rfl rfl 28 (by decide) (hts (.fieldLink RX12 158 "PageOneModel" "acts" "I") (by decide +kernel)) (fun _ h9 => h9) rfl dX12_undo_194 ?_
  exact W.iret (v := (u_10.1 28)) hx hb hr (fun t ht hW => ⟨⟨(u_10.1 28), u_10, rfl, ⟨(by rw [eu_10, eu_2]; exact back_28 u), (by rw [eu_10, eu_2]; rfl)⟩, by rw [ht]; exact hP, hD⟩, hS.F ht⟩) hS.2.2 dX12_undo_197
set_option maxHeartbeats 4000000 in
set_option maxRecDepth 100000 in
theorem n_undoR (l : Launch) (dC : Nat → ClassId) (dI : Nat → Nat → Nat) (h0 : Nat) (v : Nat → Nat) (cI cZ : ClassId) (u : mS) (P X Y : Nat) (hPP : P < 12) (hX8 : X < 8) (hY6 : Y < 60) (h30 : u.2 30 (u.1 28 - 1).toNatClampNeg = nI P) (h31 : u.2 31 (u.1 28 - 1).toNatClampNeg = nI X) (h32 : u.2 32 (u.1 28 - 1).toNatClampNeg = nI Y) (hz0 : ¬ u.1 28 = 0) (ha1 : bw (u.1 28 - 1) 0 299 = true) (h29 : u.2 29 (u.1 28 - 1).toNatClampNeg = 2) (sz : Nat) : Met l yX12_undo wsX12_undo ({ frames := 3, cells := 0, slots := 0, locals := 77 }) (va_Pc [.ref h0] (fun U => U.heap.size = sz ∧ PW dC dI (mW h0 v cI cZ u) [(cI, .int), (cZ, .boolean)] U ∧ va_D (fun _ => True) (mW h0 v cI cZ u))) (va_Qi (fun (r : Int32) (u9 : mS) => r = u.1 28 - 1 ∧ u9 = mst (mBack u) 2 (480 * nI P + 60 * nI X + nI Y) (-2)) (fun u9 t => va_P (dC, dI) vwCl (mW h0 v cI cZ u9) t.heap ∧ va_D (va_A (mW h0 v cI cZ u) sz) (mW h0 v cI cZ u9)) (va_A (mW h0 v cI cZ u) sz)) 0 0 (va_A (mW h0 v cI cZ u) sz) := by
  refine Met.ofW (cc := cX12_undo) (maxL := 3) (ret := (some .int)) (by decide) rfl ?_
  intro p e s m args below meth c s₁ B hml hv
  obtain ⟨rfl, hsz, ⟨hP, hK, hN⟩, hD0⟩ := hv
  have hx := B.exec
  have hb := B.bytes
  have hr := B.returns
  have hts := atoms_spec (ws := wsX12_undo) B.pre
  have hown : s.vm.findClass RX12 = some m.cls := findClass_of_methodNamed B.named
  have hlocks := B.notSynchronized
  subst hsz
  have hD := hD0.self (sz := s.heap.size)
  generalize hAe : va_A (mW h0 v cI cZ u) s.heap.size = A at hD ⊢
  have hA : ∀ q : Nat, s.heap.size ≤ q → A q := fun q h => by rw [← hAe]; exact Or.inr h
  have hS : va_S A s.heap s.heap [] := va_S.rf
  have hl := lv_entry ([.ref h0]) (n := 3) (Nat.le_of_ble_eq_true rfl)
  rw [lg_entry_eq]
  generalize (lg_sl ([.ref h0]) ++ List.replicate (3 - (lg_sl ([.ref h0])).length) Slot.unset).toArray = ls at hl ⊢
  have hl : lv_has ls 3 [(0, .ref h0)] := hl
  refine lv_aload_n hx hb dX12_undo_0 rfl (lv_at hl 0 rfl) ?_
  refine va_get (D := (dC, dI)) (ci := 11) (v := .int (u.1 28)) (C := RX12) (T := TX12) (N := 52) hx hb hts (by decide +kernel) hown hK hP 0 rfl rfl 28 (by decide) (hts (.fieldLink RX12 158 "PageOneModel" "acts" "I") (by decide +kernel)) (fun _ h9 => h9) rfl dX12_undo_1 ?_
  refine lv_if_ne (tgt := 9) hx hb dX12_undo_4 (by decide) (fun c_1 => ?_) (fun c_1 => absurd c_1 (hz0))
  refine lv_aload_n hx hb dX12_undo_9 rfl (lv_at hl 0 rfl) ?_
  refine lv_dup hx hb dX12_undo_10 rfl ?_
  refine va_get (D := (dC, dI)) (ci := 11) (v := .int (u.1 28)) (C := RX12) (T := TX12) (N := 52) hx hb hts (by decide +kernel) hown hK hP 0 rfl rfl 28 (by decide) (hts (.fieldLink RX12 158 "PageOneModel" "acts" "I") (by decide +kernel)) (fun _ h9 => h9) rfl dX12_undo_11 ?_
  refine lv_iconst (v := 1) hx hb dX12_undo_14 (by decide) ?_
  refine lv_isub hx hb dX12_undo_15 ?_
  refine va_put (D := (dC, dI)) (ci := 11) (v := .int ((u.1 28) - 1)) (ty := .int) (C := RX12) (T := TX12) (N := 52) hx hb hts (by decide +kernel) tyX12 tyX12_ok nmX12 hown hK hP hD hS 0 rfl rfl 28 (by decide) (hts (.fieldLink RX12 158 "PageOneModel" "acts" "I") (by decide +kernel)) (fun _ h9 => h9) rfl (by decide +kernel) rfl rfl (Nat.le_of_ble_eq_true rfl) dX12_undo_16 (fun H locs hP hD hS => ?_)
  obtain ⟨u_2, eu_2⟩ : ∃ zz : mS, zz = mset u 28 ((u.1 28) - 1) := ⟨_, rfl⟩
  have hP : va_P (dC, dI) vwCl (mW h0 v cI cZ u_2) H := by rw [eu_2]; exact hP
  have hD : va_D A (mW h0 v cI cZ u_2) := by rw [eu_2]; exact hD
  refine lv_aload_n hx hb dX12_undo_19 rfl (lv_at hl 0 rfl) ?_
  refine va_get (D := (dC, dI)) (ci := 11) (v := .ref (v 30)) (C := RX12) (T := TX12) (N := 52) hx hb hts (by decide +kernel) hown hK hP 0 rfl rfl 30 (by decide) (hts (.fieldLink RX12 95 "PageOneModel" "actA" "[I") (by decide +kernel)) (fun _ h9 => h9) rfl dX12_undo_20 ?_
  refine lv_aload_n hx hb dX12_undo_23 rfl (lv_at hl 0 rfl) ?_
  refine va_get (D := (dC, dI)) (ci := 11) (v := .int (u_2.1 28)) (C := RX12) (T := TX12) (N := 52) hx hb hts (by decide +kernel) hown hK hP 0 rfl rfl 28 (by decide) (hts (.fieldLink RX12 158 "PageOneModel" "acts" "I") (by decide +kernel)) (fun _ h9 => h9) rfl dX12_undo_24 ?_
  refine va_iald hx hb hK hP 29 0 rfl rfl (by rw [eu_2, mset_same]; exact vAct ha1) dX12_undo_27 ?_
  refine lv_topi (fun y_3 ey_3 => ?_)
  obtain rfl : y_3 = (nI P) := ey_3.trans ((by rw [eu_2, mset_same]; exact h30))
  refine lv_istore_n (lv' := [(1, .int (nI P)), (0, .ref h0)]) hx hb dX12_undo_28 rfl hl (by decide) rfl (fun ls hl => ?_)
  refine lv_aload_n hx hb dX12_undo_29 rfl (lv_at hl 1 rfl) ?_
  refine va_get (D := (dC, dI)) (ci := 11) (v := .ref (v 29)) (C := RX12) (T := TX12) (N := 52) hx hb hts (by decide +kernel) hown hK hP 0 rfl rfl 29 (by decide) (hts (.fieldLink RX12 92 "PageOneModel" "actKind" "[I") (by decide +kernel)) (fun _ h9 => h9) rfl dX12_undo_30 ?_
  refine lv_aload_n hx hb dX12_undo_33 rfl (lv_at hl 1 rfl) ?_
  refine va_get (D := (dC, dI)) (ci := 11) (v := .int (u_2.1 28)) (C := RX12) (T := TX12) (N := 52) hx hb hts (by decide +kernel) hown hK hP 0 rfl rfl 28 (by decide) (hts (.fieldLink RX12 158 "PageOneModel" "acts" "I") (by decide +kernel)) (fun _ h9 => h9) rfl dX12_undo_34 ?_
  refine va_iald hx hb hK hP 28 0 rfl rfl (by rw [eu_2, mset_same]; exact vAct ha1) dX12_undo_37 ?_
  refine lv_topi (fun y_4 ey_4 => ?_)
  obtain rfl : y_4 = 2 := ey_4.trans ((by rw [eu_2, mset_same]; exact h29))
  refine lv_tableIn (tgt := 125) (off := 87) hx hb dX12_undo_38 (by decide) (by decide) (by decide) (by decide) ?_
  refine lv_aload_n hx hb dX12_undo_125 rfl (lv_at hl 1 rfl) ?_
  refine va_get (D := (dC, dI)) (ci := 11) (v := .ref (v 2)) (C := RX12) (T := TX12) (N := 52) hx hb hts (by decide +kernel) hown hK hP 0 rfl rfl 2 (by decide) (hts (.fieldLink RX12 16 "PageOneModel" "cell" "[I") (by decide +kernel)) (fun _ h9 => h9) rfl dX12_undo_126 ?_
  refine lv_iload_n hx hb dX12_undo_129 rfl (lv_at hl 0 rfl) ?_
  refine lv_aload_n hx hb dX12_undo_130 rfl (lv_at hl 1 rfl) ?_
  refine va_get (D := (dC, dI)) (ci := 11) (v := .ref (v 31)) (C := RX12) (T := TX12) (N := 52) hx hb hts (by decide +kernel) hown hK hP 0 rfl rfl 31 (by decide) (hts (.fieldLink RX12 98 "PageOneModel" "actB" "[I") (by decide +kernel)) (fun _ h9 => h9) rfl dX12_undo_131 ?_
  refine lv_aload_n hx hb dX12_undo_134 rfl (lv_at hl 1 rfl) ?_
  refine va_get (D := (dC, dI)) (ci := 11) (v := .int (u_2.1 28)) (C := RX12) (T := TX12) (N := 52) hx hb hts (by decide +kernel) hown hK hP 0 rfl rfl 28 (by decide) (hts (.fieldLink RX12 158 "PageOneModel" "acts" "I") (by decide +kernel)) (fun _ h9 => h9) rfl dX12_undo_135 ?_
  refine va_iald hx hb hK hP 30 0 rfl rfl (by rw [eu_2, mset_same]; exact vAct ha1) dX12_undo_138 ?_
  refine lv_topi (fun y_5 ey_5 => ?_)
  obtain rfl : y_5 = (nI X) := ey_5.trans ((by rw [eu_2, mset_same]; exact h31))
  refine lv_aload_n hx hb dX12_undo_139 rfl (lv_at hl 1 rfl) ?_
  refine va_get (D := (dC, dI)) (ci := 11) (v := .ref (v 32)) (C := RX12) (T := TX12) (N := 52) hx hb hts (by decide +kernel) hown hK hP 0 rfl rfl 32 (by decide) (hts (.fieldLink RX12 101 "PageOneModel" "actC" "[I") (by decide +kernel)) (fun _ h9 => h9) rfl dX12_undo_140 ?_
  refine lv_aload_n hx hb dX12_undo_143 rfl (lv_at hl 1 rfl) ?_
  refine va_get (D := (dC, dI)) (ci := 11) (v := .int (u_2.1 28)) (C := RX12) (T := TX12) (N := 52) hx hb hts (by decide +kernel) hown hK hP 0 rfl rfl 28 (by decide) (hts (.fieldLink RX12 158 "PageOneModel" "acts" "I") (by decide +kernel)) (fun _ h9 => h9) rfl dX12_undo_144 ?_
  refine va_iald hx hb hK hP 31 0 rfl rfl (by rw [eu_2, mset_same]; exact vAct ha1) dX12_undo_147 ?_
  refine lv_topi (fun y_6 ey_6 => ?_)
  obtain rfl : y_6 = (nI Y) := ey_6.trans ((by rw [eu_2, mset_same]; exact h32))
  refine vp_callSi (va_runS (As := [.int (nI P), .int (nI X), .int (nI Y)]) (rest := [.ref (v 2)]) ⟨hx, hb, hml, hown, hts⟩ (m_at l dC dI (nI P) (nI X) (nI Y)) (va_cwS 3 hts gX12_undo_X12_at rfl rfl rfl (by decide +kernel) ⟨Nat.le_of_ble_eq_true rfl, Nat.le_of_ble_eq_true rfl⟩) ⟨pw_fb, fun U hU hW => ⟨rfl, pw_to hU hW (hP.sub (ws' := []) [] rfl) (hK.sub (tys' := []) [] rfl) hN⟩⟩ rfl rfl hl.1 rfl (lv_room (Nat.le_of_ble_eq_true rfl)) dX12_undo_148 ⟨Nat.le_of_ble_eq_true rfl, Nat.le_of_ble_eq_true rfl⟩).run (fun r hw => ?_)
  obtain rfl : r = (480 * (nI P) + 60 * (nI X) + (nI Y)) := hw
  refine lv_bipush (v := (-2)) hx hb dX12_undo_151 (by decide) ?_
  refine va_iast hx hb hK hP hD hS 3 0 rfl rfl (idxV hPP hX8 hY6) dX12_undo_153 (fun H locs hP hD hS => ?_)
  obtain ⟨u_7, eu_7⟩ : ∃ zz : mS, zz = mst u_2 2 (480 * (nI P) + 60 * (nI X) + (nI Y)) (-2) := ⟨_, rfl⟩
  have hP : va_P (dC, dI) vwCl (mW h0 v cI cZ u_7) H := by rw [eu_7]; exact hP
  have hD : va_D A (mW h0 v cI cZ u_7) := by rw [eu_7]; exact hD
  refine lv_goto (tgt := 193) hx hb dX12_undo_154 (by decide) ?_
  refine lv_aload_n hx hb dX12_undo_193 rfl (lv_at hl 1 rfl) ?_
  refine va_get (D := (dC, dI)) (ci := 11) (v := .int (u_7.1 28)) (C := RX12) (T := TX12) (N := 52) hx hb hts (by decide +kernel) hown hK hP 0 rfl rfl 28 (by decide) (hts (.fieldLink RX12 158 "PageOneModel" "acts" "I") (by decide +kernel)) (fun _ h9 => h9) rfl dX12_undo_194 ?_
  exact W.iret (v := (u_7.1 28)) hx hb hr (fun t ht hW => ⟨⟨(u_7.1 28), u_7, rfl, ⟨(by rw [eu_7, eu_2]; exact back_28 u), (by rw [eu_7, eu_2]; rfl)⟩, by rw [ht]; exact hP, hD⟩, hS.F ht⟩) hS.2.2 dX12_undo_197
set_option maxHeartbeats 4000000 in
set_option maxRecDepth 100000 in
theorem n_undoF (l : Launch) (dC : Nat → ClassId) (dI : Nat → Nat → Nat) (h0 : Nat) (v : Nat → Nat) (cI cZ : ClassId) (u : mS) (xs : List fX) (hK8 : xs.length ≤ 1000) (h30 : u.2 30 (u.1 28 - 1).toNatClampNeg = nI xs.length) (hpop : popOK (mBack u) xs) (hz0 : ¬ u.1 28 = 0) (ha1 : bw (u.1 28 - 1) 0 299 = true) (h29 : u.2 29 (u.1 28 - 1).toNatClampNeg = 3) (sz : Nat) : Met l yX12_undo wsX12_undo ({ frames := 3, cells := 0, slots := 0, locals := 77 }) (va_Pc [.ref h0] (fun U => U.heap.size = sz ∧ PW dC dI (mW h0 v cI cZ u) [(cI, .int), (cZ, .boolean)] U ∧ va_D (fun _ => True) (mW h0 v cI cZ u))) (va_Qi (fun (r : Int32) (u9 : mS) => r = u.1 28 - 1 ∧ u9 = popAll (mBack u) xs) (fun u9 t => va_P (dC, dI) vwCl (mW h0 v cI cZ u9) t.heap ∧ va_D (va_A (mW h0 v cI cZ u) sz) (mW h0 v cI cZ u9)) (va_A (mW h0 v cI cZ u) sz)) 0 0 (va_A (mW h0 v cI cZ u) sz) := by
  refine Met.ofW (cc := cX12_undo) (maxL := 3) (ret := (some .int)) (by decide) rfl ?_
  intro p e s m args below meth c s₁ B hml hv
  obtain ⟨rfl, hsz, ⟨hP, hK, hN⟩, hD0⟩ := hv
  have hx := B.exec
  have hb := B.bytes
  have hr := B.returns
  have hts := atoms_spec (ws := wsX12_undo) B.pre
  have hown : s.vm.findClass RX12 = some m.cls := findClass_of_methodNamed B.named
  have hlocks := B.notSynchronized
  subst hsz
  have hD := hD0.self (sz := s.heap.size)
  generalize hAe : va_A (mW h0 v cI cZ u) s.heap.size = A at hD ⊢
  have hA : ∀ q : Nat, s.heap.size ≤ q → A q := fun q h => by rw [← hAe]; exact Or.inr h
  have hS : va_S A s.heap s.heap [] := va_S.rf
  have hl := lv_entry ([.ref h0]) (n := 3) (Nat.le_of_ble_eq_true rfl)
  rw [lg_entry_eq]
  generalize (lg_sl ([.ref h0]) ++ List.replicate (3 - (lg_sl ([.ref h0])).length) Slot.unset).toArray = ls at hl ⊢
  have hl : lv_has ls 3 [(0, .ref h0)] := hl
  refine lv_aload_n hx hb dX12_undo_0 rfl (lv_at hl 0 rfl) ?_
  refine va_get (D := (dC, dI)) (ci := 11) (v := .int (u.1 28)) (C := RX12) (T := TX12) (N := 52) hx hb hts (by decide +kernel) hown hK hP 0 rfl rfl 28 (by decide) (hts (.fieldLink RX12 158 "PageOneModel" "acts" "I") (by decide +kernel)) (fun _ h9 => h9) rfl dX12_undo_1 ?_
  refine lv_if_ne (tgt := 9) hx hb dX12_undo_4 (by decide) (fun c_1 => ?_) (fun c_1 => absurd c_1 (hz0))
  refine lv_aload_n hx hb dX12_undo_9 rfl (lv_at hl 0 rfl) ?_
  refine lv_dup hx hb dX12_undo_10 rfl ?_
  refine va_get (D := (dC, dI)) (ci := 11) (v := .int (u.1 28)) (C := RX12) (T := TX12) (N := 52) hx hb hts (by decide +kernel) hown hK hP 0 rfl rfl 28 (by decide) (hts (.fieldLink RX12 158 "PageOneModel" "acts" "I") (by decide +kernel)) (fun _ h9 => h9) rfl dX12_undo_11 ?_
  refine lv_iconst (v := 1) hx hb dX12_undo_14 (by decide) ?_
  refine lv_isub hx hb dX12_undo_15 ?_
  refine va_put (D := (dC, dI)) (ci := 11) (v := .int ((u.1 28) - 1)) (ty := .int) (C := RX12) (T := TX12) (N := 52) hx hb hts (by decide +kernel) tyX12 tyX12_ok nmX12 hown hK hP hD hS 0 rfl rfl 28 (by decide) (hts (.fieldLink RX12 158 "PageOneModel" "acts" "I") (by decide +kernel)) (fun _ h9 => h9) rfl (by decide +kernel) rfl rfl (Nat.le_of_ble_eq_true rfl) dX12_undo_16 (fun H locs hP hD hS => ?_)
  obtain ⟨u_2, eu_2⟩ : ∃ zz : mS, zz = mset u 28 ((u.1 28) - 1) := ⟨_, rfl⟩
  have hP : va_P (dC, dI) vwCl (mW h0 v cI cZ u_2) H := by rw [eu_2]; exact hP
  have hD : va_D A (mW h0 v cI cZ u_2) := by rw [eu_2]; exact hD
  refine lv_aload_n hx hb dX12_undo_19 rfl (lv_at hl 0 rfl) ?_
  refine va_get (D := (dC, dI)) (ci := 11) (v := .ref (v 30)) (C := RX12) (T := TX12) (N := 52) hx hb hts (by decide +kernel) hown hK hP 0 rfl rfl 30 (by decide) (hts (.fieldLink RX12 95 "PageOneModel" "actA" "[I") (by decide +kernel)) (fun _ h9 => h9) rfl dX12_undo_20 ?_
  refine lv_aload_n hx hb dX12_undo_23 rfl (lv_at hl 0 rfl) ?_
  refine va_get (D := (dC, dI)) (ci := 11) (v := .int (u_2.1 28)) (C := RX12) (T := TX12) (N := 52) hx hb hts (by decide +kernel) hown hK hP 0 rfl rfl 28 (by decide) (hts (.fieldLink RX12 158 "PageOneModel" "acts" "I") (by decide +kernel)) (fun _ h9 => h9) rfl dX12_undo_24 ?_
  refine va_iald hx hb hK hP 29 0 rfl rfl (by rw [eu_2, mset_same]; exact vAct ha1) dX12_undo_27 ?_
  refine lv_topi (fun y_3 ey_3 => ?_)
  obtain rfl : y_3 = (nI xs.length) := ey_3.trans ((by rw [eu_2, mset_same]; exact h30))
  refine lv_topi (fun x_4 ex_4 => ?_)
  refine lv_istore_n (lv' := [(1, .int x_4), (0, .ref h0)]) hx hb dX12_undo_28 rfl hl (by decide) rfl (fun ls hl => ?_)
  refine lv_aload_n hx hb dX12_undo_29 rfl (lv_at hl 1 rfl) ?_
  refine va_get (D := (dC, dI)) (ci := 11) (v := .ref (v 29)) (C := RX12) (T := TX12) (N := 52) hx hb hts (by decide +kernel) hown hK hP 0 rfl rfl 29 (by decide) (hts (.fieldLink RX12 92 "PageOneModel" "actKind" "[I") (by decide +kernel)) (fun _ h9 => h9) rfl dX12_undo_30 ?_
  refine lv_aload_n hx hb dX12_undo_33 rfl (lv_at hl 1 rfl) ?_
  refine va_get (D := (dC, dI)) (ci := 11) (v := .int (u_2.1 28)) (C := RX12) (T := TX12) (N := 52) hx hb hts (by decide +kernel) hown hK hP 0 rfl rfl 28 (by decide) (hts (.fieldLink RX12 158 "PageOneModel" "acts" "I") (by decide +kernel)) (fun _ h9 => h9) rfl dX12_undo_34 ?_
  refine va_iald hx hb hK hP 28 0 rfl rfl (by rw [eu_2, mset_same]; exact vAct ha1) dX12_undo_37 ?_
  refine lv_topi (fun y_5 ey_5 => ?_)
  obtain rfl : y_5 = 3 := ey_5.trans ((by rw [eu_2, mset_same]; exact h29))
  refine lv_tableOut (tgt := 157) hx hb dX12_undo_38 (by decide) (by decide) ?_
  refine lv_iconst (v := 0) hx hb dX12_undo_157 (by decide) ?_
  refine lv_istore_n (lv' := [(2, .int 0), (1, .int x_4), (0, .ref h0)]) hx hb dX12_undo_158 rfl hl (by decide) rfl (fun ls hl => ?_)
  subst ex_4
  refine m_undoF_loop (w9 := popAll (mBack u) xs) (K := xs.length) hK8 hx hb hml hts hown hN hK (Nat.le_of_ble_eq_true rfl) (Nat.le_of_ble_eq_true rfl) (Nat.le_of_ble_eq_true rfl) (Nat.le_of_ble_eq_true rfl) hA (fun u2 H locs ls hg hP hD hS hl => ?_) (xs.length + 1) 0 u_2 _ _ xs ls (Nat.zero_le _) (by omega) ⟨by rw [eu_2]; exact hpop, by rw [eu_2]; rfl, rfl⟩ hP hD hS (lv_sub hl [0, 2, 1] rfl)
  refine lv_aload_n hx hb dX12_undo_193 rfl (lv_at hl 1 rfl) ?_
  refine va_get (D := (dC, dI)) (ci := 11) (v := .int (u2.1 28)) (C := RX12) (T := TX12) (N := 52) hx hb hts (by decide +kernel) hown hK hP 0 rfl rfl 28 (by decide) (hts (.fieldLink RX12 158 "PageOneModel" "acts" "I") (by decide +kernel)) (fun _ h9 => h9) rfl dX12_undo_194 ?_
  exact W.iret (v := (u2.1 28)) hx hb hr (fun t ht hW => ⟨⟨(u2.1 28), u2, rfl, ⟨by rw [hg, popAll_28, back_28], hg⟩, by rw [ht]; exact hP, hD⟩, hS.F ht⟩) hS.2.2 dX12_undo_197
set_option maxHeartbeats 4000000 in
set_option maxRecDepth 100000 in
theorem n_undoN (l : Launch) (dC : Nat → ClassId) (dI : Nat → Nat → Nat) (h0 : Nat) (v : Nat → Nat) (cI cZ : ClassId) (u : mS) (hz0 : u.1 28 = 0) (sz : Nat) : Met l yX12_undo wsX12_undo ({ frames := 3, cells := 0, slots := 0, locals := 77 }) (va_Pc [.ref h0] (fun U => U.heap.size = sz ∧ PW dC dI (mW h0 v cI cZ u) [(cI, .int), (cZ, .boolean)] U ∧ va_D (fun _ => True) (mW h0 v cI cZ u))) (va_Qi (fun (r : Int32) (u9 : mS) => r = (-1) ∧ u9 = u) (fun u9 t => va_P (dC, dI) vwCl (mW h0 v cI cZ u9) t.heap ∧ va_D (va_A (mW h0 v cI cZ u) sz) (mW h0 v cI cZ u9)) (va_A (mW h0 v cI cZ u) sz)) 0 0 (va_A (mW h0 v cI cZ u) sz) := by
  refine Met.ofW (cc := cX12_undo) (maxL := 3) (ret := (some .int)) (by decide) rfl ?_
  intro p e s m args below meth c s₁ B hml hv
  obtain ⟨rfl, hsz, ⟨hP, hK, hN⟩, hD0⟩ := hv
  have hx := B.exec
  have hb := B.bytes
  have hr := B.returns
  have hts := atoms_spec (ws := wsX12_undo) B.pre
  have hown : s.vm.findClass RX12 = some m.cls := findClass_of_methodNamed B.named
  have hlocks := B.notSynchronized
  subst hsz
  have hD := hD0.self (sz := s.heap.size)
  generalize hAe : va_A (mW h0 v cI cZ u) s.heap.size = A at hD ⊢
  have hA : ∀ q : Nat, s.heap.size ≤ q → A q := fun q h => by rw [← hAe]; exact Or.inr h
  have hS : va_S A s.heap s.heap [] := va_S.rf
  have hl := lv_entry ([.ref h0]) (n := 3) (Nat.le_of_ble_eq_true rfl)
  rw [lg_entry_eq]
  generalize (lg_sl ([.ref h0]) ++ List.replicate (3 - (lg_sl ([.ref h0])).length) Slot.unset).toArray = ls at hl ⊢
  have hl : lv_has ls 3 [(0, .ref h0)] := hl
  refine lv_aload_n hx hb dX12_undo_0 rfl (lv_at hl 0 rfl) ?_
  refine va_get (D := (dC, dI)) (ci := 11) (v := .int (u.1 28)) (C := RX12) (T := TX12) (N := 52) hx hb hts (by decide +kernel) hown hK hP 0 rfl rfl 28 (by decide) (hts (.fieldLink RX12 158 "PageOneModel" "acts" "I") (by decide +kernel)) (fun _ h9 => h9) rfl dX12_undo_1 ?_
  refine lv_if_ne (tgt := 9) hx hb dX12_undo_4 (by decide) (fun c_1 => absurd (hz0) c_1) (fun c_1 => ?_)
  refine lv_iconst (v := (-1)) hx hb dX12_undo_7 (by decide) ?_
  exact W.iret (v := (-1)) hx hb hr (fun t ht hW => ⟨⟨(-1), u, rfl, ⟨rfl, rfl⟩, by rw [ht]; exact hP, hD⟩, hS.F ht⟩) hS.2.2 dX12_undo_8
