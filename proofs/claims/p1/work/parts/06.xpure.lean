set_option maxHeartbeats 4000000 in
set_option maxRecDepth 100000 in
theorem x_isWithin (l : Launch) (dC : Nat → ClassId) (dI : Nat → Nat → Nat) (p0 p1 p2 : Int32) : Met l yX11_isWithin wsX11_isWithin ({ frames := 0, cells := 0, slots := 0, locals := 0 }) (va_Pc [.int p0, .int p1, .int p2] (PW dC dI [] [])) (vp_Si (fun r => r = bi (bw p0 p1 p2))) 0 0 (fun _ => False) := by
  refine Met.ofW (cc := cX11_isWithin) (maxL := 3) (ret := (some .boolean)) (by decide) rfl ?_
  intro p e s m args below meth c s₁ B hml hv
  obtain ⟨rfl, hP, hK, hN⟩ := hv
  have hx := B.exec
  have hb := B.bytes
  have hr := B.returns
  have hts := atoms_spec (ws := wsX11_isWithin) B.pre
  have hown : s.vm.findClass RX11 = some m.cls := findClass_of_methodNamed B.named
  have hlocks := B.notSynchronized
  have hl := lv_entry ([.int p0, .int p1, .int p2]) (n := 3) (Nat.le_of_ble_eq_true rfl)
  rw [lg_entry_eq]
  generalize (lg_sl ([.int p0, .int p1, .int p2]) ++ List.replicate (3 - (lg_sl ([.int p0, .int p1, .int p2])).length) Slot.unset).toArray = ls at hl ⊢
  have hl : lv_has ls 3 [(0, .int p0), (1, .int p1), (2, .int p2)] := hl
  refine lv_iload_n hx hb dX11_isWithin_0 rfl (lv_at hl 0 rfl) ?_
  refine lv_iload_n hx hb dX11_isWithin_1 rfl (lv_at hl 1 rfl) ?_
  refine lv_icmp_lt (tgt := 14) hx hb dX11_isWithin_2 (by decide) (fun c_1 => ?_) (fun c_1 => ?_)
  ·
    refine lv_iconst (v := 0) hx hb dX11_isWithin_14 (by decide) ?_
    exact W.zret (v := 0) hx hb hr (by decide) (fun t ht hW => ⟨_, rfl, bw0a c_1, ht⟩) (fun q h => absurd h List.not_mem_nil) dX11_isWithin_15
  ·
    refine lv_iload_n hx hb dX11_isWithin_5 rfl (lv_at hl 0 rfl) ?_
    refine lv_iload_n hx hb dX11_isWithin_6 rfl (lv_at hl 2 rfl) ?_
    refine lv_icmp_gt (tgt := 14) hx hb dX11_isWithin_7 (by decide) (fun c_2 => ?_) (fun c_2 => ?_)
    ·
      refine lv_iconst (v := 0) hx hb dX11_isWithin_14 (by decide) ?_
      exact W.zret (v := 0) hx hb hr (by decide) (fun t ht hW => ⟨_, rfl, bw0b c_2, ht⟩) (fun q h => absurd h List.not_mem_nil) dX11_isWithin_15
    ·
      refine lv_iconst (v := 1) hx hb dX11_isWithin_10 (by decide) ?_
      refine lv_goto (tgt := 15) hx hb dX11_isWithin_11 (by decide) ?_
      exact W.zret (v := 1) hx hb hr (by decide) (fun t ht hW => ⟨_, rfl, bw1 c_1 c_2, ht⟩) (fun q h => absurd h List.not_mem_nil) dX11_isWithin_15
set_option maxHeartbeats 4000000 in
set_option maxRecDepth 100000 in
theorem x_isPage (l : Launch) (dC : Nat → ClassId) (dI : Nat → Nat → Nat) (p0 : Int32) : Met l yX11_isPage wsX11_isPage ({ frames := 1, cells := 0, slots := 0, locals := 22 }) (va_Pc [.int p0] (PW dC dI [] [])) (vp_Si (fun r => r = bi (bw p0 0 11))) 0 0 (fun _ => False) := by
  refine Met.ofW (cc := cX11_isPage) (maxL := 1) (ret := (some .boolean)) (by decide) rfl ?_
  intro p e s m args below meth c s₁ B hml hv
  obtain ⟨rfl, hP, hK, hN⟩ := hv
  have hx := B.exec
  have hb := B.bytes
  have hr := B.returns
  have hts := atoms_spec (ws := wsX11_isPage) B.pre
  have hown : s.vm.findClass RX11 = some m.cls := findClass_of_methodNamed B.named
  have hlocks := B.notSynchronized
  have hl := lv_entry ([.int p0]) (n := 1) (Nat.le_of_ble_eq_true rfl)
  rw [lg_entry_eq]
  generalize (lg_sl ([.int p0]) ++ List.replicate (1 - (lg_sl ([.int p0])).length) Slot.unset).toArray = ls at hl ⊢
  have hl : lv_has ls 1 [(0, .int p0)] := hl
  refine lv_iload_n hx hb dX11_isPage_0 rfl (lv_at hl 0 rfl) ?_
  refine lv_iconst (v := 0) hx hb dX11_isPage_1 (by decide) ?_
  refine lv_bipush (v := 11) hx hb dX11_isPage_2 (by decide) ?_
  have hPc := hP.sub (ws' := []) [] rfl
  have hKc := hK.sub (tys' := []) [] rfl
  refine vp_callSi (va_runS (As := [.int p0, .int 0, .int 11]) (rest := []) ⟨hx, hb, hml, hown, hts⟩ (x_isWithin l dC dI p0 0 11) (va_cwS 3 hts gX11_isPage_X11_isWithin rfl rfl rfl (by decide +kernel) ⟨Nat.le_of_ble_eq_true rfl, Nat.le_of_ble_eq_true rfl⟩) ⟨pw_fb, fun U hU hW => ⟨rfl, pw_to hU hW hPc hKc hN⟩⟩ rfl rfl hl.1 rfl (lv_room (Nat.le_of_ble_eq_true rfl)) dX11_isPage_4 ⟨Nat.le_of_ble_eq_true rfl, Nat.le_of_ble_eq_true rfl⟩).run (fun r hw => ?_)
  rcases Bool.eq_false_or_eq_true (bw p0 0 11) with b_1 | b_1
  ·
    obtain rfl : r = 1 := b_t hw b_1
    exact W.zret (v := 1) hx hb hr (by decide) (fun t ht hW => ⟨_, rfl, (by simp [bi, b_1]), ht⟩) (fun q h => absurd h List.not_mem_nil) dX11_isPage_7
  ·
    obtain rfl : r = 0 := b_f hw b_1
    exact W.zret (v := 0) hx hb hr (by decide) (fun t ht hW => ⟨_, rfl, (by simp [bi, b_1]), ht⟩) (fun q h => absurd h List.not_mem_nil) dX11_isPage_7
set_option maxHeartbeats 4000000 in
set_option maxRecDepth 100000 in
theorem x_isColumn (l : Launch) (dC : Nat → ClassId) (dI : Nat → Nat → Nat) (p0 : Int32) : Met l yX11_isColumn wsX11_isColumn ({ frames := 1, cells := 0, slots := 0, locals := 22 }) (va_Pc [.int p0] (PW dC dI [] [])) (vp_Si (fun r => r = bi (bw p0 0 7))) 0 0 (fun _ => False) := by
  refine Met.ofW (cc := cX11_isColumn) (maxL := 1) (ret := (some .boolean)) (by decide) rfl ?_
  intro p e s m args below meth c s₁ B hml hv
  obtain ⟨rfl, hP, hK, hN⟩ := hv
  have hx := B.exec
  have hb := B.bytes
  have hr := B.returns
  have hts := atoms_spec (ws := wsX11_isColumn) B.pre
  have hown : s.vm.findClass RX11 = some m.cls := findClass_of_methodNamed B.named
  have hlocks := B.notSynchronized
  have hl := lv_entry ([.int p0]) (n := 1) (Nat.le_of_ble_eq_true rfl)
  rw [lg_entry_eq]
  generalize (lg_sl ([.int p0]) ++ List.replicate (1 - (lg_sl ([.int p0])).length) Slot.unset).toArray = ls at hl ⊢
  have hl : lv_has ls 1 [(0, .int p0)] := hl
  refine lv_iload_n hx hb dX11_isColumn_0 rfl (lv_at hl 0 rfl) ?_
  refine lv_iconst (v := 0) hx hb dX11_isColumn_1 (by decide) ?_
  refine lv_bipush (v := 7) hx hb dX11_isColumn_2 (by decide) ?_
  have hPc := hP.sub (ws' := []) [] rfl
  have hKc := hK.sub (tys' := []) [] rfl
  refine vp_callSi (va_runS (As := [.int p0, .int 0, .int 7]) (rest := []) ⟨hx, hb, hml, hown, hts⟩ (x_isWithin l dC dI p0 0 7) (va_cwS 3 hts gX11_isColumn_X11_isWithin rfl rfl rfl (by decide +kernel) ⟨Nat.le_of_ble_eq_true rfl, Nat.le_of_ble_eq_true rfl⟩) ⟨pw_fb, fun U hU hW => ⟨rfl, pw_to hU hW hPc hKc hN⟩⟩ rfl rfl hl.1 rfl (lv_room (Nat.le_of_ble_eq_true rfl)) dX11_isColumn_4 ⟨Nat.le_of_ble_eq_true rfl, Nat.le_of_ble_eq_true rfl⟩).run (fun r hw => ?_)
  rcases Bool.eq_false_or_eq_true (bw p0 0 7) with b_1 | b_1
  ·
    obtain rfl : r = 1 := b_t hw b_1
    exact W.zret (v := 1) hx hb hr (by decide) (fun t ht hW => ⟨_, rfl, (by simp [bi, b_1]), ht⟩) (fun q h => absurd h List.not_mem_nil) dX11_isColumn_7
  ·
    obtain rfl : r = 0 := b_f hw b_1
    exact W.zret (v := 0) hx hb hr (by decide) (fun t ht hW => ⟨_, rfl, (by simp [bi, b_1]), ht⟩) (fun q h => absurd h List.not_mem_nil) dX11_isColumn_7
set_option maxHeartbeats 4000000 in
set_option maxRecDepth 100000 in
theorem x_isBuyer (l : Launch) (dC : Nat → ClassId) (dI : Nat → Nat → Nat) (p0 : Int32) : Met l yX11_isBuyer wsX11_isBuyer ({ frames := 1, cells := 0, slots := 0, locals := 22 }) (va_Pc [.int p0] (PW dC dI [] [])) (vp_Si (fun r => r = bi (bw p0 0 9))) 0 0 (fun _ => False) := by
  refine Met.ofW (cc := cX11_isBuyer) (maxL := 1) (ret := (some .boolean)) (by decide) rfl ?_
  intro p e s m args below meth c s₁ B hml hv
  obtain ⟨rfl, hP, hK, hN⟩ := hv
  have hx := B.exec
  have hb := B.bytes
  have hr := B.returns
  have hts := atoms_spec (ws := wsX11_isBuyer) B.pre
  have hown : s.vm.findClass RX11 = some m.cls := findClass_of_methodNamed B.named
  have hlocks := B.notSynchronized
  have hl := lv_entry ([.int p0]) (n := 1) (Nat.le_of_ble_eq_true rfl)
  rw [lg_entry_eq]
  generalize (lg_sl ([.int p0]) ++ List.replicate (1 - (lg_sl ([.int p0])).length) Slot.unset).toArray = ls at hl ⊢
  have hl : lv_has ls 1 [(0, .int p0)] := hl
  refine lv_iload_n hx hb dX11_isBuyer_0 rfl (lv_at hl 0 rfl) ?_
  refine lv_iconst (v := 0) hx hb dX11_isBuyer_1 (by decide) ?_
  refine lv_bipush (v := 9) hx hb dX11_isBuyer_2 (by decide) ?_
  have hPc := hP.sub (ws' := []) [] rfl
  have hKc := hK.sub (tys' := []) [] rfl
  refine vp_callSi (va_runS (As := [.int p0, .int 0, .int 9]) (rest := []) ⟨hx, hb, hml, hown, hts⟩ (x_isWithin l dC dI p0 0 9) (va_cwS 3 hts gX11_isBuyer_X11_isWithin rfl rfl rfl (by decide +kernel) ⟨Nat.le_of_ble_eq_true rfl, Nat.le_of_ble_eq_true rfl⟩) ⟨pw_fb, fun U hU hW => ⟨rfl, pw_to hU hW hPc hKc hN⟩⟩ rfl rfl hl.1 rfl (lv_room (Nat.le_of_ble_eq_true rfl)) dX11_isBuyer_4 ⟨Nat.le_of_ble_eq_true rfl, Nat.le_of_ble_eq_true rfl⟩).run (fun r hw => ?_)
  rcases Bool.eq_false_or_eq_true (bw p0 0 9) with b_1 | b_1
  ·
    obtain rfl : r = 1 := b_t hw b_1
    exact W.zret (v := 1) hx hb hr (by decide) (fun t ht hW => ⟨_, rfl, (by simp [bi, b_1]), ht⟩) (fun q h => absurd h List.not_mem_nil) dX11_isBuyer_7
  ·
    obtain rfl : r = 0 := b_f hw b_1
    exact W.zret (v := 0) hx hb hr (by decide) (fun t ht hW => ⟨_, rfl, (by simp [bi, b_1]), ht⟩) (fun q h => absurd h List.not_mem_nil) dX11_isBuyer_7
set_option maxHeartbeats 4000000 in
set_option maxRecDepth 100000 in
theorem x_isSquare (l : Launch) (dC : Nat → ClassId) (dI : Nat → Nat → Nat) (p0 p1 : Int32) : Met l yX11_isSquare wsX11_isSquare ({ frames := 1, cells := 0, slots := 0, locals := 22 }) (va_Pc [.int p0, .int p1] (PW dC dI [] [])) (vp_Si (fun r => r = bi (bw p0 1 8 && bw p1 1 60))) 0 0 (fun _ => False) := by
  refine Met.ofW (cc := cX11_isSquare) (maxL := 2) (ret := (some .boolean)) (by decide) rfl ?_
  intro p e s m args below meth c s₁ B hml hv
  obtain ⟨rfl, hP, hK, hN⟩ := hv
  have hx := B.exec
  have hb := B.bytes
  have hr := B.returns
  have hts := atoms_spec (ws := wsX11_isSquare) B.pre
  have hown : s.vm.findClass RX11 = some m.cls := findClass_of_methodNamed B.named
  have hlocks := B.notSynchronized
  have hl := lv_entry ([.int p0, .int p1]) (n := 2) (Nat.le_of_ble_eq_true rfl)
  rw [lg_entry_eq]
  generalize (lg_sl ([.int p0, .int p1]) ++ List.replicate (2 - (lg_sl ([.int p0, .int p1])).length) Slot.unset).toArray = ls at hl ⊢
  have hl : lv_has ls 2 [(0, .int p0), (1, .int p1)] := hl
  refine lv_iload_n hx hb dX11_isSquare_0 rfl (lv_at hl 0 rfl) ?_
  refine lv_iconst (v := 1) hx hb dX11_isSquare_1 (by decide) ?_
  refine lv_bipush (v := 8) hx hb dX11_isSquare_2 (by decide) ?_
  have hPc := hP.sub (ws' := []) [] rfl
  have hKc := hK.sub (tys' := []) [] rfl
  refine vp_callSi (va_runS (As := [.int p0, .int 1, .int 8]) (rest := []) ⟨hx, hb, hml, hown, hts⟩ (x_isWithin l dC dI p0 1 8) (va_cwS 3 hts gX11_isSquare_X11_isWithin rfl rfl rfl (by decide +kernel) ⟨Nat.le_of_ble_eq_true rfl, Nat.le_of_ble_eq_true rfl⟩) ⟨pw_fb, fun U hU hW => ⟨rfl, pw_to hU hW hPc hKc hN⟩⟩ rfl rfl hl.1 rfl (lv_room (Nat.le_of_ble_eq_true rfl)) dX11_isSquare_4 ⟨Nat.le_of_ble_eq_true rfl, Nat.le_of_ble_eq_true rfl⟩).run (fun r hw => ?_)
  rcases Bool.eq_false_or_eq_true (bw p0 1 8) with b_1 | b_1
  ·
    obtain rfl : r = 1 := b_t hw b_1
    refine lv_if_eq (tgt := 24) hx hb dX11_isSquare_7 (by decide) (fun c_2 => absurd c_2 (by decide)) (fun c_2 => ?_)
    refine lv_iload_n hx hb dX11_isSquare_10 rfl (lv_at hl 1 rfl) ?_
    refine lv_iconst (v := 1) hx hb dX11_isSquare_11 (by decide) ?_
    refine lv_bipush (v := 60) hx hb dX11_isSquare_12 (by decide) ?_
    have hPc := hP.sub (ws' := []) [] rfl
    have hKc := hK.sub (tys' := []) [] rfl
    refine vp_callSi (va_runS (As := [.int p1, .int 1, .int 60]) (rest := []) ⟨hx, hb, hml, hown, hts⟩ (x_isWithin l dC dI p1 1 60) (va_cwS 3 hts gX11_isSquare_X11_isWithin rfl rfl rfl (by decide +kernel) ⟨Nat.le_of_ble_eq_true rfl, Nat.le_of_ble_eq_true rfl⟩) ⟨pw_fb, fun U hU hW => ⟨rfl, pw_to hU hW hPc hKc hN⟩⟩ rfl rfl hl.1 rfl (lv_room (Nat.le_of_ble_eq_true rfl)) dX11_isSquare_14 ⟨Nat.le_of_ble_eq_true rfl, Nat.le_of_ble_eq_true rfl⟩).run (fun r hw => ?_)
    rcases Bool.eq_false_or_eq_true (bw p1 1 60) with b_3 | b_3
    ·
      obtain rfl : r = 1 := b_t hw b_3
      refine lv_if_eq (tgt := 24) hx hb dX11_isSquare_17 (by decide) (fun c_4 => absurd c_4 (by decide)) (fun c_4 => ?_)
      refine lv_iconst (v := 1) hx hb dX11_isSquare_20 (by decide) ?_
      refine lv_goto (tgt := 25) hx hb dX11_isSquare_21 (by decide) ?_
      exact W.zret (v := 1) hx hb hr (by decide) (fun t ht hW => ⟨_, rfl, (by simp [bi, b_1, b_3]), ht⟩) (fun q h => absurd h List.not_mem_nil) dX11_isSquare_25
    ·
      obtain rfl : r = 0 := b_f hw b_3
      refine lv_if_eq (tgt := 24) hx hb dX11_isSquare_17 (by decide) (fun c_5 => ?_) (fun c_5 => absurd (by decide) c_5)
      refine lv_iconst (v := 0) hx hb dX11_isSquare_24 (by decide) ?_
      exact W.zret (v := 0) hx hb hr (by decide) (fun t ht hW => ⟨_, rfl, (by simp [bi, b_1, b_3]), ht⟩) (fun q h => absurd h List.not_mem_nil) dX11_isSquare_25
  ·
    obtain rfl : r = 0 := b_f hw b_1
    refine lv_if_eq (tgt := 24) hx hb dX11_isSquare_7 (by decide) (fun c_6 => ?_) (fun c_6 => absurd (by decide) c_6)
    refine lv_iconst (v := 0) hx hb dX11_isSquare_24 (by decide) ?_
    exact W.zret (v := 0) hx hb hr (by decide) (fun t ht hW => ⟨_, rfl, (by simp [bi, b_1]), ht⟩) (fun q h => absurd h List.not_mem_nil) dX11_isSquare_25
set_option maxHeartbeats 4000000 in
set_option maxRecDepth 100000 in
theorem x_itemOf0 (l : Launch) (dC : Nat → ClassId) (dI : Nat → Nat → Nat) (h0 pg pl it ac rv : Nat) (p0 : Int32) : Met l yX11_itemOf wsX11_itemOf ({ frames := 1, cells := 0, slots := 0, locals := 22 }) (va_Pc [.ref h0, .int p0] (PW dC dI [(h0, .inr (10, [.ref pg, .ref pl, .ref it, .int 0, .ref ac, .int 0, .ref rv, .int 0, .int 0]))] [])) (va_Sq (fun r => r = none)) 0 0 (fun _ => False) := by
  refine Met.ofW (cc := cX11_itemOf) (maxL := 2) (ret := (some (.object "PageOne$Item"))) (by decide) rfl ?_
  intro p e s m args below meth c s₁ B hml hv
  obtain ⟨rfl, hP, hK, hN⟩ := hv
  have hx := B.exec
  have hb := B.bytes
  have hr := B.returns
  have hts := atoms_spec (ws := wsX11_itemOf) B.pre
  have hown : s.vm.findClass RX11 = some m.cls := findClass_of_methodNamed B.named
  have hlocks := B.notSynchronized
  have hl := lv_entry ([.ref h0, .int p0]) (n := 2) (Nat.le_of_ble_eq_true rfl)
  rw [lg_entry_eq]
  generalize (lg_sl ([.ref h0, .int p0]) ++ List.replicate (2 - (lg_sl ([.ref h0, .int p0])).length) Slot.unset).toArray = ls at hl ⊢
  have hl : lv_has ls 2 [(0, .ref h0), (1, .int p0)] := hl
  refine lv_iload_n hx hb dX11_itemOf_0 rfl (lv_at hl 1 rfl) ?_
  refine lv_iconst (v := 0) hx hb dX11_itemOf_1 (by decide) ?_
  refine lv_aload_n hx hb dX11_itemOf_2 rfl (lv_at hl 0 rfl) ?_
  refine va_get (D := (dC, dI)) (ci := 10) (v := .int 0) (C := RX11) (T := TX11) (N := 9) hx hb hts (by decide +kernel) hown hK hP 0 rfl rfl 3 (by decide) (hts (.fieldLink RX11 24 "PageOne" "itemCount" "I") (by decide +kernel)) (fun _ h9 => h9) rfl dX11_itemOf_3 ?_
  refine lv_iconst (v := 1) hx hb dX11_itemOf_6 (by decide) ?_
  refine lv_isub hx hb dX11_itemOf_7 ?_
  refine lv_topi (fun k_1 ek_1 => ?_)
  obtain rfl : k_1 = (-1) := ek_1.trans (by decide)
  have hPc := hP.sub (ws' := []) [] rfl
  have hKc := hK.sub (tys' := []) [] rfl
  refine vp_callSi (va_runS (As := [.int p0, .int 0, .int (-1)]) (rest := []) ⟨hx, hb, hml, hown, hts⟩ (x_isWithin l dC dI p0 0 (-1)) (va_cwS 3 hts gX11_itemOf_X11_isWithin rfl rfl rfl (by decide +kernel) ⟨Nat.le_of_ble_eq_true rfl, Nat.le_of_ble_eq_true rfl⟩) ⟨pw_fb, fun U hU hW => ⟨rfl, pw_to hU hW hPc hKc hN⟩⟩ rfl rfl hl.1 rfl (lv_room (Nat.le_of_ble_eq_true rfl)) dX11_itemOf_8 ⟨Nat.le_of_ble_eq_true rfl, Nat.le_of_ble_eq_true rfl⟩).run (fun r hw => ?_)
  obtain rfl : r = 0 := b_f hw (bw_none _)
  refine lv_if_eq (tgt := 23) hx hb dX11_itemOf_11 (by decide) (fun c_2 => ?_) (fun c_2 => absurd (by decide) c_2)
  refine lv_null hx hb dX11_itemOf_23 ?_
  exact W.aret (v := .null) hx hb hr (Or.inl ⟨_, rfl⟩) (Or.inl rfl) (fun t ht hW => ⟨none, rfl, rfl, ht⟩) (fun q h => absurd h List.not_mem_nil) dX11_itemOf_24
set_option maxHeartbeats 4000000 in
set_option maxRecDepth 100000 in
theorem x_canAct0 (l : Launch) (dC : Nat → ClassId) (dI : Nat → Nat → Nat) (h0 pg pl it ac rv : Nat) : Met l yX11_canAct wsX11_canAct ({ frames := 0, cells := 0, slots := 0, locals := 0 }) (va_Pc [.ref h0] (PW dC dI [(h0, .inr (10, [.ref pg, .ref pl, .ref it, .int 0, .ref ac, .int 0, .ref rv, .int 0, .int 0]))] [])) (vp_Si (fun r => r = 1)) 0 0 (fun _ => False) := by
  refine Met.ofW (cc := cX11_canAct) (maxL := 1) (ret := (some .boolean)) (by decide) rfl ?_
  intro p e s m args below meth c s₁ B hml hv
  obtain ⟨rfl, hP, hK, hN⟩ := hv
  have hx := B.exec
  have hb := B.bytes
  have hr := B.returns
  have hts := atoms_spec (ws := wsX11_canAct) B.pre
  have hown : s.vm.findClass RX11 = some m.cls := findClass_of_methodNamed B.named
  have hlocks := B.notSynchronized
  have hl := lv_entry ([.ref h0]) (n := 1) (Nat.le_of_ble_eq_true rfl)
  rw [lg_entry_eq]
  generalize (lg_sl ([.ref h0]) ++ List.replicate (1 - (lg_sl ([.ref h0])).length) Slot.unset).toArray = ls at hl ⊢
  have hl : lv_has ls 1 [(0, .ref h0)] := hl
  refine lv_aload_n hx hb dX11_canAct_0 rfl (lv_at hl 0 rfl) ?_
  refine va_get (D := (dC, dI)) (ci := 10) (v := .int 0) (C := RX11) (T := TX11) (N := 9) hx hb hts (by decide +kernel) hown hK hP 0 rfl rfl 5 (by decide) (hts (.fieldLink RX11 34 "PageOne" "actCount" "I") (by decide +kernel)) (fun _ h9 => h9) rfl dX11_canAct_1 ?_
  refine lv_sipush (v := 300) hx hb dX11_canAct_4 (by decide) ?_
  refine lv_icmp_ge (tgt := 14) hx hb dX11_canAct_7 (by decide) (fun c_1 => absurd c_1 (by decide)) (fun c_1 => ?_)
  refine lv_iconst (v := 1) hx hb dX11_canAct_10 (by decide) ?_
  refine lv_goto (tgt := 15) hx hb dX11_canAct_11 (by decide) ?_
  exact W.zret (v := 1) hx hb hr (by decide) (fun t ht hW => ⟨_, rfl, rfl, ht⟩) (fun q h => absurd h List.not_mem_nil) dX11_canAct_15
set_option maxHeartbeats 4000000 in
set_option maxRecDepth 100000 in
theorem x_areRivals0 (l : Launch) (dC : Nat → ClassId) (dI : Nat → Nat → Nat) (h0 pg pl it ac rv : Nat) (cZ : ClassId) (p0 p1 : Int32) (hp : bw p0 0 9 = true) (hq : bw p1 0 9 = true) : Met l yX11_areRivals wsX11_areRivals ({ frames := 0, cells := 0, slots := 0, locals := 0 }) (va_Pc [.ref h0, .int p0, .int p1] (PW dC dI [(h0, .inr (10, [.ref pg, .ref pl, .ref it, .int 0, .ref ac, .int 0, .ref rv, .int 0, .int 0])), (rv, .inl (cZ, 100, .inl (fun _ => 0)))] [(cZ, .boolean)])) (vp_Si (fun r => r = 0)) 0 0 (fun _ => False) := by
  refine Met.ofW (cc := cX11_areRivals) (maxL := 3) (ret := (some .boolean)) (by decide) rfl ?_
  intro p e s m args below meth c s₁ B hml hv
  obtain ⟨rfl, hP, hK, hN⟩ := hv
  have hx := B.exec
  have hb := B.bytes
  have hr := B.returns
  have hts := atoms_spec (ws := wsX11_areRivals) B.pre
  have hown : s.vm.findClass RX11 = some m.cls := findClass_of_methodNamed B.named
  have hlocks := B.notSynchronized
  have hl := lv_entry ([.ref h0, .int p0, .int p1]) (n := 3) (Nat.le_of_ble_eq_true rfl)
  rw [lg_entry_eq]
  generalize (lg_sl ([.ref h0, .int p0, .int p1]) ++ List.replicate (3 - (lg_sl ([.ref h0, .int p0, .int p1])).length) Slot.unset).toArray = ls at hl ⊢
  have hl : lv_has ls 3 [(0, .ref h0), (1, .int p0), (2, .int p1)] := hl
  refine lv_aload_n hx hb dX11_areRivals_0 rfl (lv_at hl 0 rfl) ?_
  refine va_get (D := (dC, dI)) (ci := 10) (v := .ref rv) (C := RX11) (T := TX11) (N := 9) hx hb hts (by decide +kernel) hown hK hP 0 rfl rfl 6 (by decide) (hts (.fieldLink RX11 37 "PageOne" "rivals" "[Z") (by decide +kernel)) (fun _ h9 => h9) rfl dX11_areRivals_1 ?_
  refine lv_iload_n hx hb dX11_areRivals_4 rfl (lv_at hl 1 rfl) ?_
  refine lv_bipush (v := 10) hx hb dX11_areRivals_5 (by decide) ?_
  refine lv_imul hx hb dX11_areRivals_7 ?_
  refine lv_iload_n hx hb dX11_areRivals_8 rfl (lv_at hl 2 rfl) ?_
  refine lv_iadd hx hb dX11_areRivals_9 ?_
  refine va_zald hx hb hK hP 1 0 rfl rfl (vin2 hp hq) dX11_areRivals_10 ?_
  refine lv_topi (fun k_1 ek_1 => ?_)
  obtain rfl : k_1 = 0 := ek_1
  exact W.zret (v := 0) hx hb hr (by decide) (fun t ht hW => ⟨_, rfl, rfl, ht⟩) (fun q h => absurd h List.not_mem_nil) dX11_areRivals_11
set_option maxHeartbeats 4000000 in
set_option maxRecDepth 100000 in
theorem x_hasPlate0 (l : Launch) (dC : Nat → ClassId) (dI : Nat → Nat → Nat) (h0 pg pl it ac rv : Nat) (cS : ClassId) (p0 : Int32) : Met l yX11_hasPlate wsX11_hasPlate ({ frames := 2, cells := 0, slots := 0, locals := 42 }) (va_Pc [.ref h0, .int p0] (PW dC dI [(h0, .inr (10, [.ref pg, .ref pl, .ref it, .int 0, .ref ac, .int 0, .ref rv, .int 0, .int 0])), (pl, .inl (cS, 12, .inr (.inr (.inr (.inr (fun _ => none))))))] [(cS, .object "PageOne$Sheet")])) (vp_Si (fun r => r = 0)) 0 0 (fun _ => False) := by
  refine Met.ofW (cc := cX11_hasPlate) (maxL := 2) (ret := (some .boolean)) (by decide) rfl ?_
  intro p e s m args below meth c s₁ B hml hv
  obtain ⟨rfl, hP, hK, hN⟩ := hv
  have hx := B.exec
  have hb := B.bytes
  have hr := B.returns
  have hts := atoms_spec (ws := wsX11_hasPlate) B.pre
  have hown : s.vm.findClass RX11 = some m.cls := findClass_of_methodNamed B.named
  have hlocks := B.notSynchronized
  have hl := lv_entry ([.ref h0, .int p0]) (n := 2) (Nat.le_of_ble_eq_true rfl)
  rw [lg_entry_eq]
  generalize (lg_sl ([.ref h0, .int p0]) ++ List.replicate (2 - (lg_sl ([.ref h0, .int p0])).length) Slot.unset).toArray = ls at hl ⊢
  have hl : lv_has ls 2 [(0, .ref h0), (1, .int p0)] := hl
  refine lv_iload_n hx hb dX11_hasPlate_0 rfl (lv_at hl 1 rfl) ?_
  have hPc := hP.sub (ws' := []) [] rfl
  have hKc := hK.sub (tys' := []) [] rfl
  refine vp_callSi (va_runS (As := [.int p0]) (rest := []) ⟨hx, hb, hml, hown, hts⟩ (x_isPage l dC dI p0) (va_cwS 1 hts gX11_hasPlate_X11_isPage rfl rfl rfl (by decide +kernel) ⟨Nat.le_of_ble_eq_true rfl, Nat.le_of_ble_eq_true rfl⟩) ⟨pw_fb, fun U hU hW => ⟨rfl, pw_to hU hW hPc hKc hN⟩⟩ rfl rfl hl.1 rfl (lv_room (Nat.le_of_ble_eq_true rfl)) dX11_hasPlate_1 ⟨Nat.le_of_ble_eq_true rfl, Nat.le_of_ble_eq_true rfl⟩).run (fun r hw => ?_)
  rcases Bool.eq_false_or_eq_true (bw p0 0 11) with b_1 | b_1
  ·
    obtain rfl : r = 1 := b_t hw b_1
    refine lv_if_eq (tgt := 20) hx hb dX11_hasPlate_4 (by decide) (fun c_2 => absurd c_2 (by decide)) (fun c_2 => ?_)
    refine lv_aload_n hx hb dX11_hasPlate_7 rfl (lv_at hl 0 rfl) ?_
    refine va_get (D := (dC, dI)) (ci := 10) (v := .ref pl) (C := RX11) (T := TX11) (N := 9) hx hb hts (by decide +kernel) hown hK hP 0 rfl rfl 1 (by decide) (hts (.fieldLink RX11 15 "PageOne" "plates" "[LPageOne$Sheet;") (by decide +kernel)) (fun _ h9 => h9) rfl dX11_hasPlate_8 ?_
    refine lv_iload_n hx hb dX11_hasPlate_11 rfl (lv_at hl 1 rfl) ?_
    refine va_aldq hx hb hK hP 1 0 rfl rfl (vin b_1 (by decide)) dX11_hasPlate_12 ?_
    refine W.eq (g2 := F0 m 13 ls [.null]) rfl ?_
    refine lv_ifnullN (tgt := 20) hx hb dX11_hasPlate_13 (by decide) ?_
    refine lv_iconst (v := 0) hx hb dX11_hasPlate_20 (by decide) ?_
    exact W.zret (v := 0) hx hb hr (by decide) (fun t ht hW => ⟨_, rfl, rfl, ht⟩) (fun q h => absurd h List.not_mem_nil) dX11_hasPlate_21
  ·
    obtain rfl : r = 0 := b_f hw b_1
    refine lv_if_eq (tgt := 20) hx hb dX11_hasPlate_4 (by decide) (fun c_3 => ?_) (fun c_3 => absurd (by decide) c_3)
    refine lv_iconst (v := 0) hx hb dX11_hasPlate_20 (by decide) ?_
    exact W.zret (v := 0) hx hb hr (by decide) (fun t ht hW => ⟨_, rfl, rfl, ht⟩) (fun q h => absurd h List.not_mem_nil) dX11_hasPlate_21
set_option maxHeartbeats 4000000 in
set_option maxRecDepth 100000 in
theorem x_isFresh0 (l : Launch) (dC : Nat → ClassId) (dI : Nat → Nat → Nat) (h0 pg pl it ac rv : Nat) (cS : ClassId) (p0 : Int32) : Met l yX11_isFresh wsX11_isFresh ({ frames := 3, cells := 0, slots := 0, locals := 63 }) (va_Pc [.ref h0, .int p0] (PW dC dI [(h0, .inr (10, [.ref pg, .ref pl, .ref it, .int 0, .ref ac, .int 0, .ref rv, .int 0, .int 0])), (pl, .inl (cS, 12, .inr (.inr (.inr (.inr (fun _ => none))))))] [(cS, .object "PageOne$Sheet")])) (vp_Si (fun r => r = 0)) 0 0 (fun _ => False) := by
  refine Met.ofW (cc := cX11_isFresh) (maxL := 2) (ret := (some .boolean)) (by decide) rfl ?_
  intro p e s m args below meth c s₁ B hml hv
  obtain ⟨rfl, hP, hK, hN⟩ := hv
  have hx := B.exec
  have hb := B.bytes
  have hr := B.returns
  have hts := atoms_spec (ws := wsX11_isFresh) B.pre
  have hown : s.vm.findClass RX11 = some m.cls := findClass_of_methodNamed B.named
  have hlocks := B.notSynchronized
  have hl := lv_entry ([.ref h0, .int p0]) (n := 2) (Nat.le_of_ble_eq_true rfl)
  rw [lg_entry_eq]
  generalize (lg_sl ([.ref h0, .int p0]) ++ List.replicate (2 - (lg_sl ([.ref h0, .int p0])).length) Slot.unset).toArray = ls at hl ⊢
  have hl : lv_has ls 2 [(0, .ref h0), (1, .int p0)] := hl
  refine lv_aload_n hx hb dX11_isFresh_0 rfl (lv_at hl 0 rfl) ?_
  refine lv_iload_n hx hb dX11_isFresh_1 rfl (lv_at hl 1 rfl) ?_
  have hPc := hP.sub (ws' := [(h0, .inr (10, [.ref pg, .ref pl, .ref it, .int 0, .ref ac, .int 0, .ref rv, .int 0, .int 0])), (pl, .inl (cS, 12, .inr (.inr (.inr (.inr (fun _ => none))))))]) [0, 1] rfl
  have hKc := hK.sub (tys' := [(cS, .object "PageOne$Sheet")]) [0] rfl
  refine vp_callSi (va_runV (As := [.int p0]) (rest := []) ⟨hx, hb, hml, hown, hts⟩ (x_hasPlate0 l dC dI h0 pg pl it ac rv cS p0) (cwV 1 hts gX11_isFresh_X11_hasPlate rfl rfl rfl (by decide +kernel) ⟨Nat.le_of_ble_eq_true rfl, Nat.le_of_ble_eq_true rfl⟩) ⟨pw_fb, va_recv hKc hPc (ci := 10) (q0 := 0) rfl rfl, fun U hU hW => ⟨rfl, pw_to hU hW hPc hKc hN⟩⟩ rfl rfl hl.1 rfl (lv_room (Nat.le_of_ble_eq_true rfl)) dX11_isFresh_2 ⟨Nat.le_of_ble_eq_true rfl, Nat.le_of_ble_eq_true rfl⟩).run (fun r hw => ?_)
  obtain rfl : r = 0 := hw
  refine lv_if_eq (tgt := 44) hx hb dX11_isFresh_5 (by decide) (fun c_1 => ?_) (fun c_1 => absurd (by decide) c_1)
  refine lv_iconst (v := 0) hx hb dX11_isFresh_44 (by decide) ?_
  exact W.zret (v := 0) hx hb hr (by decide) (fun t ht hW => ⟨_, rfl, rfl, ht⟩) (fun q h => absurd h List.not_mem_nil) dX11_isFresh_45
set_option maxHeartbeats 4000000 in
set_option maxRecDepth 100000 in
theorem x_freshPlates0 (l : Launch) (dC : Nat → ClassId) (dI : Nat → Nat → Nat) (h0 pg pl it ac rv : Nat) (cS : ClassId) : Met l yX11_freshPlates wsX11_freshPlates ({ frames := 4, cells := 0, slots := 0, locals := 84 }) (va_Pc [.ref h0] (PW dC dI [(h0, .inr (10, [.ref pg, .ref pl, .ref it, .int 0, .ref ac, .int 0, .ref rv, .int 0, .int 0])), (pl, .inl (cS, 12, .inr (.inr (.inr (.inr (fun _ => none))))))] [(cS, .object "PageOne$Sheet")])) (vp_Si (fun r => r = 0)) 0 0 (fun _ => False) := by
  refine Met.ofW (cc := cX11_freshPlates) (maxL := 3) (ret := (some .int)) (by decide) rfl ?_
  intro p e s m args below meth c s₁ B hml hv
  obtain ⟨rfl, hP, hK, hN⟩ := hv
  have hx := B.exec
  have hb := B.bytes
  have hr := B.returns
  have hts := atoms_spec (ws := wsX11_freshPlates) B.pre
  have hown : s.vm.findClass RX11 = some m.cls := findClass_of_methodNamed B.named
  have hlocks := B.notSynchronized
  have hl := lv_entry ([.ref h0]) (n := 3) (Nat.le_of_ble_eq_true rfl)
  rw [lg_entry_eq]
  generalize (lg_sl ([.ref h0]) ++ List.replicate (3 - (lg_sl ([.ref h0])).length) Slot.unset).toArray = ls at hl ⊢
  have hl : lv_has ls 3 [(0, .ref h0)] := hl
  refine lv_iconst (v := 0) hx hb dX11_freshPlates_0 (by decide) ?_
  refine lv_istore_n (lv' := [(1, .int 0), (0, .ref h0)]) hx hb dX11_freshPlates_1 rfl hl (by decide) rfl (fun ls hl => ?_)
  refine lv_iconst (v := 0) hx hb dX11_freshPlates_2 (by decide) ?_
  refine lv_istore_n (lv' := [(2, .int 0), (1, .int 0), (0, .ref h0)]) hx hb dX11_freshPlates_3 rfl hl (by decide) rfl (fun ls hl => ?_)
  refine lv_iload_n hx hb dX11_freshPlates_4 rfl (lv_at hl 0 rfl) ?_
  refine lv_bipush (v := 12) hx hb dX11_freshPlates_5 (by decide) ?_
  refine lv_icmp_ge (tgt := 27) hx hb dX11_freshPlates_7 (by decide) (fun c_1 => absurd c_1 (by decide)) (fun c_1 => ?_)
  refine lv_aload_n hx hb dX11_freshPlates_10 rfl (lv_at hl 2 rfl) ?_
  refine lv_iload_n hx hb dX11_freshPlates_11 rfl (lv_at hl 0 rfl) ?_
  have hPc := hP.sub (ws' := [(h0, .inr (10, [.ref pg, .ref pl, .ref it, .int 0, .ref ac, .int 0, .ref rv, .int 0, .int 0])), (pl, .inl (cS, 12, .inr (.inr (.inr (.inr (fun _ => none))))))]) [0, 1] rfl
  have hKc := hK.sub (tys' := [(cS, .object "PageOne$Sheet")]) [0] rfl
  refine vp_callSi (va_runV (As := [.int 0]) (rest := []) ⟨hx, hb, hml, hown, hts⟩ (x_isFresh0 l dC dI h0 pg pl it ac rv cS 0) (cwV 1 hts gX11_freshPlates_X11_isFresh rfl rfl rfl (by decide +kernel) ⟨Nat.le_of_ble_eq_true rfl, Nat.le_of_ble_eq_true rfl⟩) ⟨pw_fb, va_recv hKc hPc (ci := 10) (q0 := 0) rfl rfl, fun U hU hW => ⟨rfl, pw_to hU hW hPc hKc hN⟩⟩ rfl rfl hl.1 rfl (lv_room (Nat.le_of_ble_eq_true rfl)) dX11_freshPlates_12 ⟨Nat.le_of_ble_eq_true rfl, Nat.le_of_ble_eq_true rfl⟩).run (fun r hw => ?_)
  obtain rfl : r = 0 := hw
  refine lv_if_eq (tgt := 21) hx hb dX11_freshPlates_15 (by decide) (fun c_2 => ?_) (fun c_2 => absurd (by decide) c_2)
  refine lv_iinc (v := 1) (lv' := [(2, .int 1), (1, .int 0), (0, .ref h0)]) hx hb dX11_freshPlates_21 hl (k := 0) rfl (by decide) (by decide) rfl (fun ls hl => ?_)
  refine lv_goto (tgt := 4) hx hb dX11_freshPlates_24 (by decide) ?_
  refine lv_iload_n hx hb dX11_freshPlates_4 rfl (lv_at hl 0 rfl) ?_
  refine lv_bipush (v := 12) hx hb dX11_freshPlates_5 (by decide) ?_
  refine lv_icmp_ge (tgt := 27) hx hb dX11_freshPlates_7 (by decide) (fun c_3 => absurd c_3 (by decide)) (fun c_3 => ?_)
  refine lv_aload_n hx hb dX11_freshPlates_10 rfl (lv_at hl 2 rfl) ?_
  refine lv_iload_n hx hb dX11_freshPlates_11 rfl (lv_at hl 0 rfl) ?_
  have hPc := hP.sub (ws' := [(h0, .inr (10, [.ref pg, .ref pl, .ref it, .int 0, .ref ac, .int 0, .ref rv, .int 0, .int 0])), (pl, .inl (cS, 12, .inr (.inr (.inr (.inr (fun _ => none))))))]) [0, 1] rfl
  have hKc := hK.sub (tys' := [(cS, .object "PageOne$Sheet")]) [0] rfl
  refine vp_callSi (va_runV (As := [.int 1]) (rest := []) ⟨hx, hb, hml, hown, hts⟩ (x_isFresh0 l dC dI h0 pg pl it ac rv cS 1) (cwV 1 hts gX11_freshPlates_X11_isFresh rfl rfl rfl (by decide +kernel) ⟨Nat.le_of_ble_eq_true rfl, Nat.le_of_ble_eq_true rfl⟩) ⟨pw_fb, va_recv hKc hPc (ci := 10) (q0 := 0) rfl rfl, fun U hU hW => ⟨rfl, pw_to hU hW hPc hKc hN⟩⟩ rfl rfl hl.1 rfl (lv_room (Nat.le_of_ble_eq_true rfl)) dX11_freshPlates_12 ⟨Nat.le_of_ble_eq_true rfl, Nat.le_of_ble_eq_true rfl⟩).run (fun r hw => ?_)
  obtain rfl : r = 0 := hw
  refine lv_if_eq (tgt := 21) hx hb dX11_freshPlates_15 (by decide) (fun c_4 => ?_) (fun c_4 => absurd (by decide) c_4)
  refine lv_iinc (v := 2) (lv' := [(2, .int 2), (1, .int 0), (0, .ref h0)]) hx hb dX11_freshPlates_21 hl (k := 0) rfl (by decide) (by decide) rfl (fun ls hl => ?_)
  refine lv_goto (tgt := 4) hx hb dX11_freshPlates_24 (by decide) ?_
  refine lv_iload_n hx hb dX11_freshPlates_4 rfl (lv_at hl 0 rfl) ?_
  refine lv_bipush (v := 12) hx hb dX11_freshPlates_5 (by decide) ?_
  refine lv_icmp_ge (tgt := 27) hx hb dX11_freshPlates_7 (by decide) (fun c_5 => absurd c_5 (by decide)) (fun c_5 => ?_)
  refine lv_aload_n hx hb dX11_freshPlates_10 rfl (lv_at hl 2 rfl) ?_
  refine lv_iload_n hx hb dX11_freshPlates_11 rfl (lv_at hl 0 rfl) ?_
  have hPc := hP.sub (ws' := [(h0, .inr (10, [.ref pg, .ref pl, .ref it, .int 0, .ref ac, .int 0, .ref rv, .int 0, .int 0])), (pl, .inl (cS, 12, .inr (.inr (.inr (.inr (fun _ => none))))))]) [0, 1] rfl
  have hKc := hK.sub (tys' := [(cS, .object "PageOne$Sheet")]) [0] rfl
  refine vp_callSi (va_runV (As := [.int 2]) (rest := []) ⟨hx, hb, hml, hown, hts⟩ (x_isFresh0 l dC dI h0 pg pl it ac rv cS 2) (cwV 1 hts gX11_freshPlates_X11_isFresh rfl rfl rfl (by decide +kernel) ⟨Nat.le_of_ble_eq_true rfl, Nat.le_of_ble_eq_true rfl⟩) ⟨pw_fb, va_recv hKc hPc (ci := 10) (q0 := 0) rfl rfl, fun U hU hW => ⟨rfl, pw_to hU hW hPc hKc hN⟩⟩ rfl rfl hl.1 rfl (lv_room (Nat.le_of_ble_eq_true rfl)) dX11_freshPlates_12 ⟨Nat.le_of_ble_eq_true rfl, Nat.le_of_ble_eq_true rfl⟩).run (fun r hw => ?_)
  obtain rfl : r = 0 := hw
  refine lv_if_eq (tgt := 21) hx hb dX11_freshPlates_15 (by decide) (fun c_6 => ?_) (fun c_6 => absurd (by decide) c_6)
  refine lv_iinc (v := 3) (lv' := [(2, .int 3), (1, .int 0), (0, .ref h0)]) hx hb dX11_freshPlates_21 hl (k := 0) rfl (by decide) (by decide) rfl (fun ls hl => ?_)
  refine lv_goto (tgt := 4) hx hb dX11_freshPlates_24 (by decide) ?_
  refine lv_iload_n hx hb dX11_freshPlates_4 rfl (lv_at hl 0 rfl) ?_
  refine lv_bipush (v := 12) hx hb dX11_freshPlates_5 (by decide) ?_
  refine lv_icmp_ge (tgt := 27) hx hb dX11_freshPlates_7 (by decide) (fun c_7 => absurd c_7 (by decide)) (fun c_7 => ?_)
  refine lv_aload_n hx hb dX11_freshPlates_10 rfl (lv_at hl 2 rfl) ?_
  refine lv_iload_n hx hb dX11_freshPlates_11 rfl (lv_at hl 0 rfl) ?_
  have hPc := hP.sub (ws' := [(h0, .inr (10, [.ref pg, .ref pl, .ref it, .int 0, .ref ac, .int 0, .ref rv, .int 0, .int 0])), (pl, .inl (cS, 12, .inr (.inr (.inr (.inr (fun _ => none))))))]) [0, 1] rfl
  have hKc := hK.sub (tys' := [(cS, .object "PageOne$Sheet")]) [0] rfl
  refine vp_callSi (va_runV (As := [.int 3]) (rest := []) ⟨hx, hb, hml, hown, hts⟩ (x_isFresh0 l dC dI h0 pg pl it ac rv cS 3) (cwV 1 hts gX11_freshPlates_X11_isFresh rfl rfl rfl (by decide +kernel) ⟨Nat.le_of_ble_eq_true rfl, Nat.le_of_ble_eq_true rfl⟩) ⟨pw_fb, va_recv hKc hPc (ci := 10) (q0 := 0) rfl rfl, fun U hU hW => ⟨rfl, pw_to hU hW hPc hKc hN⟩⟩ rfl rfl hl.1 rfl (lv_room (Nat.le_of_ble_eq_true rfl)) dX11_freshPlates_12 ⟨Nat.le_of_ble_eq_true rfl, Nat.le_of_ble_eq_true rfl⟩).run (fun r hw => ?_)
  obtain rfl : r = 0 := hw
  refine lv_if_eq (tgt := 21) hx hb dX11_freshPlates_15 (by decide) (fun c_8 => ?_) (fun c_8 => absurd (by decide) c_8)
  refine lv_iinc (v := 4) (lv' := [(2, .int 4), (1, .int 0), (0, .ref h0)]) hx hb dX11_freshPlates_21 hl (k := 0) rfl (by decide) (by decide) rfl (fun ls hl => ?_)
  refine lv_goto (tgt := 4) hx hb dX11_freshPlates_24 (by decide) ?_
  refine lv_iload_n hx hb dX11_freshPlates_4 rfl (lv_at hl 0 rfl) ?_
  refine lv_bipush (v := 12) hx hb dX11_freshPlates_5 (by decide) ?_
  refine lv_icmp_ge (tgt := 27) hx hb dX11_freshPlates_7 (by decide) (fun c_9 => absurd c_9 (by decide)) (fun c_9 => ?_)
  refine lv_aload_n hx hb dX11_freshPlates_10 rfl (lv_at hl 2 rfl) ?_
  refine lv_iload_n hx hb dX11_freshPlates_11 rfl (lv_at hl 0 rfl) ?_
  have hPc := hP.sub (ws' := [(h0, .inr (10, [.ref pg, .ref pl, .ref it, .int 0, .ref ac, .int 0, .ref rv, .int 0, .int 0])), (pl, .inl (cS, 12, .inr (.inr (.inr (.inr (fun _ => none))))))]) [0, 1] rfl
  have hKc := hK.sub (tys' := [(cS, .object "PageOne$Sheet")]) [0] rfl
  refine vp_callSi (va_runV (As := [.int 4]) (rest := []) ⟨hx, hb, hml, hown, hts⟩ (x_isFresh0 l dC dI h0 pg pl it ac rv cS 4) (cwV 1 hts gX11_freshPlates_X11_isFresh rfl rfl rfl (by decide +kernel) ⟨Nat.le_of_ble_eq_true rfl, Nat.le_of_ble_eq_true rfl⟩) ⟨pw_fb, va_recv hKc hPc (ci := 10) (q0 := 0) rfl rfl, fun U hU hW => ⟨rfl, pw_to hU hW hPc hKc hN⟩⟩ rfl rfl hl.1 rfl (lv_room (Nat.le_of_ble_eq_true rfl)) dX11_freshPlates_12 ⟨Nat.le_of_ble_eq_true rfl, Nat.le_of_ble_eq_true rfl⟩).run (fun r hw => ?_)
  obtain rfl : r = 0 := hw
  refine lv_if_eq (tgt := 21) hx hb dX11_freshPlates_15 (by decide) (fun c_10 => ?_) (fun c_10 => absurd (by decide) c_10)
  refine lv_iinc (v := 5) (lv' := [(2, .int 5), (1, .int 0), (0, .ref h0)]) hx hb dX11_freshPlates_21 hl (k := 0) rfl (by decide) (by decide) rfl (fun ls hl => ?_)
  refine lv_goto (tgt := 4) hx hb dX11_freshPlates_24 (by decide) ?_
  refine lv_iload_n hx hb dX11_freshPlates_4 rfl (lv_at hl 0 rfl) ?_
  refine lv_bipush (v := 12) hx hb dX11_freshPlates_5 (by decide) ?_
  refine lv_icmp_ge (tgt := 27) hx hb dX11_freshPlates_7 (by decide) (fun c_11 => absurd c_11 (by decide)) (fun c_11 => ?_)
  refine lv_aload_n hx hb dX11_freshPlates_10 rfl (lv_at hl 2 rfl) ?_
  refine lv_iload_n hx hb dX11_freshPlates_11 rfl (lv_at hl 0 rfl) ?_
  have hPc := hP.sub (ws' := [(h0, .inr (10, [.ref pg, .ref pl, .ref it, .int 0, .ref ac, .int 0, .ref rv, .int 0, .int 0])), (pl, .inl (cS, 12, .inr (.inr (.inr (.inr (fun _ => none))))))]) [0, 1] rfl
  have hKc := hK.sub (tys' := [(cS, .object "PageOne$Sheet")]) [0] rfl
  refine vp_callSi (va_runV (As := [.int 5]) (rest := []) ⟨hx, hb, hml, hown, hts⟩ (x_isFresh0 l dC dI h0 pg pl it ac rv cS 5) (cwV 1 hts gX11_freshPlates_X11_isFresh rfl rfl rfl (by decide +kernel) ⟨Nat.le_of_ble_eq_true rfl, Nat.le_of_ble_eq_true rfl⟩) ⟨pw_fb, va_recv hKc hPc (ci := 10) (q0 := 0) rfl rfl, fun U hU hW => ⟨rfl, pw_to hU hW hPc hKc hN⟩⟩ rfl rfl hl.1 rfl (lv_room (Nat.le_of_ble_eq_true rfl)) dX11_freshPlates_12 ⟨Nat.le_of_ble_eq_true rfl, Nat.le_of_ble_eq_true rfl⟩).run (fun r hw => ?_)
  obtain rfl : r = 0 := hw
  refine lv_if_eq (tgt := 21) hx hb dX11_freshPlates_15 (by decide) (fun c_12 => ?_) (fun c_12 => absurd (by decide) c_12)
  refine lv_iinc (v := 6) (lv' := [(2, .int 6), (1, .int 0), (0, .ref h0)]) hx hb dX11_freshPlates_21 hl (k := 0) rfl (by decide) (by decide) rfl (fun ls hl => ?_)
  refine lv_goto (tgt := 4) hx hb dX11_freshPlates_24 (by decide) ?_
  refine lv_iload_n hx hb dX11_freshPlates_4 rfl (lv_at hl 0 rfl) ?_
  refine lv_bipush (v := 12) hx hb dX11_freshPlates_5 (by decide) ?_
  refine lv_icmp_ge (tgt := 27) hx hb dX11_freshPlates_7 (by decide) (fun c_13 => absurd c_13 (by decide)) (fun c_13 => ?_)
  refine lv_aload_n hx hb dX11_freshPlates_10 rfl (lv_at hl 2 rfl) ?_
  refine lv_iload_n hx hb dX11_freshPlates_11 rfl (lv_at hl 0 rfl) ?_
  have hPc := hP.sub (ws' := [(h0, .inr (10, [.ref pg, .ref pl, .ref it, .int 0, .ref ac, .int 0, .ref rv, .int 0, .int 0])), (pl, .inl (cS, 12, .inr (.inr (.inr (.inr (fun _ => none))))))]) [0, 1] rfl
  have hKc := hK.sub (tys' := [(cS, .object "PageOne$Sheet")]) [0] rfl
  refine vp_callSi (va_runV (As := [.int 6]) (rest := []) ⟨hx, hb, hml, hown, hts⟩ (x_isFresh0 l dC dI h0 pg pl it ac rv cS 6) (cwV 1 hts gX11_freshPlates_X11_isFresh rfl rfl rfl (by decide +kernel) ⟨Nat.le_of_ble_eq_true rfl, Nat.le_of_ble_eq_true rfl⟩) ⟨pw_fb, va_recv hKc hPc (ci := 10) (q0 := 0) rfl rfl, fun U hU hW => ⟨rfl, pw_to hU hW hPc hKc hN⟩⟩ rfl rfl hl.1 rfl (lv_room (Nat.le_of_ble_eq_true rfl)) dX11_freshPlates_12 ⟨Nat.le_of_ble_eq_true rfl, Nat.le_of_ble_eq_true rfl⟩).run (fun r hw => ?_)
  obtain rfl : r = 0 := hw
  refine lv_if_eq (tgt := 21) hx hb dX11_freshPlates_15 (by decide) (fun c_14 => ?_) (fun c_14 => absurd (by decide) c_14)
  refine lv_iinc (v := 7) (lv' := [(2, .int 7), (1, .int 0), (0, .ref h0)]) hx hb dX11_freshPlates_21 hl (k := 0) rfl (by decide) (by decide) rfl (fun ls hl => ?_)
  refine lv_goto (tgt := 4) hx hb dX11_freshPlates_24 (by decide) ?_
  refine lv_iload_n hx hb dX11_freshPlates_4 rfl (lv_at hl 0 rfl) ?_
  refine lv_bipush (v := 12) hx hb dX11_freshPlates_5 (by decide) ?_
  refine lv_icmp_ge (tgt := 27) hx hb dX11_freshPlates_7 (by decide) (fun c_15 => absurd c_15 (by decide)) (fun c_15 => ?_)
  refine lv_aload_n hx hb dX11_freshPlates_10 rfl (lv_at hl 2 rfl) ?_
  refine lv_iload_n hx hb dX11_freshPlates_11 rfl (lv_at hl 0 rfl) ?_
  have hPc := hP.sub (ws' := [(h0, .inr (10, [.ref pg, .ref pl, .ref it, .int 0, .ref ac, .int 0, .ref rv, .int 0, .int 0])), (pl, .inl (cS, 12, .inr (.inr (.inr (.inr (fun _ => none))))))]) [0, 1] rfl
  have hKc := hK.sub (tys' := [(cS, .object "PageOne$Sheet")]) [0] rfl
  refine vp_callSi (va_runV (As := [.int 7]) (rest := []) ⟨hx, hb, hml, hown, hts⟩ (x_isFresh0 l dC dI h0 pg pl it ac rv cS 7) (cwV 1 hts gX11_freshPlates_X11_isFresh rfl rfl rfl (by decide +kernel) ⟨Nat.le_of_ble_eq_true rfl, Nat.le_of_ble_eq_true rfl⟩) ⟨pw_fb, va_recv hKc hPc (ci := 10) (q0 := 0) rfl rfl, fun U hU hW => ⟨rfl, pw_to hU hW hPc hKc hN⟩⟩ rfl rfl hl.1 rfl (lv_room (Nat.le_of_ble_eq_true rfl)) dX11_freshPlates_12 ⟨Nat.le_of_ble_eq_true rfl, Nat.le_of_ble_eq_true rfl⟩).run (fun r hw => ?_)
  obtain rfl : r = 0 := hw
  refine lv_if_eq (tgt := 21) hx hb dX11_freshPlates_15 (by decide) (fun c_16 => ?_) (fun c_16 => absurd (by decide) c_16)
  refine lv_iinc (v := 8) (lv' := [(2, .int 8), (1, .int 0), (0, .ref h0)]) hx hb dX11_freshPlates_21 hl (k := 0) rfl (by decide) (by decide) rfl (fun ls hl => ?_)
  refine lv_goto (tgt := 4) hx hb dX11_freshPlates_24 (by decide) ?_
  refine lv_iload_n hx hb dX11_freshPlates_4 rfl (lv_at hl 0 rfl) ?_
  refine lv_bipush (v := 12) hx hb dX11_freshPlates_5 (by decide) ?_
  refine lv_icmp_ge (tgt := 27) hx hb dX11_freshPlates_7 (by decide) (fun c_17 => absurd c_17 (by decide)) (fun c_17 => ?_)
  refine lv_aload_n hx hb dX11_freshPlates_10 rfl (lv_at hl 2 rfl) ?_
  refine lv_iload_n hx hb dX11_freshPlates_11 rfl (lv_at hl 0 rfl) ?_
  have hPc := hP.sub (ws' := [(h0, .inr (10, [.ref pg, .ref pl, .ref it, .int 0, .ref ac, .int 0, .ref rv, .int 0, .int 0])), (pl, .inl (cS, 12, .inr (.inr (.inr (.inr (fun _ => none))))))]) [0, 1] rfl
  have hKc := hK.sub (tys' := [(cS, .object "PageOne$Sheet")]) [0] rfl
  refine vp_callSi (va_runV (As := [.int 8]) (rest := []) ⟨hx, hb, hml, hown, hts⟩ (x_isFresh0 l dC dI h0 pg pl it ac rv cS 8) (cwV 1 hts gX11_freshPlates_X11_isFresh rfl rfl rfl (by decide +kernel) ⟨Nat.le_of_ble_eq_true rfl, Nat.le_of_ble_eq_true rfl⟩) ⟨pw_fb, va_recv hKc hPc (ci := 10) (q0 := 0) rfl rfl, fun U hU hW => ⟨rfl, pw_to hU hW hPc hKc hN⟩⟩ rfl rfl hl.1 rfl (lv_room (Nat.le_of_ble_eq_true rfl)) dX11_freshPlates_12 ⟨Nat.le_of_ble_eq_true rfl, Nat.le_of_ble_eq_true rfl⟩).run (fun r hw => ?_)
  obtain rfl : r = 0 := hw
  refine lv_if_eq (tgt := 21) hx hb dX11_freshPlates_15 (by decide) (fun c_18 => ?_) (fun c_18 => absurd (by decide) c_18)
  refine lv_iinc (v := 9) (lv' := [(2, .int 9), (1, .int 0), (0, .ref h0)]) hx hb dX11_freshPlates_21 hl (k := 0) rfl (by decide) (by decide) rfl (fun ls hl => ?_)
  refine lv_goto (tgt := 4) hx hb dX11_freshPlates_24 (by decide) ?_
  refine lv_iload_n hx hb dX11_freshPlates_4 rfl (lv_at hl 0 rfl) ?_
  refine lv_bipush (v := 12) hx hb dX11_freshPlates_5 (by decide) ?_
  refine lv_icmp_ge (tgt := 27) hx hb dX11_freshPlates_7 (by decide) (fun c_19 => absurd c_19 (by decide)) (fun c_19 => ?_)
  refine lv_aload_n hx hb dX11_freshPlates_10 rfl (lv_at hl 2 rfl) ?_
  refine lv_iload_n hx hb dX11_freshPlates_11 rfl (lv_at hl 0 rfl) ?_
  have hPc := hP.sub (ws' := [(h0, .inr (10, [.ref pg, .ref pl, .ref it, .int 0, .ref ac, .int 0, .ref rv, .int 0, .int 0])), (pl, .inl (cS, 12, .inr (.inr (.inr (.inr (fun _ => none))))))]) [0, 1] rfl
  have hKc := hK.sub (tys' := [(cS, .object "PageOne$Sheet")]) [0] rfl
  refine vp_callSi (va_runV (As := [.int 9]) (rest := []) ⟨hx, hb, hml, hown, hts⟩ (x_isFresh0 l dC dI h0 pg pl it ac rv cS 9) (cwV 1 hts gX11_freshPlates_X11_isFresh rfl rfl rfl (by decide +kernel) ⟨Nat.le_of_ble_eq_true rfl, Nat.le_of_ble_eq_true rfl⟩) ⟨pw_fb, va_recv hKc hPc (ci := 10) (q0 := 0) rfl rfl, fun U hU hW => ⟨rfl, pw_to hU hW hPc hKc hN⟩⟩ rfl rfl hl.1 rfl (lv_room (Nat.le_of_ble_eq_true rfl)) dX11_freshPlates_12 ⟨Nat.le_of_ble_eq_true rfl, Nat.le_of_ble_eq_true rfl⟩).run (fun r hw => ?_)
  obtain rfl : r = 0 := hw
  refine lv_if_eq (tgt := 21) hx hb dX11_freshPlates_15 (by decide) (fun c_20 => ?_) (fun c_20 => absurd (by decide) c_20)
  refine lv_iinc (v := 10) (lv' := [(2, .int 10), (1, .int 0), (0, .ref h0)]) hx hb dX11_freshPlates_21 hl (k := 0) rfl (by decide) (by decide) rfl (fun ls hl => ?_)
  refine lv_goto (tgt := 4) hx hb dX11_freshPlates_24 (by decide) ?_
  refine lv_iload_n hx hb dX11_freshPlates_4 rfl (lv_at hl 0 rfl) ?_
  refine lv_bipush (v := 12) hx hb dX11_freshPlates_5 (by decide) ?_
  refine lv_icmp_ge (tgt := 27) hx hb dX11_freshPlates_7 (by decide) (fun c_21 => absurd c_21 (by decide)) (fun c_21 => ?_)
  refine lv_aload_n hx hb dX11_freshPlates_10 rfl (lv_at hl 2 rfl) ?_
  refine lv_iload_n hx hb dX11_freshPlates_11 rfl (lv_at hl 0 rfl) ?_
  have hPc := hP.sub (ws' := [(h0, .inr (10, [.ref pg, .ref pl, .ref it, .int 0, .ref ac, .int 0, .ref rv, .int 0, .int 0])), (pl, .inl (cS, 12, .inr (.inr (.inr (.inr (fun _ => none))))))]) [0, 1] rfl
  have hKc := hK.sub (tys' := [(cS, .object "PageOne$Sheet")]) [0] rfl
  refine vp_callSi (va_runV (As := [.int 10]) (rest := []) ⟨hx, hb, hml, hown, hts⟩ (x_isFresh0 l dC dI h0 pg pl it ac rv cS 10) (cwV 1 hts gX11_freshPlates_X11_isFresh rfl rfl rfl (by decide +kernel) ⟨Nat.le_of_ble_eq_true rfl, Nat.le_of_ble_eq_true rfl⟩) ⟨pw_fb, va_recv hKc hPc (ci := 10) (q0 := 0) rfl rfl, fun U hU hW => ⟨rfl, pw_to hU hW hPc hKc hN⟩⟩ rfl rfl hl.1 rfl (lv_room (Nat.le_of_ble_eq_true rfl)) dX11_freshPlates_12 ⟨Nat.le_of_ble_eq_true rfl, Nat.le_of_ble_eq_true rfl⟩).run (fun r hw => ?_)
  obtain rfl : r = 0 := hw
  refine lv_if_eq (tgt := 21) hx hb dX11_freshPlates_15 (by decide) (fun c_22 => ?_) (fun c_22 => absurd (by decide) c_22)
  refine lv_iinc (v := 11) (lv' := [(2, .int 11), (1, .int 0), (0, .ref h0)]) hx hb dX11_freshPlates_21 hl (k := 0) rfl (by decide) (by decide) rfl (fun ls hl => ?_)
  refine lv_goto (tgt := 4) hx hb dX11_freshPlates_24 (by decide) ?_
  refine lv_iload_n hx hb dX11_freshPlates_4 rfl (lv_at hl 0 rfl) ?_
  refine lv_bipush (v := 12) hx hb dX11_freshPlates_5 (by decide) ?_
  refine lv_icmp_ge (tgt := 27) hx hb dX11_freshPlates_7 (by decide) (fun c_23 => absurd c_23 (by decide)) (fun c_23 => ?_)
  refine lv_aload_n hx hb dX11_freshPlates_10 rfl (lv_at hl 2 rfl) ?_
  refine lv_iload_n hx hb dX11_freshPlates_11 rfl (lv_at hl 0 rfl) ?_
  have hPc := hP.sub (ws' := [(h0, .inr (10, [.ref pg, .ref pl, .ref it, .int 0, .ref ac, .int 0, .ref rv, .int 0, .int 0])), (pl, .inl (cS, 12, .inr (.inr (.inr (.inr (fun _ => none))))))]) [0, 1] rfl
  have hKc := hK.sub (tys' := [(cS, .object "PageOne$Sheet")]) [0] rfl
  refine vp_callSi (va_runV (As := [.int 11]) (rest := []) ⟨hx, hb, hml, hown, hts⟩ (x_isFresh0 l dC dI h0 pg pl it ac rv cS 11) (cwV 1 hts gX11_freshPlates_X11_isFresh rfl rfl rfl (by decide +kernel) ⟨Nat.le_of_ble_eq_true rfl, Nat.le_of_ble_eq_true rfl⟩) ⟨pw_fb, va_recv hKc hPc (ci := 10) (q0 := 0) rfl rfl, fun U hU hW => ⟨rfl, pw_to hU hW hPc hKc hN⟩⟩ rfl rfl hl.1 rfl (lv_room (Nat.le_of_ble_eq_true rfl)) dX11_freshPlates_12 ⟨Nat.le_of_ble_eq_true rfl, Nat.le_of_ble_eq_true rfl⟩).run (fun r hw => ?_)
  obtain rfl : r = 0 := hw
  refine lv_if_eq (tgt := 21) hx hb dX11_freshPlates_15 (by decide) (fun c_24 => ?_) (fun c_24 => absurd (by decide) c_24)
  refine lv_iinc (v := 12) (lv' := [(2, .int 12), (1, .int 0), (0, .ref h0)]) hx hb dX11_freshPlates_21 hl (k := 0) rfl (by decide) (by decide) rfl (fun ls hl => ?_)
  refine lv_goto (tgt := 4) hx hb dX11_freshPlates_24 (by decide) ?_
  refine lv_iload_n hx hb dX11_freshPlates_4 rfl (lv_at hl 0 rfl) ?_
  refine lv_bipush (v := 12) hx hb dX11_freshPlates_5 (by decide) ?_
  refine lv_icmp_ge (tgt := 27) hx hb dX11_freshPlates_7 (by decide) (fun c_25 => ?_) (fun c_25 => absurd (by decide) c_25)
  refine lv_iload_n hx hb dX11_freshPlates_27 rfl (lv_at hl 1 rfl) ?_
  exact W.iret (v := 0) hx hb hr (fun t ht hW => ⟨_, rfl, rfl, ht⟩) (fun q h => absurd h List.not_mem_nil) dX11_freshPlates_28
set_option maxHeartbeats 4000000 in
set_option maxRecDepth 100000 in
theorem x_closeEdition0 (l : Launch) (dC : Nat → ClassId) (dI : Nat → Nat → Nat) (h0 pg pl it ac rv : Nat) (cS : ClassId) : Met l yX11_closeEdition wsX11_closeEdition ({ frames := 4, cells := 0, slots := 0, locals := 84 }) (va_Pc [.ref h0] (PW dC dI [(h0, .inr (10, [.ref pg, .ref pl, .ref it, .int 0, .ref ac, .int 0, .ref rv, .int 0, .int 0])), (pl, .inl (cS, 12, .inr (.inr (.inr (.inr (fun _ => none))))))] [(cS, .object "PageOne$Sheet")])) (va_Sv (fun r => True)) 0 0 (fun _ => False) := by
  refine Met.ofW (cc := cX11_closeEdition) (maxL := 2) (ret := none) (by decide) rfl ?_
  intro p e s m args below meth c s₁ B hml hv
  obtain ⟨rfl, hP, hK, hN⟩ := hv
  have hx := B.exec
  have hb := B.bytes
  have hr := B.returns
  have hts := atoms_spec (ws := wsX11_closeEdition) B.pre
  have hown : s.vm.findClass RX11 = some m.cls := findClass_of_methodNamed B.named
  have hlocks := B.notSynchronized
  have hl := lv_entry ([.ref h0]) (n := 2) (Nat.le_of_ble_eq_true rfl)
  rw [lg_entry_eq]
  generalize (lg_sl ([.ref h0]) ++ List.replicate (2 - (lg_sl ([.ref h0])).length) Slot.unset).toArray = ls at hl ⊢
  have hl : lv_has ls 2 [(0, .ref h0)] := hl
  refine lv_iconst (v := 0) hx hb dX11_closeEdition_0 (by decide) ?_
  refine lv_istore_n (lv' := [(1, .int 0), (0, .ref h0)]) hx hb dX11_closeEdition_1 rfl hl (by decide) rfl (fun ls hl => ?_)
  refine lv_iload_n hx hb dX11_closeEdition_2 rfl (lv_at hl 0 rfl) ?_
  refine lv_bipush (v := 12) hx hb dX11_closeEdition_3 (by decide) ?_
  refine lv_icmp_ge (tgt := 27) hx hb dX11_closeEdition_5 (by decide) (fun c_1 => absurd c_1 (by decide)) (fun c_1 => ?_)
  refine lv_aload_n hx hb dX11_closeEdition_8 rfl (lv_at hl 1 rfl) ?_
  refine lv_iload_n hx hb dX11_closeEdition_9 rfl (lv_at hl 0 rfl) ?_
  have hPc := hP.sub (ws' := [(h0, .inr (10, [.ref pg, .ref pl, .ref it, .int 0, .ref ac, .int 0, .ref rv, .int 0, .int 0])), (pl, .inl (cS, 12, .inr (.inr (.inr (.inr (fun _ => none))))))]) [0, 1] rfl
  have hKc := hK.sub (tys' := [(cS, .object "PageOne$Sheet")]) [0] rfl
  refine vp_callSi (va_runV (As := [.int 0]) (rest := []) ⟨hx, hb, hml, hown, hts⟩ (x_isFresh0 l dC dI h0 pg pl it ac rv cS 0) (cwV 1 hts gX11_closeEdition_X11_isFresh rfl rfl rfl (by decide +kernel) ⟨Nat.le_of_ble_eq_true rfl, Nat.le_of_ble_eq_true rfl⟩) ⟨pw_fb, va_recv hKc hPc (ci := 10) (q0 := 0) rfl rfl, fun U hU hW => ⟨rfl, pw_to hU hW hPc hKc hN⟩⟩ rfl rfl hl.1 rfl (lv_room (Nat.le_of_ble_eq_true rfl)) dX11_closeEdition_10 ⟨Nat.le_of_ble_eq_true rfl, Nat.le_of_ble_eq_true rfl⟩).run (fun r hw => ?_)
  obtain rfl : r = 0 := hw
  refine lv_if_eq (tgt := 21) hx hb dX11_closeEdition_13 (by decide) (fun c_2 => ?_) (fun c_2 => absurd (by decide) c_2)
  refine lv_iinc (v := 1) (lv' := [(1, .int 1), (0, .ref h0)]) hx hb dX11_closeEdition_21 hl (k := 0) rfl (by decide) (by decide) rfl (fun ls hl => ?_)
  refine lv_goto (tgt := 2) hx hb dX11_closeEdition_24 (by decide) ?_
  refine lv_iload_n hx hb dX11_closeEdition_2 rfl (lv_at hl 0 rfl) ?_
  refine lv_bipush (v := 12) hx hb dX11_closeEdition_3 (by decide) ?_
  refine lv_icmp_ge (tgt := 27) hx hb dX11_closeEdition_5 (by decide) (fun c_3 => absurd c_3 (by decide)) (fun c_3 => ?_)
  refine lv_aload_n hx hb dX11_closeEdition_8 rfl (lv_at hl 1 rfl) ?_
  refine lv_iload_n hx hb dX11_closeEdition_9 rfl (lv_at hl 0 rfl) ?_
  have hPc := hP.sub (ws' := [(h0, .inr (10, [.ref pg, .ref pl, .ref it, .int 0, .ref ac, .int 0, .ref rv, .int 0, .int 0])), (pl, .inl (cS, 12, .inr (.inr (.inr (.inr (fun _ => none))))))]) [0, 1] rfl
  have hKc := hK.sub (tys' := [(cS, .object "PageOne$Sheet")]) [0] rfl
  refine vp_callSi (va_runV (As := [.int 1]) (rest := []) ⟨hx, hb, hml, hown, hts⟩ (x_isFresh0 l dC dI h0 pg pl it ac rv cS 1) (cwV 1 hts gX11_closeEdition_X11_isFresh rfl rfl rfl (by decide +kernel) ⟨Nat.le_of_ble_eq_true rfl, Nat.le_of_ble_eq_true rfl⟩) ⟨pw_fb, va_recv hKc hPc (ci := 10) (q0 := 0) rfl rfl, fun U hU hW => ⟨rfl, pw_to hU hW hPc hKc hN⟩⟩ rfl rfl hl.1 rfl (lv_room (Nat.le_of_ble_eq_true rfl)) dX11_closeEdition_10 ⟨Nat.le_of_ble_eq_true rfl, Nat.le_of_ble_eq_true rfl⟩).run (fun r hw => ?_)
  obtain rfl : r = 0 := hw
  refine lv_if_eq (tgt := 21) hx hb dX11_closeEdition_13 (by decide) (fun c_4 => ?_) (fun c_4 => absurd (by decide) c_4)
  refine lv_iinc (v := 2) (lv' := [(1, .int 2), (0, .ref h0)]) hx hb dX11_closeEdition_21 hl (k := 0) rfl (by decide) (by decide) rfl (fun ls hl => ?_)
  refine lv_goto (tgt := 2) hx hb dX11_closeEdition_24 (by decide) ?_
  refine lv_iload_n hx hb dX11_closeEdition_2 rfl (lv_at hl 0 rfl) ?_
  refine lv_bipush (v := 12) hx hb dX11_closeEdition_3 (by decide) ?_
  refine lv_icmp_ge (tgt := 27) hx hb dX11_closeEdition_5 (by decide) (fun c_5 => absurd c_5 (by decide)) (fun c_5 => ?_)
  refine lv_aload_n hx hb dX11_closeEdition_8 rfl (lv_at hl 1 rfl) ?_
  refine lv_iload_n hx hb dX11_closeEdition_9 rfl (lv_at hl 0 rfl) ?_
  have hPc := hP.sub (ws' := [(h0, .inr (10, [.ref pg, .ref pl, .ref it, .int 0, .ref ac, .int 0, .ref rv, .int 0, .int 0])), (pl, .inl (cS, 12, .inr (.inr (.inr (.inr (fun _ => none))))))]) [0, 1] rfl
  have hKc := hK.sub (tys' := [(cS, .object "PageOne$Sheet")]) [0] rfl
  refine vp_callSi (va_runV (As := [.int 2]) (rest := []) ⟨hx, hb, hml, hown, hts⟩ (x_isFresh0 l dC dI h0 pg pl it ac rv cS 2) (cwV 1 hts gX11_closeEdition_X11_isFresh rfl rfl rfl (by decide +kernel) ⟨Nat.le_of_ble_eq_true rfl, Nat.le_of_ble_eq_true rfl⟩) ⟨pw_fb, va_recv hKc hPc (ci := 10) (q0 := 0) rfl rfl, fun U hU hW => ⟨rfl, pw_to hU hW hPc hKc hN⟩⟩ rfl rfl hl.1 rfl (lv_room (Nat.le_of_ble_eq_true rfl)) dX11_closeEdition_10 ⟨Nat.le_of_ble_eq_true rfl, Nat.le_of_ble_eq_true rfl⟩).run (fun r hw => ?_)
  obtain rfl : r = 0 := hw
  refine lv_if_eq (tgt := 21) hx hb dX11_closeEdition_13 (by decide) (fun c_6 => ?_) (fun c_6 => absurd (by decide) c_6)
  refine lv_iinc (v := 3) (lv' := [(1, .int 3), (0, .ref h0)]) hx hb dX11_closeEdition_21 hl (k := 0) rfl (by decide) (by decide) rfl (fun ls hl => ?_)
  refine lv_goto (tgt := 2) hx hb dX11_closeEdition_24 (by decide) ?_
  refine lv_iload_n hx hb dX11_closeEdition_2 rfl (lv_at hl 0 rfl) ?_
  refine lv_bipush (v := 12) hx hb dX11_closeEdition_3 (by decide) ?_
  refine lv_icmp_ge (tgt := 27) hx hb dX11_closeEdition_5 (by decide) (fun c_7 => absurd c_7 (by decide)) (fun c_7 => ?_)
  refine lv_aload_n hx hb dX11_closeEdition_8 rfl (lv_at hl 1 rfl) ?_
  refine lv_iload_n hx hb dX11_closeEdition_9 rfl (lv_at hl 0 rfl) ?_
  have hPc := hP.sub (ws' := [(h0, .inr (10, [.ref pg, .ref pl, .ref it, .int 0, .ref ac, .int 0, .ref rv, .int 0, .int 0])), (pl, .inl (cS, 12, .inr (.inr (.inr (.inr (fun _ => none))))))]) [0, 1] rfl
  have hKc := hK.sub (tys' := [(cS, .object "PageOne$Sheet")]) [0] rfl
  refine vp_callSi (va_runV (As := [.int 3]) (rest := []) ⟨hx, hb, hml, hown, hts⟩ (x_isFresh0 l dC dI h0 pg pl it ac rv cS 3) (cwV 1 hts gX11_closeEdition_X11_isFresh rfl rfl rfl (by decide +kernel) ⟨Nat.le_of_ble_eq_true rfl, Nat.le_of_ble_eq_true rfl⟩) ⟨pw_fb, va_recv hKc hPc (ci := 10) (q0 := 0) rfl rfl, fun U hU hW => ⟨rfl, pw_to hU hW hPc hKc hN⟩⟩ rfl rfl hl.1 rfl (lv_room (Nat.le_of_ble_eq_true rfl)) dX11_closeEdition_10 ⟨Nat.le_of_ble_eq_true rfl, Nat.le_of_ble_eq_true rfl⟩).run (fun r hw => ?_)
  obtain rfl : r = 0 := hw
  refine lv_if_eq (tgt := 21) hx hb dX11_closeEdition_13 (by decide) (fun c_8 => ?_) (fun c_8 => absurd (by decide) c_8)
  refine lv_iinc (v := 4) (lv' := [(1, .int 4), (0, .ref h0)]) hx hb dX11_closeEdition_21 hl (k := 0) rfl (by decide) (by decide) rfl (fun ls hl => ?_)
  refine lv_goto (tgt := 2) hx hb dX11_closeEdition_24 (by decide) ?_
  refine lv_iload_n hx hb dX11_closeEdition_2 rfl (lv_at hl 0 rfl) ?_
  refine lv_bipush (v := 12) hx hb dX11_closeEdition_3 (by decide) ?_
  refine lv_icmp_ge (tgt := 27) hx hb dX11_closeEdition_5 (by decide) (fun c_9 => absurd c_9 (by decide)) (fun c_9 => ?_)
  refine lv_aload_n hx hb dX11_closeEdition_8 rfl (lv_at hl 1 rfl) ?_
  refine lv_iload_n hx hb dX11_closeEdition_9 rfl (lv_at hl 0 rfl) ?_
  have hPc := hP.sub (ws' := [(h0, .inr (10, [.ref pg, .ref pl, .ref it, .int 0, .ref ac, .int 0, .ref rv, .int 0, .int 0])), (pl, .inl (cS, 12, .inr (.inr (.inr (.inr (fun _ => none))))))]) [0, 1] rfl
  have hKc := hK.sub (tys' := [(cS, .object "PageOne$Sheet")]) [0] rfl
  refine vp_callSi (va_runV (As := [.int 4]) (rest := []) ⟨hx, hb, hml, hown, hts⟩ (x_isFresh0 l dC dI h0 pg pl it ac rv cS 4) (cwV 1 hts gX11_closeEdition_X11_isFresh rfl rfl rfl (by decide +kernel) ⟨Nat.le_of_ble_eq_true rfl, Nat.le_of_ble_eq_true rfl⟩) ⟨pw_fb, va_recv hKc hPc (ci := 10) (q0 := 0) rfl rfl, fun U hU hW => ⟨rfl, pw_to hU hW hPc hKc hN⟩⟩ rfl rfl hl.1 rfl (lv_room (Nat.le_of_ble_eq_true rfl)) dX11_closeEdition_10 ⟨Nat.le_of_ble_eq_true rfl, Nat.le_of_ble_eq_true rfl⟩).run (fun r hw => ?_)
  obtain rfl : r = 0 := hw
  refine lv_if_eq (tgt := 21) hx hb dX11_closeEdition_13 (by decide) (fun c_10 => ?_) (fun c_10 => absurd (by decide) c_10)
  refine lv_iinc (v := 5) (lv' := [(1, .int 5), (0, .ref h0)]) hx hb dX11_closeEdition_21 hl (k := 0) rfl (by decide) (by decide) rfl (fun ls hl => ?_)
  refine lv_goto (tgt := 2) hx hb dX11_closeEdition_24 (by decide) ?_
  refine lv_iload_n hx hb dX11_closeEdition_2 rfl (lv_at hl 0 rfl) ?_
  refine lv_bipush (v := 12) hx hb dX11_closeEdition_3 (by decide) ?_
  refine lv_icmp_ge (tgt := 27) hx hb dX11_closeEdition_5 (by decide) (fun c_11 => absurd c_11 (by decide)) (fun c_11 => ?_)
  refine lv_aload_n hx hb dX11_closeEdition_8 rfl (lv_at hl 1 rfl) ?_
  refine lv_iload_n hx hb dX11_closeEdition_9 rfl (lv_at hl 0 rfl) ?_
  have hPc := hP.sub (ws' := [(h0, .inr (10, [.ref pg, .ref pl, .ref it, .int 0, .ref ac, .int 0, .ref rv, .int 0, .int 0])), (pl, .inl (cS, 12, .inr (.inr (.inr (.inr (fun _ => none))))))]) [0, 1] rfl
  have hKc := hK.sub (tys' := [(cS, .object "PageOne$Sheet")]) [0] rfl
  refine vp_callSi (va_runV (As := [.int 5]) (rest := []) ⟨hx, hb, hml, hown, hts⟩ (x_isFresh0 l dC dI h0 pg pl it ac rv cS 5) (cwV 1 hts gX11_closeEdition_X11_isFresh rfl rfl rfl (by decide +kernel) ⟨Nat.le_of_ble_eq_true rfl, Nat.le_of_ble_eq_true rfl⟩) ⟨pw_fb, va_recv hKc hPc (ci := 10) (q0 := 0) rfl rfl, fun U hU hW => ⟨rfl, pw_to hU hW hPc hKc hN⟩⟩ rfl rfl hl.1 rfl (lv_room (Nat.le_of_ble_eq_true rfl)) dX11_closeEdition_10 ⟨Nat.le_of_ble_eq_true rfl, Nat.le_of_ble_eq_true rfl⟩).run (fun r hw => ?_)
  obtain rfl : r = 0 := hw
  refine lv_if_eq (tgt := 21) hx hb dX11_closeEdition_13 (by decide) (fun c_12 => ?_) (fun c_12 => absurd (by decide) c_12)
  refine lv_iinc (v := 6) (lv' := [(1, .int 6), (0, .ref h0)]) hx hb dX11_closeEdition_21 hl (k := 0) rfl (by decide) (by decide) rfl (fun ls hl => ?_)
  refine lv_goto (tgt := 2) hx hb dX11_closeEdition_24 (by decide) ?_
  refine lv_iload_n hx hb dX11_closeEdition_2 rfl (lv_at hl 0 rfl) ?_
  refine lv_bipush (v := 12) hx hb dX11_closeEdition_3 (by decide) ?_
  refine lv_icmp_ge (tgt := 27) hx hb dX11_closeEdition_5 (by decide) (fun c_13 => absurd c_13 (by decide)) (fun c_13 => ?_)
  refine lv_aload_n hx hb dX11_closeEdition_8 rfl (lv_at hl 1 rfl) ?_
  refine lv_iload_n hx hb dX11_closeEdition_9 rfl (lv_at hl 0 rfl) ?_
  have hPc := hP.sub (ws' := [(h0, .inr (10, [.ref pg, .ref pl, .ref it, .int 0, .ref ac, .int 0, .ref rv, .int 0, .int 0])), (pl, .inl (cS, 12, .inr (.inr (.inr (.inr (fun _ => none))))))]) [0, 1] rfl
  have hKc := hK.sub (tys' := [(cS, .object "PageOne$Sheet")]) [0] rfl
  refine vp_callSi (va_runV (As := [.int 6]) (rest := []) ⟨hx, hb, hml, hown, hts⟩ (x_isFresh0 l dC dI h0 pg pl it ac rv cS 6) (cwV 1 hts gX11_closeEdition_X11_isFresh rfl rfl rfl (by decide +kernel) ⟨Nat.le_of_ble_eq_true rfl, Nat.le_of_ble_eq_true rfl⟩) ⟨pw_fb, va_recv hKc hPc (ci := 10) (q0 := 0) rfl rfl, fun U hU hW => ⟨rfl, pw_to hU hW hPc hKc hN⟩⟩ rfl rfl hl.1 rfl (lv_room (Nat.le_of_ble_eq_true rfl)) dX11_closeEdition_10 ⟨Nat.le_of_ble_eq_true rfl, Nat.le_of_ble_eq_true rfl⟩).run (fun r hw => ?_)
  obtain rfl : r = 0 := hw
  refine lv_if_eq (tgt := 21) hx hb dX11_closeEdition_13 (by decide) (fun c_14 => ?_) (fun c_14 => absurd (by decide) c_14)
  refine lv_iinc (v := 7) (lv' := [(1, .int 7), (0, .ref h0)]) hx hb dX11_closeEdition_21 hl (k := 0) rfl (by decide) (by decide) rfl (fun ls hl => ?_)
  refine lv_goto (tgt := 2) hx hb dX11_closeEdition_24 (by decide) ?_
  refine lv_iload_n hx hb dX11_closeEdition_2 rfl (lv_at hl 0 rfl) ?_
  refine lv_bipush (v := 12) hx hb dX11_closeEdition_3 (by decide) ?_
  refine lv_icmp_ge (tgt := 27) hx hb dX11_closeEdition_5 (by decide) (fun c_15 => absurd c_15 (by decide)) (fun c_15 => ?_)
  refine lv_aload_n hx hb dX11_closeEdition_8 rfl (lv_at hl 1 rfl) ?_
  refine lv_iload_n hx hb dX11_closeEdition_9 rfl (lv_at hl 0 rfl) ?_
  have hPc := hP.sub (ws' := [(h0, .inr (10, [.ref pg, .ref pl, .ref it, .int 0, .ref ac, .int 0, .ref rv, .int 0, .int 0])), (pl, .inl (cS, 12, .inr (.inr (.inr (.inr (fun _ => none))))))]) [0, 1] rfl
  have hKc := hK.sub (tys' := [(cS, .object "PageOne$Sheet")]) [0] rfl
  refine vp_callSi (va_runV (As := [.int 7]) (rest := []) ⟨hx, hb, hml, hown, hts⟩ (x_isFresh0 l dC dI h0 pg pl it ac rv cS 7) (cwV 1 hts gX11_closeEdition_X11_isFresh rfl rfl rfl (by decide +kernel) ⟨Nat.le_of_ble_eq_true rfl, Nat.le_of_ble_eq_true rfl⟩) ⟨pw_fb, va_recv hKc hPc (ci := 10) (q0 := 0) rfl rfl, fun U hU hW => ⟨rfl, pw_to hU hW hPc hKc hN⟩⟩ rfl rfl hl.1 rfl (lv_room (Nat.le_of_ble_eq_true rfl)) dX11_closeEdition_10 ⟨Nat.le_of_ble_eq_true rfl, Nat.le_of_ble_eq_true rfl⟩).run (fun r hw => ?_)
  obtain rfl : r = 0 := hw
  refine lv_if_eq (tgt := 21) hx hb dX11_closeEdition_13 (by decide) (fun c_16 => ?_) (fun c_16 => absurd (by decide) c_16)
  refine lv_iinc (v := 8) (lv' := [(1, .int 8), (0, .ref h0)]) hx hb dX11_closeEdition_21 hl (k := 0) rfl (by decide) (by decide) rfl (fun ls hl => ?_)
  refine lv_goto (tgt := 2) hx hb dX11_closeEdition_24 (by decide) ?_
  refine lv_iload_n hx hb dX11_closeEdition_2 rfl (lv_at hl 0 rfl) ?_
  refine lv_bipush (v := 12) hx hb dX11_closeEdition_3 (by decide) ?_
  refine lv_icmp_ge (tgt := 27) hx hb dX11_closeEdition_5 (by decide) (fun c_17 => absurd c_17 (by decide)) (fun c_17 => ?_)
  refine lv_aload_n hx hb dX11_closeEdition_8 rfl (lv_at hl 1 rfl) ?_
  refine lv_iload_n hx hb dX11_closeEdition_9 rfl (lv_at hl 0 rfl) ?_
  have hPc := hP.sub (ws' := [(h0, .inr (10, [.ref pg, .ref pl, .ref it, .int 0, .ref ac, .int 0, .ref rv, .int 0, .int 0])), (pl, .inl (cS, 12, .inr (.inr (.inr (.inr (fun _ => none))))))]) [0, 1] rfl
  have hKc := hK.sub (tys' := [(cS, .object "PageOne$Sheet")]) [0] rfl
  refine vp_callSi (va_runV (As := [.int 8]) (rest := []) ⟨hx, hb, hml, hown, hts⟩ (x_isFresh0 l dC dI h0 pg pl it ac rv cS 8) (cwV 1 hts gX11_closeEdition_X11_isFresh rfl rfl rfl (by decide +kernel) ⟨Nat.le_of_ble_eq_true rfl, Nat.le_of_ble_eq_true rfl⟩) ⟨pw_fb, va_recv hKc hPc (ci := 10) (q0 := 0) rfl rfl, fun U hU hW => ⟨rfl, pw_to hU hW hPc hKc hN⟩⟩ rfl rfl hl.1 rfl (lv_room (Nat.le_of_ble_eq_true rfl)) dX11_closeEdition_10 ⟨Nat.le_of_ble_eq_true rfl, Nat.le_of_ble_eq_true rfl⟩).run (fun r hw => ?_)
  obtain rfl : r = 0 := hw
  refine lv_if_eq (tgt := 21) hx hb dX11_closeEdition_13 (by decide) (fun c_18 => ?_) (fun c_18 => absurd (by decide) c_18)
  refine lv_iinc (v := 9) (lv' := [(1, .int 9), (0, .ref h0)]) hx hb dX11_closeEdition_21 hl (k := 0) rfl (by decide) (by decide) rfl (fun ls hl => ?_)
  refine lv_goto (tgt := 2) hx hb dX11_closeEdition_24 (by decide) ?_
  refine lv_iload_n hx hb dX11_closeEdition_2 rfl (lv_at hl 0 rfl) ?_
  refine lv_bipush (v := 12) hx hb dX11_closeEdition_3 (by decide) ?_
  refine lv_icmp_ge (tgt := 27) hx hb dX11_closeEdition_5 (by decide) (fun c_19 => absurd c_19 (by decide)) (fun c_19 => ?_)
  refine lv_aload_n hx hb dX11_closeEdition_8 rfl (lv_at hl 1 rfl) ?_
  refine lv_iload_n hx hb dX11_closeEdition_9 rfl (lv_at hl 0 rfl) ?_
  have hPc := hP.sub (ws' := [(h0, .inr (10, [.ref pg, .ref pl, .ref it, .int 0, .ref ac, .int 0, .ref rv, .int 0, .int 0])), (pl, .inl (cS, 12, .inr (.inr (.inr (.inr (fun _ => none))))))]) [0, 1] rfl
  have hKc := hK.sub (tys' := [(cS, .object "PageOne$Sheet")]) [0] rfl
  refine vp_callSi (va_runV (As := [.int 9]) (rest := []) ⟨hx, hb, hml, hown, hts⟩ (x_isFresh0 l dC dI h0 pg pl it ac rv cS 9) (cwV 1 hts gX11_closeEdition_X11_isFresh rfl rfl rfl (by decide +kernel) ⟨Nat.le_of_ble_eq_true rfl, Nat.le_of_ble_eq_true rfl⟩) ⟨pw_fb, va_recv hKc hPc (ci := 10) (q0 := 0) rfl rfl, fun U hU hW => ⟨rfl, pw_to hU hW hPc hKc hN⟩⟩ rfl rfl hl.1 rfl (lv_room (Nat.le_of_ble_eq_true rfl)) dX11_closeEdition_10 ⟨Nat.le_of_ble_eq_true rfl, Nat.le_of_ble_eq_true rfl⟩).run (fun r hw => ?_)
  obtain rfl : r = 0 := hw
  refine lv_if_eq (tgt := 21) hx hb dX11_closeEdition_13 (by decide) (fun c_20 => ?_) (fun c_20 => absurd (by decide) c_20)
  refine lv_iinc (v := 10) (lv' := [(1, .int 10), (0, .ref h0)]) hx hb dX11_closeEdition_21 hl (k := 0) rfl (by decide) (by decide) rfl (fun ls hl => ?_)
  refine lv_goto (tgt := 2) hx hb dX11_closeEdition_24 (by decide) ?_
  refine lv_iload_n hx hb dX11_closeEdition_2 rfl (lv_at hl 0 rfl) ?_
  refine lv_bipush (v := 12) hx hb dX11_closeEdition_3 (by decide) ?_
  refine lv_icmp_ge (tgt := 27) hx hb dX11_closeEdition_5 (by decide) (fun c_21 => absurd c_21 (by decide)) (fun c_21 => ?_)
  refine lv_aload_n hx hb dX11_closeEdition_8 rfl (lv_at hl 1 rfl) ?_
  refine lv_iload_n hx hb dX11_closeEdition_9 rfl (lv_at hl 0 rfl) ?_
  have hPc := hP.sub (ws' := [(h0, .inr (10, [.ref pg, .ref pl, .ref it, .int 0, .ref ac, .int 0, .ref rv, .int 0, .int 0])), (pl, .inl (cS, 12, .inr (.inr (.inr (.inr (fun _ => none))))))]) [0, 1] rfl
  have hKc := hK.sub (tys' := [(cS, .object "PageOne$Sheet")]) [0] rfl
  refine vp_callSi (va_runV (As := [.int 10]) (rest := []) ⟨hx, hb, hml, hown, hts⟩ (x_isFresh0 l dC dI h0 pg pl it ac rv cS 10) (cwV 1 hts gX11_closeEdition_X11_isFresh rfl rfl rfl (by decide +kernel) ⟨Nat.le_of_ble_eq_true rfl, Nat.le_of_ble_eq_true rfl⟩) ⟨pw_fb, va_recv hKc hPc (ci := 10) (q0 := 0) rfl rfl, fun U hU hW => ⟨rfl, pw_to hU hW hPc hKc hN⟩⟩ rfl rfl hl.1 rfl (lv_room (Nat.le_of_ble_eq_true rfl)) dX11_closeEdition_10 ⟨Nat.le_of_ble_eq_true rfl, Nat.le_of_ble_eq_true rfl⟩).run (fun r hw => ?_)
  obtain rfl : r = 0 := hw
  refine lv_if_eq (tgt := 21) hx hb dX11_closeEdition_13 (by decide) (fun c_22 => ?_) (fun c_22 => absurd (by decide) c_22)
  refine lv_iinc (v := 11) (lv' := [(1, .int 11), (0, .ref h0)]) hx hb dX11_closeEdition_21 hl (k := 0) rfl (by decide) (by decide) rfl (fun ls hl => ?_)
  refine lv_goto (tgt := 2) hx hb dX11_closeEdition_24 (by decide) ?_
  refine lv_iload_n hx hb dX11_closeEdition_2 rfl (lv_at hl 0 rfl) ?_
  refine lv_bipush (v := 12) hx hb dX11_closeEdition_3 (by decide) ?_
  refine lv_icmp_ge (tgt := 27) hx hb dX11_closeEdition_5 (by decide) (fun c_23 => absurd c_23 (by decide)) (fun c_23 => ?_)
  refine lv_aload_n hx hb dX11_closeEdition_8 rfl (lv_at hl 1 rfl) ?_
  refine lv_iload_n hx hb dX11_closeEdition_9 rfl (lv_at hl 0 rfl) ?_
  have hPc := hP.sub (ws' := [(h0, .inr (10, [.ref pg, .ref pl, .ref it, .int 0, .ref ac, .int 0, .ref rv, .int 0, .int 0])), (pl, .inl (cS, 12, .inr (.inr (.inr (.inr (fun _ => none))))))]) [0, 1] rfl
  have hKc := hK.sub (tys' := [(cS, .object "PageOne$Sheet")]) [0] rfl
  refine vp_callSi (va_runV (As := [.int 11]) (rest := []) ⟨hx, hb, hml, hown, hts⟩ (x_isFresh0 l dC dI h0 pg pl it ac rv cS 11) (cwV 1 hts gX11_closeEdition_X11_isFresh rfl rfl rfl (by decide +kernel) ⟨Nat.le_of_ble_eq_true rfl, Nat.le_of_ble_eq_true rfl⟩) ⟨pw_fb, va_recv hKc hPc (ci := 10) (q0 := 0) rfl rfl, fun U hU hW => ⟨rfl, pw_to hU hW hPc hKc hN⟩⟩ rfl rfl hl.1 rfl (lv_room (Nat.le_of_ble_eq_true rfl)) dX11_closeEdition_10 ⟨Nat.le_of_ble_eq_true rfl, Nat.le_of_ble_eq_true rfl⟩).run (fun r hw => ?_)
  obtain rfl : r = 0 := hw
  refine lv_if_eq (tgt := 21) hx hb dX11_closeEdition_13 (by decide) (fun c_24 => ?_) (fun c_24 => absurd (by decide) c_24)
  refine lv_iinc (v := 12) (lv' := [(1, .int 12), (0, .ref h0)]) hx hb dX11_closeEdition_21 hl (k := 0) rfl (by decide) (by decide) rfl (fun ls hl => ?_)
  refine lv_goto (tgt := 2) hx hb dX11_closeEdition_24 (by decide) ?_
  refine lv_iload_n hx hb dX11_closeEdition_2 rfl (lv_at hl 0 rfl) ?_
  refine lv_bipush (v := 12) hx hb dX11_closeEdition_3 (by decide) ?_
  refine lv_icmp_ge (tgt := 27) hx hb dX11_closeEdition_5 (by decide) (fun c_25 => ?_) (fun c_25 => absurd (by decide) c_25)
  exact W.vret hx hb hr (fun t ht hW => ⟨rfl, trivial, ht⟩) (fun q h => absurd h List.not_mem_nil) dX11_closeEdition_27
set_option maxHeartbeats 4000000 in
set_option maxRecDepth 100000 in
theorem x_leastPair0 (l : Launch) (dC : Nat → ClassId) (dI : Nat → Nat → Nat) (h0 pg pl it ac rv : Nat) (p0 p1 : Int32) : Met l yX11_leastPair wsX11_leastPair ({ frames := 0, cells := 0, slots := 0, locals := 0 }) (va_Pc [.ref h0, .int p0, .int p1] (PW dC dI [(h0, .inr (10, [.ref pg, .ref pl, .ref it, .int 0, .ref ac, .int 0, .ref rv, .int 0, .int 0]))] [])) (va_Sq (fun r => r = none)) 0 0 (fun _ => False) := by
  refine Met.ofW (cc := cX11_leastPair) (maxL := 5) (ret := (some (.object "PageOne$Breach"))) (by decide) rfl ?_
  intro p e s m args below meth c s₁ B hml hv
  obtain ⟨rfl, hP, hK, hN⟩ := hv
  have hx := B.exec
  have hb := B.bytes
  have hr := B.returns
  have hts := atoms_spec (ws := wsX11_leastPair) B.pre
  have hown : s.vm.findClass RX11 = some m.cls := findClass_of_methodNamed B.named
  have hlocks := B.notSynchronized
  have hl := lv_entry ([.ref h0, .int p0, .int p1]) (n := 5) (Nat.le_of_ble_eq_true rfl)
  rw [lg_entry_eq]
  generalize (lg_sl ([.ref h0, .int p0, .int p1]) ++ List.replicate (5 - (lg_sl ([.ref h0, .int p0, .int p1])).length) Slot.unset).toArray = ls at hl ⊢
  have hl : lv_has ls 5 [(0, .ref h0), (1, .int p0), (2, .int p1)] := hl
  refine lv_iconst (v := 0) hx hb dX11_leastPair_0 (by decide) ?_
  refine lv_istore_n (lv' := [(3, .int 0), (0, .ref h0), (1, .int p0), (2, .int p1)]) hx hb dX11_leastPair_1 rfl hl (by decide) rfl (fun ls hl => ?_)
  refine lv_iload_n hx hb dX11_leastPair_2 rfl (lv_at hl 0 rfl) ?_
  refine lv_aload_n hx hb dX11_leastPair_3 rfl (lv_at hl 1 rfl) ?_
  refine va_get (D := (dC, dI)) (ci := 10) (v := .int 0) (C := RX11) (T := TX11) (N := 9) hx hb hts (by decide +kernel) hown hK hP 0 rfl rfl 3 (by decide) (hts (.fieldLink RX11 24 "PageOne" "itemCount" "I") (by decide +kernel)) (fun _ h9 => h9) rfl dX11_leastPair_4 ?_
  refine lv_icmp_ge (tgt := 115) hx hb dX11_leastPair_7 (by decide) (fun c_1 => ?_) (fun c_1 => absurd (by decide) c_1)
  refine lv_null hx hb dX11_leastPair_115 ?_
  exact W.aret (v := .null) hx hb hr (Or.inl ⟨_, rfl⟩) (Or.inl rfl) (fun t ht hW => ⟨none, rfl, rfl, ht⟩) (fun q h => absurd h List.not_mem_nil) dX11_leastPair_116
set_option maxHeartbeats 4000000 in
set_option maxRecDepth 100000 in
theorem x_at0 (l : Launch) (dC : Nat → ClassId) (dI : Nat → Nat → Nat) (h0 ln ce : Nat) (cI : ClassId) (p0 p1 : Int32) : Met l yX9_at wsX9_at ({ frames := 2, cells := 0, slots := 0, locals := 42 }) (va_Pc [.ref h0, .int p0, .int p1] (PW dC dI [(h0, .inr (8, [.ref ln, .ref ce, .int 100, .int (-1), .int (-1)])), (ln, .inl (cI, 8, .inl (fun _ => 0)))] [(cI, .int)])) (vp_Si (fun r => r = (-1))) 0 0 (fun _ => False) := by
  refine Met.ofW (cc := cX9_at) (maxL := 3) (ret := (some .int)) (by decide) rfl ?_
  intro p e s m args below meth c s₁ B hml hv
  obtain ⟨rfl, hP, hK, hN⟩ := hv
  have hx := B.exec
  have hb := B.bytes
  have hr := B.returns
  have hts := atoms_spec (ws := wsX9_at) B.pre
  have hown : s.vm.findClass RX9 = some m.cls := findClass_of_methodNamed B.named
  have hlocks := B.notSynchronized
  have hl := lv_entry ([.ref h0, .int p0, .int p1]) (n := 3) (Nat.le_of_ble_eq_true rfl)
  rw [lg_entry_eq]
  generalize (lg_sl ([.ref h0, .int p0, .int p1]) ++ List.replicate (3 - (lg_sl ([.ref h0, .int p0, .int p1])).length) Slot.unset).toArray = ls at hl ⊢
  have hl : lv_has ls 3 [(0, .ref h0), (1, .int p0), (2, .int p1)] := hl
  refine lv_iload_n hx hb dX9_at_0 rfl (lv_at hl 1 rfl) ?_
  have hPc := hP.sub (ws' := []) [] rfl
  have hKc := hK.sub (tys' := []) [] rfl
  refine vp_callSi (va_runSN (As := [.int p0]) (rest := []) ⟨hx, hb, hml, hown, hts⟩ (x_isColumn l dC dI p0) ⟨va_cnB (host := "PageOne") 1 hts gX9_at_X11_isColumn_n34 rfl rfl rfl hN.n_RX9_34 (hts (.initialized RX11) (by decide +kernel)) (by decide +kernel) ⟨Nat.le_of_ble_eq_true rfl, Nat.le_of_ble_eq_true rfl⟩, hts (.static yX11_isColumn) (by decide +kernel), trivial⟩ ⟨pw_fb, fun U hU hW => ⟨rfl, pw_to hU hW hPc hKc hN⟩⟩ rfl rfl hl.1 rfl (lv_room (Nat.le_of_ble_eq_true rfl)) dX9_at_1 ⟨Nat.le_of_ble_eq_true rfl, Nat.le_of_ble_eq_true rfl⟩).run (fun r hw => ?_)
  rcases Bool.eq_false_or_eq_true (bw p0 0 7) with b_1 | b_1
  ·
    obtain rfl : r = 1 := b_t hw b_1
    refine lv_if_eq (tgt := 23) hx hb dX9_at_4 (by decide) (fun c_2 => absurd c_2 (by decide)) (fun c_2 => ?_)
    refine lv_iload_n hx hb dX9_at_7 rfl (lv_at hl 2 rfl) ?_
    refine lv_iconst (v := 0) hx hb dX9_at_8 (by decide) ?_
    refine lv_aload_n hx hb dX9_at_9 rfl (lv_at hl 0 rfl) ?_
    refine va_get (D := (dC, dI)) (ci := 8) (v := .ref ln) (C := RX9) (T := TX9) (N := 5) hx hb hts (by decide +kernel) hown hK hP 0 rfl rfl 0 (by decide) (hts (.fieldLink RX9 9 "PageOne$Sheet" "lines" "[I") (by decide +kernel)) (fun _ h9 => h9) rfl dX9_at_10 ?_
    refine lv_iload_n hx hb dX9_at_13 rfl (lv_at hl 1 rfl) ?_
    refine va_iald hx hb hK hP 1 0 rfl rfl (vin b_1 (by decide)) dX9_at_14 ?_
    refine lv_topi (fun k_3 ek_3 => ?_)
    obtain rfl : k_3 = 0 := ek_3
    refine lv_iconst (v := 1) hx hb dX9_at_15 (by decide) ?_
    refine lv_isub hx hb dX9_at_16 ?_
    refine lv_topi (fun k_4 ek_4 => ?_)
    obtain rfl : k_4 = (-1) := ek_4.trans (by decide)
    have hPc := hP.sub (ws' := []) [] rfl
    have hKc := hK.sub (tys' := []) [] rfl
    refine vp_callSi (va_runSN (As := [.int p1, .int 0, .int (-1)]) (rest := []) ⟨hx, hb, hml, hown, hts⟩ (x_isWithin l dC dI p1 0 (-1)) ⟨va_cnB (host := "PageOne") 3 hts gX9_at_X11_isWithin_n38 rfl rfl rfl hN.n_RX9_38 (hts (.initialized RX11) (by decide +kernel)) (by decide +kernel) ⟨Nat.le_of_ble_eq_true rfl, Nat.le_of_ble_eq_true rfl⟩, hts (.static yX11_isWithin) (by decide +kernel), trivial⟩ ⟨pw_fb, fun U hU hW => ⟨rfl, pw_to hU hW hPc hKc hN⟩⟩ rfl rfl hl.1 rfl (lv_room (Nat.le_of_ble_eq_true rfl)) dX9_at_17 ⟨Nat.le_of_ble_eq_true rfl, Nat.le_of_ble_eq_true rfl⟩).run (fun r hw => ?_)
    obtain rfl : r = 0 := b_f hw (bw_none _)
    refine lv_if_ne (tgt := 25) hx hb dX9_at_20 (by decide) (fun c_5 => absurd (by decide) c_5) (fun c_5 => ?_)
    refine lv_iconst (v := (-1)) hx hb dX9_at_23 (by decide) ?_
    exact W.iret (v := (-1)) hx hb hr (fun t ht hW => ⟨_, rfl, rfl, ht⟩) (fun q h => absurd h List.not_mem_nil) dX9_at_24
  ·
    obtain rfl : r = 0 := b_f hw b_1
    refine lv_if_eq (tgt := 23) hx hb dX9_at_4 (by decide) (fun c_6 => ?_) (fun c_6 => absurd (by decide) c_6)
    refine lv_iconst (v := (-1)) hx hb dX9_at_23 (by decide) ?_
    exact W.iret (v := (-1)) hx hb hr (fun t ht hW => ⟨_, rfl, rfl, ht⟩) (fun q h => absurd h List.not_mem_nil) dX9_at_24
set_option maxHeartbeats 4000000 in
set_option maxRecDepth 100000 in
theorem x_emptyIn0 (l : Launch) (dC : Nat → ClassId) (dI : Nat → Nat → Nat) (h0 ln ce : Nat) (cI : ClassId) (p0 : Int32) (hp : bw p0 0 7 = true) : Met l yX9_emptyIn wsX9_emptyIn ({ frames := 0, cells := 0, slots := 0, locals := 0 }) (va_Pc [.ref h0, .int p0] (PW dC dI [(h0, .inr (8, [.ref ln, .ref ce, .int 100, .int (-1), .int (-1)])), (ln, .inl (cI, 8, .inl (fun _ => 0)))] [(cI, .int)])) (vp_Si (fun r => r = 0)) 0 0 (fun _ => False) := by
  refine Met.ofW (cc := cX9_emptyIn) (maxL := 4) (ret := (some .int)) (by decide) rfl ?_
  intro p e s m args below meth c s₁ B hml hv
  obtain ⟨rfl, hP, hK, hN⟩ := hv
  have hx := B.exec
  have hb := B.bytes
  have hr := B.returns
  have hts := atoms_spec (ws := wsX9_emptyIn) B.pre
  have hown : s.vm.findClass RX9 = some m.cls := findClass_of_methodNamed B.named
  have hlocks := B.notSynchronized
  have hl := lv_entry ([.ref h0, .int p0]) (n := 4) (Nat.le_of_ble_eq_true rfl)
  rw [lg_entry_eq]
  generalize (lg_sl ([.ref h0, .int p0]) ++ List.replicate (4 - (lg_sl ([.ref h0, .int p0])).length) Slot.unset).toArray = ls at hl ⊢
  have hl : lv_has ls 4 [(0, .ref h0), (1, .int p0)] := hl
  refine lv_iconst (v := 0) hx hb dX9_emptyIn_0 (by decide) ?_
  refine lv_istore_n (lv' := [(2, .int 0), (0, .ref h0), (1, .int p0)]) hx hb dX9_emptyIn_1 rfl hl (by decide) rfl (fun ls hl => ?_)
  refine lv_iconst (v := 0) hx hb dX9_emptyIn_2 (by decide) ?_
  refine lv_istore_n (lv' := [(3, .int 0), (2, .int 0), (0, .ref h0), (1, .int p0)]) hx hb dX9_emptyIn_3 rfl hl (by decide) rfl (fun ls hl => ?_)
  refine lv_iload_n hx hb dX9_emptyIn_4 rfl (lv_at hl 0 rfl) ?_
  refine lv_aload_n hx hb dX9_emptyIn_5 rfl (lv_at hl 2 rfl) ?_
  refine va_get (D := (dC, dI)) (ci := 8) (v := .ref ln) (C := RX9) (T := TX9) (N := 5) hx hb hts (by decide +kernel) hown hK hP 0 rfl rfl 0 (by decide) (hts (.fieldLink RX9 9 "PageOne$Sheet" "lines" "[I") (by decide +kernel)) (fun _ h9 => h9) rfl dX9_emptyIn_6 ?_
  refine lv_iload_n hx hb dX9_emptyIn_9 rfl (lv_at hl 3 rfl) ?_
  refine va_iald hx hb hK hP 1 0 rfl rfl (vin hp (by decide)) dX9_emptyIn_10 ?_
  refine lv_topi (fun k_1 ek_1 => ?_)
  obtain rfl : k_1 = 0 := ek_1
  refine lv_icmp_ge (tgt := 34) hx hb dX9_emptyIn_11 (by decide) (fun c_2 => ?_) (fun c_2 => absurd (by decide) c_2)
  refine lv_iload_n hx hb dX9_emptyIn_34 rfl (lv_at hl 1 rfl) ?_
  exact W.iret (v := 0) hx hb hr (fun t ht hW => ⟨_, rfl, rfl, ht⟩) (fun q h => absurd h List.not_mem_nil) dX9_emptyIn_35
set_option maxHeartbeats 4000000 in
set_option maxRecDepth 100000 in
theorem x_cellCount0 (l : Launch) (dC : Nat → ClassId) (dI : Nat → Nat → Nat) (h0 ln ce : Nat) (cI : ClassId) : Met l yX9_cellCount wsX9_cellCount ({ frames := 0, cells := 0, slots := 0, locals := 0 }) (va_Pc [.ref h0] (PW dC dI [(h0, .inr (8, [.ref ln, .ref ce, .int 100, .int (-1), .int (-1)])), (ln, .inl (cI, 8, .inl (fun _ => 0)))] [(cI, .int)])) (vp_Si (fun r => r = 0)) 0 0 (fun _ => False) := by
  refine Met.ofW (cc := cX9_cellCount) (maxL := 3) (ret := (some .int)) (by decide) rfl ?_
  intro p e s m args below meth c s₁ B hml hv
  obtain ⟨rfl, hP, hK, hN⟩ := hv
  have hx := B.exec
  have hb := B.bytes
  have hr := B.returns
  have hts := atoms_spec (ws := wsX9_cellCount) B.pre
  have hown : s.vm.findClass RX9 = some m.cls := findClass_of_methodNamed B.named
  have hlocks := B.notSynchronized
  have hl := lv_entry ([.ref h0]) (n := 3) (Nat.le_of_ble_eq_true rfl)
  rw [lg_entry_eq]
  generalize (lg_sl ([.ref h0]) ++ List.replicate (3 - (lg_sl ([.ref h0])).length) Slot.unset).toArray = ls at hl ⊢
  have hl : lv_has ls 3 [(0, .ref h0)] := hl
  refine lv_iconst (v := 0) hx hb dX9_cellCount_0 (by decide) ?_
  refine lv_istore_n (lv' := [(1, .int 0), (0, .ref h0)]) hx hb dX9_cellCount_1 rfl hl (by decide) rfl (fun ls hl => ?_)
  refine lv_iconst (v := 0) hx hb dX9_cellCount_2 (by decide) ?_
  refine lv_istore_n (lv' := [(2, .int 0), (1, .int 0), (0, .ref h0)]) hx hb dX9_cellCount_3 rfl hl (by decide) rfl (fun ls hl => ?_)
  refine lv_iload_n hx hb dX9_cellCount_4 rfl (lv_at hl 0 rfl) ?_
  refine lv_bipush (v := 8) hx hb dX9_cellCount_5 (by decide) ?_
  refine lv_icmp_ge (tgt := 25) hx hb dX9_cellCount_7 (by decide) (fun c_1 => absurd c_1 (by decide)) (fun c_1 => ?_)
  refine lv_iload_n hx hb dX9_cellCount_10 rfl (lv_at hl 1 rfl) ?_
  refine lv_aload_n hx hb dX9_cellCount_11 rfl (lv_at hl 2 rfl) ?_
  refine va_get (D := (dC, dI)) (ci := 8) (v := .ref ln) (C := RX9) (T := TX9) (N := 5) hx hb hts (by decide +kernel) hown hK hP 0 rfl rfl 0 (by decide) (hts (.fieldLink RX9 9 "PageOne$Sheet" "lines" "[I") (by decide +kernel)) (fun _ h9 => h9) rfl dX9_cellCount_12 ?_
  refine lv_iload_n hx hb dX9_cellCount_15 rfl (lv_at hl 0 rfl) ?_
  refine va_iald hx hb hK hP 1 0 rfl rfl (by unfold vp_in; decide) dX9_cellCount_16 ?_
  refine lv_topi (fun k_2 ek_2 => ?_)
  obtain rfl : k_2 = 0 := ek_2
  refine lv_iadd hx hb dX9_cellCount_17 ?_
  refine lv_topi (fun k_3 ek_3 => ?_)
  obtain rfl : k_3 = 0 := ek_3.trans (by decide)
  refine lv_istore_n (lv' := [(1, .int 0), (2, .int 0), (0, .ref h0)]) hx hb dX9_cellCount_18 rfl hl (by decide) rfl (fun ls hl => ?_)
  refine lv_iinc (v := 1) (lv' := [(2, .int 1), (1, .int 0), (0, .ref h0)]) hx hb dX9_cellCount_19 hl (k := 1) rfl (by decide) (by decide) rfl (fun ls hl => ?_)
  refine lv_goto (tgt := 4) hx hb dX9_cellCount_22 (by decide) ?_
  refine lv_iload_n hx hb dX9_cellCount_4 rfl (lv_at hl 0 rfl) ?_
  refine lv_bipush (v := 8) hx hb dX9_cellCount_5 (by decide) ?_
  refine lv_icmp_ge (tgt := 25) hx hb dX9_cellCount_7 (by decide) (fun c_4 => absurd c_4 (by decide)) (fun c_4 => ?_)
  refine lv_iload_n hx hb dX9_cellCount_10 rfl (lv_at hl 1 rfl) ?_
  refine lv_aload_n hx hb dX9_cellCount_11 rfl (lv_at hl 2 rfl) ?_
  refine va_get (D := (dC, dI)) (ci := 8) (v := .ref ln) (C := RX9) (T := TX9) (N := 5) hx hb hts (by decide +kernel) hown hK hP 0 rfl rfl 0 (by decide) (hts (.fieldLink RX9 9 "PageOne$Sheet" "lines" "[I") (by decide +kernel)) (fun _ h9 => h9) rfl dX9_cellCount_12 ?_
  refine lv_iload_n hx hb dX9_cellCount_15 rfl (lv_at hl 0 rfl) ?_
  refine va_iald hx hb hK hP 1 0 rfl rfl (by unfold vp_in; decide) dX9_cellCount_16 ?_
  refine lv_topi (fun k_5 ek_5 => ?_)
  obtain rfl : k_5 = 0 := ek_5
  refine lv_iadd hx hb dX9_cellCount_17 ?_
  refine lv_topi (fun k_6 ek_6 => ?_)
  obtain rfl : k_6 = 0 := ek_6.trans (by decide)
  refine lv_istore_n (lv' := [(1, .int 0), (2, .int 1), (0, .ref h0)]) hx hb dX9_cellCount_18 rfl hl (by decide) rfl (fun ls hl => ?_)
  refine lv_iinc (v := 2) (lv' := [(2, .int 2), (1, .int 0), (0, .ref h0)]) hx hb dX9_cellCount_19 hl (k := 1) rfl (by decide) (by decide) rfl (fun ls hl => ?_)
  refine lv_goto (tgt := 4) hx hb dX9_cellCount_22 (by decide) ?_
  refine lv_iload_n hx hb dX9_cellCount_4 rfl (lv_at hl 0 rfl) ?_
  refine lv_bipush (v := 8) hx hb dX9_cellCount_5 (by decide) ?_
  refine lv_icmp_ge (tgt := 25) hx hb dX9_cellCount_7 (by decide) (fun c_7 => absurd c_7 (by decide)) (fun c_7 => ?_)
  refine lv_iload_n hx hb dX9_cellCount_10 rfl (lv_at hl 1 rfl) ?_
  refine lv_aload_n hx hb dX9_cellCount_11 rfl (lv_at hl 2 rfl) ?_
  refine va_get (D := (dC, dI)) (ci := 8) (v := .ref ln) (C := RX9) (T := TX9) (N := 5) hx hb hts (by decide +kernel) hown hK hP 0 rfl rfl 0 (by decide) (hts (.fieldLink RX9 9 "PageOne$Sheet" "lines" "[I") (by decide +kernel)) (fun _ h9 => h9) rfl dX9_cellCount_12 ?_
  refine lv_iload_n hx hb dX9_cellCount_15 rfl (lv_at hl 0 rfl) ?_
  refine va_iald hx hb hK hP 1 0 rfl rfl (by unfold vp_in; decide) dX9_cellCount_16 ?_
  refine lv_topi (fun k_8 ek_8 => ?_)
  obtain rfl : k_8 = 0 := ek_8
  refine lv_iadd hx hb dX9_cellCount_17 ?_
  refine lv_topi (fun k_9 ek_9 => ?_)
  obtain rfl : k_9 = 0 := ek_9.trans (by decide)
  refine lv_istore_n (lv' := [(1, .int 0), (2, .int 2), (0, .ref h0)]) hx hb dX9_cellCount_18 rfl hl (by decide) rfl (fun ls hl => ?_)
  refine lv_iinc (v := 3) (lv' := [(2, .int 3), (1, .int 0), (0, .ref h0)]) hx hb dX9_cellCount_19 hl (k := 1) rfl (by decide) (by decide) rfl (fun ls hl => ?_)
  refine lv_goto (tgt := 4) hx hb dX9_cellCount_22 (by decide) ?_
  refine lv_iload_n hx hb dX9_cellCount_4 rfl (lv_at hl 0 rfl) ?_
  refine lv_bipush (v := 8) hx hb dX9_cellCount_5 (by decide) ?_
  refine lv_icmp_ge (tgt := 25) hx hb dX9_cellCount_7 (by decide) (fun c_10 => absurd c_10 (by decide)) (fun c_10 => ?_)
  refine lv_iload_n hx hb dX9_cellCount_10 rfl (lv_at hl 1 rfl) ?_
  refine lv_aload_n hx hb dX9_cellCount_11 rfl (lv_at hl 2 rfl) ?_
  refine va_get (D := (dC, dI)) (ci := 8) (v := .ref ln) (C := RX9) (T := TX9) (N := 5) hx hb hts (by decide +kernel) hown hK hP 0 rfl rfl 0 (by decide) (hts (.fieldLink RX9 9 "PageOne$Sheet" "lines" "[I") (by decide +kernel)) (fun _ h9 => h9) rfl dX9_cellCount_12 ?_
  refine lv_iload_n hx hb dX9_cellCount_15 rfl (lv_at hl 0 rfl) ?_
  refine va_iald hx hb hK hP 1 0 rfl rfl (by unfold vp_in; decide) dX9_cellCount_16 ?_
  refine lv_topi (fun k_11 ek_11 => ?_)
  obtain rfl : k_11 = 0 := ek_11
  refine lv_iadd hx hb dX9_cellCount_17 ?_
  refine lv_topi (fun k_12 ek_12 => ?_)
  obtain rfl : k_12 = 0 := ek_12.trans (by decide)
  refine lv_istore_n (lv' := [(1, .int 0), (2, .int 3), (0, .ref h0)]) hx hb dX9_cellCount_18 rfl hl (by decide) rfl (fun ls hl => ?_)
  refine lv_iinc (v := 4) (lv' := [(2, .int 4), (1, .int 0), (0, .ref h0)]) hx hb dX9_cellCount_19 hl (k := 1) rfl (by decide) (by decide) rfl (fun ls hl => ?_)
  refine lv_goto (tgt := 4) hx hb dX9_cellCount_22 (by decide) ?_
  refine lv_iload_n hx hb dX9_cellCount_4 rfl (lv_at hl 0 rfl) ?_
  refine lv_bipush (v := 8) hx hb dX9_cellCount_5 (by decide) ?_
  refine lv_icmp_ge (tgt := 25) hx hb dX9_cellCount_7 (by decide) (fun c_13 => absurd c_13 (by decide)) (fun c_13 => ?_)
  refine lv_iload_n hx hb dX9_cellCount_10 rfl (lv_at hl 1 rfl) ?_
  refine lv_aload_n hx hb dX9_cellCount_11 rfl (lv_at hl 2 rfl) ?_
  refine va_get (D := (dC, dI)) (ci := 8) (v := .ref ln) (C := RX9) (T := TX9) (N := 5) hx hb hts (by decide +kernel) hown hK hP 0 rfl rfl 0 (by decide) (hts (.fieldLink RX9 9 "PageOne$Sheet" "lines" "[I") (by decide +kernel)) (fun _ h9 => h9) rfl dX9_cellCount_12 ?_
  refine lv_iload_n hx hb dX9_cellCount_15 rfl (lv_at hl 0 rfl) ?_
  refine va_iald hx hb hK hP 1 0 rfl rfl (by unfold vp_in; decide) dX9_cellCount_16 ?_
  refine lv_topi (fun k_14 ek_14 => ?_)
  obtain rfl : k_14 = 0 := ek_14
  refine lv_iadd hx hb dX9_cellCount_17 ?_
  refine lv_topi (fun k_15 ek_15 => ?_)
  obtain rfl : k_15 = 0 := ek_15.trans (by decide)
  refine lv_istore_n (lv' := [(1, .int 0), (2, .int 4), (0, .ref h0)]) hx hb dX9_cellCount_18 rfl hl (by decide) rfl (fun ls hl => ?_)
  refine lv_iinc (v := 5) (lv' := [(2, .int 5), (1, .int 0), (0, .ref h0)]) hx hb dX9_cellCount_19 hl (k := 1) rfl (by decide) (by decide) rfl (fun ls hl => ?_)
  refine lv_goto (tgt := 4) hx hb dX9_cellCount_22 (by decide) ?_
  refine lv_iload_n hx hb dX9_cellCount_4 rfl (lv_at hl 0 rfl) ?_
  refine lv_bipush (v := 8) hx hb dX9_cellCount_5 (by decide) ?_
  refine lv_icmp_ge (tgt := 25) hx hb dX9_cellCount_7 (by decide) (fun c_16 => absurd c_16 (by decide)) (fun c_16 => ?_)
  refine lv_iload_n hx hb dX9_cellCount_10 rfl (lv_at hl 1 rfl) ?_
  refine lv_aload_n hx hb dX9_cellCount_11 rfl (lv_at hl 2 rfl) ?_
  refine va_get (D := (dC, dI)) (ci := 8) (v := .ref ln) (C := RX9) (T := TX9) (N := 5) hx hb hts (by decide +kernel) hown hK hP 0 rfl rfl 0 (by decide) (hts (.fieldLink RX9 9 "PageOne$Sheet" "lines" "[I") (by decide +kernel)) (fun _ h9 => h9) rfl dX9_cellCount_12 ?_
  refine lv_iload_n hx hb dX9_cellCount_15 rfl (lv_at hl 0 rfl) ?_
  refine va_iald hx hb hK hP 1 0 rfl rfl (by unfold vp_in; decide) dX9_cellCount_16 ?_
  refine lv_topi (fun k_17 ek_17 => ?_)
  obtain rfl : k_17 = 0 := ek_17
  refine lv_iadd hx hb dX9_cellCount_17 ?_
  refine lv_topi (fun k_18 ek_18 => ?_)
  obtain rfl : k_18 = 0 := ek_18.trans (by decide)
  refine lv_istore_n (lv' := [(1, .int 0), (2, .int 5), (0, .ref h0)]) hx hb dX9_cellCount_18 rfl hl (by decide) rfl (fun ls hl => ?_)
  refine lv_iinc (v := 6) (lv' := [(2, .int 6), (1, .int 0), (0, .ref h0)]) hx hb dX9_cellCount_19 hl (k := 1) rfl (by decide) (by decide) rfl (fun ls hl => ?_)
  refine lv_goto (tgt := 4) hx hb dX9_cellCount_22 (by decide) ?_
  refine lv_iload_n hx hb dX9_cellCount_4 rfl (lv_at hl 0 rfl) ?_
  refine lv_bipush (v := 8) hx hb dX9_cellCount_5 (by decide) ?_
  refine lv_icmp_ge (tgt := 25) hx hb dX9_cellCount_7 (by decide) (fun c_19 => absurd c_19 (by decide)) (fun c_19 => ?_)
  refine lv_iload_n hx hb dX9_cellCount_10 rfl (lv_at hl 1 rfl) ?_
  refine lv_aload_n hx hb dX9_cellCount_11 rfl (lv_at hl 2 rfl) ?_
  refine va_get (D := (dC, dI)) (ci := 8) (v := .ref ln) (C := RX9) (T := TX9) (N := 5) hx hb hts (by decide +kernel) hown hK hP 0 rfl rfl 0 (by decide) (hts (.fieldLink RX9 9 "PageOne$Sheet" "lines" "[I") (by decide +kernel)) (fun _ h9 => h9) rfl dX9_cellCount_12 ?_
  refine lv_iload_n hx hb dX9_cellCount_15 rfl (lv_at hl 0 rfl) ?_
  refine va_iald hx hb hK hP 1 0 rfl rfl (by unfold vp_in; decide) dX9_cellCount_16 ?_
  refine lv_topi (fun k_20 ek_20 => ?_)
  obtain rfl : k_20 = 0 := ek_20
  refine lv_iadd hx hb dX9_cellCount_17 ?_
  refine lv_topi (fun k_21 ek_21 => ?_)
  obtain rfl : k_21 = 0 := ek_21.trans (by decide)
  refine lv_istore_n (lv' := [(1, .int 0), (2, .int 6), (0, .ref h0)]) hx hb dX9_cellCount_18 rfl hl (by decide) rfl (fun ls hl => ?_)
  refine lv_iinc (v := 7) (lv' := [(2, .int 7), (1, .int 0), (0, .ref h0)]) hx hb dX9_cellCount_19 hl (k := 1) rfl (by decide) (by decide) rfl (fun ls hl => ?_)
  refine lv_goto (tgt := 4) hx hb dX9_cellCount_22 (by decide) ?_
  refine lv_iload_n hx hb dX9_cellCount_4 rfl (lv_at hl 0 rfl) ?_
  refine lv_bipush (v := 8) hx hb dX9_cellCount_5 (by decide) ?_
  refine lv_icmp_ge (tgt := 25) hx hb dX9_cellCount_7 (by decide) (fun c_22 => absurd c_22 (by decide)) (fun c_22 => ?_)
  refine lv_iload_n hx hb dX9_cellCount_10 rfl (lv_at hl 1 rfl) ?_
  refine lv_aload_n hx hb dX9_cellCount_11 rfl (lv_at hl 2 rfl) ?_
  refine va_get (D := (dC, dI)) (ci := 8) (v := .ref ln) (C := RX9) (T := TX9) (N := 5) hx hb hts (by decide +kernel) hown hK hP 0 rfl rfl 0 (by decide) (hts (.fieldLink RX9 9 "PageOne$Sheet" "lines" "[I") (by decide +kernel)) (fun _ h9 => h9) rfl dX9_cellCount_12 ?_
  refine lv_iload_n hx hb dX9_cellCount_15 rfl (lv_at hl 0 rfl) ?_
  refine va_iald hx hb hK hP 1 0 rfl rfl (by unfold vp_in; decide) dX9_cellCount_16 ?_
  refine lv_topi (fun k_23 ek_23 => ?_)
  obtain rfl : k_23 = 0 := ek_23
  refine lv_iadd hx hb dX9_cellCount_17 ?_
  refine lv_topi (fun k_24 ek_24 => ?_)
  obtain rfl : k_24 = 0 := ek_24.trans (by decide)
  refine lv_istore_n (lv' := [(1, .int 0), (2, .int 7), (0, .ref h0)]) hx hb dX9_cellCount_18 rfl hl (by decide) rfl (fun ls hl => ?_)
  refine lv_iinc (v := 8) (lv' := [(2, .int 8), (1, .int 0), (0, .ref h0)]) hx hb dX9_cellCount_19 hl (k := 1) rfl (by decide) (by decide) rfl (fun ls hl => ?_)
  refine lv_goto (tgt := 4) hx hb dX9_cellCount_22 (by decide) ?_
  refine lv_iload_n hx hb dX9_cellCount_4 rfl (lv_at hl 0 rfl) ?_
  refine lv_bipush (v := 8) hx hb dX9_cellCount_5 (by decide) ?_
  refine lv_icmp_ge (tgt := 25) hx hb dX9_cellCount_7 (by decide) (fun c_25 => ?_) (fun c_25 => absurd (by decide) c_25)
  refine lv_iload_n hx hb dX9_cellCount_25 rfl (lv_at hl 1 rfl) ?_
  exact W.iret (v := 0) hx hb hr (fun t ht hW => ⟨_, rfl, rfl, ht⟩) (fun q h => absurd h List.not_mem_nil) dX9_cellCount_26
set_option maxHeartbeats 4000000 in
set_option maxRecDepth 100000 in
theorem x_isFree0 (l : Launch) (dC : Nat → ClassId) (dI : Nat → Nat → Nat) (h0 ln ce pc0 : Nat) (cI : ClassId) (p0 p1 p2 : Int32) : Met l yX9_isFree wsX9_isFree ({ frames := 3, cells := 0, slots := 0, locals := 64 }) (va_Pc [.ref h0, .ref pc0] (PW dC dI [(h0, .inr (8, [.ref ln, .ref ce, .int 100, .int (-1), .int (-1)])), (ln, .inl (cI, 8, .inl (fun _ => 0))), (pc0, .inr (7, [.null, .int p0, .int p1, .int p2, .int 1, .int 1]))] [(cI, .int)])) (vp_Si (fun r => r = 0)) 0 0 (fun _ => False) := by
  refine Met.ofW (cc := cX9_isFree) (maxL := 4) (ret := (some .boolean)) (by decide) rfl ?_
  intro p e s m args below meth c s₁ B hml hv
  obtain ⟨rfl, hP, hK, hN⟩ := hv
  have hx := B.exec
  have hb := B.bytes
  have hr := B.returns
  have hts := atoms_spec (ws := wsX9_isFree) B.pre
  have hown : s.vm.findClass RX9 = some m.cls := findClass_of_methodNamed B.named
  have hlocks := B.notSynchronized
  have hl := lv_entry ([.ref h0, .ref pc0]) (n := 4) (Nat.le_of_ble_eq_true rfl)
  rw [lg_entry_eq]
  generalize (lg_sl ([.ref h0, .ref pc0]) ++ List.replicate (4 - (lg_sl ([.ref h0, .ref pc0])).length) Slot.unset).toArray = ls at hl ⊢
  have hl : lv_has ls 4 [(0, .ref h0), (1, .ref pc0)] := hl
  refine lv_aload_n hx hb dX9_isFree_0 rfl (lv_at hl 1 rfl) ?_
  refine va_get (D := (dC, dI)) (ci := 7) (v := .int 1) (C := RX8) (T := TX8) (N := 6) hx hb hts (by decide +kernel) hown hK hP 2 rfl rfl 4 (by decide) (hts (.fieldLink RX9 42 "PageOne$Piece" "w" "I") (by decide +kernel)) (fun _ h9 => h9) rfl dX9_isFree_1 ?_
  refine lv_aload_n hx hb dX9_isFree_4 rfl (lv_at hl 1 rfl) ?_
  refine va_get (D := (dC, dI)) (ci := 7) (v := .int 1) (C := RX8) (T := TX8) (N := 6) hx hb hts (by decide +kernel) hown hK hP 2 rfl rfl 5 (by decide) (hts (.fieldLink RX9 47 "PageOne$Piece" "h" "I") (by decide +kernel)) (fun _ h9 => h9) rfl dX9_isFree_5 ?_
  have hPc := hP.sub (ws' := []) [] rfl
  have hKc := hK.sub (tys' := []) [] rfl
  refine vp_callSi (va_runSN (As := [.int 1, .int 1]) (rest := []) ⟨hx, hb, hml, hown, hts⟩ (x_isSquare l dC dI 1 1) ⟨va_cnB (host := "PageOne") 2 hts gX9_isFree_X11_isSquare_n50 rfl rfl rfl hN.n_RX9_50 (hts (.initialized RX11) (by decide +kernel)) (by decide +kernel) ⟨Nat.le_of_ble_eq_true rfl, Nat.le_of_ble_eq_true rfl⟩, hts (.static yX11_isSquare) (by decide +kernel), trivial⟩ ⟨pw_fb, fun U hU hW => ⟨rfl, pw_to hU hW hPc hKc hN⟩⟩ rfl rfl hl.1 rfl (lv_room (Nat.le_of_ble_eq_true rfl)) dX9_isFree_8 ⟨Nat.le_of_ble_eq_true rfl, Nat.le_of_ble_eq_true rfl⟩).run (fun r hw => ?_)
  obtain rfl : r = 1 := hw.trans (by decide)
  refine lv_if_eq (tgt := 42) hx hb dX9_isFree_11 (by decide) (fun c_1 => absurd c_1 (by decide)) (fun c_1 => ?_)
  refine lv_aload_n hx hb dX9_isFree_14 rfl (lv_at hl 1 rfl) ?_
  refine va_get (D := (dC, dI)) (ci := 7) (v := .int p1) (C := RX8) (T := TX8) (N := 6) hx hb hts (by decide +kernel) hown hK hP 2 rfl rfl 2 (by decide) (hts (.fieldLink RX9 54 "PageOne$Piece" "column" "I") (by decide +kernel)) (fun _ h9 => h9) rfl dX9_isFree_15 ?_
  have hPc := hP.sub (ws' := []) [] rfl
  have hKc := hK.sub (tys' := []) [] rfl
  refine vp_callSi (va_runSN (As := [.int p1]) (rest := []) ⟨hx, hb, hml, hown, hts⟩ (x_isColumn l dC dI p1) ⟨va_cnB (host := "PageOne") 1 hts gX9_isFree_X11_isColumn_n34 rfl rfl rfl hN.n_RX9_34 (hts (.initialized RX11) (by decide +kernel)) (by decide +kernel) ⟨Nat.le_of_ble_eq_true rfl, Nat.le_of_ble_eq_true rfl⟩, hts (.static yX11_isColumn) (by decide +kernel), trivial⟩ ⟨pw_fb, fun U hU hW => ⟨rfl, pw_to hU hW hPc hKc hN⟩⟩ rfl rfl hl.1 rfl (lv_room (Nat.le_of_ble_eq_true rfl)) dX9_isFree_18 ⟨Nat.le_of_ble_eq_true rfl, Nat.le_of_ble_eq_true rfl⟩).run (fun r hw => ?_)
  rcases Bool.eq_false_or_eq_true (bw p1 0 7) with b_2 | b_2
  ·
    obtain rfl : r = 1 := b_t hw b_2
    refine lv_if_eq (tgt := 42) hx hb dX9_isFree_21 (by decide) (fun c_3 => absurd c_3 (by decide)) (fun c_3 => ?_)
    refine lv_aload_n hx hb dX9_isFree_24 rfl (lv_at hl 1 rfl) ?_
    refine va_get (D := (dC, dI)) (ci := 7) (v := .int p2) (C := RX8) (T := TX8) (N := 6) hx hb hts (by decide +kernel) hown hK hP 2 rfl rfl 3 (by decide) (hts (.fieldLink RX9 57 "PageOne$Piece" "line" "I") (by decide +kernel)) (fun _ h9 => h9) rfl dX9_isFree_25 ?_
    refine lv_iconst (v := 0) hx hb dX9_isFree_28 (by decide) ?_
    refine lv_bipush (v := 60) hx hb dX9_isFree_29 (by decide) ?_
    refine lv_aload_n hx hb dX9_isFree_31 rfl (lv_at hl 1 rfl) ?_
    refine va_get (D := (dC, dI)) (ci := 7) (v := .int 1) (C := RX8) (T := TX8) (N := 6) hx hb hts (by decide +kernel) hown hK hP 2 rfl rfl 5 (by decide) (hts (.fieldLink RX9 47 "PageOne$Piece" "h" "I") (by decide +kernel)) (fun _ h9 => h9) rfl dX9_isFree_32 ?_
    refine lv_isub hx hb dX9_isFree_35 ?_
    refine lv_topi (fun k_4 ek_4 => ?_)
    obtain rfl : k_4 = 59 := ek_4.trans (by decide)
    have hPc := hP.sub (ws' := []) [] rfl
    have hKc := hK.sub (tys' := []) [] rfl
    refine vp_callSi (va_runSN (As := [.int p2, .int 0, .int 59]) (rest := []) ⟨hx, hb, hml, hown, hts⟩ (x_isWithin l dC dI p2 0 59) ⟨va_cnB (host := "PageOne") 3 hts gX9_isFree_X11_isWithin_n38 rfl rfl rfl hN.n_RX9_38 (hts (.initialized RX11) (by decide +kernel)) (by decide +kernel) ⟨Nat.le_of_ble_eq_true rfl, Nat.le_of_ble_eq_true rfl⟩, hts (.static yX11_isWithin) (by decide +kernel), trivial⟩ ⟨pw_fb, fun U hU hW => ⟨rfl, pw_to hU hW hPc hKc hN⟩⟩ rfl rfl hl.1 rfl (lv_room (Nat.le_of_ble_eq_true rfl)) dX9_isFree_36 ⟨Nat.le_of_ble_eq_true rfl, Nat.le_of_ble_eq_true rfl⟩).run (fun r hw => ?_)
    rcases Bool.eq_false_or_eq_true (bw p2 0 59) with b_5 | b_5
    ·
      obtain rfl : r = 1 := b_t hw b_5
      refine lv_if_ne (tgt := 44) hx hb dX9_isFree_39 (by decide) (fun c_6 => ?_) (fun c_6 => absurd c_6 (by decide))
      refine lv_aload_n hx hb dX9_isFree_44 rfl (lv_at hl 1 rfl) ?_
      refine va_get (D := (dC, dI)) (ci := 7) (v := .int p1) (C := RX8) (T := TX8) (N := 6) hx hb hts (by decide +kernel) hown hK hP 2 rfl rfl 2 (by decide) (hts (.fieldLink RX9 54 "PageOne$Piece" "column" "I") (by decide +kernel)) (fun _ h9 => h9) rfl dX9_isFree_45 ?_
      refine lv_istore_n (lv' := [(2, .int p1), (0, .ref h0), (1, .ref pc0)]) hx hb dX9_isFree_48 rfl hl (by decide) rfl (fun ls hl => ?_)
      refine lv_iload_n hx hb dX9_isFree_49 rfl (lv_at hl 0 rfl) ?_
      refine lv_aload_n hx hb dX9_isFree_50 rfl (lv_at hl 2 rfl) ?_
      refine va_get (D := (dC, dI)) (ci := 7) (v := .int p1) (C := RX8) (T := TX8) (N := 6) hx hb hts (by decide +kernel) hown hK hP 2 rfl rfl 2 (by decide) (hts (.fieldLink RX9 54 "PageOne$Piece" "column" "I") (by decide +kernel)) (fun _ h9 => h9) rfl dX9_isFree_51 ?_
      refine lv_aload_n hx hb dX9_isFree_54 rfl (lv_at hl 2 rfl) ?_
      refine va_get (D := (dC, dI)) (ci := 7) (v := .int 1) (C := RX8) (T := TX8) (N := 6) hx hb hts (by decide +kernel) hown hK hP 2 rfl rfl 4 (by decide) (hts (.fieldLink RX9 42 "PageOne$Piece" "w" "I") (by decide +kernel)) (fun _ h9 => h9) rfl dX9_isFree_55 ?_
      refine lv_iadd hx hb dX9_isFree_58 ?_
      refine lv_icmp_ge (tgt := 105) hx hb dX9_isFree_59 (by decide) (fun c_7 => absurd c_7 (nle1 b_2)) (fun c_7 => ?_)
      refine lv_aload_n hx hb dX9_isFree_62 rfl (lv_at hl 2 rfl) ?_
      refine va_get (D := (dC, dI)) (ci := 7) (v := .int p2) (C := RX8) (T := TX8) (N := 6) hx hb hts (by decide +kernel) hown hK hP 2 rfl rfl 3 (by decide) (hts (.fieldLink RX9 57 "PageOne$Piece" "line" "I") (by decide +kernel)) (fun _ h9 => h9) rfl dX9_isFree_63 ?_
      refine lv_istore_n (lv' := [(3, .int p2), (2, .int p1), (0, .ref h0), (1, .ref pc0)]) hx hb dX9_isFree_66 rfl hl (by decide) rfl (fun ls hl => ?_)
      refine lv_iload_n hx hb dX9_isFree_67 rfl (lv_at hl 0 rfl) ?_
      refine lv_aload_n hx hb dX9_isFree_68 rfl (lv_at hl 3 rfl) ?_
      refine va_get (D := (dC, dI)) (ci := 7) (v := .int p2) (C := RX8) (T := TX8) (N := 6) hx hb hts (by decide +kernel) hown hK hP 2 rfl rfl 3 (by decide) (hts (.fieldLink RX9 57 "PageOne$Piece" "line" "I") (by decide +kernel)) (fun _ h9 => h9) rfl dX9_isFree_69 ?_
      refine lv_aload_n hx hb dX9_isFree_72 rfl (lv_at hl 3 rfl) ?_
      refine va_get (D := (dC, dI)) (ci := 7) (v := .int 1) (C := RX8) (T := TX8) (N := 6) hx hb hts (by decide +kernel) hown hK hP 2 rfl rfl 5 (by decide) (hts (.fieldLink RX9 47 "PageOne$Piece" "h" "I") (by decide +kernel)) (fun _ h9 => h9) rfl dX9_isFree_73 ?_
      refine lv_iadd hx hb dX9_isFree_76 ?_
      refine lv_icmp_ge (tgt := 99) hx hb dX9_isFree_77 (by decide) (fun c_8 => absurd c_8 (nle1 b_5)) (fun c_8 => ?_)
      refine lv_aload_n hx hb dX9_isFree_80 rfl (lv_at hl 2 rfl) ?_
      refine lv_iload_n hx hb dX9_isFree_81 rfl (lv_at hl 1 rfl) ?_
      refine lv_iload_n hx hb dX9_isFree_82 rfl (lv_at hl 0 rfl) ?_
      have hPc := hP.sub (ws' := [(h0, .inr (8, [.ref ln, .ref ce, .int 100, .int (-1), .int (-1)])), (ln, .inl (cI, 8, .inl (fun _ => 0)))]) [0, 1] rfl
      have hKc := hK.sub (tys' := [(cI, .int)]) [0] rfl
      refine vp_callSi (va_runV (As := [.int p1, .int p2]) (rest := []) ⟨hx, hb, hml, hown, hts⟩ (x_at0 l dC dI h0 ln ce cI p1 p2) (cwV 2 hts gX9_isFree_X9_at rfl rfl rfl (by decide +kernel) ⟨Nat.le_of_ble_eq_true rfl, Nat.le_of_ble_eq_true rfl⟩) ⟨pw_fb, va_recv hKc hPc (ci := 8) (q0 := 0) rfl rfl, fun U hU hW => ⟨rfl, pw_to hU hW hPc hKc hN⟩⟩ rfl rfl hl.1 rfl (lv_room (Nat.le_of_ble_eq_true rfl)) dX9_isFree_83 ⟨Nat.le_of_ble_eq_true rfl, Nat.le_of_ble_eq_true rfl⟩).run (fun r hw => ?_)
      obtain rfl : r = (-1) := hw
      refine lv_bipush (v := (-2)) hx hb dX9_isFree_86 (by decide) ?_
      refine lv_icmp_eq (tgt := 93) hx hb dX9_isFree_88 (by decide) (fun c_9 => absurd c_9 (by decide)) (fun c_9 => ?_)
      refine lv_iconst (v := 0) hx hb dX9_isFree_91 (by decide) ?_
      exact W.zret (v := 0) hx hb hr (by decide) (fun t ht hW => ⟨_, rfl, rfl, ht⟩) (fun q h => absurd h List.not_mem_nil) dX9_isFree_92
    ·
      obtain rfl : r = 0 := b_f hw b_5
      refine lv_if_ne (tgt := 44) hx hb dX9_isFree_39 (by decide) (fun c_10 => absurd (by decide) c_10) (fun c_10 => ?_)
      refine lv_iconst (v := 0) hx hb dX9_isFree_42 (by decide) ?_
      exact W.zret (v := 0) hx hb hr (by decide) (fun t ht hW => ⟨_, rfl, rfl, ht⟩) (fun q h => absurd h List.not_mem_nil) dX9_isFree_43
  ·
    obtain rfl : r = 0 := b_f hw b_2
    refine lv_if_eq (tgt := 42) hx hb dX9_isFree_21 (by decide) (fun c_11 => ?_) (fun c_11 => absurd (by decide) c_11)
    refine lv_iconst (v := 0) hx hb dX9_isFree_42 (by decide) ?_
    exact W.zret (v := 0) hx hb hr (by decide) (fun t ht hW => ⟨_, rfl, rfl, ht⟩) (fun q h => absurd h List.not_mem_nil) dX9_isFree_43
