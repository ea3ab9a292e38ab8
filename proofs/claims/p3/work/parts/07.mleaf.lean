set_option maxHeartbeats 4000000 in
set_option maxRecDepth 100000 in
theorem m_in (l : Launch) (dC : Nat → ClassId) (dI : Nat → Nat → Nat) (p0 p1 p2 : Int32) : Met l yX12_in wsX12_in ({ frames := 0, cells := 0, slots := 0, locals := 0 }) (va_Pc [.int p0, .int p1, .int p2] (PW dC dI [] [])) (vp_Si (fun r => r = bi (bw p0 p1 p2))) 0 0 (fun _ => False) := by
  refine Met.ofW (cc := cX12_in) (maxL := 3) (ret := (some .boolean)) (by decide) rfl ?_
  intro p e s m args below meth c s₁ B hml hv
  obtain ⟨rfl, hP, hK, hN⟩ := hv
  have hx := B.exec
  have hb := B.bytes
  have hr := B.returns
  have hts := atoms_spec (ws := wsX12_in) B.pre
  have hown : s.vm.findClass RX12 = some m.cls := findClass_of_methodNamed B.named
  have hlocks := B.notSynchronized
  have hl := lv_entry ([.int p0, .int p1, .int p2]) (n := 3) (Nat.le_of_ble_eq_true rfl)
  rw [lg_entry_eq]
  generalize (lg_sl ([.int p0, .int p1, .int p2]) ++ List.replicate (3 - (lg_sl ([.int p0, .int p1, .int p2])).length) Slot.unset).toArray = ls at hl ⊢
  have hl : lv_has ls 3 [(0, .int p0), (1, .int p1), (2, .int p2)] := hl
  refine lv_iload_n hx hb dX12_in_0 rfl (lv_at hl 0 rfl) ?_
  refine lv_iload_n hx hb dX12_in_1 rfl (lv_at hl 1 rfl) ?_
  refine lv_icmp_lt (tgt := 14) hx hb dX12_in_2 (by decide) (fun c_1 => ?_) (fun c_1 => ?_)
  ·
    refine lv_iconst (v := 0) hx hb dX12_in_14 (by decide) ?_
    exact W.zret (v := 0) hx hb hr (by decide) (fun t ht hW => ⟨_, rfl, bw0a c_1, ht⟩) (fun q h => absurd h List.not_mem_nil) dX12_in_15
  ·
    refine lv_iload_n hx hb dX12_in_5 rfl (lv_at hl 0 rfl) ?_
    refine lv_iload_n hx hb dX12_in_6 rfl (lv_at hl 2 rfl) ?_
    refine lv_icmp_gt (tgt := 14) hx hb dX12_in_7 (by decide) (fun c_2 => ?_) (fun c_2 => ?_)
    ·
      refine lv_iconst (v := 0) hx hb dX12_in_14 (by decide) ?_
      exact W.zret (v := 0) hx hb hr (by decide) (fun t ht hW => ⟨_, rfl, bw0b c_2, ht⟩) (fun q h => absurd h List.not_mem_nil) dX12_in_15
    ·
      refine lv_iconst (v := 1) hx hb dX12_in_10 (by decide) ?_
      refine lv_goto (tgt := 15) hx hb dX12_in_11 (by decide) ?_
      exact W.zret (v := 1) hx hb hr (by decide) (fun t ht hW => ⟨_, rfl, bw1 c_1 c_2, ht⟩) (fun q h => absurd h List.not_mem_nil) dX12_in_15
set_option maxHeartbeats 4000000 in
set_option maxRecDepth 100000 in
theorem m_isPage (l : Launch) (dC : Nat → ClassId) (dI : Nat → Nat → Nat) (p0 : Int32) : Met l yX12_isPage wsX12_isPage ({ frames := 1, cells := 0, slots := 0, locals := 22 }) (va_Pc [.int p0] (PW dC dI [] [])) (vp_Si (fun r => r = bi (bw p0 0 11))) 0 0 (fun _ => False) := by
  refine Met.ofW (cc := cX12_isPage) (maxL := 1) (ret := (some .boolean)) (by decide) rfl ?_
  intro p e s m args below meth c s₁ B hml hv
  obtain ⟨rfl, hP, hK, hN⟩ := hv
  have hx := B.exec
  have hb := B.bytes
  have hr := B.returns
  have hts := atoms_spec (ws := wsX12_isPage) B.pre
  have hown : s.vm.findClass RX12 = some m.cls := findClass_of_methodNamed B.named
  have hlocks := B.notSynchronized
  have hl := lv_entry ([.int p0]) (n := 1) (Nat.le_of_ble_eq_true rfl)
  rw [lg_entry_eq]
  generalize (lg_sl ([.int p0]) ++ List.replicate (1 - (lg_sl ([.int p0])).length) Slot.unset).toArray = ls at hl ⊢
  have hl : lv_has ls 1 [(0, .int p0)] := hl
  refine lv_iload_n hx hb dX12_isPage_0 rfl (lv_at hl 0 rfl) ?_
  refine lv_iconst (v := 0) hx hb dX12_isPage_1 (by decide) ?_
  refine lv_bipush (v := 11) hx hb dX12_isPage_2 (by decide) ?_
  refine vp_callSi (va_runS (As := [.int p0, .int 0, .int 11]) (rest := []) ⟨hx, hb, hml, hown, hts⟩ (m_in l dC dI p0 0 11) (va_cwS 3 hts gX12_isPage_X12_in rfl rfl rfl (by decide +kernel) ⟨Nat.le_of_ble_eq_true rfl, Nat.le_of_ble_eq_true rfl⟩) ⟨pw_fb, fun U hU hW => ⟨rfl, pw_to hU hW (hP.sub (ws' := []) [] rfl) (hK.sub (tys' := []) [] rfl) hN⟩⟩ rfl rfl hl.1 rfl (lv_room (Nat.le_of_ble_eq_true rfl)) dX12_isPage_4 ⟨Nat.le_of_ble_eq_true rfl, Nat.le_of_ble_eq_true rfl⟩).run (fun r hw => ?_)
  rcases Bool.eq_false_or_eq_true (bw p0 0 11) with b_1 | b_1
  ·
    obtain rfl : r = 1 := b_t hw b_1
    exact W.zret (v := 1) hx hb hr (by decide) (fun t ht hW => ⟨_, rfl, (by simp [bi, b_1]), ht⟩) (fun q h => absurd h List.not_mem_nil) dX12_isPage_7
  ·
    obtain rfl : r = 0 := b_f hw b_1
    exact W.zret (v := 0) hx hb hr (by decide) (fun t ht hW => ⟨_, rfl, (by simp [bi, b_1]), ht⟩) (fun q h => absurd h List.not_mem_nil) dX12_isPage_7
set_option maxHeartbeats 4000000 in
set_option maxRecDepth 100000 in
theorem m_isBuyer (l : Launch) (dC : Nat → ClassId) (dI : Nat → Nat → Nat) (p0 : Int32) : Met l yX12_isBuyer wsX12_isBuyer ({ frames := 1, cells := 0, slots := 0, locals := 22 }) (va_Pc [.int p0] (PW dC dI [] [])) (vp_Si (fun r => r = bi (bw p0 0 9))) 0 0 (fun _ => False) := by
  refine Met.ofW (cc := cX12_isBuyer) (maxL := 1) (ret := (some .boolean)) (by decide) rfl ?_
  intro p e s m args below meth c s₁ B hml hv
  obtain ⟨rfl, hP, hK, hN⟩ := hv
  have hx := B.exec
  have hb := B.bytes
  have hr := B.returns
  have hts := atoms_spec (ws := wsX12_isBuyer) B.pre
  have hown : s.vm.findClass RX12 = some m.cls := findClass_of_methodNamed B.named
  have hlocks := B.notSynchronized
  have hl := lv_entry ([.int p0]) (n := 1) (Nat.le_of_ble_eq_true rfl)
  rw [lg_entry_eq]
  generalize (lg_sl ([.int p0]) ++ List.replicate (1 - (lg_sl ([.int p0])).length) Slot.unset).toArray = ls at hl ⊢
  have hl : lv_has ls 1 [(0, .int p0)] := hl
  refine lv_iload_n hx hb dX12_isBuyer_0 rfl (lv_at hl 0 rfl) ?_
  refine lv_iconst (v := 0) hx hb dX12_isBuyer_1 (by decide) ?_
  refine lv_bipush (v := 9) hx hb dX12_isBuyer_2 (by decide) ?_
  refine vp_callSi (va_runS (As := [.int p0, .int 0, .int 9]) (rest := []) ⟨hx, hb, hml, hown, hts⟩ (m_in l dC dI p0 0 9) (va_cwS 3 hts gX12_isBuyer_X12_in rfl rfl rfl (by decide +kernel) ⟨Nat.le_of_ble_eq_true rfl, Nat.le_of_ble_eq_true rfl⟩) ⟨pw_fb, fun U hU hW => ⟨rfl, pw_to hU hW (hP.sub (ws' := []) [] rfl) (hK.sub (tys' := []) [] rfl) hN⟩⟩ rfl rfl hl.1 rfl (lv_room (Nat.le_of_ble_eq_true rfl)) dX12_isBuyer_4 ⟨Nat.le_of_ble_eq_true rfl, Nat.le_of_ble_eq_true rfl⟩).run (fun r hw => ?_)
  rcases Bool.eq_false_or_eq_true (bw p0 0 9) with b_1 | b_1
  ·
    obtain rfl : r = 1 := b_t hw b_1
    exact W.zret (v := 1) hx hb hr (by decide) (fun t ht hW => ⟨_, rfl, (by simp [bi, b_1]), ht⟩) (fun q h => absurd h List.not_mem_nil) dX12_isBuyer_7
  ·
    obtain rfl : r = 0 := b_f hw b_1
    exact W.zret (v := 0) hx hb hr (by decide) (fun t ht hW => ⟨_, rfl, (by simp [bi, b_1]), ht⟩) (fun q h => absurd h List.not_mem_nil) dX12_isBuyer_7
set_option maxHeartbeats 4000000 in
set_option maxRecDepth 100000 in
theorem m_at (l : Launch) (dC : Nat → ClassId) (dI : Nat → Nat → Nat) (p0 p1 p2 : Int32) : Met l yX12_at wsX12_at ({ frames := 0, cells := 0, slots := 0, locals := 0 }) (va_Pc [.int p0, .int p1, .int p2] (PW dC dI [] [])) (vp_Si (fun r => r = 480 * p0 + 60 * p1 + p2)) 0 0 (fun _ => False) := by
  refine Met.ofW (cc := cX12_at) (maxL := 3) (ret := (some .int)) (by decide) rfl ?_
  intro p e s m args below meth c s₁ B hml hv
  obtain ⟨rfl, hP, hK, hN⟩ := hv
  have hx := B.exec
  have hb := B.bytes
  have hr := B.returns
  have hts := atoms_spec (ws := wsX12_at) B.pre
  have hown : s.vm.findClass RX12 = some m.cls := findClass_of_methodNamed B.named
  have hlocks := B.notSynchronized
  have hl := lv_entry ([.int p0, .int p1, .int p2]) (n := 3) (Nat.le_of_ble_eq_true rfl)
  rw [lg_entry_eq]
  generalize (lg_sl ([.int p0, .int p1, .int p2]) ++ List.replicate (3 - (lg_sl ([.int p0, .int p1, .int p2])).length) Slot.unset).toArray = ls at hl ⊢
  have hl : lv_has ls 3 [(0, .int p0), (1, .int p1), (2, .int p2)] := hl
  refine lv_sipush (v := 480) hx hb dX12_at_0 (by decide) ?_
  refine lv_iload_n hx hb dX12_at_3 rfl (lv_at hl 0 rfl) ?_
  refine lv_imul hx hb dX12_at_4 ?_
  refine lv_bipush (v := 60) hx hb dX12_at_5 (by decide) ?_
  refine lv_iload_n hx hb dX12_at_7 rfl (lv_at hl 1 rfl) ?_
  refine lv_imul hx hb dX12_at_8 ?_
  refine lv_iadd hx hb dX12_at_9 ?_
  refine lv_iload_n hx hb dX12_at_10 rfl (lv_at hl 2 rfl) ?_
  refine lv_iadd hx hb dX12_at_11 ?_
  exact W.iret (v := (((480 * p0) + (60 * p1)) + p2)) hx hb hr (fun t ht hW => ⟨_, rfl, rfl, ht⟩) (fun q h => absurd h List.not_mem_nil) dX12_at_12
set_option maxHeartbeats 4000000 in
set_option maxRecDepth 100000 in
theorem m_isItem (l : Launch) (dC : Nat → ClassId) (dI : Nat → Nat → Nat) (h0 : Nat) (v : Nat → Nat) (cI cZ : ClassId) (u : mS) (p0 : Int32) : Met l yX12_isItem wsX12_isItem ({ frames := 1, cells := 0, slots := 0, locals := 22 }) (va_Pc [.ref h0, .int p0] (PW dC dI (mW h0 v cI cZ u) [(cI, .int), (cZ, .boolean)])) (vp_Si (fun r => r = bi (bw p0 0 (u.1 3 - 1)))) 0 0 (fun _ => False) := by
  refine Met.ofW (cc := cX12_isItem) (maxL := 2) (ret := (some .boolean)) (by decide) rfl ?_
  intro p e s m args below meth c s₁ B hml hv
  obtain ⟨rfl, hP, hK, hN⟩ := hv
  have hx := B.exec
  have hb := B.bytes
  have hr := B.returns
  have hts := atoms_spec (ws := wsX12_isItem) B.pre
  have hown : s.vm.findClass RX12 = some m.cls := findClass_of_methodNamed B.named
  have hlocks := B.notSynchronized
  have hl := lv_entry ([.ref h0, .int p0]) (n := 2) (Nat.le_of_ble_eq_true rfl)
  rw [lg_entry_eq]
  generalize (lg_sl ([.ref h0, .int p0]) ++ List.replicate (2 - (lg_sl ([.ref h0, .int p0])).length) Slot.unset).toArray = ls at hl ⊢
  have hl : lv_has ls 2 [(0, .ref h0), (1, .int p0)] := hl
  refine lv_iload_n hx hb dX12_isItem_0 rfl (lv_at hl 1 rfl) ?_
  refine lv_iconst (v := 0) hx hb dX12_isItem_1 (by decide) ?_
  refine lv_aload_n hx hb dX12_isItem_2 rfl (lv_at hl 0 rfl) ?_
  refine va_get (D := (dC, dI)) (ci := 11) (v := .int (u.1 3)) (C := RX12) (T := TX12) (N := 52) hx hb hts (by decide +kernel) hown hK hP 0 rfl rfl 3 (by decide) (hts (.fieldLink RX12 147 "PageOneModel" "items" "I") (by decide +kernel)) (fun _ h9 => h9) rfl dX12_isItem_3 ?_
  refine lv_iconst (v := 1) hx hb dX12_isItem_6 (by decide) ?_
  refine lv_isub hx hb dX12_isItem_7 ?_
  refine vp_callSi (va_runS (As := [.int p0, .int 0, .int ((u.1 3) - 1)]) (rest := []) ⟨hx, hb, hml, hown, hts⟩ (m_in l dC dI p0 0 ((u.1 3) - 1)) (va_cwS 3 hts gX12_isItem_X12_in rfl rfl rfl (by decide +kernel) ⟨Nat.le_of_ble_eq_true rfl, Nat.le_of_ble_eq_true rfl⟩) ⟨pw_fb, fun U hU hW => ⟨rfl, pw_to hU hW (hP.sub (ws' := []) [] rfl) (hK.sub (tys' := []) [] rfl) hN⟩⟩ rfl rfl hl.1 rfl (lv_room (Nat.le_of_ble_eq_true rfl)) dX12_isItem_8 ⟨Nat.le_of_ble_eq_true rfl, Nat.le_of_ble_eq_true rfl⟩).run (fun r hw => ?_)
  rcases Bool.eq_false_or_eq_true (bw p0 0 ((u.1 3) - 1)) with b_1 | b_1
  ·
    obtain rfl : r = 1 := b_t hw b_1
    exact W.zret (v := 1) hx hb hr (by decide) (fun t ht hW => ⟨_, rfl, (by simp [bi, b_1]), ht⟩) (fun q h => absurd h List.not_mem_nil) dX12_isItem_11
  ·
    obtain rfl : r = 0 := b_f hw b_1
    exact W.zret (v := 0) hx hb hr (by decide) (fun t ht hW => ⟨_, rfl, (by simp [bi, b_1]), ht⟩) (fun q h => absurd h List.not_mem_nil) dX12_isItem_11
set_option maxHeartbeats 4000000 in
set_option maxRecDepth 100000 in
theorem m_isKind (l : Launch) (dC : Nat → ClassId) (dI : Nat → Nat → Nat) (h0 : Nat) (v : Nat → Nat) (cI cZ : ClassId) (u : mS) (p0 p1 : Int32) (hn : bw (u.1 3) 0 80 = true) : Met l yX12_isKind wsX12_isKind ({ frames := 2, cells := 0, slots := 0, locals := 43 }) (va_Pc [.ref h0, .int p0, .int p1] (PW dC dI (mW h0 v cI cZ u) [(cI, .int), (cZ, .boolean)])) (vp_Si (fun r => r = bi (bw p0 0 (u.1 3 - 1) && decide (u.2 4 (p0 : Int32).toNatClampNeg = p1)))) 0 0 (fun _ => False) := by
  refine Met.ofW (cc := cX12_isKind) (maxL := 3) (ret := (some .boolean)) (by decide) rfl ?_
  intro p e s m args below meth c s₁ B hml hv
  obtain ⟨rfl, hP, hK, hN⟩ := hv
  have hx := B.exec
  have hb := B.bytes
  have hr := B.returns
  have hts := atoms_spec (ws := wsX12_isKind) B.pre
  have hown : s.vm.findClass RX12 = some m.cls := findClass_of_methodNamed B.named
  have hlocks := B.notSynchronized
  have hl := lv_entry ([.ref h0, .int p0, .int p1]) (n := 3) (Nat.le_of_ble_eq_true rfl)
  rw [lg_entry_eq]
  generalize (lg_sl ([.ref h0, .int p0, .int p1]) ++ List.replicate (3 - (lg_sl ([.ref h0, .int p0, .int p1])).length) Slot.unset).toArray = ls at hl ⊢
  have hl : lv_has ls 3 [(0, .ref h0), (1, .int p0), (2, .int p1)] := hl
  refine lv_aload_n hx hb dX12_isKind_0 rfl (lv_at hl 0 rfl) ?_
  refine lv_iload_n hx hb dX12_isKind_1 rfl (lv_at hl 1 rfl) ?_
  refine vp_callSi (va_runV (As := [.int p0]) (rest := []) ⟨hx, hb, hml, hown, hts⟩ (m_isItem l dC dI h0 v cI cZ u p0) (cwV 1 hts gX12_isKind_X12_isItem rfl rfl rfl (by decide +kernel) ⟨Nat.le_of_ble_eq_true rfl, Nat.le_of_ble_eq_true rfl⟩) ⟨pw_fb, va_recv hK hP (ci := 11) (q0 := 0) rfl rfl, fun U hU hW => ⟨rfl, pw_to hU hW hP hK hN⟩⟩ rfl rfl hl.1 rfl (lv_room (Nat.le_of_ble_eq_true rfl)) dX12_isKind_2 ⟨Nat.le_of_ble_eq_true rfl, Nat.le_of_ble_eq_true rfl⟩).run (fun r hw => ?_)
  rcases Bool.eq_false_or_eq_true (bw p0 0 (u.1 3 - 1)) with b_1 | b_1
  ·
    obtain rfl : r = 1 := b_t hw b_1
    refine lv_if_eq (tgt := 22) hx hb dX12_isKind_5 (by decide) (fun c_2 => absurd c_2 (by decide)) (fun c_2 => ?_)
    refine lv_aload_n hx hb dX12_isKind_8 rfl (lv_at hl 0 rfl) ?_
    refine va_get (D := (dC, dI)) (ci := 11) (v := .ref (v 4)) (C := RX12) (T := TX12) (N := 52) hx hb hts (by decide +kernel) hown hK hP 0 rfl rfl 4 (by decide) (hts (.fieldLink RX12 19 "PageOneModel" "kind" "[I") (by decide +kernel)) (fun _ h9 => h9) rfl dX12_isKind_9 ?_
    refine lv_iload_n hx hb dX12_isKind_12 rfl (lv_at hl 1 rfl) ?_
    refine va_iald hx hb hK hP 4 0 rfl rfl (vIt hn b_1) dX12_isKind_13 ?_
    refine lv_iload_n hx hb dX12_isKind_14 rfl (lv_at hl 2 rfl) ?_
    refine lv_icmp_ne (tgt := 22) hx hb dX12_isKind_15 (by decide) (fun c_3 => ?_) (fun c_3 => ?_)
    ·
      refine lv_iconst (v := 0) hx hb dX12_isKind_22 (by decide) ?_
      exact W.zret (v := 0) hx hb hr (by decide) (fun t ht hW => ⟨_, rfl, (by simp [bi, b_1, c_3]), ht⟩) (fun q h => absurd h List.not_mem_nil) dX12_isKind_23
    ·
      refine lv_iconst (v := 1) hx hb dX12_isKind_18 (by decide) ?_
      refine lv_goto (tgt := 23) hx hb dX12_isKind_19 (by decide) ?_
      exact W.zret (v := 1) hx hb hr (by decide) (fun t ht hW => ⟨_, rfl, (by simp [bi, b_1, c_3]), ht⟩) (fun q h => absurd h List.not_mem_nil) dX12_isKind_23
  ·
    obtain rfl : r = 0 := b_f hw b_1
    refine lv_if_eq (tgt := 22) hx hb dX12_isKind_5 (by decide) (fun c_4 => ?_) (fun c_4 => absurd (by decide) c_4)
    refine lv_iconst (v := 0) hx hb dX12_isKind_22 (by decide) ?_
    exact W.zret (v := 0) hx hb hr (by decide) (fun t ht hW => ⟨_, rfl, (by simp [bi, b_1]), ht⟩) (fun q h => absurd h List.not_mem_nil) dX12_isKind_23
