set_option maxHeartbeats 4000000 in
set_option maxRecDepth 100000 in
theorem m_in (l : Launch) (dC : Nat → ClassId) (dI : Nat → Nat → Nat) (p0 p1 p2 : Int32) : Met l yX12_in wsX12_in ({ frames := 0, cells := 0, slots := 0, locals := 0 }) (va_Pc [.int p0, .int p1, .int p2] (PW dC dI [] [])) (vp_Si (fun r => r = bi (bw p0 p1 p2))) 0 0 (fun _ => False) := by
  refine Met.ofW (cc := cX12_in) (maxL := 3) (ret := (some .boolean)) (by decide) rfl ?_
  intro p e s m args below meth c s₁ B hml hv
  obtain ⟨rfl, hP, hK, hN⟩ := hv
  have hx := B.exec
  have hb := B.bytes
  have hr := B.returns
  have hts := atoms_spec (ws := wsX12_in) B.pre
  have hown : s.vm.findClass RX12 = some m.cls := findClass_of_methodNamed B.named
  have hlocks := B.notSynchronized
  have hl := lv_entry ([.int p0, .int p1, .int p2]) (n := 3) (Nat.le_of_ble_eq_true rfl)
  rw [lg_entry_eq]
  generalize (lg_sl ([.int p0, .int p1, .int p2]) ++ List.replicate (3 - (lg_sl ([.int p0, .int p1, .int p2])).length) Slot.unset).toArray = ls at hl ⊢
  have hl : lv_has ls 3 [(0, .int p0), (1, .int p1), (2, .int p2)] := hl
  refine lv_iload_n hx hb dX12_in_0 rfl (lv_at hl 0 rfl) ?_
  refine lv_iload_n hx hb dX12_in_1 rfl (lv_at hl 1 rfl) ?_
  refine lv_icmp_lt (tgt := 14) hx hb dX12_in_2 (by decide) (fun c_1 => ?_) (fun c_1 => ?_)
  ·
    refine lv_iconst (v := 0) hx hb dX12_in_14 (by decide) ?_
    exact W.zret (v := 0) hx hb hr (by decide) (fun t ht hW => ⟨_, rfl, bw0a c_1, ht⟩) (fun q h => absurd h List.not_mem_nil) dX12_in_15
  ·
    refine lv_iload_n hx hb dX12_in_5 rfl (lv_at hl 0 rfl) ?_
    refine lv_iload_n hx hb dX12_in_6 rfl (lv_at hl 2 rfl) ?_
    refine lv_icmp_gt (tgt := 14) hx hb dX12_in_7 (by decide) (fun c_2 => ?_) (fun c_2 => ?_)
    ·
      refine lv_iconst (v := 0) hx hb dX12_in_14 (by decide) ?_
      exact W.zret (v := 0) hx hb hr (by decide) (fun t ht hW => ⟨_, rfl, bw0b c_2, ht⟩) (fun q h => absurd h List.not_mem_nil) dX12_in_15
    ·
      refine lv_iconst (v := 1) hx hb dX12_in_10 (by decide) ?_
      refine lv_goto (tgt := 15) hx hb dX12_in_11 (by decide) ?_
      exact W.zret (v := 1) hx hb hr (by decide) (fun t ht hW => ⟨_, rfl, bw1 c_1 c_2, ht⟩) (fun q h => absurd h List.not_mem_nil) dX12_in_15
set_option maxHeartbeats 4000000 in
set_option maxRecDepth 100000 in
theorem m_isPage (l : Launch) (dC : Nat → ClassId) (dI : Nat → Nat → Nat) (p0 : Int32) : Met l yX12_isPage wsX12_isPage ({ frames := 1, cells := 0, slots := 0, locals := 22 }) (va_Pc [.int p0] (PW dC dI [] [])) (vp_Si (fun r => r = bi (bw p0 0 11))) 0 0 (fun _ => False) := by
  refine Met.ofW (cc := cX12_isPage) (maxL := 1) (ret := (some .boolean)) (by decide) rfl ?_
  intro p e s m args below meth c s₁ B hml hv
  obtain ⟨rfl, hP, hK, hN⟩ := hv
  have hx := B.exec
  have hb := B.bytes
  have hr := B.returns
  have hts := atoms_spec (ws := wsX12_isPage) B.pre
  have hown : s.vm.findClass RX12 = some m.cls := findClass_of_methodNamed B.named
  have hlocks := B.notSynchronized
  have hl := lv_entry ([.int p0]) (n := 1) (Nat.le_of_ble_eq_true rfl)
  rw [lg_entry_eq]
  generalize (lg_sl ([.int p0]) ++ List.replicate (1 - (lg_sl ([.int p0])).length) Slot.unset).toArray = ls at hl ⊢
  have hl : lv_has ls 1 [(0, .int p0)] := hl
  refine lv_iload_n hx hb dX12_isPage_0 rfl (lv_at hl 0 rfl) ?_
  refine lv_iconst (v := 0) hx hb dX12_isPage_1 (by decide) ?_
  refine lv_bipush (v := 11) hx hb dX12_isPage_2 (by decide) ?_
  have hPc := hP.sub (ws' := []) [] rfl
  have hKc := hK.sub (tys' := []) [] rfl
  refine vp_callSi (va_runS (As := [.int p0, .int 0, .int 11]) (rest := []) ⟨hx, hb, hml, hown, hts⟩ (m_in l dC dI p0 0 11) (va_cwS 3 hts gX12_isPage_X12_in rfl rfl rfl (by decide +kernel) ⟨Nat.le_of_ble_eq_true rfl, Nat.le_of_ble_eq_true rfl⟩) ⟨pw_fb, fun U hU hW => ⟨rfl, pw_to hU hW hPc hKc hN⟩⟩ rfl rfl hl.1 rfl (lv_room (Nat.le_of_ble_eq_true rfl)) dX12_isPage_4 ⟨Nat.le_of_ble_eq_true rfl, Nat.le_of_ble_eq_true rfl⟩).run (fun r hw => ?_)
  rcases Bool.eq_false_or_eq_true (bw p0 0 11) with b_1 | b_1
  ·
    obtain rfl : r = 1 := b_t hw b_1
    exact W.zret (v := 1) hx hb hr (by decide) (fun t ht hW => ⟨_, rfl, (by simp [bi, b_1]), ht⟩) (fun q h => absurd h List.not_mem_nil) dX12_isPage_7
  ·
    obtain rfl : r = 0 := b_f hw b_1
    exact W.zret (v := 0) hx hb hr (by decide) (fun t ht hW => ⟨_, rfl, (by simp [bi, b_1]), ht⟩) (fun q h => absurd h List.not_mem_nil) dX12_isPage_7
set_option maxHeartbeats 4000000 in
set_option maxRecDepth 100000 in
theorem m_isBuyer (l : Launch) (dC : Nat → ClassId) (dI : Nat → Nat → Nat) (p0 : Int32) : Met l yX12_isBuyer wsX12_isBuyer ({ frames := 1, cells := 0, slots := 0, locals := 22 }) (va_Pc [.int p0] (PW dC dI [] [])) (vp_Si (fun r => r = bi (bw p0 0 9))) 0 0 (fun _ => False) := by
  refine Met.ofW (cc := cX12_isBuyer) (maxL := 1) (ret := (some .boolean)) (by decide) rfl ?_
  intro p e s m args below meth c s₁ B hml hv
  obtain ⟨rfl, hP, hK, hN⟩ := hv
  have hx := B.exec
  have hb := B.bytes
  have hr := B.returns
  have hts := atoms_spec (ws := wsX12_isBuyer) B.pre
  have hown : s.vm.findClass RX12 = some m.cls := findClass_of_methodNamed B.named
  have hlocks := B.notSynchronized
  have hl := lv_entry ([.int p0]) (n := 1) (Nat.le_of_ble_eq_true rfl)
  rw [lg_entry_eq]
  generalize (lg_sl ([.int p0]) ++ List.replicate (1 - (lg_sl ([.int p0])).length) Slot.unset).toArray = ls at hl ⊢
  have hl : lv_has ls 1 [(0, .int p0)] := hl
  refine lv_iload_n hx hb dX12_isBuyer_0 rfl (lv_at hl 0 rfl) ?_
  refine lv_iconst (v := 0) hx hb dX12_isBuyer_1 (by decide) ?_
  refine lv_bipush (v := 9) hx hb dX12_isBuyer_2 (by decide) ?_
  have hPc := hP.sub (ws' := []) [] rfl
  have hKc := hK.sub (tys' := []) [] rfl
  refine vp_callSi (va_runS (As := [.int p0, .int 0, .int 9]) (rest := []) ⟨hx, hb, hml, hown, hts⟩ (m_in l dC dI p0 0 9) (va_cwS 3 hts gX12_isBuyer_X12_in rfl rfl rfl (by decide +kernel) ⟨Nat.le_of_ble_eq_true rfl, Nat.le_of_ble_eq_true rfl⟩) ⟨pw_fb, fun U hU hW => ⟨rfl, pw_to hU hW hPc hKc hN⟩⟩ rfl rfl hl.1 rfl (lv_room (Nat.le_of_ble_eq_true rfl)) dX12_isBuyer_4 ⟨Nat.le_of_ble_eq_true rfl, Nat.le_of_ble_eq_true rfl⟩).run (fun r hw => ?_)
  rcases Bool.eq_false_or_eq_true (bw p0 0 9) with b_1 | b_1
  ·
    obtain rfl : r = 1 := b_t hw b_1
    exact W.zret (v := 1) hx hb hr (by decide) (fun t ht hW => ⟨_, rfl, (by simp [bi, b_1]), ht⟩) (fun q h => absurd h List.not_mem_nil) dX12_isBuyer_7
  ·
    obtain rfl : r = 0 := b_f hw b_1
    exact W.zret (v := 0) hx hb hr (by decide) (fun t ht hW => ⟨_, rfl, (by simp [bi, b_1]), ht⟩) (fun q h => absurd h List.not_mem_nil) dX12_isBuyer_7
set_option maxHeartbeats 4000000 in
set_option maxRecDepth 100000 in
theorem m_at (l : Launch) (dC : Nat → ClassId) (dI : Nat → Nat → Nat) (p0 p1 p2 : Int32) : Met l yX12_at wsX12_at ({ frames := 0, cells := 0, slots := 0, locals := 0 }) (va_Pc [.int p0, .int p1, .int p2] (PW dC dI [] [])) (vp_Si (fun r => r = 480 * p0 + 60 * p1 + p2)) 0 0 (fun _ => False) := by
  refine Met.ofW (cc := cX12_at) (maxL := 3) (ret := (some .int)) (by decide) rfl ?_
  intro p e s m args below meth c s₁ B hml hv
  obtain ⟨rfl, hP, hK, hN⟩ := hv
  have hx := B.exec
  have hb := B.bytes
  have hr := B.returns
  have hts := atoms_spec (ws := wsX12_at) B.pre
  have hown : s.vm.findClass RX12 = some m.cls := findClass_of_methodNamed B.named
  have hlocks := B.notSynchronized
  have hl := lv_entry ([.int p0, .int p1, .int p2]) (n := 3) (Nat.le_of_ble_eq_true rfl)
  rw [lg_entry_eq]
  generalize (lg_sl ([.int p0, .int p1, .int p2]) ++ List.replicate (3 - (lg_sl ([.int p0, .int p1, .int p2])).length) Slot.unset).toArray = ls at hl ⊢
  have hl : lv_has ls 3 [(0, .int p0), (1, .int p1), (2, .int p2)] := hl
  refine lv_sipush (v := 480) hx hb dX12_at_0 (by decide) ?_
  refine lv_iload_n hx hb dX12_at_3 rfl (lv_at hl 0 rfl) ?_
  refine lv_imul hx hb dX12_at_4 ?_
  refine lv_bipush (v := 60) hx hb dX12_at_5 (by decide) ?_
  refine lv_iload_n hx hb dX12_at_7 rfl (lv_at hl 1 rfl) ?_
  refine lv_imul hx hb dX12_at_8 ?_
  refine lv_iadd hx hb dX12_at_9 ?_
  refine lv_iload_n hx hb dX12_at_10 rfl (lv_at hl 2 rfl) ?_
  refine lv_iadd hx hb dX12_at_11 ?_
  refine lv_topi (fun x_1 ex_1 => ?_)
  exact W.iret (v := x_1) hx hb hr (fun t ht hW => ⟨_, rfl, ex_1, ht⟩) (fun q h => absurd h List.not_mem_nil) dX12_at_12
set_option maxHeartbeats 4000000 in
set_option maxRecDepth 100000 in
theorem m_isItem0 (l : Launch) (dC : Nat → ClassId) (dI : Nat → Nat → Nat) (h0 : Nat) (v : Nat → Nat) (p0 : Int32) : Met l yX12_isItem wsX12_isItem ({ frames := 1, cells := 0, slots := 0, locals := 22 }) (va_Pc [.ref h0, .int p0] (PW dC dI [(h0, .inr (11, mO v 0 0 0 0 0 0 0 0))] [])) (vp_Si (fun r => r = 0)) 0 0 (fun _ => False) := by
  refine Met.ofW (cc := cX12_isItem) (maxL := 2) (ret := (some .boolean)) (by decide) rfl ?_
  intro p e s m args below meth c s₁ B hml hv
  obtain ⟨rfl, hP, hK, hN⟩ := hv
  have hx := B.exec
  have hb := B.bytes
  have hr := B.returns
  have hts := atoms_spec (ws := wsX12_isItem) B.pre
  have hown : s.vm.findClass RX12 = some m.cls := findClass_of_methodNamed B.named
  have hlocks := B.notSynchronized
  have hl := lv_entry ([.ref h0, .int p0]) (n := 2) (Nat.le_of_ble_eq_true rfl)
  rw [lg_entry_eq]
  generalize (lg_sl ([.ref h0, .int p0]) ++ List.replicate (2 - (lg_sl ([.ref h0, .int p0])).length) Slot.unset).toArray = ls at hl ⊢
  have hl : lv_has ls 2 [(0, .ref h0), (1, .int p0)] := hl
  refine lv_iload_n hx hb dX12_isItem_0 rfl (lv_at hl 1 rfl) ?_
  refine lv_iconst (v := 0) hx hb dX12_isItem_1 (by decide) ?_
  refine lv_aload_n hx hb dX12_isItem_2 rfl (lv_at hl 0 rfl) ?_
  refine va_get (D := (dC, dI)) (ci := 11) (v := .int 0) (C := RX12) (T := TX12) (N := 52) hx hb hts (by decide +kernel) hown hK hP 0 rfl rfl 3 (by decide) (hts (.fieldLink RX12 147 "PageOneModel" "items" "I") (by decide +kernel)) (fun _ h9 => h9) rfl dX12_isItem_3 ?_
  refine lv_iconst (v := 1) hx hb dX12_isItem_6 (by decide) ?_
  refine lv_isub hx hb dX12_isItem_7 ?_
  refine lv_topi (fun k_1 ek_1 => ?_)
  obtain rfl : k_1 = (-1) := ek_1.trans (by decide)
  have hPc := hP.sub (ws' := []) [] rfl
  have hKc := hK.sub (tys' := []) [] rfl
  refine vp_callSi (va_runS (As := [.int p0, .int 0, .int (-1)]) (rest := []) ⟨hx, hb, hml, hown, hts⟩ (m_in l dC dI p0 0 (-1)) (va_cwS 3 hts gX12_isItem_X12_in rfl rfl rfl (by decide +kernel) ⟨Nat.le_of_ble_eq_true rfl, Nat.le_of_ble_eq_true rfl⟩) ⟨pw_fb, fun U hU hW => ⟨rfl, pw_to hU hW hPc hKc hN⟩⟩ rfl rfl hl.1 rfl (lv_room (Nat.le_of_ble_eq_true rfl)) dX12_isItem_8 ⟨Nat.le_of_ble_eq_true rfl, Nat.le_of_ble_eq_true rfl⟩).run (fun r hw => ?_)
  obtain rfl : r = 0 := b_f hw (bw_none _)
  exact W.zret (v := 0) hx hb hr (by decide) (fun t ht hW => ⟨_, rfl, rfl, ht⟩) (fun q h => absurd h List.not_mem_nil) dX12_isItem_11
set_option maxHeartbeats 4000000 in
set_option maxRecDepth 100000 in
theorem m_isKind0 (l : Launch) (dC : Nat → ClassId) (dI : Nat → Nat → Nat) (h0 : Nat) (v : Nat → Nat) (p0 p1 : Int32) : Met l yX12_isKind wsX12_isKind ({ frames := 2, cells := 0, slots := 0, locals := 43 }) (va_Pc [.ref h0, .int p0, .int p1] (PW dC dI [(h0, .inr (11, mO v 0 0 0 0 0 0 0 0))] [])) (vp_Si (fun r => r = 0)) 0 0 (fun _ => False) := by
  refine Met.ofW (cc := cX12_isKind) (maxL := 3) (ret := (some .boolean)) (by decide) rfl ?_
  intro p e s m args below meth c s₁ B hml hv
  obtain ⟨rfl, hP, hK, hN⟩ := hv
  have hx := B.exec
  have hb := B.bytes
  have hr := B.returns
  have hts := atoms_spec (ws := wsX12_isKind) B.pre
  have hown : s.vm.findClass RX12 = some m.cls := findClass_of_methodNamed B.named
  have hlocks := B.notSynchronized
  have hl := lv_entry ([.ref h0, .int p0, .int p1]) (n := 3) (Nat.le_of_ble_eq_true rfl)
  rw [lg_entry_eq]
  generalize (lg_sl ([.ref h0, .int p0, .int p1]) ++ List.replicate (3 - (lg_sl ([.ref h0, .int p0, .int p1])).length) Slot.unset).toArray = ls at hl ⊢
  have hl : lv_has ls 3 [(0, .ref h0), (1, .int p0), (2, .int p1)] := hl
  refine lv_aload_n hx hb dX12_isKind_0 rfl (lv_at hl 0 rfl) ?_
  refine lv_iload_n hx hb dX12_isKind_1 rfl (lv_at hl 1 rfl) ?_
  have hPc := hP.sub (ws' := [(h0, .inr (11, mO v 0 0 0 0 0 0 0 0))]) [0] rfl
  have hKc := hK.sub (tys' := []) [] rfl
  refine vp_callSi (va_runV (As := [.int p0]) (rest := []) ⟨hx, hb, hml, hown, hts⟩ (m_isItem0 l dC dI h0 v p0) (cwV 1 hts gX12_isKind_X12_isItem rfl rfl rfl (by decide +kernel) ⟨Nat.le_of_ble_eq_true rfl, Nat.le_of_ble_eq_true rfl⟩) ⟨pw_fb, va_recv hKc hPc (ci := 11) (q0 := 0) rfl rfl, fun U hU hW => ⟨rfl, pw_to hU hW hPc hKc hN⟩⟩ rfl rfl hl.1 rfl (lv_room (Nat.le_of_ble_eq_true rfl)) dX12_isKind_2 ⟨Nat.le_of_ble_eq_true rfl, Nat.le_of_ble_eq_true rfl⟩).run (fun r hw => ?_)
  obtain rfl : r = 0 := hw
  refine lv_if_eq (tgt := 22) hx hb dX12_isKind_5 (by decide) (fun c_1 => ?_) (fun c_1 => absurd (by decide) c_1)
  refine lv_iconst (v := 0) hx hb dX12_isKind_22 (by decide) ?_
  exact W.zret (v := 0) hx hb hr (by decide) (fun t ht hW => ⟨_, rfl, rfl, ht⟩) (fun q h => absurd h List.not_mem_nil) dX12_isKind_23
set_option maxHeartbeats 4000000 in
set_option maxRecDepth 100000 in
theorem m_isCell0 (l : Launch) (dC : Nat → ClassId) (dI : Nat → Nat → Nat) (h0 : Nat) (v : Nat → Nat) (cI : ClassId) (p0 p1 p2 : Int32) : Met l yX12_isCell wsX12_isCell ({ frames := 2, cells := 0, slots := 0, locals := 42 }) (va_Pc [.ref h0, .int p0, .int p1, .int p2] (PW dC dI [(h0, .inr (11, mO v 0 0 0 0 0 0 0 0)), ((v 0), .inl (cI, 96, .inl (fun _ => 0)))] [(cI, .int)])) (vp_Si (fun r => r = 0)) 0 0 (fun _ => False) := by
  refine Met.ofW (cc := cX12_isCell) (maxL := 4) (ret := (some .boolean)) (by decide) rfl ?_
  intro p e s m args below meth c s₁ B hml hv
  obtain ⟨rfl, hP, hK, hN⟩ := hv
  have hx := B.exec
  have hb := B.bytes
  have hr := B.returns
  have hts := atoms_spec (ws := wsX12_isCell) B.pre
  have hown : s.vm.findClass RX12 = some m.cls := findClass_of_methodNamed B.named
  have hlocks := B.notSynchronized
  have hl := lv_entry ([.ref h0, .int p0, .int p1, .int p2]) (n := 4) (Nat.le_of_ble_eq_true rfl)
  rw [lg_entry_eq]
  generalize (lg_sl ([.ref h0, .int p0, .int p1, .int p2]) ++ List.replicate (4 - (lg_sl ([.ref h0, .int p0, .int p1, .int p2])).length) Slot.unset).toArray = ls at hl ⊢
  have hl : lv_has ls 4 [(0, .ref h0), (1, .int p0), (2, .int p1), (3, .int p2)] := hl
  refine lv_iload_n hx hb dX12_isCell_0 rfl (lv_at hl 1 rfl) ?_
  have hPc := hP.sub (ws' := []) [] rfl
  have hKc := hK.sub (tys' := []) [] rfl
  refine vp_callSi (va_runS (As := [.int p0]) (rest := []) ⟨hx, hb, hml, hown, hts⟩ (m_isPage l dC dI p0) (va_cwS 1 hts gX12_isCell_X12_isPage rfl rfl rfl (by decide +kernel) ⟨Nat.le_of_ble_eq_true rfl, Nat.le_of_ble_eq_true rfl⟩) ⟨pw_fb, fun U hU hW => ⟨rfl, pw_to hU hW hPc hKc hN⟩⟩ rfl rfl hl.1 rfl (lv_room (Nat.le_of_ble_eq_true rfl)) dX12_isCell_1 ⟨Nat.le_of_ble_eq_true rfl, Nat.le_of_ble_eq_true rfl⟩).run (fun r hw => ?_)
  rcases Bool.eq_false_or_eq_true (bw p0 0 11) with b_1 | b_1
  ·
    obtain rfl : r = 1 := b_t hw b_1
    refine lv_if_eq (tgt := 42) hx hb dX12_isCell_4 (by decide) (fun c_2 => absurd c_2 (by decide)) (fun c_2 => ?_)
    refine lv_iload_n hx hb dX12_isCell_7 rfl (lv_at hl 2 rfl) ?_
    refine lv_iconst (v := 0) hx hb dX12_isCell_8 (by decide) ?_
    refine lv_bipush (v := 7) hx hb dX12_isCell_9 (by decide) ?_
    have hPc := hP.sub (ws' := []) [] rfl
    have hKc := hK.sub (tys' := []) [] rfl
    refine vp_callSi (va_runS (As := [.int p1, .int 0, .int 7]) (rest := []) ⟨hx, hb, hml, hown, hts⟩ (m_in l dC dI p1 0 7) (va_cwS 3 hts gX12_isCell_X12_in rfl rfl rfl (by decide +kernel) ⟨Nat.le_of_ble_eq_true rfl, Nat.le_of_ble_eq_true rfl⟩) ⟨pw_fb, fun U hU hW => ⟨rfl, pw_to hU hW hPc hKc hN⟩⟩ rfl rfl hl.1 rfl (lv_room (Nat.le_of_ble_eq_true rfl)) dX12_isCell_11 ⟨Nat.le_of_ble_eq_true rfl, Nat.le_of_ble_eq_true rfl⟩).run (fun r hw => ?_)
    rcases Bool.eq_false_or_eq_true (bw p1 0 7) with b_3 | b_3
    ·
      obtain rfl : r = 1 := b_t hw b_3
      refine lv_if_eq (tgt := 42) hx hb dX12_isCell_14 (by decide) (fun c_4 => absurd c_4 (by decide)) (fun c_4 => ?_)
      refine lv_iload_n hx hb dX12_isCell_17 rfl (lv_at hl 3 rfl) ?_
      refine lv_iconst (v := 0) hx hb dX12_isCell_18 (by decide) ?_
      refine lv_aload_n hx hb dX12_isCell_19 rfl (lv_at hl 0 rfl) ?_
      refine va_get (D := (dC, dI)) (ci := 11) (v := .ref (v 0)) (C := RX12) (T := TX12) (N := 52) hx hb hts (by decide +kernel) hown hK hP 0 rfl rfl 0 (by decide) (hts (.fieldLink RX12 7 "PageOneModel" "lines" "[I") (by decide +kernel)) (fun _ h9 => h9) rfl dX12_isCell_20 ?_
      refine lv_bipush (v := 8) hx hb dX12_isCell_23 (by decide) ?_
      refine lv_iload_n hx hb dX12_isCell_25 rfl (lv_at hl 1 rfl) ?_
      refine lv_imul hx hb dX12_isCell_26 ?_
      refine lv_iload_n hx hb dX12_isCell_27 rfl (lv_at hl 2 rfl) ?_
      refine lv_iadd hx hb dX12_isCell_28 ?_
      refine va_iald hx hb hK hP 1 0 rfl rfl (vin8 b_1 b_3) dX12_isCell_29 ?_
      refine lv_topi (fun k_5 ek_5 => ?_)
      obtain rfl : k_5 = 0 := ek_5
      refine lv_iconst (v := 1) hx hb dX12_isCell_30 (by decide) ?_
      refine lv_isub hx hb dX12_isCell_31 ?_
      refine lv_topi (fun k_6 ek_6 => ?_)
      obtain rfl : k_6 = (-1) := ek_6.trans (by decide)
      have hPc := hP.sub (ws' := []) [] rfl
      have hKc := hK.sub (tys' := []) [] rfl
      refine vp_callSi (va_runS (As := [.int p2, .int 0, .int (-1)]) (rest := []) ⟨hx, hb, hml, hown, hts⟩ (m_in l dC dI p2 0 (-1)) (va_cwS 3 hts gX12_isCell_X12_in rfl rfl rfl (by decide +kernel) ⟨Nat.le_of_ble_eq_true rfl, Nat.le_of_ble_eq_true rfl⟩) ⟨pw_fb, fun U hU hW => ⟨rfl, pw_to hU hW hPc hKc hN⟩⟩ rfl rfl hl.1 rfl (lv_room (Nat.le_of_ble_eq_true rfl)) dX12_isCell_32 ⟨Nat.le_of_ble_eq_true rfl, Nat.le_of_ble_eq_true rfl⟩).run (fun r hw => ?_)
      obtain rfl : r = 0 := b_f hw (bw_none _)
      refine lv_if_eq (tgt := 42) hx hb dX12_isCell_35 (by decide) (fun c_7 => ?_) (fun c_7 => absurd (by decide) c_7)
      refine lv_iconst (v := 0) hx hb dX12_isCell_42 (by decide) ?_
      exact W.zret (v := 0) hx hb hr (by decide) (fun t ht hW => ⟨_, rfl, rfl, ht⟩) (fun q h => absurd h List.not_mem_nil) dX12_isCell_43
    ·
      obtain rfl : r = 0 := b_f hw b_3
      refine lv_if_eq (tgt := 42) hx hb dX12_isCell_14 (by decide) (fun c_8 => ?_) (fun c_8 => absurd (by decide) c_8)
      refine lv_iconst (v := 0) hx hb dX12_isCell_42 (by decide) ?_
      exact W.zret (v := 0) hx hb hr (by decide) (fun t ht hW => ⟨_, rfl, rfl, ht⟩) (fun q h => absurd h List.not_mem_nil) dX12_isCell_43
  ·
    obtain rfl : r = 0 := b_f hw b_1
    refine lv_if_eq (tgt := 42) hx hb dX12_isCell_4 (by decide) (fun c_9 => ?_) (fun c_9 => absurd (by decide) c_9)
    refine lv_iconst (v := 0) hx hb dX12_isCell_42 (by decide) ?_
    exact W.zret (v := 0) hx hb hr (by decide) (fun t ht hW => ⟨_, rfl, rfl, ht⟩) (fun q h => absurd h List.not_mem_nil) dX12_isCell_43
set_option maxHeartbeats 4000000 in
set_option maxRecDepth 100000 in
theorem m_isNow0 (l : Launch) (dC : Nat → ClassId) (dI : Nat → Nat → Nat) (h0 : Nat) (v : Nat → Nat) (cZ : ClassId) (p0 : Int32) (hp : bw p0 0 11 = true) : Met l yX12_isNow wsX12_isNow ({ frames := 0, cells := 0, slots := 0, locals := 0 }) (va_Pc [.ref h0, .int p0] (PW dC dI [(h0, .inr (11, mO v 0 0 0 0 0 0 0 0)), ((v 40), .inl (cZ, 12, .inl (fun _ => 0)))] [(cZ, .boolean)])) (vp_Si (fun r => r = 0)) 0 0 (fun _ => False) := by
  refine Met.ofW (cc := cX12_isNow) (maxL := 2) (ret := (some .boolean)) (by decide) rfl ?_
  intro p e s m args below meth c s₁ B hml hv
  obtain ⟨rfl, hP, hK, hN⟩ := hv
  have hx := B.exec
  have hb := B.bytes
  have hr := B.returns
  have hts := atoms_spec (ws := wsX12_isNow) B.pre
  have hown : s.vm.findClass RX12 = some m.cls := findClass_of_methodNamed B.named
  have hlocks := B.notSynchronized
  have hl := lv_entry ([.ref h0, .int p0]) (n := 2) (Nat.le_of_ble_eq_true rfl)
  rw [lg_entry_eq]
  generalize (lg_sl ([.ref h0, .int p0]) ++ List.replicate (2 - (lg_sl ([.ref h0, .int p0])).length) Slot.unset).toArray = ls at hl ⊢
  have hl : lv_has ls 2 [(0, .ref h0), (1, .int p0)] := hl
  refine lv_aload_n hx hb dX12_isNow_0 rfl (lv_at hl 0 rfl) ?_
  refine va_get (D := (dC, dI)) (ci := 11) (v := .ref (v 40)) (C := RX12) (T := TX12) (N := 52) hx hb hts (by decide +kernel) hown hK hP 0 rfl rfl 40 (by decide) (hts (.fieldLink RX12 116 "PageOneModel" "isPlated" "[Z") (by decide +kernel)) (fun _ h9 => h9) rfl dX12_isNow_1 ?_
  refine lv_iload_n hx hb dX12_isNow_4 rfl (lv_at hl 1 rfl) ?_
  refine va_zald hx hb hK hP 1 0 rfl rfl (vin hp (by decide)) dX12_isNow_5 ?_
  refine lv_topi (fun k_1 ek_1 => ?_)
  obtain rfl : k_1 = 0 := ek_1
  refine lv_if_eq (tgt := 39) hx hb dX12_isNow_6 (by decide) (fun c_2 => ?_) (fun c_2 => absurd (by decide) c_2)
  refine lv_iconst (v := 0) hx hb dX12_isNow_39 (by decide) ?_
  exact W.zret (v := 0) hx hb hr (by decide) (fun t ht hW => ⟨_, rfl, rfl, ht⟩) (fun q h => absurd h List.not_mem_nil) dX12_isNow_40
set_option maxHeartbeats 4000000 in
set_option maxRecDepth 100000 in
theorem m_hasPiece_loop {p : Program} {l : Launch} {e : Env} {R : Room} {s : State} {m : MethodId} {args : Array Value} {below : List Frame} {meth : Method} {c : Code} {Q : State → Prop} {cells slots : Nat} {dC : Nat → ClassId} {dI : Nat → Nat → Nat} {h0 : Nat} {v : Nat → Nat} {cI : ClassId} {p0 : Int32} (hp : bw p0 0 11 = true) {H : Heap} {locs : List Loc} (hx : p.tables.exec = Jvm.exec) (hb : c.code = cX12_hasPiece) (hml : c.maxLocals = 4) (hts : ∀ w ∈ wsX12_hasPiece, w.before args s = true) (hown : s.vm.findClass RX12 = some m.cls) (hN : NN s) (hK : va_K (dC, dI) vwCl [(cI, .int)] s) (hP : va_P (dC, dI) vwCl [(h0, .inr (11, mO v 0 0 0 0 0 0 0 0)), ((v 2), .inl (cI, 5760, .inl (fun _ => (-2))))] H) (kx : ∀ (ls : Array Slot), lv_has ls 4 [(3, .int (nI 480)), (2, .int 0), (0, .ref h0), (1, .int p0)] → W p l e R s m args below meth c H locs cells slots Q (F0 m 59 ls [])) : ∀ (k i : Nat) (ls : Array Slot), i ≤ 480 → 480 - i < k → lv_has ls 4 [(3, .int (nI i)), (2, .int 0), (0, .ref h0), (1, .int p0)] → W p l e R s m args below meth c H locs cells slots Q (F0 m 4 ls []) := by
  intro k
  induction k with
  | zero => intro i ls h1 h2; exact absurd h2 (Nat.not_lt_zero _)
  | succ k ih =>
    intro i ls hi hk hl
    refine lv_iload_n hx hb dX12_hasPiece_4 rfl (lv_at hl 0 rfl) ?_
    refine lv_sipush (v := 480) hx hb dX12_hasPiece_5 (by decide) ?_
    refine lv_icmp_ge (tgt := 59) hx hb dX12_hasPiece_8 (by decide) (fun c_1 => ?_) (fun c_1 => ?_)
    ·
      have hie : i = 480 := lp_eq rfl (by decide) hi c_1
      subst hie
      exact kx ls (lv_sub hl [0, 1, 2, 3] rfl)
    ·
      have hlt : i < 480 := lp_lt rfl (by decide) hi c_1
      refine lv_iload_n hx hb dX12_hasPiece_11 rfl (lv_at hl 1 rfl) ?_
      refine lv_if_ne (tgt := 47) hx hb dX12_hasPiece_12 (by decide) (fun c_2 => absurd (by decide) c_2) (fun c_2 => ?_)
      refine lv_aload_n hx hb dX12_hasPiece_15 rfl (lv_at hl 2 rfl) ?_
      refine va_get (D := (dC, dI)) (ci := 11) (v := .ref (v 2)) (C := RX12) (T := TX12) (N := 52) hx hb hts (by decide +kernel) hown hK hP 0 rfl rfl 2 (by decide) (hts (.fieldLink RX12 16 "PageOneModel" "cell" "[I") (by decide +kernel)) (fun _ h9 => h9) rfl dX12_hasPiece_16 ?_
      refine lv_sipush (v := 480) hx hb dX12_hasPiece_19 (by decide) ?_
      refine lv_iload_n hx hb dX12_hasPiece_22 rfl (lv_at hl 3 rfl) ?_
      refine lv_imul hx hb dX12_hasPiece_23 ?_
      refine lv_iload_n hx hb dX12_hasPiece_24 rfl (lv_at hl 0 rfl) ?_
      refine lv_iadd hx hb dX12_hasPiece_25 ?_
      refine va_iald hx hb hK hP 1 0 rfl rfl (vinP hp hlt) dX12_hasPiece_26 ?_
      refine lv_topi (fun k_3 ek_3 => ?_)
      obtain rfl : k_3 = (-2) := ek_3
      refine lv_if_lt (tgt := 51) hx hb dX12_hasPiece_27 (by decide) (fun c_4 => ?_) (fun c_4 => absurd (by decide) c_4)
      refine lv_iconst (v := 0) hx hb dX12_hasPiece_51 (by decide) ?_
      refine lv_istore_n (lv' := [(2, .int 0), (3, .int (nI i)), (0, .ref h0), (1, .int p0)]) hx hb dX12_hasPiece_52 rfl hl (by decide) rfl (fun ls hl => ?_)
      refine lv_iinc (v := (nI (i + 1))) (lv' := [(3, .int (nI (i + 1))), (2, .int 0), (0, .ref h0), (1, .int p0)]) hx hb dX12_hasPiece_53 hl (k := 1) rfl (nI_1 i) (by decide) rfl (fun ls hl => ?_)
      refine lv_goto (tgt := 4) hx hb dX12_hasPiece_56 (by decide) ?_
      exact ih (i + 1) ls (by omega) (by omega) (lv_sub hl [0, 1, 2, 3] rfl)
set_option maxHeartbeats 4000000 in
set_option maxRecDepth 100000 in
theorem m_hasPiece0 (l : Launch) (dC : Nat → ClassId) (dI : Nat → Nat → Nat) (h0 : Nat) (v : Nat → Nat) (cI : ClassId) (p0 : Int32) (hp : bw p0 0 11 = true) : Met l yX12_hasPiece wsX12_hasPiece ({ frames := 0, cells := 0, slots := 0, locals := 0 }) (va_Pc [.ref h0, .int p0] (PW dC dI [(h0, .inr (11, mO v 0 0 0 0 0 0 0 0)), ((v 2), .inl (cI, 5760, .inl (fun _ => (-2))))] [(cI, .int)])) (vp_Si (fun r => r = 0)) 0 0 (fun _ => False) := by
  refine Met.ofW (cc := cX12_hasPiece) (maxL := 4) (ret := (some .boolean)) (by decide) rfl ?_
  intro p e s m args below meth c s₁ B hml hv
  obtain ⟨rfl, hP, hK, hN⟩ := hv
  have hx := B.exec
  have hb := B.bytes
  have hr := B.returns
  have hts := atoms_spec (ws := wsX12_hasPiece) B.pre
  have hown : s.vm.findClass RX12 = some m.cls := findClass_of_methodNamed B.named
  have hlocks := B.notSynchronized
  have hl := lv_entry ([.ref h0, .int p0]) (n := 4) (Nat.le_of_ble_eq_true rfl)
  rw [lg_entry_eq]
  generalize (lg_sl ([.ref h0, .int p0]) ++ List.replicate (4 - (lg_sl ([.ref h0, .int p0])).length) Slot.unset).toArray = ls at hl ⊢
  have hl : lv_has ls 4 [(0, .ref h0), (1, .int p0)] := hl
  refine lv_iconst (v := 0) hx hb dX12_hasPiece_0 (by decide) ?_
  refine lv_istore_n (lv' := [(2, .int 0), (0, .ref h0), (1, .int p0)]) hx hb dX12_hasPiece_1 rfl hl (by decide) rfl (fun ls hl => ?_)
  refine lv_iconst (v := 0) hx hb dX12_hasPiece_2 (by decide) ?_
  refine lv_istore_n (lv' := [(3, .int 0), (2, .int 0), (0, .ref h0), (1, .int p0)]) hx hb dX12_hasPiece_3 rfl hl (by decide) rfl (fun ls hl => ?_)
  refine m_hasPiece_loop hp hx hb hml hts hown hN hK hP (fun ls hl => ?_) 481 0 ls (by decide) (by decide) (lv_sub hl [0, 1, 2, 3] rfl)
  refine lv_iload_n hx hb dX12_hasPiece_59 rfl (lv_at hl 1 rfl) ?_
  exact W.zret (v := 0) hx hb hr (by decide) (fun t ht hW => ⟨_, rfl, rfl, ht⟩) (fun q h => absurd h List.not_mem_nil) dX12_hasPiece_60
set_option maxHeartbeats 4000000 in
set_option maxRecDepth 100000 in
theorem m_ends0 (l : Launch) (dC : Nat → ClassId) (dI : Nat → Nat → Nat) (h0 : Nat) (v : Nat → Nat) : Met l yX12_ends wsX12_ends ({ frames := 0, cells := 0, slots := 0, locals := 0 }) (va_Pc [.ref h0] (PW dC dI [(h0, .inr (11, mO v 0 0 0 0 0 0 0 0))] [])) (va_Sv (fun r => True)) 0 0 (fun _ => False) := by
  refine Met.ofW (cc := cX12_ends) (maxL := 3) (ret := none) (by decide) rfl ?_
  intro p e s m args below meth c s₁ B hml hv
  obtain ⟨rfl, hP, hK, hN⟩ := hv
  have hx := B.exec
  have hb := B.bytes
  have hr := B.returns
  have hts := atoms_spec (ws := wsX12_ends) B.pre
  have hown : s.vm.findClass RX12 = some m.cls := findClass_of_methodNamed B.named
  have hlocks := B.notSynchronized
  have hl := lv_entry ([.ref h0]) (n := 3) (Nat.le_of_ble_eq_true rfl)
  rw [lg_entry_eq]
  generalize (lg_sl ([.ref h0]) ++ List.replicate (3 - (lg_sl ([.ref h0])).length) Slot.unset).toArray = ls at hl ⊢
  have hl : lv_has ls 3 [(0, .ref h0)] := hl
  refine lv_iconst (v := 0) hx hb dX12_ends_0 (by decide) ?_
  refine lv_istore_n (lv' := [(1, .int 0), (0, .ref h0)]) hx hb dX12_ends_1 rfl hl (by decide) rfl (fun ls hl => ?_)
  refine lv_iload_n hx hb dX12_ends_2 rfl (lv_at hl 0 rfl) ?_
  refine lv_bipush (v := 12) hx hb dX12_ends_3 (by decide) ?_
  refine lv_icmp_ge (tgt := 160) hx hb dX12_ends_5 (by decide) (fun c_1 => absurd c_1 (by decide)) (fun c_1 => ?_)
  refine lv_iconst (v := 0) hx hb dX12_ends_8 (by decide) ?_
  refine lv_istore_n (lv' := [(2, .int 0), (1, .int 0), (0, .ref h0)]) hx hb dX12_ends_9 rfl hl (by decide) rfl (fun ls hl => ?_)
  refine lv_iload_n hx hb dX12_ends_10 rfl (lv_at hl 0 rfl) ?_
  refine lv_aload_n hx hb dX12_ends_11 rfl (lv_at hl 2 rfl) ?_
  refine va_get (D := (dC, dI)) (ci := 11) (v := .int 0) (C := RX12) (T := TX12) (N := 52) hx hb hts (by decide +kernel) hown hK hP 0 rfl rfl 3 (by decide) (hts (.fieldLink RX12 147 "PageOneModel" "items" "I") (by decide +kernel)) (fun _ h9 => h9) rfl dX12_ends_12 ?_
  refine lv_icmp_ge (tgt := 154) hx hb dX12_ends_15 (by decide) (fun c_2 => ?_) (fun c_2 => absurd (by decide) c_2)
  refine lv_iinc (v := 1) (lv' := [(1, .int 1), (2, .int 0), (0, .ref h0)]) hx hb dX12_ends_154 hl (k := 1) rfl (by decide) (by decide) rfl (fun ls hl => ?_)
  refine lv_goto (tgt := 2) hx hb dX12_ends_157 (by decide) ?_
  refine lv_iload_n hx hb dX12_ends_2 rfl (lv_at hl 0 rfl) ?_
  refine lv_bipush (v := 12) hx hb dX12_ends_3 (by decide) ?_
  refine lv_icmp_ge (tgt := 160) hx hb dX12_ends_5 (by decide) (fun c_3 => absurd c_3 (by decide)) (fun c_3 => ?_)
  refine lv_iconst (v := 0) hx hb dX12_ends_8 (by decide) ?_
  refine lv_istore_n (lv' := [(2, .int 0), (1, .int 1), (0, .ref h0)]) hx hb dX12_ends_9 rfl hl (by decide) rfl (fun ls hl => ?_)
  refine lv_iload_n hx hb dX12_ends_10 rfl (lv_at hl 0 rfl) ?_
  refine lv_aload_n hx hb dX12_ends_11 rfl (lv_at hl 2 rfl) ?_
  refine va_get (D := (dC, dI)) (ci := 11) (v := .int 0) (C := RX12) (T := TX12) (N := 52) hx hb hts (by decide +kernel) hown hK hP 0 rfl rfl 3 (by decide) (hts (.fieldLink RX12 147 "PageOneModel" "items" "I") (by decide +kernel)) (fun _ h9 => h9) rfl dX12_ends_12 ?_
  refine lv_icmp_ge (tgt := 154) hx hb dX12_ends_15 (by decide) (fun c_4 => ?_) (fun c_4 => absurd (by decide) c_4)
  refine lv_iinc (v := 2) (lv' := [(1, .int 2), (2, .int 0), (0, .ref h0)]) hx hb dX12_ends_154 hl (k := 1) rfl (by decide) (by decide) rfl (fun ls hl => ?_)
  refine lv_goto (tgt := 2) hx hb dX12_ends_157 (by decide) ?_
  refine lv_iload_n hx hb dX12_ends_2 rfl (lv_at hl 0 rfl) ?_
  refine lv_bipush (v := 12) hx hb dX12_ends_3 (by decide) ?_
  refine lv_icmp_ge (tgt := 160) hx hb dX12_ends_5 (by decide) (fun c_5 => absurd c_5 (by decide)) (fun c_5 => ?_)
  refine lv_iconst (v := 0) hx hb dX12_ends_8 (by decide) ?_
  refine lv_istore_n (lv' := [(2, .int 0), (1, .int 2), (0, .ref h0)]) hx hb dX12_ends_9 rfl hl (by decide) rfl (fun ls hl => ?_)
  refine lv_iload_n hx hb dX12_ends_10 rfl (lv_at hl 0 rfl) ?_
  refine lv_aload_n hx hb dX12_ends_11 rfl (lv_at hl 2 rfl) ?_
  refine va_get (D := (dC, dI)) (ci := 11) (v := .int 0) (C := RX12) (T := TX12) (N := 52) hx hb hts (by decide +kernel) hown hK hP 0 rfl rfl 3 (by decide) (hts (.fieldLink RX12 147 "PageOneModel" "items" "I") (by decide +kernel)) (fun _ h9 => h9) rfl dX12_ends_12 ?_
  refine lv_icmp_ge (tgt := 154) hx hb dX12_ends_15 (by decide) (fun c_6 => ?_) (fun c_6 => absurd (by decide) c_6)
  refine lv_iinc (v := 3) (lv' := [(1, .int 3), (2, .int 0), (0, .ref h0)]) hx hb dX12_ends_154 hl (k := 1) rfl (by decide) (by decide) rfl (fun ls hl => ?_)
  refine lv_goto (tgt := 2) hx hb dX12_ends_157 (by decide) ?_
  refine lv_iload_n hx hb dX12_ends_2 rfl (lv_at hl 0 rfl) ?_
  refine lv_bipush (v := 12) hx hb dX12_ends_3 (by decide) ?_
  refine lv_icmp_ge (tgt := 160) hx hb dX12_ends_5 (by decide) (fun c_7 => absurd c_7 (by decide)) (fun c_7 => ?_)
  refine lv_iconst (v := 0) hx hb dX12_ends_8 (by decide) ?_
  refine lv_istore_n (lv' := [(2, .int 0), (1, .int 3), (0, .ref h0)]) hx hb dX12_ends_9 rfl hl (by decide) rfl (fun ls hl => ?_)
  refine lv_iload_n hx hb dX12_ends_10 rfl (lv_at hl 0 rfl) ?_
  refine lv_aload_n hx hb dX12_ends_11 rfl (lv_at hl 2 rfl) ?_
  refine va_get (D := (dC, dI)) (ci := 11) (v := .int 0) (C := RX12) (T := TX12) (N := 52) hx hb hts (by decide +kernel) hown hK hP 0 rfl rfl 3 (by decide) (hts (.fieldLink RX12 147 "PageOneModel" "items" "I") (by decide +kernel)) (fun _ h9 => h9) rfl dX12_ends_12 ?_
  refine lv_icmp_ge (tgt := 154) hx hb dX12_ends_15 (by decide) (fun c_8 => ?_) (fun c_8 => absurd (by decide) c_8)
  refine lv_iinc (v := 4) (lv' := [(1, .int 4), (2, .int 0), (0, .ref h0)]) hx hb dX12_ends_154 hl (k := 1) rfl (by decide) (by decide) rfl (fun ls hl => ?_)
  refine lv_goto (tgt := 2) hx hb dX12_ends_157 (by decide) ?_
  refine lv_iload_n hx hb dX12_ends_2 rfl (lv_at hl 0 rfl) ?_
  refine lv_bipush (v := 12) hx hb dX12_ends_3 (by decide) ?_
  refine lv_icmp_ge (tgt := 160) hx hb dX12_ends_5 (by decide) (fun c_9 => absurd c_9 (by decide)) (fun c_9 => ?_)
  refine lv_iconst (v := 0) hx hb dX12_ends_8 (by decide) ?_
  refine lv_istore_n (lv' := [(2, .int 0), (1, .int 4), (0, .ref h0)]) hx hb dX12_ends_9 rfl hl (by decide) rfl (fun ls hl => ?_)
  refine lv_iload_n hx hb dX12_ends_10 rfl (lv_at hl 0 rfl) ?_
  refine lv_aload_n hx hb dX12_ends_11 rfl (lv_at hl 2 rfl) ?_
  refine va_get (D := (dC, dI)) (ci := 11) (v := .int 0) (C := RX12) (T := TX12) (N := 52) hx hb hts (by decide +kernel) hown hK hP 0 rfl rfl 3 (by decide) (hts (.fieldLink RX12 147 "PageOneModel" "items" "I") (by decide +kernel)) (fun _ h9 => h9) rfl dX12_ends_12 ?_
  refine lv_icmp_ge (tgt := 154) hx hb dX12_ends_15 (by decide) (fun c_10 => ?_) (fun c_10 => absurd (by decide) c_10)
  refine lv_iinc (v := 5) (lv' := [(1, .int 5), (2, .int 0), (0, .ref h0)]) hx hb dX12_ends_154 hl (k := 1) rfl (by decide) (by decide) rfl (fun ls hl => ?_)
  refine lv_goto (tgt := 2) hx hb dX12_ends_157 (by decide) ?_
  refine lv_iload_n hx hb dX12_ends_2 rfl (lv_at hl 0 rfl) ?_
  refine lv_bipush (v := 12) hx hb dX12_ends_3 (by decide) ?_
  refine lv_icmp_ge (tgt := 160) hx hb dX12_ends_5 (by decide) (fun c_11 => absurd c_11 (by decide)) (fun c_11 => ?_)
  refine lv_iconst (v := 0) hx hb dX12_ends_8 (by decide) ?_
  refine lv_istore_n (lv' := [(2, .int 0), (1, .int 5), (0, .ref h0)]) hx hb dX12_ends_9 rfl hl (by decide) rfl (fun ls hl => ?_)
  refine lv_iload_n hx hb dX12_ends_10 rfl (lv_at hl 0 rfl) ?_
  refine lv_aload_n hx hb dX12_ends_11 rfl (lv_at hl 2 rfl) ?_
  refine va_get (D := (dC, dI)) (ci := 11) (v := .int 0) (C := RX12) (T := TX12) (N := 52) hx hb hts (by decide +kernel) hown hK hP 0 rfl rfl 3 (by decide) (hts (.fieldLink RX12 147 "PageOneModel" "items" "I") (by decide +kernel)) (fun _ h9 => h9) rfl dX12_ends_12 ?_
  refine lv_icmp_ge (tgt := 154) hx hb dX12_ends_15 (by decide) (fun c_12 => ?_) (fun c_12 => absurd (by decide) c_12)
  refine lv_iinc (v := 6) (lv' := [(1, .int 6), (2, .int 0), (0, .ref h0)]) hx hb dX12_ends_154 hl (k := 1) rfl (by decide) (by decide) rfl (fun ls hl => ?_)
  refine lv_goto (tgt := 2) hx hb dX12_ends_157 (by decide) ?_
  refine lv_iload_n hx hb dX12_ends_2 rfl (lv_at hl 0 rfl) ?_
  refine lv_bipush (v := 12) hx hb dX12_ends_3 (by decide) ?_
  refine lv_icmp_ge (tgt := 160) hx hb dX12_ends_5 (by decide) (fun c_13 => absurd c_13 (by decide)) (fun c_13 => ?_)
  refine lv_iconst (v := 0) hx hb dX12_ends_8 (by decide) ?_
  refine lv_istore_n (lv' := [(2, .int 0), (1, .int 6), (0, .ref h0)]) hx hb dX12_ends_9 rfl hl (by decide) rfl (fun ls hl => ?_)
  refine lv_iload_n hx hb dX12_ends_10 rfl (lv_at hl 0 rfl) ?_
  refine lv_aload_n hx hb dX12_ends_11 rfl (lv_at hl 2 rfl) ?_
  refine va_get (D := (dC, dI)) (ci := 11) (v := .int 0) (C := RX12) (T := TX12) (N := 52) hx hb hts (by decide +kernel) hown hK hP 0 rfl rfl 3 (by decide) (hts (.fieldLink RX12 147 "PageOneModel" "items" "I") (by decide +kernel)) (fun _ h9 => h9) rfl dX12_ends_12 ?_
  refine lv_icmp_ge (tgt := 154) hx hb dX12_ends_15 (by decide) (fun c_14 => ?_) (fun c_14 => absurd (by decide) c_14)
  refine lv_iinc (v := 7) (lv' := [(1, .int 7), (2, .int 0), (0, .ref h0)]) hx hb dX12_ends_154 hl (k := 1) rfl (by decide) (by decide) rfl (fun ls hl => ?_)
  refine lv_goto (tgt := 2) hx hb dX12_ends_157 (by decide) ?_
  refine lv_iload_n hx hb dX12_ends_2 rfl (lv_at hl 0 rfl) ?_
  refine lv_bipush (v := 12) hx hb dX12_ends_3 (by decide) ?_
  refine lv_icmp_ge (tgt := 160) hx hb dX12_ends_5 (by decide) (fun c_15 => absurd c_15 (by decide)) (fun c_15 => ?_)
  refine lv_iconst (v := 0) hx hb dX12_ends_8 (by decide) ?_
  refine lv_istore_n (lv' := [(2, .int 0), (1, .int 7), (0, .ref h0)]) hx hb dX12_ends_9 rfl hl (by decide) rfl (fun ls hl => ?_)
  refine lv_iload_n hx hb dX12_ends_10 rfl (lv_at hl 0 rfl) ?_
  refine lv_aload_n hx hb dX12_ends_11 rfl (lv_at hl 2 rfl) ?_
  refine va_get (D := (dC, dI)) (ci := 11) (v := .int 0) (C := RX12) (T := TX12) (N := 52) hx hb hts (by decide +kernel) hown hK hP 0 rfl rfl 3 (by decide) (hts (.fieldLink RX12 147 "PageOneModel" "items" "I") (by decide +kernel)) (fun _ h9 => h9) rfl dX12_ends_12 ?_
  refine lv_icmp_ge (tgt := 154) hx hb dX12_ends_15 (by decide) (fun c_16 => ?_) (fun c_16 => absurd (by decide) c_16)
  refine lv_iinc (v := 8) (lv' := [(1, .int 8), (2, .int 0), (0, .ref h0)]) hx hb dX12_ends_154 hl (k := 1) rfl (by decide) (by decide) rfl (fun ls hl => ?_)
  refine lv_goto (tgt := 2) hx hb dX12_ends_157 (by decide) ?_
  refine lv_iload_n hx hb dX12_ends_2 rfl (lv_at hl 0 rfl) ?_
  refine lv_bipush (v := 12) hx hb dX12_ends_3 (by decide) ?_
  refine lv_icmp_ge (tgt := 160) hx hb dX12_ends_5 (by decide) (fun c_17 => absurd c_17 (by decide)) (fun c_17 => ?_)
  refine lv_iconst (v := 0) hx hb dX12_ends_8 (by decide) ?_
  refine lv_istore_n (lv' := [(2, .int 0), (1, .int 8), (0, .ref h0)]) hx hb dX12_ends_9 rfl hl (by decide) rfl (fun ls hl => ?_)
  refine lv_iload_n hx hb dX12_ends_10 rfl (lv_at hl 0 rfl) ?_
  refine lv_aload_n hx hb dX12_ends_11 rfl (lv_at hl 2 rfl) ?_
  refine va_get (D := (dC, dI)) (ci := 11) (v := .int 0) (C := RX12) (T := TX12) (N := 52) hx hb hts (by decide +kernel) hown hK hP 0 rfl rfl 3 (by decide) (hts (.fieldLink RX12 147 "PageOneModel" "items" "I") (by decide +kernel)) (fun _ h9 => h9) rfl dX12_ends_12 ?_
  refine lv_icmp_ge (tgt := 154) hx hb dX12_ends_15 (by decide) (fun c_18 => ?_) (fun c_18 => absurd (by decide) c_18)
  refine lv_iinc (v := 9) (lv' := [(1, .int 9), (2, .int 0), (0, .ref h0)]) hx hb dX12_ends_154 hl (k := 1) rfl (by decide) (by decide) rfl (fun ls hl => ?_)
  refine lv_goto (tgt := 2) hx hb dX12_ends_157 (by decide) ?_
  refine lv_iload_n hx hb dX12_ends_2 rfl (lv_at hl 0 rfl) ?_
  refine lv_bipush (v := 12) hx hb dX12_ends_3 (by decide) ?_
  refine lv_icmp_ge (tgt := 160) hx hb dX12_ends_5 (by decide) (fun c_19 => absurd c_19 (by decide)) (fun c_19 => ?_)
  refine lv_iconst (v := 0) hx hb dX12_ends_8 (by decide) ?_
  refine lv_istore_n (lv' := [(2, .int 0), (1, .int 9), (0, .ref h0)]) hx hb dX12_ends_9 rfl hl (by decide) rfl (fun ls hl => ?_)
  refine lv_iload_n hx hb dX12_ends_10 rfl (lv_at hl 0 rfl) ?_
  refine lv_aload_n hx hb dX12_ends_11 rfl (lv_at hl 2 rfl) ?_
  refine va_get (D := (dC, dI)) (ci := 11) (v := .int 0) (C := RX12) (T := TX12) (N := 52) hx hb hts (by decide +kernel) hown hK hP 0 rfl rfl 3 (by decide) (hts (.fieldLink RX12 147 "PageOneModel" "items" "I") (by decide +kernel)) (fun _ h9 => h9) rfl dX12_ends_12 ?_
  refine lv_icmp_ge (tgt := 154) hx hb dX12_ends_15 (by decide) (fun c_20 => ?_) (fun c_20 => absurd (by decide) c_20)
  refine lv_iinc (v := 10) (lv' := [(1, .int 10), (2, .int 0), (0, .ref h0)]) hx hb dX12_ends_154 hl (k := 1) rfl (by decide) (by decide) rfl (fun ls hl => ?_)
  refine lv_goto (tgt := 2) hx hb dX12_ends_157 (by decide) ?_
  refine lv_iload_n hx hb dX12_ends_2 rfl (lv_at hl 0 rfl) ?_
  refine lv_bipush (v := 12) hx hb dX12_ends_3 (by decide) ?_
  refine lv_icmp_ge (tgt := 160) hx hb dX12_ends_5 (by decide) (fun c_21 => absurd c_21 (by decide)) (fun c_21 => ?_)
  refine lv_iconst (v := 0) hx hb dX12_ends_8 (by decide) ?_
  refine lv_istore_n (lv' := [(2, .int 0), (1, .int 10), (0, .ref h0)]) hx hb dX12_ends_9 rfl hl (by decide) rfl (fun ls hl => ?_)
  refine lv_iload_n hx hb dX12_ends_10 rfl (lv_at hl 0 rfl) ?_
  refine lv_aload_n hx hb dX12_ends_11 rfl (lv_at hl 2 rfl) ?_
  refine va_get (D := (dC, dI)) (ci := 11) (v := .int 0) (C := RX12) (T := TX12) (N := 52) hx hb hts (by decide +kernel) hown hK hP 0 rfl rfl 3 (by decide) (hts (.fieldLink RX12 147 "PageOneModel" "items" "I") (by decide +kernel)) (fun _ h9 => h9) rfl dX12_ends_12 ?_
  refine lv_icmp_ge (tgt := 154) hx hb dX12_ends_15 (by decide) (fun c_22 => ?_) (fun c_22 => absurd (by decide) c_22)
  refine lv_iinc (v := 11) (lv' := [(1, .int 11), (2, .int 0), (0, .ref h0)]) hx hb dX12_ends_154 hl (k := 1) rfl (by decide) (by decide) rfl (fun ls hl => ?_)
  refine lv_goto (tgt := 2) hx hb dX12_ends_157 (by decide) ?_
  refine lv_iload_n hx hb dX12_ends_2 rfl (lv_at hl 0 rfl) ?_
  refine lv_bipush (v := 12) hx hb dX12_ends_3 (by decide) ?_
  refine lv_icmp_ge (tgt := 160) hx hb dX12_ends_5 (by decide) (fun c_23 => absurd c_23 (by decide)) (fun c_23 => ?_)
  refine lv_iconst (v := 0) hx hb dX12_ends_8 (by decide) ?_
  refine lv_istore_n (lv' := [(2, .int 0), (1, .int 11), (0, .ref h0)]) hx hb dX12_ends_9 rfl hl (by decide) rfl (fun ls hl => ?_)
  refine lv_iload_n hx hb dX12_ends_10 rfl (lv_at hl 0 rfl) ?_
  refine lv_aload_n hx hb dX12_ends_11 rfl (lv_at hl 2 rfl) ?_
  refine va_get (D := (dC, dI)) (ci := 11) (v := .int 0) (C := RX12) (T := TX12) (N := 52) hx hb hts (by decide +kernel) hown hK hP 0 rfl rfl 3 (by decide) (hts (.fieldLink RX12 147 "PageOneModel" "items" "I") (by decide +kernel)) (fun _ h9 => h9) rfl dX12_ends_12 ?_
  refine lv_icmp_ge (tgt := 154) hx hb dX12_ends_15 (by decide) (fun c_24 => ?_) (fun c_24 => absurd (by decide) c_24)
  refine lv_iinc (v := 12) (lv' := [(1, .int 12), (2, .int 0), (0, .ref h0)]) hx hb dX12_ends_154 hl (k := 1) rfl (by decide) (by decide) rfl (fun ls hl => ?_)
  refine lv_goto (tgt := 2) hx hb dX12_ends_157 (by decide) ?_
  refine lv_iload_n hx hb dX12_ends_2 rfl (lv_at hl 0 rfl) ?_
  refine lv_bipush (v := 12) hx hb dX12_ends_3 (by decide) ?_
  refine lv_icmp_ge (tgt := 160) hx hb dX12_ends_5 (by decide) (fun c_25 => ?_) (fun c_25 => absurd (by decide) c_25)
  exact W.vret hx hb hr (fun t ht hW => ⟨rfl, trivial, ht⟩) (fun q h => absurd h List.not_mem_nil) dX12_ends_160
set_option maxHeartbeats 4000000 in
set_option maxRecDepth 100000 in
theorem m_breaks0 (l : Launch) (dC : Nat → ClassId) (dI : Nat → Nat → Nat) (h0 : Nat) (v : Nat → Nat) (cI : ClassId) (p0 : Int32) (hp : bw p0 0 11 = true) (sz : Nat) : Met l yX12_breaks wsX12_breaks ({ frames := 0, cells := 0, slots := 0, locals := 0 }) (va_Pc [.ref h0, .int p0] (fun U => U.heap.size = sz ∧ PW dC dI [(h0, .inr (11, mO v 0 0 0 0 0 0 0 0)), ((v 0), .inl (cI, 96, .inl (fun _ => 0)))] [(cI, .int)] U ∧ va_D (fun _ => True) [(h0, .inr (11, mO v 0 0 0 0 0 0 0 0)), ((v 0), .inl (cI, 96, .inl (fun _ => 0)))])) (va_Qv (fun _ : Unit => True) (fun _ t => va_P (dC, dI) vwCl [(h0, .inr (11, mO v 0 0 0 0 0 0 (-1) (-1)))] t.heap ∧ va_D (va_A [(h0, .inr (11, mO v 0 0 0 0 0 0 0 0)), ((v 0), .inl (cI, 96, .inl (fun _ => 0)))] sz) [(h0, .inr (11, mO v 0 0 0 0 0 0 (-1) (-1)))]) (va_A [(h0, .inr (11, mO v 0 0 0 0 0 0 0 0)), ((v 0), .inl (cI, 96, .inl (fun _ => 0)))] sz)) 0 0 (va_A [(h0, .inr (11, mO v 0 0 0 0 0 0 0 0)), ((v 0), .inl (cI, 96, .inl (fun _ => 0)))] sz) := by
  refine Met.ofW (cc := cX12_breaks) (maxL := 5) (ret := none) (by decide) rfl ?_
  intro p e s m args below meth c s₁ B hml hv
  obtain ⟨rfl, hsz, ⟨hP, hK, hN⟩, hD0⟩ := hv
  have hx := B.exec
  have hb := B.bytes
  have hr := B.returns
  have hts := atoms_spec (ws := wsX12_breaks) B.pre
  have hown : s.vm.findClass RX12 = some m.cls := findClass_of_methodNamed B.named
  have hlocks := B.notSynchronized
  subst hsz
  have hD := hD0.self (sz := s.heap.size)
  generalize hAe : va_A [(h0, .inr (11, mO v 0 0 0 0 0 0 0 0)), ((v 0), .inl (cI, 96, .inl (fun _ => 0)))] s.heap.size = A at hD ⊢
  have hA : ∀ q : Nat, s.heap.size ≤ q → A q := fun q h => by rw [← hAe]; exact Or.inr h
  have hS : va_S A s.heap s.heap [] := va_S.rf
  have hP : va_P (dC, dI) vwCl [(h0, .inr (11, mO v 0 0 0 0 0 0 0 0)), ((v 0), .inl (cI, 96, .inl (fun _ => 0)))] s.heap := hP
  have hl := lv_entry ([.ref h0, .int p0]) (n := 5) (Nat.le_of_ble_eq_true rfl)
  rw [lg_entry_eq]
  generalize (lg_sl ([.ref h0, .int p0]) ++ List.replicate (5 - (lg_sl ([.ref h0, .int p0])).length) Slot.unset).toArray = ls at hl ⊢
  have hl : lv_has ls 5 [(0, .ref h0), (1, .int p0)] := hl
  refine lv_aload_n hx hb dX12_breaks_0 rfl (lv_at hl 0 rfl) ?_
  refine lv_iconst (v := 0) hx hb dX12_breaks_1 (by decide) ?_
  refine va_put (D := (dC, dI)) (ci := 11) (v := .int 0) (ty := .int) (C := RX12) (T := TX12) (N := 52) hx hb hts (by decide +kernel) tyX12 tyX12_ok nmX12 hown hK hP hD hS 0 rfl rfl 49 (by decide) (hts (.fieldLink RX12 228 "PageOneModel" "wrong" "I") (by decide +kernel)) (fun _ h9 => h9) rfl (by decide +kernel) rfl rfl (Nat.le_of_ble_eq_true rfl) dX12_breaks_2 (fun H locs hP hD hS => ?_)
  have hP : va_P (dC, dI) vwCl [(h0, .inr (11, mO v 0 0 0 0 0 0 0 0)), ((v 0), .inl (cI, 96, .inl (fun _ => 0)))] H := hP
  have hD : va_D A [(h0, .inr (11, mO v 0 0 0 0 0 0 0 0)), ((v 0), .inl (cI, 96, .inl (fun _ => 0)))] := hD
  refine lv_aload_n hx hb dX12_breaks_5 rfl (lv_at hl 0 rfl) ?_
  refine lv_iconst (v := (-1)) hx hb dX12_breaks_6 (by decide) ?_
  refine va_put (D := (dC, dI)) (ci := 11) (v := .int (-1)) (ty := .int) (C := RX12) (T := TX12) (N := 52) hx hb hts (by decide +kernel) tyX12 tyX12_ok nmX12 hown hK hP hD hS 0 rfl rfl 50 (by decide) (hts (.fieldLink RX12 231 "PageOneModel" "wrongOne" "I") (by decide +kernel)) (fun _ h9 => h9) rfl (by decide +kernel) rfl rfl (Nat.le_of_ble_eq_true rfl) dX12_breaks_7 (fun H locs hP hD hS => ?_)
  have hP : va_P (dC, dI) vwCl [(h0, .inr (11, mO v 0 0 0 0 0 0 (-1) 0)), ((v 0), .inl (cI, 96, .inl (fun _ => 0)))] H := hP
  have hD : va_D A [(h0, .inr (11, mO v 0 0 0 0 0 0 (-1) 0)), ((v 0), .inl (cI, 96, .inl (fun _ => 0)))] := hD
  refine lv_aload_n hx hb dX12_breaks_10 rfl (lv_at hl 0 rfl) ?_
  refine lv_iconst (v := (-1)) hx hb dX12_breaks_11 (by decide) ?_
  refine va_put (D := (dC, dI)) (ci := 11) (v := .int (-1)) (ty := .int) (C := RX12) (T := TX12) (N := 52) hx hb hts (by decide +kernel) tyX12 tyX12_ok nmX12 hown hK hP hD hS 0 rfl rfl 51 (by decide) (hts (.fieldLink RX12 234 "PageOneModel" "wrongTwo" "I") (by decide +kernel)) (fun _ h9 => h9) rfl (by decide +kernel) rfl rfl (Nat.le_of_ble_eq_true rfl) dX12_breaks_12 (fun H locs hP hD hS => ?_)
  have hP : va_P (dC, dI) vwCl [(h0, .inr (11, mO v 0 0 0 0 0 0 (-1) (-1))), ((v 0), .inl (cI, 96, .inl (fun _ => 0)))] H := hP
  have hD : va_D A [(h0, .inr (11, mO v 0 0 0 0 0 0 (-1) (-1))), ((v 0), .inl (cI, 96, .inl (fun _ => 0)))] := hD
  refine lv_iconst (v := 0) hx hb dX12_breaks_15 (by decide) ?_
  refine lv_istore_n (lv' := [(2, .int 0), (0, .ref h0), (1, .int p0)]) hx hb dX12_breaks_16 rfl hl (by decide) rfl (fun ls hl => ?_)
  refine lv_iload_n hx hb dX12_breaks_17 rfl (lv_at hl 0 rfl) ?_
  refine lv_bipush (v := 8) hx hb dX12_breaks_18 (by decide) ?_
  refine lv_icmp_ge (tgt := 129) hx hb dX12_breaks_20 (by decide) (fun c_1 => absurd c_1 (by decide)) (fun c_1 => ?_)
  refine lv_iconst (v := 0) hx hb dX12_breaks_23 (by decide) ?_
  refine lv_istore_n (lv' := [(3, .int 0), (2, .int 0), (0, .ref h0), (1, .int p0)]) hx hb dX12_breaks_24 rfl hl (by decide) rfl (fun ls hl => ?_)
  refine lv_iload_n hx hb dX12_breaks_25 rfl (lv_at hl 0 rfl) ?_
  refine lv_aload_n hx hb dX12_breaks_26 rfl (lv_at hl 2 rfl) ?_
  refine va_get (D := (dC, dI)) (ci := 11) (v := .ref (v 0)) (C := RX12) (T := TX12) (N := 52) hx hb hts (by decide +kernel) hown hK hP 0 rfl rfl 0 (by decide) (hts (.fieldLink RX12 7 "PageOneModel" "lines" "[I") (by decide +kernel)) (fun _ h9 => h9) rfl dX12_breaks_27 ?_
  refine lv_bipush (v := 8) hx hb dX12_breaks_30 (by decide) ?_
  refine lv_iload_n hx hb dX12_breaks_32 rfl (lv_at hl 3 rfl) ?_
  refine lv_imul hx hb dX12_breaks_33 ?_
  refine lv_iload_n hx hb dX12_breaks_34 rfl (lv_at hl 1 rfl) ?_
  refine lv_iadd hx hb dX12_breaks_35 ?_
  refine va_iald hx hb hK hP 1 0 rfl rfl (vin8 hp (by decide)) dX12_breaks_36 ?_
  refine lv_topi (fun k_2 ek_2 => ?_)
  obtain rfl : k_2 = 0 := ek_2
  refine lv_icmp_ge (tgt := 123) hx hb dX12_breaks_37 (by decide) (fun c_3 => ?_) (fun c_3 => absurd (by decide) c_3)
  refine lv_iinc (v := 1) (lv' := [(2, .int 1), (3, .int 0), (0, .ref h0), (1, .int p0)]) hx hb dX12_breaks_123 hl (k := 1) rfl (by decide) (by decide) rfl (fun ls hl => ?_)
  refine lv_goto (tgt := 17) hx hb dX12_breaks_126 (by decide) ?_
  refine lv_iload_n hx hb dX12_breaks_17 rfl (lv_at hl 0 rfl) ?_
  refine lv_bipush (v := 8) hx hb dX12_breaks_18 (by decide) ?_
  refine lv_icmp_ge (tgt := 129) hx hb dX12_breaks_20 (by decide) (fun c_4 => absurd c_4 (by decide)) (fun c_4 => ?_)
  refine lv_iconst (v := 0) hx hb dX12_breaks_23 (by decide) ?_
  refine lv_istore_n (lv' := [(3, .int 0), (2, .int 1), (0, .ref h0), (1, .int p0)]) hx hb dX12_breaks_24 rfl hl (by decide) rfl (fun ls hl => ?_)
  refine lv_iload_n hx hb dX12_breaks_25 rfl (lv_at hl 0 rfl) ?_
  refine lv_aload_n hx hb dX12_breaks_26 rfl (lv_at hl 2 rfl) ?_
  refine va_get (D := (dC, dI)) (ci := 11) (v := .ref (v 0)) (C := RX12) (T := TX12) (N := 52) hx hb hts (by decide +kernel) hown hK hP 0 rfl rfl 0 (by decide) (hts (.fieldLink RX12 7 "PageOneModel" "lines" "[I") (by decide +kernel)) (fun _ h9 => h9) rfl dX12_breaks_27 ?_
  refine lv_bipush (v := 8) hx hb dX12_breaks_30 (by decide) ?_
  refine lv_iload_n hx hb dX12_breaks_32 rfl (lv_at hl 3 rfl) ?_
  refine lv_imul hx hb dX12_breaks_33 ?_
  refine lv_iload_n hx hb dX12_breaks_34 rfl (lv_at hl 1 rfl) ?_
  refine lv_iadd hx hb dX12_breaks_35 ?_
  refine va_iald hx hb hK hP 1 0 rfl rfl (vin8 hp (by decide)) dX12_breaks_36 ?_
  refine lv_topi (fun k_5 ek_5 => ?_)
  obtain rfl : k_5 = 0 := ek_5
  refine lv_icmp_ge (tgt := 123) hx hb dX12_breaks_37 (by decide) (fun c_6 => ?_) (fun c_6 => absurd (by decide) c_6)
  refine lv_iinc (v := 2) (lv' := [(2, .int 2), (3, .int 0), (0, .ref h0), (1, .int p0)]) hx hb dX12_breaks_123 hl (k := 1) rfl (by decide) (by decide) rfl (fun ls hl => ?_)
  refine lv_goto (tgt := 17) hx hb dX12_breaks_126 (by decide) ?_
  refine lv_iload_n hx hb dX12_breaks_17 rfl (lv_at hl 0 rfl) ?_
  refine lv_bipush (v := 8) hx hb dX12_breaks_18 (by decide) ?_
  refine lv_icmp_ge (tgt := 129) hx hb dX12_breaks_20 (by decide) (fun c_7 => absurd c_7 (by decide)) (fun c_7 => ?_)
  refine lv_iconst (v := 0) hx hb dX12_breaks_23 (by decide) ?_
  refine lv_istore_n (lv' := [(3, .int 0), (2, .int 2), (0, .ref h0), (1, .int p0)]) hx hb dX12_breaks_24 rfl hl (by decide) rfl (fun ls hl => ?_)
  refine lv_iload_n hx hb dX12_breaks_25 rfl (lv_at hl 0 rfl) ?_
  refine lv_aload_n hx hb dX12_breaks_26 rfl (lv_at hl 2 rfl) ?_
  refine va_get (D := (dC, dI)) (ci := 11) (v := .ref (v 0)) (C := RX12) (T := TX12) (N := 52) hx hb hts (by decide +kernel) hown hK hP 0 rfl rfl 0 (by decide) (hts (.fieldLink RX12 7 "PageOneModel" "lines" "[I") (by decide +kernel)) (fun _ h9 => h9) rfl dX12_breaks_27 ?_
  refine lv_bipush (v := 8) hx hb dX12_breaks_30 (by decide) ?_
  refine lv_iload_n hx hb dX12_breaks_32 rfl (lv_at hl 3 rfl) ?_
  refine lv_imul hx hb dX12_breaks_33 ?_
  refine lv_iload_n hx hb dX12_breaks_34 rfl (lv_at hl 1 rfl) ?_
  refine lv_iadd hx hb dX12_breaks_35 ?_
  refine va_iald hx hb hK hP 1 0 rfl rfl (vin8 hp (by decide)) dX12_breaks_36 ?_
  refine lv_topi (fun k_8 ek_8 => ?_)
  obtain rfl : k_8 = 0 := ek_8
  refine lv_icmp_ge (tgt := 123) hx hb dX12_breaks_37 (by decide) (fun c_9 => ?_) (fun c_9 => absurd (by decide) c_9)
  refine lv_iinc (v := 3) (lv' := [(2, .int 3), (3, .int 0), (0, .ref h0), (1, .int p0)]) hx hb dX12_breaks_123 hl (k := 1) rfl (by decide) (by decide) rfl (fun ls hl => ?_)
  refine lv_goto (tgt := 17) hx hb dX12_breaks_126 (by decide) ?_
  refine lv_iload_n hx hb dX12_breaks_17 rfl (lv_at hl 0 rfl) ?_
  refine lv_bipush (v := 8) hx hb dX12_breaks_18 (by decide) ?_
  refine lv_icmp_ge (tgt := 129) hx hb dX12_breaks_20 (by decide) (fun c_10 => absurd c_10 (by decide)) (fun c_10 => ?_)
  refine lv_iconst (v := 0) hx hb dX12_breaks_23 (by decide) ?_
  refine lv_istore_n (lv' := [(3, .int 0), (2, .int 3), (0, .ref h0), (1, .int p0)]) hx hb dX12_breaks_24 rfl hl (by decide) rfl (fun ls hl => ?_)
  refine lv_iload_n hx hb dX12_breaks_25 rfl (lv_at hl 0 rfl) ?_
  refine lv_aload_n hx hb dX12_breaks_26 rfl (lv_at hl 2 rfl) ?_
  refine va_get (D := (dC, dI)) (ci := 11) (v := .ref (v 0)) (C := RX12) (T := TX12) (N := 52) hx hb hts (by decide +kernel) hown hK hP 0 rfl rfl 0 (by decide) (hts (.fieldLink RX12 7 "PageOneModel" "lines" "[I") (by decide +kernel)) (fun _ h9 => h9) rfl dX12_breaks_27 ?_
  refine lv_bipush (v := 8) hx hb dX12_breaks_30 (by decide) ?_
  refine lv_iload_n hx hb dX12_breaks_32 rfl (lv_at hl 3 rfl) ?_
  refine lv_imul hx hb dX12_breaks_33 ?_
  refine lv_iload_n hx hb dX12_breaks_34 rfl (lv_at hl 1 rfl) ?_
  refine lv_iadd hx hb dX12_breaks_35 ?_
  refine va_iald hx hb hK hP 1 0 rfl rfl (vin8 hp (by decide)) dX12_breaks_36 ?_
  refine lv_topi (fun k_11 ek_11 => ?_)
  obtain rfl : k_11 = 0 := ek_11
  refine lv_icmp_ge (tgt := 123) hx hb dX12_breaks_37 (by decide) (fun c_12 => ?_) (fun c_12 => absurd (by decide) c_12)
  refine lv_iinc (v := 4) (lv' := [(2, .int 4), (3, .int 0), (0, .ref h0), (1, .int p0)]) hx hb dX12_breaks_123 hl (k := 1) rfl (by decide) (by decide) rfl (fun ls hl => ?_)
  refine lv_goto (tgt := 17) hx hb dX12_breaks_126 (by decide) ?_
  refine lv_iload_n hx hb dX12_breaks_17 rfl (lv_at hl 0 rfl) ?_
  refine lv_bipush (v := 8) hx hb dX12_breaks_18 (by decide) ?_
  refine lv_icmp_ge (tgt := 129) hx hb dX12_breaks_20 (by decide) (fun c_13 => absurd c_13 (by decide)) (fun c_13 => ?_)
  refine lv_iconst (v := 0) hx hb dX12_breaks_23 (by decide) ?_
  refine lv_istore_n (lv' := [(3, .int 0), (2, .int 4), (0, .ref h0), (1, .int p0)]) hx hb dX12_breaks_24 rfl hl (by decide) rfl (fun ls hl => ?_)
  refine lv_iload_n hx hb dX12_breaks_25 rfl (lv_at hl 0 rfl) ?_
  refine lv_aload_n hx hb dX12_breaks_26 rfl (lv_at hl 2 rfl) ?_
  refine va_get (D := (dC, dI)) (ci := 11) (v := .ref (v 0)) (C := RX12) (T := TX12) (N := 52) hx hb hts (by decide +kernel) hown hK hP 0 rfl rfl 0 (by decide) (hts (.fieldLink RX12 7 "PageOneModel" "lines" "[I") (by decide +kernel)) (fun _ h9 => h9) rfl dX12_breaks_27 ?_
  refine lv_bipush (v := 8) hx hb dX12_breaks_30 (by decide) ?_
  refine lv_iload_n hx hb dX12_breaks_32 rfl (lv_at hl 3 rfl) ?_
  refine lv_imul hx hb dX12_breaks_33 ?_
  refine lv_iload_n hx hb dX12_breaks_34 rfl (lv_at hl 1 rfl) ?_
  refine lv_iadd hx hb dX12_breaks_35 ?_
  refine va_iald hx hb hK hP 1 0 rfl rfl (vin8 hp (by decide)) dX12_breaks_36 ?_
  refine lv_topi (fun k_14 ek_14 => ?_)
  obtain rfl : k_14 = 0 := ek_14
  refine lv_icmp_ge (tgt := 123) hx hb dX12_breaks_37 (by decide) (fun c_15 => ?_) (fun c_15 => absurd (by decide) c_15)
  refine lv_iinc (v := 5) (lv' := [(2, .int 5), (3, .int 0), (0, .ref h0), (1, .int p0)]) hx hb dX12_breaks_123 hl (k := 1) rfl (by decide) (by decide) rfl (fun ls hl => ?_)
  refine lv_goto (tgt := 17) hx hb dX12_breaks_126 (by decide) ?_
  refine lv_iload_n hx hb dX12_breaks_17 rfl (lv_at hl 0 rfl) ?_
  refine lv_bipush (v := 8) hx hb dX12_breaks_18 (by decide) ?_
  refine lv_icmp_ge (tgt := 129) hx hb dX12_breaks_20 (by decide) (fun c_16 => absurd c_16 (by decide)) (fun c_16 => ?_)
  refine lv_iconst (v := 0) hx hb dX12_breaks_23 (by decide) ?_
  refine lv_istore_n (lv' := [(3, .int 0), (2, .int 5), (0, .ref h0), (1, .int p0)]) hx hb dX12_breaks_24 rfl hl (by decide) rfl (fun ls hl => ?_)
  refine lv_iload_n hx hb dX12_breaks_25 rfl (lv_at hl 0 rfl) ?_
  refine lv_aload_n hx hb dX12_breaks_26 rfl (lv_at hl 2 rfl) ?_
  refine va_get (D := (dC, dI)) (ci := 11) (v := .ref (v 0)) (C := RX12) (T := TX12) (N := 52) hx hb hts (by decide +kernel) hown hK hP 0 rfl rfl 0 (by decide) (hts (.fieldLink RX12 7 "PageOneModel" "lines" "[I") (by decide +kernel)) (fun _ h9 => h9) rfl dX12_breaks_27 ?_
  refine lv_bipush (v := 8) hx hb dX12_breaks_30 (by decide) ?_
  refine lv_iload_n hx hb dX12_breaks_32 rfl (lv_at hl 3 rfl) ?_
  refine lv_imul hx hb dX12_breaks_33 ?_
  refine lv_iload_n hx hb dX12_breaks_34 rfl (lv_at hl 1 rfl) ?_
  refine lv_iadd hx hb dX12_breaks_35 ?_
  refine va_iald hx hb hK hP 1 0 rfl rfl (vin8 hp (by decide)) dX12_breaks_36 ?_
  refine lv_topi (fun k_17 ek_17 => ?_)
  obtain rfl : k_17 = 0 := ek_17
  refine lv_icmp_ge (tgt := 123) hx hb dX12_breaks_37 (by decide) (fun c_18 => ?_) (fun c_18 => absurd (by decide) c_18)
  refine lv_iinc (v := 6) (lv' := [(2, .int 6), (3, .int 0), (0, .ref h0), (1, .int p0)]) hx hb dX12_breaks_123 hl (k := 1) rfl (by decide) (by decide) rfl (fun ls hl => ?_)
  refine lv_goto (tgt := 17) hx hb dX12_breaks_126 (by decide) ?_
  refine lv_iload_n hx hb dX12_breaks_17 rfl (lv_at hl 0 rfl) ?_
  refine lv_bipush (v := 8) hx hb dX12_breaks_18 (by decide) ?_
  refine lv_icmp_ge (tgt := 129) hx hb dX12_breaks_20 (by decide) (fun c_19 => absurd c_19 (by decide)) (fun c_19 => ?_)
  refine lv_iconst (v := 0) hx hb dX12_breaks_23 (by decide) ?_
  refine lv_istore_n (lv' := [(3, .int 0), (2, .int 6), (0, .ref h0), (1, .int p0)]) hx hb dX12_breaks_24 rfl hl (by decide) rfl (fun ls hl => ?_)
  refine lv_iload_n hx hb dX12_breaks_25 rfl (lv_at hl 0 rfl) ?_
  refine lv_aload_n hx hb dX12_breaks_26 rfl (lv_at hl 2 rfl) ?_
  refine va_get (D := (dC, dI)) (ci := 11) (v := .ref (v 0)) (C := RX12) (T := TX12) (N := 52) hx hb hts (by decide +kernel) hown hK hP 0 rfl rfl 0 (by decide) (hts (.fieldLink RX12 7 "PageOneModel" "lines" "[I") (by decide +kernel)) (fun _ h9 => h9) rfl dX12_breaks_27 ?_
  refine lv_bipush (v := 8) hx hb dX12_breaks_30 (by decide) ?_
  refine lv_iload_n hx hb dX12_breaks_32 rfl (lv_at hl 3 rfl) ?_
  refine lv_imul hx hb dX12_breaks_33 ?_
  refine lv_iload_n hx hb dX12_breaks_34 rfl (lv_at hl 1 rfl) ?_
  refine lv_iadd hx hb dX12_breaks_35 ?_
  refine va_iald hx hb hK hP 1 0 rfl rfl (vin8 hp (by decide)) dX12_breaks_36 ?_
  refine lv_topi (fun k_20 ek_20 => ?_)
  obtain rfl : k_20 = 0 := ek_20
  refine lv_icmp_ge (tgt := 123) hx hb dX12_breaks_37 (by decide) (fun c_21 => ?_) (fun c_21 => absurd (by decide) c_21)
  refine lv_iinc (v := 7) (lv' := [(2, .int 7), (3, .int 0), (0, .ref h0), (1, .int p0)]) hx hb dX12_breaks_123 hl (k := 1) rfl (by decide) (by decide) rfl (fun ls hl => ?_)
  refine lv_goto (tgt := 17) hx hb dX12_breaks_126 (by decide) ?_
  refine lv_iload_n hx hb dX12_breaks_17 rfl (lv_at hl 0 rfl) ?_
  refine lv_bipush (v := 8) hx hb dX12_breaks_18 (by decide) ?_
  refine lv_icmp_ge (tgt := 129) hx hb dX12_breaks_20 (by decide) (fun c_22 => absurd c_22 (by decide)) (fun c_22 => ?_)
  refine lv_iconst (v := 0) hx hb dX12_breaks_23 (by decide) ?_
  refine lv_istore_n (lv' := [(3, .int 0), (2, .int 7), (0, .ref h0), (1, .int p0)]) hx hb dX12_breaks_24 rfl hl (by decide) rfl (fun ls hl => ?_)
  refine lv_iload_n hx hb dX12_breaks_25 rfl (lv_at hl 0 rfl) ?_
  refine lv_aload_n hx hb dX12_breaks_26 rfl (lv_at hl 2 rfl) ?_
  refine va_get (D := (dC, dI)) (ci := 11) (v := .ref (v 0)) (C := RX12) (T := TX12) (N := 52) hx hb hts (by decide +kernel) hown hK hP 0 rfl rfl 0 (by decide) (hts (.fieldLink RX12 7 "PageOneModel" "lines" "[I") (by decide +kernel)) (fun _ h9 => h9) rfl dX12_breaks_27 ?_
  refine lv_bipush (v := 8) hx hb dX12_breaks_30 (by decide) ?_
  refine lv_iload_n hx hb dX12_breaks_32 rfl (lv_at hl 3 rfl) ?_
  refine lv_imul hx hb dX12_breaks_33 ?_
  refine lv_iload_n hx hb dX12_breaks_34 rfl (lv_at hl 1 rfl) ?_
  refine lv_iadd hx hb dX12_breaks_35 ?_
  refine va_iald hx hb hK hP 1 0 rfl rfl (vin8 hp (by decide)) dX12_breaks_36 ?_
  refine lv_topi (fun k_23 ek_23 => ?_)
  obtain rfl : k_23 = 0 := ek_23
  refine lv_icmp_ge (tgt := 123) hx hb dX12_breaks_37 (by decide) (fun c_24 => ?_) (fun c_24 => absurd (by decide) c_24)
  refine lv_iinc (v := 8) (lv' := [(2, .int 8), (3, .int 0), (0, .ref h0), (1, .int p0)]) hx hb dX12_breaks_123 hl (k := 1) rfl (by decide) (by decide) rfl (fun ls hl => ?_)
  refine lv_goto (tgt := 17) hx hb dX12_breaks_126 (by decide) ?_
  refine lv_iload_n hx hb dX12_breaks_17 rfl (lv_at hl 0 rfl) ?_
  refine lv_bipush (v := 8) hx hb dX12_breaks_18 (by decide) ?_
  refine lv_icmp_ge (tgt := 129) hx hb dX12_breaks_20 (by decide) (fun c_25 => ?_) (fun c_25 => absurd (by decide) c_25)
  refine lv_iconst (v := 0) hx hb dX12_breaks_129 (by decide) ?_
  refine lv_istore_n (lv' := [(2, .int 0), (3, .int 0), (0, .ref h0), (1, .int p0)]) hx hb dX12_breaks_130 rfl hl (by decide) rfl (fun ls hl => ?_)
  refine lv_iload_n hx hb dX12_breaks_131 rfl (lv_at hl 0 rfl) ?_
  refine lv_aload_n hx hb dX12_breaks_132 rfl (lv_at hl 2 rfl) ?_
  refine va_get (D := (dC, dI)) (ci := 11) (v := .int 0) (C := RX12) (T := TX12) (N := 52) hx hb hts (by decide +kernel) hown hK hP 0 rfl rfl 3 (by decide) (hts (.fieldLink RX12 147 "PageOneModel" "items" "I") (by decide +kernel)) (fun _ h9 => h9) rfl dX12_breaks_133 ?_
  refine lv_icmp_ge (tgt := 256) hx hb dX12_breaks_136 (by decide) (fun c_26 => ?_) (fun c_26 => absurd (by decide) c_26)
  exact W.vret hx hb hr (fun t ht hW => ⟨⟨(), rfl, trivial, ⟨by rw [ht]; exact hP.sub [0] rfl, hD.sub [0] (by decide) rfl⟩⟩, hS.F ht⟩) hS.2.2 dX12_breaks_256
set_option maxHeartbeats 4000000 in
set_option maxRecDepth 100000 in
theorem m_forget0 (l : Launch) (dC : Nat → ClassId) (dI : Nat → Nat → Nat) (h0 : Nat) (v : Nat → Nat) (sz : Nat) : Met l yX12_forget wsX12_forget ({ frames := 0, cells := 0, slots := 0, locals := 0 }) (va_Pc [.ref h0] (fun U => U.heap.size = sz ∧ PW dC dI [(h0, .inr (11, mO v 0 0 0 1 0 0 0 0))] [] U ∧ va_D (fun _ => True) [(h0, .inr (11, mO v 0 0 0 1 0 0 0 0))])) (va_Qv (fun _ : Unit => True) (fun _ t => va_P (dC, dI) vwCl [(h0, .inr (11, mO v 0 0 0 1 0 0 0 0))] t.heap ∧ va_D (va_A [(h0, .inr (11, mO v 0 0 0 1 0 0 0 0))] sz) [(h0, .inr (11, mO v 0 0 0 1 0 0 0 0))]) (va_A [(h0, .inr (11, mO v 0 0 0 1 0 0 0 0))] sz)) 0 0 (va_A [(h0, .inr (11, mO v 0 0 0 1 0 0 0 0))] sz) := by
  refine Met.ofW (cc := cX12_forget) (maxL := 1) (ret := none) (by decide) rfl ?_
  intro p e s m args below meth c s₁ B hml hv
  obtain ⟨rfl, hsz, ⟨hP, hK, hN⟩, hD0⟩ := hv
  have hx := B.exec
  have hb := B.bytes
  have hr := B.returns
  have hts := atoms_spec (ws := wsX12_forget) B.pre
  have hown : s.vm.findClass RX12 = some m.cls := findClass_of_methodNamed B.named
  have hlocks := B.notSynchronized
  subst hsz
  have hD := hD0.self (sz := s.heap.size)
  generalize hAe : va_A [(h0, .inr (11, mO v 0 0 0 1 0 0 0 0))] s.heap.size = A at hD ⊢
  have hA : ∀ q : Nat, s.heap.size ≤ q → A q := fun q h => by rw [← hAe]; exact Or.inr h
  have hS : va_S A s.heap s.heap [] := va_S.rf
  have hP : va_P (dC, dI) vwCl [(h0, .inr (11, mO v 0 0 0 1 0 0 0 0))] s.heap := hP
  have hl := lv_entry ([.ref h0]) (n := 1) (Nat.le_of_ble_eq_true rfl)
  rw [lg_entry_eq]
  generalize (lg_sl ([.ref h0]) ++ List.replicate (1 - (lg_sl ([.ref h0])).length) Slot.unset).toArray = ls at hl ⊢
  have hl : lv_has ls 1 [(0, .ref h0)] := hl
  refine lv_aload_n hx hb dX12_forget_0 rfl (lv_at hl 0 rfl) ?_
  refine lv_iconst (v := 0) hx hb dX12_forget_1 (by decide) ?_
  refine va_put (D := (dC, dI)) (ci := 11) (v := .int 0) (ty := .int) (C := RX12) (T := TX12) (N := 52) hx hb hts (by decide +kernel) tyX12 tyX12_ok nmX12 hown hK hP hD hS 0 rfl rfl 28 (by decide) (hts (.fieldLink RX12 158 "PageOneModel" "acts" "I") (by decide +kernel)) (fun _ h9 => h9) rfl (by decide +kernel) rfl rfl (Nat.le_of_ble_eq_true rfl) dX12_forget_2 (fun H locs hP hD hS => ?_)
  have hP : va_P (dC, dI) vwCl [(h0, .inr (11, mO v 0 0 0 1 0 0 0 0))] H := hP
  have hD : va_D A [(h0, .inr (11, mO v 0 0 0 1 0 0 0 0))] := hD
  refine lv_aload_n hx hb dX12_forget_5 rfl (lv_at hl 0 rfl) ?_
  refine lv_iconst (v := 0) hx hb dX12_forget_6 (by decide) ?_
  refine va_put (D := (dC, dI)) (ci := 11) (v := .int 0) (ty := .int) (C := RX12) (T := TX12) (N := 52) hx hb hts (by decide +kernel) tyX12 tyX12_ok nmX12 hown hK hP hD hS 0 rfl rfl 36 (by decide) (hts (.fieldLink RX12 168 "PageOneModel" "filled" "I") (by decide +kernel)) (fun _ h9 => h9) rfl (by decide +kernel) rfl rfl (Nat.le_of_ble_eq_true rfl) dX12_forget_7 (fun H locs hP hD hS => ?_)
  have hP : va_P (dC, dI) vwCl [(h0, .inr (11, mO v 0 0 0 1 0 0 0 0))] H := hP
  have hD : va_D A [(h0, .inr (11, mO v 0 0 0 1 0 0 0 0))] := hD
  exact W.vret hx hb hr (fun t ht hW => ⟨⟨(), rfl, trivial, ⟨by rw [ht]; exact hP.sub [0] rfl, hD.sub [0] (by decide) rfl⟩⟩, hS.F ht⟩) hS.2.2 dX12_forget_10
set_option maxHeartbeats 4000000 in
set_option maxRecDepth 100000 in
theorem m_made0 (l : Launch) (dC : Nat → ClassId) (dI : Nat → Nat → Nat) (h0 : Nat) (v : Nat → Nat) (cI : ClassId) (p0 : Int32) (sz : Nat) : Met l yX12_made wsX12_made ({ frames := 0, cells := 0, slots := 0, locals := 0 }) (va_Pc [.ref h0, .int p0] (fun U => U.heap.size = sz ∧ PW dC dI [(h0, .inr (11, mO v 0 0 0 0 0 0 0 0)), ((v 4), .inl (cI, 80, .inl (fun _ => 0))), ((v 5), .inl (cI, 80, .inl (fun _ => 0))), ((v 6), .inl (cI, 80, .inl (fun _ => 0))), ((v 7), .inl (cI, 80, .inl (fun _ => 0))), ((v 8), .inl (cI, 80, .inl (fun _ => 0))), ((v 9), .inl (cI, 80, .inl (fun _ => 0))), ((v 10), .inl (cI, 80, .inl (fun _ => 0))), ((v 15), .inl (cI, 80, .inl (fun _ => 0))), ((v 17), .inl (cI, 80, .inl (fun _ => 0))), ((v 22), .inl (cI, 80, .inl (fun _ => 0)))] [(cI, .int)] U ∧ va_D (fun _ => True) [(h0, .inr (11, mO v 0 0 0 0 0 0 0 0)), ((v 4), .inl (cI, 80, .inl (fun _ => 0))), ((v 5), .inl (cI, 80, .inl (fun _ => 0))), ((v 6), .inl (cI, 80, .inl (fun _ => 0))), ((v 7), .inl (cI, 80, .inl (fun _ => 0))), ((v 8), .inl (cI, 80, .inl (fun _ => 0))), ((v 9), .inl (cI, 80, .inl (fun _ => 0))), ((v 10), .inl (cI, 80, .inl (fun _ => 0))), ((v 15), .inl (cI, 80, .inl (fun _ => 0))), ((v 17), .inl (cI, 80, .inl (fun _ => 0))), ((v 22), .inl (cI, 80, .inl (fun _ => 0)))])) (va_Qi (fun (r : Int32) (_ : Nat → Nat → Int32) => r = 0) (fun u t => va_P (dC, dI) vwCl [(h0, .inr (11, mO v 1 0 0 0 0 0 0 0)), ((v 5), .inl (cI, 80, .inl (u 0))), ((v 6), .inl (cI, 80, .inl (u 1))), ((v 7), .inl (cI, 80, .inl (u 2))), ((v 8), .inl (cI, 80, .inl (u 3))), ((v 10), .inl (cI, 80, .inl (u 4)))] t.heap ∧ va_D (va_A [(h0, .inr (11, mO v 0 0 0 0 0 0 0 0)), ((v 4), .inl (cI, 80, .inl (fun _ => 0))), ((v 5), .inl (cI, 80, .inl (fun _ => 0))), ((v 6), .inl (cI, 80, .inl (fun _ => 0))), ((v 7), .inl (cI, 80, .inl (fun _ => 0))), ((v 8), .inl (cI, 80, .inl (fun _ => 0))), ((v 9), .inl (cI, 80, .inl (fun _ => 0))), ((v 10), .inl (cI, 80, .inl (fun _ => 0))), ((v 15), .inl (cI, 80, .inl (fun _ => 0))), ((v 17), .inl (cI, 80, .inl (fun _ => 0))), ((v 22), .inl (cI, 80, .inl (fun _ => 0)))] sz) [(h0, .inr (11, mO v 1 0 0 0 0 0 0 0)), ((v 5), .inl (cI, 80, .inl (u 0))), ((v 6), .inl (cI, 80, .inl (u 1))), ((v 7), .inl (cI, 80, .inl (u 2))), ((v 8), .inl (cI, 80, .inl (u 3))), ((v 10), .inl (cI, 80, .inl (u 4)))]) (va_A [(h0, .inr (11, mO v 0 0 0 0 0 0 0 0)), ((v 4), .inl (cI, 80, .inl (fun _ => 0))), ((v 5), .inl (cI, 80, .inl (fun _ => 0))), ((v 6), .inl (cI, 80, .inl (fun _ => 0))), ((v 7), .inl (cI, 80, .inl (fun _ => 0))), ((v 8), .inl (cI, 80, .inl (fun _ => 0))), ((v 9), .inl (cI, 80, .inl (fun _ => 0))), ((v 10), .inl (cI, 80, .inl (fun _ => 0))), ((v 15), .inl (cI, 80, .inl (fun _ => 0))), ((v 17), .inl (cI, 80, .inl (fun _ => 0))), ((v 22), .inl (cI, 80, .inl (fun _ => 0)))] sz)) 0 0 (va_A [(h0, .inr (11, mO v 0 0 0 0 0 0 0 0)), ((v 4), .inl (cI, 80, .inl (fun _ => 0))), ((v 5), .inl (cI, 80, .inl (fun _ => 0))), ((v 6), .inl (cI, 80, .inl (fun _ => 0))), ((v 7), .inl (cI, 80, .inl (fun _ => 0))), ((v 8), .inl (cI, 80, .inl (fun _ => 0))), ((v 9), .inl (cI, 80, .inl (fun _ => 0))), ((v 10), .inl (cI, 80, .inl (fun _ => 0))), ((v 15), .inl (cI, 80, .inl (fun _ => 0))), ((v 17), .inl (cI, 80, .inl (fun _ => 0))), ((v 22), .inl (cI, 80, .inl (fun _ => 0)))] sz) := by
  refine Met.ofW (cc := cX12_made) (maxL := 3) (ret := (some .int)) (by decide) rfl ?_
  intro p e s m args below meth c s₁ B hml hv
  obtain ⟨rfl, hsz, ⟨hP, hK, hN⟩, hD0⟩ := hv
  have hx := B.exec
  have hb := B.bytes
  have hr := B.returns
  have hts := atoms_spec (ws := wsX12_made) B.pre
  have hown : s.vm.findClass RX12 = some m.cls := findClass_of_methodNamed B.named
  have hlocks := B.notSynchronized
  subst hsz
  have hD := hD0.self (sz := s.heap.size)
  generalize hAe : va_A [(h0, .inr (11, mO v 0 0 0 0 0 0 0 0)), ((v 4), .inl (cI, 80, .inl (fun _ => 0))), ((v 5), .inl (cI, 80, .inl (fun _ => 0))), ((v 6), .inl (cI, 80, .inl (fun _ => 0))), ((v 7), .inl (cI, 80, .inl (fun _ => 0))), ((v 8), .inl (cI, 80, .inl (fun _ => 0))), ((v 9), .inl (cI, 80, .inl (fun _ => 0))), ((v 10), .inl (cI, 80, .inl (fun _ => 0))), ((v 15), .inl (cI, 80, .inl (fun _ => 0))), ((v 17), .inl (cI, 80, .inl (fun _ => 0))), ((v 22), .inl (cI, 80, .inl (fun _ => 0)))] s.heap.size = A at hD ⊢
  have hA : ∀ q : Nat, s.heap.size ≤ q → A q := fun q h => by rw [← hAe]; exact Or.inr h
  have hS : va_S A s.heap s.heap [] := va_S.rf
  have hP : va_P (dC, dI) vwCl [(h0, .inr (11, mO v 0 0 0 0 0 0 0 0)), ((v 4), .inl (cI, 80, .inl (fun _ => 0))), ((v 5), .inl (cI, 80, .inl (fun _ => 0))), ((v 6), .inl (cI, 80, .inl (fun _ => 0))), ((v 7), .inl (cI, 80, .inl (fun _ => 0))), ((v 8), .inl (cI, 80, .inl (fun _ => 0))), ((v 9), .inl (cI, 80, .inl (fun _ => 0))), ((v 10), .inl (cI, 80, .inl (fun _ => 0))), ((v 15), .inl (cI, 80, .inl (fun _ => 0))), ((v 17), .inl (cI, 80, .inl (fun _ => 0))), ((v 22), .inl (cI, 80, .inl (fun _ => 0)))] s.heap := hP
  have hl := lv_entry ([.ref h0, .int p0]) (n := 3) (Nat.le_of_ble_eq_true rfl)
  rw [lg_entry_eq]
  generalize (lg_sl ([.ref h0, .int p0]) ++ List.replicate (3 - (lg_sl ([.ref h0, .int p0])).length) Slot.unset).toArray = ls at hl ⊢
  have hl : lv_has ls 3 [(0, .ref h0), (1, .int p0)] := hl
  refine lv_aload_n hx hb dX12_made_0 rfl (lv_at hl 0 rfl) ?_
  refine va_get (D := (dC, dI)) (ci := 11) (v := .int 0) (C := RX12) (T := TX12) (N := 52) hx hb hts (by decide +kernel) hown hK hP 0 rfl rfl 3 (by decide) (hts (.fieldLink RX12 147 "PageOneModel" "items" "I") (by decide +kernel)) (fun _ h9 => h9) rfl dX12_made_1 ?_
  refine lv_istore_n (lv' := [(2, .int 0), (0, .ref h0), (1, .int p0)]) hx hb dX12_made_4 rfl hl (by decide) rfl (fun ls hl => ?_)
  refine lv_aload_n hx hb dX12_made_5 rfl (lv_at hl 1 rfl) ?_
  refine va_get (D := (dC, dI)) (ci := 11) (v := .ref (v 4)) (C := RX12) (T := TX12) (N := 52) hx hb hts (by decide +kernel) hown hK hP 0 rfl rfl 4 (by decide) (hts (.fieldLink RX12 19 "PageOneModel" "kind" "[I") (by decide +kernel)) (fun _ h9 => h9) rfl dX12_made_6 ?_
  refine lv_iload_n hx hb dX12_made_9 rfl (lv_at hl 0 rfl) ?_
  refine lv_iload_n hx hb dX12_made_10 rfl (lv_at hl 2 rfl) ?_
  refine va_iast hx hb hK hP hD hS 1 0 rfl rfl (by unfold vp_in; decide) dX12_made_11 (fun H locs hP hD hS => ?_)
  have hP : va_P (dC, dI) vwCl [(h0, .inr (11, mO v 0 0 0 0 0 0 0 0)), ((v 4), .inl (cI, 80, .inl (upd (fun _ => 0) 0 p0))), ((v 5), .inl (cI, 80, .inl (fun _ => 0))), ((v 6), .inl (cI, 80, .inl (fun _ => 0))), ((v 7), .inl (cI, 80, .inl (fun _ => 0))), ((v 8), .inl (cI, 80, .inl (fun _ => 0))), ((v 9), .inl (cI, 80, .inl (fun _ => 0))), ((v 10), .inl (cI, 80, .inl (fun _ => 0))), ((v 15), .inl (cI, 80, .inl (fun _ => 0))), ((v 17), .inl (cI, 80, .inl (fun _ => 0))), ((v 22), .inl (cI, 80, .inl (fun _ => 0)))] H := hP
  have hD : va_D A [(h0, .inr (11, mO v 0 0 0 0 0 0 0 0)), ((v 4), .inl (cI, 80, .inl (upd (fun _ => 0) 0 p0))), ((v 5), .inl (cI, 80, .inl (fun _ => 0))), ((v 6), .inl (cI, 80, .inl (fun _ => 0))), ((v 7), .inl (cI, 80, .inl (fun _ => 0))), ((v 8), .inl (cI, 80, .inl (fun _ => 0))), ((v 9), .inl (cI, 80, .inl (fun _ => 0))), ((v 10), .inl (cI, 80, .inl (fun _ => 0))), ((v 15), .inl (cI, 80, .inl (fun _ => 0))), ((v 17), .inl (cI, 80, .inl (fun _ => 0))), ((v 22), .inl (cI, 80, .inl (fun _ => 0)))] := hD
  refine lv_aload_n hx hb dX12_made_12 rfl (lv_at hl 1 rfl) ?_
  refine va_get (D := (dC, dI)) (ci := 11) (v := .ref (v 5)) (C := RX12) (T := TX12) (N := 52) hx hb hts (by decide +kernel) hown hK hP 0 rfl rfl 5 (by decide) (hts (.fieldLink RX12 22 "PageOneModel" "least" "[I") (by decide +kernel)) (fun _ h9 => h9) rfl dX12_made_13 ?_
  refine lv_iload_n hx hb dX12_made_16 rfl (lv_at hl 0 rfl) ?_
  refine lv_iconst (v := 0) hx hb dX12_made_17 (by decide) ?_
  refine va_iast hx hb hK hP hD hS 2 0 rfl rfl (by unfold vp_in; decide) dX12_made_18 (fun H locs hP hD hS => ?_)
  have hP : va_P (dC, dI) vwCl [(h0, .inr (11, mO v 0 0 0 0 0 0 0 0)), ((v 4), .inl (cI, 80, .inl (upd (fun _ => 0) 0 p0))), ((v 5), .inl (cI, 80, .inl (upd (fun _ => 0) 0 0))), ((v 6), .inl (cI, 80, .inl (fun _ => 0))), ((v 7), .inl (cI, 80, .inl (fun _ => 0))), ((v 8), .inl (cI, 80, .inl (fun _ => 0))), ((v 9), .inl (cI, 80, .inl (fun _ => 0))), ((v 10), .inl (cI, 80, .inl (fun _ => 0))), ((v 15), .inl (cI, 80, .inl (fun _ => 0))), ((v 17), .inl (cI, 80, .inl (fun _ => 0))), ((v 22), .inl (cI, 80, .inl (fun _ => 0)))] H := hP
  have hD : va_D A [(h0, .inr (11, mO v 0 0 0 0 0 0 0 0)), ((v 4), .inl (cI, 80, .inl (upd (fun _ => 0) 0 p0))), ((v 5), .inl (cI, 80, .inl (upd (fun _ => 0) 0 0))), ((v 6), .inl (cI, 80, .inl (fun _ => 0))), ((v 7), .inl (cI, 80, .inl (fun _ => 0))), ((v 8), .inl (cI, 80, .inl (fun _ => 0))), ((v 9), .inl (cI, 80, .inl (fun _ => 0))), ((v 10), .inl (cI, 80, .inl (fun _ => 0))), ((v 15), .inl (cI, 80, .inl (fun _ => 0))), ((v 17), .inl (cI, 80, .inl (fun _ => 0))), ((v 22), .inl (cI, 80, .inl (fun _ => 0)))] := hD
  refine lv_aload_n hx hb dX12_made_19 rfl (lv_at hl 1 rfl) ?_
  refine va_get (D := (dC, dI)) (ci := 11) (v := .ref (v 6)) (C := RX12) (T := TX12) (N := 52) hx hb hts (by decide +kernel) hown hK hP 0 rfl rfl 6 (by decide) (hts (.fieldLink RX12 25 "PageOneModel" "most" "[I") (by decide +kernel)) (fun _ h9 => h9) rfl dX12_made_20 ?_
  refine lv_iload_n hx hb dX12_made_23 rfl (lv_at hl 0 rfl) ?_
  refine lv_iconst (v := 0) hx hb dX12_made_24 (by decide) ?_
  refine va_iast hx hb hK hP hD hS 3 0 rfl rfl (by unfold vp_in; decide) dX12_made_25 (fun H locs hP hD hS => ?_)
  have hP : va_P (dC, dI) vwCl [(h0, .inr (11, mO v 0 0 0 0 0 0 0 0)), ((v 4), .inl (cI, 80, .inl (upd (fun _ => 0) 0 p0))), ((v 5), .inl (cI, 80, .inl (upd (fun _ => 0) 0 0))), ((v 6), .inl (cI, 80, .inl (upd (fun _ => 0) 0 0))), ((v 7), .inl (cI, 80, .inl (fun _ => 0))), ((v 8), .inl (cI, 80, .inl (fun _ => 0))), ((v 9), .inl (cI, 80, .inl (fun _ => 0))), ((v 10), .inl (cI, 80, .inl (fun _ => 0))), ((v 15), .inl (cI, 80, .inl (fun _ => 0))), ((v 17), .inl (cI, 80, .inl (fun _ => 0))), ((v 22), .inl (cI, 80, .inl (fun _ => 0)))] H := hP
  have hD : va_D A [(h0, .inr (11, mO v 0 0 0 0 0 0 0 0)), ((v 4), .inl (cI, 80, .inl (upd (fun _ => 0) 0 p0))), ((v 5), .inl (cI, 80, .inl (upd (fun _ => 0) 0 0))), ((v 6), .inl (cI, 80, .inl (upd (fun _ => 0) 0 0))), ((v 7), .inl (cI, 80, .inl (fun _ => 0))), ((v 8), .inl (cI, 80, .inl (fun _ => 0))), ((v 9), .inl (cI, 80, .inl (fun _ => 0))), ((v 10), .inl (cI, 80, .inl (fun _ => 0))), ((v 15), .inl (cI, 80, .inl (fun _ => 0))), ((v 17), .inl (cI, 80, .inl (fun _ => 0))), ((v 22), .inl (cI, 80, .inl (fun _ => 0)))] := hD
  refine lv_aload_n hx hb dX12_made_26 rfl (lv_at hl 1 rfl) ?_
  refine va_get (D := (dC, dI)) (ci := 11) (v := .ref (v 7)) (C := RX12) (T := TX12) (N := 52) hx hb hts (by decide +kernel) hown hK hP 0 rfl rfl 7 (by decide) (hts (.fieldLink RX12 28 "PageOneModel" "wide" "[I") (by decide +kernel)) (fun _ h9 => h9) rfl dX12_made_27 ?_
  refine lv_iload_n hx hb dX12_made_30 rfl (lv_at hl 0 rfl) ?_
  refine lv_iconst (v := 0) hx hb dX12_made_31 (by decide) ?_
  refine va_iast hx hb hK hP hD hS 4 0 rfl rfl (by unfold vp_in; decide) dX12_made_32 (fun H locs hP hD hS => ?_)
  have hP : va_P (dC, dI) vwCl [(h0, .inr (11, mO v 0 0 0 0 0 0 0 0)), ((v 4), .inl (cI, 80, .inl (upd (fun _ => 0) 0 p0))), ((v 5), .inl (cI, 80, .inl (upd (fun _ => 0) 0 0))), ((v 6), .inl (cI, 80, .inl (upd (fun _ => 0) 0 0))), ((v 7), .inl (cI, 80, .inl (upd (fun _ => 0) 0 0))), ((v 8), .inl (cI, 80, .inl (fun _ => 0))), ((v 9), .inl (cI, 80, .inl (fun _ => 0))), ((v 10), .inl (cI, 80, .inl (fun _ => 0))), ((v 15), .inl (cI, 80, .inl (fun _ => 0))), ((v 17), .inl (cI, 80, .inl (fun _ => 0))), ((v 22), .inl (cI, 80, .inl (fun _ => 0)))] H := hP
  have hD : va_D A [(h0, .inr (11, mO v 0 0 0 0 0 0 0 0)), ((v 4), .inl (cI, 80, .inl (upd (fun _ => 0) 0 p0))), ((v 5), .inl (cI, 80, .inl (upd (fun _ => 0) 0 0))), ((v 6), .inl (cI, 80, .inl (upd (fun _ => 0) 0 0))), ((v 7), .inl (cI, 80, .inl (upd (fun _ => 0) 0 0))), ((v 8), .inl (cI, 80, .inl (fun _ => 0))), ((v 9), .inl (cI, 80, .inl (fun _ => 0))), ((v 10), .inl (cI, 80, .inl (fun _ => 0))), ((v 15), .inl (cI, 80, .inl (fun _ => 0))), ((v 17), .inl (cI, 80, .inl (fun _ => 0))), ((v 22), .inl (cI, 80, .inl (fun _ => 0)))] := hD
  refine lv_aload_n hx hb dX12_made_33 rfl (lv_at hl 1 rfl) ?_
  refine va_get (D := (dC, dI)) (ci := 11) (v := .ref (v 8)) (C := RX12) (T := TX12) (N := 52) hx hb hts (by decide +kernel) hown hK hP 0 rfl rfl 8 (by decide) (hts (.fieldLink RX12 31 "PageOneModel" "high" "[I") (by decide +kernel)) (fun _ h9 => h9) rfl dX12_made_34 ?_
  refine lv_iload_n hx hb dX12_made_37 rfl (lv_at hl 0 rfl) ?_
  refine lv_iconst (v := 0) hx hb dX12_made_38 (by decide) ?_
  refine va_iast hx hb hK hP hD hS 5 0 rfl rfl (by unfold vp_in; decide) dX12_made_39 (fun H locs hP hD hS => ?_)
  have hP : va_P (dC, dI) vwCl [(h0, .inr (11, mO v 0 0 0 0 0 0 0 0)), ((v 4), .inl (cI, 80, .inl (upd (fun _ => 0) 0 p0))), ((v 5), .inl (cI, 80, .inl (upd (fun _ => 0) 0 0))), ((v 6), .inl (cI, 80, .inl (upd (fun _ => 0) 0 0))), ((v 7), .inl (cI, 80, .inl (upd (fun _ => 0) 0 0))), ((v 8), .inl (cI, 80, .inl (upd (fun _ => 0) 0 0))), ((v 9), .inl (cI, 80, .inl (fun _ => 0))), ((v 10), .inl (cI, 80, .inl (fun _ => 0))), ((v 15), .inl (cI, 80, .inl (fun _ => 0))), ((v 17), .inl (cI, 80, .inl (fun _ => 0))), ((v 22), .inl (cI, 80, .inl (fun _ => 0)))] H := hP
  have hD : va_D A [(h0, .inr (11, mO v 0 0 0 0 0 0 0 0)), ((v 4), .inl (cI, 80, .inl (upd (fun _ => 0) 0 p0))), ((v 5), .inl (cI, 80, .inl (upd (fun _ => 0) 0 0))), ((v 6), .inl (cI, 80, .inl (upd (fun _ => 0) 0 0))), ((v 7), .inl (cI, 80, .inl (upd (fun _ => 0) 0 0))), ((v 8), .inl (cI, 80, .inl (upd (fun _ => 0) 0 0))), ((v 9), .inl (cI, 80, .inl (fun _ => 0))), ((v 10), .inl (cI, 80, .inl (fun _ => 0))), ((v 15), .inl (cI, 80, .inl (fun _ => 0))), ((v 17), .inl (cI, 80, .inl (fun _ => 0))), ((v 22), .inl (cI, 80, .inl (fun _ => 0)))] := hD
  refine lv_aload_n hx hb dX12_made_40 rfl (lv_at hl 1 rfl) ?_
  refine va_get (D := (dC, dI)) (ci := 11) (v := .ref (v 9)) (C := RX12) (T := TX12) (N := 52) hx hb hts (by decide +kernel) hown hK hP 0 rfl rfl 9 (by decide) (hts (.fieldLink RX12 34 "PageOneModel" "of" "[I") (by decide +kernel)) (fun _ h9 => h9) rfl dX12_made_41 ?_
  refine lv_iload_n hx hb dX12_made_44 rfl (lv_at hl 0 rfl) ?_
  refine lv_iconst (v := (-1)) hx hb dX12_made_45 (by decide) ?_
  refine va_iast hx hb hK hP hD hS 6 0 rfl rfl (by unfold vp_in; decide) dX12_made_46 (fun H locs hP hD hS => ?_)
  have hP : va_P (dC, dI) vwCl [(h0, .inr (11, mO v 0 0 0 0 0 0 0 0)), ((v 4), .inl (cI, 80, .inl (upd (fun _ => 0) 0 p0))), ((v 5), .inl (cI, 80, .inl (upd (fun _ => 0) 0 0))), ((v 6), .inl (cI, 80, .inl (upd (fun _ => 0) 0 0))), ((v 7), .inl (cI, 80, .inl (upd (fun _ => 0) 0 0))), ((v 8), .inl (cI, 80, .inl (upd (fun _ => 0) 0 0))), ((v 9), .inl (cI, 80, .inl (upd (fun _ => 0) 0 (-1)))), ((v 10), .inl (cI, 80, .inl (fun _ => 0))), ((v 15), .inl (cI, 80, .inl (fun _ => 0))), ((v 17), .inl (cI, 80, .inl (fun _ => 0))), ((v 22), .inl (cI, 80, .inl (fun _ => 0)))] H := hP
  have hD : va_D A [(h0, .inr (11, mO v 0 0 0 0 0 0 0 0)), ((v 4), .inl (cI, 80, .inl (upd (fun _ => 0) 0 p0))), ((v 5), .inl (cI, 80, .inl (upd (fun _ => 0) 0 0))), ((v 6), .inl (cI, 80, .inl (upd (fun _ => 0) 0 0))), ((v 7), .inl (cI, 80, .inl (upd (fun _ => 0) 0 0))), ((v 8), .inl (cI, 80, .inl (upd (fun _ => 0) 0 0))), ((v 9), .inl (cI, 80, .inl (upd (fun _ => 0) 0 (-1)))), ((v 10), .inl (cI, 80, .inl (fun _ => 0))), ((v 15), .inl (cI, 80, .inl (fun _ => 0))), ((v 17), .inl (cI, 80, .inl (fun _ => 0))), ((v 22), .inl (cI, 80, .inl (fun _ => 0)))] := hD
  refine lv_aload_n hx hb dX12_made_47 rfl (lv_at hl 1 rfl) ?_
  refine va_get (D := (dC, dI)) (ci := 11) (v := .ref (v 10)) (C := RX12) (T := TX12) (N := 52) hx hb hts (by decide +kernel) hown hK hP 0 rfl rfl 10 (by decide) (hts (.fieldLink RX12 37 "PageOneModel" "buyer" "[I") (by decide +kernel)) (fun _ h9 => h9) rfl dX12_made_48 ?_
  refine lv_iload_n hx hb dX12_made_51 rfl (lv_at hl 0 rfl) ?_
  refine lv_iconst (v := (-1)) hx hb dX12_made_52 (by decide) ?_
  refine va_iast hx hb hK hP hD hS 7 0 rfl rfl (by unfold vp_in; decide) dX12_made_53 (fun H locs hP hD hS => ?_)
  have hP : va_P (dC, dI) vwCl [(h0, .inr (11, mO v 0 0 0 0 0 0 0 0)), ((v 4), .inl (cI, 80, .inl (upd (fun _ => 0) 0 p0))), ((v 5), .inl (cI, 80, .inl (upd (fun _ => 0) 0 0))), ((v 6), .inl (cI, 80, .inl (upd (fun _ => 0) 0 0))), ((v 7), .inl (cI, 80, .inl (upd (fun _ => 0) 0 0))), ((v 8), .inl (cI, 80, .inl (upd (fun _ => 0) 0 0))), ((v 9), .inl (cI, 80, .inl (upd (fun _ => 0) 0 (-1)))), ((v 10), .inl (cI, 80, .inl (upd (fun _ => 0) 0 (-1)))), ((v 15), .inl (cI, 80, .inl (fun _ => 0))), ((v 17), .inl (cI, 80, .inl (fun _ => 0))), ((v 22), .inl (cI, 80, .inl (fun _ => 0)))] H := hP
  have hD : va_D A [(h0, .inr (11, mO v 0 0 0 0 0 0 0 0)), ((v 4), .inl (cI, 80, .inl (upd (fun _ => 0) 0 p0))), ((v 5), .inl (cI, 80, .inl (upd (fun _ => 0) 0 0))), ((v 6), .inl (cI, 80, .inl (upd (fun _ => 0) 0 0))), ((v 7), .inl (cI, 80, .inl (upd (fun _ => 0) 0 0))), ((v 8), .inl (cI, 80, .inl (upd (fun _ => 0) 0 0))), ((v 9), .inl (cI, 80, .inl (upd (fun _ => 0) 0 (-1)))), ((v 10), .inl (cI, 80, .inl (upd (fun _ => 0) 0 (-1)))), ((v 15), .inl (cI, 80, .inl (fun _ => 0))), ((v 17), .inl (cI, 80, .inl (fun _ => 0))), ((v 22), .inl (cI, 80, .inl (fun _ => 0)))] := hD
  refine lv_aload_n hx hb dX12_made_54 rfl (lv_at hl 1 rfl) ?_
  refine va_get (D := (dC, dI)) (ci := 11) (v := .ref (v 15)) (C := RX12) (T := TX12) (N := 52) hx hb hts (by decide +kernel) hown hK hP 0 rfl rfl 15 (by decide) (hts (.fieldLink RX12 52 "PageOneModel" "come" "[I") (by decide +kernel)) (fun _ h9 => h9) rfl dX12_made_55 ?_
  refine lv_iload_n hx hb dX12_made_58 rfl (lv_at hl 0 rfl) ?_
  refine lv_iconst (v := 0) hx hb dX12_made_59 (by decide) ?_
  refine va_iast hx hb hK hP hD hS 8 0 rfl rfl (by unfold vp_in; decide) dX12_made_60 (fun H locs hP hD hS => ?_)
  have hP : va_P (dC, dI) vwCl [(h0, .inr (11, mO v 0 0 0 0 0 0 0 0)), ((v 4), .inl (cI, 80, .inl (upd (fun _ => 0) 0 p0))), ((v 5), .inl (cI, 80, .inl (upd (fun _ => 0) 0 0))), ((v 6), .inl (cI, 80, .inl (upd (fun _ => 0) 0 0))), ((v 7), .inl (cI, 80, .inl (upd (fun _ => 0) 0 0))), ((v 8), .inl (cI, 80, .inl (upd (fun _ => 0) 0 0))), ((v 9), .inl (cI, 80, .inl (upd (fun _ => 0) 0 (-1)))), ((v 10), .inl (cI, 80, .inl (upd (fun _ => 0) 0 (-1)))), ((v 15), .inl (cI, 80, .inl (upd (fun _ => 0) 0 0))), ((v 17), .inl (cI, 80, .inl (fun _ => 0))), ((v 22), .inl (cI, 80, .inl (fun _ => 0)))] H := hP
  have hD : va_D A [(h0, .inr (11, mO v 0 0 0 0 0 0 0 0)), ((v 4), .inl (cI, 80, .inl (upd (fun _ => 0) 0 p0))), ((v 5), .inl (cI, 80, .inl (upd (fun _ => 0) 0 0))), ((v 6), .inl (cI, 80, .inl (upd (fun _ => 0) 0 0))), ((v 7), .inl (cI, 80, .inl (upd (fun _ => 0) 0 0))), ((v 8), .inl (cI, 80, .inl (upd (fun _ => 0) 0 0))), ((v 9), .inl (cI, 80, .inl (upd (fun _ => 0) 0 (-1)))), ((v 10), .inl (cI, 80, .inl (upd (fun _ => 0) 0 (-1)))), ((v 15), .inl (cI, 80, .inl (upd (fun _ => 0) 0 0))), ((v 17), .inl (cI, 80, .inl (fun _ => 0))), ((v 22), .inl (cI, 80, .inl (fun _ => 0)))] := hD
  refine lv_aload_n hx hb dX12_made_61 rfl (lv_at hl 1 rfl) ?_
  refine va_get (D := (dC, dI)) (ci := 11) (v := .ref (v 17)) (C := RX12) (T := TX12) (N := 52) hx hb hts (by decide +kernel) hown hK hP 0 rfl rfl 17 (by decide) (hts (.fieldLink RX12 58 "PageOneModel" "sizes" "[I") (by decide +kernel)) (fun _ h9 => h9) rfl dX12_made_62 ?_
  refine lv_iload_n hx hb dX12_made_65 rfl (lv_at hl 0 rfl) ?_
  refine lv_iconst (v := 0) hx hb dX12_made_66 (by decide) ?_
  refine va_iast hx hb hK hP hD hS 9 0 rfl rfl (by unfold vp_in; decide) dX12_made_67 (fun H locs hP hD hS => ?_)
  have hP : va_P (dC, dI) vwCl [(h0, .inr (11, mO v 0 0 0 0 0 0 0 0)), ((v 4), .inl (cI, 80, .inl (upd (fun _ => 0) 0 p0))), ((v 5), .inl (cI, 80, .inl (upd (fun _ => 0) 0 0))), ((v 6), .inl (cI, 80, .inl (upd (fun _ => 0) 0 0))), ((v 7), .inl (cI, 80, .inl (upd (fun _ => 0) 0 0))), ((v 8), .inl (cI, 80, .inl (upd (fun _ => 0) 0 0))), ((v 9), .inl (cI, 80, .inl (upd (fun _ => 0) 0 (-1)))), ((v 10), .inl (cI, 80, .inl (upd (fun _ => 0) 0 (-1)))), ((v 15), .inl (cI, 80, .inl (upd (fun _ => 0) 0 0))), ((v 17), .inl (cI, 80, .inl (upd (fun _ => 0) 0 0))), ((v 22), .inl (cI, 80, .inl (fun _ => 0)))] H := hP
  have hD : va_D A [(h0, .inr (11, mO v 0 0 0 0 0 0 0 0)), ((v 4), .inl (cI, 80, .inl (upd (fun _ => 0) 0 p0))), ((v 5), .inl (cI, 80, .inl (upd (fun _ => 0) 0 0))), ((v 6), .inl (cI, 80, .inl (upd (fun _ => 0) 0 0))), ((v 7), .inl (cI, 80, .inl (upd (fun _ => 0) 0 0))), ((v 8), .inl (cI, 80, .inl (upd (fun _ => 0) 0 0))), ((v 9), .inl (cI, 80, .inl (upd (fun _ => 0) 0 (-1)))), ((v 10), .inl (cI, 80, .inl (upd (fun _ => 0) 0 (-1)))), ((v 15), .inl (cI, 80, .inl (upd (fun _ => 0) 0 0))), ((v 17), .inl (cI, 80, .inl (upd (fun _ => 0) 0 0))), ((v 22), .inl (cI, 80, .inl (fun _ => 0)))] := hD
  refine lv_aload_n hx hb dX12_made_68 rfl (lv_at hl 1 rfl) ?_
  refine va_get (D := (dC, dI)) (ci := 11) (v := .ref (v 22)) (C := RX12) (T := TX12) (N := 52) hx hb hts (by decide +kernel) hown hK hP 0 rfl rfl 22 (by decide) (hts (.fieldLink RX12 74 "PageOneModel" "pieces" "[I") (by decide +kernel)) (fun _ h9 => h9) rfl dX12_made_69 ?_
  refine lv_iload_n hx hb dX12_made_72 rfl (lv_at hl 0 rfl) ?_
  refine lv_iconst (v := 0) hx hb dX12_made_73 (by decide) ?_
  refine va_iast hx hb hK hP hD hS 10 0 rfl rfl (by unfold vp_in; decide) dX12_made_74 (fun H locs hP hD hS => ?_)
  have hP : va_P (dC, dI) vwCl [(h0, .inr (11, mO v 0 0 0 0 0 0 0 0)), ((v 4), .inl (cI, 80, .inl (upd (fun _ => 0) 0 p0))), ((v 5), .inl (cI, 80, .inl (upd (fun _ => 0) 0 0))), ((v 6), .inl (cI, 80, .inl (upd (fun _ => 0) 0 0))), ((v 7), .inl (cI, 80, .inl (upd (fun _ => 0) 0 0))), ((v 8), .inl (cI, 80, .inl (upd (fun _ => 0) 0 0))), ((v 9), .inl (cI, 80, .inl (upd (fun _ => 0) 0 (-1)))), ((v 10), .inl (cI, 80, .inl (upd (fun _ => 0) 0 (-1)))), ((v 15), .inl (cI, 80, .inl (upd (fun _ => 0) 0 0))), ((v 17), .inl (cI, 80, .inl (upd (fun _ => 0) 0 0))), ((v 22), .inl (cI, 80, .inl (upd (fun _ => 0) 0 0)))] H := hP
  have hD : va_D A [(h0, .inr (11, mO v 0 0 0 0 0 0 0 0)), ((v 4), .inl (cI, 80, .inl (upd (fun _ => 0) 0 p0))), ((v 5), .inl (cI, 80, .inl (upd (fun _ => 0) 0 0))), ((v 6), .inl (cI, 80, .inl (upd (fun _ => 0) 0 0))), ((v 7), .inl (cI, 80, .inl (upd (fun _ => 0) 0 0))), ((v 8), .inl (cI, 80, .inl (upd (fun _ => 0) 0 0))), ((v 9), .inl (cI, 80, .inl (upd (fun _ => 0) 0 (-1)))), ((v 10), .inl (cI, 80, .inl (upd (fun _ => 0) 0 (-1)))), ((v 15), .inl (cI, 80, .inl (upd (fun _ => 0) 0 0))), ((v 17), .inl (cI, 80, .inl (upd (fun _ => 0) 0 0))), ((v 22), .inl (cI, 80, .inl (upd (fun _ => 0) 0 0)))] := hD
  refine lv_aload_n hx hb dX12_made_75 rfl (lv_at hl 1 rfl) ?_
  refine lv_dup hx hb dX12_made_76 rfl ?_
  refine va_get (D := (dC, dI)) (ci := 11) (v := .int 0) (C := RX12) (T := TX12) (N := 52) hx hb hts (by decide +kernel) hown hK hP 0 rfl rfl 3 (by decide) (hts (.fieldLink RX12 147 "PageOneModel" "items" "I") (by decide +kernel)) (fun _ h9 => h9) rfl dX12_made_77 ?_
  refine lv_iconst (v := 1) hx hb dX12_made_80 (by decide) ?_
  refine lv_iadd hx hb dX12_made_81 ?_
  refine lv_topi (fun k_1 ek_1 => ?_)
  obtain rfl : k_1 = 1 := ek_1.trans (by decide)
  refine va_put (D := (dC, dI)) (ci := 11) (v := .int 1) (ty := .int) (C := RX12) (T := TX12) (N := 52) hx hb hts (by decide +kernel) tyX12 tyX12_ok nmX12 hown hK hP hD hS 0 rfl rfl 3 (by decide) (hts (.fieldLink RX12 147 "PageOneModel" "items" "I") (by decide +kernel)) (fun _ h9 => h9) rfl (by decide +kernel) rfl rfl (Nat.le_of_ble_eq_true rfl) dX12_made_82 (fun H locs hP hD hS => ?_)
  have hP : va_P (dC, dI) vwCl [(h0, .inr (11, mO v 1 0 0 0 0 0 0 0)), ((v 4), .inl (cI, 80, .inl (upd (fun _ => 0) 0 p0))), ((v 5), .inl (cI, 80, .inl (upd (fun _ => 0) 0 0))), ((v 6), .inl (cI, 80, .inl (upd (fun _ => 0) 0 0))), ((v 7), .inl (cI, 80, .inl (upd (fun _ => 0) 0 0))), ((v 8), .inl (cI, 80, .inl (upd (fun _ => 0) 0 0))), ((v 9), .inl (cI, 80, .inl (upd (fun _ => 0) 0 (-1)))), ((v 10), .inl (cI, 80, .inl (upd (fun _ => 0) 0 (-1)))), ((v 15), .inl (cI, 80, .inl (upd (fun _ => 0) 0 0))), ((v 17), .inl (cI, 80, .inl (upd (fun _ => 0) 0 0))), ((v 22), .inl (cI, 80, .inl (upd (fun _ => 0) 0 0)))] H := hP
  have hD : va_D A [(h0, .inr (11, mO v 1 0 0 0 0 0 0 0)), ((v 4), .inl (cI, 80, .inl (upd (fun _ => 0) 0 p0))), ((v 5), .inl (cI, 80, .inl (upd (fun _ => 0) 0 0))), ((v 6), .inl (cI, 80, .inl (upd (fun _ => 0) 0 0))), ((v 7), .inl (cI, 80, .inl (upd (fun _ => 0) 0 0))), ((v 8), .inl (cI, 80, .inl (upd (fun _ => 0) 0 0))), ((v 9), .inl (cI, 80, .inl (upd (fun _ => 0) 0 (-1)))), ((v 10), .inl (cI, 80, .inl (upd (fun _ => 0) 0 (-1)))), ((v 15), .inl (cI, 80, .inl (upd (fun _ => 0) 0 0))), ((v 17), .inl (cI, 80, .inl (upd (fun _ => 0) 0 0))), ((v 22), .inl (cI, 80, .inl (upd (fun _ => 0) 0 0)))] := hD
  refine lv_iload_n hx hb dX12_made_85 rfl (lv_at hl 0 rfl) ?_
  exact W.iret (v := 0) hx hb hr (fun t ht hW => ⟨⟨0, (fun k => match k with | 0 => (upd (fun _ => 0) 0 0) | 1 => (upd (fun _ => 0) 0 0) | 2 => (upd (fun _ => 0) 0 0) | 3 => (upd (fun _ => 0) 0 0) | _ => (upd (fun _ => 0) 0 (-1))), rfl, rfl, ⟨by rw [ht]; exact hP.sub [0, 2, 3, 4, 5, 7] rfl, hD.sub [0, 2, 3, 4, 5, 7] (by decide) rfl⟩⟩, hS.F ht⟩) hS.2.2 dX12_made_86
