def s_linesF (p0 lz mz : Int32) : Int32 := if bw p0 lz mz = true then p0 else 0
set_option maxHeartbeats 4000000 in
set_option maxRecDepth 100000 in
theorem y_X2_linesBy (l : Launch) (dC : Nat → ClassId) (dI : Nat → Nat → Nat) (q : Nat → ClassId) (h0 : Nat) (d : Nat → Nat) (k : Nat → Int32) (z : gS) (f : xF) (hI : xI q h0 d k z f) (a0 pa fa : Nat) (nu kd cn lz mz : Int32) (ha0 : tg z a0 10) (hs : f a0 = .inr (2, [.int nu, .int kd, .ref pa, .int cn, .ref fa, .int lz, .int mz])) (p0 : Int32) : Met l yX2_linesBy wsX2_linesBy ({ frames := 1, cells := 0, slots := 0, locals := 22 }) (va_Pc [.ref a0, .int p0] (PX dC dI (va_pl z.1 f) (xT q))) (vp_Si (fun r => r = s_linesF p0 lz mz)) 0 0 (fun _ => False) := by
  refine Met.ofW (cc := cX2_linesBy) (maxL := 2) (ret := (some .int)) (by decide) rfl ?_
  intro p e s m args below meth c s₁ B hml hv
  obtain ⟨rfl, ⟨hP, hK, hN⟩, hXN⟩ := hv
  have hx := B.exec
  have hb := B.bytes
  have hr := B.returns
  have hts := atoms_spec (ws := wsX2_linesBy) B.pre
  have hown : s.vm.findClass RX2 = some m.cls := findClass_of_methodNamed B.named
  have hlocks := B.notSynchronized
  have hl := lv_entry ([.ref a0, .int p0]) (n := 2) (Nat.le_of_ble_eq_true rfl)
  rw [lg_entry_eq]
  generalize (lg_sl ([.ref a0, .int p0]) ++ List.replicate (2 - (lg_sl ([.ref a0, .int p0])).length) Slot.unset).toArray = ls at hl ⊢
  have hl : lv_has ls 2 [(0, .ref a0), (1, .int p0)] := hl
  refine lv_iload_n hx hb dX2_linesBy_0 rfl (lv_at hl 1 rfl) ?_
  refine lv_aload_n hx hb dX2_linesBy_1 rfl (lv_at hl 0 rfl) ?_
  obtain ⟨kk_1, hk_2⟩ := pl_at ha0.1 hs
  refine va_get (D := (dC, dI)) (ci := 2) (v := .int lz) (C := RX2) (T := TX2) (N := 7) hx hb hts (by decide +kernel) hown hK hP kk_1 hk_2 rfl 5 (by decide) (hts (.fieldLink RX2 9 "PageOne$Filler" "least" "I") (by decide +kernel)) (fun _ h9 => h9) rfl dX2_linesBy_2 ?_
  refine lv_aload_n hx hb dX2_linesBy_5 rfl (lv_at hl 0 rfl) ?_
  obtain ⟨kk_3, hk_4⟩ := pl_at ha0.1 hs
  refine va_get (D := (dC, dI)) (ci := 2) (v := .int mz) (C := RX2) (T := TX2) (N := 7) hx hb hts (by decide +kernel) hown hK hP kk_3 hk_4 rfl 6 (by decide) (hts (.fieldLink RX2 15 "PageOne$Filler" "most" "I") (by decide +kernel)) (fun _ h9 => h9) rfl dX2_linesBy_6 ?_
  refine vp_callSi (va_runSN (As := [.int p0, .int lz, .int mz]) (rest := []) ⟨hx, hb, hml, hown, hts⟩ (x_isWithin l dC dI p0 lz mz) ⟨va_cnB (host := "PageOne") 3 hts gX2_linesBy_X11_isWithin_n18 rfl rfl rfl hN.n_RX2_18 (hts (.initialized RX11) (by decide +kernel)) (by decide +kernel) ⟨Nat.le_of_ble_eq_true rfl, Nat.le_of_ble_eq_true rfl⟩, hts (.static yX11_isWithin) (by decide +kernel), trivial⟩ ⟨pw_fb, fun U hU hW => ⟨rfl, pw_to hU hW (hP.sub (ws' := []) [] rfl) (hK.sub (tys' := []) [] rfl) hN⟩⟩ rfl rfl hl.1 rfl (lv_room (Nat.le_of_ble_eq_true rfl)) dX2_linesBy_9 ⟨Nat.le_of_ble_eq_true rfl, Nat.le_of_ble_eq_true rfl⟩).run (fun r hw => ?_)
  rcases Bool.eq_false_or_eq_true (bw p0 lz mz) with b_5 | b_5
  ·
    obtain rfl : r = 1 := b_t hw b_5
    refine lv_if_eq (tgt := 19) hx hb dX2_linesBy_12 (by decide) (fun c_6 => absurd c_6 (by decide)) (fun c_6 => ?_)
    refine lv_iload_n hx hb dX2_linesBy_15 rfl (lv_at hl 1 rfl) ?_
    refine lv_goto (tgt := 20) hx hb dX2_linesBy_16 (by decide) ?_
    exact W.iret (v := p0) hx hb hr (fun t ht hW => ⟨_, rfl, (by unfold s_linesF; rw [if_pos b_5]), ht⟩) (fun q h => absurd h List.not_mem_nil) dX2_linesBy_20
  ·
    obtain rfl : r = 0 := b_f hw b_5
    refine lv_if_eq (tgt := 19) hx hb dX2_linesBy_12 (by decide) (fun c_7 => ?_) (fun c_7 => absurd (by decide) c_7)
    refine lv_iconst (v := 0) hx hb dX2_linesBy_19 (by decide) ?_
    exact W.iret (v := 0) hx hb hr (fun t ht hW => ⟨_, rfl, (by unfold s_linesF; rw [if_neg (bne b_5)]), ht⟩) (fun q h => absurd h List.not_mem_nil) dX2_linesBy_20
def s_colsH (p0 wz : Int32) : Int32 := if p0 = 0 then wz else 0
set_option maxHeartbeats 4000000 in
set_option maxRecDepth 100000 in
theorem y_X3_columnsBy (l : Launch) (dC : Nat → ClassId) (dI : Nat → Nat → Nat) (q : Nat → ClassId) (h0 : Nat) (d : Nat → Nat) (k : Nat → Int32) (z : gS) (f : xF) (hI : xI q h0 d k z f) (a0 pa fa o : Nat) (nu kd cn wz yz : Int32) (ha0 : tg z a0 11) (hs : f a0 = .inr (3, [.int nu, .int kd, .ref pa, .int cn, .ref fa, .ref o, .int wz, .int yz])) (p0 : Int32) : Met l yX3_columnsBy wsX3_columnsBy ({ frames := 0, cells := 0, slots := 0, locals := 0 }) (va_Pc [.ref a0, .int p0] (PX dC dI (va_pl z.1 f) (xT q))) (vp_Si (fun r => r = s_colsH p0 wz)) 0 0 (fun _ => False) := by
  refine Met.ofW (cc := cX3_columnsBy) (maxL := 2) (ret := (some .int)) (by decide) rfl ?_
  intro p e s m args below meth c s₁ B hml hv
  obtain ⟨rfl, ⟨hP, hK, hN⟩, hXN⟩ := hv
  have hx := B.exec
  have hb := B.bytes
  have hr := B.returns
  have hts := atoms_spec (ws := wsX3_columnsBy) B.pre
  have hown : s.vm.findClass RX3 = some m.cls := findClass_of_methodNamed B.named
  have hlocks := B.notSynchronized
  have hl := lv_entry ([.ref a0, .int p0]) (n := 2) (Nat.le_of_ble_eq_true rfl)
  rw [lg_entry_eq]
  generalize (lg_sl ([.ref a0, .int p0]) ++ List.replicate (2 - (lg_sl ([.ref a0, .int p0])).length) Slot.unset).toArray = ls at hl ⊢
  have hl : lv_has ls 2 [(0, .ref a0), (1, .int p0)] := hl
  refine lv_iload_n hx hb dX3_columnsBy_0 rfl (lv_at hl 1 rfl) ?_
  refine lv_if_ne (tgt := 11) hx hb dX3_columnsBy_1 (by decide) (fun c_1 => ?_) (fun c_1 => ?_)
  ·
    refine lv_iconst (v := 0) hx hb dX3_columnsBy_11 (by decide) ?_
    exact W.iret (v := 0) hx hb hr (fun t ht hW => ⟨_, rfl, (by unfold s_colsH; rw [if_neg c_1]), ht⟩) (fun q h => absurd h List.not_mem_nil) dX3_columnsBy_12
  ·
    refine lv_aload_n hx hb dX3_columnsBy_4 rfl (lv_at hl 0 rfl) ?_
    obtain ⟨kk_2, hk_3⟩ := pl_at ha0.1 hs
    refine va_get (D := (dC, dI)) (ci := 3) (v := .int wz) (C := RX3) (T := TX3) (N := 8) hx hb hts (by decide +kernel) hown hK hP kk_2 hk_3 rfl 6 (by decide) (hts (.fieldLink RX3 15 "PageOne$Head" "w" "I") (by decide +kernel)) (fun _ h9 => h9) rfl dX3_columnsBy_5 ?_
    refine lv_goto (tgt := 12) hx hb dX3_columnsBy_8 (by decide) ?_
    exact W.iret (v := wz) hx hb hr (fun t ht hW => ⟨_, rfl, (by unfold s_colsH; rw [if_pos c_1]), ht⟩) (fun q h => absurd h List.not_mem_nil) dX3_columnsBy_12
def s_linesH (p0 yz : Int32) : Int32 := if p0 = 0 then yz else 0
set_option maxHeartbeats 4000000 in
set_option maxRecDepth 100000 in
theorem y_X3_linesBy (l : Launch) (dC : Nat → ClassId) (dI : Nat → Nat → Nat) (q : Nat → ClassId) (h0 : Nat) (d : Nat → Nat) (k : Nat → Int32) (z : gS) (f : xF) (hI : xI q h0 d k z f) (a0 pa fa o : Nat) (nu kd cn wz yz : Int32) (ha0 : tg z a0 11) (hs : f a0 = .inr (3, [.int nu, .int kd, .ref pa, .int cn, .ref fa, .ref o, .int wz, .int yz])) (p0 : Int32) : Met l yX3_linesBy wsX3_linesBy ({ frames := 0, cells := 0, slots := 0, locals := 0 }) (va_Pc [.ref a0, .int p0] (PX dC dI (va_pl z.1 f) (xT q))) (vp_Si (fun r => r = s_linesH p0 yz)) 0 0 (fun _ => False) := by
  refine Met.ofW (cc := cX3_linesBy) (maxL := 2) (ret := (some .int)) (by decide) rfl ?_
  intro p e s m args below meth c s₁ B hml hv
  obtain ⟨rfl, ⟨hP, hK, hN⟩, hXN⟩ := hv
  have hx := B.exec
  have hb := B.bytes
  have hr := B.returns
  have hts := atoms_spec (ws := wsX3_linesBy) B.pre
  have hown : s.vm.findClass RX3 = some m.cls := findClass_of_methodNamed B.named
  have hlocks := B.notSynchronized
  have hl := lv_entry ([.ref a0, .int p0]) (n := 2) (Nat.le_of_ble_eq_true rfl)
  rw [lg_entry_eq]
  generalize (lg_sl ([.ref a0, .int p0]) ++ List.replicate (2 - (lg_sl ([.ref a0, .int p0])).length) Slot.unset).toArray = ls at hl ⊢
  have hl : lv_has ls 2 [(0, .ref a0), (1, .int p0)] := hl
  refine lv_iload_n hx hb dX3_linesBy_0 rfl (lv_at hl 1 rfl) ?_
  refine lv_if_ne (tgt := 11) hx hb dX3_linesBy_1 (by decide) (fun c_1 => ?_) (fun c_1 => ?_)
  ·
    refine lv_iconst (v := 0) hx hb dX3_linesBy_11 (by decide) ?_
    exact W.iret (v := 0) hx hb hr (fun t ht hW => ⟨_, rfl, (by unfold s_linesH; rw [if_neg c_1]), ht⟩) (fun q h => absurd h List.not_mem_nil) dX3_linesBy_12
  ·
    refine lv_aload_n hx hb dX3_linesBy_4 rfl (lv_at hl 0 rfl) ?_
    obtain ⟨kk_2, hk_3⟩ := pl_at ha0.1 hs
    refine va_get (D := (dC, dI)) (ci := 3) (v := .int yz) (C := RX3) (T := TX3) (N := 8) hx hb hts (by decide +kernel) hown hK hP kk_2 hk_3 rfl 7 (by decide) (hts (.fieldLink RX3 19 "PageOne$Head" "h" "I") (by decide +kernel)) (fun _ h9 => h9) rfl dX3_linesBy_5 ?_
    refine lv_goto (tgt := 12) hx hb dX3_linesBy_8 (by decide) ?_
    exact W.iret (v := yz) hx hb hr (fun t ht hW => ⟨_, rfl, (by unfold s_linesH; rw [if_pos c_1]), ht⟩) (fun q h => absurd h List.not_mem_nil) dX3_linesBy_12
def s_linesN (p0 yz : Int32) : Int32 := if p0 = 0 then yz else 0
set_option maxHeartbeats 4000000 in
set_option maxRecDepth 100000 in
theorem y_X5_linesBy (l : Launch) (dC : Nat → ClassId) (dI : Nat → Nat → Nat) (q : Nat → ClassId) (h0 : Nat) (d : Nat → Nat) (k : Nat → Int32) (z : gS) (f : xF) (hI : xI q h0 d k z f) (a0 pa fa o : Nat) (nu kd cn yz : Int32) (ha0 : tg z a0 12) (hs : f a0 = .inr (4, [.int nu, .int kd, .ref pa, .int cn, .ref fa, .ref o, .int yz])) (p0 : Int32) : Met l yX5_linesBy wsX5_linesBy ({ frames := 0, cells := 0, slots := 0, locals := 0 }) (va_Pc [.ref a0, .int p0] (PX dC dI (va_pl z.1 f) (xT q))) (vp_Si (fun r => r = s_linesN p0 yz)) 0 0 (fun _ => False) := by
  refine Met.ofW (cc := cX5_linesBy) (maxL := 2) (ret := (some .int)) (by decide) rfl ?_
  intro p e s m args below meth c s₁ B hml hv
  obtain ⟨rfl, ⟨hP, hK, hN⟩, hXN⟩ := hv
  have hx := B.exec
  have hb := B.bytes
  have hr := B.returns
  have hts := atoms_spec (ws := wsX5_linesBy) B.pre
  have hown : s.vm.findClass RX5 = some m.cls := findClass_of_methodNamed B.named
  have hlocks := B.notSynchronized
  have hl := lv_entry ([.ref a0, .int p0]) (n := 2) (Nat.le_of_ble_eq_true rfl)
  rw [lg_entry_eq]
  generalize (lg_sl ([.ref a0, .int p0]) ++ List.replicate (2 - (lg_sl ([.ref a0, .int p0])).length) Slot.unset).toArray = ls at hl ⊢
  have hl : lv_has ls 2 [(0, .ref a0), (1, .int p0)] := hl
  refine lv_iload_n hx hb dX5_linesBy_0 rfl (lv_at hl 1 rfl) ?_
  refine lv_if_ne (tgt := 11) hx hb dX5_linesBy_1 (by decide) (fun c_1 => ?_) (fun c_1 => ?_)
  ·
    refine lv_iconst (v := 0) hx hb dX5_linesBy_11 (by decide) ?_
    exact W.iret (v := 0) hx hb hr (fun t ht hW => ⟨_, rfl, (by unfold s_linesN; rw [if_neg c_1]), ht⟩) (fun q h => absurd h List.not_mem_nil) dX5_linesBy_12
  ·
    refine lv_aload_n hx hb dX5_linesBy_4 rfl (lv_at hl 0 rfl) ?_
    obtain ⟨kk_2, hk_3⟩ := pl_at ha0.1 hs
    refine va_get (D := (dC, dI)) (ci := 4) (v := .int yz) (C := RX5) (T := TX5) (N := 7) hx hb hts (by decide +kernel) hown hK hP kk_2 hk_3 rfl 6 (by decide) (hts (.fieldLink RX5 15 "PageOne$Notice" "h" "I") (by decide +kernel)) (fun _ h9 => h9) rfl dX5_linesBy_5 ?_
    refine lv_goto (tgt := 12) hx hb dX5_linesBy_8 (by decide) ?_
    exact W.iret (v := yz) hx hb hr (fun t ht hW => ⟨_, rfl, (by unfold s_linesN; rw [if_pos c_1]), ht⟩) (fun q h => absurd h List.not_mem_nil) dX5_linesBy_12
def s_colsP (p0 DD : Int32) : Int32 := if p0 = 0 then DD else 0
set_option maxHeartbeats 4000000 in
set_option maxRecDepth 100000 in
theorem y_X6_columnsBy (l : Launch) (dC : Nat → ClassId) (dI : Nat → Nat → Nat) (q : Nat → ClassId) (h0 : Nat) (d : Nat → Nat) (k : Nat → Int32) (z : gS) (f : xF) (hI : xI q h0 d k z f) (a0 pa fa sp dy : Nat) (nu kd cn bu pr : Int32) (ha0 : tg z a0 13) (hs : f a0 = .inr (5, [.int nu, .int kd, .ref pa, .int cn, .ref fa, .int bu, .int pr, .ref sp, .ref dy])) (p0 : Int32) (is : Option Nat) (PP XX YY DD NN : Int32) (hsp : pcS z sp is PP XX YY DD NN) : Met l yX6_columnsBy wsX6_columnsBy ({ frames := 0, cells := 0, slots := 0, locals := 0 }) (va_Pc [.ref a0, .int p0] (PX dC dI (va_pl z.1 f) (xT q))) (vp_Si (fun r => r = s_colsP p0 DD)) 0 0 (fun _ => False) := by
  refine Met.ofW (cc := cX6_columnsBy) (maxL := 2) (ret := (some .int)) (by decide) rfl ?_
  intro p e s m args below meth c s₁ B hml hv
  obtain ⟨rfl, ⟨hP, hK, hN⟩, hXN⟩ := hv
  have hx := B.exec
  have hb := B.bytes
  have hr := B.returns
  have hts := atoms_spec (ws := wsX6_columnsBy) B.pre
  have hown : s.vm.findClass RX6 = some m.cls := findClass_of_methodNamed B.named
  have hlocks := B.notSynchronized
  have hl := lv_entry ([.ref a0, .int p0]) (n := 2) (Nat.le_of_ble_eq_true rfl)
  rw [lg_entry_eq]
  generalize (lg_sl ([.ref a0, .int p0]) ++ List.replicate (2 - (lg_sl ([.ref a0, .int p0])).length) Slot.unset).toArray = ls at hl ⊢
  have hl : lv_has ls 2 [(0, .ref a0), (1, .int p0)] := hl
  refine lv_iload_n hx hb dX6_columnsBy_0 rfl (lv_at hl 1 rfl) ?_
  refine lv_if_ne (tgt := 14) hx hb dX6_columnsBy_1 (by decide) (fun c_1 => ?_) (fun c_1 => ?_)
  ·
    refine lv_iconst (v := 0) hx hb dX6_columnsBy_14 (by decide) ?_
    exact W.iret (v := 0) hx hb hr (fun t ht hW => ⟨_, rfl, (by unfold s_colsP; rw [if_neg c_1]), ht⟩) (fun q h => absurd h List.not_mem_nil) dX6_columnsBy_15
  ·
    refine lv_aload_n hx hb dX6_columnsBy_4 rfl (lv_at hl 0 rfl) ?_
    obtain ⟨kk_2, hk_3⟩ := pl_at ha0.1 hs
    refine va_get (D := (dC, dI)) (ci := 5) (v := .ref sp) (C := RX6) (T := TX6) (N := 9) hx hb hts (by decide +kernel) hown hK hP kk_2 hk_3 rfl 7 (by decide) (hts (.fieldLink RX6 22 "PageOne$Paid" "spot" "LPageOne$Piece;") (by decide +kernel)) (fun _ h9 => h9) rfl dX6_columnsBy_5 ?_
    obtain ⟨kk_4, hk_5⟩ := pl_at hsp.1.1 (x_pcF hI hsp)
    refine va_get (D := (dC, dI)) (ci := 7) (v := .int DD) (C := RX8) (T := TX8) (N := 6) hx hb hts (by decide +kernel) hown hK hP kk_4 hk_5 rfl 4 (by decide) (hts (.fieldLink RX6 26 "PageOne$Piece" "w" "I") (by decide +kernel)) (fun _ h9 => h9) rfl dX6_columnsBy_8 ?_
    refine lv_goto (tgt := 15) hx hb dX6_columnsBy_11 (by decide) ?_
    exact W.iret (v := DD) hx hb hr (fun t ht hW => ⟨_, rfl, (by unfold s_colsP; rw [if_pos c_1]), ht⟩) (fun q h => absurd h List.not_mem_nil) dX6_columnsBy_15
def s_linesP (p0 NN : Int32) : Int32 := if p0 = 0 then NN else 0
set_option maxHeartbeats 4000000 in
set_option maxRecDepth 100000 in
theorem y_X6_linesBy (l : Launch) (dC : Nat → ClassId) (dI : Nat → Nat → Nat) (q : Nat → ClassId) (h0 : Nat) (d : Nat → Nat) (k : Nat → Int32) (z : gS) (f : xF) (hI : xI q h0 d k z f) (a0 pa fa sp dy : Nat) (nu kd cn bu pr : Int32) (ha0 : tg z a0 13) (hs : f a0 = .inr (5, [.int nu, .int kd, .ref pa, .int cn, .ref fa, .int bu, .int pr, .ref sp, .ref dy])) (p0 : Int32) (is : Option Nat) (PP XX YY DD NN : Int32) (hsp : pcS z sp is PP XX YY DD NN) : Met l yX6_linesBy wsX6_linesBy ({ frames := 0, cells := 0, slots := 0, locals := 0 }) (va_Pc [.ref a0, .int p0] (PX dC dI (va_pl z.1 f) (xT q))) (vp_Si (fun r => r = s_linesP p0 NN)) 0 0 (fun _ => False) := by
  refine Met.ofW (cc := cX6_linesBy) (maxL := 2) (ret := (some .int)) (by decide) rfl ?_
  intro p e s m args below meth c s₁ B hml hv
  obtain ⟨rfl, ⟨hP, hK, hN⟩, hXN⟩ := hv
  have hx := B.exec
  have hb := B.bytes
  have hr := B.returns
  have hts := atoms_spec (ws := wsX6_linesBy) B.pre
  have hown : s.vm.findClass RX6 = some m.cls := findClass_of_methodNamed B.named
  have hlocks := B.notSynchronized
  have hl := lv_entry ([.ref a0, .int p0]) (n := 2) (Nat.le_of_ble_eq_true rfl)
  rw [lg_entry_eq]
  generalize (lg_sl ([.ref a0, .int p0]) ++ List.replicate (2 - (lg_sl ([.ref a0, .int p0])).length) Slot.unset).toArray = ls at hl ⊢
  have hl : lv_has ls 2 [(0, .ref a0), (1, .int p0)] := hl
  refine lv_iload_n hx hb dX6_linesBy_0 rfl (lv_at hl 1 rfl) ?_
  refine lv_if_ne (tgt := 14) hx hb dX6_linesBy_1 (by decide) (fun c_1 => ?_) (fun c_1 => ?_)
  ·
    refine lv_iconst (v := 0) hx hb dX6_linesBy_14 (by decide) ?_
    exact W.iret (v := 0) hx hb hr (fun t ht hW => ⟨_, rfl, (by unfold s_linesP; rw [if_neg c_1]), ht⟩) (fun q h => absurd h List.not_mem_nil) dX6_linesBy_15
  ·
    refine lv_aload_n hx hb dX6_linesBy_4 rfl (lv_at hl 0 rfl) ?_
    obtain ⟨kk_2, hk_3⟩ := pl_at ha0.1 hs
    refine va_get (D := (dC, dI)) (ci := 5) (v := .ref sp) (C := RX6) (T := TX6) (N := 9) hx hb hts (by decide +kernel) hown hK hP kk_2 hk_3 rfl 7 (by decide) (hts (.fieldLink RX6 22 "PageOne$Paid" "spot" "LPageOne$Piece;") (by decide +kernel)) (fun _ h9 => h9) rfl dX6_linesBy_5 ?_
    obtain ⟨kk_4, hk_5⟩ := pl_at hsp.1.1 (x_pcF hI hsp)
    refine va_get (D := (dC, dI)) (ci := 7) (v := .int NN) (C := RX8) (T := TX8) (N := 6) hx hb hts (by decide +kernel) hown hK hP kk_4 hk_5 rfl 5 (by decide) (hts (.fieldLink RX6 31 "PageOne$Piece" "h" "I") (by decide +kernel)) (fun _ h9 => h9) rfl dX6_linesBy_8 ?_
    refine lv_goto (tgt := 15) hx hb dX6_linesBy_11 (by decide) ?_
    exact W.iret (v := NN) hx hb hr (fun t ht hW => ⟨_, rfl, (by unfold s_linesP; rw [if_pos c_1]), ht⟩) (fun q h => absurd h List.not_mem_nil) dX6_linesBy_15
def s_cost (DD NN pr : Int32) : Int32 := ((DD * NN) * pr)
set_option maxHeartbeats 4000000 in
set_option maxRecDepth 100000 in
theorem y_cost (l : Launch) (dC : Nat → ClassId) (dI : Nat → Nat → Nat) (q : Nat → ClassId) (h0 : Nat) (d : Nat → Nat) (k : Nat → Int32) (z : gS) (f : xF) (hI : xI q h0 d k z f) (a0 pa fa sp dy : Nat) (nu kd cn bu pr : Int32) (ha0 : tg z a0 13) (hs : f a0 = .inr (5, [.int nu, .int kd, .ref pa, .int cn, .ref fa, .int bu, .int pr, .ref sp, .ref dy])) (is : Option Nat) (PP XX YY DD NN : Int32) (hsp : pcS z sp is PP XX YY DD NN) : Met l yX6_cost wsX6_cost ({ frames := 0, cells := 0, slots := 0, locals := 0 }) (va_Pc [.ref a0] (PX dC dI (va_pl z.1 f) (xT q))) (vp_Si (fun r => r = s_cost DD NN pr)) 0 0 (fun _ => False) := by
  refine Met.ofW (cc := cX6_cost) (maxL := 1) (ret := (some .int)) (by decide) rfl ?_
  intro p e s m args below meth c s₁ B hml hv
  obtain ⟨rfl, ⟨hP, hK, hN⟩, hXN⟩ := hv
  have hx := B.exec
  have hb := B.bytes
  have hr := B.returns
  have hts := atoms_spec (ws := wsX6_cost) B.pre
  have hown : s.vm.findClass RX6 = some m.cls := findClass_of_methodNamed B.named
  have hlocks := B.notSynchronized
  have hl := lv_entry ([.ref a0]) (n := 1) (Nat.le_of_ble_eq_true rfl)
  rw [lg_entry_eq]
  generalize (lg_sl ([.ref a0]) ++ List.replicate (1 - (lg_sl ([.ref a0])).length) Slot.unset).toArray = ls at hl ⊢
  have hl : lv_has ls 1 [(0, .ref a0)] := hl
  refine lv_aload_n hx hb dX6_cost_0 rfl (lv_at hl 0 rfl) ?_
  obtain ⟨kk_1, hk_2⟩ := pl_at ha0.1 hs
  refine va_get (D := (dC, dI)) (ci := 5) (v := .ref sp) (C := RX6) (T := TX6) (N := 9) hx hb hts (by decide +kernel) hown hK hP kk_1 hk_2 rfl 7 (by decide) (hts (.fieldLink RX6 22 "PageOne$Paid" "spot" "LPageOne$Piece;") (by decide +kernel)) (fun _ h9 => h9) rfl dX6_cost_1 ?_
  obtain ⟨kk_3, hk_4⟩ := pl_at hsp.1.1 (x_pcF hI hsp)
  refine va_get (D := (dC, dI)) (ci := 7) (v := .int DD) (C := RX8) (T := TX8) (N := 6) hx hb hts (by decide +kernel) hown hK hP kk_3 hk_4 rfl 4 (by decide) (hts (.fieldLink RX6 26 "PageOne$Piece" "w" "I") (by decide +kernel)) (fun _ h9 => h9) rfl dX6_cost_4 ?_
  refine lv_aload_n hx hb dX6_cost_7 rfl (lv_at hl 0 rfl) ?_
  obtain ⟨kk_5, hk_6⟩ := pl_at ha0.1 hs
  refine va_get (D := (dC, dI)) (ci := 5) (v := .ref sp) (C := RX6) (T := TX6) (N := 9) hx hb hts (by decide +kernel) hown hK hP kk_5 hk_6 rfl 7 (by decide) (hts (.fieldLink RX6 22 "PageOne$Paid" "spot" "LPageOne$Piece;") (by decide +kernel)) (fun _ h9 => h9) rfl dX6_cost_8 ?_
  obtain ⟨kk_7, hk_8⟩ := pl_at hsp.1.1 (x_pcF hI hsp)
  refine va_get (D := (dC, dI)) (ci := 7) (v := .int NN) (C := RX8) (T := TX8) (N := 6) hx hb hts (by decide +kernel) hown hK hP kk_7 hk_8 rfl 5 (by decide) (hts (.fieldLink RX6 31 "PageOne$Piece" "h" "I") (by decide +kernel)) (fun _ h9 => h9) rfl dX6_cost_11 ?_
  refine lv_imul hx hb dX6_cost_14 ?_
  refine lv_aload_n hx hb dX6_cost_15 rfl (lv_at hl 0 rfl) ?_
  obtain ⟨kk_9, hk_10⟩ := pl_at ha0.1 hs
  refine va_get (D := (dC, dI)) (ci := 5) (v := .int pr) (C := RX6) (T := TX6) (N := 9) hx hb hts (by decide +kernel) hown hK hP kk_9 hk_10 rfl 6 (by decide) (hts (.fieldLink RX6 19 "PageOne$Paid" "price" "I") (by decide +kernel)) (fun _ h9 => h9) rfl dX6_cost_16 ?_
  refine lv_imul hx hb dX6_cost_19 ?_
  exact W.iret (v := ((DD * NN) * pr)) hx hb hr (fun t ht hW => ⟨_, rfl, (by unfold s_cost; rfl), ht⟩) (fun q h => absurd h List.not_mem_nil) dX6_cost_20
def s_colsI (p0 sn : Int32) (g : Nat → Int32) : Int32 := if bw p0 0 (sn - 1) = true then (g (p0 : Int32).toNatClampNeg) else 0
set_option maxHeartbeats 4000000 in
set_option maxRecDepth 100000 in
theorem y_X7_columnsBy (l : Launch) (dC : Nat → ClassId) (dI : Nat → Nat → Nat) (q : Nat → ClassId) (h0 : Nat) (d : Nat → Nat) (k : Nat → Int32) (z : gS) (f : xF) (hI : xI q h0 d k z f) (a0 pa fa ww hh : Nat) (nu kd cn sn : Int32) (ha0 : tg z a0 14) (hs : f a0 = .inr (6, [.int nu, .int kd, .ref pa, .int cn, .ref fa, .ref ww, .ref hh, .int sn])) (p0 : Int32) (g : Nat → Int32) (hrw : tg z ww 20) (hrg : f ww = aI (q 0) 4 g) (hz4 : bw sn 0 4 = true) : Met l yX7_columnsBy wsX7_columnsBy ({ frames := 1, cells := 0, slots := 0, locals := 22 }) (va_Pc [.ref a0, .int p0] (PX dC dI (va_pl z.1 f) (xT q))) (vp_Si (fun r => r = s_colsI p0 sn g)) 0 0 (fun _ => False) := by
  refine Met.ofW (cc := cX7_columnsBy) (maxL := 2) (ret := (some .int)) (by decide) rfl ?_
  intro p e s m args below meth c s₁ B hml hv
  obtain ⟨rfl, ⟨hP, hK, hN⟩, hXN⟩ := hv
  have hx := B.exec
  have hb := B.bytes
  have hr := B.returns
  have hts := atoms_spec (ws := wsX7_columnsBy) B.pre
  have hown : s.vm.findClass RX7 = some m.cls := findClass_of_methodNamed B.named
  have hlocks := B.notSynchronized
  have hl := lv_entry ([.ref a0, .int p0]) (n := 2) (Nat.le_of_ble_eq_true rfl)
  rw [lg_entry_eq]
  generalize (lg_sl ([.ref a0, .int p0]) ++ List.replicate (2 - (lg_sl ([.ref a0, .int p0])).length) Slot.unset).toArray = ls at hl ⊢
  have hl : lv_has ls 2 [(0, .ref a0), (1, .int p0)] := hl
  refine lv_iload_n hx hb dX7_columnsBy_0 rfl (lv_at hl 1 rfl) ?_
  refine lv_iconst (v := 0) hx hb dX7_columnsBy_1 (by decide) ?_
  refine lv_aload_n hx hb dX7_columnsBy_2 rfl (lv_at hl 0 rfl) ?_
  obtain ⟨kk_1, hk_2⟩ := pl_at ha0.1 hs
  refine va_get (D := (dC, dI)) (ci := 6) (v := .int sn) (C := RX7) (T := TX7) (N := 8) hx hb hts (by decide +kernel) hown hK hP kk_1 hk_2 rfl 7 (by decide) (hts (.fieldLink RX7 18 "PageOne$Picture" "sizes" "I") (by decide +kernel)) (fun _ h9 => h9) rfl dX7_columnsBy_3 ?_
  refine lv_iconst (v := 1) hx hb dX7_columnsBy_6 (by decide) ?_
  refine lv_isub hx hb dX7_columnsBy_7 ?_
  refine vp_callSi (va_runSN (As := [.int p0, .int 0, .int (sn - 1)]) (rest := []) ⟨hx, hb, hml, hown, hts⟩ (x_isWithin l dC dI p0 0 (sn - 1)) ⟨va_cnB (host := "PageOne") 3 hts gX7_columnsBy_X11_isWithin_n22 rfl rfl rfl hN.n_RX7_22 (hts (.initialized RX11) (by decide +kernel)) (by decide +kernel) ⟨Nat.le_of_ble_eq_true rfl, Nat.le_of_ble_eq_true rfl⟩, hts (.static yX11_isWithin) (by decide +kernel), trivial⟩ ⟨pw_fb, fun U hU hW => ⟨rfl, pw_to hU hW (hP.sub (ws' := []) [] rfl) (hK.sub (tys' := []) [] rfl) hN⟩⟩ rfl rfl hl.1 rfl (lv_room (Nat.le_of_ble_eq_true rfl)) dX7_columnsBy_8 ⟨Nat.le_of_ble_eq_true rfl, Nat.le_of_ble_eq_true rfl⟩).run (fun r hw => ?_)
  rcases Bool.eq_false_or_eq_true (bw p0 0 (sn - 1)) with b_3 | b_3
  ·
    obtain rfl : r = 1 := b_t hw b_3
    refine lv_if_eq (tgt := 23) hx hb dX7_columnsBy_11 (by decide) (fun c_4 => absurd c_4 (by decide)) (fun c_4 => ?_)
    refine lv_aload_n hx hb dX7_columnsBy_14 rfl (lv_at hl 0 rfl) ?_
    obtain ⟨kk_5, hk_6⟩ := pl_at ha0.1 hs
    refine va_get (D := (dC, dI)) (ci := 6) (v := .ref ww) (C := RX7) (T := TX7) (N := 8) hx hb hts (by decide +kernel) hown hK hP kk_5 hk_6 rfl 5 (by decide) (hts (.fieldLink RX7 9 "PageOne$Picture" "widths" "[I") (by decide +kernel)) (fun _ h9 => h9) rfl dX7_columnsBy_15 ?_
    refine lv_iload_n hx hb dX7_columnsBy_18 rfl (lv_at hl 1 rfl) ?_
    obtain ⟨kk_7, hk_8⟩ := pl_at hrw.1 hrg
    refine va_iald hx hb hK hP kk_7 0 hk_8 rfl (vsz hz4 b_3) dX7_columnsBy_19 ?_
    refine lv_goto (tgt := 24) hx hb dX7_columnsBy_20 (by decide) ?_
    exact W.iret (v := (g (p0 : Int32).toNatClampNeg)) hx hb hr (fun t ht hW => ⟨_, rfl, (by unfold s_colsI; rw [if_pos b_3]), ht⟩) (fun q h => absurd h List.not_mem_nil) dX7_columnsBy_24
  ·
    obtain rfl : r = 0 := b_f hw b_3
    refine lv_if_eq (tgt := 23) hx hb dX7_columnsBy_11 (by decide) (fun c_9 => ?_) (fun c_9 => absurd (by decide) c_9)
    refine lv_iconst (v := 0) hx hb dX7_columnsBy_23 (by decide) ?_
    exact W.iret (v := 0) hx hb hr (fun t ht hW => ⟨_, rfl, (by unfold s_colsI; rw [if_neg (bne b_3)]), ht⟩) (fun q h => absurd h List.not_mem_nil) dX7_columnsBy_24
def s_linesI (p0 sn : Int32) (g : Nat → Int32) : Int32 := if bw p0 0 (sn - 1) = true then (g (p0 : Int32).toNatClampNeg) else 0
set_option maxHeartbeats 4000000 in
set_option maxRecDepth 100000 in
theorem y_X7_linesBy (l : Launch) (dC : Nat → ClassId) (dI : Nat → Nat → Nat) (q : Nat → ClassId) (h0 : Nat) (d : Nat → Nat) (k : Nat → Int32) (z : gS) (f : xF) (hI : xI q h0 d k z f) (a0 pa fa ww hh : Nat) (nu kd cn sn : Int32) (ha0 : tg z a0 14) (hs : f a0 = .inr (6, [.int nu, .int kd, .ref pa, .int cn, .ref fa, .ref ww, .ref hh, .int sn])) (p0 : Int32) (g : Nat → Int32) (hrw : tg z hh 20) (hrg : f hh = aI (q 0) 4 g) (hz4 : bw sn 0 4 = true) : Met l yX7_linesBy wsX7_linesBy ({ frames := 1, cells := 0, slots := 0, locals := 22 }) (va_Pc [.ref a0, .int p0] (PX dC dI (va_pl z.1 f) (xT q))) (vp_Si (fun r => r = s_linesI p0 sn g)) 0 0 (fun _ => False) := by
  refine Met.ofW (cc := cX7_linesBy) (maxL := 2) (ret := (some .int)) (by decide) rfl ?_
  intro p e s m args below meth c s₁ B hml hv
  obtain ⟨rfl, ⟨hP, hK, hN⟩, hXN⟩ := hv
  have hx := B.exec
  have hb := B.bytes
  have hr := B.returns
  have hts := atoms_spec (ws := wsX7_linesBy) B.pre
  have hown : s.vm.findClass RX7 = some m.cls := findClass_of_methodNamed B.named
  have hlocks := B.notSynchronized
  have hl := lv_entry ([.ref a0, .int p0]) (n := 2) (Nat.le_of_ble_eq_true rfl)
  rw [lg_entry_eq]
  generalize (lg_sl ([.ref a0, .int p0]) ++ List.replicate (2 - (lg_sl ([.ref a0, .int p0])).length) Slot.unset).toArray = ls at hl ⊢
  have hl : lv_has ls 2 [(0, .ref a0), (1, .int p0)] := hl
  refine lv_iload_n hx hb dX7_linesBy_0 rfl (lv_at hl 1 rfl) ?_
  refine lv_iconst (v := 0) hx hb dX7_linesBy_1 (by decide) ?_
  refine lv_aload_n hx hb dX7_linesBy_2 rfl (lv_at hl 0 rfl) ?_
  obtain ⟨kk_1, hk_2⟩ := pl_at ha0.1 hs
  refine va_get (D := (dC, dI)) (ci := 6) (v := .int sn) (C := RX7) (T := TX7) (N := 8) hx hb hts (by decide +kernel) hown hK hP kk_1 hk_2 rfl 7 (by decide) (hts (.fieldLink RX7 18 "PageOne$Picture" "sizes" "I") (by decide +kernel)) (fun _ h9 => h9) rfl dX7_linesBy_3 ?_
  refine lv_iconst (v := 1) hx hb dX7_linesBy_6 (by decide) ?_
  refine lv_isub hx hb dX7_linesBy_7 ?_
  refine vp_callSi (va_runSN (As := [.int p0, .int 0, .int (sn - 1)]) (rest := []) ⟨hx, hb, hml, hown, hts⟩ (x_isWithin l dC dI p0 0 (sn - 1)) ⟨va_cnB (host := "PageOne") 3 hts gX7_linesBy_X11_isWithin_n22 rfl rfl rfl hN.n_RX7_22 (hts (.initialized RX11) (by decide +kernel)) (by decide +kernel) ⟨Nat.le_of_ble_eq_true rfl, Nat.le_of_ble_eq_true rfl⟩, hts (.static yX11_isWithin) (by decide +kernel), trivial⟩ ⟨pw_fb, fun U hU hW => ⟨rfl, pw_to hU hW (hP.sub (ws' := []) [] rfl) (hK.sub (tys' := []) [] rfl) hN⟩⟩ rfl rfl hl.1 rfl (lv_room (Nat.le_of_ble_eq_true rfl)) dX7_linesBy_8 ⟨Nat.le_of_ble_eq_true rfl, Nat.le_of_ble_eq_true rfl⟩).run (fun r hw => ?_)
  rcases Bool.eq_false_or_eq_true (bw p0 0 (sn - 1)) with b_3 | b_3
  ·
    obtain rfl : r = 1 := b_t hw b_3
    refine lv_if_eq (tgt := 23) hx hb dX7_linesBy_11 (by decide) (fun c_4 => absurd c_4 (by decide)) (fun c_4 => ?_)
    refine lv_aload_n hx hb dX7_linesBy_14 rfl (lv_at hl 0 rfl) ?_
    obtain ⟨kk_5, hk_6⟩ := pl_at ha0.1 hs
    refine va_get (D := (dC, dI)) (ci := 6) (v := .ref hh) (C := RX7) (T := TX7) (N := 8) hx hb hts (by decide +kernel) hown hK hP kk_5 hk_6 rfl 6 (by decide) (hts (.fieldLink RX7 15 "PageOne$Picture" "heights" "[I") (by decide +kernel)) (fun _ h9 => h9) rfl dX7_linesBy_15 ?_
    refine lv_iload_n hx hb dX7_linesBy_18 rfl (lv_at hl 1 rfl) ?_
    obtain ⟨kk_7, hk_8⟩ := pl_at hrw.1 hrg
    refine va_iald hx hb hK hP kk_7 0 hk_8 rfl (vsz hz4 b_3) dX7_linesBy_19 ?_
    refine lv_goto (tgt := 24) hx hb dX7_linesBy_20 (by decide) ?_
    exact W.iret (v := (g (p0 : Int32).toNatClampNeg)) hx hb hr (fun t ht hW => ⟨_, rfl, (by unfold s_linesI; rw [if_pos b_3]), ht⟩) (fun q h => absurd h List.not_mem_nil) dX7_linesBy_24
  ·
    obtain rfl : r = 0 := b_f hw b_3
    refine lv_if_eq (tgt := 23) hx hb dX7_linesBy_11 (by decide) (fun c_9 => ?_) (fun c_9 => absurd (by decide) c_9)
    refine lv_iconst (v := 0) hx hb dX7_linesBy_23 (by decide) ?_
    exact W.iret (v := 0) hx hb hr (fun t ht hW => ⟨_, rfl, (by unfold s_linesI; rw [if_neg (bne b_3)]), ht⟩) (fun q h => absurd h List.not_mem_nil) dX7_linesBy_24
def s_linesS (p0 : Int32) : Int32 := if bw p0 1 60 = true then p0 else 0
set_option maxHeartbeats 4000000 in
set_option maxRecDepth 100000 in
theorem y_X10_linesBy (l : Launch) (dC : Nat → ClassId) (dI : Nat → Nat → Nat) (q : Nat → ClassId) (h0 : Nat) (d : Nat → Nat) (k : Nat → Int32) (z : gS) (f : xF) (hI : xI q h0 d k z f) (a0 pa fa wd nm : Nat) (nu kd cn lz co : Int32) (ha0 : tg z a0 15) (hs : f a0 = .inr (9, [.int nu, .int kd, .ref pa, .int cn, .ref fa, .int lz, .ref wd, .int co, .ref nm])) (p0 : Int32) : Met l yX10_linesBy wsX10_linesBy ({ frames := 1, cells := 0, slots := 0, locals := 22 }) (va_Pc [.ref a0, .int p0] (PX dC dI (va_pl z.1 f) (xT q))) (vp_Si (fun r => r = s_linesS p0)) 0 0 (fun _ => False) := by
  refine Met.ofW (cc := cX10_linesBy) (maxL := 2) (ret := (some .int)) (by decide) rfl ?_
  intro p e s m args below meth c s₁ B hml hv
  obtain ⟨rfl, ⟨hP, hK, hN⟩, hXN⟩ := hv
  have hx := B.exec
  have hb := B.bytes
  have hr := B.returns
  have hts := atoms_spec (ws := wsX10_linesBy) B.pre
  have hown : s.vm.findClass RX10 = some m.cls := findClass_of_methodNamed B.named
  have hlocks := B.notSynchronized
  have hl := lv_entry ([.ref a0, .int p0]) (n := 2) (Nat.le_of_ble_eq_true rfl)
  rw [lg_entry_eq]
  generalize (lg_sl ([.ref a0, .int p0]) ++ List.replicate (2 - (lg_sl ([.ref a0, .int p0])).length) Slot.unset).toArray = ls at hl ⊢
  have hl : lv_has ls 2 [(0, .ref a0), (1, .int p0)] := hl
  refine lv_iload_n hx hb dX10_linesBy_0 rfl (lv_at hl 1 rfl) ?_
  refine lv_iconst (v := 1) hx hb dX10_linesBy_1 (by decide) ?_
  refine lv_bipush (v := 60) hx hb dX10_linesBy_2 (by decide) ?_
  refine vp_callSi (va_runSN (As := [.int p0, .int 1, .int 60]) (rest := []) ⟨hx, hb, hml, hown, hts⟩ (x_isWithin l dC dI p0 1 60) ⟨va_cnB (host := "PageOne") 3 hts gX10_linesBy_X11_isWithin_n26 rfl rfl rfl hN.n_RX10_26 (hts (.initialized RX11) (by decide +kernel)) (by decide +kernel) ⟨Nat.le_of_ble_eq_true rfl, Nat.le_of_ble_eq_true rfl⟩, hts (.static yX11_isWithin) (by decide +kernel), trivial⟩ ⟨pw_fb, fun U hU hW => ⟨rfl, pw_to hU hW (hP.sub (ws' := []) [] rfl) (hK.sub (tys' := []) [] rfl) hN⟩⟩ rfl rfl hl.1 rfl (lv_room (Nat.le_of_ble_eq_true rfl)) dX10_linesBy_4 ⟨Nat.le_of_ble_eq_true rfl, Nat.le_of_ble_eq_true rfl⟩).run (fun r hw => ?_)
  rcases Bool.eq_false_or_eq_true (bw p0 1 60) with b_1 | b_1
  ·
    obtain rfl : r = 1 := b_t hw b_1
    refine lv_if_eq (tgt := 14) hx hb dX10_linesBy_7 (by decide) (fun c_2 => absurd c_2 (by decide)) (fun c_2 => ?_)
    refine lv_iload_n hx hb dX10_linesBy_10 rfl (lv_at hl 1 rfl) ?_
    refine lv_goto (tgt := 15) hx hb dX10_linesBy_11 (by decide) ?_
    exact W.iret (v := p0) hx hb hr (fun t ht hW => ⟨_, rfl, (by unfold s_linesS; rw [if_pos b_1]), ht⟩) (fun q h => absurd h List.not_mem_nil) dX10_linesBy_15
  ·
    obtain rfl : r = 0 := b_f hw b_1
    refine lv_if_eq (tgt := 14) hx hb dX10_linesBy_7 (by decide) (fun c_3 => ?_) (fun c_3 => absurd (by decide) c_3)
    refine lv_iconst (v := 0) hx hb dX10_linesBy_14 (by decide) ?_
    exact W.iret (v := 0) hx hb hr (fun t ht hW => ⟨_, rfl, (by unfold s_linesS; rw [if_neg (bne b_1)]), ht⟩) (fun q h => absurd h List.not_mem_nil) dX10_linesBy_15
