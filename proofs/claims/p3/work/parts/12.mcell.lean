theorem vCell {u : mS} (hln : ∀ j, j < 96 → bw (u.2 0 j) 0 60 = true) {p c l : Int32} (h : mCell u p c l = true) : vp_in (480 * p + 60 * c + l) 5760 := by
  unfold mCell at h
  obtain ⟨h1, h3⟩ := band h
  obtain ⟨h1, h2⟩ := band h1
  have h60 : (60 : Int32).toInt = 60 := rfl
  have h480 : (480 : Int32).toInt = 480 := rfl
  have h11 : (11 : Int32).toInt = 11 := rfl
  have h7 : (7 : Int32).toInt = 7 := rfl
  have hl := bw_iff.mp (hln _ (vlt (vin8 h1 h2)))
  have g1 := bw_iff.mp h1
  have g2 := bw_iff.mp h2
  have g3 := bw_iff.mp h3
  rw [i0] at g1 g2 g3 hl
  rw [h11] at g1
  rw [h7] at g2
  rw [h60] at hl
  rw [subI (by rw [i1]; omega) (by rw [i1]; omega), i1] at g3
  have e1 : (480 * p).toInt = 480 * p.toInt := by rw [mulI (by rw [h480]; omega) (by rw [h480]; omega), h480]
  have e2 : (60 * c).toInt = 60 * c.toInt := by rw [mulI (by rw [h60]; omega) (by rw [h60]; omega), h60]
  have e3 : (480 * p + 60 * c).toInt = 480 * p.toInt + 60 * c.toInt := by rw [addI (by rw [e1, e2]; omega) (by rw [e1, e2]; omega), e1, e2]
  rw [vp_in_iff, addI (by rw [e3]; omega) (by rw [e3]; omega), e3]; omega
def mCellAt (u : mS) (p c l : Int32) : Int32 := if mCell u p c l = true then u.2 2 (480 * p + 60 * c + l).toNatClampNeg else (-1)
def mRule (u : mS) (p c l : Int32) : Int32 × mS := if mCell u p c l = true then (if u.2 2 (480 * p + 60 * c + l).toNatClampNeg = (-2) then (if u.1 28 = 300 then (0, u) else (1, mActs (mst u 2 (480 * p + 60 * c + l) 100) 2 p c l 0 0 0)) else (0, u)) else (0, u)
theorem v300 {n : Int32} (h : bw n 0 300 = true) (h3 : ¬ n = 300) : bw n 0 299 = true := by
  have h300 : (300 : Int32).toInt = 300 := rfl
  have h299 : (299 : Int32).toInt = 299 := rfl
  have h1 := bw_iff.mp h
  rw [i0, h300] at h1
  have h2 : ¬ n.toInt = 300 := fun e => h3 (sw_in e.symm h300)
  rw [bw_iff, i0, h299]; omega
def mPlateOf (u : mS) (p w : Int32) : Int32 := if bw p 0 11 = true then (if u.2 40 p.toNatClampNeg = 0 then (-1) else if w = 0 then u.2 41 p.toNatClampNeg else if w = 1 then u.2 42 p.toNatClampNeg else (-1)) else (-1)
set_option maxHeartbeats 4000000 in
set_option maxRecDepth 100000 in
theorem m_cell (l : Launch) (dC : Nat → ClassId) (dI : Nat → Nat → Nat) (h0 : Nat) (v : Nat → Nat) (cI cZ : ClassId) (u : mS) (p0 p1 p2 : Int32) (hln : ∀ j, j < 96 → bw (u.2 0 j) 0 60 = true) : Met l yX12_cell wsX12_cell ({ frames := 3, cells := 0, slots := 0, locals := 65 }) (va_Pc [.ref h0, .int p0, .int p1, .int p2] (PW dC dI (mW h0 v cI cZ u) [(cI, .int), (cZ, .boolean)])) (vp_Si (fun r => r = mCellAt u p0 p1 p2)) 0 0 (fun _ => False) := by
  refine Met.ofW (cc := cX12_cell) (maxL := 4) (ret := (some .int)) (by decide) rfl ?_
  intro p e s m args below meth c s₁ B hml hv
  obtain ⟨rfl, hP, hK, hN⟩ := hv
  have hx := B.exec
  have hb := B.bytes
  have hr := B.returns
  have hts := atoms_spec (ws := wsX12_cell) B.pre
  have hown : s.vm.findClass RX12 = some m.cls := findClass_of_methodNamed B.named
  have hlocks := B.notSynchronized
  have hl := lv_entry ([.ref h0, .int p0, .int p1, .int p2]) (n := 4) (Nat.le_of_ble_eq_true rfl)
  rw [lg_entry_eq]
  generalize (lg_sl ([.ref h0, .int p0, .int p1, .int p2]) ++ List.replicate (4 - (lg_sl ([.ref h0, .int p0, .int p1, .int p2])).length) Slot.unset).toArray = ls at hl ⊢
  have hl : lv_has ls 4 [(0, .ref h0), (1, .int p0), (2, .int p1), (3, .int p2)] := hl
  refine lv_aload_n hx hb dX12_cell_0 rfl (lv_at hl 0 rfl) ?_
  refine lv_iload_n hx hb dX12_cell_1 rfl (lv_at hl 1 rfl) ?_
  refine lv_iload_n hx hb dX12_cell_2 rfl (lv_at hl 2 rfl) ?_
  refine lv_iload_n hx hb dX12_cell_3 rfl (lv_at hl 3 rfl) ?_
  refine vp_callSi (va_runV (As := [.int p0, .int p1, .int p2]) (rest := []) ⟨hx, hb, hml, hown, hts⟩ (m_isCell l dC dI h0 v cI cZ u p0 p1 p2) (cwV 3 hts gX12_cell_X12_isCell rfl rfl rfl (by decide +kernel) ⟨Nat.le_of_ble_eq_true rfl, Nat.le_of_ble_eq_true rfl⟩) ⟨pw_fb, va_recv hK hP (ci := 11) (q0 := 0) rfl rfl, fun U hU hW => ⟨rfl, pw_to hU hW hP hK hN⟩⟩ rfl rfl hl.1 rfl (lv_room (Nat.le_of_ble_eq_true rfl)) dX12_cell_4 ⟨Nat.le_of_ble_eq_true rfl, Nat.le_of_ble_eq_true rfl⟩).run (fun r hw => ?_)
  rcases Bool.eq_false_or_eq_true (mCell u p0 p1 p2) with b_1 | b_1
  ·
    obtain rfl : r = 1 := b_t hw b_1
    refine lv_if_eq (tgt := 24) hx hb dX12_cell_7 (by decide) (fun c_2 => absurd c_2 (by decide)) (fun c_2 => ?_)
    refine lv_aload_n hx hb dX12_cell_10 rfl (lv_at hl 0 rfl) ?_
    refine va_get (D := (dC, dI)) (ci := 11) (v := .ref (v 2)) (C := RX12) (T := TX12) (N := 52) hx hb hts (by decide +kernel) hown hK hP 0 rfl rfl 2 (by decide) (hts (.fieldLink RX12 16 "PageOneModel" "cell" "[I") (by decide +kernel)) (fun _ h9 => h9) rfl dX12_cell_11 ?_
    refine lv_iload_n hx hb dX12_cell_14 rfl (lv_at hl 1 rfl) ?_
    refine lv_iload_n hx hb dX12_cell_15 rfl (lv_at hl 2 rfl) ?_
    refine lv_iload_n hx hb dX12_cell_16 rfl (lv_at hl 3 rfl) ?_
    refine vp_callSi (va_runS (As := [.int p0, .int p1, .int p2]) (rest := [.ref (v 2)]) ⟨hx, hb, hml, hown, hts⟩ (m_at l dC dI p0 p1 p2) (va_cwS 3 hts gX12_cell_X12_at rfl rfl rfl (by decide +kernel) ⟨Nat.le_of_ble_eq_true rfl, Nat.le_of_ble_eq_true rfl⟩) ⟨pw_fb, fun U hU hW => ⟨rfl, pw_to hU hW (hP.sub (ws' := []) [] rfl) (hK.sub (tys' := []) [] rfl) hN⟩⟩ rfl rfl hl.1 rfl (lv_room (Nat.le_of_ble_eq_true rfl)) dX12_cell_17 ⟨Nat.le_of_ble_eq_true rfl, Nat.le_of_ble_eq_true rfl⟩).run (fun r hw => ?_)
    obtain rfl : r = (480 * p0 + 60 * p1 + p2) := hw
    refine va_iald hx hb hK hP 3 0 rfl rfl (vCell hln b_1) dX12_cell_20 ?_
    refine lv_goto (tgt := 25) hx hb dX12_cell_21 (by decide) ?_
    exact W.iret (v := (u.2 2 ((480 * p0 + 60 * p1 + p2) : Int32).toNatClampNeg)) hx hb hr (fun t ht hW => ⟨_, rfl, (by first | (unfold mCellAt; rw [if_pos b_1]; done) | (unfold mCellAt; rw [if_pos b_1]; rfl) | (simp [mCellAt, b_1]; done)), ht⟩) (fun q h => absurd h List.not_mem_nil) dX12_cell_25
  ·
    obtain rfl : r = 0 := b_f hw b_1
    refine lv_if_eq (tgt := 24) hx hb dX12_cell_7 (by decide) (fun c_3 => ?_) (fun c_3 => absurd (by decide) c_3)
    refine lv_iconst (v := (-1)) hx hb dX12_cell_24 (by decide) ?_
    exact W.iret (v := (-1)) hx hb hr (fun t ht hW => ⟨_, rfl, (by first | (unfold mCellAt; rw [if_neg (bne b_1)]; done) | (unfold mCellAt; rw [if_neg (bne b_1)]; rfl) | (simp [mCellAt, b_1]; done)), ht⟩) (fun q h => absurd h List.not_mem_nil) dX12_cell_25
set_option maxHeartbeats 4000000 in
set_option maxRecDepth 100000 in
theorem m_rule (l : Launch) (dC : Nat → ClassId) (dI : Nat → Nat → Nat) (h0 : Nat) (v : Nat → Nat) (cI cZ : ClassId) (u : mS) (p0 p1 p2 : Int32) (hln : ∀ j, j < 96 → bw (u.2 0 j) 0 60 = true) (ha : bw (u.1 28) 0 300 = true) (sz : Nat) : Met l yX12_rule wsX12_rule ({ frames := 3, cells := 0, slots := 0, locals := 65 }) (va_Pc [.ref h0, .int p0, .int p1, .int p2] (fun U => U.heap.size = sz ∧ PW dC dI (mW h0 v cI cZ u) [(cI, .int), (cZ, .boolean)] U ∧ va_D (fun _ => True) (mW h0 v cI cZ u))) (va_Qi (fun (r : Int32) (u9 : mS) => (r, u9) = mRule u p0 p1 p2) (fun u9 t => va_P (dC, dI) vwCl (mW h0 v cI cZ u9) t.heap ∧ va_D (va_A (mW h0 v cI cZ u) sz) (mW h0 v cI cZ u9)) (va_A (mW h0 v cI cZ u) sz)) 0 0 (va_A (mW h0 v cI cZ u) sz) := by
  refine Met.ofW (cc := cX12_rule) (maxL := 4) (ret := (some .boolean)) (by decide) rfl ?_
  intro p e s m args below meth c s₁ B hml hv
  obtain ⟨rfl, hsz, ⟨hP, hK, hN⟩, hD0⟩ := hv
  have hx := B.exec
  have hb := B.bytes
  have hr := B.returns
  have hts := atoms_spec (ws := wsX12_rule) B.pre
  have hown : s.vm.findClass RX12 = some m.cls := findClass_of_methodNamed B.named
  have hlocks := B.notSynchronized
  subst hsz
  have hD := hD0.self (sz := s.heap.size)
  generalize hAe : va_A (mW h0 v cI cZ u) s.heap.size = A at hD ⊢
  have hA : ∀ q : Nat, s.heap.size ≤ q → A q := fun q h => by rw [← hAe]; exact Or.inr h
  have hS : va_S A s.heap s.heap [] := va_S.rf
  have hl := lv_entry ([.ref h0, .int p0, .int p1, .int p2]) (n := 4) (Nat.le_of_ble_eq_true rfl)
  rw [lg_entry_eq]
  generalize (lg_sl ([.ref h0, .int p0, .int p1, .int p2]) ++ List.replicate (4 - (lg_sl ([.ref h0, .int p0, .int p1, .int p2])).length) Slot.unset).toArray = ls at hl ⊢
  have hl : lv_has ls 4 [(0, .ref h0), (1, .int p0), (2, .int p1), (3, .int p2)] := hl
  refine lv_aload_n hx hb dX12_rule_0 rfl (lv_at hl 0 rfl) ?_
  refine lv_iload_n hx hb dX12_rule_1 rfl (lv_at hl 1 rfl) ?_
  refine lv_iload_n hx hb dX12_rule_2 rfl (lv_at hl 2 rfl) ?_
  refine lv_iload_n hx hb dX12_rule_3 rfl (lv_at hl 3 rfl) ?_
  refine vp_callSi (va_runV (As := [.int p0, .int p1, .int p2]) (rest := []) ⟨hx, hb, hml, hown, hts⟩ (m_isCell l dC dI h0 v cI cZ u p0 p1 p2) (cwV 3 hts gX12_rule_X12_isCell rfl rfl rfl (by decide +kernel) ⟨Nat.le_of_ble_eq_true rfl, Nat.le_of_ble_eq_true rfl⟩) ⟨pw_fb, va_recv hK hP (ci := 11) (q0 := 0) rfl rfl, fun U hU hW => ⟨rfl, pw_to hU hW hP hK hN⟩⟩ rfl rfl hl.1 rfl (lv_room (Nat.le_of_ble_eq_true rfl)) dX12_rule_4 ⟨Nat.le_of_ble_eq_true rfl, Nat.le_of_ble_eq_true rfl⟩).run (fun r hw => ?_)
  rcases Bool.eq_false_or_eq_true (mCell u p0 p1 p2) with b_1 | b_1
  ·
    obtain rfl : r = 1 := b_t hw b_1
    refine lv_if_eq (tgt := 36) hx hb dX12_rule_7 (by decide) (fun c_2 => absurd c_2 (by decide)) (fun c_2 => ?_)
    refine lv_aload_n hx hb dX12_rule_10 rfl (lv_at hl 0 rfl) ?_
    refine va_get (D := (dC, dI)) (ci := 11) (v := .ref (v 2)) (C := RX12) (T := TX12) (N := 52) hx hb hts (by decide +kernel) hown hK hP 0 rfl rfl 2 (by decide) (hts (.fieldLink RX12 16 "PageOneModel" "cell" "[I") (by decide +kernel)) (fun _ h9 => h9) rfl dX12_rule_11 ?_
    refine lv_iload_n hx hb dX12_rule_14 rfl (lv_at hl 1 rfl) ?_
    refine lv_iload_n hx hb dX12_rule_15 rfl (lv_at hl 2 rfl) ?_
    refine lv_iload_n hx hb dX12_rule_16 rfl (lv_at hl 3 rfl) ?_
    refine vp_callSi (va_runS (As := [.int p0, .int p1, .int p2]) (rest := [.ref (v 2)]) ⟨hx, hb, hml, hown, hts⟩ (m_at l dC dI p0 p1 p2) (va_cwS 3 hts gX12_rule_X12_at rfl rfl rfl (by decide +kernel) ⟨Nat.le_of_ble_eq_true rfl, Nat.le_of_ble_eq_true rfl⟩) ⟨pw_fb, fun U hU hW => ⟨rfl, pw_to hU hW (hP.sub (ws' := []) [] rfl) (hK.sub (tys' := []) [] rfl) hN⟩⟩ rfl rfl hl.1 rfl (lv_room (Nat.le_of_ble_eq_true rfl)) dX12_rule_17 ⟨Nat.le_of_ble_eq_true rfl, Nat.le_of_ble_eq_true rfl⟩).run (fun r hw => ?_)
    obtain rfl : r = (480 * p0 + 60 * p1 + p2) := hw
    refine va_iald hx hb hK hP 3 0 rfl rfl (vCell hln b_1) dX12_rule_20 ?_
    refine lv_bipush (v := (-2)) hx hb dX12_rule_21 (by decide) ?_
    refine lv_icmp_ne (tgt := 36) hx hb dX12_rule_23 (by decide) (fun c_3 => ?_) (fun c_3 => ?_)
    ·
      refine lv_iconst (v := 0) hx hb dX12_rule_36 (by decide) ?_
      exact W.zret (v := 0) hx hb hr (by decide) (fun t ht hW => ⟨⟨0, u, rfl, (by unfold mRule; rw [if_pos b_1, if_neg c_3]), by rw [ht]; exact hP, hD⟩, hS.F ht⟩) hS.2.2 dX12_rule_37
    ·
      refine lv_aload_n hx hb dX12_rule_26 rfl (lv_at hl 0 rfl) ?_
      refine va_get (D := (dC, dI)) (ci := 11) (v := .int (u.1 28)) (C := RX12) (T := TX12) (N := 52) hx hb hts (by decide +kernel) hown hK hP 0 rfl rfl 28 (by decide) (hts (.fieldLink RX12 158 "PageOneModel" "acts" "I") (by decide +kernel)) (fun _ h9 => h9) rfl dX12_rule_27 ?_
      refine lv_sipush (v := 300) hx hb dX12_rule_30 (by decide) ?_
      refine lv_icmp_ne (tgt := 38) hx hb dX12_rule_33 (by decide) (fun c_4 => ?_) (fun c_4 => ?_)
      ·
        refine lv_aload_n hx hb dX12_rule_38 rfl (lv_at hl 0 rfl) ?_
        refine va_get (D := (dC, dI)) (ci := 11) (v := .ref (v 2)) (C := RX12) (T := TX12) (N := 52) hx hb hts (by decide +kernel) hown hK hP 0 rfl rfl 2 (by decide) (hts (.fieldLink RX12 16 "PageOneModel" "cell" "[I") (by decide +kernel)) (fun _ h9 => h9) rfl dX12_rule_39 ?_
        refine lv_iload_n hx hb dX12_rule_42 rfl (lv_at hl 1 rfl) ?_
        refine lv_iload_n hx hb dX12_rule_43 rfl (lv_at hl 2 rfl) ?_
        refine lv_iload_n hx hb dX12_rule_44 rfl (lv_at hl 3 rfl) ?_
        refine vp_callSi (va_runS (As := [.int p0, .int p1, .int p2]) (rest := [.ref (v 2)]) ⟨hx, hb, hml, hown, hts⟩ (m_at l dC dI p0 p1 p2) (va_cwS 3 hts gX12_rule_X12_at rfl rfl rfl (by decide +kernel) ⟨Nat.le_of_ble_eq_true rfl, Nat.le_of_ble_eq_true rfl⟩) ⟨pw_fb, fun U hU hW => ⟨rfl, pw_to hU hW (hP.sub (ws' := []) [] rfl) (hK.sub (tys' := []) [] rfl) hN⟩⟩ rfl rfl hl.1 rfl (lv_room (Nat.le_of_ble_eq_true rfl)) dX12_rule_45 ⟨Nat.le_of_ble_eq_true rfl, Nat.le_of_ble_eq_true rfl⟩).run (fun r hw => ?_)
        obtain rfl : r = (480 * p0 + 60 * p1 + p2) := hw
        refine lv_bipush (v := 100) hx hb dX12_rule_48 (by decide) ?_
        refine va_iast hx hb hK hP hD hS 3 0 rfl rfl (vCell hln b_1) dX12_rule_50 (fun H locs hP hD hS => ?_)
        obtain ⟨u_5, eu_5⟩ : ∃ zz : mS, zz = mst u 2 (480 * p0 + 60 * p1 + p2) 100 := ⟨_, rfl⟩
        have hP : va_P (dC, dI) vwCl (mW h0 v cI cZ u_5) H := by rw [eu_5]; exact hP
        have hD : va_D A (mW h0 v cI cZ u_5) := by rw [eu_5]; exact hD
        refine lv_aload_n hx hb dX12_rule_51 rfl (lv_at hl 0 rfl) ?_
        refine lv_iconst (v := 2) hx hb dX12_rule_52 (by decide) ?_
        refine lv_iload_n hx hb dX12_rule_53 rfl (lv_at hl 1 rfl) ?_
        refine lv_iload_n hx hb dX12_rule_54 rfl (lv_at hl 2 rfl) ?_
        refine lv_iload_n hx hb dX12_rule_55 rfl (lv_at hl 3 rfl) ?_
        refine lv_iconst (v := 0) hx hb dX12_rule_56 (by decide) ?_
        refine lv_iconst (v := 0) hx hb dX12_rule_57 (by decide) ?_
        refine lv_iconst (v := 0) hx hb dX12_rule_58 (by decide) ?_
        have hFc := fr_all hD hS hA
        refine va_callv (va_runV (As := [.int 2, .int p0, .int p1, .int p2, .int 0, .int 0, .int 0]) (rest := []) ⟨hx, hb, hml, hown, hts⟩ (m_acts l dC dI h0 v cI cZ u_5 2 p0 p1 p2 0 0 0 (by subst_vars; exact v300 ha c_4) H.size) (cwV 7 hts gX12_rule_X12_acts rfl rfl rfl (by decide +kernel) ⟨Nat.le_of_ble_eq_true rfl, Nat.le_of_ble_eq_true rfl⟩) ⟨gw_fb, va_recv hK hP (ci := 11) (q0 := 0) rfl rfl, fun U hU hW => ⟨rfl, by rw [hU], pw_to hU hW hP hK hN, hD.weaken (fun _ _ _ _ => trivial)⟩⟩ rfl rfl hl.1 rfl (lv_room (Nat.le_of_ble_eq_true rfl)) dX12_rule_59 ⟨Nat.le_of_ble_eq_true rfl, Nat.le_of_ble_eq_true rfl⟩) hS (fun q _ h => hFc q h) hFc (fun u_6 t H1 locs ht hvm hw hB hz1 hk1 hS => ?_)
        obtain ⟨hP, hD1⟩ := hB
        rw [ht] at hP
        have hD := hD1.weaken (fun _ q _ h => hFc q.1 h)
        generalize H1 = H at hP hS ⊢
        have eu_6 := hw
        refine lv_iconst (v := 1) hx hb dX12_rule_62 (by decide) ?_
        exact W.zret (v := 1) hx hb hr (by decide) (fun t ht hW => ⟨⟨1, u_6, rfl, (by rw [eu_6, eu_5]; unfold mRule; rw [if_pos b_1, if_pos c_3, if_neg c_4]), by rw [ht]; exact hP, hD⟩, hS.F ht⟩) hS.2.2 dX12_rule_63
      ·
        refine lv_iconst (v := 0) hx hb dX12_rule_36 (by decide) ?_
        exact W.zret (v := 0) hx hb hr (by decide) (fun t ht hW => ⟨⟨0, u, rfl, (by unfold mRule; rw [if_pos b_1, if_pos c_3, if_pos c_4]), by rw [ht]; exact hP, hD⟩, hS.F ht⟩) hS.2.2 dX12_rule_37
  ·
    obtain rfl : r = 0 := b_f hw b_1
    refine lv_if_eq (tgt := 36) hx hb dX12_rule_7 (by decide) (fun c_7 => ?_) (fun c_7 => absurd (by decide) c_7)
    refine lv_iconst (v := 0) hx hb dX12_rule_36 (by decide) ?_
    exact W.zret (v := 0) hx hb hr (by decide) (fun t ht hW => ⟨⟨0, u, rfl, (by unfold mRule; rw [if_neg (bne b_1)]), by rw [ht]; exact hP, hD⟩, hS.F ht⟩) hS.2.2 dX12_rule_37
set_option maxHeartbeats 4000000 in
set_option maxRecDepth 100000 in
theorem m_plateOf (l : Launch) (dC : Nat → ClassId) (dI : Nat → Nat → Nat) (h0 : Nat) (v : Nat → Nat) (cI cZ : ClassId) (u : mS) (p0 p1 : Int32) : Met l yX12_plateOf wsX12_plateOf ({ frames := 2, cells := 0, slots := 0, locals := 42 }) (va_Pc [.ref h0, .int p0, .int p1] (PW dC dI (mW h0 v cI cZ u) [(cI, .int), (cZ, .boolean)])) (vp_Si (fun r => r = mPlateOf u p0 p1)) 0 0 (fun _ => False) := by
  refine Met.ofW (cc := cX12_plateOf) (maxL := 3) (ret := (some .int)) (by decide) rfl ?_
  intro p e s m args below meth c s₁ B hml hv
  obtain ⟨rfl, hP, hK, hN⟩ := hv
  have hx := B.exec
  have hb := B.bytes
  have hr := B.returns
  have hts := atoms_spec (ws := wsX12_plateOf) B.pre
  have hown : s.vm.findClass RX12 = some m.cls := findClass_of_methodNamed B.named
  have hlocks := B.notSynchronized
  have hl := lv_entry ([.ref h0, .int p0, .int p1]) (n := 3) (Nat.le_of_ble_eq_true rfl)
  rw [lg_entry_eq]
  generalize (lg_sl ([.ref h0, .int p0, .int p1]) ++ List.replicate (3 - (lg_sl ([.ref h0, .int p0, .int p1])).length) Slot.unset).toArray = ls at hl ⊢
  have hl : lv_has ls 3 [(0, .ref h0), (1, .int p0), (2, .int p1)] := hl
  refine lv_iload_n hx hb dX12_plateOf_0 rfl (lv_at hl 1 rfl) ?_
  refine vp_callSi (va_runS (As := [.int p0]) (rest := []) ⟨hx, hb, hml, hown, hts⟩ (m_isPage l dC dI p0) (va_cwS 1 hts gX12_plateOf_X12_isPage rfl rfl rfl (by decide +kernel) ⟨Nat.le_of_ble_eq_true rfl, Nat.le_of_ble_eq_true rfl⟩) ⟨pw_fb, fun U hU hW => ⟨rfl, pw_to hU hW (hP.sub (ws' := []) [] rfl) (hK.sub (tys' := []) [] rfl) hN⟩⟩ rfl rfl hl.1 rfl (lv_room (Nat.le_of_ble_eq_true rfl)) dX12_plateOf_1 ⟨Nat.le_of_ble_eq_true rfl, Nat.le_of_ble_eq_true rfl⟩).run (fun r hw => ?_)
  rcases Bool.eq_false_or_eq_true (bw p0 0 11) with b_1 | b_1
  ·
    obtain rfl : r = 1 := b_t hw b_1
    refine lv_if_eq (tgt := 16) hx hb dX12_plateOf_4 (by decide) (fun c_2 => absurd c_2 (by decide)) (fun c_2 => ?_)
    refine lv_aload_n hx hb dX12_plateOf_7 rfl (lv_at hl 0 rfl) ?_
    refine va_get (D := (dC, dI)) (ci := 11) (v := .ref (v 40)) (C := RX12) (T := TX12) (N := 52) hx hb hts (by decide +kernel) hown hK hP 0 rfl rfl 40 (by decide) (hts (.fieldLink RX12 116 "PageOneModel" "isPlated" "[Z") (by decide +kernel)) (fun _ h9 => h9) rfl dX12_plateOf_8 ?_
    refine lv_iload_n hx hb dX12_plateOf_11 rfl (lv_at hl 1 rfl) ?_
    refine va_zald hx hb hK hP 36 1 rfl rfl (vin b_1 (by decide)) dX12_plateOf_12 ?_
    refine lv_if_ne (tgt := 18) hx hb dX12_plateOf_13 (by decide) (fun c_3 => ?_) (fun c_3 => ?_)
    ·
      refine lv_iload_n hx hb dX12_plateOf_18 rfl (lv_at hl 2 rfl) ?_
      refine lv_if_ne (tgt := 31) hx hb dX12_plateOf_19 (by decide) (fun c_4 => ?_) (fun c_4 => ?_)
      ·
        refine lv_iload_n hx hb dX12_plateOf_31 rfl (lv_at hl 2 rfl) ?_
        refine lv_iconst (v := 1) hx hb dX12_plateOf_32 (by decide) ?_
        refine lv_icmp_ne (tgt := 45) hx hb dX12_plateOf_33 (by decide) (fun c_5 => ?_) (fun c_5 => ?_)
        ·
          refine lv_iconst (v := (-1)) hx hb dX12_plateOf_45 (by decide) ?_
          exact W.iret (v := (-1)) hx hb hr (fun t ht hW => ⟨_, rfl, (by first | (unfold mPlateOf; rw [if_pos b_1, if_neg c_3, if_neg c_4, if_neg c_5]; done) | (unfold mPlateOf; rw [if_pos b_1, if_neg c_3, if_neg c_4, if_neg c_5]; rfl) | (simp [mPlateOf, b_1, c_3, c_4, c_5]; done)), ht⟩) (fun q h => absurd h List.not_mem_nil) dX12_plateOf_46
        ·
          refine lv_aload_n hx hb dX12_plateOf_36 rfl (lv_at hl 0 rfl) ?_
          refine va_get (D := (dC, dI)) (ci := 11) (v := .ref (v 42)) (C := RX12) (T := TX12) (N := 52) hx hb hts (by decide +kernel) hown hK hP 0 rfl rfl 42 (by decide) (hts (.fieldLink RX12 122 "PageOneModel" "plateEdition" "[I") (by decide +kernel)) (fun _ h9 => h9) rfl dX12_plateOf_37 ?_
          refine lv_iload_n hx hb dX12_plateOf_40 rfl (lv_at hl 1 rfl) ?_
          refine va_iald hx hb hK hP 38 0 rfl rfl (vin b_1 (by decide)) dX12_plateOf_41 ?_
          refine lv_goto (tgt := 46) hx hb dX12_plateOf_42 (by decide) ?_
          exact W.iret (v := (u.2 42 (p0 : Int32).toNatClampNeg)) hx hb hr (fun t ht hW => ⟨_, rfl, (by first | (unfold mPlateOf; rw [if_pos b_1, if_neg c_3, if_neg c_4, if_pos c_5]; done) | (unfold mPlateOf; rw [if_pos b_1, if_neg c_3, if_neg c_4, if_pos c_5]; rfl) | (simp [mPlateOf, b_1, c_3, c_4, c_5]; done)), ht⟩) (fun q h => absurd h List.not_mem_nil) dX12_plateOf_46
      ·
        refine lv_aload_n hx hb dX12_plateOf_22 rfl (lv_at hl 0 rfl) ?_
        refine va_get (D := (dC, dI)) (ci := 11) (v := .ref (v 41)) (C := RX12) (T := TX12) (N := 52) hx hb hts (by decide +kernel) hown hK hP 0 rfl rfl 41 (by decide) (hts (.fieldLink RX12 119 "PageOneModel" "plateDay" "[I") (by decide +kernel)) (fun _ h9 => h9) rfl dX12_plateOf_23 ?_
        refine lv_iload_n hx hb dX12_plateOf_26 rfl (lv_at hl 1 rfl) ?_
        refine va_iald hx hb hK hP 37 0 rfl rfl (vin b_1 (by decide)) dX12_plateOf_27 ?_
        refine lv_goto (tgt := 46) hx hb dX12_plateOf_28 (by decide) ?_
        exact W.iret (v := (u.2 41 (p0 : Int32).toNatClampNeg)) hx hb hr (fun t ht hW => ⟨_, rfl, (by first | (unfold mPlateOf; rw [if_pos b_1, if_neg c_3, if_pos c_4]; done) | (unfold mPlateOf; rw [if_pos b_1, if_neg c_3, if_pos c_4]; rfl) | (simp [mPlateOf, b_1, c_3, c_4]; done)), ht⟩) (fun q h => absurd h List.not_mem_nil) dX12_plateOf_46
    ·
      refine lv_iconst (v := (-1)) hx hb dX12_plateOf_16 (by decide) ?_
      exact W.iret (v := (-1)) hx hb hr (fun t ht hW => ⟨_, rfl, (by first | (unfold mPlateOf; rw [if_pos b_1, if_pos c_3]; done) | (unfold mPlateOf; rw [if_pos b_1, if_pos c_3]; rfl) | (simp [mPlateOf, b_1, c_3]; done)), ht⟩) (fun q h => absurd h List.not_mem_nil) dX12_plateOf_17
  ·
    obtain rfl : r = 0 := b_f hw b_1
    refine lv_if_eq (tgt := 16) hx hb dX12_plateOf_4 (by decide) (fun c_6 => ?_) (fun c_6 => absurd (by decide) c_6)
    refine lv_iconst (v := (-1)) hx hb dX12_plateOf_16 (by decide) ?_
    exact W.iret (v := (-1)) hx hb hr (fun t ht hW => ⟨_, rfl, (by first | (unfold mPlateOf; rw [if_neg (bne b_1)]; done) | (unfold mPlateOf; rw [if_neg (bne b_1)]; rfl) | (simp [mPlateOf, b_1]; done)), ht⟩) (fun q h => absurd h List.not_mem_nil) dX12_plateOf_17
