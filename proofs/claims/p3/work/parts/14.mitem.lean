theorem sw_out5 {x : Int32} (h0 : ¬ x = 0) (h1 : ¬ x = 1) (h2 : ¬ x = 2) (h3 : ¬ x = 3) (h4 : ¬ x = 4) (h5 : ¬ x = 5) : x.toInt < 0 ∨ 5 < x.toInt := by
  rcases Int.lt_or_le x.toInt 0 with q | q
  · exact Or.inl q
  · rcases Int.lt_or_le 5 x.toInt with q2 | q2
    · exact Or.inr q2
    · exfalso
      have : x.toInt = 0 ∨ x.toInt = 1 ∨ x.toInt = 2 ∨ x.toInt = 3 ∨ x.toInt = 4 ∨ x.toInt = 5 := by omega
      rcases this with e | e | e | e | e | e
      · exact h0 (sw_in e.symm rfl)
      · exact h1 (sw_in e.symm rfl)
      · exact h2 (sw_in e.symm rfl)
      · exact h3 (sw_in e.symm rfl)
      · exact h4 (sw_in e.symm rfl)
      · exact h5 (sw_in e.symm rfl)
theorem sw_out6 {x : Int32} (h0 : ¬ x = 0) (h1 : ¬ x = 1) (h2 : ¬ x = 2) (h3 : ¬ x = 3) (h4 : ¬ x = 4) (h5 : ¬ x = 5) (h6 : ¬ x = 6) : x.toInt < 0 ∨ 6 < x.toInt := by
  rcases Int.lt_or_le x.toInt 0 with q | q
  · exact Or.inl q
  · rcases Int.lt_or_le 6 x.toInt with q2 | q2
    · exact Or.inr q2
    · exfalso
      have : x.toInt = 0 ∨ x.toInt = 1 ∨ x.toInt = 2 ∨ x.toInt = 3 ∨ x.toInt = 4 ∨ x.toInt = 5 ∨ x.toInt = 6 := by omega
      rcases this with e | e | e | e | e | e | e
      · exact h0 (sw_in e.symm rfl)
      · exact h1 (sw_in e.symm rfl)
      · exact h2 (sw_in e.symm rfl)
      · exact h3 (sw_in e.symm rfl)
      · exact h4 (sw_in e.symm rfl)
      · exact h5 (sw_in e.symm rfl)
      · exact h6 (sw_in e.symm rfl)
/-- from, of any number from 0 to 6 -/
theorem m_from2 (l : Launch) (dC : Nat → ClassId) (dI : Nat → Nat → Nat) (h0 : Nat) (v : Nat → Nat) (cI cZ : ClassId) (u : mS) (p0 p1 : Int32) (hi : bw p0 0 79 = true) (hk : bw p1 0 6 = true) (hc : bw (u.2 22 p0.toNatClampNeg) 0 6 = true) : Met l yX12_from wsX12_from ({ frames := 1, cells := 0, slots := 0, locals := 24 }) (va_Pc [.ref h0, .int p0, .int p1] (PW dC dI (mW h0 v cI cZ u) [(cI, .int), (cZ, .boolean)])) (vp_Si (fun r => r = mFrom u p0 p1.toNatClampNeg)) 0 0 (fun _ => False) := by
  obtain ⟨e1, e2, e3⟩ := nI_of_bw hk
  have h6 : (6 : Int32).toInt = 6 := rfl
  have h := m_from l dC dI h0 v cI cZ u p0 p1.toNatClampNeg hi (by omega) hc
  rw [← e1] at h
  exact h
def mStanding (u : mS) (i : Int32) : Int32 := mFrom u i (u.2 22 i.toNatClampNeg).toNatClampNeg
def mItem (u : mS) (i w : Int32) : Int32 := if bw i 0 (u.1 3 - 1) = true then (if w = 0 then u.2 4 i.toNatClampNeg else if w = 1 then u.2 22 i.toNatClampNeg else if w = 2 then u.2 15 i.toNatClampNeg else if w = 3 then (if u.2 4 i.toNatClampNeg = 0 then mStanding u i else 0) else if w = 4 then u.2 9 i.toNatClampNeg else if w = 5 then u.2 10 i.toNatClampNeg else (-1)) else (-1)
theorem it79 {n i : Int32} (hn : bw n 0 80 = true) (h : bw i 0 (n - 1) = true) : bw i 0 79 = true := by
  have h79 : (79 : Int32).toInt = 79 := rfl
  have h1 := vp_in_iff.mp (vIt hn h)
  rw [bw_iff, i0, h79]; omega
set_option maxHeartbeats 4000000 in
set_option maxRecDepth 100000 in
theorem m_standing (l : Launch) (dC : Nat → ClassId) (dI : Nat → Nat → Nat) (h0 : Nat) (v : Nat → Nat) (cI cZ : ClassId) (u : mS) (p0 : Int32) (hi : bw p0 0 79 = true) (hc : bw (u.2 22 p0.toNatClampNeg) 0 6 = true) : Met l yX12_standing wsX12_standing ({ frames := 2, cells := 0, slots := 0, locals := 48 }) (va_Pc [.ref h0, .int p0] (PW dC dI (mW h0 v cI cZ u) [(cI, .int), (cZ, .boolean)])) (vp_Si (fun r => r = mStanding u p0)) 0 0 (fun _ => False) := by
  refine Met.ofW (cc := cX12_standing) (maxL := 2) (ret := (some .int)) (by decide) rfl ?_
  intro p e s m args below meth c s₁ B hml hv
  obtain ⟨rfl, hP, hK, hN⟩ := hv
  have hx := B.exec
  have hb := B.bytes
  have hr := B.returns
  have hts := atoms_spec (ws := wsX12_standing) B.pre
  have hown : s.vm.findClass RX12 = some m.cls := findClass_of_methodNamed B.named
  have hlocks := B.notSynchronized
  have hl := lv_entry ([.ref h0, .int p0]) (n := 2) (Nat.le_of_ble_eq_true rfl)
  rw [lg_entry_eq]
  generalize (lg_sl ([.ref h0, .int p0]) ++ List.replicate (2 - (lg_sl ([.ref h0, .int p0])).length) Slot.unset).toArray = ls at hl ⊢
  have hl : lv_has ls 2 [(0, .ref h0), (1, .int p0)] := hl
  refine lv_aload_n hx hb dX12_standing_0 rfl (lv_at hl 0 rfl) ?_
  refine lv_iload_n hx hb dX12_standing_1 rfl (lv_at hl 1 rfl) ?_
  refine lv_aload_n hx hb dX12_standing_2 rfl (lv_at hl 0 rfl) ?_
  refine va_get (D := (dC, dI)) (ci := 11) (v := .ref (v 22)) (C := RX12) (T := TX12) (N := 52) hx hb hts (by decide +kernel) hown hK hP 0 rfl rfl 22 (by decide) (hts (.fieldLink RX12 74 "PageOneModel" "pieces" "[I") (by decide +kernel)) (fun _ h9 => h9) rfl dX12_standing_3 ?_
  refine lv_iload_n hx hb dX12_standing_6 rfl (lv_at hl 1 rfl) ?_
  refine va_iald hx hb hK hP 22 0 rfl rfl (vin hi (by decide)) dX12_standing_7 ?_
  refine vp_callSi (va_runV (As := [.int p0, .int (u.2 22 (p0 : Int32).toNatClampNeg)]) (rest := []) ⟨hx, hb, hml, hown, hts⟩ (m_from2 l dC dI h0 v cI cZ u p0 (u.2 22 (p0 : Int32).toNatClampNeg) hi hc hc) (cwV 2 hts gX12_standing_X12_from rfl rfl rfl (by decide +kernel) ⟨Nat.le_of_ble_eq_true rfl, Nat.le_of_ble_eq_true rfl⟩) ⟨pw_fb, va_recv hK hP (ci := 11) (q0 := 0) rfl rfl, fun U hU hW => ⟨rfl, pw_to hU hW hP hK hN⟩⟩ rfl rfl hl.1 rfl (lv_room (Nat.le_of_ble_eq_true rfl)) dX12_standing_8 ⟨Nat.le_of_ble_eq_true rfl, Nat.le_of_ble_eq_true rfl⟩).run (fun r hw => ?_)
  obtain rfl : r = (mFrom u p0 ((u.2 22 (p0 : Int32).toNatClampNeg) : Int32).toNatClampNeg) := hw
  exact W.iret (v := (mFrom u p0 ((u.2 22 (p0 : Int32).toNatClampNeg) : Int32).toNatClampNeg)) hx hb hr (fun t ht hW => ⟨_, rfl, rfl, ht⟩) (fun q h => absurd h List.not_mem_nil) dX12_standing_11
set_option maxHeartbeats 4000000 in
set_option maxRecDepth 100000 in
theorem m_item (l : Launch) (dC : Nat → ClassId) (dI : Nat → Nat → Nat) (h0 : Nat) (v : Nat → Nat) (cI cZ : ClassId) (u : mS) (p0 p1 : Int32) (hn : bw (u.1 3) 0 80 = true) (hc : ∀ j, j < 80 → bw (u.2 22 j) 0 6 = true) : Met l yX12_item wsX12_item ({ frames := 3, cells := 0, slots := 0, locals := 69 }) (va_Pc [.ref h0, .int p0, .int p1] (PW dC dI (mW h0 v cI cZ u) [(cI, .int), (cZ, .boolean)])) (vp_Si (fun r => r = mItem u p0 p1)) 0 0 (fun _ => False) := by
  refine Met.ofW (cc := cX12_item) (maxL := 3) (ret := (some .int)) (by decide) rfl ?_
  intro p e s m args below meth c s₁ B hml hv
  obtain ⟨rfl, hP, hK, hN⟩ := hv
  have hx := B.exec
  have hb := B.bytes
  have hr := B.returns
  have hts := atoms_spec (ws := wsX12_item) B.pre
  have hown : s.vm.findClass RX12 = some m.cls := findClass_of_methodNamed B.named
  have hlocks := B.notSynchronized
  have hl := lv_entry ([.ref h0, .int p0, .int p1]) (n := 3) (Nat.le_of_ble_eq_true rfl)
  rw [lg_entry_eq]
  generalize (lg_sl ([.ref h0, .int p0, .int p1]) ++ List.replicate (3 - (lg_sl ([.ref h0, .int p0, .int p1])).length) Slot.unset).toArray = ls at hl ⊢
  have hl : lv_has ls 3 [(0, .ref h0), (1, .int p0), (2, .int p1)] := hl
  refine lv_aload_n hx hb dX12_item_0 rfl (lv_at hl 0 rfl) ?_
  refine lv_iload_n hx hb dX12_item_1 rfl (lv_at hl 1 rfl) ?_
  refine vp_callSi (va_runV (As := [.int p0]) (rest := []) ⟨hx, hb, hml, hown, hts⟩ (m_isItem l dC dI h0 v cI cZ u p0) (cwV 1 hts gX12_item_X12_isItem rfl rfl rfl (by decide +kernel) ⟨Nat.le_of_ble_eq_true rfl, Nat.le_of_ble_eq_true rfl⟩) ⟨pw_fb, va_recv hK hP (ci := 11) (q0 := 0) rfl rfl, fun U hU hW => ⟨rfl, pw_to hU hW hP hK hN⟩⟩ rfl rfl hl.1 rfl (lv_room (Nat.le_of_ble_eq_true rfl)) dX12_item_2 ⟨Nat.le_of_ble_eq_true rfl, Nat.le_of_ble_eq_true rfl⟩).run (fun r hw => ?_)
  rcases Bool.eq_false_or_eq_true (bw p0 0 (u.1 3 - 1)) with b_1 | b_1
  ·
    obtain rfl : r = 1 := b_t hw b_1
    refine lv_if_ne (tgt := 10) hx hb dX12_item_5 (by decide) (fun c_2 => ?_) (fun c_2 => absurd c_2 (by decide))
    refine lv_iload_n hx hb dX12_item_10 rfl (lv_at hl 2 rfl) ?_
    rcases Classical.em (p1 = 0) with s_3 | s_3
    ·
      subst s_3
      refine lv_tableIn (tgt := 48) (off := 37) hx hb dX12_item_11 (by decide) (by decide) (by decide) (by decide) ?_
      refine lv_aload_n hx hb dX12_item_48 rfl (lv_at hl 0 rfl) ?_
      refine va_get (D := (dC, dI)) (ci := 11) (v := .ref (v 4)) (C := RX12) (T := TX12) (N := 52) hx hb hts (by decide +kernel) hown hK hP 0 rfl rfl 4 (by decide) (hts (.fieldLink RX12 19 "PageOneModel" "kind" "[I") (by decide +kernel)) (fun _ h9 => h9) rfl dX12_item_49 ?_
      refine lv_iload_n hx hb dX12_item_52 rfl (lv_at hl 1 rfl) ?_
      refine va_iald hx hb hK hP 4 0 rfl rfl (vIt hn b_1) dX12_item_53 ?_
      exact W.iret (v := (u.2 4 (p0 : Int32).toNatClampNeg)) hx hb hr (fun t ht hW => ⟨_, rfl, (by simp [mItem, b_1]), ht⟩) (fun q h => absurd h List.not_mem_nil) dX12_item_54
    ·
      rcases Classical.em (p1 = 1) with s_4 | s_4
      ·
        subst s_4
        refine lv_tableIn (tgt := 55) (off := 44) hx hb dX12_item_11 (by decide) (by decide) (by decide) (by decide) ?_
        refine lv_aload_n hx hb dX12_item_55 rfl (lv_at hl 0 rfl) ?_
        refine va_get (D := (dC, dI)) (ci := 11) (v := .ref (v 22)) (C := RX12) (T := TX12) (N := 52) hx hb hts (by decide +kernel) hown hK hP 0 rfl rfl 22 (by decide) (hts (.fieldLink RX12 74 "PageOneModel" "pieces" "[I") (by decide +kernel)) (fun _ h9 => h9) rfl dX12_item_56 ?_
        refine lv_iload_n hx hb dX12_item_59 rfl (lv_at hl 1 rfl) ?_
        refine va_iald hx hb hK hP 22 0 rfl rfl (vIt hn b_1) dX12_item_60 ?_
        exact W.iret (v := (u.2 22 (p0 : Int32).toNatClampNeg)) hx hb hr (fun t ht hW => ⟨_, rfl, (by simp [mItem, b_1]), ht⟩) (fun q h => absurd h List.not_mem_nil) dX12_item_61
      ·
        rcases Classical.em (p1 = 2) with s_5 | s_5
        ·
          subst s_5
          refine lv_tableIn (tgt := 62) (off := 51) hx hb dX12_item_11 (by decide) (by decide) (by decide) (by decide) ?_
          refine lv_aload_n hx hb dX12_item_62 rfl (lv_at hl 0 rfl) ?_
          refine va_get (D := (dC, dI)) (ci := 11) (v := .ref (v 15)) (C := RX12) (T := TX12) (N := 52) hx hb hts (by decide +kernel) hown hK hP 0 rfl rfl 15 (by decide) (hts (.fieldLink RX12 52 "PageOneModel" "come" "[I") (by decide +kernel)) (fun _ h9 => h9) rfl dX12_item_63 ?_
          refine lv_iload_n hx hb dX12_item_66 rfl (lv_at hl 1 rfl) ?_
          refine va_iald hx hb hK hP 15 0 rfl rfl (vIt hn b_1) dX12_item_67 ?_
          exact W.iret (v := (u.2 15 (p0 : Int32).toNatClampNeg)) hx hb hr (fun t ht hW => ⟨_, rfl, (by simp [mItem, b_1]), ht⟩) (fun q h => absurd h List.not_mem_nil) dX12_item_68
        ·
          rcases Classical.em (p1 = 3) with s_6 | s_6
          ·
            subst s_6
            refine lv_tableIn (tgt := 69) (off := 58) hx hb dX12_item_11 (by decide) (by decide) (by decide) (by decide) ?_
            refine lv_aload_n hx hb dX12_item_69 rfl (lv_at hl 0 rfl) ?_
            refine va_get (D := (dC, dI)) (ci := 11) (v := .ref (v 4)) (C := RX12) (T := TX12) (N := 52) hx hb hts (by decide +kernel) hown hK hP 0 rfl rfl 4 (by decide) (hts (.fieldLink RX12 19 "PageOneModel" "kind" "[I") (by decide +kernel)) (fun _ h9 => h9) rfl dX12_item_70 ?_
            refine lv_iload_n hx hb dX12_item_73 rfl (lv_at hl 1 rfl) ?_
            refine va_iald hx hb hK hP 4 0 rfl rfl (vIt hn b_1) dX12_item_74 ?_
            refine lv_if_ne (tgt := 86) hx hb dX12_item_75 (by decide) (fun c_7 => ?_) (fun c_7 => ?_)
            ·
              refine lv_iconst (v := 0) hx hb dX12_item_86 (by decide) ?_
              exact W.iret (v := 0) hx hb hr (fun t ht hW => ⟨_, rfl, (by simp [mItem, b_1, c_7]), ht⟩) (fun q h => absurd h List.not_mem_nil) dX12_item_87
            ·
              refine lv_aload_n hx hb dX12_item_78 rfl (lv_at hl 0 rfl) ?_
              refine lv_iload_n hx hb dX12_item_79 rfl (lv_at hl 1 rfl) ?_
              refine vp_callSi (va_runV (As := [.int p0]) (rest := []) ⟨hx, hb, hml, hown, hts⟩ (m_standing l dC dI h0 v cI cZ u p0 (it79 hn b_1) (hc _ (vlt (vIt hn b_1)))) (cwV 1 hts gX12_item_X12_standing rfl rfl rfl (by decide +kernel) ⟨Nat.le_of_ble_eq_true rfl, Nat.le_of_ble_eq_true rfl⟩) ⟨pw_fb, va_recv hK hP (ci := 11) (q0 := 0) rfl rfl, fun U hU hW => ⟨rfl, pw_to hU hW hP hK hN⟩⟩ rfl rfl hl.1 rfl (lv_room (Nat.le_of_ble_eq_true rfl)) dX12_item_80 ⟨Nat.le_of_ble_eq_true rfl, Nat.le_of_ble_eq_true rfl⟩).run (fun r hw => ?_)
              obtain rfl : r = (mStanding u p0) := hw
              refine lv_goto (tgt := 87) hx hb dX12_item_83 (by decide) ?_
              exact W.iret (v := (mStanding u p0)) hx hb hr (fun t ht hW => ⟨_, rfl, (by simp [mItem, b_1, c_7]), ht⟩) (fun q h => absurd h List.not_mem_nil) dX12_item_87
          ·
            rcases Classical.em (p1 = 4) with s_8 | s_8
            ·
              subst s_8
              refine lv_tableIn (tgt := 88) (off := 77) hx hb dX12_item_11 (by decide) (by decide) (by decide) (by decide) ?_
              refine lv_aload_n hx hb dX12_item_88 rfl (lv_at hl 0 rfl) ?_
              refine va_get (D := (dC, dI)) (ci := 11) (v := .ref (v 9)) (C := RX12) (T := TX12) (N := 52) hx hb hts (by decide +kernel) hown hK hP 0 rfl rfl 9 (by decide) (hts (.fieldLink RX12 34 "PageOneModel" "of" "[I") (by decide +kernel)) (fun _ h9 => h9) rfl dX12_item_89 ?_
              refine lv_iload_n hx hb dX12_item_92 rfl (lv_at hl 1 rfl) ?_
              refine va_iald hx hb hK hP 9 0 rfl rfl (vIt hn b_1) dX12_item_93 ?_
              exact W.iret (v := (u.2 9 (p0 : Int32).toNatClampNeg)) hx hb hr (fun t ht hW => ⟨_, rfl, (by simp [mItem, b_1]), ht⟩) (fun q h => absurd h List.not_mem_nil) dX12_item_94
            ·
              rcases Classical.em (p1 = 5) with s_9 | s_9
              ·
                subst s_9
                refine lv_tableIn (tgt := 95) (off := 84) hx hb dX12_item_11 (by decide) (by decide) (by decide) (by decide) ?_
                refine lv_aload_n hx hb dX12_item_95 rfl (lv_at hl 0 rfl) ?_
                refine va_get (D := (dC, dI)) (ci := 11) (v := .ref (v 10)) (C := RX12) (T := TX12) (N := 52) hx hb hts (by decide +kernel) hown hK hP 0 rfl rfl 10 (by decide) (hts (.fieldLink RX12 37 "PageOneModel" "buyer" "[I") (by decide +kernel)) (fun _ h9 => h9) rfl dX12_item_96 ?_
                refine lv_iload_n hx hb dX12_item_99 rfl (lv_at hl 1 rfl) ?_
                refine va_iald hx hb hK hP 10 0 rfl rfl (vIt hn b_1) dX12_item_100 ?_
                exact W.iret (v := (u.2 10 (p0 : Int32).toNatClampNeg)) hx hb hr (fun t ht hW => ⟨_, rfl, (by simp [mItem, b_1]), ht⟩) (fun q h => absurd h List.not_mem_nil) dX12_item_101
              ·
                refine lv_tableOut (tgt := 102) hx hb dX12_item_11 (sw_out5 s_3 s_4 s_5 s_6 s_8 s_9) (by decide) ?_
                refine lv_iconst (v := (-1)) hx hb dX12_item_102 (by decide) ?_
                exact W.iret (v := (-1)) hx hb hr (fun t ht hW => ⟨_, rfl, (by simp [mItem, b_1, s_3, s_4, s_5, s_6, s_8, s_9]), ht⟩) (fun q h => absurd h List.not_mem_nil) dX12_item_103
  ·
    obtain rfl : r = 0 := b_f hw b_1
    refine lv_if_ne (tgt := 10) hx hb dX12_item_5 (by decide) (fun c_10 => absurd (by decide) c_10) (fun c_10 => ?_)
    refine lv_iconst (v := (-1)) hx hb dX12_item_8 (by decide) ?_
    exact W.iret (v := (-1)) hx hb hr (fun t ht hW => ⟨_, rfl, (by simp [mItem, b_1]), ht⟩) (fun q h => absurd h List.not_mem_nil) dX12_item_9
