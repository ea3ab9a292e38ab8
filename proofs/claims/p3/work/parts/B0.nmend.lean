theorem mPrR_u {u : mS} {i w r r2 : Int32} (h : mPrR u i w r) (h2 : mPrR u i w r2) : r = r2 := by
  unfold mPrR at h h2
  by_cases b1 : bw i 0 (u.1 3 - 1) = true
  · rw [if_pos b1] at h h2
    by_cases b2 : bw w 0 4 = true
    · rw [if_pos b2] at h h2
      by_cases b3 : u.2 47 (5 * i).toNatClampNeg < 0
      · rw [if_pos b3] at h h2
        rcases h with ⟨q, q1, q2, q3, q4⟩ | ⟨q1, q2⟩
        · rcases h2 with ⟨s, s1, s2, s3, s4⟩ | ⟨s1, s2⟩
          · have e : q = s := by
              rcases Nat.lt_trichotomy q s with x | x | x
              · exact absurd q2 (by rw [s3 q x]; decide)
              · exact x
              · exact absurd s2 (by rw [q3 s x]; decide)
            rw [q4, s4, e]
          · exact absurd q2 (by rw [s1 q q1]; decide)
        · rcases h2 with ⟨s, s1, s2, s3, s4⟩ | ⟨s1, s2⟩
          · exact absurd s2 (by rw [q1 s s1]; decide)
          · rw [q2, s2]
      · rw [if_neg b3] at h h2; rw [h, h2]
    · rw [if_neg b2] at h h2; rw [h, h2]
  · rw [if_neg b1] at h h2; rw [h, h2]
noncomputable def mPr (u : mS) (i w : Int32) : Int32 := @Classical.epsilon Int32 ⟨0⟩ (fun r => mPrR u i w r)
theorem mPr_eq {u : mS} {i w r : Int32} (h : mPrR u i w r) : r = mPr u i w := mPrR_u h (@Classical.epsilon_spec Int32 (fun r => mPrR u i w r) ⟨r, h⟩)
noncomputable def mMend (u : mS) (p0 p1 p2 : Int32) : Int32 := if (mPr u (u.2 9 (p0 : Int32).toNatClampNeg) 0) < 0 then 0 else (if (u.1 38) ≤ (mPr u (u.2 9 (p0 : Int32).toNatClampNeg) 0) then 0 else (if mWas u p0 (u.1 38).toNatClampNeg = true then 0 else (if (mPr u (u.2 9 (p0 : Int32).toNatClampNeg) 2) < p1 then 1 else (if p1 = (mPr u (u.2 9 (p0 : Int32).toNatClampNeg) 2) then (if p2 < (mPr u (u.2 9 (p0 : Int32).toNatClampNeg) 3) then 0 else 1) else 0))))
set_option maxHeartbeats 4000000 in
set_option maxRecDepth 100000 in
theorem n_mayMend (l : Launch) (dC : Nat → ClassId) (dI : Nat → Nat → Nat) (h0 : Nat) (v : Nat → Nat) (cI cZ : ClassId) (u : mS) (p0 p1 p2 : Int32) (hi : bw p0 0 79 = true) (hn : bw (u.1 3) 0 80 = true) (hd : bw (u.1 38) 0 399 = true) : Met l yX12_mayMend wsX12_mayMend ({ frames := 3, cells := 0, slots := 0, locals := 66 }) (va_Pc [.ref h0, .int p0, .int p1, .int p2] (PW dC dI (mW h0 v cI cZ u) [(cI, .int), (cZ, .boolean)])) (vp_Si (fun r => r = mMend u p0 p1 p2)) 0 0 (fun _ => False) := by
  refine Met.ofW (cc := cX12_mayMend) (maxL := 6) (ret := (some .boolean)) (by decide) rfl ?_
  intro p e s m args below meth c s₁ B hml hv
  obtain ⟨rfl, hP, hK, hN⟩ := hv
  have hx := B.exec
  have hb := B.bytes
  have hr := B.returns
  have hts := atoms_spec (ws := wsX12_mayMend) B.pre
  have hown : s.vm.findClass RX12 = some m.cls := findClass_of_methodNamed B.named
  have hlocks := B.notSynchronized
  have hl := lv_entry ([.ref h0, .int p0, .int p1, .int p2]) (n := 6) (Nat.le_of_ble_eq_true rfl)
  rw [lg_entry_eq]
  generalize (lg_sl ([.ref h0, .int p0, .int p1, .int p2]) ++ List.replicate (6 - (lg_sl ([.ref h0, .int p0, .int p1, .int p2])).length) Slot.unset).toArray = ls at hl ⊢
  have hl : lv_has ls 6 [(0, .ref h0), (1, .int p0), (2, .int p1), (3, .int p2)] := hl
  refine lv_aload_n hx hb dX12_mayMend_0 rfl (lv_at hl 0 rfl) ?_
  refine lv_aload_n hx hb dX12_mayMend_1 rfl (lv_at hl 0 rfl) ?_
  refine va_get (D := (dC, dI)) (ci := 11) (v := .ref (v 9)) (C := RX12) (T := TX12) (N := 52) hx hb hts (by decide +kernel) hown hK hP 0 rfl rfl 9 (by decide) (hts (.fieldLink RX12 34 "PageOneModel" "of" "[I") (by decide +kernel)) (fun _ h9 => h9) rfl dX12_mayMend_2 ?_
  refine lv_iload_n hx hb dX12_mayMend_5 rfl (lv_at hl 1 rfl) ?_
  refine va_iald hx hb hK hP 9 0 rfl rfl (vin hi (by decide)) dX12_mayMend_6 ?_
  refine lv_iconst (v := 0) hx hb dX12_mayMend_7 (by decide) ?_
  refine vp_callSi (va_runV (As := [.int (u.2 9 (p0 : Int32).toNatClampNeg), .int 0]) (rest := []) ⟨hx, hb, hml, hown, hts⟩ (m_printed l dC dI h0 v cI cZ u (u.2 9 (p0 : Int32).toNatClampNeg) 0 hn) (cwV 2 hts gX12_mayMend_X12_printed rfl rfl rfl (by decide +kernel) ⟨Nat.le_of_ble_eq_true rfl, Nat.le_of_ble_eq_true rfl⟩) ⟨pw_fb, va_recv hK hP (ci := 11) (q0 := 0) rfl rfl, fun U hU hW => ⟨rfl, pw_to hU hW hP hK hN⟩⟩ rfl rfl hl.1 rfl (lv_room (Nat.le_of_ble_eq_true rfl)) dX12_mayMend_8 ⟨Nat.le_of_ble_eq_true rfl, Nat.le_of_ble_eq_true rfl⟩).run (fun r hw => ?_)
  obtain rfl : r = (mPr u (u.2 9 (p0 : Int32).toNatClampNeg) 0) := mPr_eq hw
  refine lv_topi (fun x_1 ex_1 => ?_)
  refine lv_istore (lv' := [(4, .int x_1), (0, .ref h0), (1, .int p0), (2, .int p1), (3, .int p2)]) hx hb dX12_mayMend_11 hl (by decide) rfl (fun ls hl => ?_)
  refine lv_iload hx hb dX12_mayMend_13 (lv_at hl 0 rfl) ?_
  refine lv_if_lt (tgt := 35) hx hb dX12_mayMend_15 (by decide) (fun c_2 => ?_) (fun c_2 => ?_)
  ·
    refine lv_iconst (v := 0) hx hb dX12_mayMend_35 (by decide) ?_
    exact W.zret (v := 0) hx hb hr (by decide) (fun t ht hW => ⟨_, rfl, (by rw [ex_1] at c_2; unfold mMend; rw [if_pos c_2]), ht⟩) (fun q h => absurd h List.not_mem_nil) dX12_mayMend_36
  ·
    refine lv_iload hx hb dX12_mayMend_18 (lv_at hl 0 rfl) ?_
    refine lv_aload_n hx hb dX12_mayMend_20 rfl (lv_at hl 1 rfl) ?_
    refine va_get (D := (dC, dI)) (ci := 11) (v := .int (u.1 38)) (C := RX12) (T := TX12) (N := 52) hx hb hts (by decide +kernel) hown hK hP 0 rfl rfl 38 (by decide) (hts (.fieldLink RX12 206 "PageOneModel" "day" "I") (by decide +kernel)) (fun _ h9 => h9) rfl dX12_mayMend_21 ?_
    refine lv_icmp_ge (tgt := 35) hx hb dX12_mayMend_24 (by decide) (fun c_3 => ?_) (fun c_3 => ?_)
    ·
      refine lv_iconst (v := 0) hx hb dX12_mayMend_35 (by decide) ?_
      exact W.zret (v := 0) hx hb hr (by decide) (fun t ht hW => ⟨_, rfl, (by rw [ex_1] at c_2; rw [ex_1] at c_3; unfold mMend; rw [if_neg c_2, if_pos c_3]), ht⟩) (fun q h => absurd h List.not_mem_nil) dX12_mayMend_36
    ·
      refine lv_aload_n hx hb dX12_mayMend_27 rfl (lv_at hl 1 rfl) ?_
      refine lv_iload_n hx hb dX12_mayMend_28 rfl (lv_at hl 2 rfl) ?_
      refine vp_callSi (va_runV (As := [.int p0]) (rest := []) ⟨hx, hb, hml, hown, hts⟩ (m_wasPrintedAhead l dC dI h0 v cI cZ u p0 hi hd) (cwV 1 hts gX12_mayMend_X12_wasPrintedAhead rfl rfl rfl (by decide +kernel) ⟨Nat.le_of_ble_eq_true rfl, Nat.le_of_ble_eq_true rfl⟩) ⟨pw_fb, va_recv hK hP (ci := 11) (q0 := 0) rfl rfl, fun U hU hW => ⟨rfl, pw_to hU hW hP hK hN⟩⟩ rfl rfl hl.1 rfl (lv_room (Nat.le_of_ble_eq_true rfl)) dX12_mayMend_29 ⟨Nat.le_of_ble_eq_true rfl, Nat.le_of_ble_eq_true rfl⟩).run (fun r hw => ?_)
      rcases Bool.eq_false_or_eq_true (mWas u p0 (u.1 38).toNatClampNeg) with b_4 | b_4
      ·
        obtain rfl : r = 1 := b_t hw b_4
        refine lv_if_eq (tgt := 37) hx hb dX12_mayMend_32 (by decide) (fun c_5 => absurd c_5 (by decide)) (fun c_5 => ?_)
        refine lv_iconst (v := 0) hx hb dX12_mayMend_35 (by decide) ?_
        exact W.zret (v := 0) hx hb hr (by decide) (fun t ht hW => ⟨_, rfl, (by rw [ex_1] at c_2; rw [ex_1] at c_3; unfold mMend; rw [if_neg c_2, if_neg c_3, if_pos b_4]), ht⟩) (fun q h => absurd h List.not_mem_nil) dX12_mayMend_36
      ·
        obtain rfl : r = 0 := b_f hw b_4
        refine lv_if_eq (tgt := 37) hx hb dX12_mayMend_32 (by decide) (fun c_6 => ?_) (fun c_6 => absurd (by decide) c_6)
        refine lv_aload_n hx hb dX12_mayMend_37 rfl (lv_at hl 1 rfl) ?_
        refine lv_aload_n hx hb dX12_mayMend_38 rfl (lv_at hl 1 rfl) ?_
        refine va_get (D := (dC, dI)) (ci := 11) (v := .ref (v 9)) (C := RX12) (T := TX12) (N := 52) hx hb hts (by decide +kernel) hown hK hP 0 rfl rfl 9 (by decide) (hts (.fieldLink RX12 34 "PageOneModel" "of" "[I") (by decide +kernel)) (fun _ h9 => h9) rfl dX12_mayMend_39 ?_
        refine lv_iload_n hx hb dX12_mayMend_42 rfl (lv_at hl 2 rfl) ?_
        refine va_iald hx hb hK hP 9 0 rfl rfl (vin hi (by decide)) dX12_mayMend_43 ?_
        refine lv_iconst (v := 2) hx hb dX12_mayMend_44 (by decide) ?_
        refine vp_callSi (va_runV (As := [.int (u.2 9 (p0 : Int32).toNatClampNeg), .int 2]) (rest := []) ⟨hx, hb, hml, hown, hts⟩ (m_printed l dC dI h0 v cI cZ u (u.2 9 (p0 : Int32).toNatClampNeg) 2 hn) (cwV 2 hts gX12_mayMend_X12_printed rfl rfl rfl (by decide +kernel) ⟨Nat.le_of_ble_eq_true rfl, Nat.le_of_ble_eq_true rfl⟩) ⟨pw_fb, va_recv hK hP (ci := 11) (q0 := 0) rfl rfl, fun U hU hW => ⟨rfl, pw_to hU hW hP hK hN⟩⟩ rfl rfl hl.1 rfl (lv_room (Nat.le_of_ble_eq_true rfl)) dX12_mayMend_45 ⟨Nat.le_of_ble_eq_true rfl, Nat.le_of_ble_eq_true rfl⟩).run (fun r hw => ?_)
        obtain rfl : r = (mPr u (u.2 9 (p0 : Int32).toNatClampNeg) 2) := mPr_eq hw
        refine lv_topi (fun x_7 ex_7 => ?_)
        refine lv_istore (lv' := [(5, .int x_7), (4, .int x_1), (0, .ref h0), (1, .int p0), (2, .int p1), (3, .int p2)]) hx hb dX12_mayMend_48 hl (by decide) rfl (fun ls hl => ?_)
        refine lv_iload_n hx hb dX12_mayMend_50 rfl (lv_at hl 4 rfl) ?_
        refine lv_iload hx hb dX12_mayMend_51 (lv_at hl 0 rfl) ?_
        refine lv_icmp_gt (tgt := 77) hx hb dX12_mayMend_53 (by decide) (fun c_8 => ?_) (fun c_8 => ?_)
        ·
          refine lv_iconst (v := 1) hx hb dX12_mayMend_77 (by decide) ?_
          refine lv_goto (tgt := 82) hx hb dX12_mayMend_78 (by decide) ?_
          exact W.zret (v := 1) hx hb hr (by decide) (fun t ht hW => ⟨_, rfl, (by rw [ex_1] at c_2; rw [ex_1] at c_3; rw [ex_7] at c_8; unfold mMend; rw [if_neg c_2, if_neg c_3, if_neg (bne b_4), if_pos c_8]), ht⟩) (fun q h => absurd h List.not_mem_nil) dX12_mayMend_82
        ·
          refine lv_iload_n hx hb dX12_mayMend_56 rfl (lv_at hl 4 rfl) ?_
          refine lv_iload hx hb dX12_mayMend_57 (lv_at hl 0 rfl) ?_
          refine lv_icmp_ne (tgt := 81) hx hb dX12_mayMend_59 (by decide) (fun c_9 => ?_) (fun c_9 => ?_)
          ·
            refine lv_iconst (v := 0) hx hb dX12_mayMend_81 (by decide) ?_
            exact W.zret (v := 0) hx hb hr (by decide) (fun t ht hW => ⟨_, rfl, (by rw [ex_1] at c_2; rw [ex_1] at c_3; rw [ex_7] at c_8; rw [ex_7] at c_9; unfold mMend; rw [if_neg c_2, if_neg c_3, if_neg (bne b_4), if_neg c_8, if_neg c_9]), ht⟩) (fun q h => absurd h List.not_mem_nil) dX12_mayMend_82
          ·
            refine lv_iload_n hx hb dX12_mayMend_62 rfl (lv_at hl 5 rfl) ?_
            refine lv_aload_n hx hb dX12_mayMend_63 rfl (lv_at hl 2 rfl) ?_
            refine lv_aload_n hx hb dX12_mayMend_64 rfl (lv_at hl 2 rfl) ?_
            refine va_get (D := (dC, dI)) (ci := 11) (v := .ref (v 9)) (C := RX12) (T := TX12) (N := 52) hx hb hts (by decide +kernel) hown hK hP 0 rfl rfl 9 (by decide) (hts (.fieldLink RX12 34 "PageOneModel" "of" "[I") (by decide +kernel)) (fun _ h9 => h9) rfl dX12_mayMend_65 ?_
            refine lv_iload_n hx hb dX12_mayMend_68 rfl (lv_at hl 3 rfl) ?_
            refine va_iald hx hb hK hP 9 0 rfl rfl (vin hi (by decide)) dX12_mayMend_69 ?_
            refine lv_iconst (v := 3) hx hb dX12_mayMend_70 (by decide) ?_
            refine vp_callSi (va_runV (As := [.int (u.2 9 (p0 : Int32).toNatClampNeg), .int 3]) (rest := [.int p2]) ⟨hx, hb, hml, hown, hts⟩ (m_printed l dC dI h0 v cI cZ u (u.2 9 (p0 : Int32).toNatClampNeg) 3 hn) (cwV 2 hts gX12_mayMend_X12_printed rfl rfl rfl (by decide +kernel) ⟨Nat.le_of_ble_eq_true rfl, Nat.le_of_ble_eq_true rfl⟩) ⟨pw_fb, va_recv hK hP (ci := 11) (q0 := 0) rfl rfl, fun U hU hW => ⟨rfl, pw_to hU hW hP hK hN⟩⟩ rfl rfl hl.1 rfl (lv_room (Nat.le_of_ble_eq_true rfl)) dX12_mayMend_71 ⟨Nat.le_of_ble_eq_true rfl, Nat.le_of_ble_eq_true rfl⟩).run (fun r hw => ?_)
            obtain rfl : r = (mPr u (u.2 9 (p0 : Int32).toNatClampNeg) 3) := mPr_eq hw
            refine lv_icmp_lt (tgt := 81) hx hb dX12_mayMend_74 (by decide) (fun c_10 => ?_) (fun c_10 => ?_)
            ·
              refine lv_iconst (v := 0) hx hb dX12_mayMend_81 (by decide) ?_
              exact W.zret (v := 0) hx hb hr (by decide) (fun t ht hW => ⟨_, rfl, (by rw [ex_1] at c_2; rw [ex_1] at c_3; rw [ex_7] at c_8; rw [ex_7] at c_9; unfold mMend; rw [if_neg c_2, if_neg c_3, if_neg (bne b_4), if_neg c_8, if_pos c_9, if_pos c_10]), ht⟩) (fun q h => absurd h List.not_mem_nil) dX12_mayMend_82
            ·
              refine lv_iconst (v := 1) hx hb dX12_mayMend_77 (by decide) ?_
              refine lv_goto (tgt := 82) hx hb dX12_mayMend_78 (by decide) ?_
              exact W.zret (v := 1) hx hb hr (by decide) (fun t ht hW => ⟨_, rfl, (by rw [ex_1] at c_2; rw [ex_1] at c_3; rw [ex_7] at c_8; rw [ex_7] at c_9; unfold mMend; rw [if_neg c_2, if_neg c_3, if_neg (bne b_4), if_neg c_8, if_pos c_9, if_neg c_10]), ht⟩) (fun q h => absurd h List.not_mem_nil) dX12_mayMend_82
