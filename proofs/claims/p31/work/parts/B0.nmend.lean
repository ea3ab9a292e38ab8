theorem mPrR_u {u : mS} {i w r r2 : Int32} (h : mPrR u i w r) (h2 : mPrR u i w r2) : r = r2 := by
  unfold mPrR at h h2
  by_cases b1 : bw i 0 (u.1 3 - 1) = true
  · rw [if_pos b1] at h h2
    by_cases b2 : bw w 0 4 = true
    · rw [if_pos b2] at h h2
      by_cases b3 : u.2 47 (5 * i).toNatClampNeg < 0
      · rw [if_pos b3] at h h2
        rcases h with ⟨q, q1, q2, q3, q4⟩ | ⟨q1, q2⟩
        · rcases h2 with ⟨s, s1, s2, s3, s4⟩ | ⟨s1, s2⟩
          · have e : q = s := by
              rcases Nat.lt_trichotomy q s with x | x | x
              · exact absurd q2 (by rw [s3 q x]; decide)
              · exact x
              · exact absurd s2 (by rw [q3 s x]; decide)
            rw [q4, s4, e]
          · exact absurd q2 (by rw [s1 q q1]; decide)
        · rcases h2 with ⟨s, s1, s2, s3, s4⟩ | ⟨s1, s2⟩
          · exact absurd s2 (by rw [q1 s s1]; decide)
          · rw [q2, s2]
      · rw [if_neg b3] at h h2; rw [h, h2]
    · rw [if_neg b2] at h h2; rw [h, h2]
  · rw [if_neg b1] at h h2; rw [h, h2]
noncomputable def mPr (u : mS) (i w : Int32) : Int32 := @Classical.epsilon Int32 ⟨0⟩ (fun r => mPrR u i w r)
theorem mPr_eq {u : mS} {i w r : Int32} (h : mPrR u i w r) : r = mPr u i w := mPrR_u h (@Classical.epsilon_spec Int32 (fun r => mPrR u i w r) ⟨r, h⟩)
noncomputable def mMend (u : mS) (p0 p1 p2 : Int32) : Int32 := if (mPr u (u.2 9 (p0 : Int32).toNatClampNeg) 0) < 0 then 0 else (if (u.1 38) ≤ (mPr u (u.2 9 (p0 : Int32).toNatClampNeg) 0) then 0 else (if mWas u p0 (u.1 38).toNatClampNeg = true then 0 else (if (mPr u (u.2 9 (p0 : Int32).toNatClampNeg) 2) < p1 then 1 else (if p1 = (mPr u (u.2 9 (p0 : Int32).toNatClampNeg) 2) then (if p2 < (mPr u (u.2 9 (p0 : Int32).toNatClampNeg) 3) then 0 else 1) else 0))))
set_option maxHeartbeats 4000000 in
set_option maxRecDepth 100000 in
theorem n_mayMend (l : Launch) (dC : Nat → ClassId) (dI : Nat → Nat → Nat) (h0 : Nat) (v : Nat → Nat) (cI cZ : ClassId) (u : mS) (p0 p1 p2 : Int32) (hi : bw p0 0 79 = true) (hn : bw (u.1 3) 0 80 = true) (hd : bw (u.1 38) 0 399 = true) : Met l yX12_mayMend wsX12_mayMend ({ frames := 3, cells := 0, slots := 0, locals := 66 }) (va_Pc [.ref h0, .int p0, .int p1, .int p2] (PW dC dI (mW h0 v cI cZ u) [(cI, .int), (cZ, .boolean)])) (vp_Si (fun r => r = mMend u p0 p1 p2)) 0 0 (fun _ => False) := by
  refine Met.ofW (cc := cX12_mayMend) (maxL := 6) (ret := (some .boolean)) (by decide) rfl ?_
  intro p e s m args below meth c s₁ B hml hv
  obtain ⟨rfl, hP, hK, hN⟩ := hv
  have hx := B.exec
  have hb := B.bytes
  have hr := B.returns
  have hts := atoms_spec (ws := wsX12_mayMend) B.pre
  have hown : s.vm.findClass RX12 = some m.cls := findClass_of_methodNamed B.named
  have hlocks := B.notSynchronized
  have hl := lv_entry ([.ref h0, .int p0, .int p1, .int p2]) (n := 6) (Nat.le_of_ble_eq_true rfl)
  rw [lg_entry_eq]
  generalize (lg_sl ([.ref h0, .int p0, .int p1, .int p2]) ++ List.replicate (6 - (lg_sl ([.ref h0, .int p0, .int p1, .int p2])).length) Slot.unset).toArray = ls at hl ⊢
  have hl : lv_has ls 6 [(0, .ref h0), (1, .int p0), (2, .int p1), (3, .int p2)] := hl
  refine lv_aload_n hx hb dX12_mayMend_0 rfl (lv_at hl 0 rfl) ?_
  refine lv_aload_n hx hb dX12_mayMend_1 rfl (lv_at hl 0 rfl) ?_
  refine va_get (D := (dC, dI)) (ci := 11) (v := .ref (v 9)) (C := RX12) (T := TX12) (N := 52) hx hb hts zl_X12_mayMend_X12 hown hK hP 0 rfl rfl 9 (by decide) (hts (.fieldLink RX12 34 "PageOneModel" "of" "[I") (zat q_wsX12_mayMend k_wsX12_mayMend 891 rfl (by decide +kernel))) (fun _ h9 => h9) rfl dX12_mayMend_2 ?_
  refine lv_iload_n hx hb dX12_mayMend_5 rfl (lv_at hl 1 rfl) ?_
  refine va_iald hx hb hK hP 9 0 rfl rfl (vin hi (by decide)) dX12_mayMend_6 ?_
  refine lv_iconst (v := 0) hx hb dX12_mayMend_7 (by decide) ?_
  refine vp_callSi (va_runV (As := [.int (u.2 9 (p0 : Int32).toNatClampNeg), .int 0]) (rest := []) ⟨hx, hb, hml, hown, hts⟩ (m_printed l dC dI h0 v cI cZ u (u.2 9 (p0 : Int32).toNatClampNeg) 0 hn) (cwV 2 hts gX12_mayMend_X12_printed rfl rfl rfl zh_X12_printed_18 ⟨Nat.le_of_ble_eq_true rfl, Nat.le_of_ble_eq_true rfl⟩) ⟨pw_fb, va_recv hK hP (ci := 11) (q0 := 0) rfl rfl, fun U hU hW => ⟨rfl, pw_to hU hW hP hK hN⟩⟩ rfl rfl hl.1 rfl (lv_room (Nat.le_of_ble_eq_true rfl)) dX12_mayMend_8 ⟨Nat.le_of_ble_eq_true rfl, Nat.le_of_ble_eq_true rfl⟩).run (fun r hw => ?_)
  obtain rfl : r = (mPr u (u.2 9 (p0 : Int32).toNatClampNeg) 0) := mPr_eq hw
  refine lv_topi (fun x_1 ex_1 => ?_)
  refine lv_istore (lv' := [(4, .int x_1), (0, .ref h0), (1, .int p0), (2, .int p1), (3, .int p2)]) hx hb dX12_mayMend_11 hl (by decide) rfl (fun ls hl => ?_)
  refine lv_iload hx hb dX12_mayMend_13 (lv_at hl 0 rfl) ?_
  refine lv_if_lt (tgt := 35) hx hb dX12_mayMend_15 (by decide) (fun c_2 => ?_) (fun c_2 => ?_)
  ·
    refine lv_iconst (v := 0) hx hb dX12_mayMend_35 (by decide) ?_
    exact W.zret (v := 0) hx hb hr (by decide) (fun t ht hW => ⟨_, rfl, (by rw [ex_1] at c_2; unfold mMend; rw [if_pos c_2]), ht⟩) (fun q h => absurd h List.not_mem_nil) dX12_mayMend_36
  ·
    refine lv_iload hx hb dX12_mayMend_18 (lv_at hl 0 rfl) ?_
    refine lv_aload_n hx hb dX12_mayMend_20 rfl (lv_at hl 1 rfl) ?_
    refine va_get (D := (dC, dI)) (ci := 11) (v := .int (u.1 38)) (C := RX12) (T := TX12) (N := 52) hx hb hts zl_X12_mayMend_X12 hown hK hP 0 rfl rfl 38 (by decide) (hts (.fieldLink RX12 206 "PageOneModel" "day" "I") (zat q_wsX12_mayMend k_wsX12_mayMend 920 rfl (by decide +kernel))) (fun _ h9 => h9) rfl dX12_mayMend_21 ?_
    refine lv_icmp_ge (tgt := 35) hx hb dX12_mayMend_24 (by decide) (fun c_3 => ?_) (fun c_3 => ?_)
    ·
      refine lv_iconst (v := 0) hx hb dX12_mayMend_35 (by decide) ?_
      exact W.zret (v := 0) hx hb hr (by decide) (fun t ht hW => ⟨_, rfl, (by rw [ex_1] at c_2; rw [ex_1] at c_3; unfold mMend; rw [if_neg c_2, if_pos c_3]), ht⟩) (fun q h => absurd h List.not_mem_nil) dX12_mayMend_36
    ·
      refine lv_aload_n hx hb dX12_mayMend_27 rfl (lv_at hl 1 rfl) ?_
      refine lv_iload_n hx hb dX12_mayMend_28 rfl (lv_at hl 2 rfl) ?_
      refine vp_callSi (va_runV (As := [.int p0]) (rest := []) ⟨hx, hb, hml, hown, hts⟩ (m_wasPrintedAhead l dC dI h0 v cI cZ u p0 hi hd) (cwV 1 hts gX12_mayMend_X12_wasPrintedAhead rfl rfl rfl zh_X12_wasPrintedAhead_19 ⟨Nat.le_of_ble_eq_true rfl, Nat.le_of_ble_eq_true rfl⟩) ⟨pw_fb, va_recv hK hP (ci := 11) (q0 := 0) rfl rfl, fun U hU hW => ⟨rfl, pw_to hU hW hP hK hN⟩⟩ rfl rfl hl.1 rfl (lv_room (Nat.le_of_ble_eq_true rfl)) dX12_mayMend_29 ⟨Nat.le_of_ble_eq_true rfl, Nat.le_of_ble_eq_true rfl⟩).run (fun r hw => ?_)
      rcases Bool.eq_false_or_eq_true (mWas u p0 (u.1 38).toNatClampNeg) with b_4 | b_4
      ·
        obtain rfl : r = 1 := b_t hw b_4
        refine lv_if_eq (tgt := 37) hx hb dX12_mayMend_32 (by decide) (fun c_5 => absurd c_5 (by decide)) (fun c_5 => ?_)
        refine lv_iconst (v := 0) hx hb dX12_mayMend_35 (by decide) ?_
        exact W.zret (v := 0) hx hb hr (by decide) (fun t ht hW => ⟨_, rfl, (by rw [ex_1] at c_2; rw [ex_1] at c_3; unfold mMend; rw [if_neg c_2, if_neg c_3, if_pos b_4]), ht⟩) (fun q h => absurd h List.not_mem_nil) dX12_mayMend_36
      ·
        obtain rfl : r = 0 := b_f hw b_4
        refine lv_if_eq (tgt := 37) hx hb dX12_mayMend_32 (by decide) (fun c_6 => ?_) (fun c_6 => absurd (by decide) c_6)
        refine lv_aload_n hx hb dX12_mayMend_37 rfl (lv_at hl 1 rfl) ?_
        refine lv_aload_n hx hb dX12_mayMend_38 rfl (lv_at hl 1 rfl) ?_
        refine va_get (D := (dC, dI)) (ci := 11) (v := .ref (v 9)) (C := RX12) (T := TX12) (N := 52) hx hb hts zl_X12_mayMend_X12 hown hK hP 0 rfl rfl 9 (by decide) (hts (.fieldLink RX12 34 "PageOneModel" "of" "[I") (zat q_wsX12_mayMend k_wsX12_mayMend 891 rfl (by decide +kernel))) (fun _ h9 => h9) rfl dX12_mayMend_39 ?_
        refine lv_iload_n hx hb dX12_mayMend_42 rfl (lv_at hl 2 rfl) ?_
        refine va_iald hx hb hK hP 9 0 rfl rfl (vin hi (by decide)) dX12_mayMend_43 ?_
        refine lv_iconst (v := 2) hx hb dX12_mayMend_44 (by decide) ?_
        refine vp_callSi (va_runV (As := [.int (u.2 9 (p0 : Int32).toNatClampNeg), .int 2]) (rest := []) ⟨hx, hb, hml, hown, hts⟩ (m_printed l dC dI h0 v cI cZ u (u.2 9 (p0 : Int32).toNatClampNeg) 2 hn) (cwV 2 hts gX12_mayMend_X12_printed rfl rfl rfl zh_X12_printed_18 ⟨Nat.le_of_ble_eq_true rfl, Nat.le_of_ble_eq_true rfl⟩) ⟨pw_fb, va_recv hK hP (ci := 11) (q0 := 0) rfl rfl, fun U hU hW => ⟨rfl, pw_to hU hW hP hK hN⟩⟩ rfl rfl hl.1 rfl (lv_room (Nat.le_of_ble_eq_true rfl)) dX12_mayMend_45 ⟨Nat.le_of_ble_eq_true rfl, Nat.le_of_ble_eq_true rfl⟩).run (fun r hw => ?_)
        obtain rfl : r = (mPr u (u.2 9 (p0 : Int32).toNatClampNeg) 2) := mPr_eq hw
        refine lv_topi (fun x_7 ex_7 => ?_)
        refine lv_istore (lv' := [(5, .int x_7), (4, .int x_1), (0, .ref h0), (1, .int p0), (2, .int p1), (3, .int p2)]) hx hb dX12_mayMend_48 hl (by decide) rfl (fun ls hl => ?_)
        refine lv_iload_n hx hb dX12_mayMend_50 rfl (lv_at hl 4 rfl) ?_
        refine lv_iload hx hb dX12_mayMend_51 (lv_at hl 0 rfl) ?_
        refine lv_icmp_gt (tgt := 77) hx hb dX12_mayMend_53 (by decide) (fun c_8 => ?_) (fun c_8 => ?_)
        ·
          refine lv_iconst (v := 1) hx hb dX12_mayMend_77 (by decide) ?_
          refine lv_goto (tgt := 82) hx hb dX12_mayMend_78 (by decide) ?_
          exact W.zret (v := 1) hx hb hr (by decide) (fun t ht hW => ⟨_, rfl, (by rw [ex_1] at c_2; rw [ex_1] at c_3; rw [ex_7] at c_8; unfold mMend; rw [if_neg c_2, if_neg c_3, if_neg (bne b_4), if_pos c_8]), ht⟩) (fun q h => absurd h List.not_mem_nil) dX12_mayMend_82
        ·
          refine lv_iload_n hx hb dX12_mayMend_56 rfl (lv_at hl 4 rfl) ?_
          refine lv_iload hx hb dX12_mayMend_57 (lv_at hl 0 rfl) ?_
          refine lv_icmp_ne (tgt := 81) hx hb dX12_mayMend_59 (by decide) (fun c_9 => ?_) (fun c_9 => ?_)
          ·
            refine lv_iconst (v := 0) hx hb dX12_mayMend_81 (by decide) ?_
            exact W.zret (v := 0) hx hb hr (by decide) (fun t ht hW => ⟨_, rfl, (by rw [ex_1] at c_2; rw [ex_1] at c_3; rw [ex_7] at c_8; rw [ex_7] at c_9; unfold mMend; rw [if_neg c_2, if_neg c_3, if_neg (bne b_4), if_neg c_8, if_neg c_9]), ht⟩) (fun q h => absurd h List.not_mem_nil) dX12_mayMend_82
          ·
            refine lv_iload_n hx hb dX12_mayMend_62 rfl (lv_at hl 5 rfl) ?_
            refine lv_aload_n hx hb dX12_mayMend_63 rfl (lv_at hl 2 rfl) ?_
            refine lv_aload_n hx hb dX12_mayMend_64 rfl (lv_at hl 2 rfl) ?_
            refine va_get (D := (dC, dI)) (ci := 11) (v := .ref (v 9)) (C := RX12) (T := TX12) (N := 52) hx hb hts zl_X12_mayMend_X12 hown hK hP 0 rfl rfl 9 (by decide) (hts (.fieldLink RX12 34 "PageOneModel" "of" "[I") (zat q_wsX12_mayMend k_wsX12_mayMend 891 rfl (by decide +kernel))) (fun _ h9 => h9) rfl dX12_mayMend_65 ?_
            refine lv_iload_n hx hb dX12_mayMend_68 rfl (lv_at hl 3 rfl) ?_
            refine va_iald hx hb hK hP 9 0 rfl rfl (vin hi (by decide)) dX12_mayMend_69 ?_
            refine lv_iconst (v := 3) hx hb dX12_mayMend_70 (by decide) ?_
            refine vp_callSi (va_runV (As := [.int (u.2 9 (p0 : Int32).toNatClampNeg), .int 3]) (rest := [.int p2]) ⟨hx, hb, hml, hown, hts⟩ (m_printed l dC dI h0 v cI cZ u (u.2 9 (p0 : Int32).toNatClampNeg) 3 hn) (cwV 2 hts gX12_mayMend_X12_printed rfl rfl rfl zh_X12_printed_18 ⟨Nat.le_of_ble_eq_true rfl, Nat.le_of_ble_eq_true rfl⟩) ⟨pw_fb, va_recv hK hP (ci := 11) (q0 := 0) rfl rfl, fun U hU hW => ⟨rfl, pw_to hU hW hP hK hN⟩⟩ rfl rfl hl.1 rfl (lv_room (Nat.le_of_ble_eq_true rfl)) dX12_mayMend_71 ⟨Nat.le_of_ble_eq_true rfl, Nat.le_of_ble_eq_true rfl⟩).run (fun r hw => ?_)
            obtain rfl : r = (mPr u (u.2 9 (p0 : Int32).toNatClampNeg) 3) := mPr_eq hw
            refine lv_icmp_lt (tgt := 81) hx hb dX12_mayMend_74 (by decide) (fun c_10 => ?_) (fun c_10 => ?_)
            ·
              refine lv_iconst (v := 0) hx hb dX12_mayMend_81 (by decide) ?_
              exact W.zret (v := 0) hx hb hr (by decide) (fun t ht hW => ⟨_, rfl, (by rw [ex_1] at c_2; rw [ex_1] at c_3; rw [ex_7] at c_8; rw [ex_7] at c_9; unfold mMend; rw [if_neg c_2, if_neg c_3, if_neg (bne b_4), if_neg c_8, if_pos c_9, if_pos c_10]), ht⟩) (fun q h => absurd h List.not_mem_nil) dX12_mayMend_82
            ·
              refine lv_iconst (v := 1) hx hb dX12_mayMend_77 (by decide) ?_
              refine lv_goto (tgt := 82) hx hb dX12_mayMend_78 (by decide) ?_
              exact W.zret (v := 1) hx hb hr (by decide) (fun t ht hW => ⟨_, rfl, (by rw [ex_1] at c_2; rw [ex_1] at c_3; rw [ex_7] at c_8; rw [ex_7] at c_9; unfold mMend; rw [if_neg c_2, if_neg c_3, if_neg (bne b_4), if_neg c_8, if_pos c_9, if_neg c_10]), ht⟩) (fun q h => absurd h List.not_mem_nil) dX12_mayMend_82
def mHasN (u : mS) (i : Int32) : Prop := ∃ j, j < (u.1 3).toNatClampNeg ∧ u.2 4 j = 5 ∧ u.2 9 j = i
set_option maxHeartbeats 4000000 in
set_option maxRecDepth 100000 in
theorem n_nt_loop {p : Program} {l : Launch} {e : Env} {R : Room} {s : State} {m : MethodId} {args : Array Value} {below : List Frame} {meth : Method} {c : Code} {Q : State → Prop} {cells slots : Nat} {dC : Nat → ClassId} {dI : Nat → Nat → Nat} {h0 : Nat} {v : Nat → Nat} {cI cZ : ClassId} {H : Heap} {locs : List Loc} {u : mS} (hx : p.tables.exec = Jvm.exec) (hb : c.code = cX12_notice) (hml : c.maxLocals = 4) (hts : ∀ w ∈ wsX12_notice, w.before args s = true) (hown : s.vm.findClass RX12 = some m.cls) (hN : NN s) (hK : va_K (dC, dI) vwCl [(cI, .int), (cZ, .boolean)] s) (hP : va_P (dC, dI) vwCl (mW h0 v cI cZ u) H) {p0 p1 : Int32} {M : Nat} (hM8 : M ≤ 80) (eM : u.1 3 = nI M) (kx78 : ∀ (ls : Array Slot), (∃ j, j < M ∧ (u.2 4 j = 5 ∧ u.2 9 j = p0)) → lv_has ls 4 [(0, .ref h0), (1, .int p0), (2, .int p1)] → W p l e R s m args below meth c H locs cells slots Q (F0 m 78 ls [])) (kx86 : ∀ (ls : Array Slot), (∀ j, j < M → ¬ (u.2 4 j = 5 ∧ u.2 9 j = p0)) → lv_has ls 4 [(0, .ref h0), (1, .int p0), (2, .int p1)] → W p l e R s m args below meth c H locs cells slots Q (F0 m 86 ls [])) : ∀ (k i : Nat) (ls : Array Slot), i ≤ M → M - i < k → (∀ j, j < i → ¬ (u.2 4 j = 5 ∧ u.2 9 j = p0)) → lv_has ls 4 [(3, .int (nI i)), (0, .ref h0), (1, .int p0), (2, .int p1)] → W p l e R s m args below meth c H locs cells slots Q (F0 m 50 ls []) := by
  intro k
  induction k with
  | zero => intro i ls h1 h2; exact absurd h2 (Nat.not_lt_zero _)
  | succ k ih =>
    intro i ls hi hk hg hl
    refine lv_iload_n hx hb dX12_notice_50 rfl (lv_at hl 0 rfl) ?_
    refine lv_aload_n hx hb dX12_notice_51 rfl (lv_at hl 1 rfl) ?_
    refine va_get (D := (dC, dI)) (ci := 11) (v := .int (u.1 3)) (C := RX12) (T := TX12) (N := 52) hx hb hts zl_X12_notice_X12 hown hK hP 0 rfl rfl 3 (by decide) (hts (.fieldLink RX12 147 "PageOneModel" "items" "I") (zat q_wsX12_notice k_wsX12_notice 885 rfl (by decide +kernel))) (fun _ h9 => h9) rfl dX12_notice_52 ?_
    refine lv_topi (fun y_1 ey_1 => ?_)
    obtain rfl : y_1 = (nI M) := ey_1.trans (eM)
    refine lv_icmp_ge (tgt := 86) hx hb dX12_notice_55 (by decide) (fun c_2 => ?_) (fun c_2 => ?_)
    ·
      have hie : i = M := lp_eq rfl (by omega) hi c_2
      exact kx86 ls (by rw [← hie]; exact hg) (lv_sub hl [1, 2, 3] rfl)
    ·
      have hlt : i < M := lp_lt rfl (by omega) hi c_2
      refine lv_aload_n hx hb dX12_notice_58 rfl (lv_at hl 1 rfl) ?_
      refine va_get (D := (dC, dI)) (ci := 11) (v := .ref (v 4)) (C := RX12) (T := TX12) (N := 52) hx hb hts zl_X12_notice_X12 hown hK hP 0 rfl rfl 4 (by decide) (hts (.fieldLink RX12 19 "PageOneModel" "kind" "[I") (zat q_wsX12_notice k_wsX12_notice 886 rfl (by decide +kernel))) (fun _ h9 => h9) rfl dX12_notice_59 ?_
      refine lv_iload_n hx hb dX12_notice_62 rfl (lv_at hl 0 rfl) ?_
      refine va_iald hx hb hK hP 4 0 rfl rfl (vp_in_nI (by omega) (by decide)) dX12_notice_63 ?_
      refine lv_iconst (v := 5) hx hb dX12_notice_64 (by decide) ?_
      refine lv_icmp_ne (tgt := 80) hx hb dX12_notice_65 (by decide) (fun c_3 => ?_) (fun c_3 => ?_)
      ·
        refine lv_iinc (v := (nI (i + 1))) (lv' := [(3, .int (nI (i + 1))), (0, .ref h0), (1, .int p0), (2, .int p1)]) hx hb dX12_notice_80 hl (k := 0) rfl (nI_1 i) (by decide) rfl (fun ls hl => ?_)
        refine lv_goto (tgt := 50) hx hb dX12_notice_83 (by decide) ?_
        exact ih (i + 1) ls (by omega) (by omega) (fr_1 hg (by have e9 : (nI i).toNatClampNeg = i := nI_clamp (by omega); (try simp only [e9] at c_3); simp [c_3])) (lv_sub hl [0, 1, 2, 3] rfl)
      ·
        refine lv_aload_n hx hb dX12_notice_68 rfl (lv_at hl 1 rfl) ?_
        refine va_get (D := (dC, dI)) (ci := 11) (v := .ref (v 9)) (C := RX12) (T := TX12) (N := 52) hx hb hts zl_X12_notice_X12 hown hK hP 0 rfl rfl 9 (by decide) (hts (.fieldLink RX12 34 "PageOneModel" "of" "[I") (zat q_wsX12_notice k_wsX12_notice 891 rfl (by decide +kernel))) (fun _ h9 => h9) rfl dX12_notice_69 ?_
        refine lv_iload_n hx hb dX12_notice_72 rfl (lv_at hl 0 rfl) ?_
        refine va_iald hx hb hK hP 9 0 rfl rfl (vp_in_nI (by omega) (by decide)) dX12_notice_73 ?_
        refine lv_iload_n hx hb dX12_notice_74 rfl (lv_at hl 2 rfl) ?_
        refine lv_icmp_ne (tgt := 80) hx hb dX12_notice_75 (by decide) (fun c_4 => ?_) (fun c_4 => ?_)
        ·
          refine lv_iinc (v := (nI (i + 1))) (lv' := [(3, .int (nI (i + 1))), (0, .ref h0), (1, .int p0), (2, .int p1)]) hx hb dX12_notice_80 hl (k := 0) rfl (nI_1 i) (by decide) rfl (fun ls hl => ?_)
          refine lv_goto (tgt := 50) hx hb dX12_notice_83 (by decide) ?_
          exact ih (i + 1) ls (by omega) (by omega) (fr_1 hg (by have e9 : (nI i).toNatClampNeg = i := nI_clamp (by omega); (try simp only [e9] at c_3); (try simp only [e9] at c_4); simp [c_3, c_4])) (lv_sub hl [0, 1, 2, 3] rfl)
        ·
          exact kx78 ls ⟨i, hlt, (by have e9 : (nI i).toNatClampNeg = i := nI_clamp (by omega); (try simp only [e9] at c_3); (try simp only [e9] at c_4); simp [c_3, c_4])⟩ (lv_sub hl [1, 2, 3] rfl)
noncomputable def mNoticeX (u : mS) (p0 p1 : Int32) : Int32 × mS := if (u.1 3) = 80 then ((-1), u) else (if bw p0 0 (u.1 3 - 1) = true then (if bw p1 1 20 = true then (if (u.2 4 (p0 : Int32).toNatClampNeg) = 5 then ((-1), u) else (if 0 ≤ (mPr u p0 0) then (if bP (mHasN u p0) = 0 then ((u.1 3), (mst (mst (mMade u 5) 9 (u.1 3) p0) 8 (u.1 3) p1)) else ((-1), u)) else ((-1), u))) else ((-1), u)) else ((-1), u))
set_option maxHeartbeats 4000000 in
set_option maxRecDepth 100000 in
theorem n_notice (l : Launch) (dC : Nat → ClassId) (dI : Nat → Nat → Nat) (h0 : Nat) (v : Nat → Nat) (cI cZ : ClassId) (u : mS) (p0 p1 : Int32) (hn : bw (u.1 3) 0 80 = true) (sz : Nat) : Met l yX12_notice wsX12_notice ({ frames := 3, cells := 0, slots := 0, locals := 66 }) (va_Pc [.ref h0, .int p0, .int p1] (fun U => U.heap.size = sz ∧ PW dC dI (mW h0 v cI cZ u) [(cI, .int), (cZ, .boolean)] U ∧ va_D (fun _ => True) (mW h0 v cI cZ u))) (va_Qi (fun (r : Int32) (u9 : mS) => (r, u9) = mNoticeX u p0 p1) (fun u9 t => va_P (dC, dI) vwCl (mW h0 v cI cZ u9) t.heap ∧ va_D (va_A (mW h0 v cI cZ u) sz) (mW h0 v cI cZ u9)) (va_A (mW h0 v cI cZ u) sz)) 0 0 (va_A (mW h0 v cI cZ u) sz) := by
  refine Met.ofW (cc := cX12_notice) (maxL := 4) (ret := (some .int)) (by decide) rfl ?_
  intro p e s m args below meth c s₁ B hml hv
  obtain ⟨rfl, hsz, ⟨hP, hK, hN⟩, hD0⟩ := hv
  have hx := B.exec
  have hb := B.bytes
  have hr := B.returns
  have hts := atoms_spec (ws := wsX12_notice) B.pre
  have hown : s.vm.findClass RX12 = some m.cls := findClass_of_methodNamed B.named
  have hlocks := B.notSynchronized
  subst hsz
  have hD := hD0.self (sz := s.heap.size)
  generalize hAe : va_A (mW h0 v cI cZ u) s.heap.size = A at hD ⊢
  have hA : ∀ q : Nat, s.heap.size ≤ q → A q := fun q h => by rw [← hAe]; exact Or.inr h
  have hS : va_S A s.heap s.heap [] := va_S.rf
  have hl := lv_entry ([.ref h0, .int p0, .int p1]) (n := 4) (Nat.le_of_ble_eq_true rfl)
  rw [lg_entry_eq]
  generalize (lg_sl ([.ref h0, .int p0, .int p1]) ++ List.replicate (4 - (lg_sl ([.ref h0, .int p0, .int p1])).length) Slot.unset).toArray = ls at hl ⊢
  have hl : lv_has ls 4 [(0, .ref h0), (1, .int p0), (2, .int p1)] := hl
  refine lv_aload_n hx hb dX12_notice_0 rfl (lv_at hl 0 rfl) ?_
  refine va_get (D := (dC, dI)) (ci := 11) (v := .int (u.1 3)) (C := RX12) (T := TX12) (N := 52) hx hb hts zl_X12_notice_X12 hown hK hP 0 rfl rfl 3 (by decide) (hts (.fieldLink RX12 147 "PageOneModel" "items" "I") (zat q_wsX12_notice k_wsX12_notice 885 rfl (by decide +kernel))) (fun _ h9 => h9) rfl dX12_notice_1 ?_
  refine lv_bipush (v := 80) hx hb dX12_notice_4 (by decide) ?_
  refine lv_icmp_eq (tgt := 46) hx hb dX12_notice_6 (by decide) (fun c_1 => ?_) (fun c_1 => ?_)
  ·
    refine lv_iconst (v := (-1)) hx hb dX12_notice_46 (by decide) ?_
    exact W.iret (v := (-1)) hx hb hr (fun t ht hW => ⟨⟨(-1), u, rfl, (by unfold mNoticeX; rw [if_pos c_1]), by rw [ht]; exact hP, hD⟩, hS.F ht⟩) hS.2.2 dX12_notice_47
  ·
    refine lv_aload_n hx hb dX12_notice_9 rfl (lv_at hl 0 rfl) ?_
    refine lv_iload_n hx hb dX12_notice_10 rfl (lv_at hl 1 rfl) ?_
    refine vp_callSi (va_runV (As := [.int p0]) (rest := []) ⟨hx, hb, hml, hown, hts⟩ (m_isItem l dC dI h0 v cI cZ u p0) (cwV 1 hts gX12_notice_X12_isItem rfl rfl rfl zh_X12_isItem_1 ⟨Nat.le_of_ble_eq_true rfl, Nat.le_of_ble_eq_true rfl⟩) ⟨pw_fb, va_recv hK hP (ci := 11) (q0 := 0) rfl rfl, fun U hU hW => ⟨rfl, pw_to hU hW hP hK hN⟩⟩ rfl rfl hl.1 rfl (lv_room (Nat.le_of_ble_eq_true rfl)) dX12_notice_11 ⟨Nat.le_of_ble_eq_true rfl, Nat.le_of_ble_eq_true rfl⟩).run (fun r hw => ?_)
    rcases Bool.eq_false_or_eq_true (bw p0 0 (u.1 3 - 1)) with b_2 | b_2
    ·
      obtain rfl : r = 1 := b_t hw b_2
      refine lv_if_eq (tgt := 46) hx hb dX12_notice_14 (by decide) (fun c_3 => absurd c_3 (by decide)) (fun c_3 => ?_)
      refine lv_iload_n hx hb dX12_notice_17 rfl (lv_at hl 2 rfl) ?_
      refine lv_iconst (v := 1) hx hb dX12_notice_18 (by decide) ?_
      refine lv_bipush (v := 20) hx hb dX12_notice_19 (by decide) ?_
      refine vp_callSi (va_runS (As := [.int p1, .int 1, .int 20]) (rest := []) ⟨hx, hb, hml, hown, hts⟩ (m_in l dC dI p1 1 20) (va_cwS 3 hts gX12_notice_X12_in rfl rfl rfl zh_X12_in_0 ⟨Nat.le_of_ble_eq_true rfl, Nat.le_of_ble_eq_true rfl⟩) ⟨pw_fb, fun U hU hW => ⟨rfl, pw_to hU hW (hP.sub (ws' := []) [] rfl) (hK.sub (tys' := []) [] rfl) hN⟩⟩ rfl rfl hl.1 rfl (lv_room (Nat.le_of_ble_eq_true rfl)) dX12_notice_21 ⟨Nat.le_of_ble_eq_true rfl, Nat.le_of_ble_eq_true rfl⟩).run (fun r hw => ?_)
      rcases Bool.eq_false_or_eq_true (bw p1 1 20) with b_4 | b_4
      ·
        obtain rfl : r = 1 := b_t hw b_4
        refine lv_if_eq (tgt := 46) hx hb dX12_notice_24 (by decide) (fun c_5 => absurd c_5 (by decide)) (fun c_5 => ?_)
        refine lv_aload_n hx hb dX12_notice_27 rfl (lv_at hl 0 rfl) ?_
        refine va_get (D := (dC, dI)) (ci := 11) (v := .ref (v 4)) (C := RX12) (T := TX12) (N := 52) hx hb hts zl_X12_notice_X12 hown hK hP 0 rfl rfl 4 (by decide) (hts (.fieldLink RX12 19 "PageOneModel" "kind" "[I") (zat q_wsX12_notice k_wsX12_notice 886 rfl (by decide +kernel))) (fun _ h9 => h9) rfl dX12_notice_28 ?_
        refine lv_iload_n hx hb dX12_notice_31 rfl (lv_at hl 1 rfl) ?_
        refine va_iald hx hb hK hP 4 0 rfl rfl (vIt hn b_2) dX12_notice_32 ?_
        refine lv_iconst (v := 5) hx hb dX12_notice_33 (by decide) ?_
        refine lv_icmp_eq (tgt := 46) hx hb dX12_notice_34 (by decide) (fun c_6 => ?_) (fun c_6 => ?_)
        ·
          refine lv_iconst (v := (-1)) hx hb dX12_notice_46 (by decide) ?_
          exact W.iret (v := (-1)) hx hb hr (fun t ht hW => ⟨⟨(-1), u, rfl, (by unfold mNoticeX; rw [if_neg c_1, if_pos b_2, if_pos b_4, if_pos c_6]), by rw [ht]; exact hP, hD⟩, hS.F ht⟩) hS.2.2 dX12_notice_47
        ·
          refine lv_aload_n hx hb dX12_notice_37 rfl (lv_at hl 0 rfl) ?_
          refine lv_iload_n hx hb dX12_notice_38 rfl (lv_at hl 1 rfl) ?_
          refine lv_iconst (v := 0) hx hb dX12_notice_39 (by decide) ?_
          refine vp_callSi (va_runV (As := [.int p0, .int 0]) (rest := []) ⟨hx, hb, hml, hown, hts⟩ (m_printed l dC dI h0 v cI cZ u p0 0 hn) (cwV 2 hts gX12_notice_X12_printed rfl rfl rfl zh_X12_printed_18 ⟨Nat.le_of_ble_eq_true rfl, Nat.le_of_ble_eq_true rfl⟩) ⟨pw_fb, va_recv hK hP (ci := 11) (q0 := 0) rfl rfl, fun U hU hW => ⟨rfl, pw_to hU hW hP hK hN⟩⟩ rfl rfl hl.1 rfl (lv_room (Nat.le_of_ble_eq_true rfl)) dX12_notice_40 ⟨Nat.le_of_ble_eq_true rfl, Nat.le_of_ble_eq_true rfl⟩).run (fun r hw => ?_)
          obtain rfl : r = (mPr u p0 0) := mPr_eq hw
          refine lv_if_ge (tgt := 48) hx hb dX12_notice_43 (by decide) (fun c_7 => ?_) (fun c_7 => ?_)
          ·
            refine lv_iconst (v := 0) hx hb dX12_notice_48 (by decide) ?_
            refine lv_istore_n (lv' := [(3, .int 0), (0, .ref h0), (1, .int p0), (2, .int p1)]) hx hb dX12_notice_49 rfl hl (by decide) rfl (fun ls hl => ?_)
            obtain ⟨eK, eK2, eK3⟩ := nI_of_bw hn
            have h80 : (80 : Int32).toInt = 80 := rfl
            refine n_nt_loop (p0 := p0) (M := (u.1 3).toNatClampNeg) hx hb hml hts hown hN hK hP (by omega) eK (fun ls hh hl => ?_) (fun ls hh hl => ?_) _ 0 ls (Nat.zero_le _) (Nat.lt_succ_self _) (fun j hj => absurd hj (Nat.not_lt_zero _)) (lv_sub hl [0, 1, 2, 3] rfl)
            ·
              have hq_8 := hh
              refine lv_iconst (v := (-1)) hx hb dX12_notice_78 (by decide) ?_
              exact W.iret (v := (-1)) hx hb hr (fun t ht hW => ⟨⟨(-1), u, rfl, (by unfold mNoticeX; rw [if_neg c_1, if_pos b_2, if_pos b_4, if_neg c_6, if_pos c_7, if_neg (by rw [bP_t (show mHasN u p0 from hq_8)]; decide)]), by rw [ht]; exact hP, hD⟩, hS.F ht⟩) hS.2.2 dX12_notice_79
            ·
              have hq_9 := hh
              refine lv_aload_n hx hb dX12_notice_86 rfl (lv_at hl 0 rfl) ?_
              refine lv_iconst (v := 5) hx hb dX12_notice_87 (by decide) ?_
              have hFc := fr_all hD hS hA
              refine va_calli (va_runV (As := [.int 5]) (rest := []) ⟨hx, hb, hml, hown, hts⟩ (m_made l dC dI h0 v cI cZ u 5 hn c_1 s.heap.size) (cwV 1 hts gX12_notice_X12_made rfl rfl rfl zh_X12_made_2 ⟨Nat.le_of_ble_eq_true rfl, Nat.le_of_ble_eq_true rfl⟩) ⟨gw_fb, va_recv hK hP (ci := 11) (q0 := 0) rfl rfl, fun U hU hW => ⟨rfl, by rw [hU], pw_to hU hW hP hK hN, hD.weaken (fun _ _ _ _ => trivial)⟩⟩ rfl rfl hl.1 rfl (lv_room (Nat.le_of_ble_eq_true rfl)) dX12_notice_88 ⟨Nat.le_of_ble_eq_true rfl, Nat.le_of_ble_eq_true rfl⟩) hS (fun q _ h => hFc q h) hFc (fun r u_10 t H1 locs ht hvm hw hB hz1 hk1 hS => ?_)
              obtain ⟨hP, hD1⟩ := hB
              rw [ht] at hP
              have hD := hD1.weaken (fun _ q _ h => hFc q.1 h)
              generalize H1 = H at hP hS ⊢
              obtain ⟨rfl, eu_10⟩ := hw
              refine lv_istore_n (lv' := [(3, .int (u.1 3)), (0, .ref h0), (1, .int p0), (2, .int p1)]) hx hb dX12_notice_91 rfl hl (by decide) rfl (fun ls hl => ?_)
              refine lv_aload_n hx hb dX12_notice_92 rfl (lv_at hl 1 rfl) ?_
              refine va_get (D := (dC, dI)) (ci := 11) (v := .ref (v 9)) (C := RX12) (T := TX12) (N := 52) hx hb hts zl_X12_notice_X12 hown hK hP 0 rfl rfl 9 (by decide) (hts (.fieldLink RX12 34 "PageOneModel" "of" "[I") (zat q_wsX12_notice k_wsX12_notice 891 rfl (by decide +kernel))) (fun _ h9 => h9) rfl dX12_notice_93 ?_
              refine lv_iload_n hx hb dX12_notice_96 rfl (lv_at hl 0 rfl) ?_
              refine lv_iload_n hx hb dX12_notice_97 rfl (lv_at hl 2 rfl) ?_
              refine va_iast hx hb hK hP hD hS 9 0 rfl rfl (vNew hn c_1) dX12_notice_98 (fun H locs hP hD hS => ?_)
              obtain ⟨u_11, eu_11⟩ : ∃ zz : mS, zz = mst u_10 9 (u.1 3) p0 := ⟨_, rfl⟩
              have hP : va_P (dC, dI) vwCl (mW h0 v cI cZ u_11) H := by rw [eu_11]; exact hP
              have hD : va_D A (mW h0 v cI cZ u_11) := by rw [eu_11]; exact hD
              refine lv_aload_n hx hb dX12_notice_99 rfl (lv_at hl 1 rfl) ?_
              refine va_get (D := (dC, dI)) (ci := 11) (v := .ref (v 8)) (C := RX12) (T := TX12) (N := 52) hx hb hts zl_X12_notice_X12 hown hK hP 0 rfl rfl 8 (by decide) (hts (.fieldLink RX12 31 "PageOneModel" "high" "[I") (zat q_wsX12_notice k_wsX12_notice 890 rfl (by decide +kernel))) (fun _ h9 => h9) rfl dX12_notice_100 ?_
              refine lv_iload_n hx hb dX12_notice_103 rfl (lv_at hl 0 rfl) ?_
              refine lv_iload_n hx hb dX12_notice_104 rfl (lv_at hl 3 rfl) ?_
              refine va_iast hx hb hK hP hD hS 8 0 rfl rfl (vNew hn c_1) dX12_notice_105 (fun H locs hP hD hS => ?_)
              obtain ⟨u_12, eu_12⟩ : ∃ zz : mS, zz = mst u_11 8 (u.1 3) p1 := ⟨_, rfl⟩
              have hP : va_P (dC, dI) vwCl (mW h0 v cI cZ u_12) H := by rw [eu_12]; exact hP
              have hD : va_D A (mW h0 v cI cZ u_12) := by rw [eu_12]; exact hD
              refine lv_iload_n hx hb dX12_notice_106 rfl (lv_at hl 0 rfl) ?_
              exact W.iret (v := (u.1 3)) hx hb hr (fun t ht hW => ⟨⟨(u.1 3), u_12, rfl, (by rw [eu_12, eu_11, eu_10]; unfold mNoticeX; rw [if_neg c_1, if_pos b_2, if_pos b_4, if_neg c_6, if_pos c_7, if_pos (bP_f (fun ⟨j, hj, hP9⟩ => hq_9 j hj hP9))]), by rw [ht]; exact hP, hD⟩, hS.F ht⟩) hS.2.2 dX12_notice_107
          ·
            refine lv_iconst (v := (-1)) hx hb dX12_notice_46 (by decide) ?_
            exact W.iret (v := (-1)) hx hb hr (fun t ht hW => ⟨⟨(-1), u, rfl, (by unfold mNoticeX; rw [if_neg c_1, if_pos b_2, if_pos b_4, if_neg c_6, if_neg c_7]), by rw [ht]; exact hP, hD⟩, hS.F ht⟩) hS.2.2 dX12_notice_47
      ·
        obtain rfl : r = 0 := b_f hw b_4
        refine lv_if_eq (tgt := 46) hx hb dX12_notice_24 (by decide) (fun c_13 => ?_) (fun c_13 => absurd (by decide) c_13)
        refine lv_iconst (v := (-1)) hx hb dX12_notice_46 (by decide) ?_
        exact W.iret (v := (-1)) hx hb hr (fun t ht hW => ⟨⟨(-1), u, rfl, (by unfold mNoticeX; rw [if_neg c_1, if_pos b_2, if_neg (bne b_4)]), by rw [ht]; exact hP, hD⟩, hS.F ht⟩) hS.2.2 dX12_notice_47
    ·
      obtain rfl : r = 0 := b_f hw b_2
      refine lv_if_eq (tgt := 46) hx hb dX12_notice_14 (by decide) (fun c_14 => ?_) (fun c_14 => absurd (by decide) c_14)
      refine lv_iconst (v := (-1)) hx hb dX12_notice_46 (by decide) ?_
      exact W.iret (v := (-1)) hx hb hr (fun t ht hW => ⟨⟨(-1), u, rfl, (by unfold mNoticeX; rw [if_neg c_1, if_neg (bne b_2)]), by rw [ht]; exact hP, hD⟩, hS.F ht⟩) hS.2.2 dX12_notice_47
theorem bP_or1 {P : Nat → Prop} {i : Nat} {a : Int32} (hg : a = bP (∃ j, j < i ∧ P j)) (h : ¬ a = 0) : (1 : Int32) = bP (∃ j, j < i + 1 ∧ P j) := by
  rw [hg] at h
  obtain ⟨j, hj, hp⟩ := bP_n h
  exact (bP_t ⟨j, by omega, hp⟩).symm
theorem bP_or2 {P : Nat → Prop} {i : Nat} (h : P i) : (1 : Int32) = bP (∃ j, j < i + 1 ∧ P j) := (bP_t ⟨i, Nat.lt_succ_self _, h⟩).symm
theorem bP_or3 {P : Nat → Prop} {i : Nat} {a : Int32} (hg : a = bP (∃ j, j < i ∧ P j)) (h : a = 0) (hn : ¬ P i) : (0 : Int32) = bP (∃ j, j < i + 1 ∧ P j) := by
  rw [hg] at h
  refine (bP_f (fun ⟨j, hj, hp⟩ => ?_)).symm
  by_cases e : j = i
  · rw [e] at hp; exact hn hp
  · exact bP_0 h ⟨j, by omega, hp⟩
theorem bP_z {P : Nat → Prop} : (0 : Int32) = bP (∃ j, j < 0 ∧ P j) := (bP_f (fun ⟨_, hj, _⟩ => absurd hj (Nat.not_lt_zero _))).symm
def hsC (u : mS) (p0 kk b : Int32) (c : Nat) : Prop := mCell u (u.2 23 kk.toNatClampNeg) (nI c) b = true ∧ u.2 2 (480 * u.2 23 kk.toNatClampNeg + 60 * nI c + b).toNatClampNeg = u.2 9 p0.toNatClampNeg
set_option maxHeartbeats 4000000 in
set_option maxRecDepth 100000 in
theorem n_hasS_loop {p : Program} {l : Launch} {e : Env} {R : Room} {s : State} {m : MethodId} {args : Array Value} {below : List Frame} {meth : Method} {c : Code} {Q : State → Prop} {cells slots : Nat} {dC : Nat → ClassId} {dI : Nat → Nat → Nat} {h0 : Nat} {v : Nat → Nat} {cI cZ : ClassId} {H : Heap} {locs : List Loc} {u : mS} (hx : p.tables.exec = Jvm.exec) (hb : c.code = cX12_hasStory) (hml : c.maxLocals = 6) (hts : ∀ w ∈ wsX12_hasStory, w.before args s = true) (hown : s.vm.findClass RX12 = some m.cls) (hN : NN s) (hK : va_K (dC, dI) vwCl [(cI, .int), (cZ, .boolean)] s) (hRf : 3 ≤ R.frames) (hRl : 65 ≤ R.locals) (hRc : cells ≤ R.cells) (hRs : slots ≤ R.slots) (hP : va_P (dC, dI) vwCl (mW h0 v cI cZ u) H) {p0 b kk : Int32} {X D : Nat} (hi0 : bw p0 0 79 = true) (hkk : vp_in kk 480) (hXW : X + D ≤ 8) (hln : ∀ j, j < 96 → bw (u.2 0 j) 0 60 = true) (e24 : u.2 24 kk.toNatClampNeg = nI X) (e26 : u.2 26 kk.toNatClampNeg = nI D) (kx : ∀ (a : Int32) (ls : Array Slot), (a = bP (∃ j, j < D ∧ hsC u p0 kk b (X + j))) → lv_has ls 6 [(5, .int (nI (X + D))), (4, .int a), (0, .ref h0), (1, .int p0), (2, .int kk), (3, .int b)] → W p l e R s m args below meth c H locs cells slots Q (F0 m 108 ls [])) : ∀ (k i : Nat) (a : Int32) (ls : Array Slot), i ≤ D → D - i < k → (a = bP (∃ j, j < i ∧ hsC u p0 kk b (X + j))) → lv_has ls 6 [(5, .int (nI (X + i))), (4, .int a), (0, .ref h0), (1, .int p0), (2, .int kk), (3, .int b)] → W p l e R s m args below meth c H locs cells slots Q (F0 m 30 ls []) := by
  intro k
  induction k with
  | zero => intro i a ls h1 h2; exact absurd h2 (Nat.not_lt_zero _)
  | succ k ih =>
    intro i a ls hi hk hg hl
    refine lv_iload hx hb dX12_hasStory_30 (lv_at hl 0 rfl) ?_
    refine lv_aload_n hx hb dX12_hasStory_32 rfl (lv_at hl 2 rfl) ?_
    refine va_get (D := (dC, dI)) (ci := 11) (v := .ref (v 24)) (C := RX12) (T := TX12) (N := 52) hx hb hts zl_X12_hasStory_X12 hown hK hP 0 rfl rfl 24 (by decide) (hts (.fieldLink RX12 80 "PageOneModel" "pColumn" "[I") (zat q_wsX12_hasStory k_wsX12_hasStory 906 rfl (by decide +kernel))) (fun _ h9 => h9) rfl dX12_hasStory_33 ?_
    refine lv_iload_n hx hb dX12_hasStory_36 rfl (lv_at hl 4 rfl) ?_
    refine va_iald hx hb hK hP 24 0 rfl rfl hkk dX12_hasStory_37 ?_
    refine lv_topi (fun y_1 ey_1 => ?_)
    obtain rfl : y_1 = (nI X) := ey_1.trans (e24)
    refine lv_aload_n hx hb dX12_hasStory_38 rfl (lv_at hl 2 rfl) ?_
    refine va_get (D := (dC, dI)) (ci := 11) (v := .ref (v 26)) (C := RX12) (T := TX12) (N := 52) hx hb hts zl_X12_hasStory_X12 hown hK hP 0 rfl rfl 26 (by decide) (hts (.fieldLink RX12 86 "PageOneModel" "pWide" "[I") (zat q_wsX12_hasStory k_wsX12_hasStory 908 rfl (by decide +kernel))) (fun _ h9 => h9) rfl dX12_hasStory_39 ?_
    refine lv_iload_n hx hb dX12_hasStory_42 rfl (lv_at hl 4 rfl) ?_
    refine va_iald hx hb hK hP 26 0 rfl rfl hkk dX12_hasStory_43 ?_
    refine lv_topi (fun y_2 ey_2 => ?_)
    obtain rfl : y_2 = (nI D) := ey_2.trans (e26)
    refine lv_iadd hx hb dX12_hasStory_44 ?_
    refine lv_icmp_ge (tgt := 108) hx hb dX12_hasStory_45 (by decide) (fun c_3 => ?_) (fun c_3 => ?_)
    ·
      have hie : i = D := by have := lp_eq (nI_add X D) (by omega) (by omega) c_3; omega
      rw [hie] at hg hl
      exact kx _ ls hg (lv_sub hl [0, 1, 2, 3, 4, 5] rfl)
    ·
      have hlt : i < D := by have := lp_lt (nI_add X D) (by omega) (by omega) c_3; omega
      refine lv_iload hx hb dX12_hasStory_48 (lv_at hl 1 rfl) ?_
      refine lv_if_ne (tgt := 95) hx hb dX12_hasStory_50 (by decide) (fun c_4 => ?_) (fun c_4 => ?_)
      ·
        refine lv_iconst (v := 1) hx hb dX12_hasStory_95 (by decide) ?_
        refine lv_goto (tgt := 100) hx hb dX12_hasStory_96 (by decide) ?_
        refine lv_istore (lv' := [(4, .int 1), (5, .int (nI (X + i))), (0, .ref h0), (1, .int p0), (2, .int kk), (3, .int b)]) hx hb dX12_hasStory_100 hl (by decide) rfl (fun ls hl => ?_)
        refine lv_iinc (v := (nI (X + i + 1))) (lv' := [(5, .int (nI (X + i + 1))), (4, .int 1), (0, .ref h0), (1, .int p0), (2, .int kk), (3, .int b)]) hx hb dX12_hasStory_102 hl (k := 1) rfl (nI_1 _) (by decide) rfl (fun ls hl => ?_)
        refine lv_goto (tgt := 30) hx hb dX12_hasStory_105 (by decide) ?_
        exact ih (i + 1) _ ls (by omega) (by omega) (bP_or1 (P := fun j => hsC u p0 kk b (X + j)) hg c_4) (lv_sub hl [0, 1, 2, 3, 4, 5] rfl)
      ·
        refine lv_aload_n hx hb dX12_hasStory_53 rfl (lv_at hl 2 rfl) ?_
        refine lv_aload_n hx hb dX12_hasStory_54 rfl (lv_at hl 2 rfl) ?_
        refine va_get (D := (dC, dI)) (ci := 11) (v := .ref (v 23)) (C := RX12) (T := TX12) (N := 52) hx hb hts zl_X12_hasStory_X12 hown hK hP 0 rfl rfl 23 (by decide) (hts (.fieldLink RX12 77 "PageOneModel" "pPage" "[I") (zat q_wsX12_hasStory k_wsX12_hasStory 905 rfl (by decide +kernel))) (fun _ h9 => h9) rfl dX12_hasStory_55 ?_
        refine lv_iload_n hx hb dX12_hasStory_58 rfl (lv_at hl 4 rfl) ?_
        refine va_iald hx hb hK hP 23 0 rfl rfl hkk dX12_hasStory_59 ?_
        refine lv_iload hx hb dX12_hasStory_60 (lv_at hl 0 rfl) ?_
        refine lv_iload_n hx hb dX12_hasStory_62 rfl (lv_at hl 5 rfl) ?_
        refine vp_callSi (va_runV (As := [.int (u.2 23 (kk : Int32).toNatClampNeg), .int (nI (X + i)), .int b]) (rest := []) ⟨hx, hb, hml, hown, hts⟩ (m_isCell l dC dI h0 v cI cZ u (u.2 23 (kk : Int32).toNatClampNeg) (nI (X + i)) b) (cwV 3 hts gX12_hasStory_X12_isCell rfl rfl rfl zh_X12_isCell_9 ⟨Nat.le_trans (Nat.le_of_ble_eq_true rfl) hRf, Nat.le_trans (Nat.le_of_ble_eq_true rfl) hRl⟩) ⟨pw_fb, va_recv hK hP (ci := 11) (q0 := 0) rfl rfl, fun U hU hW => ⟨rfl, pw_to hU hW hP hK hN⟩⟩ rfl rfl hl.1 rfl (lv_room (Nat.le_of_ble_eq_true rfl)) dX12_hasStory_63 ⟨hRc, hRs⟩).run (fun r hw => ?_)
        rcases Bool.eq_false_or_eq_true (mCell u (u.2 23 (kk : Int32).toNatClampNeg) (nI (X + i)) b) with b_5 | b_5
        ·
          obtain rfl : r = 1 := b_t hw b_5
          refine lv_if_eq (tgt := 99) hx hb dX12_hasStory_66 (by decide) (fun c_6 => absurd c_6 (by decide)) (fun c_6 => ?_)
          refine lv_aload_n hx hb dX12_hasStory_69 rfl (lv_at hl 2 rfl) ?_
          refine va_get (D := (dC, dI)) (ci := 11) (v := .ref (v 2)) (C := RX12) (T := TX12) (N := 52) hx hb hts zl_X12_hasStory_X12 hown hK hP 0 rfl rfl 2 (by decide) (hts (.fieldLink RX12 16 "PageOneModel" "cell" "[I") (zat q_wsX12_hasStory k_wsX12_hasStory 884 rfl (by decide +kernel))) (fun _ h9 => h9) rfl dX12_hasStory_70 ?_
          refine lv_aload_n hx hb dX12_hasStory_73 rfl (lv_at hl 2 rfl) ?_
          refine va_get (D := (dC, dI)) (ci := 11) (v := .ref (v 23)) (C := RX12) (T := TX12) (N := 52) hx hb hts zl_X12_hasStory_X12 hown hK hP 0 rfl rfl 23 (by decide) (hts (.fieldLink RX12 77 "PageOneModel" "pPage" "[I") (zat q_wsX12_hasStory k_wsX12_hasStory 905 rfl (by decide +kernel))) (fun _ h9 => h9) rfl dX12_hasStory_74 ?_
          refine lv_iload_n hx hb dX12_hasStory_77 rfl (lv_at hl 4 rfl) ?_
          refine va_iald hx hb hK hP 23 0 rfl rfl hkk dX12_hasStory_78 ?_
          refine lv_iload hx hb dX12_hasStory_79 (lv_at hl 0 rfl) ?_
          refine lv_iload_n hx hb dX12_hasStory_81 rfl (lv_at hl 5 rfl) ?_
          refine vp_callSi (va_runS (As := [.int (u.2 23 (kk : Int32).toNatClampNeg), .int (nI (X + i)), .int b]) (rest := [.ref (v 2)]) ⟨hx, hb, hml, hown, hts⟩ (m_at l dC dI (u.2 23 (kk : Int32).toNatClampNeg) (nI (X + i)) b) (va_cwS 3 hts gX12_hasStory_X12_at rfl rfl rfl zh_X12_at_7 ⟨Nat.le_trans (Nat.le_of_ble_eq_true rfl) hRf, Nat.le_trans (Nat.le_of_ble_eq_true rfl) hRl⟩) ⟨pw_fb, fun U hU hW => ⟨rfl, pw_to hU hW (hP.sub (ws' := []) [] rfl) (hK.sub (tys' := []) [] rfl) hN⟩⟩ rfl rfl hl.1 rfl (lv_room (Nat.le_of_ble_eq_true rfl)) dX12_hasStory_82 ⟨hRc, hRs⟩).run (fun r hw => ?_)
          obtain rfl : r = (480 * (u.2 23 (kk : Int32).toNatClampNeg) + 60 * (nI (X + i)) + b) := hw
          refine va_iald hx hb hK hP 3 0 rfl rfl (vCell hln b_5) dX12_hasStory_85 ?_
          refine lv_aload_n hx hb dX12_hasStory_86 rfl (lv_at hl 2 rfl) ?_
          refine va_get (D := (dC, dI)) (ci := 11) (v := .ref (v 9)) (C := RX12) (T := TX12) (N := 52) hx hb hts zl_X12_hasStory_X12 hown hK hP 0 rfl rfl 9 (by decide) (hts (.fieldLink RX12 34 "PageOneModel" "of" "[I") (zat q_wsX12_hasStory k_wsX12_hasStory 891 rfl (by decide +kernel))) (fun _ h9 => h9) rfl dX12_hasStory_87 ?_
          refine lv_iload_n hx hb dX12_hasStory_90 rfl (lv_at hl 3 rfl) ?_
          refine va_iald hx hb hK hP 9 0 rfl rfl (vin hi0 (by decide)) dX12_hasStory_91 ?_
          refine lv_icmp_ne (tgt := 99) hx hb dX12_hasStory_92 (by decide) (fun c_7 => ?_) (fun c_7 => ?_)
          ·
            refine lv_iconst (v := 0) hx hb dX12_hasStory_99 (by decide) ?_
            refine lv_istore (lv' := [(4, .int 0), (5, .int (nI (X + i))), (0, .ref h0), (1, .int p0), (2, .int kk), (3, .int b)]) hx hb dX12_hasStory_100 hl (by decide) rfl (fun ls hl => ?_)
            refine lv_iinc (v := (nI (X + i + 1))) (lv' := [(5, .int (nI (X + i + 1))), (4, .int 0), (0, .ref h0), (1, .int p0), (2, .int kk), (3, .int b)]) hx hb dX12_hasStory_102 hl (k := 1) rfl (nI_1 _) (by decide) rfl (fun ls hl => ?_)
            refine lv_goto (tgt := 30) hx hb dX12_hasStory_105 (by decide) ?_
            exact ih (i + 1) _ ls (by omega) (by omega) (bP_or3 (P := fun j => hsC u p0 kk b (X + j)) hg c_4 (fun h => c_7 h.2)) (lv_sub hl [0, 1, 2, 3, 4, 5] rfl)
          ·
            refine lv_iconst (v := 1) hx hb dX12_hasStory_95 (by decide) ?_
            refine lv_goto (tgt := 100) hx hb dX12_hasStory_96 (by decide) ?_
            refine lv_istore (lv' := [(4, .int 1), (5, .int (nI (X + i))), (0, .ref h0), (1, .int p0), (2, .int kk), (3, .int b)]) hx hb dX12_hasStory_100 hl (by decide) rfl (fun ls hl => ?_)
            refine lv_iinc (v := (nI (X + i + 1))) (lv' := [(5, .int (nI (X + i + 1))), (4, .int 1), (0, .ref h0), (1, .int p0), (2, .int kk), (3, .int b)]) hx hb dX12_hasStory_102 hl (k := 1) rfl (nI_1 _) (by decide) rfl (fun ls hl => ?_)
            refine lv_goto (tgt := 30) hx hb dX12_hasStory_105 (by decide) ?_
            exact ih (i + 1) _ ls (by omega) (by omega) (bP_or2 (P := fun j => hsC u p0 kk b (X + j)) ⟨b_5, c_7⟩) (lv_sub hl [0, 1, 2, 3, 4, 5] rfl)
        ·
          obtain rfl : r = 0 := b_f hw b_5
          refine lv_if_eq (tgt := 99) hx hb dX12_hasStory_66 (by decide) (fun c_8 => ?_) (fun c_8 => absurd (by decide) c_8)
          refine lv_iconst (v := 0) hx hb dX12_hasStory_99 (by decide) ?_
          refine lv_istore (lv' := [(4, .int 0), (5, .int (nI (X + i))), (0, .ref h0), (1, .int p0), (2, .int kk), (3, .int b)]) hx hb dX12_hasStory_100 hl (by decide) rfl (fun ls hl => ?_)
          refine lv_iinc (v := (nI (X + i + 1))) (lv' := [(5, .int (nI (X + i + 1))), (4, .int 0), (0, .ref h0), (1, .int p0), (2, .int kk), (3, .int b)]) hx hb dX12_hasStory_102 hl (k := 1) rfl (nI_1 _) (by decide) rfl (fun ls hl => ?_)
          refine lv_goto (tgt := 30) hx hb dX12_hasStory_105 (by decide) ?_
          exact ih (i + 1) _ ls (by omega) (by omega) (bP_or3 (P := fun j => hsC u p0 kk b (X + j)) hg c_4 (fun h => bne b_5 h.1)) (lv_sub hl [0, 1, 2, 3, 4, 5] rfl)
set_option maxHeartbeats 4000000 in
set_option maxRecDepth 100000 in
theorem n_hasStory (l : Launch) (dC : Nat → ClassId) (dI : Nat → Nat → Nat) (h0 : Nat) (v : Nat → Nat) (cI cZ : ClassId) (u : mS) (p0 : Int32) (X D : Nat) (hi : bw p0 0 79 = true) (hXW : X + D ≤ 8) (hln : ∀ j, j < 96 → bw (u.2 0 j) 0 60 = true) (e24 : u.2 24 (6 * p0).toNatClampNeg = nI X) (e26 : u.2 26 (6 * p0).toNatClampNeg = nI D) : Met l yX12_hasStory wsX12_hasStory ({ frames := 3, cells := 0, slots := 0, locals := 65 }) (va_Pc [.ref h0, .int p0] (PW dC dI (mW h0 v cI cZ u) [(cI, .int), (cZ, .boolean)])) (vp_Si (fun r => r = bP (∃ j, j < D ∧ hsC u p0 (6 * p0) (u.2 25 (6 * p0).toNatClampNeg + u.2 27 (6 * p0).toNatClampNeg) (X + j)))) 0 0 (fun _ => False) := by
  refine Met.ofW (cc := cX12_hasStory) (maxL := 6) (ret := (some .boolean)) (by decide) rfl ?_
  intro p e s m args below meth c s₁ B hml hv
  obtain ⟨rfl, hP, hK, hN⟩ := hv
  have hx := B.exec
  have hb := B.bytes
  have hr := B.returns
  have hts := atoms_spec (ws := wsX12_hasStory) B.pre
  have hown : s.vm.findClass RX12 = some m.cls := findClass_of_methodNamed B.named
  have hlocks := B.notSynchronized
  have hl := lv_entry ([.ref h0, .int p0]) (n := 6) (Nat.le_of_ble_eq_true rfl)
  rw [lg_entry_eq]
  generalize (lg_sl ([.ref h0, .int p0]) ++ List.replicate (6 - (lg_sl ([.ref h0, .int p0])).length) Slot.unset).toArray = ls at hl ⊢
  have hl : lv_has ls 6 [(0, .ref h0), (1, .int p0)] := hl
  refine lv_bipush (v := 6) hx hb dX12_hasStory_0 (by decide) ?_
  refine lv_iload_n hx hb dX12_hasStory_2 rfl (lv_at hl 1 rfl) ?_
  refine lv_imul hx hb dX12_hasStory_3 ?_
  refine lv_topi (fun x_1 ex_1 => ?_)
  refine lv_istore_n (lv' := [(2, .int x_1), (0, .ref h0), (1, .int p0)]) hx hb dX12_hasStory_4 rfl hl (by decide) rfl (fun ls hl => ?_)
  refine lv_aload_n hx hb dX12_hasStory_5 rfl (lv_at hl 1 rfl) ?_
  refine va_get (D := (dC, dI)) (ci := 11) (v := .ref (v 25)) (C := RX12) (T := TX12) (N := 52) hx hb hts zl_X12_hasStory_X12 hown hK hP 0 rfl rfl 25 (by decide) (hts (.fieldLink RX12 83 "PageOneModel" "pLine" "[I") (zat q_wsX12_hasStory k_wsX12_hasStory 907 rfl (by decide +kernel))) (fun _ h9 => h9) rfl dX12_hasStory_6 ?_
  refine lv_iload_n hx hb dX12_hasStory_9 rfl (lv_at hl 0 rfl) ?_
  refine va_iald hx hb hK hP 25 0 rfl rfl (v60 hi ex_1) dX12_hasStory_10 ?_
  refine lv_aload_n hx hb dX12_hasStory_11 rfl (lv_at hl 1 rfl) ?_
  refine va_get (D := (dC, dI)) (ci := 11) (v := .ref (v 27)) (C := RX12) (T := TX12) (N := 52) hx hb hts zl_X12_hasStory_X12 hown hK hP 0 rfl rfl 27 (by decide) (hts (.fieldLink RX12 89 "PageOneModel" "pHigh" "[I") (zat q_wsX12_hasStory k_wsX12_hasStory 909 rfl (by decide +kernel))) (fun _ h9 => h9) rfl dX12_hasStory_12 ?_
  refine lv_iload_n hx hb dX12_hasStory_15 rfl (lv_at hl 0 rfl) ?_
  refine va_iald hx hb hK hP 27 0 rfl rfl (v60 hi ex_1) dX12_hasStory_16 ?_
  refine lv_iadd hx hb dX12_hasStory_17 ?_
  refine lv_topi (fun x_2 ex_2 => ?_)
  refine lv_istore_n (lv' := [(3, .int x_2), (2, .int x_1), (0, .ref h0), (1, .int p0)]) hx hb dX12_hasStory_18 rfl hl (by decide) rfl (fun ls hl => ?_)
  refine lv_iconst (v := 0) hx hb dX12_hasStory_19 (by decide) ?_
  refine lv_istore (lv' := [(4, .int 0), (3, .int x_2), (2, .int x_1), (0, .ref h0), (1, .int p0)]) hx hb dX12_hasStory_20 hl (by decide) rfl (fun ls hl => ?_)
  refine lv_aload_n hx hb dX12_hasStory_22 rfl (lv_at hl 3 rfl) ?_
  refine va_get (D := (dC, dI)) (ci := 11) (v := .ref (v 24)) (C := RX12) (T := TX12) (N := 52) hx hb hts zl_X12_hasStory_X12 hown hK hP 0 rfl rfl 24 (by decide) (hts (.fieldLink RX12 80 "PageOneModel" "pColumn" "[I") (zat q_wsX12_hasStory k_wsX12_hasStory 906 rfl (by decide +kernel))) (fun _ h9 => h9) rfl dX12_hasStory_23 ?_
  refine lv_iload_n hx hb dX12_hasStory_26 rfl (lv_at hl 2 rfl) ?_
  refine va_iald hx hb hK hP 24 0 rfl rfl (v60 hi ex_1) dX12_hasStory_27 ?_
  refine lv_topi (fun y_3 ey_3 => ?_)
  obtain rfl : y_3 = (nI X) := ey_3.trans ((by rw [ex_1]; exact e24))
  refine lv_istore (lv' := [(5, .int (nI X)), (4, .int 0), (3, .int x_2), (2, .int x_1), (0, .ref h0), (1, .int p0)]) hx hb dX12_hasStory_28 hl (by decide) rfl (fun ls hl => ?_)
  refine n_hasS_loop (X := X) (D := D) hx hb hml hts hown hN hK (Nat.le_of_ble_eq_true rfl) (Nat.le_of_ble_eq_true rfl) (Nat.le_of_ble_eq_true rfl) (Nat.le_of_ble_eq_true rfl) hP hi (v60 hi ex_1) hXW hln (by rw [ex_1]; exact e24) (by rw [ex_1]; exact e26) (fun a ls hg hl => ?_) (D + 1) 0 0 ls (Nat.zero_le _) (by omega) bP_z (lv_sub hl [0, 1, 4, 5, 3, 2] rfl)
  refine lv_iload hx hb dX12_hasStory_108 (lv_at hl 1 rfl) ?_
  exact W.zret (v := a) hx hb hr (by rw [hg]; rcases bP_01 (∃ j, j < D ∧ hsC u p0 x_1 x_2 (X + j)) with h | h <;> rw [h] <;> decide) (fun t ht hW => ⟨_, rfl, (by rw [hg, ex_2, ex_1]), ht⟩) (fun q h => absurd h List.not_mem_nil) dX12_hasStory_110
/-- the wrongs: the least of all that were found -/
abbrev tr3 : Type := Int32 × Int32 × Int32
def wr3 (u : mS) : tr3 := (u.1 49, u.1 50, u.1 51)
def trN (k a b : Int32) : tr3 := (k, if b < 0 then a else if a ≤ b then a else b, if b < 0 then b else if a ≤ b then b else a)
def le3 (a b : tr3) : Prop := a.1.toInt < b.1.toInt ∨ (a.1.toInt = b.1.toInt ∧ (a.2.1.toInt < b.2.1.toInt ∨ (a.2.1.toInt = b.2.1.toInt ∧ a.2.2.toInt ≤ b.2.2.toInt)))
theorem le3_rf (a : tr3) : le3 a a := by unfold le3; omega
theorem le3_tr {a b c : tr3} (h1 : le3 a b) (h2 : le3 b c) : le3 a c := by unfold le3 at *; omega
theorem le3_an {a b : tr3} (h1 : le3 a b) (h2 : le3 b a) : a = b := by
  unfold le3 at h1 h2
  exact Prod.ext (Int32.toInt_inj.mp (by omega)) (Prod.ext (Int32.toInt_inj.mp (by omega)) (Int32.toInt_inj.mp (by omega)))
def best (S : tr3 → Prop) (w : tr3) : Prop := (w = (0, -1, -1) ∧ ∀ t, ¬ S t) ∨ (¬ w.1 = 0 ∧ S w ∧ ∀ t, S t → le3 w t)
theorem best_u {S : tr3 → Prop} {w w2 : tr3} (h : best S w) (h2 : best S w2) : w = w2 := by
  rcases h with ⟨a1, a2⟩ | ⟨a1, a2, a3⟩
  · rcases h2 with ⟨b1, b2⟩ | ⟨b1, b2, b3⟩
    · rw [a1, b1]
    · exact absurd b2 (a2 _)
  · rcases h2 with ⟨b1, b2⟩ | ⟨b1, b2, b3⟩
    · exact absurd a2 (b2 _)
    · exact le3_an (a3 _ b2) (b3 _ a2)
theorem best_c {S T : tr3 → Prop} {w : tr3} (h : best S w) (e : ∀ t, S t ↔ T t) : best T w := by
  rcases h with ⟨a1, a2⟩ | ⟨a1, a2, a3⟩
  · exact Or.inl ⟨a1, fun t ht => a2 t ((e t).mpr ht)⟩
  · exact Or.inr ⟨a1, (e w).mp a2, fun t ht => a3 t ((e t).mpr ht)⟩
theorem best_new {S : tr3 → Prop} {w t0 : tr3} (h : best S w) (hk : ¬ t0.1 = 0) (hlt : w.1 = 0 ∨ le3 t0 w) : best (fun t => S t ∨ t = t0) t0 := by
  refine Or.inr ⟨hk, Or.inr rfl, fun t ht => ?_⟩
  rcases ht with ht | ht
  · rcases h with ⟨a1, a2⟩ | ⟨a1, a2, a3⟩
    · exact absurd ht (a2 t)
    · rcases hlt with x | x
      · exact absurd x a1
      · exact le3_tr x (a3 t ht)
  · rw [ht]; exact le3_rf _
theorem best_old {S : tr3 → Prop} {w t0 : tr3} (h : best S w) (hw : ¬ w.1 = 0) (hle : le3 w t0) : best (fun t => S t ∨ t = t0) w := by
  rcases h with ⟨a1, a2⟩ | ⟨a1, a2, a3⟩
  · exact absurd (by rw [a1]) hw
  · refine Or.inr ⟨a1, Or.inl a2, fun t ht => ?_⟩
    rcases ht with ht | ht
    · exact a3 t ht
    · rw [ht]; exact hle
theorem i32n {a b : Int32} (h : ¬ a < b) (h2 : ¬ a = b) : b.toInt < a.toInt := by
  rw [i32_lt] at h
  have h3 : ¬ a.toInt = b.toInt := fun e => h2 (Int32.toInt_inj.mp e)
  omega
theorem best_wr {S : tr3 → Prop} {u : mS} {k a b : Int32} (h : best S (wr3 u)) (hk : ¬ k = 0) : best (fun t => S t ∨ t = trN k a b) (wr3 (mWrongs u k a b)) := by
  have hw : ∀ lo ot : Int32, wr3 (mset (mset (mset u 49 k) 50 lo) 51 ot) = (k, lo, ot) := fun lo ot => by
    unfold wr3 mset
    dsimp only
    rw [if_neg (by decide), if_neg (by decide), if_pos rfl, if_neg (by decide), if_pos rfl, if_pos rfl]
  unfold mWrongs
  dsimp only
  generalize hlo : (if b < 0 then a else if a ≤ b then a else b) = lo
  generalize hot : (if b < 0 then b else if a ≤ b then b else a) = ot
  have ht : trN k a b = (k, lo, ot) := by unfold trN; rw [hlo, hot]
  rw [ht]
  by_cases c1 : u.1 49 = 0
  · rw [if_pos c1, hw]; exact best_new h hk (Or.inl c1)
  · rw [if_neg c1]
    have hz : ¬ (wr3 u).1 = 0 := c1
    by_cases c2 : k < u.1 49
    · rw [if_pos c2, hw]; exact best_new h hk (Or.inr (Or.inl (by rw [i32_lt] at c2; exact c2)))
    · rw [if_neg c2]
      by_cases c3 : k = u.1 49
      · rw [if_pos c3]
        by_cases c4 : lo < u.1 50
        · rw [if_pos c4, hw]; exact best_new h hk (Or.inr (Or.inr ⟨by rw [c3]; rfl, Or.inl (by rw [i32_lt] at c4; exact c4)⟩))
        · rw [if_neg c4]
          by_cases c5 : lo = u.1 50
          · rw [if_pos c5]
            by_cases c6 : u.1 51 ≤ ot
            · rw [if_pos c6]; exact best_old h hz (Or.inr ⟨by rw [c3]; rfl, Or.inr ⟨by rw [c5]; rfl, by rw [i32_le] at c6; exact c6⟩⟩)
            · rw [if_neg c6, hw]; exact best_new h hk (Or.inr (Or.inr ⟨by rw [c3]; rfl, Or.inr ⟨by rw [c5]; rfl, by rw [i32_le] at c6; show ot.toInt ≤ (u.1 51).toInt; omega⟩⟩))
          · rw [if_neg c5]; exact best_old h hz (Or.inr ⟨by rw [c3]; rfl, Or.inl (i32n c4 c5)⟩)
      · rw [if_neg c3]; exact best_old h hz (Or.inl (i32n c2 c3))
theorem d_inj {q d u z f} (h : rIs q d u z f) {i j : Nat} (hi : i < (u.1 3).toNatClampNeg) (hj : j < (u.1 3).toNatClampNeg) (e : d (2000 + i) = d (2000 + j)) : i = j := Classical.byContradiction fun n => nO_ne (h.2 i hi).1 (h.2 j hj).1 (by omega) e
theorem nI_inj2 {a b : Nat} (ha : a < 2 ^ 31) (hb : b < 2 ^ 31) (e : nI a = nI b) : a = b := by rw [← nI_clamp ha, ← nI_clamp hb, e]
def hnP (u : mS) (i0 j : Nat) : Prop := u.2 4 j = 5 ∧ u.2 9 j = nI i0
theorem w80i {u : mS} {k : Nat → Int32} (h : bw (k 0) 0 80 = true) (hk : k 0 = u.1 3) : (u.1 3).toNatClampNeg ≤ 80 := by
  rw [hk] at h
  obtain ⟨c1, c2, c3⟩ := nI_of_bw h
  have e : (80 : Int32).toInt = 80 := rfl
  omega
set_option maxHeartbeats 4000000 in
set_option maxRecDepth 100000 in
theorem y_hasNotice_l {p : Program} {l : Launch} {e : Env} {R : Room} {s : State} {m : MethodId} {args : Array Value} {below : List Frame} {meth : Method} {c : Code} {Q : State → Prop} {cells slots : Nat} {dC : Nat → ClassId} {dI : Nat → Nat → Nat} {q : Nat → ClassId} {h0 : Nat} {d : Nat → Nat} {k : Nat → Int32} {z : gS} {f : xF} {H : Heap} {locs : List Loc} (hI : xI q h0 d k z f) (hx : p.tables.exec = Jvm.exec) (hb : c.code = cX11_hasNotice) (hml : c.maxLocals = 5) (hts : ∀ w ∈ wsX11_hasNotice, w.before args s = true) (hown : s.vm.findClass RX11 = some m.cls) (hN : NN s) (hXN : XN s) (hK : va_K (dC, dI) vwCl (xT q) s) (hP : va_P (dC, dI) vwCl (va_pl z.1 f) H) {u : mS} (hrp : rep q d u z f) (hk0 : k 0 = u.1 3) {K : Nat} (hK8 : K ≤ 80) (eK : k 0 = nI K) (eKn : (u.1 3).toNatClampNeg = K) {i0 : Nat} (hi0 : i0 < (u.1 3).toNatClampNeg) (kx48 : ∀ (ls : Array Slot), (∀ j, j < K → ¬ hnP u i0 j) → lv_has ls 5 [(0, .ref h0), (1, .ref (d (2000 + i0)))] → W p l e R s m args below meth c H locs cells slots Q (F0 m 48 ls [])) (kx40 : ∀ (ls : Array Slot), (∃ j, j < (u.1 3).toNatClampNeg ∧ hnP u i0 j) → lv_has ls 5 [(0, .ref h0), (1, .ref (d (2000 + i0)))] → W p l e R s m args below meth c H locs cells slots Q (F0 m 40 ls [])) : ∀ (kk i : Nat) (ls : Array Slot), i ≤ K → K - i < kk → (∀ j, j < i → ¬ hnP u i0 j) → lv_has ls 5 [(2, .int (nI i)), (0, .ref h0), (1, .ref (d (2000 + i0)))] → W p l e R s m args below meth c H locs cells slots Q (F0 m 2 ls []) := by
  intro kk
  induction kk with
  | zero => intro i ls h1 h2; exact absurd h2 (Nat.not_lt_zero _)
  | succ kk ih =>
    intro i ls hi hkk hg hl
    refine lv_iload_n hx hb dX11_hasNotice_2 rfl (lv_at hl 0 rfl) ?_
    refine lv_aload_n hx hb dX11_hasNotice_3 rfl (lv_at hl 1 rfl) ?_
    obtain ⟨kk_1, hk_2⟩ := pl_at hI.2.1.1.1 hI.2.2.2.1.1
    refine va_get (D := (dC, dI)) (ci := 10) (v := .int (k 0)) (C := RX11) (T := TX11) (N := 9) hx hb hts zl_X11_hasNotice_X11 hown hK hP kk_1 hk_2 rfl 3 (by decide) (hts (.fieldLink RX11 24 "PageOne" "itemCount" "I") (zat q_wsX11_hasNotice k_wsX11_hasNotice 115 rfl (by decide +kernel))) (fun _ h9 => h9) rfl dX11_hasNotice_4 ?_
    refine lv_topi (fun y_3 ey_3 => ?_)
    obtain rfl : y_3 = (nI K) := ey_3.trans (eK)
    refine lv_icmp_ge (tgt := 48) hx hb dX11_hasNotice_7 (by decide) (fun c_4 => ?_) (fun c_4 => ?_)
    ·
      have hie : i = K := lp_eq rfl (by omega) hi c_4
      exact kx48 ls (by rw [← hie]; exact hg) (lv_sub hl [1, 2] rfl)
    ·
      have hlt : i < K := lp_lt rfl (by omega) hi c_4
      refine lv_aload_n hx hb dX11_hasNotice_10 rfl (lv_at hl 1 rfl) ?_
      obtain ⟨kk_5, hk_6⟩ := pl_at hI.2.1.1.1 hI.2.2.2.1.1
      refine va_get (D := (dC, dI)) (ci := 10) (v := .ref (d 2)) (C := RX11) (T := TX11) (N := 9) hx hb hts zl_X11_hasNotice_X11 hown hK hP kk_5 hk_6 rfl 2 (by decide) (hts (.fieldLink RX11 20 "PageOne" "items" "[LPageOne$Item;") (zat q_wsX11_hasNotice k_wsX11_hasNotice 114 rfl (by decide +kernel))) (fun _ h9 => h9) rfl dX11_hasNotice_11 ?_
      refine lv_iload_n hx hb dX11_hasNotice_14 rfl (lv_at hl 0 rfl) ?_
      obtain ⟨g_7, hs_8, hn_9, hg_10⟩ := x_itm hI
      obtain ⟨kk_11, hk_12⟩ := pl_at hI.2.1.2.2.2.1.1 hs_8
      refine va_aldq hx hb hK hP kk_11 3 hk_12 rfl (vp_in_nI (by omega) (by decide)) dX11_hasNotice_15 ?_
      obtain ⟨b_13, hg_14⟩ := hn_9 ((nI i) : Int32).toNatClampNeg (by rw [eK, nI_clamp (by omega), nI_clamp (by omega)]; exact hlt)
      have ht_15 := hg_10 ((nI i) : Int32).toNatClampNeg (vlt (vp_in_nI (by omega) (by decide))) b_13 hg_14
      rw [hg_14]
      refine W.eq (g2 := F0 m 16 ls [.ref b_13]) rfl ?_
      have hb_16 := rI_at hrp.2.2.1 hs_8 (by rw [eKn]; exact hlt) (by rw [nI_clamp (by omega)] at hg_14; exact hg_14)
      subst hb_16
      obtain ⟨rs_17, n_18, g_19, fg_20, hit_21, hs_22, hpa_23, hps_24, h1_25, h6_26, hcb_27, hpl_28, hlg_29, hnn_30, hfa_31, hfs_32, hfe_33, hrs_34, hkt_35⟩ := it_all hI hrp.2.2.1 (by rw [eKn]; exact hlt)
      refine lv_astore (lv' := [(4, .ref (d (2000 + i))), (2, .int (nI i)), (0, .ref h0), (1, .ref (d (2000 + i0)))]) hx hb dX11_hasNotice_16 hl (by decide) rfl (fun ls hl => ?_)
      refine lv_aload hx hb dX11_hasNotice_18 (lv_at hl 0 rfl) ?_
      rcases Classical.em (tg z (d (2000 + i)) 12) with ht9 | ht9
      ·
        have ht_36 := ht9
        have hkd_38 : u.2 4 i = 5 := (kT_k (kd_05 hrp.2.2.1 (by rw [eKn]; exact hlt)).1 (kd_05 hrp.2.2.1 (by rw [eKn]; exact hlt)).2).2.2.2.2.2 (hkt_35.symm.trans ht_36.2)
        obtain ⟨o_59, hx_49, hx_50, hx_51⟩ := hrs_34.2.2.2.2.2 hkd_38
        have hs_58 : f (d (2000 + i)) = .inr (4, [.int (nI i), .int (u.2 4 i), .ref (d (3000 + i)), .int (u.2 22 i), .ref (d (4000 + i)), .ref (d (2000 + o_59)), .int (u.2 8 i)]) := by rw [hs_22, ht_36.2, hx_51]; rfl
        have hit_60 := rI_itm hrp.2.2.1 hx_49
        obtain ⟨kk_61, hk_62⟩ := pl_at ht_36.1 hs_58
        refine va_instS hx hb hown (hts (.classLink RX11 119 RX5) (zat q_wsX11_hasNotice k_wsX11_hasNotice 404 rfl (by decide +kernel))) (hK.1 4 (RX5, TX5, 7) rfl).2 (va_recv hK hP (ci := 4) (q0 := kk_61) rfl hk_62) dX11_hasNotice_20 ?_
        refine lv_if_eq (tgt := 42) hx hb dX11_hasNotice_23 (by decide) (fun c_63 => absurd c_63 (by decide)) (fun c_63 => ?_)
        refine lv_aload hx hb dX11_hasNotice_26 (lv_at hl 0 rfl) ?_
        obtain ⟨kk_64, hk_65⟩ := pl_at ht_36.1 hs_58
        refine va_castS hx hb hown (hts (.classLink RX11 119 RX5) (zat q_wsX11_hasNotice k_wsX11_hasNotice 404 rfl (by decide +kernel))) (hK.1 4 (RX5, TX5, 7) rfl).2 (va_recv hK hP (ci := 4) (q0 := kk_64) rfl hk_65) dX11_hasNotice_28 ?_
        refine lv_astore_n (lv' := [(3, .ref (d (2000 + i))), (4, .ref (d (2000 + i))), (2, .int (nI i)), (0, .ref h0), (1, .ref (d (2000 + i0)))]) hx hb dX11_hasNotice_31 rfl hl (by decide) rfl (fun ls hl => ?_)
        refine lv_aload_n hx hb dX11_hasNotice_32 rfl (lv_at hl 0 rfl) ?_
        obtain ⟨kk_66, hk_67⟩ := pl_at ht_36.1 hs_58
        refine va_get (D := (dC, dI)) (ci := 4) (v := .ref (d (2000 + o_59))) (C := RX5) (T := TX5) (N := 7) hx hb hts zl_X11_hasNotice_X5 hown hK hP kk_66 hk_67 rfl 5 (by decide) (hts (.fieldLink RX11 288 "PageOne$Notice" "mended" "LPageOne$Item;") (zat q_wsX11_hasNotice k_wsX11_hasNotice 441 rfl (by decide +kernel))) (fun _ h9 => h9) rfl dX11_hasNotice_33 ?_
        refine lv_aload_n hx hb dX11_hasNotice_36 rfl (lv_at hl 4 rfl) ?_
        refine lv_acmp_ne (rx := some (d (2000 + o_59))) (ry := some (d (2000 + i0))) (tgt := 42) hx hb dX11_hasNotice_37 (by decide) (fun c_68 => ?_) (fun c_68 => ?_)
        ·
          refine lv_iinc (v := (nI (i + 1))) (lv' := [(2, .int (nI (i + 1))), (3, .ref (d (2000 + i))), (4, .ref (d (2000 + i))), (0, .ref h0), (1, .ref (d (2000 + i0)))]) hx hb dX11_hasNotice_42 hl (k := 2) rfl (nI_1 i) (by decide) rfl (fun ls hl => ?_)
          refine lv_goto (tgt := 2) hx hb dX11_hasNotice_45 (by decide) ?_
          exact ih (i + 1) ls (by omega) (by omega) (fun j hj => by rcases Nat.lt_succ_iff_lt_or_eq.mp hj with h9 | h9; exact hg j h9; subst h9; exact fun h8 => c_68 (by rw [nI_inj2 (by have := w80i hI.1.1 hk0; omega) (by have := w80i hI.1.1 hk0; omega) (hx_50.symm.trans h8.2)])) (lv_sub hl [0, 3, 4] rfl)
        ·
          exact kx40 ls ⟨i, by rw [eKn]; exact hlt, hkd_38, by rw [hx_50, d_inj hrp.2.2.1 hx_49 hi0 (Option.some.inj c_68)]⟩ (lv_sub hl [3, 4] rfl)
      ·
        have hn_37 := ht9
        have hkd_38 : ¬ u.2 4 i = 5 := fun e9 => ht9 ⟨hit_21.1, by rw [hkt_35, e9]; rfl⟩
        refine w_then (F0 m 23 ls [.int 0]) (fun hgo => ?_) ?_
        ·
          rcases x_tag hit_21 with ht8 | ht8 | ht8 | ht8 | ht8 | ht8
          ·
            obtain ⟨nu_69, kd_70, cn_71, pa_72, fa_73, l_74, m_75, hs_76, hs_77, hs_78, hs_79⟩ := x_ifl hI ht8
            obtain ⟨kk_80, hk_81⟩ := pl_at ht8.1 hs_76
            exact va_instNo hx hb hown (hts (.classLink RX11 119 RX5) (zat q_wsX11_hasNotice k_wsX11_hasNotice 404 rfl (by decide +kernel))) hXN.n_X2_X5 (va_recv hK hP (ci := 2) (q0 := kk_80) rfl hk_81) dX11_hasNotice_20 hgo
          ·
            obtain ⟨nu_82, kd_83, cn_84, pa_85, fa_86, o_87, w_88, y_89, hs_90, hs_91, hs_92, hs_93, hq_94⟩ := x_ihd hI ht8
            obtain ⟨kk_95, hk_96⟩ := pl_at ht8.1 hs_90
            exact va_instNo hx hb hown (hts (.classLink RX11 119 RX5) (zat q_wsX11_hasNotice k_wsX11_hasNotice 404 rfl (by decide +kernel))) hXN.n_X3_X5 (va_recv hK hP (ci := 3) (q0 := kk_95) rfl hk_96) dX11_hasNotice_20 hgo
          ·
            exact absurd ht8 ht9
          ·
            obtain ⟨nu_97, kd_98, cn_99, pa_100, fa_101, b_102, pr_103, sp_104, dy_105, hs_106, hs_107, hs_108, hs_109, hq_110, hq_111, hq_112⟩ := x_ipd hI ht8
            obtain ⟨kk_113, hk_114⟩ := pl_at ht8.1 hs_106
            exact va_instNo hx hb hown (hts (.classLink RX11 119 RX5) (zat q_wsX11_hasNotice k_wsX11_hasNotice 404 rfl (by decide +kernel))) hXN.n_X6_X5 (va_recv hK hP (ci := 5) (q0 := kk_113) rfl hk_114) dX11_hasNotice_20 hgo
          ·
            obtain ⟨nu_115, kd_116, cn_117, pa_118, fa_119, ww_120, hh_121, sz_122, hs_123, hs_124, hs_125, hs_126, hq_127, hq_128, hq_129⟩ := x_ipi hI ht8
            obtain ⟨kk_130, hk_131⟩ := pl_at ht8.1 hs_123
            exact va_instNo hx hb hown (hts (.classLink RX11 119 RX5) (zat q_wsX11_hasNotice k_wsX11_hasNotice 404 rfl (by decide +kernel))) hXN.n_X7_X5 (va_recv hK hP (ci := 6) (q0 := kk_130) rfl hk_131) dX11_hasNotice_20 hgo
          ·
            obtain ⟨nu_132, kd_133, cn_134, pa_135, fa_136, l_137, co_138, wd_139, nm_140, hs_141, hs_142, hs_143, hs_144, hq_145, hq_146, hq_147⟩ := x_ist hI ht8
            obtain ⟨kk_148, hk_149⟩ := pl_at ht8.1 hs_141
            exact va_instNo hx hb hown (hts (.classLink RX11 119 RX5) (zat q_wsX11_hasNotice k_wsX11_hasNotice 404 rfl (by decide +kernel))) hXN.n_X10_X5 (va_recv hK hP (ci := 9) (q0 := kk_148) rfl hk_149) dX11_hasNotice_20 hgo
        ·
          refine lv_if_eq (tgt := 42) hx hb dX11_hasNotice_23 (by decide) (fun c_150 => ?_) (fun c_150 => absurd (by decide) c_150)
          refine lv_iinc (v := (nI (i + 1))) (lv' := [(2, .int (nI (i + 1))), (4, .ref (d (2000 + i))), (0, .ref h0), (1, .ref (d (2000 + i0)))]) hx hb dX11_hasNotice_42 hl (k := 1) rfl (nI_1 i) (by decide) rfl (fun ls hl => ?_)
          refine lv_goto (tgt := 2) hx hb dX11_hasNotice_45 (by decide) ?_
          exact ih (i + 1) ls (by omega) (by omega) (fun j hj => by rcases Nat.lt_succ_iff_lt_or_eq.mp hj with h9 | h9; exact hg j h9; subst h9; exact fun h8 => hkd_38 h8.1) (lv_sub hl [0, 2, 3] rfl)
set_option maxHeartbeats 4000000 in
set_option maxRecDepth 100000 in
theorem y_hasNotice (l : Launch) (dC : Nat → ClassId) (dI : Nat → Nat → Nat) (q : Nat → ClassId) (h0 : Nat) (d : Nat → Nat) (k : Nat → Int32) (z : gS) (f : xF) (hI : xI q h0 d k z f) (u : mS) (hrp : rep q d u z f) (hk0 : k 0 = u.1 3) (hk1 : k 1 = u.1 28) (hk2 : k 2 = u.1 38) (hk3 : k 3 = u.1 39) (i0 : Nat) (hi0 : i0 < (u.1 3).toNatClampNeg) : Met l yX11_hasNotice wsX11_hasNotice ({ frames := 0, cells := 0, slots := 0, locals := 0 }) (va_Pc [.ref h0, .ref (d (2000 + i0))] (PX dC dI (va_pl z.1 f) (xT q))) (vp_Si (fun r => (r = 0 ∧ ¬ mHasN u (nI i0)) ∨ (r = 1 ∧ mHasN u (nI i0)))) 0 0 (fun _ => False) := by
  refine Met.ofW (cc := cX11_hasNotice) (maxL := 5) (ret := (some .boolean)) (by decide) rfl ?_
  intro p e s m args below meth c s₁ B hml hv
  obtain ⟨rfl, ⟨hP, hK, hN⟩, hXN⟩ := hv
  have hx := B.exec
  have hb := B.bytes
  have hr := B.returns
  have hts := atoms_spec (ws := wsX11_hasNotice) B.pre
  have hown : s.vm.findClass RX11 = some m.cls := findClass_of_methodNamed B.named
  have hlocks := B.notSynchronized
  have hl := lv_entry ([.ref h0, .ref (d (2000 + i0))]) (n := 5) (Nat.le_of_ble_eq_true rfl)
  rw [lg_entry_eq]
  generalize (lg_sl ([.ref h0, .ref (d (2000 + i0))]) ++ List.replicate (5 - (lg_sl ([.ref h0, .ref (d (2000 + i0))])).length) Slot.unset).toArray = ls at hl ⊢
  have hl : lv_has ls 5 [(0, .ref h0), (1, .ref (d (2000 + i0)))] := hl
  refine lv_iconst (v := 0) hx hb dX11_hasNotice_0 (by decide) ?_
  refine lv_istore_n (lv' := [(2, .int 0), (0, .ref h0), (1, .ref (d (2000 + i0)))]) hx hb dX11_hasNotice_1 rfl hl (by decide) rfl (fun ls hl => ?_)
  obtain ⟨K, hK8, -, eK⟩ := exN hI.1.1 (by decide)
  have h80 : (80 : Int32).toInt = 80 := rfl
  have eKn : (u.1 3).toNatClampNeg = K := by rw [← hk0, eK, nI_clamp (by omega)]
  refine y_hasNotice_l (K := K) hI hx hb hml hts hown hN hXN hK hP hrp hk0 (by omega) eK eKn hi0 (fun ls hno hl => ?_) (fun ls hye hl => ?_) (K + 1) 0 ls (Nat.zero_le _) (by omega) (fun j hj => absurd hj (Nat.not_lt_zero _)) (lv_sub hl [0, 1, 2] rfl)
  ·
    refine lv_iconst (v := 0) hx hb dX11_hasNotice_48 (by decide) ?_
    exact W.zret (v := 0) hx hb hr (by decide) (fun t ht hW => ⟨_, rfl, (Or.inl ⟨rfl, fun ⟨j, h1, h2⟩ => hno j (by omega) h2⟩), ht⟩) (fun q h => absurd h List.not_mem_nil) dX11_hasNotice_49
  ·
    refine lv_iconst (v := 1) hx hb dX11_hasNotice_40 (by decide) ?_
    exact W.zret (v := 1) hx hb hr (by decide) (fun t ht hW => ⟨_, rfl, (Or.inr ⟨rfl, hye⟩), ht⟩) (fun q h => absurd h List.not_mem_nil) dX11_hasNotice_41
/-- plate p has no cell of item i -/
def plN (u : mS) (p i : Nat) : Prop := ∀ c l, c < 8 → l < (u.2 43 (8 * p + c)).toNatClampNeg → ¬ u.2 44 (480 * p + (60 * c + l)) = nI i
/-- the first cell of item i on plate p -/
def plF (u : mS) (p i c l : Nat) : Prop := c < 8 ∧ l < (u.2 43 (8 * p + c)).toNatClampNeg ∧ u.2 44 (480 * p + (60 * c + l)) = nI i ∧ ∀ c' l', c' < 8 → l' < (u.2 43 (8 * p + c')).toNatClampNeg → (c' < c ∨ (c' = c ∧ l' < l)) → ¬ u.2 44 (480 * p + (60 * c' + l')) = nI i
/-- what is told of each plate's items is its first cell -/
def plI (u : mS) : Prop := ∀ p, p < 12 → u.2 40 p = 1 → ∀ i, i < 80 → (u.2 45 (80 * p + i) = (-1) ∧ plN u p i) ∨ ∃ c l, u.2 45 (80 * p + i) = nI c ∧ u.2 46 (80 * p + i) = nI l ∧ plF u p i c l
def fiI (u : mS) : Prop := ∀ i, i < 80 → ¬ u.2 47 (5 * i) < (-1)
theorem plF_u {u : mS} {p i c l c2 l2 : Nat} (h : plF u p i c l) (h2 : plF u p i c2 l2) : c = c2 ∧ l = l2 := by
  obtain ⟨a1, a2, a3, a4⟩ := h
  obtain ⟨b1, b2, b3, b4⟩ := h2
  have x1 : ¬ (c2 < c ∨ (c2 = c ∧ l2 < l)) := fun e => a4 c2 l2 b1 b2 e b3
  have x2 : ¬ (c < c2 ∨ (c = c2 ∧ l < l2)) := fun e => b4 c l a1 a2 e a3
  omega
theorem plFN {u : mS} {p i c l : Nat} (h : plF u p i c l) (h2 : plN u p i) : False := h2 c l h.1 h.2.1 h.2.2.1
/-- a sheet's cell as its rows have it -/
theorem shAt_in {gl gc r0 r1 : Nat → Int32} {p c l : Nat} (hp : p < 12) (hl : eqR 8 gl r0 (8 * p)) (hc : eqR 480 gc r1 (480 * p)) (hb : ∀ j, j < 8 → bw (gl j) 0 60 = true) (h8 : c < 8) (hlt : l < (r0 (8 * p + c)).toNatClampNeg) : shAt gl gc (nI c) (nI l) = r1 (480 * p + (60 * c + l)) ∧ l < 60 := by
  have hb1 := hb c h8
  obtain ⟨b1, b2, b3⟩ := nI_of_bw hb1
  have h60 : (60 : Int32).toInt = 60 := rfl
  rw [hl c h8] at b1 b2 b3
  have h6 : l < 60 := by omega
  have b7 : bw (nI c) 0 7 = true := bw7 h8
  have hbl : bw (nI l) 0 (r0 (8 * p + c) - 1) = true := by
    rw [b1]
    exact bw_iff.mpr ⟨by rw [nI_toInt (by omega)]; exact Int.natCast_nonneg _, by
      have e1 : (nI (r0 (8 * p + c)).toNatClampNeg - 1) = nI ((r0 (8 * p + c)).toNatClampNeg - 1) := by
        have := nI_add ((r0 (8 * p + c)).toNatClampNeg - 1) 1
        rw [show (r0 (8 * p + c)).toNatClampNeg - 1 + 1 = (r0 (8 * p + c)).toNatClampNeg from by omega] at this
        rw [← this]
        show nI _ + 1 - 1 = _
        exact Int32.add_sub_cancel _ _
      rw [e1, nI_toInt (by omega), nI_toInt (by omega)]; omega⟩
  have e1 : (nI c * 60 + nI l).toNatClampNeg = 60 * c + l := by rw [show (60 : Int32) = nI 60 from rfl, pk_mul, nI_add, nI_clamp (by omega)]; omega
  unfold shAt
  rw [if_pos b7, nI_clamp (by omega), hl c h8, if_pos hbl, e1]
  exact ⟨hc _ (by omega), h6⟩
theorem sp_pl {gl gc : Nat → Int32} {u : mS} {p i : Nat} {r : Int32} (hp : p < 12) (hl : eqR 8 gl (u.2 43) (8 * p)) (hc : eqR 480 gc (u.2 44) (480 * p)) (hb : ∀ j, j < 8 → bw (gl j) 0 60 = true) (h : shSp gl gc (nI i) r) : (r = -1 ∧ plN u p i) ∨ ∃ c l, l < 60 ∧ r = nI c * 60 + nI l ∧ plF u p i c l := by
  have eg : ∀ c, c < 8 → gl (nI c).toNatClampNeg = u.2 43 (8 * p + c) := fun c h8 => by rw [nI_clamp (by omega)]; exact hl c h8
  rcases h with ⟨e, hn⟩ | ⟨c, l, h8, hlt, e, hv, hn⟩
  · refine Or.inl ⟨e, fun c l h8 hlt hv => hn c l h8 (by rw [eg c h8]; exact hlt) (Or.inl h8) ?_⟩
    rw [(shAt_in hp hl hc hb h8 hlt).1]; exact hv
  · rw [eg c h8] at hlt
    have h1 := shAt_in hp hl hc hb h8 hlt
    refine Or.inr ⟨c, l, h1.2, e, h8, hlt, by rw [← h1.1]; exact hv, fun c' l' h8' hlt' ho hv' => hn c' l' h8' (by rw [eg c' h8']; exact hlt') ho ?_⟩
    rw [(shAt_in hp hl hc hb h8' hlt').1]; exact hv'
/-- spotOf on a plate tells what the reference has of it -/
def spR (u : mS) (i p : Nat) (s : Int32) : Prop := ∃ c l, c < 8 ∧ l < 60 ∧ s = nI (60 * c + l) ∧ u.2 45 (80 * p + i) = nI c ∧ u.2 46 (80 * p + i) = nI l
theorem sp_val {gl gc : Nat → Int32} {u : mS} {p i : Nat} {r : Int32} (hp : p < 12) (hpl : plI u) (h40 : u.2 40 p = 1) (hi : i < 80) (hl : eqR 8 gl (u.2 43) (8 * p)) (hc : eqR 480 gc (u.2 44) (480 * p)) (hb : ∀ j, j < 8 → bw (gl j) 0 60 = true) (h : shSp gl gc (nI i) r) : (r = -1 ∧ u.2 45 (80 * p + i) = (-1)) ∨ (¬ r = -1 ∧ spR u i p r) := by
  rcases sp_pl hp hl hc hb h with ⟨e, hn⟩ | ⟨c, l, l6, e, hf⟩
  · rcases hpl p hp h40 i hi with ⟨a, -⟩ | ⟨c, l, -, -, hf⟩
    · exact Or.inl ⟨e, a⟩
    · exact absurd hn (fun x => plFN hf x)
  · rcases hpl p hp h40 i hi with ⟨-, a⟩ | ⟨c2, l2, e1, e2, hf2⟩
    · exact absurd a (fun x => plFN hf x)
    · obtain ⟨rfl, rfl⟩ := plF_u hf hf2
      have er : r = nI (60 * c + l) := by rw [e, show (60 : Int32) = nI 60 from rfl, pk_mul, nI_add, Nat.mul_comm c 60]
      have h8 := hf.1
      refine Or.inr ⟨fun x => ?_, c, l, h8, l6, er, e1, e2⟩
      have := congrArg Int32.toInt (er.symm.trans x)
      rw [nI_toInt (by omega)] at this
      have h1 : (-1 : Int32).toInt = -1 := rfl
      omega
theorem q60 : ∀ c : Fin 8, ∀ l : Fin 60, nI (60 * c.1 + l.1) / 60 = nI c.1 ∧ nI (60 * c.1 + l.1) - nI (60 * c.1 + l.1) / 60 * 60 = nI l.1 := by decide +kernel
theorem e80 {p i : Nat} (hp : p < 12) (hi : i < 80) : (80 * nI p + nI i).toNatClampNeg = 80 * p + i := by rw [show (80 : Int32) = nI 80 from rfl, pk_mul, nI_add, nI_clamp (by omega)]
theorem prC_f {u : mS} {i p : Nat} (hp : p < 12) (hi : i < 80) (h : ¬ mNow u (nI p) = true ∨ u.2 45 (80 * p + i) = (-1)) : prC u (nI i) p = false := by
  unfold prC
  rcases h with h | h
  · cases hm : mNow u (nI p) with
    | false => rfl
    | true => exact absurd hm h
  · rw [e80 hp hi, h]; cases mNow u (nI p) <;> rfl
theorem prC_t {u : mS} {i p : Nat} {s : Int32} (hp : p < 12) (hi : i < 80) (h : mNow u (nI p) = true) (hs : spR u i p s) : prC u (nI i) p = true := by
  obtain ⟨c, l, c8, -, -, e, -⟩ := hs
  unfold prC
  rw [e80 hp hi, h, e]
  have : ¬ nI c < 0 := fun x => by rw [i32_lt, nI_toInt (by omega), i0] at x; omega
  rw [decide_eq_false this]; rfl
/-- what is told of a plate's cell -/
def mPF (u : mS) (p0 p1 p2 : Int32) : Int32 := if p2 = 0 then u.2 41 p0.toNatClampNeg else if p2 = 1 then u.2 42 p0.toNatClampNeg else if p2 = 2 then p0 else if p2 = 3 then p1 / 60 else if p2 = 4 then p1 - p1 / 60 * 60 else (-1)
theorem mPF_v {u : mS} {i p : Nat} {s w : Int32} (hp : p < 12) (hi : i < 80) (hn : frP u (nI p)) (hs : spR u i p s) (hw : bw w 0 4 = true) : mPF u (nI p) s w = mPrV u (nI i) w (nI p) := by
  obtain ⟨c, l, c8, l6, es, e1, e2⟩ := hs
  have hq := q60 ⟨c, c8⟩ ⟨l, l6⟩
  rw [← es] at hq
  unfold mPF mPrV
  rw [e80 hp hi, e1, e2, hq.2, hq.1, hn.2.1, hn.2.2]
  by_cases w0 : w = 0
  · rw [if_pos w0, if_pos w0]
  · rw [if_neg w0, if_neg w0]
    by_cases w1 : w = 1
    · rw [if_pos w1, if_pos w1]
    · rw [if_neg w1, if_neg w1]
      by_cases w2 : w = 2
      · rw [if_pos w2, if_pos w2]
      · rw [if_neg w2, if_neg w2]
        by_cases w3 : w = 3
        · rw [if_pos w3, if_pos w3]
        · rw [if_neg w3, if_neg w3]
          have w4 : w = 4 := by
            have h1 := bw_iff.mp hw
            have h4 : (4 : Int32).toInt = 4 := rfl
            rw [i0] at h1
            have n0 : w.toInt ≠ 0 := fun e => w0 (sw_in e.symm rfl)
            have n1 : w.toInt ≠ 1 := fun e => w1 (sw_in e.symm rfl)
            have n2 : w.toInt ≠ 2 := fun e => w2 (sw_in e.symm rfl)
            have n3 : w.toInt ≠ 3 := fun e => w3 (sw_in e.symm rfl)
            exact sw_in (k := 4) (by omega) rfl
          rw [if_pos w4]
set_option maxHeartbeats 4000000 in
set_option maxRecDepth 100000 in
theorem y_plateFact (l : Launch) (dC : Nat → ClassId) (dI : Nat → Nat → Nat) (q : Nat → ClassId) (h0 : Nat) (d : Nat → Nat) (k : Nat → Int32) (z : gS) (f : xF) (hI : xI q h0 d k z f) (p0 p1 p2 : Int32) (hpl : xPl q d z f p0) (u : mS) (hrp : rep q d u z f) : Met l yX11_plateFact wsX11_plateFact ({ frames := 0, cells := 0, slots := 0, locals := 0 }) (va_Pc [.ref h0, .int p0, .int p1, .int p2] (PX dC dI (va_pl z.1 f) (xT q))) (vp_Si (fun r => r = mPF u p0 p1 p2)) 0 0 (fun _ => False) := by
  refine Met.ofW (cc := cX11_plateFact) (maxL := 4) (ret := (some .int)) (by decide) rfl ?_
  intro p e s m args below meth c s₁ B hml hv
  obtain ⟨rfl, ⟨hP, hK, hN⟩, hXN⟩ := hv
  have hx := B.exec
  have hb := B.bytes
  have hr := B.returns
  have hts := atoms_spec (ws := wsX11_plateFact) B.pre
  have hown : s.vm.findClass RX11 = some m.cls := findClass_of_methodNamed B.named
  have hlocks := B.notSynchronized
  have hl := lv_entry ([.ref h0, .int p0, .int p1, .int p2]) (n := 4) (Nat.le_of_ble_eq_true rfl)
  rw [lg_entry_eq]
  generalize (lg_sl ([.ref h0, .int p0, .int p1, .int p2]) ++ List.replicate (4 - (lg_sl ([.ref h0, .int p0, .int p1, .int p2])).length) Slot.unset).toArray = ls at hl ⊢
  have hl : lv_has ls 4 [(0, .ref h0), (1, .int p0), (2, .int p1), (3, .int p2)] := hl
  obtain ⟨hbw0, gp0, bp0, hp01, hp02, hp03⟩ := hpl
  refine lv_iload_n hx hb dX11_plateFact_0 rfl (lv_at hl 3 rfl) ?_
  rcases Classical.em (p2 = 0) with s_1 | s_1
  ·
    subst s_1
    refine lv_tableIn (tgt := 36) (off := 35) hx hb dX11_plateFact_1 (by decide) (by decide) (by decide) (by decide) ?_
    refine lv_aload_n hx hb dX11_plateFact_36 rfl (lv_at hl 0 rfl) ?_
    obtain ⟨kk_2, hk_3⟩ := pl_at hI.2.1.1.1 hI.2.2.2.1.1
    refine va_get (D := (dC, dI)) (ci := 10) (v := .ref (d 1)) (C := RX11) (T := TX11) (N := 9) hx hb hts zl_X11_plateFact_X11 hown hK hP kk_2 hk_3 rfl 1 (by decide) (hts (.fieldLink RX11 15 "PageOne" "plates" "[LPageOne$Sheet;") (zat q_wsX11_plateFact k_wsX11_plateFact 113 rfl (by decide +kernel))) (fun _ h9 => h9) rfl dX11_plateFact_37 ?_
    refine lv_iload_n hx hb dX11_plateFact_40 rfl (lv_at hl 1 rfl) ?_
    obtain ⟨kk_4, hk_5⟩ := pl_at hI.2.1.2.2.1.1 hp01
    refine va_aldq hx hb hK hP kk_4 2 hk_5 rfl (vin hbw0 (by decide)) dX11_plateFact_41 ?_
    rw [hp02]
    refine W.eq (g2 := F0 m 42 ls [.ref bp0]) rfl ?_
    obtain ⟨la_6, ca_7, m_8, dd_9, ii_10, hs_11, ht_12, ht_13⟩ := x_sh hI hp03
    obtain ⟨kk_14, hk_15⟩ := pl_at hp03.1 hs_11
    refine va_get (D := (dC, dI)) (ci := 8) (v := .int dd_9) (C := RX9) (T := TX9) (N := 5) hx hb hts zl_X11_plateFact_X9 hown hK hP kk_14 hk_15 rfl 3 (by decide) (hts (.fieldLink RX11 210 "PageOne$Sheet" "day" "I") (zat q_wsX11_plateFact k_wsX11_plateFact 96 rfl (by decide +kernel))) (fun _ h9 => h9) rfl dX11_plateFact_42 ?_
    exact W.iret (v := dd_9) hx hb hr (fun t ht hW => ⟨_, rfl, (by unfold mPF; rw [if_pos rfl]; exact (((rp_pl hrp.2.1 hp01 (clp hbw0)).2 _ hp02).2.2 _ _ _ _ _ hs_11).1), ht⟩) (fun q h => absurd h List.not_mem_nil) dX11_plateFact_45
  ·
    rcases Classical.em (p2 = 1) with s_16 | s_16
    ·
      subst s_16
      refine lv_tableIn (tgt := 46) (off := 45) hx hb dX11_plateFact_1 (by decide) (by decide) (by decide) (by decide) ?_
      refine lv_aload_n hx hb dX11_plateFact_46 rfl (lv_at hl 0 rfl) ?_
      obtain ⟨kk_17, hk_18⟩ := pl_at hI.2.1.1.1 hI.2.2.2.1.1
      refine va_get (D := (dC, dI)) (ci := 10) (v := .ref (d 1)) (C := RX11) (T := TX11) (N := 9) hx hb hts zl_X11_plateFact_X11 hown hK hP kk_17 hk_18 rfl 1 (by decide) (hts (.fieldLink RX11 15 "PageOne" "plates" "[LPageOne$Sheet;") (zat q_wsX11_plateFact k_wsX11_plateFact 113 rfl (by decide +kernel))) (fun _ h9 => h9) rfl dX11_plateFact_47 ?_
      refine lv_iload_n hx hb dX11_plateFact_50 rfl (lv_at hl 1 rfl) ?_
      obtain ⟨kk_19, hk_20⟩ := pl_at hI.2.1.2.2.1.1 hp01
      refine va_aldq hx hb hK hP kk_19 2 hk_20 rfl (vin hbw0 (by decide)) dX11_plateFact_51 ?_
      rw [hp02]
      refine W.eq (g2 := F0 m 52 ls [.ref bp0]) rfl ?_
      obtain ⟨la_21, ca_22, m_23, dd_24, ii_25, hs_26, ht_27, ht_28⟩ := x_sh hI hp03
      obtain ⟨kk_29, hk_30⟩ := pl_at hp03.1 hs_26
      refine va_get (D := (dC, dI)) (ci := 8) (v := .int ii_25) (C := RX9) (T := TX9) (N := 5) hx hb hts zl_X11_plateFact_X9 hown hK hP kk_29 hk_30 rfl 4 (by decide) (hts (.fieldLink RX11 213 "PageOne$Sheet" "edition" "I") (zat q_wsX11_plateFact k_wsX11_plateFact 98 rfl (by decide +kernel))) (fun _ h9 => h9) rfl dX11_plateFact_52 ?_
      exact W.iret (v := ii_25) hx hb hr (fun t ht hW => ⟨_, rfl, (by unfold mPF; rw [if_neg (by decide), if_pos rfl]; exact (((rp_pl hrp.2.1 hp01 (clp hbw0)).2 _ hp02).2.2 _ _ _ _ _ hs_26).2.1), ht⟩) (fun q h => absurd h List.not_mem_nil) dX11_plateFact_55
    ·
      rcases Classical.em (p2 = 2) with s_31 | s_31
      ·
        subst s_31
        refine lv_tableIn (tgt := 56) (off := 55) hx hb dX11_plateFact_1 (by decide) (by decide) (by decide) (by decide) ?_
        refine lv_iload_n hx hb dX11_plateFact_56 rfl (lv_at hl 1 rfl) ?_
        exact W.iret (v := p0) hx hb hr (fun t ht hW => ⟨_, rfl, (by unfold mPF; rw [if_neg (by decide), if_neg (by decide), if_pos rfl]), ht⟩) (fun q h => absurd h List.not_mem_nil) dX11_plateFact_57
      ·
        rcases Classical.em (p2 = 3) with s_32 | s_32
        ·
          subst s_32
          refine lv_tableIn (tgt := 58) (off := 57) hx hb dX11_plateFact_1 (by decide) (by decide) (by decide) (by decide) ?_
          refine lv_iload_n hx hb dX11_plateFact_58 rfl (lv_at hl 2 rfl) ?_
          refine lv_bipush (v := 60) hx hb dX11_plateFact_59 (by decide) ?_
          refine lv_idiv hx hb dX11_plateFact_61 (by decide) ?_
          refine lv_topi (fun zr_33 ezr_33 => ?_)
          exact W.iret (v := zr_33) hx hb hr (fun t ht hW => ⟨_, rfl, (by unfold mPF; rw [if_neg (by decide), if_neg (by decide), if_neg (by decide), if_pos rfl]; exact ezr_33), ht⟩) (fun q h => absurd h List.not_mem_nil) dX11_plateFact_62
        ·
          rcases Classical.em (p2 = 4) with s_34 | s_34
          ·
            subst s_34
            refine lv_tableIn (tgt := 63) (off := 62) hx hb dX11_plateFact_1 (by decide) (by decide) (by decide) (by decide) ?_
            refine lv_iload_n hx hb dX11_plateFact_63 rfl (lv_at hl 2 rfl) ?_
            refine lv_bipush (v := 60) hx hb dX11_plateFact_64 (by decide) ?_
            refine lv_irem hx hb dX11_plateFact_66 (by decide) ?_
            refine lv_topi (fun zr_35 ezr_35 => ?_)
            exact W.iret (v := zr_35) hx hb hr (fun t ht hW => ⟨_, rfl, (by unfold mPF; rw [if_neg (by decide), if_neg (by decide), if_neg (by decide), if_neg (by decide), if_pos rfl]; exact ezr_35), ht⟩) (fun q h => absurd h List.not_mem_nil) dX11_plateFact_67
          ·
            refine lv_tableOut (tgt := 68) hx hb dX11_plateFact_1 (sw_out4 s_1 s_16 s_31 s_32 s_34) (by decide) ?_
            refine lv_iconst (v := (-1)) hx hb dX11_plateFact_68 (by decide) ?_
            exact W.iret (v := (-1)) hx hb hr (fun t ht hW => ⟨_, rfl, (by unfold mPF; rw [if_neg s_1, if_neg s_16, if_neg s_31, if_neg s_32, if_neg s_34]), ht⟩) (fun q h => absurd h List.not_mem_nil) dX11_plateFact_69
set_option maxHeartbeats 4000000 in
set_option maxRecDepth 100000 in
theorem y_first_l {p : Program} {l : Launch} {e : Env} {R : Room} {s : State} {m : MethodId} {args : Array Value} {below : List Frame} {meth : Method} {c : Code} {Q : State → Prop} {cells slots : Nat} {dC : Nat → ClassId} {dI : Nat → Nat → Nat} {q : Nat → ClassId} {h0 : Nat} {d : Nat → Nat} {k : Nat → Int32} {z : gS} {f : xF} {H : Heap} {locs : List Loc} (hI : xI q h0 d k z f) (hx : p.tables.exec = Jvm.exec) (hb : c.code = cX11_firstPrinting) (hml : c.maxLocals = 5) (hts : ∀ w ∈ wsX11_firstPrinting, w.before args s = true) (hown : s.vm.findClass RX11 = some m.cls) (hN : NN s) (hXN : XN s) (hK : va_K (dC, dI) vwCl (xT q) s) (hRf : 4 ≤ R.frames) (hRl : 87 ≤ R.locals) (hRc : cells ≤ R.cells) (hRs : slots ≤ R.slots) (hP : va_P (dC, dI) vwCl (va_pl z.1 f) H) {u : mS} (hrp : rep q d u z f) (hk0 : k 0 = u.1 3) (hk2 : k 2 = u.1 38) (hk3 : k 3 = u.1 39) (hpi : plI u) {i0 : Nat} (hi0 : i0 < (u.1 3).toNatClampNeg) {p0 : Int32} (kx84 : ∀ (ls : Array Slot), (∀ j, j < 12 → prC u (nI i0) j = false) → lv_has ls 5 [(0, .ref h0), (1, .ref (d (2000 + i0))), (2, .int p0)] → W p l e R s m args below meth c H locs cells slots Q (F0 m 84 ls [])) (kx69 : ∀ (i9 : Nat) (s9 : Int32) (ls : Array Slot), xPl q d z f (nI i9) → (i9 < 12 ∧ (∀ j, j < i9 → prC u (nI i0) j = false) ∧ frP u (nI i9) ∧ spR u i0 i9 s9) → lv_has ls 5 [(3, .int (nI i9)), (4, .int s9), (0, .ref h0), (1, .ref (d (2000 + i0))), (2, .int p0)] → W p l e R s m args below meth c H locs cells slots Q (F0 m 69 ls [])) : ∀ (kk i : Nat) (ls : Array Slot), i ≤ 12 → 12 - i < kk → (∀ j, j < i → prC u (nI i0) j = false) → lv_has ls 5 [(3, .int (nI i)), (0, .ref h0), (1, .ref (d (2000 + i0))), (2, .int p0)] → W p l e R s m args below meth c H locs cells slots Q (F0 m 30 ls []) := by
  intro kk
  induction kk with
  | zero => intro i ls h1 h2; exact absurd h2 (Nat.not_lt_zero _)
  | succ kk ih =>
    intro i ls hi hkk hg hl
    obtain ⟨rs_1, n_2, g_3, fg_4, hit_5, hs_6, hpa_7, hps_8, h1_9, h6_10, hcb_11, hpl_12, hlg_13, hnn_14, hfa_15, hfs_16, hfe_17, hrs_18, hkt_19⟩ := it_all hI hrp.2.2.1 hi0
    have hi8 : i0 < 80 := by have := w80i hI.1.1 hk0; omega
    refine lv_iload_n hx hb dX11_firstPrinting_30 rfl (lv_at hl 0 rfl) ?_
    refine lv_bipush (v := 12) hx hb dX11_firstPrinting_31 (by decide) ?_
    refine lv_icmp_ge (tgt := 84) hx hb dX11_firstPrinting_33 (by decide) (fun c_20 => ?_) (fun c_20 => ?_)
    ·
      have hie : i = 12 := lp_eq rfl (by decide) hi c_20
      exact kx84 ls (by rw [← hie]; exact hg) (lv_sub hl [1, 2, 3] rfl)
    ·
      have hlt : i < 12 := lp_lt rfl (by decide) hi c_20
      refine lv_aload_n hx hb dX11_firstPrinting_36 rfl (lv_at hl 1 rfl) ?_
      refine lv_iload_n hx hb dX11_firstPrinting_37 rfl (lv_at hl 0 rfl) ?_
      obtain ⟨kk_21, hk_22⟩ := pl_at hI.2.1.1.1 hI.2.2.2.1.1
      refine vp_callSi (va_runV (As := [.int (nI i)]) (rest := []) ⟨hx, hb, hml, hown, hts⟩ (y_isFresh l dC dI q h0 d k z f hI (nI i) u hrp hk2 hk3) (cwV 1 hts gX11_firstPrinting_X11_isFresh rfl rfl rfl zh_X11_isFresh_46 ⟨Nat.le_trans (Nat.le_of_ble_eq_true rfl) hRf, Nat.le_trans (Nat.le_of_ble_eq_true rfl) hRl⟩) ⟨px_fb, va_recv hK hP (ci := 10) (q0 := kk_21) rfl hk_22, fun U hU hW => ⟨rfl, px_to hU hW hP hK hN hXN⟩⟩ rfl rfl hl.1 rfl (lv_room (Nat.le_of_ble_eq_true rfl)) dX11_firstPrinting_38 ⟨hRc, hRs⟩).run (fun r hw => ?_)
      rcases hw with ⟨hw, hpp_29⟩ | ⟨hw, hpp_29, hbw_28, gp_23, bp_24, hp_25, hp_26, hp_27⟩
      ·
        subst hw
        refine lv_if_eq (tgt := 60) hx hb dX11_firstPrinting_41 (by decide) (fun c_30 => ?_) (fun c_30 => absurd (by decide) c_30)
        refine lv_iconst (v := (-1)) hx hb dX11_firstPrinting_60 (by decide) ?_
        refine lv_istore (lv' := [(4, .int (-1)), (3, .int (nI i)), (0, .ref h0), (1, .ref (d (2000 + i0))), (2, .int p0)]) hx hb dX11_firstPrinting_61 hl (by decide) rfl (fun ls hl => ?_)
        refine lv_iload hx hb dX11_firstPrinting_63 (lv_at hl 0 rfl) ?_
        refine lv_iconst (v := (-1)) hx hb dX11_firstPrinting_65 (by decide) ?_
        refine lv_icmp_eq (tgt := 78) hx hb dX11_firstPrinting_66 (by decide) (fun c_31 => ?_) (fun c_31 => absurd (by decide) c_31)
        refine lv_iinc (v := (nI (i + 1))) (lv' := [(3, .int (nI (i + 1))), (4, .int (-1)), (0, .ref h0), (1, .ref (d (2000 + i0))), (2, .int p0)]) hx hb dX11_firstPrinting_78 hl (k := 1) rfl (nI_1 i) (by decide) rfl (fun ls hl => ?_)
        refine lv_goto (tgt := 30) hx hb dX11_firstPrinting_81 (by decide) ?_
        exact ih (i + 1) ls (by omega) (by omega) (fun j hj => by rcases Nat.lt_succ_iff_lt_or_eq.mp hj with h9 | h9; exact hg j h9; rw [h9]; exact prC_f hlt hi8 (Or.inl (fun h => hpp_29 ((frP_now (bw11 hlt) (rp_01 hrp.2.1 _ (by rw [nI_clamp (by omega)]; exact hlt))).mpr h)))) (lv_sub hl [0, 2, 3, 4] rfl)
      ·
        subst hw
        refine lv_if_eq (tgt := 60) hx hb dX11_firstPrinting_41 (by decide) (fun c_32 => absurd c_32 (by decide)) (fun c_32 => ?_)
        refine lv_aload_n hx hb dX11_firstPrinting_44 rfl (lv_at hl 1 rfl) ?_
        obtain ⟨kk_33, hk_34⟩ := pl_at hI.2.1.1.1 hI.2.2.2.1.1
        refine va_get (D := (dC, dI)) (ci := 10) (v := .ref (d 1)) (C := RX11) (T := TX11) (N := 9) hx hb hts zl_X11_firstPrinting_X11 hown hK hP kk_33 hk_34 rfl 1 (by decide) (hts (.fieldLink RX11 15 "PageOne" "plates" "[LPageOne$Sheet;") (zat q_wsX11_firstPrinting k_wsX11_firstPrinting 113 rfl (by decide +kernel))) (fun _ h9 => h9) rfl dX11_firstPrinting_45 ?_
        refine lv_iload_n hx hb dX11_firstPrinting_48 rfl (lv_at hl 0 rfl) ?_
        obtain ⟨kk_35, hk_36⟩ := pl_at hI.2.1.2.2.1.1 hp_25
        refine va_aldq hx hb hK hP kk_35 2 hk_36 rfl (vin hbw_28 (by decide)) dX11_firstPrinting_49 ?_
        rw [hp_26]
        refine W.eq (g2 := F0 m 50 ls [.ref bp_24]) rfl ?_
        refine lv_aload_n hx hb dX11_firstPrinting_50 rfl (lv_at hl 2 rfl) ?_
        obtain ⟨kk_37, hk_38⟩ := pl_at hit_5.1 hs_6
        refine w_then (F0 m 54 ls [.int (nI i0), .ref bp_24]) (fun hgo => ?_) ?_
        ·
          rcases x_tag hit_5 with ht9 | ht9 | ht9 | ht9 | ht9 | ht9
          ·
            rw [ht9.2] at hk_38
            exact va_get (D := (dC, dI)) (ci := 2) (v := .int (nI i0)) (C := RX2) (T := TX2) (N := 7) hx hb hts zl_X11_firstPrinting_X2 hown hK hP kk_37 hk_38 rfl 0 (by decide) (hts (.fieldLink RX11 285 "PageOne$Item" "number" "I") (zat q_wsX11_firstPrinting k_wsX11_firstPrinting 183 rfl (by decide +kernel))) (fun _ h9 => h9) rfl dX11_firstPrinting_51 hgo
          ·
            rw [ht9.2] at hk_38
            exact va_get (D := (dC, dI)) (ci := 3) (v := .int (nI i0)) (C := RX3) (T := TX3) (N := 8) hx hb hts zl_X11_firstPrinting_X3 hown hK hP kk_37 hk_38 rfl 0 (by decide) (hts (.fieldLink RX11 285 "PageOne$Item" "number" "I") (zat q_wsX11_firstPrinting k_wsX11_firstPrinting 183 rfl (by decide +kernel))) (fun _ h9 => h9) rfl dX11_firstPrinting_51 hgo
          ·
            rw [ht9.2] at hk_38
            exact va_get (D := (dC, dI)) (ci := 4) (v := .int (nI i0)) (C := RX5) (T := TX5) (N := 7) hx hb hts zl_X11_firstPrinting_X5 hown hK hP kk_37 hk_38 rfl 0 (by decide) (hts (.fieldLink RX11 285 "PageOne$Item" "number" "I") (zat q_wsX11_firstPrinting k_wsX11_firstPrinting 183 rfl (by decide +kernel))) (fun _ h9 => h9) rfl dX11_firstPrinting_51 hgo
          ·
            rw [ht9.2] at hk_38
            exact va_get (D := (dC, dI)) (ci := 5) (v := .int (nI i0)) (C := RX6) (T := TX6) (N := 9) hx hb hts zl_X11_firstPrinting_X6 hown hK hP kk_37 hk_38 rfl 0 (by decide) (hts (.fieldLink RX11 285 "PageOne$Item" "number" "I") (zat q_wsX11_firstPrinting k_wsX11_firstPrinting 183 rfl (by decide +kernel))) (fun _ h9 => h9) rfl dX11_firstPrinting_51 hgo
          ·
            rw [ht9.2] at hk_38
            exact va_get (D := (dC, dI)) (ci := 6) (v := .int (nI i0)) (C := RX7) (T := TX7) (N := 8) hx hb hts zl_X11_firstPrinting_X7 hown hK hP kk_37 hk_38 rfl 0 (by decide) (hts (.fieldLink RX11 285 "PageOne$Item" "number" "I") (zat q_wsX11_firstPrinting k_wsX11_firstPrinting 183 rfl (by decide +kernel))) (fun _ h9 => h9) rfl dX11_firstPrinting_51 hgo
          ·
            rw [ht9.2] at hk_38
            exact va_get (D := (dC, dI)) (ci := 9) (v := .int (nI i0)) (C := RX10) (T := TX10) (N := 9) hx hb hts zl_X11_firstPrinting_X10 hown hK hP kk_37 hk_38 rfl 0 (by decide) (hts (.fieldLink RX11 285 "PageOne$Item" "number" "I") (zat q_wsX11_firstPrinting k_wsX11_firstPrinting 183 rfl (by decide +kernel))) (fun _ h9 => h9) rfl dX11_firstPrinting_51 hgo
        ·
          obtain ⟨la_39, ca_40, m_41, dd_42, ii_43, hs_44, ht_45, ht_46⟩ := x_sh hI hp_27
          obtain ⟨g_47, hs_48, hg_49⟩ := x_ln hI ht_45
          obtain ⟨g_50, hs_51⟩ := x_ce hI ht_46
          obtain ⟨kk_52, hk_53⟩ := pl_at hp_27.1 hs_44
          refine vp_callSi (va_runV (As := [.int (nI i0)]) (rest := []) ⟨hx, hb, hml, hown, hts⟩ (y_spotOf l dC dI q h0 d k z f hI bp_24 la_39 ca_40 m_41 dd_42 ii_43 g_47 g_50 hp_27 hs_44 ht_45 ht_46 hs_48 hg_49 hs_51 (nI i0)) (cwV 1 hts gX11_firstPrinting_X9_spotOf rfl rfl rfl zh_X9_spotOf_71 ⟨Nat.le_trans (Nat.le_of_ble_eq_true rfl) hRf, Nat.le_trans (Nat.le_of_ble_eq_true rfl) hRl⟩) ⟨px_fb, va_recv hK hP (ci := 8) (q0 := kk_52) rfl hk_53, fun U hU hW => ⟨rfl, px_to hU hW hP hK hN hXN⟩⟩ rfl rfl hl.1 rfl (lv_room (Nat.le_of_ble_eq_true rfl)) dX11_firstPrinting_54 ⟨hRc, hRs⟩).run (fun r hw => ?_)
          generalize r = zr_54 at hw ⊢
          have hzr_54 := hw
          refine lv_goto (tgt := 61) hx hb dX11_firstPrinting_57 (by decide) ?_
          refine lv_istore (lv' := [(4, .int zr_54), (3, .int (nI i)), (0, .ref h0), (1, .ref (d (2000 + i0))), (2, .int p0)]) hx hb dX11_firstPrinting_61 hl (by decide) rfl (fun ls hl => ?_)
          refine lv_iload hx hb dX11_firstPrinting_63 (lv_at hl 0 rfl) ?_
          refine lv_iconst (v := (-1)) hx hb dX11_firstPrinting_65 (by decide) ?_
          refine lv_icmp_eq (tgt := 78) hx hb dX11_firstPrinting_66 (by decide) (fun c_55 => ?_) (fun c_55 => ?_)
          ·
            refine lv_iinc (v := (nI (i + 1))) (lv' := [(3, .int (nI (i + 1))), (4, .int zr_54), (0, .ref h0), (1, .ref (d (2000 + i0))), (2, .int p0)]) hx hb dX11_firstPrinting_78 hl (k := 1) rfl (nI_1 i) (by decide) rfl (fun ls hl => ?_)
            refine lv_goto (tgt := 30) hx hb dX11_firstPrinting_81 (by decide) ?_
            exact ih (i + 1) ls (by omega) (by omega) (fun j hj => by rcases Nat.lt_succ_iff_lt_or_eq.mp hj with h9 | h9; exact hg j h9; rw [h9]; exact prC_f hlt hi8 (Or.inr (by rcases (by have hq9 := ((rp_pl hrp.2.1 hp_25 (clp hbw_28)).2 _ hp_26).2.2 _ _ _ _ _ hs_44; have h40 := hpp_29.1.2; rw [nI_clamp (by omega)] at hq9 h40; exact sp_val hlt hpi h40 hi8 (hq9.2.2.1 _ hs_48) (hq9.2.2.2 _ hs_51) hg_49 hzr_54 : (zr_54 = -1 ∧ u.2 45 (80 * i + i0) = (-1)) ∨ (¬ zr_54 = -1 ∧ spR u i0 i zr_54)) with h8 | h8; exact h8.2; exact absurd c_55 h8.1))) (lv_sub hl [0, 2, 3, 4] rfl)
          ·
            exact kx69 _ _ ls ⟨hbw_28, gp_23, bp_24, hp_25, hp_26, hp_27⟩ ⟨hlt, hg, hpp_29, by rcases (by have hq9 := ((rp_pl hrp.2.1 hp_25 (clp hbw_28)).2 _ hp_26).2.2 _ _ _ _ _ hs_44; have h40 := hpp_29.1.2; rw [nI_clamp (by omega)] at hq9 h40; exact sp_val hlt hpi h40 hi8 (hq9.2.2.1 _ hs_48) (hq9.2.2.2 _ hs_51) hg_49 hzr_54 : (zr_54 = -1 ∧ u.2 45 (80 * i + i0) = (-1)) ∨ (¬ zr_54 = -1 ∧ spR u i0 i zr_54)) with h8 | h8; exact absurd h8.1 c_55; exact h8.2⟩ (lv_sub hl [1, 0, 2, 3, 4] rfl)
theorem e5 {i : Nat} (hi : i < 80) : (5 * nI i).toNatClampNeg = 5 * i := by rw [show (5 : Int32) = nI 5 from rfl, pk_mul, nI_clamp (by omega)]
theorem e5w {i : Nat} {w : Int32} (hi : i < 80) (hw : bw w 0 4 = true) : (5 * nI i + w).toNatClampNeg = 5 * i + w.toNatClampNeg ∧ w.toNatClampNeg < 5 := by
  obtain ⟨W, hW, -, e⟩ := exN hw (by decide)
  have h4 : (4 : Int32).toInt = 4 := rfl
  subst e
  rw [show (5 : Int32) = nI 5 from rfl, pk_mul, nI_add, nI_clamp (by omega), nI_clamp (by omega)]
  exact ⟨rfl, by omega⟩
theorem fi_n {u : mS} {i : Nat} (h : fiI u) (hi : i < 80) : (u.2 47 (5 * i) = (-1) → u.2 47 (5 * nI i).toNatClampNeg < 0) ∧ (¬ u.2 47 (5 * i) = (-1) → ¬ u.2 47 (5 * nI i).toNatClampNeg < 0) := by
  rw [e5 hi]
  refine ⟨fun e => by rw [e]; decide, fun n x => ?_⟩
  have h1 := h i hi
  rw [i32_lt] at h1 x
  have m1 : (-1 : Int32).toInt = -1 := rfl
  rw [i0] at x
  exact n (Int32.toInt_inj.mp (by omega))
set_option maxHeartbeats 4000000 in
set_option maxRecDepth 100000 in
theorem y_firstPrinting (l : Launch) (dC : Nat → ClassId) (dI : Nat → Nat → Nat) (q : Nat → ClassId) (h0 : Nat) (d : Nat → Nat) (k : Nat → Int32) (z : gS) (f : xF) (hI : xI q h0 d k z f) (p0 : Int32) (u : mS) (hrp : rep q d u z f) (hk0 : k 0 = u.1 3) (hk1 : k 1 = u.1 28) (hk2 : k 2 = u.1 38) (hk3 : k 3 = u.1 39) (hpi : plI u) (hfi : fiI u) (i0 : Nat) (hi0 : i0 < (u.1 3).toNatClampNeg) : Met l yX11_firstPrinting wsX11_firstPrinting ({ frames := 4, cells := 0, slots := 0, locals := 87 }) (va_Pc [.ref h0, .ref (d (2000 + i0)), .int p0] (PX dC dI (va_pl z.1 f) (xT q))) (vp_Si (fun r => mPrR u (nI i0) p0 r)) 0 0 (fun _ => False) := by
  refine Met.ofW (cc := cX11_firstPrinting) (maxL := 5) (ret := (some .int)) (by decide) rfl ?_
  intro p e s m args below meth c s₁ B hml hv
  obtain ⟨rfl, ⟨hP, hK, hN⟩, hXN⟩ := hv
  have hx := B.exec
  have hb := B.bytes
  have hr := B.returns
  have hts := atoms_spec (ws := wsX11_firstPrinting) B.pre
  have hown : s.vm.findClass RX11 = some m.cls := findClass_of_methodNamed B.named
  have hlocks := B.notSynchronized
  have hl := lv_entry ([.ref h0, .ref (d (2000 + i0)), .int p0]) (n := 5) (Nat.le_of_ble_eq_true rfl)
  rw [lg_entry_eq]
  generalize (lg_sl ([.ref h0, .ref (d (2000 + i0)), .int p0]) ++ List.replicate (5 - (lg_sl ([.ref h0, .ref (d (2000 + i0)), .int p0])).length) Slot.unset).toArray = ls at hl ⊢
  have hl : lv_has ls 5 [(0, .ref h0), (1, .ref (d (2000 + i0))), (2, .int p0)] := hl
  obtain ⟨rs_1, n_2, g_3, fg_4, hit_5, hs_6, hpa_7, hps_8, h1_9, h6_10, hcb_11, hpl_12, hlg_13, hnn_14, hfa_15, hfs_16, hfe_17, hrs_18, hkt_19⟩ := it_all hI hrp.2.2.1 hi0
  have hi8 : i0 < 80 := by have := w80i hI.1.1 hk0; omega
  refine lv_iload_n hx hb dX11_firstPrinting_0 rfl (lv_at hl 2 rfl) ?_
  refine lv_iconst (v := 0) hx hb dX11_firstPrinting_1 (by decide) ?_
  refine lv_iconst (v := 4) hx hb dX11_firstPrinting_2 (by decide) ?_
  refine vp_callSi (va_runS (As := [.int p0, .int 0, .int 4]) (rest := []) ⟨hx, hb, hml, hown, hts⟩ (x_isWithin l dC dI p0 0 4) (va_cwS 3 hts gX11_firstPrinting_X11_isWithin rfl rfl rfl zh_X11_isWithin_30 ⟨Nat.le_of_ble_eq_true rfl, Nat.le_of_ble_eq_true rfl⟩) ⟨pw_fb, fun U hU hW => ⟨rfl, pw_to hU hW (hP.sub (ws' := []) [] rfl) (hK.sub (tys' := []) [] rfl) hN⟩⟩ rfl rfl hl.1 rfl (lv_room (Nat.le_of_ble_eq_true rfl)) dX11_firstPrinting_3 ⟨Nat.le_of_ble_eq_true rfl, Nat.le_of_ble_eq_true rfl⟩).run (fun r hw => ?_)
  rcases Bool.eq_false_or_eq_true (bw p0 0 4) with b_20 | b_20
  ·
    obtain rfl : r = 1 := b_t hw b_20
    refine lv_if_ne (tgt := 11) hx hb dX11_firstPrinting_6 (by decide) (fun c_21 => ?_) (fun c_21 => absurd c_21 (by decide))
    refine lv_aload_n hx hb dX11_firstPrinting_11 rfl (lv_at hl 1 rfl) ?_
    obtain ⟨kk_22, hk_23⟩ := pl_at hit_5.1 hs_6
    refine w_then (F0 m 15 ls [.ref (d (4000 + i0))]) (fun hgo => ?_) ?_
    ·
      rcases x_tag hit_5 with ht9 | ht9 | ht9 | ht9 | ht9 | ht9
      ·
        rw [ht9.2] at hk_23
        exact va_get (D := (dC, dI)) (ci := 2) (v := .ref (d (4000 + i0))) (C := RX2) (T := TX2) (N := 7) hx hb hts zl_X11_firstPrinting_X2 hown hK hP kk_22 hk_23 rfl 4 (by decide) (hts (.fieldLink RX11 382 "PageOne$Item" "first" "[I") (zat q_wsX11_firstPrinting k_wsX11_firstPrinting 202 rfl (by decide +kernel))) (fun _ h9 => h9) rfl dX11_firstPrinting_12 hgo
      ·
        rw [ht9.2] at hk_23
        exact va_get (D := (dC, dI)) (ci := 3) (v := .ref (d (4000 + i0))) (C := RX3) (T := TX3) (N := 8) hx hb hts zl_X11_firstPrinting_X3 hown hK hP kk_22 hk_23 rfl 4 (by decide) (hts (.fieldLink RX11 382 "PageOne$Item" "first" "[I") (zat q_wsX11_firstPrinting k_wsX11_firstPrinting 202 rfl (by decide +kernel))) (fun _ h9 => h9) rfl dX11_firstPrinting_12 hgo
      ·
        rw [ht9.2] at hk_23
        exact va_get (D := (dC, dI)) (ci := 4) (v := .ref (d (4000 + i0))) (C := RX5) (T := TX5) (N := 7) hx hb hts zl_X11_firstPrinting_X5 hown hK hP kk_22 hk_23 rfl 4 (by decide) (hts (.fieldLink RX11 382 "PageOne$Item" "first" "[I") (zat q_wsX11_firstPrinting k_wsX11_firstPrinting 202 rfl (by decide +kernel))) (fun _ h9 => h9) rfl dX11_firstPrinting_12 hgo
      ·
        rw [ht9.2] at hk_23
        exact va_get (D := (dC, dI)) (ci := 5) (v := .ref (d (4000 + i0))) (C := RX6) (T := TX6) (N := 9) hx hb hts zl_X11_firstPrinting_X6 hown hK hP kk_22 hk_23 rfl 4 (by decide) (hts (.fieldLink RX11 382 "PageOne$Item" "first" "[I") (zat q_wsX11_firstPrinting k_wsX11_firstPrinting 202 rfl (by decide +kernel))) (fun _ h9 => h9) rfl dX11_firstPrinting_12 hgo
      ·
        rw [ht9.2] at hk_23
        exact va_get (D := (dC, dI)) (ci := 6) (v := .ref (d (4000 + i0))) (C := RX7) (T := TX7) (N := 8) hx hb hts zl_X11_firstPrinting_X7 hown hK hP kk_22 hk_23 rfl 4 (by decide) (hts (.fieldLink RX11 382 "PageOne$Item" "first" "[I") (zat q_wsX11_firstPrinting k_wsX11_firstPrinting 202 rfl (by decide +kernel))) (fun _ h9 => h9) rfl dX11_firstPrinting_12 hgo
      ·
        rw [ht9.2] at hk_23
        exact va_get (D := (dC, dI)) (ci := 9) (v := .ref (d (4000 + i0))) (C := RX10) (T := TX10) (N := 9) hx hb hts zl_X11_firstPrinting_X10 hown hK hP kk_22 hk_23 rfl 4 (by decide) (hts (.fieldLink RX11 382 "PageOne$Item" "first" "[I") (zat q_wsX11_firstPrinting k_wsX11_firstPrinting 202 rfl (by decide +kernel))) (fun _ h9 => h9) rfl dX11_firstPrinting_12 hgo
    ·
      refine lv_iconst (v := 0) hx hb dX11_firstPrinting_15 (by decide) ?_
      obtain ⟨kk_24, hk_25⟩ := pl_at hfa_15.1 hfs_16
      refine va_iald hx hb hK hP kk_24 0 hk_25 rfl (by unfold vp_in; decide) dX11_firstPrinting_16 ?_
      refine lv_iconst (v := (-1)) hx hb dX11_firstPrinting_17 (by decide) ?_
      refine lv_icmp_eq (tgt := 28) hx hb dX11_firstPrinting_18 (by decide) (fun c_26 => ?_) (fun c_26 => ?_)
      ·
        refine lv_iconst (v := 0) hx hb dX11_firstPrinting_28 (by decide) ?_
        refine lv_istore_n (lv' := [(3, .int 0), (0, .ref h0), (1, .ref (d (2000 + i0))), (2, .int p0)]) hx hb dX11_firstPrinting_29 rfl hl (by decide) rfl (fun ls hl => ?_)
        refine y_first_l hI hx hb hml hts hown hN hXN hK (Nat.le_of_ble_eq_true rfl) (Nat.le_of_ble_eq_true rfl) (Nat.le_of_ble_eq_true rfl) (Nat.le_of_ble_eq_true rfl) hP hrp hk0 hk2 hk3 hpi hi0 (fun ls hno hl => ?_) (fun i9 s9 ls hpl hye hl => ?_) 13 0 ls (by decide) (by decide) (fun j hj => absurd hj (Nat.not_lt_zero _)) (lv_sub hl [0, 1, 2, 3] rfl)
        ·
          refine lv_iconst (v := (-1)) hx hb dX11_firstPrinting_84 (by decide) ?_
          exact W.iret (v := (-1)) hx hb hr (fun t ht hW => ⟨_, rfl, (by show mPrR u (nI i0) p0 _; unfold mPrR; rw [if_pos (bw_it (by rw [← hk0]; exact hI.1.1) hi0).1, if_pos b_20, if_pos ((fi_n hfi hi8).1 ((hfe_17 0 (by decide)).symm.trans c_26))]; exact Or.inr ⟨hno, rfl⟩), ht⟩) (fun q h => absurd h List.not_mem_nil) dX11_firstPrinting_85
        ·
          obtain ⟨hbw0, gp0, bp0, hp01, hp02, hp03⟩ := hpl
          refine lv_aload_n hx hb dX11_firstPrinting_69 rfl (lv_at hl 2 rfl) ?_
          refine lv_iload_n hx hb dX11_firstPrinting_70 rfl (lv_at hl 0 rfl) ?_
          refine lv_iload hx hb dX11_firstPrinting_71 (lv_at hl 1 rfl) ?_
          refine lv_iload_n hx hb dX11_firstPrinting_73 rfl (lv_at hl 4 rfl) ?_
          obtain ⟨kk_27, hk_28⟩ := pl_at hI.2.1.1.1 hI.2.2.2.1.1
          refine vp_callSi (va_runV (As := [.int (nI i9), .int s9, .int p0]) (rest := []) ⟨hx, hb, hml, hown, hts⟩ (y_plateFact l dC dI q h0 d k z f hI (nI i9) s9 p0 ⟨hbw0, gp0, bp0, hp01, hp02, hp03⟩ u hrp) (cwV 3 hts gX11_firstPrinting_X11_plateFact rfl rfl rfl zh_X11_plateFact_64 ⟨Nat.le_of_ble_eq_true rfl, Nat.le_of_ble_eq_true rfl⟩) ⟨px_fb, va_recv hK hP (ci := 10) (q0 := kk_27) rfl hk_28, fun U hU hW => ⟨rfl, px_to hU hW hP hK hN hXN⟩⟩ rfl rfl hl.1 rfl (lv_room (Nat.le_of_ble_eq_true rfl)) dX11_firstPrinting_74 ⟨Nat.le_of_ble_eq_true rfl, Nat.le_of_ble_eq_true rfl⟩).run (fun r hw => ?_)
          generalize r = zr_29 at hw ⊢
          have hzr_29 := hw
          exact W.iret (v := zr_29) hx hb hr (fun t ht hW => ⟨_, rfl, (by show mPrR u (nI i0) p0 _; unfold mPrR; rw [if_pos (bw_it (by rw [← hk0]; exact hI.1.1) hi0).1, if_pos b_20, if_pos ((fi_n hfi hi8).1 ((hfe_17 0 (by decide)).symm.trans c_26))]; exact Or.inl ⟨i9, hye.1, prC_t hye.1 hi8 ((frP_now (bw11 hye.1) (rp_01 hrp.2.1 _ (by rw [nI_clamp (by omega)]; exact hye.1))).mp hye.2.2.1) hye.2.2.2, hye.2.1, hzr_29.trans (mPF_v hye.1 hi8 hye.2.2.1 hye.2.2.2 b_20)⟩), ht⟩) (fun q h => absurd h List.not_mem_nil) dX11_firstPrinting_77
      ·
        refine lv_aload_n hx hb dX11_firstPrinting_21 rfl (lv_at hl 1 rfl) ?_
        obtain ⟨kk_30, hk_31⟩ := pl_at hit_5.1 hs_6
        refine w_then (F0 m 25 ls [.ref (d (4000 + i0))]) (fun hgo => ?_) ?_
        ·
          rcases x_tag hit_5 with ht9 | ht9 | ht9 | ht9 | ht9 | ht9
          ·
            rw [ht9.2] at hk_31
            exact va_get (D := (dC, dI)) (ci := 2) (v := .ref (d (4000 + i0))) (C := RX2) (T := TX2) (N := 7) hx hb hts zl_X11_firstPrinting_X2 hown hK hP kk_30 hk_31 rfl 4 (by decide) (hts (.fieldLink RX11 382 "PageOne$Item" "first" "[I") (zat q_wsX11_firstPrinting k_wsX11_firstPrinting 202 rfl (by decide +kernel))) (fun _ h9 => h9) rfl dX11_firstPrinting_22 hgo
          ·
            rw [ht9.2] at hk_31
            exact va_get (D := (dC, dI)) (ci := 3) (v := .ref (d (4000 + i0))) (C := RX3) (T := TX3) (N := 8) hx hb hts zl_X11_firstPrinting_X3 hown hK hP kk_30 hk_31 rfl 4 (by decide) (hts (.fieldLink RX11 382 "PageOne$Item" "first" "[I") (zat q_wsX11_firstPrinting k_wsX11_firstPrinting 202 rfl (by decide +kernel))) (fun _ h9 => h9) rfl dX11_firstPrinting_22 hgo
          ·
            rw [ht9.2] at hk_31
            exact va_get (D := (dC, dI)) (ci := 4) (v := .ref (d (4000 + i0))) (C := RX5) (T := TX5) (N := 7) hx hb hts zl_X11_firstPrinting_X5 hown hK hP kk_30 hk_31 rfl 4 (by decide) (hts (.fieldLink RX11 382 "PageOne$Item" "first" "[I") (zat q_wsX11_firstPrinting k_wsX11_firstPrinting 202 rfl (by decide +kernel))) (fun _ h9 => h9) rfl dX11_firstPrinting_22 hgo
          ·
            rw [ht9.2] at hk_31
            exact va_get (D := (dC, dI)) (ci := 5) (v := .ref (d (4000 + i0))) (C := RX6) (T := TX6) (N := 9) hx hb hts zl_X11_firstPrinting_X6 hown hK hP kk_30 hk_31 rfl 4 (by decide) (hts (.fieldLink RX11 382 "PageOne$Item" "first" "[I") (zat q_wsX11_firstPrinting k_wsX11_firstPrinting 202 rfl (by decide +kernel))) (fun _ h9 => h9) rfl dX11_firstPrinting_22 hgo
          ·
            rw [ht9.2] at hk_31
            exact va_get (D := (dC, dI)) (ci := 6) (v := .ref (d (4000 + i0))) (C := RX7) (T := TX7) (N := 8) hx hb hts zl_X11_firstPrinting_X7 hown hK hP kk_30 hk_31 rfl 4 (by decide) (hts (.fieldLink RX11 382 "PageOne$Item" "first" "[I") (zat q_wsX11_firstPrinting k_wsX11_firstPrinting 202 rfl (by decide +kernel))) (fun _ h9 => h9) rfl dX11_firstPrinting_22 hgo
          ·
            rw [ht9.2] at hk_31
            exact va_get (D := (dC, dI)) (ci := 9) (v := .ref (d (4000 + i0))) (C := RX10) (T := TX10) (N := 9) hx hb hts zl_X11_firstPrinting_X10 hown hK hP kk_30 hk_31 rfl 4 (by decide) (hts (.fieldLink RX11 382 "PageOne$Item" "first" "[I") (zat q_wsX11_firstPrinting k_wsX11_firstPrinting 202 rfl (by decide +kernel))) (fun _ h9 => h9) rfl dX11_firstPrinting_22 hgo
        ·
          refine lv_iload_n hx hb dX11_firstPrinting_25 rfl (lv_at hl 2 rfl) ?_
          obtain ⟨kk_32, hk_33⟩ := pl_at hfa_15.1 hfs_16
          refine va_iald hx hb hK hP kk_32 0 hk_33 rfl (vin b_20 (by decide)) dX11_firstPrinting_26 ?_
          exact W.iret (v := (fg_4 (p0 : Int32).toNatClampNeg)) hx hb hr (fun t ht hW => ⟨_, rfl, (by show mPrR u (nI i0) p0 _; unfold mPrR; rw [if_pos (bw_it (by rw [← hk0]; exact hI.1.1) hi0).1, if_pos b_20, if_neg ((fi_n hfi hi8).2 (fun e9 => c_26 ((hfe_17 0 (by decide)).trans e9)))]; rw [(e5w hi8 b_20).1]; exact hfe_17 _ (e5w hi8 b_20).2), ht⟩) (fun q h => absurd h List.not_mem_nil) dX11_firstPrinting_27
  ·
    obtain rfl : r = 0 := b_f hw b_20
    refine lv_if_ne (tgt := 11) hx hb dX11_firstPrinting_6 (by decide) (fun c_34 => absurd (by decide) c_34) (fun c_34 => ?_)
    refine lv_iconst (v := (-1)) hx hb dX11_firstPrinting_9 (by decide) ?_
    exact W.iret (v := (-1)) hx hb hr (fun t ht hW => ⟨_, rfl, (by show mPrR u (nI i0) p0 _; unfold mPrR; rw [if_pos (bw_it (by rw [← hk0]; exact hI.1.1) hi0).1, if_neg (bne b_20)]), ht⟩) (fun q h => absurd h List.not_mem_nil) dX11_firstPrinting_10
set_option maxHeartbeats 4000000 in
set_option maxRecDepth 100000 in
theorem y_printed (l : Launch) (dC : Nat → ClassId) (dI : Nat → Nat → Nat) (q : Nat → ClassId) (h0 : Nat) (d : Nat → Nat) (k : Nat → Int32) (z : gS) (f : xF) (hI : xI q h0 d k z f) (p0 p1 : Int32) (u : mS) (hrp : rep q d u z f) (hk0 : k 0 = u.1 3) (hk1 : k 1 = u.1 28) (hk2 : k 2 = u.1 38) (hk3 : k 3 = u.1 39) (hpi : plI u) (hfi : fiI u) : Met l yX11_printed wsX11_printed ({ frames := 5, cells := 0, slots := 0, locals := 111 }) (va_Pc [.ref h0, .int p0, .int p1] (PX dC dI (va_pl z.1 f) (xT q))) (vp_Si (fun r => r = mPr u p0 p1)) 0 0 (fun _ => False) := by
  refine Met.ofW (cc := cX11_printed) (maxL := 4) (ret := (some .int)) (by decide) rfl ?_
  intro p e s m args below meth c s₁ B hml hv
  obtain ⟨rfl, ⟨hP, hK, hN⟩, hXN⟩ := hv
  have hx := B.exec
  have hb := B.bytes
  have hr := B.returns
  have hts := atoms_spec (ws := wsX11_printed) B.pre
  have hown : s.vm.findClass RX11 = some m.cls := findClass_of_methodNamed B.named
  have hlocks := B.notSynchronized
  have hl := lv_entry ([.ref h0, .int p0, .int p1]) (n := 4) (Nat.le_of_ble_eq_true rfl)
  rw [lg_entry_eq]
  generalize (lg_sl ([.ref h0, .int p0, .int p1]) ++ List.replicate (4 - (lg_sl ([.ref h0, .int p0, .int p1])).length) Slot.unset).toArray = ls at hl ⊢
  have hl : lv_has ls 4 [(0, .ref h0), (1, .int p0), (2, .int p1)] := hl
  refine lv_aload_n hx hb dX11_printed_0 rfl (lv_at hl 0 rfl) ?_
  refine lv_iload_n hx hb dX11_printed_1 rfl (lv_at hl 1 rfl) ?_
  obtain ⟨kk_1, hk_2⟩ := pl_at hI.2.1.1.1 hI.2.2.2.1.1
  refine va_csq (va_runV (As := [.int p0]) (rest := []) ⟨hx, hb, hml, hown, hts⟩ (y_itemOf l dC dI q h0 d k z f hI p0 u hrp hk0 hk1 hk2 hk3) (cwV 1 hts gX11_printed_X11_itemOf rfl rfl rfl zh_X11_itemOf_49 ⟨Nat.le_of_ble_eq_true rfl, Nat.le_of_ble_eq_true rfl⟩) ⟨px_fb, va_recv hK hP (ci := 10) (q0 := kk_1) rfl hk_2, fun U hU hW => ⟨rfl, px_to hU hW hP hK hN hXN⟩⟩ rfl rfl hl.1 rfl (lv_room (Nat.le_of_ble_eq_true rfl)) dX11_printed_2 ⟨Nat.le_of_ble_eq_true rfl, Nat.le_of_ble_eq_true rfl⟩).run (fun r hw => ?_)
  rcases hw with ⟨hr9, hn9⟩ | ⟨i_3, hi_4, ep_5, hr9⟩
  ·
    subst hr9
    have hno_25 := hn9
    refine W.eq (g2 := F0 m 5 ls [.null]) rfl ?_
    refine lv_astore_nN (lv' := [(3, .null), (0, .ref h0), (1, .int p0), (2, .int p1)]) hx hb dX11_printed_5 rfl hl (by decide) rfl (fun ls hl => ?_)
    refine lv_aload_nN hx hb dX11_printed_6 rfl (lv_at hl 0 rfl) ?_
    refine lv_ifnonnullN hx hb dX11_printed_7 ?_
    refine lv_iconst (v := (-1)) hx hb dX11_printed_10 (by decide) ?_
    refine lv_goto (tgt := 20) hx hb dX11_printed_11 (by decide) ?_
    exact W.iret (v := (-1)) hx hb hr (fun t ht hW => ⟨_, rfl, (mPr_eq (by unfold mPrR; rw [if_neg hno_25])), ht⟩) (fun q h => absurd h List.not_mem_nil) dX11_printed_20
  ·
    subst hr9
    obtain ⟨rs_6, n_7, g_8, fg_9, hit_10, hs_11, hpa_12, hps_13, h1_14, h6_15, hcb_16, hpl_17, hlg_18, hnn_19, hfa_20, hfs_21, hfe_22, hrs_23, hkt_24⟩ := it_all hI hrp.2.2.1 hi_4
    refine W.eq (g2 := F0 m 5 ls [.ref (d (2000 + i_3))]) rfl ?_
    refine lv_astore_n (lv' := [(3, .ref (d (2000 + i_3))), (0, .ref h0), (1, .int p0), (2, .int p1)]) hx hb dX11_printed_5 rfl hl (by decide) rfl (fun ls hl => ?_)
    refine lv_aload_n hx hb dX11_printed_6 rfl (lv_at hl 0 rfl) ?_
    refine lv_ifnonnull (tgt := 14) hx hb dX11_printed_7 (by decide) ?_
    refine lv_aload_n hx hb dX11_printed_14 rfl (lv_at hl 1 rfl) ?_
    refine lv_aload_n hx hb dX11_printed_15 rfl (lv_at hl 0 rfl) ?_
    refine lv_iload_n hx hb dX11_printed_16 rfl (lv_at hl 3 rfl) ?_
    obtain ⟨kk_26, hk_27⟩ := pl_at hI.2.1.1.1 hI.2.2.2.1.1
    refine vp_callSi (va_runV (As := [.ref (d (2000 + i_3)), .int p1]) (rest := []) ⟨hx, hb, hml, hown, hts⟩ (y_firstPrinting l dC dI q h0 d k z f hI p1 u hrp hk0 hk1 hk2 hk3 hpi hfi i_3 hi_4) (cwV 2 hts gX11_printed_X11_firstPrinting rfl rfl rfl zh_X11_firstPrinting_73 ⟨Nat.le_of_ble_eq_true rfl, Nat.le_of_ble_eq_true rfl⟩) ⟨px_fb, va_recv hK hP (ci := 10) (q0 := kk_26) rfl hk_27, fun U hU hW => ⟨rfl, px_to hU hW hP hK hN hXN⟩⟩ rfl rfl hl.1 rfl (lv_room (Nat.le_of_ble_eq_true rfl)) dX11_printed_17 ⟨Nat.le_of_ble_eq_true rfl, Nat.le_of_ble_eq_true rfl⟩).run (fun r hw => ?_)
    generalize r = zr_28 at hw ⊢
    have hzr_28 := hw
    exact W.iret (v := zr_28) hx hb hr (fun t ht hW => ⟨_, rfl, (mPr_eq (by rw [ep_5]; exact hzr_28)), ht⟩) (fun q h => absurd h List.not_mem_nil) dX11_printed_20
/-- a new cell: its tag, its owner, what lies there -/
def nC (z : gS) (f : xF) (a t o : Nat) (e : va_E) : Prop := tg z a t ∧ (z.2 a).2.1 = o ∧ f a = e
theorem nC_new {z : gS} {f : xF} {a t o : Nat} {l : List Value} {e : va_E} : nC (pz z a (t, o, l)) (va_up f a e) a t o e := ⟨pz_t z a _, by rw [pz_s], up_s⟩
theorem nC_push {z : gS} {f : xF} {b t o : Nat} {e : va_E} {a : Nat} {x : Nat × Nat × List Value} {e2 : va_E} (h : nC z f b t o e) (ha : a ∉ z.1) : nC (pz z a x) (va_up f a e2) b t o e := by
  have hne : b ≠ a := fun e => ha (by rw [← e]; exact h.1.1)
  exact ⟨zE_tg (pz_E ha x) h.1, by rw [pz_o hne]; exact h.2.1, by rw [up_o hne]; exact h.2.2⟩
theorem nC_up {z : gS} {f : xF} {b t o : Nat} {e : va_E} {a s : Nat} {e2 : va_E} (h : nC z f b t o e) (ha : tg z a s) (hs : t ≠ s) : nC z (va_up f a e2) b t o e := ⟨h.1, h.2.1, by rw [up_o (tg_ne h.1 ha hs)]; exact h.2.2⟩
/-- what lay there lies there still -/
def oK (z : gS) (f f2 : xF) : Prop := ∀ b, b ∈ z.1 → f2 b = f b
theorem oK_push {z z1 : gS} {f f1 : xF} {a : Nat} {e : va_E} (h : oK z f f1) (hE : zE z z1) (ha : a ∉ z1.1) : oK z f (va_up f1 a e) := fun b hb => by
  rw [up_o (fun e => ha (by rw [← e]; exact (hE b hb).1))]; exact h b hb
theorem oK_fK {d : Nat → Nat} {z : gS} {f f2 : xF} (h : oK z f f2) (X : Nat → Prop) : fK d z f f2 X := ⟨fun _ _ hn _ => h _ hn.1.1, fun _ hj _ => h _ hj.1.1⟩
theorem sI_rf (u : mS) (j : Nat) : sI u u j := ⟨fun _ _ _ _ _ _ _ _ => rfl, fun _ _ _ _ _ => rfl, fun _ _ => rfl, fun _ _ => rfl, fun _ _ => ⟨rfl, rfl⟩, fun _ _ => rfl, fun _ _ => rfl⟩
theorem rep_grow {q d u z z2 f f2} (h : rep q d u z f) (hE : zE z z2) (ho : oK z f f2) : rep q d u z2 f2 := by
  obtain ⟨h1g, h1l, ⟨⟨g, a1, a2⟩, a3⟩, h1v, n0, n1, n2, n3, n4⟩ := h
  have hf : fK d z f f2 (fun _ => False) := oK_fK ho _
  exact ⟨rPg_fr h1g hE (fun _ _ => rfl) hf (fun _ _ _ _ _ _ h => h) n0 rfl rfl rfl, rPl_fr h1l hE rfl (fun _ _ _ => rfl) hf (fun h => h) (fun _ _ _ h => h) n1 (fun _ _ _ => rfl), ⟨⟨g, by rw [ho _ n2.1.1]; exact a1, a2⟩, fun j hj => rIt_fr (a3 j hj) hE ⟨rfl, rfl, rfl, rfl, rfl⟩ hf ⟨fun h => h, fun h => h, fun h => h, fun h => h, fun h => h⟩ (sI_rf u j) (Nat.le_refl _) (fun _ _ => ⟨rfl, rfl⟩)⟩, rRv_fr h1v rfl (ho _ n4.1.1) rfl, nO_E hE n0, nO_E hE n1, nO_E hE n2, nO_E hE n3, nO_E hE n4⟩
theorem fK_h0 {d : Nat → Nat} {z : gS} {f f1 : xF} {X : Nat → Prop} {h0 : Nat} {e : va_E} (h : fK d z f f1 X) (n0 : nO d z 0 2) (ht : tg z h0 1) (hz0 : (z.2 h0).2.1 = 0) : fK d z f (va_up f1 h0 e) X := by
  refine ⟨fun x t hn hX => ?_, fun j hj hX => ?_⟩
  · have hne : d x ≠ h0 := fun e => by
      have e1 := hn.2.1
      rw [e, hz0] at e1
      subst e1
      have e2 := n0.1.2
      rw [e, ht.2] at e2
      exact absurd e2 (by decide)
    rw [up_o hne]; exact h.1 x t hn hX
  · rw [up_o (tg_ne hj.1 ht (by decide))]; exact h.2 j hj hX
theorem xI_d {q h0 d d2 k z f} (h : ∀ x, x < 5 → d2 x = d x) (hI : xI q h0 d k z f) : xI q h0 d2 k z f := by
  unfold xI dkS r1 dkF at hI ⊢
  rw [h 0 (by decide), h 1 (by decide), h 2 (by decide), h 3 (by decide), h 4 (by decide)]
  exact hI
/-- the book with item n's entries -/
def dN (d : Nat → Nat) (n a2 a3 a4 a5 a6 : Nat) : Nat → Nat := fun x => if x = 2000 + n then a2 else if x = 3000 + n then a3 else if x = 4000 + n then a4 else if x = 5000 + n then a5 else if x = 6000 + n then a6 else d x
theorem dN_no {d : Nat → Nat} {n a2 a3 a4 a5 a6 x : Nat} (h : x ≠ 2000 + n ∧ x ≠ 3000 + n ∧ x ≠ 4000 + n ∧ x ≠ 5000 + n ∧ x ≠ 6000 + n) : dN d n a2 a3 a4 a5 a6 x = d x := by
  unfold dN
  rw [if_neg h.1, if_neg h.2.1, if_neg h.2.2.1, if_neg h.2.2.2.1, if_neg h.2.2.2.2]
theorem dN_lo {d : Nat → Nat} {n a2 a3 a4 a5 a6 x : Nat} (h : x < 2000) : dN d n a2 a3 a4 a5 a6 x = d x := dN_no (by omega)
theorem dN_o {d : Nat → Nat} {n a2 a3 a4 a5 a6 j : Nat} (hj : j < n) (hn : n < 1000) : bI (fun x => dN d n a2 a3 a4 a5 a6 x = d x) j := ⟨dN_no (by omega), dN_no (by omega), dN_no (by omega), dN_no (by omega), dN_no (by omega)⟩
theorem dN_at {d : Nat → Nat} {n a2 a3 a4 a5 a6 : Nat} (hn : n < 1000) : dN d n a2 a3 a4 a5 a6 (2000 + n) = a2 ∧ dN d n a2 a3 a4 a5 a6 (3000 + n) = a3 ∧ dN d n a2 a3 a4 a5 a6 (4000 + n) = a4 ∧ dN d n a2 a3 a4 a5 a6 (5000 + n) = a5 ∧ dN d n a2 a3 a4 a5 a6 (6000 + n) = a6 := by
  unfold dN
  refine ⟨if_pos rfl, ?_, ?_, ?_, ?_⟩
  · rw [if_neg (by omega), if_pos rfl]
  · rw [if_neg (by omega), if_neg (by omega), if_pos rfl]
  · rw [if_neg (by omega), if_neg (by omega), if_neg (by omega), if_pos rfl]
  · rw [if_neg (by omega), if_neg (by omega), if_neg (by omega), if_neg (by omega), if_pos rfl]
/-- w is u with an item more -/
def mkS (u w : mS) (n : Nat) : Prop := (∀ j, w.1 j = if j = 3 then u.1 3 + 1 else u.1 j) ∧ (∀ r j, j ≠ n → (4 ≤ r ∧ r ≤ 15 ∨ r = 17 ∨ r = 22) → w.2 r j = u.2 r j) ∧ ∀ r, r < 4 ∨ (15 < r ∧ r ≠ 17 ∧ r ≠ 22) → w.2 r = u.2 r
theorem mst_ne {u : mS} {r0 r j : Nat} {i x : Int32} (h : j ≠ i.toNatClampNeg) : (mst u r0 i x).2 r j = u.2 r j := by
  by_cases e : r = r0
  · subst e; rw [mst_at, if_neg h]
  · rw [mst_other e]
theorem mkS_made (u : mS) (k : Int32) : mkS u (mMade u k) (u.1 3).toNatClampNeg := by
  refine ⟨fun j => made_1 u k j, fun r j hj _ => ?_, fun r hr => made_k u k (by omega)⟩
  unfold mMade
  show (mst _ 22 _ _).2 r j = _
  rw [mst_ne hj, mst_ne hj, mst_ne hj, mst_ne hj, mst_ne hj, mst_ne hj, mst_ne hj, mst_ne hj, mst_ne hj, mst_ne hj]
theorem mkS_mst {u w : mS} {n : Nat} {i : Int32} (h : mkS u w n) (hi : i.toNatClampNeg = n) {r0 : Nat} (h0 : 4 ≤ r0 ∧ r0 ≤ 15) (x : Int32) : mkS u (mst w r0 i x) n := ⟨h.1, fun r j hj hr => by rw [mst_ne (by rw [hi]; exact hj)]; exact h.2.1 r j hj hr, fun r hr => by rw [mst_other (by omega)]; exact h.2.2 r hr⟩
theorem mkS_sI {u w : mS} {n j : Nat} (h : mkS u w n) (hj : j < n) : sI u w j := ⟨fun r r1 r2 r3 r4 r5 r6 r7 => h.2.1 r j (by omega) (by omega), fun r r1 r2 t _ => by rw [h.2.2 r (by omega)], fun t _ => by rw [h.2.2 47 (by omega)], fun t _ => by rw [h.2.2 16 (by omega)], fun t _ => by rw [h.2.2 18 (by omega), h.2.2 19 (by omega)]; exact ⟨rfl, rfl⟩, fun t _ => by rw [h.2.2 21 (by omega)], fun t _ => by rw [h.2.2 48 (by omega)]⟩
theorem rIt_mk {q d2 w z2 f3} {n a2 a3 a4 : Nat} {rs : List Value} (hn9 : n < 1000) (e2 : d2 (2000 + n) = a2) (e3 : d2 (3000 + n) = a3) (e4 : d2 (4000 + n) = a4) {kd : Int32} (hk : w.2 4 n = kd) (hkr : 0 ≤ kd ∧ kd ≤ 5) {ci : Nat} (h2 : nC z2 f3 a2 (kT kd) (2000 + n) (.inr (ci, itF (nI n) kd a3 0 a4 rs))) (hci : ci = ciT (kT kd)) (h3 : nC z2 f3 a3 16 a2 (aR (q 5) (if kd = 0 then 6 else 1) (fun _ => none))) (h4 : nC z2 f3 a4 17 (4000 + n) (aI (q 0) 5 (fun _ => (-1)))) (h22 : w.2 22 n = 0) (h47 : ∀ t, t < 5 → w.2 47 (5 * n + t) = (-1)) (hrs : rRs q d2 w z2 f3 n rs) : rIt q d2 w z2 f3 n := by
  refine ⟨by unfold nO; rw [e2, hk]; exact ⟨h2.1, h2.2.1, fun e => by have := kT_r kd; omega⟩, ⟨by rw [e3]; exact h3.1, hn9⟩, by unfold nO; rw [e4]; exact ⟨h4.1, h4.2.1, by decide⟩, by rw [hk]; exact hkr, rs, fun _ => none, fun _ => (-1), ?_, ?_, ?_, ?_, ?_, hrs⟩
  · rw [e2, e3, e4, h2.2.2, hk, h22, h2.1.2, hci]
  · rw [e3, h3.2.2, hk]
  · intro t ht
    rw [h22, show (0 : Int32).toNatClampNeg = 0 from rfl] at ht
    exact absurd ht (Nat.not_lt_zero t)
  · rw [e4, h4.2.2]
  · intro t ht
    exact (h47 t ht).symm
/-- what enter does -/
def enP (q : Nat → ClassId) (h0 : Nat) (d : Nat → Nat) (k : Nat → Int32) (r : Int32) (k3 : Nat → Int32) (c0 : Nat) (f2 f3 : xF) (nu : Int32) : Prop := (80 ≤ k 0 ∧ r = (-1) ∧ k3 = k ∧ f3 = f2) ∨ (¬ 80 ≤ k 0 ∧ r = nu ∧ k3 = kup k 0 (k 0 + 1) ∧ ∃ g, f2 (d 2) = aR (q 3) 80 g ∧ f3 = va_up (va_up f2 (d 2) (aR (q 3) 80 (va_up g (k 0).toNatClampNeg (some c0)))) h0 (.inr (10, dkF d k3)))
/-- what a maker leaves -/
def mkP (q : Nat → ClassId) (h0 : Nat) (d : Nat → Nat) (k : Nat → Int32) (z : gS) (f : xF) (u : mS) (R9 : Int32 × mS) (r : Int32) (w : xU) : Prop := ∃ d2 : Nat → Nat, (∀ x, x < 2000 → d2 x = d x) ∧ (∀ j, j < (u.1 3).toNatClampNeg → bI (fun x => d2 x = d x) j) ∧ zE z w.2.1 ∧ xI q h0 d2 w.1 w.2.1 w.2.2 ∧ r = R9.1 ∧ rep q d2 R9.2 w.2.1 w.2.2 ∧ w.1 0 = R9.2.1 3 ∧ (∀ j, j ≠ 0 → w.1 j = k j) ∧ w.2.2 (d 3) = f (d 3)
theorem mkP_0 {q h0 d k z f u R9} (hI : xI q h0 d k z f) (hrp : rep q d u z f) (hk0 : k 0 = u.1 3) (hR : R9 = ((-1 : Int32), u)) : mkP q h0 d k z f u R9 (-1) (k, z, f) := by
  subst hR
  exact ⟨d, fun _ _ => rfl, fun _ _ => ⟨rfl, rfl, rfl, rfl, rfl⟩, zE_rf z, hI, rfl, hrp, hk0, fun _ _ => rfl, rfl⟩
theorem n80k {k : Nat → Int32} (h : bw (k 0) 0 80 = true) : (80 ≤ k 0 → k 0 = 80) ∧ (¬ 80 ≤ k 0 → ¬ k 0 = 80 ∧ (k 0).toNatClampNeg < 80 ∧ k 0 = nI (k 0).toNatClampNeg ∧ (k 0 + 1).toNatClampNeg = (k 0).toNatClampNeg + 1) := by
  have h1 := bw_iff.mp h
  have e80 : (80 : Int32).toInt = 80 := rfl
  rw [i0] at h1
  refine ⟨fun x => ?_, fun x => ?_⟩
  · rw [i32_le] at x; exact Int32.toInt_inj.mp (by omega)
  · obtain ⟨c1, c2, c3⟩ := nI_of_bw h
    have hl : (k 0).toNatClampNeg < 80 := by
      rw [i32_le] at x; omega
    refine ⟨fun e => x (by rw [e]; decide), hl, c1, ?_⟩
    rw [c1, show (1 : Int32) = nI 1 from rfl, nI_add, nI_clamp (by omega), nI_clamp (by omega)]
/-- a maker: a new item or, where 80 are there, none -/
theorem mk_gen {q h0 d k z f u z2 f2 f3 k3} {r : Int32} {n a2 a3 a4 a5 a6 : Nat} {W : mS} {kd : Int32} {rs : List Value} {ci : Nat} (hI : xI q h0 d k z f) (hrp : rep q d u z f) (hk0 : k 0 = u.1 3) (hz0 : (z.2 h0).2.1 = 0) (hI3 : xI q h0 d k3 z2 f3) (hE : zE z z2) (ho : oK z f f2) (hen : enP q h0 d k r k3 a2 f2 f3 (k 0)) (hn : n = (u.1 3).toNatClampNeg) (hS : mkS u W n) (hk : W.2 4 n = kd) (hkr : 0 ≤ kd ∧ kd ≤ 5) (h22 : W.2 22 n = 0) (h47 : n < 80 → ∀ t, t < 5 → u.2 47 (5 * n + t) = (-1)) (c2 : nC z2 f2 a2 (kT kd) (2000 + n) (.inr (ci, itF (k 0) kd a3 0 a4 rs))) (hci : ci = ciT (kT kd)) (c3 : nC z2 f2 a3 16 a2 (aR (q 5) (if kd = 0 then 6 else 1) (fun _ => none))) (c4 : nC z2 f2 a4 17 (4000 + n) (aI (q 0) 5 (fun _ => (-1)))) (hrs : ∀ f9, (∀ b t o e, nC z2 f2 b t o e → t ≠ 1 → t ≠ 4 → nC z2 f9 b t o e) → n < 80 → rRs q (dN d n a2 a3 a4 a5 a6) W z2 f9 n rs) {R9 : Int32 × mS} (hR0 : u.1 3 = 80 → R9 = ((-1 : Int32), u)) (hR1 : ¬ u.1 3 = 80 → R9 = (u.1 3, W)) : mkP q h0 d k z f u R9 r (k3, z2, f3) := by
  have nd : ∀ x t, nO d z x t → oK z f f2 → f2 (d x) = f (d x) := fun x t h ho => ho _ h.1.1
  have tgz : tg z2 h0 1 := zE_tg hE hI.2.1.1
  obtain ⟨-, -, -, -, n0, n1, n2, n3, n4⟩ := id hrp
  have h8 := n80k hI.1.1
  rw [hk0] at h8
  rcases hen with ⟨b8, rfl, rfl, rfl⟩ | ⟨b8, rfl, rfl, g, hg, rfl⟩
  · rw [hk0] at b8
    rw [hR0 (h8.1 b8)]
    exact ⟨d, fun _ _ => rfl, fun _ _ => ⟨rfl, rfl, rfl, rfl, rfl⟩, hE, hI3, rfl, rep_grow hrp hE ho, hk0, fun _ _ => rfl, ho _ n3.1.1⟩
  · rw [hk0] at b8
    obtain ⟨m1, m2, m3, m4⟩ := h8.2 b8
    rw [← hn] at m2 m3 m4
    rw [hR1 m1]
    have eN := dN_at (d := d) (n := n) (a2 := a2) (a3 := a3) (a4 := a4) (a5 := a5) (a6 := a6) (by omega)
    generalize hf3 : va_up (va_up f2 (d 2) (aR (q 3) 80 (va_up g (k 0).toNatClampNeg (some a2)))) h0 (.inr (10, dkF d (kup k 0 (k 0 + 1)))) = f3 at *
    have hup : ∀ b t o e, nC z2 f2 b t o e → t ≠ 1 → t ≠ 4 → nC z2 f3 b t o e := fun b t o e h t1 t4 => by
      rw [← hf3]; exact nC_up (nC_up h (zE_tg hE n2.1) t4) tgz t1
    have hfK : fK d z f f3 (fun x => x = 2) := by
      rw [← hf3]; exact fK_h0 (fK_up (oK_fK ho _) n2 (by decide) rfl) n0 hI.2.1.1 hz0
    have hkt := kT_r kd
    have h20 : d 2 ≠ h0 := tg_ne n2.1 hI.2.1.1 (by decide)
    have h30 : d 3 ≠ h0 := tg_ne n3.1 hI.2.1.1 (by decide)
    refine ⟨dN d n a2 a3 a4 a5 a6, fun x hx => dN_lo hx, fun j hj => dN_o (by omega) (by omega), hE, xI_d (fun x hx => dN_lo (by omega)) hI3, hk0, ?_, ?_, fun j hj => kup_o hj, ?_⟩
    · refine rep_new (g := g) hrp hE (fun x hx => dN_lo hx) (fun o h => dN_o (by omega) (by omega)) hfK (by rw [← ho _ n2.1.1]; exact hg) ?_ ?_ (fun j hj => mkS_sI hS (by omega)) (fun r hr => hS.2.2 r (by omega)) ?_
      · show f3 (d 2) = _
        rw [← hf3, up_o h20, up_s, ← hn, eN.1, hk0, ← hn]; rfl
      · rw [hS.1 3, if_pos rfl, m4, ← hn]
      · rw [← hn]
        refine rIt_mk (by omega) eN.1 eN.2.1 eN.2.2.1 hk hkr ?_ hci (hup _ _ _ _ c3 (by decide) (by decide)) (hup _ _ _ _ c4 (by decide) (by decide)) h22 (fun t ht => by rw [hS.2.2 47 (by omega)]; exact h47 m2 t ht) (hrs f3 hup m2)
        have c2' := hup _ _ _ _ c2 (by omega) (by omega)
        rw [hk0, m3] at c2'
        exact c2'
    · show kup k 0 (k 0 + 1) 0 = W.1 3
      rw [kup_s, hS.1 3, if_pos rfl, hk0]
    · show f3 (d 3) = f (d 3)
      rw [← hf3, up_o h30, up_o (nO_ne n3 n2 (by decide)), ho _ n3.1.1]
theorem x_pushIo {q h0 d k z f} {o : Nat} (h : xI q h0 d k z f) {a : Nat} (ha : a ∉ z.1) {t : Nat} (ht : 10 ≤ t ∧ t ≤ 15) {nu kd : Int32} {pa fa n : Nat} {rest : List Value} (hpa : tg z pa 16) (ho : (z.2 pa).2.1 = a) (hfa : tg z fa 17) (hp : f pa = aR (q 5) n (fun _ => none)) (hn : 1 ≤ n ∧ n ≤ 6) (hr : rsT (pz z a (t, o, [])) t rest) : xI q h0 d k (pz z a (t, o, [])) (va_up f a (.inr (ciT t, itF nu kd pa 0 fa rest))) := by
  obtain ⟨h1, h2, h3, ⟨g1, gi, g2i, g3⟩, h5⟩ := h
  have hE := pz_E ha (t, o, [])
  have hne : ∀ {b : Nat}, b ∈ z.1 → b ≠ a := fun hb e => ha (by rw [← e]; exact hb)
  have hs : (pz z a (t, o, [])).2 a = (t, o, []) := pz_s _ _ _
  refine ⟨h1, ⟨zE_tg hE h2.1, zE_tg hE h2.2.1, zE_tg hE h2.2.2.1, zE_tg hE h2.2.2.2.1, zE_tg hE h2.2.2.2.2.1, zE_tg hE h2.2.2.2.2.2⟩, fun b hb => ?_, ⟨by rw [up_o (hne h2.1.1)]; exact g1, gi, by rw [up_o (hne h2.2.2.2.1.1)]; exact g2i, g3⟩, ?_⟩
  · rcases List.mem_append.mp hb with hb | hb
    · rw [up_o (hne hb)]; exact cO_mono hE hb (h3 b hb)
    · have e1 : b = a := by simpa using hb
      rw [e1, up_s]
      refine cO_I ⟨pz_m _ _ _, by rw [hs]; exact ht⟩ ⟨nu, kd, 0, pa, fa, rest, by rw [hs], zE_tg hE hpa, by rw [zE_o hE hpa.1]; exact ho, zE_tg hE hfa, by rw [hs]; exact hr⟩
  · intro b hb mu md mn ma mf ms hf
    by_cases hba : b = a
    · subst hba
      rw [up_s, hs] at hf
      obtain ⟨o1, o2, o3, o4, o5, o6⟩ := itF_inj hf
      subst o3 o4
      exact ⟨n, _, by rw [up_o (hne hpa.1)]; exact hp, hn.1, hn.2, bwN (n := 0) (by rw [nI_toInt (by omega)]; omega) (by omega), fun j hj => absurd hj (Nat.not_lt_zero _)⟩
    · have hbz : b ∈ z.1 := by
        rcases List.mem_append.mp hb.1 with y | y
        · exact y
        · exact absurd (by simpa using y) hba
      rw [up_o hba, pz_o hba] at hf
      have hbi : itm z b := ⟨hbz, by have := hb.2; rw [pz_o hba] at this; exact this⟩
      obtain ⟨n5, g5, r1, r2⟩ := h5 b hbi mu md mn ma mf ms hf
      obtain ⟨nu2, kd2, cn2, pa2, fa2, rest2, e1, e2, -⟩ := (h3 b hbz).2.2.2.2.2.2.2.2.1 hbi.2.1 hbi.2.2
      obtain ⟨-, -, e3, -⟩ := itF_inj (hf.symm.trans e1)
      rw [← e3] at e2
      exact ⟨n5, g5, by rw [up_o (hne e2.1)]; exact r1, r2⟩
theorem ge_not {a b : Int32} (h : ¬ a < b) : b ≤ a := by rw [i32_lt] at h; rw [i32_le]; omega
theorem lt_not {a b : Int32} (h : a < b) : ¬ b ≤ a := by rw [i32_lt] at h; rw [i32_le]; omega
set_option maxHeartbeats 4000000 in
set_option maxRecDepth 100000 in
theorem y_enter (l : Launch) (dC : Nat → ClassId) (dI : Nat → Nat → Nat) (q : Nat → ClassId) (h0 : Nat) (d : Nat → Nat) (k : Nat → Int32) (z : gS) (f : xF) (hI : xI q h0 d k z f) (c0 : Nat) (hc0 : itm z c0) (nu kd cn : Int32) (pa fa : Nat) (rs : List Value) (hs : f c0 = .inr (ciT (z.2 c0).1, itF nu kd pa cn fa rs)) (sz : Nat) : Met l yX11_enter wsX11_enter ({ frames := 0, cells := 0, slots := 0, locals := 0 }) (va_Pc [.ref h0, .ref c0] (fun U => U.heap.size = sz ∧ PX dC dI (va_pl z.1 f) (xT q) U ∧ va_D (fun _ => True) (va_pl z.1 f))) (va_Qi (fun (r : Int32) (w : xU) => w.2.1 = z ∧ xI q h0 d w.1 z w.2.2 ∧ enP q h0 d k r w.1 c0 f w.2.2 nu) (fun (w : xU) t => va_P (dC, dI) vwCl (va_pl w.2.1.1 w.2.2) t.heap ∧ va_D (va_A (va_pl z.1 f) sz) (va_pl w.2.1.1 w.2.2)) (va_A (va_pl z.1 f) sz)) 0 0 (va_A (va_pl z.1 f) sz) := by
  refine Met.ofW (cc := cX11_enter) (maxL := 2) (ret := (some .int)) (by decide) rfl ?_
  intro p e s m args below meth c s₁ B hml hv
  obtain ⟨rfl, hsz, ⟨⟨hP, hK, hN⟩, hXN⟩, hD0⟩ := hv
  have hx := B.exec
  have hb := B.bytes
  have hr := B.returns
  have hts := atoms_spec (ws := wsX11_enter) B.pre
  have hown : s.vm.findClass RX11 = some m.cls := findClass_of_methodNamed B.named
  have hlocks := B.notSynchronized
  subst hsz
  have hD := hD0.self (sz := s.heap.size)
  generalize hAe : va_A (va_pl z.1 f) s.heap.size = A at hD ⊢
  have hA : ∀ q : Nat, s.heap.size ≤ q → A q := fun q h => by rw [← hAe]; exact Or.inr h
  have hS : va_S A s.heap s.heap [] := va_S.rf
  have hl := lv_entry ([.ref h0, .ref c0]) (n := 2) (Nat.le_of_ble_eq_true rfl)
  rw [lg_entry_eq]
  generalize (lg_sl ([.ref h0, .ref c0]) ++ List.replicate (2 - (lg_sl ([.ref h0, .ref c0])).length) Slot.unset).toArray = ls at hl ⊢
  have hl : lv_has ls 2 [(0, .ref h0), (1, .ref c0)] := hl
  refine lv_aload_n hx hb dX11_enter_0 rfl (lv_at hl 0 rfl) ?_
  obtain ⟨kk_1, hk_2⟩ := pl_at hI.2.1.1.1 hI.2.2.2.1.1
  refine va_get (D := (dC, dI)) (ci := 10) (v := .int (k 0)) (C := RX11) (T := TX11) (N := 9) hx hb hts zl_X11_enter_X11 hown hK hP kk_1 hk_2 rfl 3 (by decide) (hts (.fieldLink RX11 24 "PageOne" "itemCount" "I") (zat q_wsX11_enter k_wsX11_enter 115 rfl (by decide +kernel))) (fun _ h9 => h9) rfl dX11_enter_1 ?_
  refine lv_bipush (v := 80) hx hb dX11_enter_4 (by decide) ?_
  refine lv_icmp_lt (tgt := 11) hx hb dX11_enter_6 (by decide) (fun c_3 => ?_) (fun c_3 => ?_)
  ·
    refine lv_aload_n hx hb dX11_enter_11 rfl (lv_at hl 0 rfl) ?_
    obtain ⟨kk_4, hk_5⟩ := pl_at hI.2.1.1.1 hI.2.2.2.1.1
    refine va_get (D := (dC, dI)) (ci := 10) (v := .ref (d 2)) (C := RX11) (T := TX11) (N := 9) hx hb hts zl_X11_enter_X11 hown hK hP kk_4 hk_5 rfl 2 (by decide) (hts (.fieldLink RX11 20 "PageOne" "items" "[LPageOne$Item;") (zat q_wsX11_enter k_wsX11_enter 114 rfl (by decide +kernel))) (fun _ h9 => h9) rfl dX11_enter_12 ?_
    refine lv_aload_n hx hb dX11_enter_15 rfl (lv_at hl 0 rfl) ?_
    obtain ⟨kk_6, hk_7⟩ := pl_at hI.2.1.1.1 hI.2.2.2.1.1
    refine va_get (D := (dC, dI)) (ci := 10) (v := .int (k 0)) (C := RX11) (T := TX11) (N := 9) hx hb hts zl_X11_enter_X11 hown hK hP kk_6 hk_7 rfl 3 (by decide) (hts (.fieldLink RX11 24 "PageOne" "itemCount" "I") (zat q_wsX11_enter k_wsX11_enter 115 rfl (by decide +kernel))) (fun _ h9 => h9) rfl dX11_enter_16 ?_
    refine lv_aload_n hx hb dX11_enter_19 rfl (lv_at hl 1 rfl) ?_
    obtain ⟨g_8, hs_9, hn_10, hg_11⟩ := x_itm hI
    obtain ⟨kk_12, hk_13⟩ := pl_at hI.2.1.2.2.2.1.1 hs_9
    obtain ⟨kk_14, hk_15⟩ := pl_at hc0.1 hs
    have hD0 := hD
    refine w_cut (X := fun R cells slots Q args => ∀ (H : Heap) (locs : List Loc), va_P (dC, dI) vwCl ((va_pl z.1 f).set kk_12 ((d 2), aR (q 3) 80 (va_up g_8 ((k 0) : Int32).toNatClampNeg (some c0)))) H → va_D A ((va_pl z.1 f).set kk_12 ((d 2), aR (q 3) 80 (va_up g_8 ((k 0) : Int32).toNatClampNeg (some c0)))) → va_S A s.heap H locs → W p l e R s m args below meth c H locs cells slots Q (F0 m 21 ls [])) ?_ (fun kC => ?_)
    ·
      intro H locs hP hD hS
      rw [pl_set hD0 hI.2.1.2.2.2.1.1 hs_9 hk_13] at hP hD
      obtain ⟨f_16, ef_16⟩ : ∃ y : xF, y = va_up f (d 2) (aR (q 3) 80 (va_up g_8 ((k 0) : Int32).toNatClampNeg (some c0))) := ⟨_, rfl⟩
      have hI : xI q h0 d k z f_16 := by rw [ef_16]; exact x_upI hI (nn_up hn_10 (Nat.le_refl _)) (ty_up hg_11 (ty_s hc0))
      have hP : va_P (dC, dI) vwCl (va_pl z.1 f_16) H := by rw [ef_16]; exact hP
      have hD : va_D A (va_pl z.1 f_16) := by rw [ef_16]; exact hD
      have hs_17 : f_16 c0 = .inr (ciT (z.2 c0).1, itF nu kd pa cn fa rs) := by rw [ef_16, up_o (itm_ne hc0 hI.2.1.2.2.2.1 (by decide))]; exact hs
      refine lv_aload_n hx hb dX11_enter_21 rfl (lv_at hl 0 rfl) ?_
      refine lv_dup hx hb dX11_enter_22 rfl ?_
      obtain ⟨kk_18, hk_19⟩ := pl_at hI.2.1.1.1 hI.2.2.2.1.1
      refine va_get (D := (dC, dI)) (ci := 10) (v := .int (k 0)) (C := RX11) (T := TX11) (N := 9) hx hb hts zl_X11_enter_X11 hown hK hP kk_18 hk_19 rfl 3 (by decide) (hts (.fieldLink RX11 24 "PageOne" "itemCount" "I") (zat q_wsX11_enter k_wsX11_enter 115 rfl (by decide +kernel))) (fun _ h9 => h9) rfl dX11_enter_23 ?_
      refine lv_iconst (v := 1) hx hb dX11_enter_26 (by decide) ?_
      refine lv_iadd hx hb dX11_enter_27 ?_
      refine lv_topi (fun x_20 ex_20 => ?_)
      obtain ⟨kk_21, hk_22⟩ := pl_at hI.2.1.1.1 hI.2.2.2.1.1
      have hD0 := hD
      refine va_put (D := (dC, dI)) (ci := 10) (v := .int x_20) (ty := .int) (C := RX11) (T := TX11) (N := 9) hx hb hts zl_X11_enter_X11 tyX11 tyX11_ok nmX11 hown hK hP hD hS kk_21 hk_22 rfl 3 (by decide) (hts (.fieldLink RX11 24 "PageOne" "itemCount" "I") (zat q_wsX11_enter k_wsX11_enter 115 rfl (by decide +kernel))) (fun _ h9 => h9) rfl (tyX11_ok 3 (by decide)) rfl rfl (Nat.le_of_ble_eq_true rfl) dX11_enter_28 (fun H locs hP hD hS => ?_)
      obtain ⟨k_23, ek_23⟩ : ∃ y : Nat → Int32, y = kup k 0 x_20 := ⟨_, rfl⟩
      rw [pl_set hD0 hI.2.1.1.1 hI.2.2.2.1.1 hk_22] at hP hD
      obtain ⟨f_24, ef_24⟩ : ∃ y : xF, y = va_up f_16 h0 (.inr (10, dkF d k_23)) := ⟨_, rfl⟩
      have hP : va_P (dC, dI) vwCl (va_pl z.1 f_24) H := by rw [ef_24, ek_23]; exact hP
      have hD : va_D A (va_pl z.1 f_24) := by rw [ef_24, ek_23]; exact hD
      have hI : xI q h0 d k_23 z f_24 := by rw [ef_24]; exact x_dkI hI (by rw [ek_23]; exact ⟨by rw [kup_s, ex_20]; exact (vIn8 hI.1.1 c_3).2.1, hI.1.2.1, hI.1.2.2⟩) (by rw [ef_16]; exact up_s) (by rw [ek_23, kup_s, ex_20, (vIn8 hI.1.1 c_3).2.2]; exact nn_up1 hn_10)
      have hs_25 : f_24 c0 = .inr (ciT (z.2 c0).1, itF nu kd pa cn fa rs) := by rw [ef_24, up_o (itm_ne hc0 hI.2.1.1 (by decide))]; exact hs_17
      refine lv_aload_n hx hb dX11_enter_31 rfl (lv_at hl 1 rfl) ?_
      obtain ⟨kk_26, hk_27⟩ := pl_at hc0.1 hs_25
      refine w_then (F0 m 35 ls [.int nu]) (fun hgo => ?_) ?_
      ·
        rcases x_tag hc0 with ht9 | ht9 | ht9 | ht9 | ht9 | ht9
        ·
          rw [ht9.2] at hk_27
          exact va_get (D := (dC, dI)) (ci := 2) (v := .int nu) (C := RX2) (T := TX2) (N := 7) hx hb hts zl_X11_enter_X2 hown hK hP kk_26 hk_27 rfl 0 (by decide) (hts (.fieldLink RX11 285 "PageOne$Item" "number" "I") (zat q_wsX11_enter k_wsX11_enter 183 rfl (by decide +kernel))) (fun _ h9 => h9) rfl dX11_enter_32 hgo
        ·
          rw [ht9.2] at hk_27
          exact va_get (D := (dC, dI)) (ci := 3) (v := .int nu) (C := RX3) (T := TX3) (N := 8) hx hb hts zl_X11_enter_X3 hown hK hP kk_26 hk_27 rfl 0 (by decide) (hts (.fieldLink RX11 285 "PageOne$Item" "number" "I") (zat q_wsX11_enter k_wsX11_enter 183 rfl (by decide +kernel))) (fun _ h9 => h9) rfl dX11_enter_32 hgo
        ·
          rw [ht9.2] at hk_27
          exact va_get (D := (dC, dI)) (ci := 4) (v := .int nu) (C := RX5) (T := TX5) (N := 7) hx hb hts zl_X11_enter_X5 hown hK hP kk_26 hk_27 rfl 0 (by decide) (hts (.fieldLink RX11 285 "PageOne$Item" "number" "I") (zat q_wsX11_enter k_wsX11_enter 183 rfl (by decide +kernel))) (fun _ h9 => h9) rfl dX11_enter_32 hgo
        ·
          rw [ht9.2] at hk_27
          exact va_get (D := (dC, dI)) (ci := 5) (v := .int nu) (C := RX6) (T := TX6) (N := 9) hx hb hts zl_X11_enter_X6 hown hK hP kk_26 hk_27 rfl 0 (by decide) (hts (.fieldLink RX11 285 "PageOne$Item" "number" "I") (zat q_wsX11_enter k_wsX11_enter 183 rfl (by decide +kernel))) (fun _ h9 => h9) rfl dX11_enter_32 hgo
        ·
          rw [ht9.2] at hk_27
          exact va_get (D := (dC, dI)) (ci := 6) (v := .int nu) (C := RX7) (T := TX7) (N := 8) hx hb hts zl_X11_enter_X7 hown hK hP kk_26 hk_27 rfl 0 (by decide) (hts (.fieldLink RX11 285 "PageOne$Item" "number" "I") (zat q_wsX11_enter k_wsX11_enter 183 rfl (by decide +kernel))) (fun _ h9 => h9) rfl dX11_enter_32 hgo
        ·
          rw [ht9.2] at hk_27
          exact va_get (D := (dC, dI)) (ci := 9) (v := .int nu) (C := RX10) (T := TX10) (N := 9) hx hb hts zl_X11_enter_X10 hown hK hP kk_26 hk_27 rfl 0 (by decide) (hts (.fieldLink RX11 285 "PageOne$Item" "number" "I") (zat q_wsX11_enter k_wsX11_enter 183 rfl (by decide +kernel))) (fun _ h9 => h9) rfl dX11_enter_32 hgo
      ·
        exact W.iret (v := nu) hx hb hr (fun t ht hW => ⟨⟨nu, (k_23, z, f_24), rfl, ⟨rfl, hI, Or.inr ⟨(lt_not c_3), rfl, by rw [ek_23, ex_20], g_8, hs_9, by rw [ef_24, ef_16]⟩⟩, by rw [ht]; exact hP, hD⟩, hS.F ht⟩) hS.2.2 dX11_enter_35
    ·
      rcases x_tag hc0 with ht9 | ht9 | ht9 | ht9 | ht9 | ht9
      ·
        rw [ht9.2] at hk_15
        exact va_astqO (r := (RX2, TX2, 7)) (E := "PageOne$Item") hx hb hK hP hD hS kk_12 3 kk_14 2 hk_13 rfl hN.cast_X2 hk_15 rfl (vIn8 hI.1.1 c_3).1 dX11_enter_20 (fun H locs hP hD hS => kC H locs hP hD hS)
      ·
        rw [ht9.2] at hk_15
        exact va_astqO (r := (RX3, TX3, 8)) (E := "PageOne$Item") hx hb hK hP hD hS kk_12 3 kk_14 3 hk_13 rfl hN.cast_X3 hk_15 rfl (vIn8 hI.1.1 c_3).1 dX11_enter_20 (fun H locs hP hD hS => kC H locs hP hD hS)
      ·
        rw [ht9.2] at hk_15
        exact va_astqO (r := (RX5, TX5, 7)) (E := "PageOne$Item") hx hb hK hP hD hS kk_12 3 kk_14 4 hk_13 rfl hN.cast_X5 hk_15 rfl (vIn8 hI.1.1 c_3).1 dX11_enter_20 (fun H locs hP hD hS => kC H locs hP hD hS)
      ·
        rw [ht9.2] at hk_15
        exact va_astqO (r := (RX6, TX6, 9)) (E := "PageOne$Item") hx hb hK hP hD hS kk_12 3 kk_14 5 hk_13 rfl hN.cast_X6 hk_15 rfl (vIn8 hI.1.1 c_3).1 dX11_enter_20 (fun H locs hP hD hS => kC H locs hP hD hS)
      ·
        rw [ht9.2] at hk_15
        exact va_astqO (r := (RX7, TX7, 8)) (E := "PageOne$Item") hx hb hK hP hD hS kk_12 3 kk_14 6 hk_13 rfl hN.cast_X7 hk_15 rfl (vIn8 hI.1.1 c_3).1 dX11_enter_20 (fun H locs hP hD hS => kC H locs hP hD hS)
      ·
        rw [ht9.2] at hk_15
        exact va_astqO (r := (RX10, TX10, 9)) (E := "PageOne$Item") hx hb hK hP hD hS kk_12 3 kk_14 9 hk_13 rfl hN.cast_X10 hk_15 rfl (vIn8 hI.1.1 c_3).1 dX11_enter_20 (fun H locs hP hD hS => kC H locs hP hD hS)
  ·
    refine lv_iconst (v := (-1)) hx hb dX11_enter_9 (by decide) ?_
    exact W.iret (v := (-1)) hx hb hr (fun t ht hW => ⟨⟨(-1), (k, z, f), rfl, ⟨rfl, hI, Or.inl ⟨(ge_not c_3), rfl, rfl, rfl⟩⟩, by rw [ht]; exact hP, hD⟩, hS.F ht⟩) hS.2.2 dX11_enter_10
/-- where no item is, nothing is told -/
def nwI (u : mS) : Prop := ∀ i, (u.1 3).toNatClampNeg ≤ i → i < 80 → (∀ t, t < 5 → u.2 47 (5 * i + t) = (-1)) ∧ (∀ t, t < 80 → u.2 16 (80 * i + t) = 0) ∧ (∀ t, t < 4 → u.2 18 (4 * i + t) = 0 ∧ u.2 19 (4 * i + t) = 0) ∧ (∀ t, t < 10 → u.2 21 (10 * i + t) = 0) ∧ ∀ t, t < 400 → u.2 48 (80 * t + i) = 0
theorem rRs_story {q d2 W z2 f9} {n a5 a6 : Nat} {x : Int32} (e5 : d2 (5000 + n) = a5) (e6 : d2 (6000 + n) = a6) (hk : W.2 4 n = 0) (h5 : W.2 5 n = x) (h15 : W.2 15 n = 0) (c5 : nC z2 f9 a5 18 (5000 + n) (aI (q 0) 80 (fun _ => 0))) (c6 : nC z2 f9 a6 19 (6000 + n) (aI (q 1) 10 (fun _ => 0))) (h16 : ∀ t, t < 80 → W.2 16 (80 * n + t) = 0) (h21 : ∀ t, t < 10 → W.2 21 (10 * n + t) = 0) : rRs q d2 W z2 f9 n [.int x, .ref a5, .int 0, .ref a6] := by
  have no : ∀ kk : Int32, kk ≠ 0 → ¬ W.2 4 n = kk := fun kk hkk e => hkk (by rw [← e, hk])
  refine ⟨fun _ => ⟨by rw [e5, e6, h5, h15], ⟨by rw [e5]; exact c5.1, by rw [e5]; exact c5.2.1, by decide⟩, ⟨by rw [e6]; exact c6.1, by rw [e6]; exact c6.2.1, by decide⟩, ⟨fun _ => 0, by rw [e5]; exact c5.2.2, fun t ht => (h16 t ht).symm⟩, fun _ => 0, by rw [e6]; exact c6.2.2, fun t ht => (h21 t ht).symm⟩, fun e => absurd e (no 1 (by decide)), fun e => absurd e (no 2 (by decide)), fun e => absurd e (no 3 (by decide)), fun e => absurd e (no 4 (by decide)), fun e => absurd e (no 5 (by decide))⟩
theorem rRs_pict {q d2 W z2 f9} {n a5 a6 : Nat} (e5 : d2 (5000 + n) = a5) (e6 : d2 (6000 + n) = a6) (hk : W.2 4 n = 2) (h17 : W.2 17 n = 0) (c5 : nC z2 f9 a5 20 (5000 + n) (aI (q 0) 4 (fun _ => 0))) (c6 : nC z2 f9 a6 20 (6000 + n) (aI (q 0) 4 (fun _ => 0))) (h18 : ∀ t, t < 4 → W.2 18 (4 * n + t) = 0 ∧ W.2 19 (4 * n + t) = 0) : rRs q d2 W z2 f9 n [.ref a5, .ref a6, .int 0] := by
  have no : ∀ kk : Int32, kk ≠ 2 → ¬ W.2 4 n = kk := fun kk hkk e => hkk (by rw [← e, hk])
  refine ⟨fun e => absurd e (no 0 (by decide)), fun e => absurd e (no 1 (by decide)), fun _ => ⟨by rw [e5, e6, h17], ⟨by rw [e5]; exact c5.1, by rw [e5]; exact c5.2.1, by decide⟩, ⟨by rw [e6]; exact c6.1, by rw [e6]; exact c6.2.1, by decide⟩, ⟨fun _ => 0, by rw [e5]; exact c5.2.2, fun t ht => (h18 t ht).1.symm⟩, fun _ => 0, by rw [e6]; exact c6.2.2, fun t ht => (h18 t ht).2.symm⟩, fun e => absurd e (no 3 (by decide)), fun e => absurd e (no 4 (by decide)), fun e => absurd e (no 5 (by decide))⟩
theorem rRs_paid {q d2 W z2 f9} {n a5 a6 : Nat} {b pr P X Y D N : Int32} (e5 : d2 (5000 + n) = a5) (e6 : d2 (6000 + n) = a6) (hk : W.2 4 n = 3) (h10 : W.2 10 n = b) (h14 : W.2 14 n = pr) (h11 : W.2 11 n = P) (h12 : W.2 12 n = X) (h13 : W.2 13 n = Y) (h7 : W.2 7 n = D) (h8 : W.2 8 n = N) (hp : pcS z2 a5 none P X Y D N) (c6 : nC z2 f9 a6 21 (6000 + n) (aI (q 1) 400 (fun _ => 0))) (h48 : ∀ t, t < 400 → W.2 48 (80 * t + n) = 0) : rRs q d2 W z2 f9 n [.int b, .int pr, .ref a5, .ref a6] := by
  have no : ∀ kk : Int32, kk ≠ 3 → ¬ W.2 4 n = kk := fun kk hkk e => hkk (by rw [← e, hk])
  refine ⟨fun e => absurd e (no 0 (by decide)), fun e => absurd e (no 1 (by decide)), fun e => absurd e (no 2 (by decide)), fun _ => ⟨by rw [e5, e6, h10, h14], by rw [e5, h11, h12, h13, h7, h8]; exact hp, ⟨by rw [e6]; exact c6.1, by rw [e6]; exact c6.2.1, by decide⟩, fun _ => 0, by rw [e6]; exact c6.2.2, fun t ht => (h48 t ht).symm⟩, fun e => absurd e (no 4 (by decide)), fun e => absurd e (no 5 (by decide))⟩
theorem rRs_filler {q d2 W z2 f9} {n : Nat} {a b : Int32} (hk : W.2 4 n = 4) (h5 : W.2 5 n = a) (h6 : W.2 6 n = b) : rRs q d2 W z2 f9 n [.int a, .int b] := by
  have no : ∀ kk : Int32, kk ≠ 4 → ¬ W.2 4 n = kk := fun kk hkk e => hkk (by rw [← e, hk])
  refine ⟨fun e => absurd e (no 0 (by decide)), fun e => absurd e (no 1 (by decide)), fun e => absurd e (no 2 (by decide)), fun e => absurd e (no 3 (by decide)), fun _ => by rw [h5, h6], fun e => absurd e (no 5 (by decide))⟩
theorem rRs_head {q d2 W z2 f9} {n o ao : Nat} {x y : Int32} (hk : W.2 4 n = 1) (ho : o < (W.1 3).toNatClampNeg) (h9 : W.2 9 n = nI o) (hk2 : W.2 4 o = 0) (h7 : W.2 7 n = x) (h8 : W.2 8 n = y) (eo : d2 (2000 + o) = ao) : rRs q d2 W z2 f9 n [.ref ao, .int x, .int y] := by
  have no : ∀ kk : Int32, kk ≠ 1 → ¬ W.2 4 n = kk := fun kk hkk e => hkk (by rw [← e, hk])
  refine ⟨fun e => absurd e (no 0 (by decide)), fun _ => ⟨o, ho, h9, hk2, by rw [eo, h7, h8]⟩, fun e => absurd e (no 2 (by decide)), fun e => absurd e (no 3 (by decide)), fun e => absurd e (no 4 (by decide)), fun e => absurd e (no 5 (by decide))⟩
theorem rRs_notice {q d2 W z2 f9} {n o ao : Nat} {y : Int32} (hk : W.2 4 n = 5) (ho : o < (W.1 3).toNatClampNeg) (h9 : W.2 9 n = nI o) (h8 : W.2 8 n = y) (eo : d2 (2000 + o) = ao) : rRs q d2 W z2 f9 n [.ref ao, .int y] := by
  have no : ∀ kk : Int32, kk ≠ 5 → ¬ W.2 4 n = kk := fun kk hkk e => hkk (by rw [← e, hk])
  refine ⟨fun e => absurd e (no 0 (by decide)), fun e => absurd e (no 1 (by decide)), fun e => absurd e (no 2 (by decide)), fun e => absurd e (no 3 (by decide)), fun e => absurd e (no 4 (by decide)), fun _ => ⟨o, ho, h9, by rw [eo, h8]⟩⟩
theorem kT_v : kT 0 = 15 ∧ kT 1 = 11 ∧ kT 2 = 14 ∧ kT 3 = 13 ∧ kT 4 = 10 ∧ kT 5 = 12 := by decide
theorem mk_Story {q h0 d k z f u z2 f2 f3 k3} {r : Int32} {a2 a3 a4 a5 a6 : Nat} {x : Int32} (hI : xI q h0 d k z f) (hrp : rep q d u z f) (hk0 : k 0 = u.1 3) (hz0 : (z.2 h0).2.1 = 0) (hnw : nwI u) (hI3 : xI q h0 d k3 z2 f3) (hE : zE z z2) (ho : oK z f f2) (hen : enP q h0 d k r k3 a2 f2 f3 (k 0)) (c2 : nC z2 f2 a2 15 (2000 + (u.1 3).toNatClampNeg) (.inr (9, [.int (k 0), .int 0, .ref a3, .int 0, .ref a4, .int x, .ref a5, .int 0, .ref a6]))) (c3 : nC z2 f2 a3 16 a2 (aR (q 5) 6 (fun _ => none))) (c4 : nC z2 f2 a4 17 (4000 + (u.1 3).toNatClampNeg) (aI (q 0) 5 (fun _ => (-1)))) (c5 : nC z2 f2 a5 18 (5000 + (u.1 3).toNatClampNeg) (aI (q 0) 80 (fun _ => 0))) (c6 : nC z2 f2 a6 19 (6000 + (u.1 3).toNatClampNeg) (aI (q 1) 10 (fun _ => 0))) (hb : bw x 1 80 = true) : mkP q h0 d k z f u (mStory u x) r (k3, z2, f3) := by
  have hN : ∀ x : Int32, x = u.1 3 → x.toNatClampNeg = (u.1 3).toNatClampNeg := fun x e => by rw [e]
  obtain ⟨W, eW⟩ : ∃ w : mS, w = mst (mMade u 0) 5 (u.1 3) x := ⟨_, rfl⟩
  have hS : mkS u W (u.1 3).toNatClampNeg := by rw [eW]; exact mkS_mst (mkS_made u 0) rfl (by decide) x
  have w4 : W.2 4 (u.1 3).toNatClampNeg = 0 := by rw [eW, mst_other (by decide), made_4, if_pos rfl]
  have w22 : W.2 22 (u.1 3).toNatClampNeg = 0 := by rw [eW, mst_other (by decide), made_22, if_pos rfl]
  refine mk_gen (a5 := a5) (a6 := a6) (kd := 0) (W := W) hI hrp hk0 hz0 hI3 hE ho hen rfl hS w4 (by decide) w22 (fun h => (hnw _ (Nat.le_refl _) h).1) (by rw [kT_v.1]; exact c2) (by decide) (by rw [if_pos rfl]; exact c3) c4 (fun f9 hup hn => ?_) (fun e => by unfold mStory; rw [if_pos e]) (fun e => by unfold mStory; rw [if_neg e, if_pos hb, eW])
  have eN := dN_at (d := d) (n := (u.1 3).toNatClampNeg) (a2 := a2) (a3 := a3) (a4 := a4) (a5 := a5) (a6 := a6) (by omega)
  exact rRs_story eN.2.2.2.1 eN.2.2.2.2 w4 (by rw [eW, mst_same]) (by rw [eW, mst_other (by decide), made_15, if_pos rfl]) (hup _ _ _ _ c5 (by decide) (by decide)) (hup _ _ _ _ c6 (by decide) (by decide)) (fun t ht => by rw [hS.2.2 16 (by omega)]; exact (hnw _ (Nat.le_refl _) hn).2.1 t ht) (fun t ht => by rw [hS.2.2 21 (by omega)]; exact (hnw _ (Nat.le_refl _) hn).2.2.2.1 t ht)
theorem mk_Picture {q h0 d k z f u z2 f2 f3 k3} {r : Int32} {a2 a3 a4 a5 a6 : Nat} (hI : xI q h0 d k z f) (hrp : rep q d u z f) (hk0 : k 0 = u.1 3) (hz0 : (z.2 h0).2.1 = 0) (hnw : nwI u) (hI3 : xI q h0 d k3 z2 f3) (hE : zE z z2) (ho : oK z f f2) (hen : enP q h0 d k r k3 a2 f2 f3 (k 0)) (c2 : nC z2 f2 a2 14 (2000 + (u.1 3).toNatClampNeg) (.inr (6, [.int (k 0), .int 2, .ref a3, .int 0, .ref a4, .ref a5, .ref a6, .int 0]))) (c3 : nC z2 f2 a3 16 a2 (aR (q 5) 1 (fun _ => none))) (c4 : nC z2 f2 a4 17 (4000 + (u.1 3).toNatClampNeg) (aI (q 0) 5 (fun _ => (-1)))) (c5 : nC z2 f2 a5 20 (5000 + (u.1 3).toNatClampNeg) (aI (q 0) 4 (fun _ => 0))) (c6 : nC z2 f2 a6 20 (6000 + (u.1 3).toNatClampNeg) (aI (q 0) 4 (fun _ => 0))) : mkP q h0 d k z f u (mPicture u) r (k3, z2, f3) := by
  have hN : ∀ x : Int32, x = u.1 3 → x.toNatClampNeg = (u.1 3).toNatClampNeg := fun x e => by rw [e]
  obtain ⟨W, eW⟩ : ∃ w : mS, w = mMade u 2 := ⟨_, rfl⟩
  have hS : mkS u W (u.1 3).toNatClampNeg := by rw [eW]; exact mkS_made u 2
  have w4 : W.2 4 (u.1 3).toNatClampNeg = 2 := by rw [eW, made_4, if_pos rfl]
  have w22 : W.2 22 (u.1 3).toNatClampNeg = 0 := by rw [eW, made_22, if_pos rfl]
  refine mk_gen (a5 := a5) (a6 := a6) (kd := 2) (W := W) hI hrp hk0 hz0 hI3 hE ho hen rfl hS w4 (by decide) w22 (fun h => (hnw _ (Nat.le_refl _) h).1) (by rw [kT_v.2.2.1]; exact c2) (by decide) (by rw [if_neg (by decide)]; exact c3) c4 (fun f9 hup hn => ?_) (fun e => by unfold mPicture; rw [if_pos e]) (fun e => by unfold mPicture; rw [if_neg e, eW])
  have eN := dN_at (d := d) (n := (u.1 3).toNatClampNeg) (a2 := a2) (a3 := a3) (a4 := a4) (a5 := a5) (a6 := a6) (by omega)
  exact rRs_pict eN.2.2.2.1 eN.2.2.2.2 w4 (by rw [eW, made_17, if_pos rfl]) (hup _ _ _ _ c5 (by decide) (by decide)) (hup _ _ _ _ c6 (by decide) (by decide)) (fun t ht => by rw [hS.2.2 18 (by omega), hS.2.2 19 (by omega)]; exact (hnw _ (Nat.le_refl _) hn).2.2.1 t ht)
theorem mk_Filler {q h0 d k z f u z2 f2 f3 k3} {r : Int32} {a2 a3 a4 a5 a6 : Nat} {x y : Int32} (hI : xI q h0 d k z f) (hrp : rep q d u z f) (hk0 : k 0 = u.1 3) (hz0 : (z.2 h0).2.1 = 0) (hnw : nwI u) (hI3 : xI q h0 d k3 z2 f3) (hE : zE z z2) (ho : oK z f f2) (hen : enP q h0 d k r k3 a2 f2 f3 (k 0)) (c2 : nC z2 f2 a2 10 (2000 + (u.1 3).toNatClampNeg) (.inr (2, [.int (k 0), .int 4, .ref a3, .int 0, .ref a4, .int x, .int y]))) (c3 : nC z2 f2 a3 16 a2 (aR (q 5) 1 (fun _ => none))) (c4 : nC z2 f2 a4 17 (4000 + (u.1 3).toNatClampNeg) (aI (q 0) 5 (fun _ => (-1)))) (hb : bw x 1 60 = true) (hb2 : bw y x 60 = true) : mkP q h0 d k z f u (mFiller u x y) r (k3, z2, f3) := by
  have hN : ∀ x : Int32, x = u.1 3 → x.toNatClampNeg = (u.1 3).toNatClampNeg := fun x e => by rw [e]
  obtain ⟨W, eW⟩ : ∃ w : mS, w = mst (mst (mMade u 4) 5 (u.1 3) x) 6 (u.1 3) y := ⟨_, rfl⟩
  have hS : mkS u W (u.1 3).toNatClampNeg := by rw [eW]; exact mkS_mst (mkS_mst (mkS_made u 4) rfl (by decide) x) rfl (by decide) y
  have w4 : W.2 4 (u.1 3).toNatClampNeg = 4 := by rw [eW, mst_other (by decide), mst_other (by decide), made_4, if_pos rfl]
  have w22 : W.2 22 (u.1 3).toNatClampNeg = 0 := by rw [eW, mst_other (by decide), mst_other (by decide), made_22, if_pos rfl]
  refine mk_gen (a5 := 0) (a6 := 0) (kd := 4) (W := W) hI hrp hk0 hz0 hI3 hE ho hen rfl hS w4 (by decide) w22 (fun h => (hnw _ (Nat.le_refl _) h).1) (by rw [kT_v.2.2.2.2.1]; exact c2) (by decide) (by rw [if_neg (by decide)]; exact c3) c4 (fun f9 hup hn => ?_) (fun e => by unfold mFiller; rw [if_pos e]) (fun e => by unfold mFiller; rw [if_neg e, if_pos hb, if_pos hb2, eW])
  have eN := dN_at (d := d) (n := (u.1 3).toNatClampNeg) (a2 := a2) (a3 := a3) (a4 := a4) (a5 := 0) (a6 := 0) (by omega)
  exact rRs_filler w4 (by rw [eW, mst_other (by decide), mst_same]) (by rw [eW, mst_same])
theorem mk_Head {q h0 d k z f u z2 f2 f3 k3} {r : Int32} {a2 a3 a4 a5 a6 : Nat} {o : Nat} {x y : Int32} (hI : xI q h0 d k z f) (hrp : rep q d u z f) (hk0 : k 0 = u.1 3) (hz0 : (z.2 h0).2.1 = 0) (hnw : nwI u) (hI3 : xI q h0 d k3 z2 f3) (hE : zE z z2) (ho : oK z f f2) (hen : enP q h0 d k r k3 a2 f2 f3 (k 0)) (c2 : nC z2 f2 a2 11 (2000 + (u.1 3).toNatClampNeg) (.inr (3, [.int (k 0), .int 1, .ref a3, .int 0, .ref a4, .ref (d (2000 + o)), .int x, .int y]))) (c3 : nC z2 f2 a3 16 a2 (aR (q 5) 1 (fun _ => none))) (c4 : nC z2 f2 a4 17 (4000 + (u.1 3).toNatClampNeg) (aI (q 0) 5 (fun _ => (-1)))) (hio : o < (u.1 3).toNatClampNeg) (hko : u.2 4 o = 0) (hb : bw x 1 8 = true) (hb2 : bw y 1 9 = true) : mkP q h0 d k z f u (mHead u (nI o) x y) r (k3, z2, f3) := by
  have hN : ∀ x : Int32, x = u.1 3 → x.toNatClampNeg = (u.1 3).toNatClampNeg := fun x e => by rw [e]
  obtain ⟨W, eW⟩ : ∃ w : mS, w = mst (mst (mst (mMade u 1) 9 (u.1 3) (nI o)) 7 (u.1 3) x) 8 (u.1 3) y := ⟨_, rfl⟩
  have hS : mkS u W (u.1 3).toNatClampNeg := by rw [eW]; exact mkS_mst (mkS_mst (mkS_mst (mkS_made u 1) rfl (by decide) _) rfl (by decide) x) rfl (by decide) y
  have w4 : W.2 4 (u.1 3).toNatClampNeg = 1 := by rw [eW, mst_other (by decide), mst_other (by decide), mst_other (by decide), made_4, if_pos rfl]
  have w22 : W.2 22 (u.1 3).toNatClampNeg = 0 := by rw [eW, mst_other (by decide), mst_other (by decide), mst_other (by decide), made_22, if_pos rfl]
  refine mk_gen (a5 := 0) (a6 := 0) (kd := 1) (W := W) hI hrp hk0 hz0 hI3 hE ho hen rfl hS w4 (by decide) w22 (fun h => (hnw _ (Nat.le_refl _) h).1) (by rw [kT_v.2.1]; exact c2) (by decide) (by rw [if_neg (by decide)]; exact c3) c4 (fun f9 hup hn => ?_) (fun e => by unfold mHead; rw [if_pos e]) (fun e => by unfold mHead; rw [if_neg e, if_pos (by rw [mK_it (by rw [← hk0]; exact hI.1.1) hio, hko]; rfl), if_pos hb, if_pos hb2, eW])
  have eN := dN_at (d := d) (n := (u.1 3).toNatClampNeg) (a2 := a2) (a3 := a3) (a4 := a4) (a5 := 0) (a6 := 0) (by omega)
  exact rRs_head (o := o) w4 (by rw [hS.1 3, if_pos rfl]; have m4 := (n80k hI.1.1); rw [hk0] at m4; have m5 := m4.2 (fun x9 => by have e9 := m4.1 x9; rw [e9] at hn; exact absurd hn (by decide)); omega) (by rw [eW, mst_other (by decide), mst_other (by decide), mst_same]) (by rw [hS.2.1 4 o (by omega) (by omega)]; exact hko) (by rw [eW, mst_other (by decide), mst_same]) (by rw [eW, mst_same]) (dN_o (by omega) (by omega)).1
theorem mk_Paid {q h0 d k z f u z2 f2 f3 k3} {r : Int32} {a2 a3 a4 a5 a6 : Nat} {b P X Y D N pr : Int32} (hI : xI q h0 d k z f) (hrp : rep q d u z f) (hk0 : k 0 = u.1 3) (hz0 : (z.2 h0).2.1 = 0) (hnw : nwI u) (hI3 : xI q h0 d k3 z2 f3) (hE : zE z z2) (ho : oK z f f2) (hen : enP q h0 d k r k3 a2 f2 f3 (k 0)) (c2 : nC z2 f2 a2 13 (2000 + (u.1 3).toNatClampNeg) (.inr (5, [.int (k 0), .int 3, .ref a3, .int 0, .ref a4, .int b, .int pr, .ref a5, .ref a6]))) (c3 : nC z2 f2 a3 16 a2 (aR (q 5) 1 (fun _ => none))) (c4 : nC z2 f2 a4 17 (4000 + (u.1 3).toNatClampNeg) (aI (q 0) 5 (fun _ => (-1)))) (hsp : pcS z2 a5 none P X Y D N) (c6 : nC z2 f2 a6 21 (6000 + (u.1 3).toNatClampNeg) (aI (q 1) 400 (fun _ => 0))) (hb : (bw b 0 9 && (bw P 0 11 && bw X 0 7 && bw Y 0 59) && (bw D 1 8 && bw N 1 60) && !decide (8 < X + D) && !decide (60 < Y + N) && bw pr 0 1000) = true) : mkP q h0 d k z f u (mPaid u b P X Y D N pr) r (k3, z2, f3) := by
  have hN : ∀ x : Int32, x = u.1 3 → x.toNatClampNeg = (u.1 3).toNatClampNeg := fun x e => by rw [e]
  obtain ⟨W, eW⟩ : ∃ w : mS, w = mst (mst (mst (mst (mst (mst (mst (mMade u 3) 10 (u.1 3) b) 11 (u.1 3) P) 12 (u.1 3) X) 13 (u.1 3) Y) 7 (u.1 3) D) 8 (u.1 3) N) 14 (u.1 3) pr := ⟨_, rfl⟩
  have hS : mkS u W (u.1 3).toNatClampNeg := by rw [eW]; exact mkS_mst (mkS_mst (mkS_mst (mkS_mst (mkS_mst (mkS_mst (mkS_mst (mkS_made u 3) rfl (by decide) b) rfl (by decide) P) rfl (by decide) X) rfl (by decide) Y) rfl (by decide) D) rfl (by decide) N) rfl (by decide) pr
  have w4 : W.2 4 (u.1 3).toNatClampNeg = 3 := by rw [eW, mst_other (by decide), mst_other (by decide), mst_other (by decide), mst_other (by decide), mst_other (by decide), mst_other (by decide), mst_other (by decide), made_4, if_pos rfl]
  have w22 : W.2 22 (u.1 3).toNatClampNeg = 0 := by rw [eW, mst_other (by decide), mst_other (by decide), mst_other (by decide), mst_other (by decide), mst_other (by decide), mst_other (by decide), mst_other (by decide), made_22, if_pos rfl]
  refine mk_gen (a5 := a5) (a6 := a6) (kd := 3) (W := W) hI hrp hk0 hz0 hI3 hE ho hen rfl hS w4 (by decide) w22 (fun h => (hnw _ (Nat.le_refl _) h).1) (by rw [kT_v.2.2.2.1]; exact c2) (by decide) (by rw [if_neg (by decide)]; exact c3) c4 (fun f9 hup hn => ?_) (fun e => by unfold mPaid; rw [if_pos e]) (fun e => by unfold mPaid; rw [if_neg e, if_pos hb, eW])
  have eN := dN_at (d := d) (n := (u.1 3).toNatClampNeg) (a2 := a2) (a3 := a3) (a4 := a4) (a5 := a5) (a6 := a6) (by omega)
  exact rRs_paid eN.2.2.2.1 eN.2.2.2.2 w4 (by rw [eW, mst_other (by decide), mst_other (by decide), mst_other (by decide), mst_other (by decide), mst_other (by decide), mst_other (by decide), mst_same]) (by rw [eW, mst_same]) (by rw [eW, mst_other (by decide), mst_other (by decide), mst_other (by decide), mst_other (by decide), mst_other (by decide), mst_same]) (by rw [eW, mst_other (by decide), mst_other (by decide), mst_other (by decide), mst_other (by decide), mst_same]) (by rw [eW, mst_other (by decide), mst_other (by decide), mst_other (by decide), mst_same]) (by rw [eW, mst_other (by decide), mst_other (by decide), mst_same]) (by rw [eW, mst_other (by decide), mst_same]) hsp (hup _ _ _ _ c6 (by decide) (by decide)) (fun t ht => by rw [hS.2.2 48 (by omega)]; exact (hnw _ (Nat.le_refl _) hn).2.2.2.2 t ht)
theorem mk_Notice {q h0 d k z f u z2 f2 f3 k3} {r : Int32} {a2 a3 a4 a5 a6 : Nat} {o : Nat} {y : Int32} (hI : xI q h0 d k z f) (hrp : rep q d u z f) (hk0 : k 0 = u.1 3) (hz0 : (z.2 h0).2.1 = 0) (hnw : nwI u) (hI3 : xI q h0 d k3 z2 f3) (hE : zE z z2) (ho : oK z f f2) (hen : enP q h0 d k r k3 a2 f2 f3 (k 0)) (c2 : nC z2 f2 a2 12 (2000 + (u.1 3).toNatClampNeg) (.inr (4, [.int (k 0), .int 5, .ref a3, .int 0, .ref a4, .ref (d (2000 + o)), .int y]))) (c3 : nC z2 f2 a3 16 a2 (aR (q 5) 1 (fun _ => none))) (c4 : nC z2 f2 a4 17 (4000 + (u.1 3).toNatClampNeg) (aI (q 0) 5 (fun _ => (-1)))) (hio : o < (u.1 3).toNatClampNeg) (hko : ¬ u.2 4 o = 5) (hb : bw y 1 20 = true) (hpr : 0 ≤ mPr u (nI o) 0) (hno : ¬ mHasN u (nI o)) : mkP q h0 d k z f u (mNoticeX u (nI o) y) r (k3, z2, f3) := by
  have hN : ∀ x : Int32, x = u.1 3 → x.toNatClampNeg = (u.1 3).toNatClampNeg := fun x e => by rw [e]
  obtain ⟨W, eW⟩ : ∃ w : mS, w = mst (mst (mMade u 5) 9 (u.1 3) (nI o)) 8 (u.1 3) y := ⟨_, rfl⟩
  have hS : mkS u W (u.1 3).toNatClampNeg := by rw [eW]; exact mkS_mst (mkS_mst (mkS_made u 5) rfl (by decide) _) rfl (by decide) y
  have w4 : W.2 4 (u.1 3).toNatClampNeg = 5 := by rw [eW, mst_other (by decide), mst_other (by decide), made_4, if_pos rfl]
  have w22 : W.2 22 (u.1 3).toNatClampNeg = 0 := by rw [eW, mst_other (by decide), mst_other (by decide), made_22, if_pos rfl]
  refine mk_gen (a5 := 0) (a6 := 0) (kd := 5) (W := W) hI hrp hk0 hz0 hI3 hE ho hen rfl hS w4 (by decide) w22 (fun h => (hnw _ (Nat.le_refl _) h).1) (by rw [kT_v.2.2.2.2.2]; exact c2) (by decide) (by rw [if_neg (by decide)]; exact c3) c4 (fun f9 hup hn => ?_) (fun e => by unfold mNoticeX; rw [if_pos e]) (fun e => by have hb9 := bw_it (by rw [← hk0]; exact hI.1.1) hio; unfold mNoticeX; rw [if_neg e, if_pos hb9.1, if_pos hb, nI_clamp (by omega), if_neg hko, if_pos hpr, if_pos (bP_f hno), eW])
  have eN := dN_at (d := d) (n := (u.1 3).toNatClampNeg) (a2 := a2) (a3 := a3) (a4 := a4) (a5 := 0) (a6 := 0) (by omega)
  exact rRs_notice (o := o) w4 (by rw [hS.1 3, if_pos rfl]; have m4 := (n80k hI.1.1); rw [hk0] at m4; have m5 := m4.2 (fun x9 => by have e9 := m4.1 x9; rw [e9] at hn; exact absurd hn (by decide)); omega) (by rw [eW, mst_other (by decide), mst_same]) (by rw [eW, mst_same]) (dN_o (by omega) (by omega)).1
theorem st_n {u : mS} {x : Int32} (h : ¬ bw x 1 80 = true) : mStory u x = (-1, u) := by
  unfold mStory; rw [if_neg h]; split <;> rfl
theorem fl_y {x y : Int32} (h : bw y 1 60 = true) (h2 : bw x 1 y = true) : bw x 1 60 = true ∧ bw y x 60 = true := by
  have a := bw_iff.mp h
  have b := bw_iff.mp h2
  exact ⟨bw_iff.mpr (by omega), bw_iff.mpr (by omega)⟩
theorem fl_n {u : mS} {x y : Int32} (h : ¬ (bw y 1 60 = true ∧ bw x 1 y = true)) : mFiller u x y = (-1, u) := by
  unfold mFiller
  by_cases e : u.1 3 = 80
  · rw [if_pos e]
  · rw [if_neg e]
    by_cases b : bw x 1 60 = true
    · rw [if_pos b]
      by_cases c : bw y x 60 = true
      · have a1 := bw_iff.mp b
        have a2 := bw_iff.mp c
        exact absurd ⟨bw_iff.mpr (by omega), bw_iff.mpr (by omega)⟩ h
      · rw [if_neg c]
    · rw [if_neg b]
theorem hd_n {u : mS} {s w h : Int32} (e : mKind u s 0 = false) : mHead u s w h = (-1, u) := by
  unfold mHead
  by_cases h8 : u.1 3 = 80
  · rw [if_pos h8]
  · rw [if_neg h8, e, if_neg (by decide)]
theorem hd_w {u : mS} {s w h : Int32} (e : ¬ bw w 1 8 = true) : mHead u s w h = (-1, u) := by
  unfold mHead; rw [if_neg e]; repeat' split
  all_goals rfl
theorem hd_h {u : mS} {s w h : Int32} (e : ¬ bw h 1 9 = true) : mHead u s w h = (-1, u) := by
  unfold mHead; rw [if_neg e]; repeat' split
  all_goals rfl
def pdB (b P X Y D N pr : Int32) : Prop := (bw b 0 9 && (bw P 0 11 && bw X 0 7 && bw Y 0 59) && (bw D 1 8 && bw N 1 60) && !decide (8 < X + D) && !decide (60 < Y + N) && bw pr 0 1000) = true
theorem pdB_iff {b P X Y D N pr : Int32} : pdB b P X Y D N pr ↔ bw b 0 9 = true ∧ bw P 0 11 = true ∧ (bw D 1 8 && bw N 1 60) = true ∧ bw pr 0 1000 = true ∧ bw X 0 (8 - D) = true ∧ bw Y 0 (60 - N) = true := by
  unfold pdB
  rw [Bool.and_eq_true, Bool.and_eq_true, Bool.and_eq_true, Bool.and_eq_true, Bool.and_eq_true, Bool.and_eq_true, Bool.and_eq_true, Bool.not_eq_true', Bool.not_eq_true', decide_eq_false_iff_not, decide_eq_false_iff_not]
  have e8 : (8 : Int32).toInt = 8 := rfl
  have e60 : (60 : Int32).toInt = 60 := rfl
  have e7 : (7 : Int32).toInt = 7 := rfl
  have e59 : (59 : Int32).toInt = 59 := rfl
  constructor
  · rintro ⟨⟨⟨⟨⟨h1, ⟨h2, h3⟩, h4⟩, h5⟩, h6⟩, h7⟩, h8⟩
    refine ⟨h1, h2, h5, h8, ?_, ?_⟩
    · have a := bw_iff.mp h3
      have c := bw_iff.mp (ban h5).1
      rw [i1, e8] at c
      rw [i0, e7] at a
      rw [i32_lt, e8, addI (by omega) (by omega)] at h6
      rw [bw_iff, i0, subI (by rw [e8]; omega) (by rw [e8]; omega), e8]; omega
    · have a := bw_iff.mp h4
      have c := bw_iff.mp (ban h5).2
      rw [i1, e60] at c
      rw [i0, e59] at a
      rw [i32_lt, e60, addI (by omega) (by omega)] at h7
      rw [bw_iff, i0, subI (by rw [e60]; omega) (by rw [e60]; omega), e60]; omega
  · rintro ⟨h1, h2, h3, h4, h5, h6⟩
    have c := bw_iff.mp (ban h3).1
    have c2 := bw_iff.mp (ban h3).2
    rw [i1, e8] at c
    rw [i1, e60] at c2
    have a := bw_iff.mp h5
    rw [i0, subI (by rw [e8]; omega) (by rw [e8]; omega), e8] at a
    have a2 := bw_iff.mp h6
    rw [i0, subI (by rw [e60]; omega) (by rw [e60]; omega), e60] at a2
    refine ⟨⟨⟨⟨⟨h1, ⟨h2, ?_⟩, ?_⟩, h3⟩, ?_⟩, ?_⟩, h4⟩
    · rw [bw_iff, i0, e7]; omega
    · rw [bw_iff, i0, e59]; omega
    · rw [i32_lt, e8, addI (by omega) (by omega)]; omega
    · rw [i32_lt, e60, addI (by omega) (by omega)]; omega
theorem pd_n {u : mS} {b P X Y D N pr : Int32} (h : ¬ pdB b P X Y D N pr) : mPaid u b P X Y D N pr = (-1, u) := by
  unfold pdB at h
  unfold mPaid
  by_cases e : u.1 3 = 80
  · rw [if_pos e]
  · rw [if_neg e, if_neg h]
theorem nt_i {u : mS} {i h : Int32} (e : ¬ bw i 0 (u.1 3 - 1) = true) : mNoticeX u i h = (-1, u) := by
  unfold mNoticeX; rw [if_neg e]; split <;> rfl
theorem nt_k {u : mS} {i h : Int32} (e : u.2 4 i.toNatClampNeg = 5) : mNoticeX u i h = (-1, u) := by
  unfold mNoticeX; rw [if_pos e]; repeat' split
  all_goals rfl
theorem nt_h {u : mS} {i h : Int32} (e : ¬ bw h 1 20 = true) : mNoticeX u i h = (-1, u) := by
  unfold mNoticeX; rw [if_neg e]; repeat' split
  all_goals rfl
theorem nt_p {u : mS} {i h : Int32} (e : ¬ 0 ≤ mPr u i 0) : mNoticeX u i h = (-1, u) := by
  unfold mNoticeX; rw [if_neg e]; repeat' split
  all_goals rfl
theorem nt_n {u : mS} {i h : Int32} (e : mHasN u i) : mNoticeX u i h = (-1, u) := by
  unfold mNoticeX; rw [if_neg (show ¬ bP (mHasN u i) = 0 from fun x => bP_0 x e)]; repeat' split
  all_goals rfl
theorem pr_0 {u : mS} {i r : Int32} (h : mPrR u i 0 r) (hd : bw (u.1 38) 0 399 = true) : r = (-1) ∨ 0 ≤ r := by
  have z0 := bw_iff.mp hd
  rw [i0] at z0
  unfold mPrR at h
  by_cases b1 : bw i 0 (u.1 3 - 1) = true
  · rw [if_pos b1, if_pos (show bw 0 0 4 = true by decide)] at h
    by_cases b3 : u.2 47 (5 * i).toNatClampNeg < 0
    · rw [if_pos b3] at h
      rcases h with ⟨q, -, -, -, e⟩ | ⟨-, e⟩
      · refine Or.inr ?_
        rw [e]
        unfold mPrV
        rw [if_pos rfl, i32_le, i0]; exact z0.1
      · exact Or.inl e
    · rw [if_neg b3] at h
      refine Or.inr ?_
      rw [h, Int32.add_zero, i32_le, i0]
      rw [i32_lt, i0] at b3
      omega
  · rw [if_neg b1] at h; exact Or.inl h
set_option maxHeartbeats 4000000 in
set_option maxRecDepth 100000 in
theorem y_story (l : Launch) (dC : Nat → ClassId) (dI : Nat → Nat → Nat) (q : Nat → ClassId) (h0 : Nat) (d : Nat → Nat) (k : Nat → Int32) (z : gS) (f : xF) (hI : xI q h0 d k z f) (p0 : Int32) (u : mS) (hrp : rep q d u z f) (hk0 : k 0 = u.1 3) (hk1 : k 1 = u.1 28) (hk2 : k 2 = u.1 38) (hk3 : k 3 = u.1 39) (hz0 : (z.2 h0).2.1 = 0) (hnw : nwI u) (sz : Nat) : Met l yX11_story wsX11_story ({ frames := 3, cells := 5, slots := 110, locals := 68 }) (va_Pc [.ref h0, .int p0] (fun U => U.heap.size = sz ∧ PX dC dI (va_pl z.1 f) (xT q) U ∧ va_D (fun _ => True) (va_pl z.1 f))) (va_Qi (fun (r : Int32) (w : xU) => mkP q h0 d k z f u (mStory u p0) r w) (fun (w : xU) t => va_P (dC, dI) vwCl (va_pl w.2.1.1 w.2.2) t.heap ∧ va_D (va_A (va_pl z.1 f) sz) (va_pl w.2.1.1 w.2.2)) (va_A (va_pl z.1 f) sz)) 5 110 (va_A (va_pl z.1 f) sz) := by
  refine Met.ofW (cc := cX11_story) (maxL := 2) (ret := (some .int)) (by decide) rfl ?_
  intro p e s m args below meth c s₁ B hml hv
  obtain ⟨rfl, hsz, ⟨⟨hP, hK, hN⟩, hXN⟩, hD0⟩ := hv
  have hx := B.exec
  have hb := B.bytes
  have hr := B.returns
  have hts := atoms_spec (ws := wsX11_story) B.pre
  have hown : s.vm.findClass RX11 = some m.cls := findClass_of_methodNamed B.named
  have hlocks := B.notSynchronized
  subst hsz
  have hD := hD0.self (sz := s.heap.size)
  generalize hAe : va_A (va_pl z.1 f) s.heap.size = A at hD ⊢
  have hA : ∀ q : Nat, s.heap.size ≤ q → A q := fun q h => by rw [← hAe]; exact Or.inr h
  have hS : va_S A s.heap s.heap [] := va_S.rf
  have hl := lv_entry ([.ref h0, .int p0]) (n := 2) (Nat.le_of_ble_eq_true rfl)
  rw [lg_entry_eq]
  generalize (lg_sl ([.ref h0, .int p0]) ++ List.replicate (2 - (lg_sl ([.ref h0, .int p0])).length) Slot.unset).toArray = ls at hl ⊢
  have hl : lv_has ls 2 [(0, .ref h0), (1, .int p0)] := hl
  have hIo := hI
  refine lv_iload_n hx hb dX11_story_0 rfl (lv_at hl 1 rfl) ?_
  refine lv_iconst (v := 1) hx hb dX11_story_1 (by decide) ?_
  refine lv_bipush (v := 80) hx hb dX11_story_2 (by decide) ?_
  refine vp_callSi (va_runS (As := [.int p0, .int 1, .int 80]) (rest := []) ⟨hx, hb, hml, hown, hts⟩ (x_isWithin l dC dI p0 1 80) (va_cwS 3 hts gX11_story_X11_isWithin rfl rfl rfl zh_X11_isWithin_30 ⟨Nat.le_of_ble_eq_true rfl, Nat.le_of_ble_eq_true rfl⟩) ⟨pw_fb, fun U hU hW => ⟨rfl, pw_to hU hW (hP.sub (ws' := []) [] rfl) (hK.sub (tys' := []) [] rfl) hN⟩⟩ rfl rfl hl.1 rfl (lv_room (Nat.le_of_ble_eq_true rfl)) dX11_story_4 ⟨Nat.le_of_ble_eq_true rfl, Nat.le_of_ble_eq_true rfl⟩).run (fun r hw => ?_)
  rcases Bool.eq_false_or_eq_true (bw p0 1 80) with b_1 | b_1
  ·
    obtain rfl : r = 1 := b_t hw b_1
    refine lv_if_ne (tgt := 12) hx hb dX11_story_7 (by decide) (fun c_2 => ?_) (fun c_2 => absurd c_2 (by decide))
    refine lv_aload_n hx hb dX11_story_12 rfl (lv_at hl 0 rfl) ?_
    refine va_new (ci := 9) (fs := [.int 0, .int 0, .null, .int 0, .null, .int 0, .null, .int 0, .null]) (C := RX10) (T := TX10) (N := 9) hx hb hts zl_X11_story_X10 tyX10 tyX10_ok hown (hts (.classLink RX11 66 RX10) (zat q_wsX11_story k_wsX11_story 161 rfl (by decide +kernel))) (hts (.instantiable RX10 9) (zat q_wsX11_story k_wsX11_story 162 rfl (by decide +kernel))) (hts (.initialized RX10) (zat q_wsX11_story k_wsX11_story 58 rfl (by decide +kernel))) hK hP hD hS hA rfl nwX10 (Nat.le_of_ble_eq_true rfl) (Nat.le_of_ble_eq_true rfl) dX11_story_13 (fun q_3 H hPn hDn hS => ?_)
    have hP := vaP_l hPn
    refine W.widen (k := 1) (n := 9) (Nat.le_of_ble_eq_true rfl) (Nat.le_of_ble_eq_true rfl) ?_
    refine lv_dup hx hb dX11_story_16 rfl ?_
    refine lv_aload_n hx hb dX11_story_17 rfl (lv_at hl 0 rfl) ?_
    obtain ⟨kk_4, hk_5⟩ := pl_at hI.2.1.1.1 hI.2.2.2.1.1
    refine va_get (D := (dC, dI)) (ci := 10) (v := .int (k 0)) (C := RX11) (T := TX11) (N := 9) hx hb hts zl_X11_story_X11 hown hK hP kk_4 hk_5 rfl 3 (by decide) (hts (.fieldLink RX11 24 "PageOne" "itemCount" "I") (zat q_wsX11_story k_wsX11_story 115 rfl (by decide +kernel))) (fun _ h9 => h9) rfl dX11_story_18 ?_
    refine lv_iload_n hx hb dX11_story_21 rfl (lv_at hl 1 rfl) ?_
    have hPc := vaP_r hPn
    have hDc := vaD_r hDn
    have hFc := fr_part hDn hS hA
    refine va_callv (va_runI (As := [.int (k 0), .int p0]) (rest := [.ref q_3, .ref h0]) ⟨hx, hb, hml, hown, hts⟩ (xn_Story l dC dI q_3 (q 0) (q 1) (q 5) (k 0) p0 H.size) (cwI 2 hts gX11_story_X10_init rfl rfl rfl (hts (.initialized RX10) (zat q_wsX11_story k_wsX11_story 58 rfl (by decide +kernel))) (hts (.methodLink RX11 68 yX10_init) (zat q_wsX11_story k_wsX11_story 163 rfl (by decide +kernel))) (hts (.instanceMethod yX10_init) (zat q_wsX11_story k_wsX11_story 164 rfl (by decide +kernel))) rfl zh_X10_init_88 ⟨Nat.le_of_ble_eq_true rfl, Nat.le_of_ble_eq_true rfl⟩) ⟨gw_fb, fun U hU hW => ⟨rfl, by rw [hU], pw_to hU hW hPc (hK.sub (tys' := [(q 0, .int), (q 1, .boolean), (q 5, .object "PageOne$Piece")]) [0, 1, 5] rfl) hN, hDc.weaken (fun _ _ _ _ => trivial)⟩⟩ rfl rfl hl.1 rfl (lv_room (Nat.le_of_ble_eq_true rfl)) dX11_story_22 ⟨Nat.le_of_ble_eq_true rfl, Nat.le_of_ble_eq_true rfl⟩) hS (fun q _ h => hFc q h) hFc (fun u9 t H1 locs ht hvm hw hB hz1 hk1 hS => ?_)
    obtain ⟨qa_6, qa_7, qa_8, qa_9, hP1, hD1⟩ := hB
    rw [ht] at hP1
    obtain ⟨hP, hD⟩ := va_joinQ (X := [(q_3, .inr (9, [.int 0, .int 0, .null, .int 0, .null, .int 0, .null, .int 0, .null]))]) (cx := [(q_3, .inr (9, [.int 0, .int 0, .null, .int 0, .null, .int 0, .null, .int 0, .null]))]) (wr := []) (w1 := [(qa_6, aI (q 0) 5 (fun _ => (-1))), (qa_7, aR (q 5) 6 (fun _ => none)), (qa_8, aI (q 0) 80 (fun _ => 0)), (qa_9, aI (q 1) 10 (fun _ => 0)), (q_3, .inr (9, [.int (k 0), .int 0, .ref qa_7, .int 0, .ref qa_6, .int p0, .ref qa_8, .int 0, .ref qa_9]))]) (pl := va_pl z.1 f) (vaP_swap hPn) (vaD_rotR hDn) [0] [] rfl rfl rfl (fun i hi => absurd hi List.not_mem_nil) hk1 hFc hP1 hD1
    generalize H1 = H at hP hS ⊢
    obtain ⟨hnm_10, hP, hD⟩ := pushC hP hD
    obtain ⟨z_11, ez_11⟩ : ∃ y : gS, y = pz z qa_6 (17, 4000 + (u.1 3).toNatClampNeg, []) := ⟨_, rfl⟩
    obtain ⟨f_12, ef_12⟩ : ∃ y : xF, y = va_up f qa_6 (aI (q 0) 5 (fun _ => (-1))) := ⟨_, rfl⟩
    have hE_13 : zE z z_11 := by rw [ez_11]; exact pz_E hnm_10 _
    have hI : xI q h0 d k z_11 f_12 := by rw [ez_11, ef_12]; exact x_push hI hnm_10 (Or.inr (by decide : (15 : Nat) < 17)) (cO_17 (by rw [pz_s]) ⟨_, rfl⟩)
    rw [show z.1 ++ [qa_6] = z_11.1 from by rw [ez_11]; rfl, ← ef_12] at hP hD
    have ht_14 : tg z_11 qa_6 17 := by rw [ez_11]; exact pz_t _ _ _
    have hEz : zE z z_11 := zE_tr (zE_rf z) hE_13
    have hc_15 : nC z_11 f_12 qa_6 17 (4000 + (u.1 3).toNatClampNeg) (aI (q 0) 5 (fun _ => (-1))) := by rw [ez_11, ef_12]; exact nC_new
    have hoK : oK z f f_12 := by rw [ef_12]; exact oK_push (fun _ _ => rfl) (zE_rf z) hnm_10
    have hEo := hEz
    obtain ⟨hnm_16, hP, hD⟩ := pushC hP hD
    obtain ⟨z_17, ez_17⟩ : ∃ y : gS, y = pz z_11 qa_7 (16, q_3, []) := ⟨_, rfl⟩
    obtain ⟨f_18, ef_18⟩ : ∃ y : xF, y = va_up f_12 qa_7 (aR (q 5) 6 (fun _ => none)) := ⟨_, rfl⟩
    have hE_19 : zE z_11 z_17 := by rw [ez_17]; exact pz_E hnm_16 _
    have hI : xI q h0 d k z_17 f_18 := by rw [ez_17, ef_18]; exact x_push hI hnm_16 (Or.inr (by decide : (15 : Nat) < 16)) (cO_16 (by rw [pz_s]) ⟨6, by decide, by decide, _, rfl, fun _ _ b hb => by cases hb⟩)
    rw [show z_11.1 ++ [qa_7] = z_17.1 from by rw [ez_17]; rfl, ← ef_18] at hP hD
    have hpf9 : f_18 qa_7 = aR (q 5) 6 (fun _ => none) := by rw [ef_18]; exact up_s
    have ho9 : (z_17.2 qa_7).2.1 = q_3 := by rw [ez_17, pz_s]
    have ht_14 := zE_tg hE_19 ht_14
    have ht_20 : tg z_17 qa_7 16 := by rw [ez_17]; exact pz_t _ _ _
    have hEz : zE z z_17 := zE_tr hEz hE_19
    have hc_15 : nC z_17 f_18 qa_6 17 (4000 + (u.1 3).toNatClampNeg) (aI (q 0) 5 (fun _ => (-1))) := by rw [ez_17, ef_18]; exact nC_push hc_15 hnm_16
    have hc_21 : nC z_17 f_18 qa_7 16 (q_3) (aR (q 5) 6 (fun _ => none)) := by rw [ez_17, ef_18]; exact nC_new
    have hoK : oK z f f_18 := by rw [ef_18]; exact oK_push hoK hEo hnm_16
    have hEo := hEz
    obtain ⟨hnm_22, hP, hD⟩ := pushC hP hD
    obtain ⟨z_23, ez_23⟩ : ∃ y : gS, y = pz z_17 qa_8 (18, 5000 + (u.1 3).toNatClampNeg, []) := ⟨_, rfl⟩
    obtain ⟨f_24, ef_24⟩ : ∃ y : xF, y = va_up f_18 qa_8 (aI (q 0) 80 (fun _ => 0)) := ⟨_, rfl⟩
    have hE_25 : zE z_17 z_23 := by rw [ez_23]; exact pz_E hnm_22 _
    have hI : xI q h0 d k z_23 f_24 := by rw [ez_23, ef_24]; exact x_push hI hnm_22 (Or.inr (by decide : (15 : Nat) < 18)) (cO_18 (by rw [pz_s]) ⟨_, rfl⟩)
    rw [show z_17.1 ++ [qa_8] = z_23.1 from by rw [ez_23]; rfl, ← ef_24] at hP hD
    have hpf9 : f_24 qa_7 = aR (q 5) 6 (fun _ => none) := by rw [ef_24, up_o (fun e => hnm_22 (by rw [← e]; exact ht_20.1))]; exact hpf9
    have ho9 : (z_23.2 qa_7).2.1 = q_3 := by rw [zE_o hE_25 ht_20.1]; exact ho9
    have ht_14 := zE_tg hE_25 ht_14
    have ht_20 := zE_tg hE_25 ht_20
    have ht_26 : tg z_23 qa_8 18 := by rw [ez_23]; exact pz_t _ _ _
    have hEz : zE z z_23 := zE_tr hEz hE_25
    have hc_15 : nC z_23 f_24 qa_6 17 (4000 + (u.1 3).toNatClampNeg) (aI (q 0) 5 (fun _ => (-1))) := by rw [ez_23, ef_24]; exact nC_push hc_15 hnm_22
    have hc_21 : nC z_23 f_24 qa_7 16 (q_3) (aR (q 5) 6 (fun _ => none)) := by rw [ez_23, ef_24]; exact nC_push hc_21 hnm_22
    have hc_27 : nC z_23 f_24 qa_8 18 (5000 + (u.1 3).toNatClampNeg) (aI (q 0) 80 (fun _ => 0)) := by rw [ez_23, ef_24]; exact nC_new
    have hoK : oK z f f_24 := by rw [ef_24]; exact oK_push hoK hEo hnm_22
    have hEo := hEz
    obtain ⟨hnm_28, hP, hD⟩ := pushC hP hD
    obtain ⟨z_29, ez_29⟩ : ∃ y : gS, y = pz z_23 qa_9 (19, 6000 + (u.1 3).toNatClampNeg, []) := ⟨_, rfl⟩
    obtain ⟨f_30, ef_30⟩ : ∃ y : xF, y = va_up f_24 qa_9 (aI (q 1) 10 (fun _ => 0)) := ⟨_, rfl⟩
    have hE_31 : zE z_23 z_29 := by rw [ez_29]; exact pz_E hnm_28 _
    have hI : xI q h0 d k z_29 f_30 := by rw [ez_29, ef_30]; exact x_push hI hnm_28 (Or.inr (by decide : (15 : Nat) < 19)) (cO_19 (by rw [pz_s]) ⟨_, rfl⟩)
    rw [show z_23.1 ++ [qa_9] = z_29.1 from by rw [ez_29]; rfl, ← ef_30] at hP hD
    have hpf9 : f_30 qa_7 = aR (q 5) 6 (fun _ => none) := by rw [ef_30, up_o (fun e => hnm_28 (by rw [← e]; exact ht_20.1))]; exact hpf9
    have ho9 : (z_29.2 qa_7).2.1 = q_3 := by rw [zE_o hE_31 ht_20.1]; exact ho9
    have ht_14 := zE_tg hE_31 ht_14
    have ht_20 := zE_tg hE_31 ht_20
    have ht_26 := zE_tg hE_31 ht_26
    have ht_32 : tg z_29 qa_9 19 := by rw [ez_29]; exact pz_t _ _ _
    have hEz : zE z z_29 := zE_tr hEz hE_31
    have hc_15 : nC z_29 f_30 qa_6 17 (4000 + (u.1 3).toNatClampNeg) (aI (q 0) 5 (fun _ => (-1))) := by rw [ez_29, ef_30]; exact nC_push hc_15 hnm_28
    have hc_21 : nC z_29 f_30 qa_7 16 (q_3) (aR (q 5) 6 (fun _ => none)) := by rw [ez_29, ef_30]; exact nC_push hc_21 hnm_28
    have hc_27 : nC z_29 f_30 qa_8 18 (5000 + (u.1 3).toNatClampNeg) (aI (q 0) 80 (fun _ => 0)) := by rw [ez_29, ef_30]; exact nC_push hc_27 hnm_28
    have hc_33 : nC z_29 f_30 qa_9 19 (6000 + (u.1 3).toNatClampNeg) (aI (q 1) 10 (fun _ => 0)) := by rw [ez_29, ef_30]; exact nC_new
    have hoK : oK z f f_30 := by rw [ef_30]; exact oK_push hoK hEo hnm_28
    have hEo := hEz
    obtain ⟨hnm_34, hP, hD⟩ := pushC hP hD
    obtain ⟨z_35, ez_35⟩ : ∃ y : gS, y = pz z_29 q_3 (15, 2000 + (u.1 3).toNatClampNeg, []) := ⟨_, rfl⟩
    obtain ⟨f_36, ef_36⟩ : ∃ y : xF, y = va_up f_30 q_3 (.inr (9, [.int (k 0), .int 0, .ref qa_7, .int 0, .ref qa_6, .int p0, .ref qa_8, .int 0, .ref qa_9])) := ⟨_, rfl⟩
    have hE_37 : zE z_29 z_35 := by rw [ez_35]; exact pz_E hnm_34 _
    have hI : xI q h0 d k z_35 f_36 := by rw [ez_35, ef_36]; exact x_pushIo (n := 6) hI hnm_34 (by decide) ht_20 ho9 ht_14 hpf9 (by decide) ⟨fun x => absurd x (by decide), fun x => absurd x (by decide), fun x => absurd x (by decide), fun x => absurd x (by decide), fun x => absurd x (by decide), fun _ => ⟨_, _, _, _, rfl, zE_tg (pz_E hnm_34 _) ht_26, by decide, zE_tg (pz_E hnm_34 _) ht_32⟩⟩
    rw [show z_29.1 ++ [q_3] = z_35.1 from by rw [ez_35]; rfl, ← ef_36] at hP hD
    have hpf9 : f_36 qa_7 = aR (q 5) 6 (fun _ => none) := by rw [ef_36, up_o (fun e => hnm_34 (by rw [← e]; exact ht_20.1))]; exact hpf9
    have ho9 : (z_35.2 qa_7).2.1 = q_3 := by rw [zE_o hE_37 ht_20.1]; exact ho9
    have ht_14 := zE_tg hE_37 ht_14
    have ht_20 := zE_tg hE_37 ht_20
    have ht_26 := zE_tg hE_37 ht_26
    have ht_32 := zE_tg hE_37 ht_32
    have ht_38 : tg z_35 q_3 15 := by rw [ez_35]; exact pz_t _ _ _
    have hEz : zE z z_35 := zE_tr hEz hE_37
    have hc_15 : nC z_35 f_36 qa_6 17 (4000 + (u.1 3).toNatClampNeg) (aI (q 0) 5 (fun _ => (-1))) := by rw [ez_35, ef_36]; exact nC_push hc_15 hnm_34
    have hc_21 : nC z_35 f_36 qa_7 16 (q_3) (aR (q 5) 6 (fun _ => none)) := by rw [ez_35, ef_36]; exact nC_push hc_21 hnm_34
    have hc_27 : nC z_35 f_36 qa_8 18 (5000 + (u.1 3).toNatClampNeg) (aI (q 0) 80 (fun _ => 0)) := by rw [ez_35, ef_36]; exact nC_push hc_27 hnm_34
    have hc_33 : nC z_35 f_36 qa_9 19 (6000 + (u.1 3).toNatClampNeg) (aI (q 1) 10 (fun _ => 0)) := by rw [ez_35, ef_36]; exact nC_push hc_33 hnm_34
    have hc_39 : nC z_35 f_36 q_3 15 (2000 + (u.1 3).toNatClampNeg) (.inr (9, [.int (k 0), .int 0, .ref qa_7, .int 0, .ref qa_6, .int p0, .ref qa_8, .int 0, .ref qa_9])) := by rw [ez_35, ef_36]; exact nC_new
    have hoK : oK z f f_36 := by rw [ef_36]; exact oK_push hoK hEo hnm_34
    refine W.widen (k := 5) (n := 110) (Nat.le_of_ble_eq_true rfl) (Nat.le_of_ble_eq_true rfl) ?_
    refine W.eq (g2 := F0 m 25 ls [.ref q_3, .ref h0]) rfl ?_
    obtain ⟨kk_40, hk_41⟩ := pl_at hI.2.1.1.1 hI.2.2.2.1.1
    have hFc := fr_all hD hS hA
    refine va_calli (va_runV (As := [.ref q_3]) (rest := []) ⟨hx, hb, hml, hown, hts⟩ (y_enter l dC dI q h0 d k z_35 f_36 hI q_3 (tg_itm ht_38 (by decide)) (k 0) 0 0 qa_7 qa_6 [.int p0, .ref qa_8, .int 0, .ref qa_9] (by rw [hc_39.2.2, hc_39.1.2]; rfl) H.size) (cwV 1 hts gX11_story_X11_enter rfl rfl rfl zh_X11_enter_87 ⟨Nat.le_of_ble_eq_true rfl, Nat.le_of_ble_eq_true rfl⟩) ⟨gx_fb, va_recv hK hP (ci := 10) (q0 := kk_40) rfl hk_41, fun U hU hW => ⟨rfl, by rw [hU], px_to hU hW hP hK hN hXN, hD.weaken (fun _ _ _ _ => trivial)⟩⟩ rfl rfl hl.1 rfl (lv_room (Nat.le_of_ble_eq_true rfl)) dX11_story_25 ⟨Nat.le_of_ble_eq_true rfl, Nat.le_of_ble_eq_true rfl⟩) hS (fun q _ h => hFc q h) hFc (fun r w_42 t H1 locs ht hvm hw hB hz1 hk1 hS => ?_)
    obtain ⟨hP, hD1⟩ := hB
    rw [ht] at hP
    rw [hw.1] at hP hD1
    have hD := hD1.weaken (fun _ q _ h => hFc q.1 h)
    have hI := hw.2.1
    have hw0 := hw
    generalize w_42.1 = k_44 at hI hw0
    generalize w_42.2.2 = f_43 at hP hD hI hw0
    generalize H1 = H at hP hS ⊢
    exact W.iret (v := r) hx hb hr (fun t ht hW => ⟨⟨r, (k_44, z_35, f_43), rfl, (mk_Story hIo hrp hk0 hz0 hnw hI hEz hoK hw0.2.2 hc_39 hc_21 hc_15 hc_27 hc_33 b_1), by rw [ht]; exact hP, hD⟩, hS.F ht⟩) hS.2.2 dX11_story_28
  ·
    obtain rfl : r = 0 := b_f hw b_1
    refine lv_if_ne (tgt := 12) hx hb dX11_story_7 (by decide) (fun c_45 => absurd (by decide) c_45) (fun c_45 => ?_)
    refine lv_iconst (v := (-1)) hx hb dX11_story_10 (by decide) ?_
    refine W.widen (k := 5) (n := 110) (Nat.le_of_ble_eq_true rfl) (Nat.le_of_ble_eq_true rfl) ?_
    exact W.iret (v := (-1)) hx hb hr (fun t ht hW => ⟨⟨(-1), (k, z, f), rfl, (mkP_0 hI hrp hk0 (st_n (bne b_1))), by rw [ht]; exact hP, hD⟩, hS.F ht⟩) hS.2.2 dX11_story_11
set_option maxHeartbeats 4000000 in
set_option maxRecDepth 100000 in
theorem y_picture (l : Launch) (dC : Nat → ClassId) (dI : Nat → Nat → Nat) (q : Nat → ClassId) (h0 : Nat) (d : Nat → Nat) (k : Nat → Int32) (z : gS) (f : xF) (hI : xI q h0 d k z f) (u : mS) (hrp : rep q d u z f) (hk0 : k 0 = u.1 3) (hk1 : k 1 = u.1 28) (hk2 : k 2 = u.1 38) (hk3 : k 3 = u.1 39) (hz0 : (z.2 h0).2.1 = 0) (hnw : nwI u) (sz : Nat) : Met l yX11_picture wsX11_picture ({ frames := 3, cells := 5, slots := 22, locals := 67 }) (va_Pc [.ref h0] (fun U => U.heap.size = sz ∧ PX dC dI (va_pl z.1 f) (xT q) U ∧ va_D (fun _ => True) (va_pl z.1 f))) (va_Qi (fun (r : Int32) (w : xU) => mkP q h0 d k z f u (mPicture u) r w) (fun (w : xU) t => va_P (dC, dI) vwCl (va_pl w.2.1.1 w.2.2) t.heap ∧ va_D (va_A (va_pl z.1 f) sz) (va_pl w.2.1.1 w.2.2)) (va_A (va_pl z.1 f) sz)) 5 22 (va_A (va_pl z.1 f) sz) := by
  refine Met.ofW (cc := cX11_picture) (maxL := 1) (ret := (some .int)) (by decide) rfl ?_
  intro p e s m args below meth c s₁ B hml hv
  obtain ⟨rfl, hsz, ⟨⟨hP, hK, hN⟩, hXN⟩, hD0⟩ := hv
  have hx := B.exec
  have hb := B.bytes
  have hr := B.returns
  have hts := atoms_spec (ws := wsX11_picture) B.pre
  have hown : s.vm.findClass RX11 = some m.cls := findClass_of_methodNamed B.named
  have hlocks := B.notSynchronized
  subst hsz
  have hD := hD0.self (sz := s.heap.size)
  generalize hAe : va_A (va_pl z.1 f) s.heap.size = A at hD ⊢
  have hA : ∀ q : Nat, s.heap.size ≤ q → A q := fun q h => by rw [← hAe]; exact Or.inr h
  have hS : va_S A s.heap s.heap [] := va_S.rf
  have hl := lv_entry ([.ref h0]) (n := 1) (Nat.le_of_ble_eq_true rfl)
  rw [lg_entry_eq]
  generalize (lg_sl ([.ref h0]) ++ List.replicate (1 - (lg_sl ([.ref h0])).length) Slot.unset).toArray = ls at hl ⊢
  have hl : lv_has ls 1 [(0, .ref h0)] := hl
  have hIo := hI
  refine lv_aload_n hx hb dX11_picture_0 rfl (lv_at hl 0 rfl) ?_
  refine va_new (ci := 6) (fs := [.int 0, .int 0, .null, .int 0, .null, .null, .null, .int 0]) (C := RX7) (T := TX7) (N := 8) hx hb hts zl_X11_picture_X7 tyX7 tyX7_ok hown (hts (.classLink RX11 88 RX7) (zat q_wsX11_picture k_wsX11_picture 268 rfl (by decide +kernel))) (hts (.instantiable RX7 8) (zat q_wsX11_picture k_wsX11_picture 269 rfl (by decide +kernel))) (hts (.initialized RX7) (zat q_wsX11_picture k_wsX11_picture 60 rfl (by decide +kernel))) hK hP hD hS hA rfl nwX7 (Nat.le_of_ble_eq_true rfl) (Nat.le_of_ble_eq_true rfl) dX11_picture_1 (fun q_1 H hPn hDn hS => ?_)
  have hP := vaP_l hPn
  refine W.widen (k := 1) (n := 8) (Nat.le_of_ble_eq_true rfl) (Nat.le_of_ble_eq_true rfl) ?_
  refine lv_dup hx hb dX11_picture_4 rfl ?_
  refine lv_aload_n hx hb dX11_picture_5 rfl (lv_at hl 0 rfl) ?_
  obtain ⟨kk_2, hk_3⟩ := pl_at hI.2.1.1.1 hI.2.2.2.1.1
  refine va_get (D := (dC, dI)) (ci := 10) (v := .int (k 0)) (C := RX11) (T := TX11) (N := 9) hx hb hts zl_X11_picture_X11 hown hK hP kk_2 hk_3 rfl 3 (by decide) (hts (.fieldLink RX11 24 "PageOne" "itemCount" "I") (zat q_wsX11_picture k_wsX11_picture 115 rfl (by decide +kernel))) (fun _ h9 => h9) rfl dX11_picture_6 ?_
  have hPc := vaP_r hPn
  have hDc := vaD_r hDn
  have hFc := fr_part hDn hS hA
  refine va_callv (va_runI (As := [.int (k 0)]) (rest := [.ref q_1, .ref h0]) ⟨hx, hb, hml, hown, hts⟩ (xn_Picture l dC dI q_1 (q 0) (q 5) (k 0) H.size) (cwI 1 hts gX11_picture_X7_init rfl rfl rfl (hts (.initialized RX7) (zat q_wsX11_picture k_wsX11_picture 60 rfl (by decide +kernel))) (hts (.methodLink RX11 90 yX7_init) (zat q_wsX11_picture k_wsX11_picture 270 rfl (by decide +kernel))) (hts (.instanceMethod yX7_init) (zat q_wsX11_picture k_wsX11_picture 271 rfl (by decide +kernel))) rfl zh_X7_init_89 ⟨Nat.le_of_ble_eq_true rfl, Nat.le_of_ble_eq_true rfl⟩) ⟨gw_fb, fun U hU hW => ⟨rfl, by rw [hU], pw_to hU hW hPc (hK.sub (tys' := [(q 0, .int), (q 5, .object "PageOne$Piece")]) [0, 5] rfl) hN, hDc.weaken (fun _ _ _ _ => trivial)⟩⟩ rfl rfl hl.1 rfl (lv_room (Nat.le_of_ble_eq_true rfl)) dX11_picture_9 ⟨Nat.le_of_ble_eq_true rfl, Nat.le_of_ble_eq_true rfl⟩) hS (fun q _ h => hFc q h) hFc (fun u9 t H1 locs ht hvm hw hB hz1 hk1 hS => ?_)
  obtain ⟨qa_4, qa_5, qa_6, qa_7, hP1, hD1⟩ := hB
  rw [ht] at hP1
  obtain ⟨hP, hD⟩ := va_joinQ (X := [(q_1, .inr (6, [.int 0, .int 0, .null, .int 0, .null, .null, .null, .int 0]))]) (cx := [(q_1, .inr (6, [.int 0, .int 0, .null, .int 0, .null, .null, .null, .int 0]))]) (wr := []) (w1 := [(qa_4, aI (q 0) 5 (fun _ => (-1))), (qa_5, aR (q 5) 1 (fun _ => none)), (qa_6, aI (q 0) 4 (fun _ => 0)), (qa_7, aI (q 0) 4 (fun _ => 0)), (q_1, .inr (6, [.int (k 0), .int 2, .ref qa_5, .int 0, .ref qa_4, .ref qa_6, .ref qa_7, .int 0]))]) (pl := va_pl z.1 f) (vaP_swap hPn) (vaD_rotR hDn) [0] [] rfl rfl rfl (fun i hi => absurd hi List.not_mem_nil) hk1 hFc hP1 hD1
  generalize H1 = H at hP hS ⊢
  obtain ⟨hnm_8, hP, hD⟩ := pushC hP hD
  obtain ⟨z_9, ez_9⟩ : ∃ y : gS, y = pz z qa_4 (17, 4000 + (u.1 3).toNatClampNeg, []) := ⟨_, rfl⟩
  obtain ⟨f_10, ef_10⟩ : ∃ y : xF, y = va_up f qa_4 (aI (q 0) 5 (fun _ => (-1))) := ⟨_, rfl⟩
  have hE_11 : zE z z_9 := by rw [ez_9]; exact pz_E hnm_8 _
  have hI : xI q h0 d k z_9 f_10 := by rw [ez_9, ef_10]; exact x_push hI hnm_8 (Or.inr (by decide : (15 : Nat) < 17)) (cO_17 (by rw [pz_s]) ⟨_, rfl⟩)
  rw [show z.1 ++ [qa_4] = z_9.1 from by rw [ez_9]; rfl, ← ef_10] at hP hD
  have ht_12 : tg z_9 qa_4 17 := by rw [ez_9]; exact pz_t _ _ _
  have hEz : zE z z_9 := zE_tr (zE_rf z) hE_11
  have hc_13 : nC z_9 f_10 qa_4 17 (4000 + (u.1 3).toNatClampNeg) (aI (q 0) 5 (fun _ => (-1))) := by rw [ez_9, ef_10]; exact nC_new
  have hoK : oK z f f_10 := by rw [ef_10]; exact oK_push (fun _ _ => rfl) (zE_rf z) hnm_8
  have hEo := hEz
  obtain ⟨hnm_14, hP, hD⟩ := pushC hP hD
  obtain ⟨z_15, ez_15⟩ : ∃ y : gS, y = pz z_9 qa_5 (16, q_1, []) := ⟨_, rfl⟩
  obtain ⟨f_16, ef_16⟩ : ∃ y : xF, y = va_up f_10 qa_5 (aR (q 5) 1 (fun _ => none)) := ⟨_, rfl⟩
  have hE_17 : zE z_9 z_15 := by rw [ez_15]; exact pz_E hnm_14 _
  have hI : xI q h0 d k z_15 f_16 := by rw [ez_15, ef_16]; exact x_push hI hnm_14 (Or.inr (by decide : (15 : Nat) < 16)) (cO_16 (by rw [pz_s]) ⟨1, by decide, by decide, _, rfl, fun _ _ b hb => by cases hb⟩)
  rw [show z_9.1 ++ [qa_5] = z_15.1 from by rw [ez_15]; rfl, ← ef_16] at hP hD
  have hpf9 : f_16 qa_5 = aR (q 5) 1 (fun _ => none) := by rw [ef_16]; exact up_s
  have ho9 : (z_15.2 qa_5).2.1 = q_1 := by rw [ez_15, pz_s]
  have ht_12 := zE_tg hE_17 ht_12
  have ht_18 : tg z_15 qa_5 16 := by rw [ez_15]; exact pz_t _ _ _
  have hEz : zE z z_15 := zE_tr hEz hE_17
  have hc_13 : nC z_15 f_16 qa_4 17 (4000 + (u.1 3).toNatClampNeg) (aI (q 0) 5 (fun _ => (-1))) := by rw [ez_15, ef_16]; exact nC_push hc_13 hnm_14
  have hc_19 : nC z_15 f_16 qa_5 16 (q_1) (aR (q 5) 1 (fun _ => none)) := by rw [ez_15, ef_16]; exact nC_new
  have hoK : oK z f f_16 := by rw [ef_16]; exact oK_push hoK hEo hnm_14
  have hEo := hEz
  obtain ⟨hnm_20, hP, hD⟩ := pushC hP hD
  obtain ⟨z_21, ez_21⟩ : ∃ y : gS, y = pz z_15 qa_6 (20, 5000 + (u.1 3).toNatClampNeg, []) := ⟨_, rfl⟩
  obtain ⟨f_22, ef_22⟩ : ∃ y : xF, y = va_up f_16 qa_6 (aI (q 0) 4 (fun _ => 0)) := ⟨_, rfl⟩
  have hE_23 : zE z_15 z_21 := by rw [ez_21]; exact pz_E hnm_20 _
  have hI : xI q h0 d k z_21 f_22 := by rw [ez_21, ef_22]; exact x_push hI hnm_20 (Or.inr (by decide : (15 : Nat) < 20)) (cO_20 (by rw [pz_s]) ⟨_, rfl⟩)
  rw [show z_15.1 ++ [qa_6] = z_21.1 from by rw [ez_21]; rfl, ← ef_22] at hP hD
  have hpf9 : f_22 qa_5 = aR (q 5) 1 (fun _ => none) := by rw [ef_22, up_o (fun e => hnm_20 (by rw [← e]; exact ht_18.1))]; exact hpf9
  have ho9 : (z_21.2 qa_5).2.1 = q_1 := by rw [zE_o hE_23 ht_18.1]; exact ho9
  have ht_12 := zE_tg hE_23 ht_12
  have ht_18 := zE_tg hE_23 ht_18
  have ht_24 : tg z_21 qa_6 20 := by rw [ez_21]; exact pz_t _ _ _
  have hEz : zE z z_21 := zE_tr hEz hE_23
  have hc_13 : nC z_21 f_22 qa_4 17 (4000 + (u.1 3).toNatClampNeg) (aI (q 0) 5 (fun _ => (-1))) := by rw [ez_21, ef_22]; exact nC_push hc_13 hnm_20
  have hc_19 : nC z_21 f_22 qa_5 16 (q_1) (aR (q 5) 1 (fun _ => none)) := by rw [ez_21, ef_22]; exact nC_push hc_19 hnm_20
  have hc_25 : nC z_21 f_22 qa_6 20 (5000 + (u.1 3).toNatClampNeg) (aI (q 0) 4 (fun _ => 0)) := by rw [ez_21, ef_22]; exact nC_new
  have hoK : oK z f f_22 := by rw [ef_22]; exact oK_push hoK hEo hnm_20
  have hEo := hEz
  obtain ⟨hnm_26, hP, hD⟩ := pushC hP hD
  obtain ⟨z_27, ez_27⟩ : ∃ y : gS, y = pz z_21 qa_7 (20, 6000 + (u.1 3).toNatClampNeg, []) := ⟨_, rfl⟩
  obtain ⟨f_28, ef_28⟩ : ∃ y : xF, y = va_up f_22 qa_7 (aI (q 0) 4 (fun _ => 0)) := ⟨_, rfl⟩
  have hE_29 : zE z_21 z_27 := by rw [ez_27]; exact pz_E hnm_26 _
  have hI : xI q h0 d k z_27 f_28 := by rw [ez_27, ef_28]; exact x_push hI hnm_26 (Or.inr (by decide : (15 : Nat) < 20)) (cO_20 (by rw [pz_s]) ⟨_, rfl⟩)
  rw [show z_21.1 ++ [qa_7] = z_27.1 from by rw [ez_27]; rfl, ← ef_28] at hP hD
  have hpf9 : f_28 qa_5 = aR (q 5) 1 (fun _ => none) := by rw [ef_28, up_o (fun e => hnm_26 (by rw [← e]; exact ht_18.1))]; exact hpf9
  have ho9 : (z_27.2 qa_5).2.1 = q_1 := by rw [zE_o hE_29 ht_18.1]; exact ho9
  have ht_12 := zE_tg hE_29 ht_12
  have ht_18 := zE_tg hE_29 ht_18
  have ht_24 := zE_tg hE_29 ht_24
  have ht_30 : tg z_27 qa_7 20 := by rw [ez_27]; exact pz_t _ _ _
  have hEz : zE z z_27 := zE_tr hEz hE_29
  have hc_13 : nC z_27 f_28 qa_4 17 (4000 + (u.1 3).toNatClampNeg) (aI (q 0) 5 (fun _ => (-1))) := by rw [ez_27, ef_28]; exact nC_push hc_13 hnm_26
  have hc_19 : nC z_27 f_28 qa_5 16 (q_1) (aR (q 5) 1 (fun _ => none)) := by rw [ez_27, ef_28]; exact nC_push hc_19 hnm_26
  have hc_25 : nC z_27 f_28 qa_6 20 (5000 + (u.1 3).toNatClampNeg) (aI (q 0) 4 (fun _ => 0)) := by rw [ez_27, ef_28]; exact nC_push hc_25 hnm_26
  have hc_31 : nC z_27 f_28 qa_7 20 (6000 + (u.1 3).toNatClampNeg) (aI (q 0) 4 (fun _ => 0)) := by rw [ez_27, ef_28]; exact nC_new
  have hoK : oK z f f_28 := by rw [ef_28]; exact oK_push hoK hEo hnm_26
  have hEo := hEz
  obtain ⟨hnm_32, hP, hD⟩ := pushC hP hD
  obtain ⟨z_33, ez_33⟩ : ∃ y : gS, y = pz z_27 q_1 (14, 2000 + (u.1 3).toNatClampNeg, []) := ⟨_, rfl⟩
  obtain ⟨f_34, ef_34⟩ : ∃ y : xF, y = va_up f_28 q_1 (.inr (6, [.int (k 0), .int 2, .ref qa_5, .int 0, .ref qa_4, .ref qa_6, .ref qa_7, .int 0])) := ⟨_, rfl⟩
  have hE_35 : zE z_27 z_33 := by rw [ez_33]; exact pz_E hnm_32 _
  have hI : xI q h0 d k z_33 f_34 := by rw [ez_33, ef_34]; exact x_pushIo (n := 1) hI hnm_32 (by decide) ht_18 ho9 ht_12 hpf9 (by decide) ⟨fun x => absurd x (by decide), fun x => absurd x (by decide), fun x => absurd x (by decide), fun x => absurd x (by decide), fun _ => ⟨_, _, _, rfl, zE_tg (pz_E hnm_32 _) ht_24, zE_tg (pz_E hnm_32 _) ht_30, by decide⟩, fun x => absurd x (by decide)⟩
  rw [show z_27.1 ++ [q_1] = z_33.1 from by rw [ez_33]; rfl, ← ef_34] at hP hD
  have hpf9 : f_34 qa_5 = aR (q 5) 1 (fun _ => none) := by rw [ef_34, up_o (fun e => hnm_32 (by rw [← e]; exact ht_18.1))]; exact hpf9
  have ho9 : (z_33.2 qa_5).2.1 = q_1 := by rw [zE_o hE_35 ht_18.1]; exact ho9
  have ht_12 := zE_tg hE_35 ht_12
  have ht_18 := zE_tg hE_35 ht_18
  have ht_24 := zE_tg hE_35 ht_24
  have ht_30 := zE_tg hE_35 ht_30
  have ht_36 : tg z_33 q_1 14 := by rw [ez_33]; exact pz_t _ _ _
  have hEz : zE z z_33 := zE_tr hEz hE_35
  have hc_13 : nC z_33 f_34 qa_4 17 (4000 + (u.1 3).toNatClampNeg) (aI (q 0) 5 (fun _ => (-1))) := by rw [ez_33, ef_34]; exact nC_push hc_13 hnm_32
  have hc_19 : nC z_33 f_34 qa_5 16 (q_1) (aR (q 5) 1 (fun _ => none)) := by rw [ez_33, ef_34]; exact nC_push hc_19 hnm_32
  have hc_25 : nC z_33 f_34 qa_6 20 (5000 + (u.1 3).toNatClampNeg) (aI (q 0) 4 (fun _ => 0)) := by rw [ez_33, ef_34]; exact nC_push hc_25 hnm_32
  have hc_31 : nC z_33 f_34 qa_7 20 (6000 + (u.1 3).toNatClampNeg) (aI (q 0) 4 (fun _ => 0)) := by rw [ez_33, ef_34]; exact nC_push hc_31 hnm_32
  have hc_37 : nC z_33 f_34 q_1 14 (2000 + (u.1 3).toNatClampNeg) (.inr (6, [.int (k 0), .int 2, .ref qa_5, .int 0, .ref qa_4, .ref qa_6, .ref qa_7, .int 0])) := by rw [ez_33, ef_34]; exact nC_new
  have hoK : oK z f f_34 := by rw [ef_34]; exact oK_push hoK hEo hnm_32
  refine W.widen (k := 5) (n := 22) (Nat.le_of_ble_eq_true rfl) (Nat.le_of_ble_eq_true rfl) ?_
  refine W.eq (g2 := F0 m 12 ls [.ref q_1, .ref h0]) rfl ?_
  obtain ⟨kk_38, hk_39⟩ := pl_at hI.2.1.1.1 hI.2.2.2.1.1
  have hFc := fr_all hD hS hA
  refine va_calli (va_runV (As := [.ref q_1]) (rest := []) ⟨hx, hb, hml, hown, hts⟩ (y_enter l dC dI q h0 d k z_33 f_34 hI q_1 (tg_itm ht_36 (by decide)) (k 0) 2 0 qa_5 qa_4 [.ref qa_6, .ref qa_7, .int 0] (by rw [hc_37.2.2, hc_37.1.2]; rfl) H.size) (cwV 1 hts gX11_picture_X11_enter rfl rfl rfl zh_X11_enter_87 ⟨Nat.le_of_ble_eq_true rfl, Nat.le_of_ble_eq_true rfl⟩) ⟨gx_fb, va_recv hK hP (ci := 10) (q0 := kk_38) rfl hk_39, fun U hU hW => ⟨rfl, by rw [hU], px_to hU hW hP hK hN hXN, hD.weaken (fun _ _ _ _ => trivial)⟩⟩ rfl rfl hl.1 rfl (lv_room (Nat.le_of_ble_eq_true rfl)) dX11_picture_12 ⟨Nat.le_of_ble_eq_true rfl, Nat.le_of_ble_eq_true rfl⟩) hS (fun q _ h => hFc q h) hFc (fun r w_40 t H1 locs ht hvm hw hB hz1 hk1 hS => ?_)
  obtain ⟨hP, hD1⟩ := hB
  rw [ht] at hP
  rw [hw.1] at hP hD1
  have hD := hD1.weaken (fun _ q _ h => hFc q.1 h)
  have hI := hw.2.1
  have hw0 := hw
  generalize w_40.1 = k_42 at hI hw0
  generalize w_40.2.2 = f_41 at hP hD hI hw0
  generalize H1 = H at hP hS ⊢
  exact W.iret (v := r) hx hb hr (fun t ht hW => ⟨⟨r, (k_42, z_33, f_41), rfl, (mk_Picture hIo hrp hk0 hz0 hnw hI hEz hoK hw0.2.2 hc_37 hc_19 hc_13 hc_25 hc_31), by rw [ht]; exact hP, hD⟩, hS.F ht⟩) hS.2.2 dX11_picture_15
set_option maxHeartbeats 4000000 in
set_option maxRecDepth 100000 in
theorem y_filler (l : Launch) (dC : Nat → ClassId) (dI : Nat → Nat → Nat) (q : Nat → ClassId) (h0 : Nat) (d : Nat → Nat) (k : Nat → Int32) (z : gS) (f : xF) (hI : xI q h0 d k z f) (p0 p1 : Int32) (u : mS) (hrp : rep q d u z f) (hk0 : k 0 = u.1 3) (hk1 : k 1 = u.1 28) (hk2 : k 2 = u.1 38) (hk3 : k 3 = u.1 39) (hz0 : (z.2 h0).2.1 = 0) (hnw : nwI u) (sz : Nat) : Met l yX11_filler wsX11_filler ({ frames := 3, cells := 3, slots := 13, locals := 69 }) (va_Pc [.ref h0, .int p0, .int p1] (fun U => U.heap.size = sz ∧ PX dC dI (va_pl z.1 f) (xT q) U ∧ va_D (fun _ => True) (va_pl z.1 f))) (va_Qi (fun (r : Int32) (w : xU) => mkP q h0 d k z f u (mFiller u p0 p1) r w) (fun (w : xU) t => va_P (dC, dI) vwCl (va_pl w.2.1.1 w.2.2) t.heap ∧ va_D (va_A (va_pl z.1 f) sz) (va_pl w.2.1.1 w.2.2)) (va_A (va_pl z.1 f) sz)) 3 13 (va_A (va_pl z.1 f) sz) := by
  refine Met.ofW (cc := cX11_filler) (maxL := 3) (ret := (some .int)) (by decide) rfl ?_
  intro p e s m args below meth c s₁ B hml hv
  obtain ⟨rfl, hsz, ⟨⟨hP, hK, hN⟩, hXN⟩, hD0⟩ := hv
  have hx := B.exec
  have hb := B.bytes
  have hr := B.returns
  have hts := atoms_spec (ws := wsX11_filler) B.pre
  have hown : s.vm.findClass RX11 = some m.cls := findClass_of_methodNamed B.named
  have hlocks := B.notSynchronized
  subst hsz
  have hD := hD0.self (sz := s.heap.size)
  generalize hAe : va_A (va_pl z.1 f) s.heap.size = A at hD ⊢
  have hA : ∀ q : Nat, s.heap.size ≤ q → A q := fun q h => by rw [← hAe]; exact Or.inr h
  have hS : va_S A s.heap s.heap [] := va_S.rf
  have hl := lv_entry ([.ref h0, .int p0, .int p1]) (n := 3) (Nat.le_of_ble_eq_true rfl)
  rw [lg_entry_eq]
  generalize (lg_sl ([.ref h0, .int p0, .int p1]) ++ List.replicate (3 - (lg_sl ([.ref h0, .int p0, .int p1])).length) Slot.unset).toArray = ls at hl ⊢
  have hl : lv_has ls 3 [(0, .ref h0), (1, .int p0), (2, .int p1)] := hl
  have hIo := hI
  refine lv_iload_n hx hb dX11_filler_0 rfl (lv_at hl 2 rfl) ?_
  refine lv_iconst (v := 1) hx hb dX11_filler_1 (by decide) ?_
  refine lv_bipush (v := 60) hx hb dX11_filler_2 (by decide) ?_
  refine vp_callSi (va_runS (As := [.int p1, .int 1, .int 60]) (rest := []) ⟨hx, hb, hml, hown, hts⟩ (x_isWithin l dC dI p1 1 60) (va_cwS 3 hts gX11_filler_X11_isWithin rfl rfl rfl zh_X11_isWithin_30 ⟨Nat.le_of_ble_eq_true rfl, Nat.le_of_ble_eq_true rfl⟩) ⟨pw_fb, fun U hU hW => ⟨rfl, pw_to hU hW (hP.sub (ws' := []) [] rfl) (hK.sub (tys' := []) [] rfl) hN⟩⟩ rfl rfl hl.1 rfl (lv_room (Nat.le_of_ble_eq_true rfl)) dX11_filler_4 ⟨Nat.le_of_ble_eq_true rfl, Nat.le_of_ble_eq_true rfl⟩).run (fun r hw => ?_)
  rcases Bool.eq_false_or_eq_true (bw p1 1 60) with b_1 | b_1
  ·
    obtain rfl : r = 1 := b_t hw b_1
    refine lv_if_eq (tgt := 19) hx hb dX11_filler_7 (by decide) (fun c_2 => absurd c_2 (by decide)) (fun c_2 => ?_)
    refine lv_iload_n hx hb dX11_filler_10 rfl (lv_at hl 1 rfl) ?_
    refine lv_iconst (v := 1) hx hb dX11_filler_11 (by decide) ?_
    refine lv_iload_n hx hb dX11_filler_12 rfl (lv_at hl 2 rfl) ?_
    refine vp_callSi (va_runS (As := [.int p0, .int 1, .int p1]) (rest := []) ⟨hx, hb, hml, hown, hts⟩ (x_isWithin l dC dI p0 1 p1) (va_cwS 3 hts gX11_filler_X11_isWithin rfl rfl rfl zh_X11_isWithin_30 ⟨Nat.le_of_ble_eq_true rfl, Nat.le_of_ble_eq_true rfl⟩) ⟨pw_fb, fun U hU hW => ⟨rfl, pw_to hU hW (hP.sub (ws' := []) [] rfl) (hK.sub (tys' := []) [] rfl) hN⟩⟩ rfl rfl hl.1 rfl (lv_room (Nat.le_of_ble_eq_true rfl)) dX11_filler_13 ⟨Nat.le_of_ble_eq_true rfl, Nat.le_of_ble_eq_true rfl⟩).run (fun r hw => ?_)
    rcases Bool.eq_false_or_eq_true (bw p0 1 p1) with b_3 | b_3
    ·
      obtain rfl : r = 1 := b_t hw b_3
      refine lv_if_ne (tgt := 21) hx hb dX11_filler_16 (by decide) (fun c_4 => ?_) (fun c_4 => absurd c_4 (by decide))
      refine lv_aload_n hx hb dX11_filler_21 rfl (lv_at hl 0 rfl) ?_
      refine va_new (ci := 2) (fs := [.int 0, .int 0, .null, .int 0, .null, .int 0, .int 0]) (C := RX2) (T := TX2) (N := 7) hx hb hts zl_X11_filler_X2 tyX2 tyX2_ok hown (hts (.classLink RX11 114 RX2) (zat q_wsX11_filler k_wsX11_filler 380 rfl (by decide +kernel))) (hts (.instantiable RX2 7) (zat q_wsX11_filler k_wsX11_filler 381 rfl (by decide +kernel))) (hts (.initialized RX2) (zat q_wsX11_filler k_wsX11_filler 63 rfl (by decide +kernel))) hK hP hD hS hA rfl nwX2 (Nat.le_of_ble_eq_true rfl) (Nat.le_of_ble_eq_true rfl) dX11_filler_22 (fun q_5 H hPn hDn hS => ?_)
      have hP := vaP_l hPn
      refine W.widen (k := 1) (n := 7) (Nat.le_of_ble_eq_true rfl) (Nat.le_of_ble_eq_true rfl) ?_
      refine lv_dup hx hb dX11_filler_25 rfl ?_
      refine lv_aload_n hx hb dX11_filler_26 rfl (lv_at hl 0 rfl) ?_
      obtain ⟨kk_6, hk_7⟩ := pl_at hI.2.1.1.1 hI.2.2.2.1.1
      refine va_get (D := (dC, dI)) (ci := 10) (v := .int (k 0)) (C := RX11) (T := TX11) (N := 9) hx hb hts zl_X11_filler_X11 hown hK hP kk_6 hk_7 rfl 3 (by decide) (hts (.fieldLink RX11 24 "PageOne" "itemCount" "I") (zat q_wsX11_filler k_wsX11_filler 115 rfl (by decide +kernel))) (fun _ h9 => h9) rfl dX11_filler_27 ?_
      refine lv_iload_n hx hb dX11_filler_30 rfl (lv_at hl 1 rfl) ?_
      refine lv_iload_n hx hb dX11_filler_31 rfl (lv_at hl 2 rfl) ?_
      have hPc := vaP_r hPn
      have hDc := vaD_r hDn
      have hFc := fr_part hDn hS hA
      refine va_callv (va_runI (As := [.int (k 0), .int p0, .int p1]) (rest := [.ref q_5, .ref h0]) ⟨hx, hb, hml, hown, hts⟩ (xn_Filler l dC dI q_5 (q 0) (q 5) (k 0) p0 p1 H.size) (cwI 3 hts gX11_filler_X2_init rfl rfl rfl (hts (.initialized RX2) (zat q_wsX11_filler k_wsX11_filler 63 rfl (by decide +kernel))) (hts (.methodLink RX11 116 yX2_init) (zat q_wsX11_filler k_wsX11_filler 382 rfl (by decide +kernel))) (hts (.instanceMethod yX2_init) (zat q_wsX11_filler k_wsX11_filler 383 rfl (by decide +kernel))) rfl zh_X2_init_90 ⟨Nat.le_of_ble_eq_true rfl, Nat.le_of_ble_eq_true rfl⟩) ⟨gw_fb, fun U hU hW => ⟨rfl, by rw [hU], pw_to hU hW hPc (hK.sub (tys' := [(q 0, .int), (q 5, .object "PageOne$Piece")]) [0, 5] rfl) hN, hDc.weaken (fun _ _ _ _ => trivial)⟩⟩ rfl rfl hl.1 rfl (lv_room (Nat.le_of_ble_eq_true rfl)) dX11_filler_32 ⟨Nat.le_of_ble_eq_true rfl, Nat.le_of_ble_eq_true rfl⟩) hS (fun q _ h => hFc q h) hFc (fun u9 t H1 locs ht hvm hw hB hz1 hk1 hS => ?_)
      obtain ⟨qa_8, qa_9, hP1, hD1⟩ := hB
      rw [ht] at hP1
      obtain ⟨hP, hD⟩ := va_joinQ (X := [(q_5, .inr (2, [.int 0, .int 0, .null, .int 0, .null, .int 0, .int 0]))]) (cx := [(q_5, .inr (2, [.int 0, .int 0, .null, .int 0, .null, .int 0, .int 0]))]) (wr := []) (w1 := [(qa_8, aI (q 0) 5 (fun _ => (-1))), (qa_9, aR (q 5) 1 (fun _ => none)), (q_5, .inr (2, [.int (k 0), .int 4, .ref qa_9, .int 0, .ref qa_8, .int p0, .int p1]))]) (pl := va_pl z.1 f) (vaP_swap hPn) (vaD_rotR hDn) [0] [] rfl rfl rfl (fun i hi => absurd hi List.not_mem_nil) hk1 hFc hP1 hD1
      generalize H1 = H at hP hS ⊢
      obtain ⟨hnm_10, hP, hD⟩ := pushC hP hD
      obtain ⟨z_11, ez_11⟩ : ∃ y : gS, y = pz z qa_8 (17, 4000 + (u.1 3).toNatClampNeg, []) := ⟨_, rfl⟩
      obtain ⟨f_12, ef_12⟩ : ∃ y : xF, y = va_up f qa_8 (aI (q 0) 5 (fun _ => (-1))) := ⟨_, rfl⟩
      have hE_13 : zE z z_11 := by rw [ez_11]; exact pz_E hnm_10 _
      have hI : xI q h0 d k z_11 f_12 := by rw [ez_11, ef_12]; exact x_push hI hnm_10 (Or.inr (by decide : (15 : Nat) < 17)) (cO_17 (by rw [pz_s]) ⟨_, rfl⟩)
      rw [show z.1 ++ [qa_8] = z_11.1 from by rw [ez_11]; rfl, ← ef_12] at hP hD
      have ht_14 : tg z_11 qa_8 17 := by rw [ez_11]; exact pz_t _ _ _
      have hEz : zE z z_11 := zE_tr (zE_rf z) hE_13
      have hc_15 : nC z_11 f_12 qa_8 17 (4000 + (u.1 3).toNatClampNeg) (aI (q 0) 5 (fun _ => (-1))) := by rw [ez_11, ef_12]; exact nC_new
      have hoK : oK z f f_12 := by rw [ef_12]; exact oK_push (fun _ _ => rfl) (zE_rf z) hnm_10
      have hEo := hEz
      obtain ⟨hnm_16, hP, hD⟩ := pushC hP hD
      obtain ⟨z_17, ez_17⟩ : ∃ y : gS, y = pz z_11 qa_9 (16, q_5, []) := ⟨_, rfl⟩
      obtain ⟨f_18, ef_18⟩ : ∃ y : xF, y = va_up f_12 qa_9 (aR (q 5) 1 (fun _ => none)) := ⟨_, rfl⟩
      have hE_19 : zE z_11 z_17 := by rw [ez_17]; exact pz_E hnm_16 _
      have hI : xI q h0 d k z_17 f_18 := by rw [ez_17, ef_18]; exact x_push hI hnm_16 (Or.inr (by decide : (15 : Nat) < 16)) (cO_16 (by rw [pz_s]) ⟨1, by decide, by decide, _, rfl, fun _ _ b hb => by cases hb⟩)
      rw [show z_11.1 ++ [qa_9] = z_17.1 from by rw [ez_17]; rfl, ← ef_18] at hP hD
      have hpf9 : f_18 qa_9 = aR (q 5) 1 (fun _ => none) := by rw [ef_18]; exact up_s
      have ho9 : (z_17.2 qa_9).2.1 = q_5 := by rw [ez_17, pz_s]
      have ht_14 := zE_tg hE_19 ht_14
      have ht_20 : tg z_17 qa_9 16 := by rw [ez_17]; exact pz_t _ _ _
      have hEz : zE z z_17 := zE_tr hEz hE_19
      have hc_15 : nC z_17 f_18 qa_8 17 (4000 + (u.1 3).toNatClampNeg) (aI (q 0) 5 (fun _ => (-1))) := by rw [ez_17, ef_18]; exact nC_push hc_15 hnm_16
      have hc_21 : nC z_17 f_18 qa_9 16 (q_5) (aR (q 5) 1 (fun _ => none)) := by rw [ez_17, ef_18]; exact nC_new
      have hoK : oK z f f_18 := by rw [ef_18]; exact oK_push hoK hEo hnm_16
      have hEo := hEz
      obtain ⟨hnm_22, hP, hD⟩ := pushC hP hD
      obtain ⟨z_23, ez_23⟩ : ∃ y : gS, y = pz z_17 q_5 (10, 2000 + (u.1 3).toNatClampNeg, []) := ⟨_, rfl⟩
      obtain ⟨f_24, ef_24⟩ : ∃ y : xF, y = va_up f_18 q_5 (.inr (2, [.int (k 0), .int 4, .ref qa_9, .int 0, .ref qa_8, .int p0, .int p1])) := ⟨_, rfl⟩
      have hE_25 : zE z_17 z_23 := by rw [ez_23]; exact pz_E hnm_22 _
      have hI : xI q h0 d k z_23 f_24 := by rw [ez_23, ef_24]; exact x_pushIo (n := 1) hI hnm_22 (by decide) ht_20 ho9 ht_14 hpf9 (by decide) ⟨fun _ => ⟨_, _, rfl⟩, fun x => absurd x (by decide), fun x => absurd x (by decide), fun x => absurd x (by decide), fun x => absurd x (by decide), fun x => absurd x (by decide)⟩
      rw [show z_17.1 ++ [q_5] = z_23.1 from by rw [ez_23]; rfl, ← ef_24] at hP hD
      have hpf9 : f_24 qa_9 = aR (q 5) 1 (fun _ => none) := by rw [ef_24, up_o (fun e => hnm_22 (by rw [← e]; exact ht_20.1))]; exact hpf9
      have ho9 : (z_23.2 qa_9).2.1 = q_5 := by rw [zE_o hE_25 ht_20.1]; exact ho9
      have ht_14 := zE_tg hE_25 ht_14
      have ht_20 := zE_tg hE_25 ht_20
      have ht_26 : tg z_23 q_5 10 := by rw [ez_23]; exact pz_t _ _ _
      have hEz : zE z z_23 := zE_tr hEz hE_25
      have hc_15 : nC z_23 f_24 qa_8 17 (4000 + (u.1 3).toNatClampNeg) (aI (q 0) 5 (fun _ => (-1))) := by rw [ez_23, ef_24]; exact nC_push hc_15 hnm_22
      have hc_21 : nC z_23 f_24 qa_9 16 (q_5) (aR (q 5) 1 (fun _ => none)) := by rw [ez_23, ef_24]; exact nC_push hc_21 hnm_22
      have hc_27 : nC z_23 f_24 q_5 10 (2000 + (u.1 3).toNatClampNeg) (.inr (2, [.int (k 0), .int 4, .ref qa_9, .int 0, .ref qa_8, .int p0, .int p1])) := by rw [ez_23, ef_24]; exact nC_new
      have hoK : oK z f f_24 := by rw [ef_24]; exact oK_push hoK hEo hnm_22
      refine W.widen (k := 3) (n := 13) (Nat.le_of_ble_eq_true rfl) (Nat.le_of_ble_eq_true rfl) ?_
      refine W.eq (g2 := F0 m 35 ls [.ref q_5, .ref h0]) rfl ?_
      obtain ⟨kk_28, hk_29⟩ := pl_at hI.2.1.1.1 hI.2.2.2.1.1
      have hFc := fr_all hD hS hA
      refine va_calli (va_runV (As := [.ref q_5]) (rest := []) ⟨hx, hb, hml, hown, hts⟩ (y_enter l dC dI q h0 d k z_23 f_24 hI q_5 (tg_itm ht_26 (by decide)) (k 0) 4 0 qa_9 qa_8 [.int p0, .int p1] (by rw [hc_27.2.2, hc_27.1.2]; rfl) H.size) (cwV 1 hts gX11_filler_X11_enter rfl rfl rfl zh_X11_enter_87 ⟨Nat.le_of_ble_eq_true rfl, Nat.le_of_ble_eq_true rfl⟩) ⟨gx_fb, va_recv hK hP (ci := 10) (q0 := kk_28) rfl hk_29, fun U hU hW => ⟨rfl, by rw [hU], px_to hU hW hP hK hN hXN, hD.weaken (fun _ _ _ _ => trivial)⟩⟩ rfl rfl hl.1 rfl (lv_room (Nat.le_of_ble_eq_true rfl)) dX11_filler_35 ⟨Nat.le_of_ble_eq_true rfl, Nat.le_of_ble_eq_true rfl⟩) hS (fun q _ h => hFc q h) hFc (fun r w_30 t H1 locs ht hvm hw hB hz1 hk1 hS => ?_)
      obtain ⟨hP, hD1⟩ := hB
      rw [ht] at hP
      rw [hw.1] at hP hD1
      have hD := hD1.weaken (fun _ q _ h => hFc q.1 h)
      have hI := hw.2.1
      have hw0 := hw
      generalize w_30.1 = k_32 at hI hw0
      generalize w_30.2.2 = f_31 at hP hD hI hw0
      generalize H1 = H at hP hS ⊢
      exact W.iret (v := r) hx hb hr (fun t ht hW => ⟨⟨r, (k_32, z_23, f_31), rfl, (mk_Filler (a5 := 0) (a6 := 0) hIo hrp hk0 hz0 hnw hI hEz hoK hw0.2.2 hc_27 hc_21 hc_15 (fl_y b_1 b_3).1 (fl_y b_1 b_3).2), by rw [ht]; exact hP, hD⟩, hS.F ht⟩) hS.2.2 dX11_filler_38
    ·
      obtain rfl : r = 0 := b_f hw b_3
      refine lv_if_ne (tgt := 21) hx hb dX11_filler_16 (by decide) (fun c_33 => absurd (by decide) c_33) (fun c_33 => ?_)
      refine lv_iconst (v := (-1)) hx hb dX11_filler_19 (by decide) ?_
      refine W.widen (k := 3) (n := 13) (Nat.le_of_ble_eq_true rfl) (Nat.le_of_ble_eq_true rfl) ?_
      exact W.iret (v := (-1)) hx hb hr (fun t ht hW => ⟨⟨(-1), (k, z, f), rfl, (mkP_0 hI hrp hk0 (fl_n (fun h9 => bne b_3 h9.2))), by rw [ht]; exact hP, hD⟩, hS.F ht⟩) hS.2.2 dX11_filler_20
  ·
    obtain rfl : r = 0 := b_f hw b_1
    refine lv_if_eq (tgt := 19) hx hb dX11_filler_7 (by decide) (fun c_34 => ?_) (fun c_34 => absurd (by decide) c_34)
    refine lv_iconst (v := (-1)) hx hb dX11_filler_19 (by decide) ?_
    refine W.widen (k := 3) (n := 13) (Nat.le_of_ble_eq_true rfl) (Nat.le_of_ble_eq_true rfl) ?_
    exact W.iret (v := (-1)) hx hb hr (fun t ht hW => ⟨⟨(-1), (k, z, f), rfl, (mkP_0 hI hrp hk0 (fl_n (fun h9 => bne b_1 h9.1))), by rw [ht]; exact hP, hD⟩, hS.F ht⟩) hS.2.2 dX11_filler_20
set_option maxHeartbeats 4000000 in
set_option maxRecDepth 100000 in
theorem y_head (l : Launch) (dC : Nat → ClassId) (dI : Nat → Nat → Nat) (q : Nat → ClassId) (h0 : Nat) (d : Nat → Nat) (k : Nat → Int32) (z : gS) (f : xF) (hI : xI q h0 d k z f) (p0 p1 p2 : Int32) (u : mS) (hrp : rep q d u z f) (hk0 : k 0 = u.1 3) (hk1 : k 1 = u.1 28) (hk2 : k 2 = u.1 38) (hk3 : k 3 = u.1 39) (hz0 : (z.2 h0).2.1 = 0) (hnw : nwI u) (sz : Nat) : Met l yX11_head wsX11_head ({ frames := 3, cells := 3, slots := 14, locals := 70 }) (va_Pc [.ref h0, .int p0, .int p1, .int p2] (fun U => U.heap.size = sz ∧ PX dC dI (va_pl z.1 f) (xT q) U ∧ va_D (fun _ => True) (va_pl z.1 f))) (va_Qi (fun (r : Int32) (w : xU) => mkP q h0 d k z f u (mHead u p0 p1 p2) r w) (fun (w : xU) t => va_P (dC, dI) vwCl (va_pl w.2.1.1 w.2.2) t.heap ∧ va_D (va_A (va_pl z.1 f) sz) (va_pl w.2.1.1 w.2.2)) (va_A (va_pl z.1 f) sz)) 3 14 (va_A (va_pl z.1 f) sz) := by
  refine Met.ofW (cc := cX11_head) (maxL := 6) (ret := (some .int)) (by decide) rfl ?_
  intro p e s m args below meth c s₁ B hml hv
  obtain ⟨rfl, hsz, ⟨⟨hP, hK, hN⟩, hXN⟩, hD0⟩ := hv
  have hx := B.exec
  have hb := B.bytes
  have hr := B.returns
  have hts := atoms_spec (ws := wsX11_head) B.pre
  have hown : s.vm.findClass RX11 = some m.cls := findClass_of_methodNamed B.named
  have hlocks := B.notSynchronized
  subst hsz
  have hD := hD0.self (sz := s.heap.size)
  generalize hAe : va_A (va_pl z.1 f) s.heap.size = A at hD ⊢
  have hA : ∀ q : Nat, s.heap.size ≤ q → A q := fun q h => by rw [← hAe]; exact Or.inr h
  have hS : va_S A s.heap s.heap [] := va_S.rf
  have hl := lv_entry ([.ref h0, .int p0, .int p1, .int p2]) (n := 6) (Nat.le_of_ble_eq_true rfl)
  rw [lg_entry_eq]
  generalize (lg_sl ([.ref h0, .int p0, .int p1, .int p2]) ++ List.replicate (6 - (lg_sl ([.ref h0, .int p0, .int p1, .int p2])).length) Slot.unset).toArray = ls at hl ⊢
  have hl : lv_has ls 6 [(0, .ref h0), (1, .int p0), (2, .int p1), (3, .int p2)] := hl
  have hIo := hI
  refine lv_aload_n hx hb dX11_head_0 rfl (lv_at hl 0 rfl) ?_
  refine lv_iload_n hx hb dX11_head_1 rfl (lv_at hl 1 rfl) ?_
  obtain ⟨kk_1, hk_2⟩ := pl_at hI.2.1.1.1 hI.2.2.2.1.1
  refine va_csq (va_runV (As := [.int p0]) (rest := []) ⟨hx, hb, hml, hown, hts⟩ (y_itemOf l dC dI q h0 d k z f hI p0 u hrp hk0 hk1 hk2 hk3) (cwV 1 hts gX11_head_X11_itemOf rfl rfl rfl zh_X11_itemOf_49 ⟨Nat.le_of_ble_eq_true rfl, Nat.le_of_ble_eq_true rfl⟩) ⟨px_fb, va_recv hK hP (ci := 10) (q0 := kk_1) rfl hk_2, fun U hU hW => ⟨rfl, px_to hU hW hP hK hN hXN⟩⟩ rfl rfl hl.1 rfl (lv_room (Nat.le_of_ble_eq_true rfl)) dX11_head_2 ⟨Nat.le_of_ble_eq_true rfl, Nat.le_of_ble_eq_true rfl⟩).run (fun r hw => ?_)
  rcases hw with ⟨hr9, hn9⟩ | ⟨i_3, hi_4, ep_5, hr9⟩
  ·
    subst hr9
    have hno_25 := hn9
    refine W.eq (g2 := F0 m 5 ls [.null]) rfl ?_
    refine lv_astoreN (lv' := [(5, .null), (0, .ref h0), (1, .int p0), (2, .int p1), (3, .int p2)]) hx hb dX11_head_5 hl (by decide) rfl (fun ls hl => ?_)
    refine lv_aloadN hx hb dX11_head_7 (lv_at hl 0 rfl) ?_
    refine lv_instN hx hb dX11_head_9 ?_
    refine lv_if_eq (tgt := 42) hx hb dX11_head_12 (by decide) (fun c_26 => ?_) (fun c_26 => absurd (by decide) c_26)
    refine lv_iconst (v := (-1)) hx hb dX11_head_42 (by decide) ?_
    refine W.widen (k := 3) (n := 14) (Nat.le_of_ble_eq_true rfl) (Nat.le_of_ble_eq_true rfl) ?_
    exact W.iret (v := (-1)) hx hb hr (fun t ht hW => ⟨⟨(-1), (k, z, f), rfl, (mkP_0 hI hrp hk0 (hd_n (mK_no hno_25))), by rw [ht]; exact hP, hD⟩, hS.F ht⟩) hS.2.2 dX11_head_43
  ·
    subst hr9
    obtain ⟨rs_6, n_7, g_8, fg_9, hit_10, hs_11, hpa_12, hps_13, h1_14, h6_15, hcb_16, hpl_17, hlg_18, hnn_19, hfa_20, hfs_21, hfe_22, hrs_23, hkt_24⟩ := it_all hI hrp.2.2.1 hi_4
    refine W.eq (g2 := F0 m 5 ls [.ref (d (2000 + i_3))]) rfl ?_
    refine lv_astore (lv' := [(5, .ref (d (2000 + i_3))), (0, .ref h0), (1, .int p0), (2, .int p1), (3, .int p2)]) hx hb dX11_head_5 hl (by decide) rfl (fun ls hl => ?_)
    refine lv_aload hx hb dX11_head_7 (lv_at hl 0 rfl) ?_
    rcases Classical.em (tg z (d (2000 + i_3)) 15) with ht9 | ht9
    ·
      have ht_27 := ht9
      have hkd_29 : u.2 4 i_3 = 0 := (kT_k (kd_05 hrp.2.2.1 hi_4).1 (kd_05 hrp.2.2.1 hi_4).2).1 (hkt_24.symm.trans ht_27.2)
      obtain ⟨hx_30, hx_31, hx_32, ⟨hx_33, hx_34, hx_35⟩, hx_36, hx_37, hx_38⟩ := hrs_23.1 hkd_29
      have hs_39 : f (d (2000 + i_3)) = .inr (9, [.int (nI i_3), .int (u.2 4 i_3), .ref (d (3000 + i_3)), .int (u.2 22 i_3), .ref (d (4000 + i_3)), .int (u.2 5 i_3), .ref (d (5000 + i_3)), .int (u.2 15 i_3), .ref (d (6000 + i_3))]) := by rw [hs_11, ht_27.2, hx_30]; rfl
      obtain ⟨kk_50, hk_51⟩ := pl_at ht_27.1 hs_39
      refine va_instS hx hb hown (hts (.classLink RX11 66 "PageOne$Story") (zat q_wsX11_head k_wsX11_head 161 rfl (by decide +kernel))) (hK.1 9 (RX10, TX10, 9) rfl).2 (va_recv hK hP (ci := 9) (q0 := kk_50) rfl hk_51) dX11_head_9 ?_
      refine lv_if_eq (tgt := 42) hx hb dX11_head_12 (by decide) (fun c_52 => absurd c_52 (by decide)) (fun c_52 => ?_)
      refine lv_aload hx hb dX11_head_15 (lv_at hl 0 rfl) ?_
      obtain ⟨kk_53, hk_54⟩ := pl_at ht_27.1 hs_39
      refine va_castS hx hb hown (hts (.classLink RX11 66 "PageOne$Story") (zat q_wsX11_head k_wsX11_head 161 rfl (by decide +kernel))) (hK.1 9 (RX10, TX10, 9) rfl).2 (va_recv hK hP (ci := 9) (q0 := kk_53) rfl hk_54) dX11_head_17 ?_
      refine lv_astore (lv' := [(4, .ref (d (2000 + i_3))), (5, .ref (d (2000 + i_3))), (0, .ref h0), (1, .int p0), (2, .int p1), (3, .int p2)]) hx hb dX11_head_20 hl (by decide) rfl (fun ls hl => ?_)
      refine lv_iload_n hx hb dX11_head_22 rfl (lv_at hl 4 rfl) ?_
      refine lv_iconst (v := 1) hx hb dX11_head_23 (by decide) ?_
      refine lv_bipush (v := 8) hx hb dX11_head_24 (by decide) ?_
      refine vp_callSi (va_runS (As := [.int p1, .int 1, .int 8]) (rest := []) ⟨hx, hb, hml, hown, hts⟩ (x_isWithin l dC dI p1 1 8) (va_cwS 3 hts gX11_head_X11_isWithin rfl rfl rfl zh_X11_isWithin_30 ⟨Nat.le_of_ble_eq_true rfl, Nat.le_of_ble_eq_true rfl⟩) ⟨pw_fb, fun U hU hW => ⟨rfl, pw_to hU hW (hP.sub (ws' := []) [] rfl) (hK.sub (tys' := []) [] rfl) hN⟩⟩ rfl rfl hl.1 rfl (lv_room (Nat.le_of_ble_eq_true rfl)) dX11_head_26 ⟨Nat.le_of_ble_eq_true rfl, Nat.le_of_ble_eq_true rfl⟩).run (fun r hw => ?_)
      rcases Bool.eq_false_or_eq_true (bw p1 1 8) with b_55 | b_55
      ·
        obtain rfl : r = 1 := b_t hw b_55
        refine lv_if_eq (tgt := 42) hx hb dX11_head_29 (by decide) (fun c_56 => absurd c_56 (by decide)) (fun c_56 => ?_)
        refine lv_iload_n hx hb dX11_head_32 rfl (lv_at hl 5 rfl) ?_
        refine lv_iconst (v := 1) hx hb dX11_head_33 (by decide) ?_
        refine lv_bipush (v := 9) hx hb dX11_head_34 (by decide) ?_
        refine vp_callSi (va_runS (As := [.int p2, .int 1, .int 9]) (rest := []) ⟨hx, hb, hml, hown, hts⟩ (x_isWithin l dC dI p2 1 9) (va_cwS 3 hts gX11_head_X11_isWithin rfl rfl rfl zh_X11_isWithin_30 ⟨Nat.le_of_ble_eq_true rfl, Nat.le_of_ble_eq_true rfl⟩) ⟨pw_fb, fun U hU hW => ⟨rfl, pw_to hU hW (hP.sub (ws' := []) [] rfl) (hK.sub (tys' := []) [] rfl) hN⟩⟩ rfl rfl hl.1 rfl (lv_room (Nat.le_of_ble_eq_true rfl)) dX11_head_36 ⟨Nat.le_of_ble_eq_true rfl, Nat.le_of_ble_eq_true rfl⟩).run (fun r hw => ?_)
        rcases Bool.eq_false_or_eq_true (bw p2 1 9) with b_57 | b_57
        ·
          obtain rfl : r = 1 := b_t hw b_57
          refine lv_if_ne (tgt := 44) hx hb dX11_head_39 (by decide) (fun c_58 => ?_) (fun c_58 => absurd c_58 (by decide))
          refine lv_aload_n hx hb dX11_head_44 rfl (lv_at hl 2 rfl) ?_
          refine va_new (ci := 3) (fs := [.int 0, .int 0, .null, .int 0, .null, .null, .int 0, .int 0]) (C := RX3) (T := TX3) (N := 8) hx hb hts zl_X11_head_X3 tyX3 tyX3_ok hown (hts (.classLink RX11 83 RX3) (zat q_wsX11_head k_wsX11_head 242 rfl (by decide +kernel))) (hts (.instantiable RX3 8) (zat q_wsX11_head k_wsX11_head 243 rfl (by decide +kernel))) (hts (.initialized RX3) (zat q_wsX11_head k_wsX11_head 59 rfl (by decide +kernel))) hK hP hD hS hA rfl nwX3 (Nat.le_of_ble_eq_true rfl) (Nat.le_of_ble_eq_true rfl) dX11_head_45 (fun q_59 H hPn hDn hS => ?_)
          have hP := vaP_l hPn
          refine W.widen (k := 1) (n := 8) (Nat.le_of_ble_eq_true rfl) (Nat.le_of_ble_eq_true rfl) ?_
          refine lv_dup hx hb dX11_head_48 rfl ?_
          refine lv_aload_n hx hb dX11_head_49 rfl (lv_at hl 2 rfl) ?_
          obtain ⟨kk_60, hk_61⟩ := pl_at hI.2.1.1.1 hI.2.2.2.1.1
          refine va_get (D := (dC, dI)) (ci := 10) (v := .int (k 0)) (C := RX11) (T := TX11) (N := 9) hx hb hts zl_X11_head_X11 hown hK hP kk_60 hk_61 rfl 3 (by decide) (hts (.fieldLink RX11 24 "PageOne" "itemCount" "I") (zat q_wsX11_head k_wsX11_head 115 rfl (by decide +kernel))) (fun _ h9 => h9) rfl dX11_head_50 ?_
          refine lv_aload hx hb dX11_head_53 (lv_at hl 0 rfl) ?_
          refine lv_iload_n hx hb dX11_head_55 rfl (lv_at hl 4 rfl) ?_
          refine lv_iload_n hx hb dX11_head_56 rfl (lv_at hl 5 rfl) ?_
          have hPc := vaP_r hPn
          have hDc := vaD_r hDn
          have hFc := fr_part hDn hS hA
          refine va_callv (va_runI (As := [.int (k 0), .ref (d (2000 + i_3)), .int p1, .int p2]) (rest := [.ref q_59, .ref h0]) ⟨hx, hb, hml, hown, hts⟩ (xn_Head l dC dI q_59 (d (2000 + i_3)) (q 0) (q 5) (k 0) p1 p2 H.size) (cwI 4 hts gX11_head_X3_init rfl rfl rfl (hts (.initialized RX3) (zat q_wsX11_head k_wsX11_head 59 rfl (by decide +kernel))) (hts (.methodLink RX11 85 yX3_init) (zat q_wsX11_head k_wsX11_head 244 rfl (by decide +kernel))) (hts (.instanceMethod yX3_init) (zat q_wsX11_head k_wsX11_head 245 rfl (by decide +kernel))) rfl zh_X3_init_91 ⟨Nat.le_of_ble_eq_true rfl, Nat.le_of_ble_eq_true rfl⟩) ⟨gw_fb, fun U hU hW => ⟨rfl, by rw [hU], pw_to hU hW hPc (hK.sub (tys' := [(q 0, .int), (q 5, .object "PageOne$Piece")]) [0, 5] rfl) hN, hDc.weaken (fun _ _ _ _ => trivial)⟩⟩ rfl rfl hl.1 rfl (lv_room (Nat.le_of_ble_eq_true rfl)) dX11_head_57 ⟨Nat.le_of_ble_eq_true rfl, Nat.le_of_ble_eq_true rfl⟩) hS (fun q _ h => hFc q h) hFc (fun u9 t H1 locs ht hvm hw hB hz1 hk1 hS => ?_)
          obtain ⟨qa_62, qa_63, hP1, hD1⟩ := hB
          rw [ht] at hP1
          obtain ⟨hP, hD⟩ := va_joinQ (X := [(q_59, .inr (3, [.int 0, .int 0, .null, .int 0, .null, .null, .int 0, .int 0]))]) (cx := [(q_59, .inr (3, [.int 0, .int 0, .null, .int 0, .null, .null, .int 0, .int 0]))]) (wr := []) (w1 := [(qa_62, aI (q 0) 5 (fun _ => (-1))), (qa_63, aR (q 5) 1 (fun _ => none)), (q_59, .inr (3, [.int (k 0), .int 1, .ref qa_63, .int 0, .ref qa_62, .ref (d (2000 + i_3)), .int p1, .int p2]))]) (pl := va_pl z.1 f) (vaP_swap hPn) (vaD_rotR hDn) [0] [] rfl rfl rfl (fun i hi => absurd hi List.not_mem_nil) hk1 hFc hP1 hD1
          generalize H1 = H at hP hS ⊢
          obtain ⟨hnm_64, hP, hD⟩ := pushC hP hD
          obtain ⟨z_65, ez_65⟩ : ∃ y : gS, y = pz z qa_62 (17, 4000 + (u.1 3).toNatClampNeg, []) := ⟨_, rfl⟩
          obtain ⟨f_66, ef_66⟩ : ∃ y : xF, y = va_up f qa_62 (aI (q 0) 5 (fun _ => (-1))) := ⟨_, rfl⟩
          have hE_67 : zE z z_65 := by rw [ez_65]; exact pz_E hnm_64 _
          have hI : xI q h0 d k z_65 f_66 := by rw [ez_65, ef_66]; exact x_push hI hnm_64 (Or.inr (by decide : (15 : Nat) < 17)) (cO_17 (by rw [pz_s]) ⟨_, rfl⟩)
          rw [show z.1 ++ [qa_62] = z_65.1 from by rw [ez_65]; rfl, ← ef_66] at hP hD
          have ht_27 := zE_tg hE_67 ht_27
          have hpa_12 := zE_tg hE_67 hpa_12
          have hfa_20 := zE_tg hE_67 hfa_20
          have ht_68 : tg z_65 qa_62 17 := by rw [ez_65]; exact pz_t _ _ _
          have hEz : zE z z_65 := zE_tr (zE_rf z) hE_67
          have hc_69 : nC z_65 f_66 qa_62 17 (4000 + (u.1 3).toNatClampNeg) (aI (q 0) 5 (fun _ => (-1))) := by rw [ez_65, ef_66]; exact nC_new
          have hoK : oK z f f_66 := by rw [ef_66]; exact oK_push (fun _ _ => rfl) (zE_rf z) hnm_64
          have hEo := hEz
          obtain ⟨hnm_70, hP, hD⟩ := pushC hP hD
          obtain ⟨z_71, ez_71⟩ : ∃ y : gS, y = pz z_65 qa_63 (16, q_59, []) := ⟨_, rfl⟩
          obtain ⟨f_72, ef_72⟩ : ∃ y : xF, y = va_up f_66 qa_63 (aR (q 5) 1 (fun _ => none)) := ⟨_, rfl⟩
          have hE_73 : zE z_65 z_71 := by rw [ez_71]; exact pz_E hnm_70 _
          have hI : xI q h0 d k z_71 f_72 := by rw [ez_71, ef_72]; exact x_push hI hnm_70 (Or.inr (by decide : (15 : Nat) < 16)) (cO_16 (by rw [pz_s]) ⟨1, by decide, by decide, _, rfl, fun _ _ b hb => by cases hb⟩)
          rw [show z_65.1 ++ [qa_63] = z_71.1 from by rw [ez_71]; rfl, ← ef_72] at hP hD
          have hpf9 : f_72 qa_63 = aR (q 5) 1 (fun _ => none) := by rw [ef_72]; exact up_s
          have ho9 : (z_71.2 qa_63).2.1 = q_59 := by rw [ez_71, pz_s]
          have ht_27 := zE_tg hE_73 ht_27
          have hpa_12 := zE_tg hE_73 hpa_12
          have hfa_20 := zE_tg hE_73 hfa_20
          have ht_68 := zE_tg hE_73 ht_68
          have ht_74 : tg z_71 qa_63 16 := by rw [ez_71]; exact pz_t _ _ _
          have hEz : zE z z_71 := zE_tr hEz hE_73
          have hc_69 : nC z_71 f_72 qa_62 17 (4000 + (u.1 3).toNatClampNeg) (aI (q 0) 5 (fun _ => (-1))) := by rw [ez_71, ef_72]; exact nC_push hc_69 hnm_70
          have hc_75 : nC z_71 f_72 qa_63 16 (q_59) (aR (q 5) 1 (fun _ => none)) := by rw [ez_71, ef_72]; exact nC_new
          have hoK : oK z f f_72 := by rw [ef_72]; exact oK_push hoK hEo hnm_70
          have hEo := hEz
          obtain ⟨hnm_76, hP, hD⟩ := pushC hP hD
          obtain ⟨z_77, ez_77⟩ : ∃ y : gS, y = pz z_71 q_59 (11, 2000 + (u.1 3).toNatClampNeg, []) := ⟨_, rfl⟩
          obtain ⟨f_78, ef_78⟩ : ∃ y : xF, y = va_up f_72 q_59 (.inr (3, [.int (k 0), .int 1, .ref qa_63, .int 0, .ref qa_62, .ref (d (2000 + i_3)), .int p1, .int p2])) := ⟨_, rfl⟩
          have hE_79 : zE z_71 z_77 := by rw [ez_77]; exact pz_E hnm_76 _
          have hI : xI q h0 d k z_77 f_78 := by rw [ez_77, ef_78]; exact x_pushIo (n := 1) hI hnm_76 (by decide) ht_74 ho9 ht_68 hpf9 (by decide) ⟨fun x => absurd x (by decide), fun _ => ⟨_, _, _, rfl, zE_tg (pz_E hnm_76 _) ht_27⟩, fun x => absurd x (by decide), fun x => absurd x (by decide), fun x => absurd x (by decide), fun x => absurd x (by decide)⟩
          rw [show z_71.1 ++ [q_59] = z_77.1 from by rw [ez_77]; rfl, ← ef_78] at hP hD
          have hpf9 : f_78 qa_63 = aR (q 5) 1 (fun _ => none) := by rw [ef_78, up_o (fun e => hnm_76 (by rw [← e]; exact ht_74.1))]; exact hpf9
          have ho9 : (z_77.2 qa_63).2.1 = q_59 := by rw [zE_o hE_79 ht_74.1]; exact ho9
          have ht_27 := zE_tg hE_79 ht_27
          have hpa_12 := zE_tg hE_79 hpa_12
          have hfa_20 := zE_tg hE_79 hfa_20
          have ht_68 := zE_tg hE_79 ht_68
          have ht_74 := zE_tg hE_79 ht_74
          have ht_80 : tg z_77 q_59 11 := by rw [ez_77]; exact pz_t _ _ _
          have hEz : zE z z_77 := zE_tr hEz hE_79
          have hc_69 : nC z_77 f_78 qa_62 17 (4000 + (u.1 3).toNatClampNeg) (aI (q 0) 5 (fun _ => (-1))) := by rw [ez_77, ef_78]; exact nC_push hc_69 hnm_76
          have hc_75 : nC z_77 f_78 qa_63 16 (q_59) (aR (q 5) 1 (fun _ => none)) := by rw [ez_77, ef_78]; exact nC_push hc_75 hnm_76
          have hc_81 : nC z_77 f_78 q_59 11 (2000 + (u.1 3).toNatClampNeg) (.inr (3, [.int (k 0), .int 1, .ref qa_63, .int 0, .ref qa_62, .ref (d (2000 + i_3)), .int p1, .int p2])) := by rw [ez_77, ef_78]; exact nC_new
          have hoK : oK z f f_78 := by rw [ef_78]; exact oK_push hoK hEo hnm_76
          refine W.widen (k := 3) (n := 14) (Nat.le_of_ble_eq_true rfl) (Nat.le_of_ble_eq_true rfl) ?_
          refine W.eq (g2 := F0 m 60 ls [.ref q_59, .ref h0]) rfl ?_
          obtain ⟨kk_82, hk_83⟩ := pl_at hI.2.1.1.1 hI.2.2.2.1.1
          have hFc := fr_all hD hS hA
          refine va_calli (va_runV (As := [.ref q_59]) (rest := []) ⟨hx, hb, hml, hown, hts⟩ (y_enter l dC dI q h0 d k z_77 f_78 hI q_59 (tg_itm ht_80 (by decide)) (k 0) 1 0 qa_63 qa_62 [.ref (d (2000 + i_3)), .int p1, .int p2] (by rw [hc_81.2.2, hc_81.1.2]; rfl) H.size) (cwV 1 hts gX11_head_X11_enter rfl rfl rfl zh_X11_enter_87 ⟨Nat.le_of_ble_eq_true rfl, Nat.le_of_ble_eq_true rfl⟩) ⟨gx_fb, va_recv hK hP (ci := 10) (q0 := kk_82) rfl hk_83, fun U hU hW => ⟨rfl, by rw [hU], px_to hU hW hP hK hN hXN, hD.weaken (fun _ _ _ _ => trivial)⟩⟩ rfl rfl hl.1 rfl (lv_room (Nat.le_of_ble_eq_true rfl)) dX11_head_60 ⟨Nat.le_of_ble_eq_true rfl, Nat.le_of_ble_eq_true rfl⟩) hS (fun q _ h => hFc q h) hFc (fun r w_84 t H1 locs ht hvm hw hB hz1 hk1 hS => ?_)
          obtain ⟨hP, hD1⟩ := hB
          rw [ht] at hP
          rw [hw.1] at hP hD1
          have hD := hD1.weaken (fun _ q _ h => hFc q.1 h)
          have hI := hw.2.1
          have hw0 := hw
          generalize w_84.1 = k_86 at hI hw0
          generalize w_84.2.2 = f_85 at hP hD hI hw0
          generalize H1 = H at hP hS ⊢
          exact W.iret (v := r) hx hb hr (fun t ht hW => ⟨⟨r, (k_86, z_77, f_85), rfl, (by rw [ep_5]; exact mk_Head (a5 := 0) (a6 := 0) hIo hrp hk0 hz0 hnw hI hEz hoK hw0.2.2 hc_81 hc_75 hc_69 hi_4 hkd_29 b_55 b_57), by rw [ht]; exact hP, hD⟩, hS.F ht⟩) hS.2.2 dX11_head_63
        ·
          obtain rfl : r = 0 := b_f hw b_57
          refine lv_if_ne (tgt := 44) hx hb dX11_head_39 (by decide) (fun c_87 => absurd (by decide) c_87) (fun c_87 => ?_)
          refine lv_iconst (v := (-1)) hx hb dX11_head_42 (by decide) ?_
          refine W.widen (k := 3) (n := 14) (Nat.le_of_ble_eq_true rfl) (Nat.le_of_ble_eq_true rfl) ?_
          exact W.iret (v := (-1)) hx hb hr (fun t ht hW => ⟨⟨(-1), (k, z, f), rfl, (mkP_0 hI hrp hk0 (hd_h (bne b_57))), by rw [ht]; exact hP, hD⟩, hS.F ht⟩) hS.2.2 dX11_head_43
      ·
        obtain rfl : r = 0 := b_f hw b_55
        refine lv_if_eq (tgt := 42) hx hb dX11_head_29 (by decide) (fun c_88 => ?_) (fun c_88 => absurd (by decide) c_88)
        refine lv_iconst (v := (-1)) hx hb dX11_head_42 (by decide) ?_
        refine W.widen (k := 3) (n := 14) (Nat.le_of_ble_eq_true rfl) (Nat.le_of_ble_eq_true rfl) ?_
        exact W.iret (v := (-1)) hx hb hr (fun t ht hW => ⟨⟨(-1), (k, z, f), rfl, (mkP_0 hI hrp hk0 (hd_w (bne b_55))), by rw [ht]; exact hP, hD⟩, hS.F ht⟩) hS.2.2 dX11_head_43
    ·
      have hn_28 := ht9
      have hkd_29 : ¬ u.2 4 i_3 = 0 := fun e9 => ht9 ⟨hit_10.1, by rw [hkt_24, e9]; rfl⟩
      refine w_then (F0 m 12 ls [.int 0]) (fun hgo => ?_) ?_
      ·
        rcases x_tag hit_10 with ht8 | ht8 | ht8 | ht8 | ht8 | ht8
        ·
          obtain ⟨nu_89, kd_90, cn_91, pa_92, fa_93, l_94, m_95, hs_96, hs_97, hs_98, hs_99⟩ := x_ifl hI ht8
          obtain ⟨kk_100, hk_101⟩ := pl_at ht8.1 hs_96
          exact va_instNo hx hb hown (hts (.classLink RX11 66 "PageOne$Story") (zat q_wsX11_head k_wsX11_head 161 rfl (by decide +kernel))) hXN.n_X2_X10 (va_recv hK hP (ci := 2) (q0 := kk_100) rfl hk_101) dX11_head_9 hgo
        ·
          obtain ⟨nu_102, kd_103, cn_104, pa_105, fa_106, o_107, w_108, y_109, hs_110, hs_111, hs_112, hs_113, hq_114⟩ := x_ihd hI ht8
          obtain ⟨kk_115, hk_116⟩ := pl_at ht8.1 hs_110
          exact va_instNo hx hb hown (hts (.classLink RX11 66 "PageOne$Story") (zat q_wsX11_head k_wsX11_head 161 rfl (by decide +kernel))) hXN.n_X3_X10 (va_recv hK hP (ci := 3) (q0 := kk_115) rfl hk_116) dX11_head_9 hgo
        ·
          obtain ⟨nu_117, kd_118, cn_119, pa_120, fa_121, o_122, y_123, hs_124, hs_125, hs_126, hs_127, hq_128⟩ := x_ino hI ht8
          obtain ⟨kk_129, hk_130⟩ := pl_at ht8.1 hs_124
          exact va_instNo hx hb hown (hts (.classLink RX11 66 "PageOne$Story") (zat q_wsX11_head k_wsX11_head 161 rfl (by decide +kernel))) hXN.n_X5_X10 (va_recv hK hP (ci := 4) (q0 := kk_129) rfl hk_130) dX11_head_9 hgo
        ·
          obtain ⟨nu_131, kd_132, cn_133, pa_134, fa_135, b_136, pr_137, sp_138, dy_139, hs_140, hs_141, hs_142, hs_143, hq_144, hq_145, hq_146⟩ := x_ipd hI ht8
          obtain ⟨kk_147, hk_148⟩ := pl_at ht8.1 hs_140
          exact va_instNo hx hb hown (hts (.classLink RX11 66 "PageOne$Story") (zat q_wsX11_head k_wsX11_head 161 rfl (by decide +kernel))) hXN.n_X6_X10 (va_recv hK hP (ci := 5) (q0 := kk_147) rfl hk_148) dX11_head_9 hgo
        ·
          obtain ⟨nu_149, kd_150, cn_151, pa_152, fa_153, ww_154, hh_155, sz_156, hs_157, hs_158, hs_159, hs_160, hq_161, hq_162, hq_163⟩ := x_ipi hI ht8
          obtain ⟨kk_164, hk_165⟩ := pl_at ht8.1 hs_157
          exact va_instNo hx hb hown (hts (.classLink RX11 66 "PageOne$Story") (zat q_wsX11_head k_wsX11_head 161 rfl (by decide +kernel))) hXN.n_X7_X10 (va_recv hK hP (ci := 6) (q0 := kk_164) rfl hk_165) dX11_head_9 hgo
        ·
          exact absurd ht8 ht9
      ·
        refine lv_if_eq (tgt := 42) hx hb dX11_head_12 (by decide) (fun c_166 => ?_) (fun c_166 => absurd (by decide) c_166)
        refine lv_iconst (v := (-1)) hx hb dX11_head_42 (by decide) ?_
        refine W.widen (k := 3) (n := 14) (Nat.le_of_ble_eq_true rfl) (Nat.le_of_ble_eq_true rfl) ?_
        exact W.iret (v := (-1)) hx hb hr (fun t ht hW => ⟨⟨(-1), (k, z, f), rfl, (mkP_0 hI hrp hk0 (hd_n (by rw [ep_5, mK_it (by rw [← hk0]; exact hI.1.1) hi_4]; exact decide_eq_false hkd_29))), by rw [ht]; exact hP, hD⟩, hS.F ht⟩) hS.2.2 dX11_head_43
set_option maxHeartbeats 4000000 in
set_option maxRecDepth 100000 in
theorem y_paid (l : Launch) (dC : Nat → ClassId) (dI : Nat → Nat → Nat) (q : Nat → ClassId) (h0 : Nat) (d : Nat → Nat) (k : Nat → Int32) (z : gS) (f : xF) (hI : xI q h0 d k z f) (p0 p1 p2 p3 p4 p5 p6 : Int32) (u : mS) (hrp : rep q d u z f) (hk0 : k 0 = u.1 3) (hk1 : k 1 = u.1 28) (hk2 : k 2 = u.1 38) (hk3 : k 3 = u.1 39) (hz0 : (z.2 h0).2.1 = 0) (hnw : nwI u) (sz : Nat) : Met l yX11_paid wsX11_paid ({ frames := 3, cells := 5, slots := 421, locals := 70 }) (va_Pc [.ref h0, .int p0, .int p1, .int p2, .int p3, .int p4, .int p5, .int p6] (fun U => U.heap.size = sz ∧ PX dC dI (va_pl z.1 f) (xT q) U ∧ va_D (fun _ => True) (va_pl z.1 f))) (va_Qi (fun (r : Int32) (w : xU) => mkP q h0 d k z f u (mPaid u p0 p1 p2 p3 p4 p5 p6) r w) (fun (w : xU) t => va_P (dC, dI) vwCl (va_pl w.2.1.1 w.2.2) t.heap ∧ va_D (va_A (va_pl z.1 f) sz) (va_pl w.2.1.1 w.2.2)) (va_A (va_pl z.1 f) sz)) 5 421 (va_A (va_pl z.1 f) sz) := by
  refine Met.ofW (cc := cX11_paid) (maxL := 8) (ret := (some .int)) (by decide) rfl ?_
  intro p e s m args below meth c s₁ B hml hv
  obtain ⟨rfl, hsz, ⟨⟨hP, hK, hN⟩, hXN⟩, hD0⟩ := hv
  have hx := B.exec
  have hb := B.bytes
  have hr := B.returns
  have hts := atoms_spec (ws := wsX11_paid) B.pre
  have hown : s.vm.findClass RX11 = some m.cls := findClass_of_methodNamed B.named
  have hlocks := B.notSynchronized
  subst hsz
  have hD := hD0.self (sz := s.heap.size)
  generalize hAe : va_A (va_pl z.1 f) s.heap.size = A at hD ⊢
  have hA : ∀ q : Nat, s.heap.size ≤ q → A q := fun q h => by rw [← hAe]; exact Or.inr h
  have hS : va_S A s.heap s.heap [] := va_S.rf
  have hl := lv_entry ([.ref h0, .int p0, .int p1, .int p2, .int p3, .int p4, .int p5, .int p6]) (n := 8) (Nat.le_of_ble_eq_true rfl)
  rw [lg_entry_eq]
  generalize (lg_sl ([.ref h0, .int p0, .int p1, .int p2, .int p3, .int p4, .int p5, .int p6]) ++ List.replicate (8 - (lg_sl ([.ref h0, .int p0, .int p1, .int p2, .int p3, .int p4, .int p5, .int p6])).length) Slot.unset).toArray = ls at hl ⊢
  have hl : lv_has ls 8 [(0, .ref h0), (1, .int p0), (2, .int p1), (3, .int p2), (4, .int p3), (5, .int p4), (6, .int p5), (7, .int p6)] := hl
  have hIo := hI
  refine lv_iload_n hx hb dX11_paid_0 rfl (lv_at hl 1 rfl) ?_
  refine vp_callSi (va_runS (As := [.int p0]) (rest := []) ⟨hx, hb, hml, hown, hts⟩ (x_isBuyer l dC dI p0) (va_cwS 1 hts gX11_paid_X11_isBuyer rfl rfl rfl zh_X11_isBuyer_53 ⟨Nat.le_of_ble_eq_true rfl, Nat.le_of_ble_eq_true rfl⟩) ⟨pw_fb, fun U hU hW => ⟨rfl, pw_to hU hW (hP.sub (ws' := []) [] rfl) (hK.sub (tys' := []) [] rfl) hN⟩⟩ rfl rfl hl.1 rfl (lv_room (Nat.le_of_ble_eq_true rfl)) dX11_paid_1 ⟨Nat.le_of_ble_eq_true rfl, Nat.le_of_ble_eq_true rfl⟩).run (fun r hw => ?_)
  rcases Bool.eq_false_or_eq_true (bw p0 0 9) with b_1 | b_1
  ·
    obtain rfl : r = 1 := b_t hw b_1
    refine lv_if_eq (tgt := 36) hx hb dX11_paid_4 (by decide) (fun c_2 => absurd c_2 (by decide)) (fun c_2 => ?_)
    refine lv_iload_n hx hb dX11_paid_7 rfl (lv_at hl 2 rfl) ?_
    refine vp_callSi (va_runS (As := [.int p1]) (rest := []) ⟨hx, hb, hml, hown, hts⟩ (x_isPage l dC dI p1) (va_cwS 1 hts gX11_paid_X11_isPage rfl rfl rfl zh_X11_isPage_44 ⟨Nat.le_of_ble_eq_true rfl, Nat.le_of_ble_eq_true rfl⟩) ⟨pw_fb, fun U hU hW => ⟨rfl, pw_to hU hW (hP.sub (ws' := []) [] rfl) (hK.sub (tys' := []) [] rfl) hN⟩⟩ rfl rfl hl.1 rfl (lv_room (Nat.le_of_ble_eq_true rfl)) dX11_paid_8 ⟨Nat.le_of_ble_eq_true rfl, Nat.le_of_ble_eq_true rfl⟩).run (fun r hw => ?_)
    rcases Bool.eq_false_or_eq_true (bw p1 0 11) with b_3 | b_3
    ·
      obtain rfl : r = 1 := b_t hw b_3
      refine lv_if_eq (tgt := 36) hx hb dX11_paid_11 (by decide) (fun c_4 => absurd c_4 (by decide)) (fun c_4 => ?_)
      refine lv_iload hx hb dX11_paid_14 (lv_at hl 5 rfl) ?_
      refine lv_iload hx hb dX11_paid_16 (lv_at hl 6 rfl) ?_
      refine vp_callSi (va_runS (As := [.int p4, .int p5]) (rest := []) ⟨hx, hb, hml, hown, hts⟩ (x_isSquare l dC dI p4 p5) (va_cwS 2 hts gX11_paid_X11_isSquare rfl rfl rfl zh_X11_isSquare_51 ⟨Nat.le_of_ble_eq_true rfl, Nat.le_of_ble_eq_true rfl⟩) ⟨pw_fb, fun U hU hW => ⟨rfl, pw_to hU hW (hP.sub (ws' := []) [] rfl) (hK.sub (tys' := []) [] rfl) hN⟩⟩ rfl rfl hl.1 rfl (lv_room (Nat.le_of_ble_eq_true rfl)) dX11_paid_18 ⟨Nat.le_of_ble_eq_true rfl, Nat.le_of_ble_eq_true rfl⟩).run (fun r hw => ?_)
      rcases Bool.eq_false_or_eq_true ((bw p4 1 8 && bw p5 1 60)) with b_5 | b_5
      ·
        obtain rfl : r = 1 := b_t hw b_5
        refine lv_if_eq (tgt := 36) hx hb dX11_paid_21 (by decide) (fun c_6 => absurd c_6 (by decide)) (fun c_6 => ?_)
        refine lv_iload hx hb dX11_paid_24 (lv_at hl 7 rfl) ?_
        refine lv_iconst (v := 0) hx hb dX11_paid_26 (by decide) ?_
        refine lv_sipush (v := 1000) hx hb dX11_paid_27 (by decide) ?_
        refine vp_callSi (va_runS (As := [.int p6, .int 0, .int 1000]) (rest := []) ⟨hx, hb, hml, hown, hts⟩ (x_isWithin l dC dI p6 0 1000) (va_cwS 3 hts gX11_paid_X11_isWithin rfl rfl rfl zh_X11_isWithin_30 ⟨Nat.le_of_ble_eq_true rfl, Nat.le_of_ble_eq_true rfl⟩) ⟨pw_fb, fun U hU hW => ⟨rfl, pw_to hU hW (hP.sub (ws' := []) [] rfl) (hK.sub (tys' := []) [] rfl) hN⟩⟩ rfl rfl hl.1 rfl (lv_room (Nat.le_of_ble_eq_true rfl)) dX11_paid_30 ⟨Nat.le_of_ble_eq_true rfl, Nat.le_of_ble_eq_true rfl⟩).run (fun r hw => ?_)
        rcases Bool.eq_false_or_eq_true (bw p6 0 1000) with b_7 | b_7
        ·
          obtain rfl : r = 1 := b_t hw b_7
          refine lv_if_ne (tgt := 38) hx hb dX11_paid_33 (by decide) (fun c_8 => ?_) (fun c_8 => absurd c_8 (by decide))
          refine lv_iload_n hx hb dX11_paid_38 rfl (lv_at hl 3 rfl) ?_
          refine lv_iconst (v := 0) hx hb dX11_paid_39 (by decide) ?_
          refine lv_bipush (v := 8) hx hb dX11_paid_40 (by decide) ?_
          refine lv_iload hx hb dX11_paid_42 (lv_at hl 5 rfl) ?_
          refine lv_isub hx hb dX11_paid_44 ?_
          refine vp_callSi (va_runS (As := [.int p2, .int 0, .int (8 - p4)]) (rest := []) ⟨hx, hb, hml, hown, hts⟩ (x_isWithin l dC dI p2 0 (8 - p4)) (va_cwS 3 hts gX11_paid_X11_isWithin rfl rfl rfl zh_X11_isWithin_30 ⟨Nat.le_of_ble_eq_true rfl, Nat.le_of_ble_eq_true rfl⟩) ⟨pw_fb, fun U hU hW => ⟨rfl, pw_to hU hW (hP.sub (ws' := []) [] rfl) (hK.sub (tys' := []) [] rfl) hN⟩⟩ rfl rfl hl.1 rfl (lv_room (Nat.le_of_ble_eq_true rfl)) dX11_paid_45 ⟨Nat.le_of_ble_eq_true rfl, Nat.le_of_ble_eq_true rfl⟩).run (fun r hw => ?_)
          rcases Bool.eq_false_or_eq_true (bw p2 0 (8 - p4)) with b_9 | b_9
          ·
            obtain rfl : r = 1 := b_t hw b_9
            refine lv_if_eq (tgt := 65) hx hb dX11_paid_48 (by decide) (fun c_10 => absurd c_10 (by decide)) (fun c_10 => ?_)
            refine lv_iload hx hb dX11_paid_51 (lv_at hl 4 rfl) ?_
            refine lv_iconst (v := 0) hx hb dX11_paid_53 (by decide) ?_
            refine lv_bipush (v := 60) hx hb dX11_paid_54 (by decide) ?_
            refine lv_iload hx hb dX11_paid_56 (lv_at hl 6 rfl) ?_
            refine lv_isub hx hb dX11_paid_58 ?_
            refine vp_callSi (va_runS (As := [.int p3, .int 0, .int (60 - p5)]) (rest := []) ⟨hx, hb, hml, hown, hts⟩ (x_isWithin l dC dI p3 0 (60 - p5)) (va_cwS 3 hts gX11_paid_X11_isWithin rfl rfl rfl zh_X11_isWithin_30 ⟨Nat.le_of_ble_eq_true rfl, Nat.le_of_ble_eq_true rfl⟩) ⟨pw_fb, fun U hU hW => ⟨rfl, pw_to hU hW (hP.sub (ws' := []) [] rfl) (hK.sub (tys' := []) [] rfl) hN⟩⟩ rfl rfl hl.1 rfl (lv_room (Nat.le_of_ble_eq_true rfl)) dX11_paid_59 ⟨Nat.le_of_ble_eq_true rfl, Nat.le_of_ble_eq_true rfl⟩).run (fun r hw => ?_)
            rcases Bool.eq_false_or_eq_true (bw p3 0 (60 - p5)) with b_11 | b_11
            ·
              obtain rfl : r = 1 := b_t hw b_11
              refine lv_if_ne (tgt := 67) hx hb dX11_paid_62 (by decide) (fun c_12 => ?_) (fun c_12 => absurd c_12 (by decide))
              refine lv_aload_n hx hb dX11_paid_67 rfl (lv_at hl 0 rfl) ?_
              refine va_new (ci := 5) (fs := [.int 0, .int 0, .null, .int 0, .null, .int 0, .int 0, .null, .null]) (C := RX6) (T := TX6) (N := 9) hx hb hts zl_X11_paid_X6 tyX6 tyX6_ok hown (hts (.classLink RX11 104 RX6) (zat q_wsX11_paid k_wsX11_paid 307 rfl (by decide +kernel))) (hts (.instantiable RX6 9) (zat q_wsX11_paid k_wsX11_paid 308 rfl (by decide +kernel))) (hts (.initialized RX6) (zat q_wsX11_paid k_wsX11_paid 61 rfl (by decide +kernel))) hK hP hD hS hA rfl nwX6 (Nat.le_of_ble_eq_true rfl) (Nat.le_of_ble_eq_true rfl) dX11_paid_68 (fun q_13 H hPn hDn hS => ?_)
              have hP := vaP_l hPn
              refine W.widen (k := 1) (n := 9) (Nat.le_of_ble_eq_true rfl) (Nat.le_of_ble_eq_true rfl) ?_
              refine lv_dup hx hb dX11_paid_71 rfl ?_
              refine lv_aload_n hx hb dX11_paid_72 rfl (lv_at hl 0 rfl) ?_
              obtain ⟨kk_14, hk_15⟩ := pl_at hI.2.1.1.1 hI.2.2.2.1.1
              refine va_get (D := (dC, dI)) (ci := 10) (v := .int (k 0)) (C := RX11) (T := TX11) (N := 9) hx hb hts zl_X11_paid_X11 hown hK hP kk_14 hk_15 rfl 3 (by decide) (hts (.fieldLink RX11 24 "PageOne" "itemCount" "I") (zat q_wsX11_paid k_wsX11_paid 115 rfl (by decide +kernel))) (fun _ h9 => h9) rfl dX11_paid_73 ?_
              refine lv_iload_n hx hb dX11_paid_76 rfl (lv_at hl 1 rfl) ?_
              refine lv_iload hx hb dX11_paid_77 (lv_at hl 7 rfl) ?_
              refine va_new (ci := 7) (fs := [.null, .int 0, .int 0, .int 0, .int 0, .int 0]) (C := RX8) (T := TX8) (N := 6) hx hb hts zl_X11_paid_X8 tyX8 tyX8_ok hown (hts (.classLink RX11 106 RX8) (zat q_wsX11_paid k_wsX11_paid 309 rfl (by decide +kernel))) (hts (.instantiable RX8 6) (zat q_wsX11_paid k_wsX11_paid 310 rfl (by decide +kernel))) (hts (.initialized RX8) (zat q_wsX11_paid k_wsX11_paid 62 rfl (by decide +kernel))) hK hPn hDn hS hA rfl nwX8 (Nat.le_of_ble_eq_true rfl) (Nat.le_of_ble_eq_true rfl) dX11_paid_79 (fun q_16 H hPm hDm hS => ?_)
              refine W.widen (k := 2) (n := 15) (Nat.le_of_ble_eq_true rfl) (Nat.le_of_ble_eq_true rfl) ?_
              refine lv_dup hx hb dX11_paid_82 rfl ?_
              refine lv_null hx hb dX11_paid_83 ?_
              refine lv_iload_n hx hb dX11_paid_84 rfl (lv_at hl 2 rfl) ?_
              refine lv_iload_n hx hb dX11_paid_85 rfl (lv_at hl 3 rfl) ?_
              refine lv_iload hx hb dX11_paid_86 (lv_at hl 4 rfl) ?_
              refine lv_iload hx hb dX11_paid_88 (lv_at hl 5 rfl) ?_
              refine lv_iload hx hb dX11_paid_90 (lv_at hl 6 rfl) ?_
              have hPc := vaP_r hPm
              have hDc := vaD_r hDm
              have hFc := fr_part hDm hS hA
              refine va_callv (va_runI (As := [.null, .int p1, .int p2, .int p3, .int p4, .int p5]) (rest := [.ref q_16, .int p6, .int p0, .int (k 0), .ref q_13, .ref q_13, .ref h0]) ⟨hx, hb, hml, hown, hts⟩ (x_PieceN l dC dI q_16 p1 p2 p3 p4 p5 H.size) (cwI 6 hts gX11_paid_X8_init rfl rfl rfl (hts (.initialized RX8) (zat q_wsX11_paid k_wsX11_paid 62 rfl (by decide +kernel))) (hts (.methodLink RX11 108 yX8_init) (zat q_wsX11_paid k_wsX11_paid 311 rfl (by decide +kernel))) (hts (.instanceMethod yX8_init) (zat q_wsX11_paid k_wsX11_paid 312 rfl (by decide +kernel))) rfl zh_X8_init_83 ⟨Nat.le_of_ble_eq_true rfl, Nat.le_of_ble_eq_true rfl⟩) ⟨gw_fb, fun U hU hW => ⟨rfl, by rw [hU], pw_to hU hW hPc (hK.sub (tys' := []) [] rfl) hN, hDc.weaken (fun _ _ _ _ => trivial)⟩⟩ rfl rfl hl.1 rfl (lv_room (Nat.le_of_ble_eq_true rfl)) dX11_paid_92 ⟨Nat.le_of_ble_eq_true rfl, Nat.le_of_ble_eq_true rfl⟩) hS (fun q _ h => hFc q h) hFc (fun u9 t H1 locs ht hvm hw hB hz1 hk1 hS => ?_)
              obtain ⟨hP1, hD1⟩ := hB
              rw [ht] at hP1
              obtain ⟨hP, hD⟩ := va_joinQ (X := [(q_16, .inr (7, [.null, .int 0, .int 0, .int 0, .int 0, .int 0]))]) (cx := [(q_16, .inr (7, [.null, .int 0, .int 0, .int 0, .int 0, .int 0]))]) (wr := []) (w1 := [(q_16, .inr (7, [va_rf none, .int p1, .int p2, .int p3, .int p4, .int p5]))]) (pl := va_pl z.1 f ++ [(q_13, .inr (5, [.int 0, .int 0, .null, .int 0, .null, .int 0, .int 0, .null, .null]))]) (vaP_swap hPm) (vaD_rotR hDm) [0] [] rfl rfl rfl (fun i hi => absurd hi List.not_mem_nil) hk1 hFc hP1 hD1
              have hP := vaP_3 hP
              have hD := vaD_3 hD
              generalize H1 = H at hP hS ⊢
              obtain ⟨hnm_17, hP, hD⟩ := pushC hP hD
              obtain ⟨z_18, ez_18⟩ : ∃ y : gS, y = pz z q_16 (22, 0, [va_rf none, .int p1, .int p2, .int p3, .int p4, .int p5]) := ⟨_, rfl⟩
              obtain ⟨f_19, ef_19⟩ : ∃ y : xF, y = va_up f q_16 (.inr (7, [va_rf none, .int p1, .int p2, .int p3, .int p4, .int p5])) := ⟨_, rfl⟩
              have hE_20 : zE z z_18 := by rw [ez_18]; exact pz_E hnm_17 _
              have hI : xI q h0 d k z_18 f_19 := by rw [ez_18, ef_19]; exact x_push hI hnm_17 (Or.inr (by decide : (15 : Nat) < 22)) (cO_pc b_3 ty_n hnm_17)
              rw [show z.1 ++ [q_16] = z_18.1 from by rw [ez_18]; rfl, ← ef_19] at hP hD
              have ht_21 : tg z_18 q_16 22 := by rw [ez_18]; exact pz_t _ _ _
              have hEz : zE z z_18 := zE_tr (zE_rf z) hE_20
              have hc_22 : nC z_18 f_19 q_16 22 (0) (.inr (7, [va_rf none, .int p1, .int p2, .int p3, .int p4, .int p5])) := by rw [ez_18, ef_19]; exact nC_new
              have hoK : oK z f f_19 := by rw [ef_19]; exact oK_push (fun _ _ => rfl) (zE_rf z) hnm_17
              have hPn := vaP_swap hP
              have hDn := vaD_rot hD
              have hP := vaP_l hPn
              refine W.eq (g2 := F0 m 95 ls [.ref q_16, .int p6, .int p0, .int (k 0), .ref q_13, .ref q_13, .ref h0]) rfl ?_
              have hp_23 : pcS z_18 q_16 none p1 p2 p3 p4 p5 := ⟨ht_21, by rw [ez_18, pz_s]⟩
              have hlg_24 := lg_of hp_23 ⟨b87 b_9 rfl (ban b_5).1, b60 b_11 rfl (ban b_5).2, b1to0 (ban b_5).1, b1to0 (ban b_5).2⟩
              have hPc := vaP_r hPn
              have hDc := vaD_r hDn
              have hFc := fr_part hDn hS hA
              refine va_callv (va_runI (As := [.int (k 0), .int p0, .int p6, .ref q_16]) (rest := [.ref q_13, .ref h0]) ⟨hx, hb, hml, hown, hts⟩ (xn_Paid l dC dI q_13 q_16 (q 0) (q 1) (q 5) (k 0) p0 p6 H.size) (cwI 4 hts gX11_paid_X6_init rfl rfl rfl (hts (.initialized RX6) (zat q_wsX11_paid k_wsX11_paid 61 rfl (by decide +kernel))) (hts (.methodLink RX11 111 yX6_init) (zat q_wsX11_paid k_wsX11_paid 351 rfl (by decide +kernel))) (hts (.instanceMethod yX6_init) (zat q_wsX11_paid k_wsX11_paid 352 rfl (by decide +kernel))) rfl zh_X6_init_95 ⟨Nat.le_of_ble_eq_true rfl, Nat.le_of_ble_eq_true rfl⟩) ⟨gw_fb, fun U hU hW => ⟨rfl, by rw [hU], pw_to hU hW hPc (hK.sub (tys' := [(q 0, .int), (q 1, .boolean), (q 5, .object "PageOne$Piece")]) [0, 1, 5] rfl) hN, hDc.weaken (fun _ _ _ _ => trivial)⟩⟩ rfl rfl hl.1 rfl (lv_room (Nat.le_of_ble_eq_true rfl)) dX11_paid_95 ⟨Nat.le_of_ble_eq_true rfl, Nat.le_of_ble_eq_true rfl⟩) hS (fun q _ h => hFc q h) hFc (fun u9 t H1 locs ht hvm hw hB hz1 hk1 hS => ?_)
              obtain ⟨qa_25, qa_26, qa_27, hP1, hD1⟩ := hB
              rw [ht] at hP1
              obtain ⟨hP, hD⟩ := va_joinQ (X := [(q_13, .inr (5, [.int 0, .int 0, .null, .int 0, .null, .int 0, .int 0, .null, .null]))]) (cx := [(q_13, .inr (5, [.int 0, .int 0, .null, .int 0, .null, .int 0, .int 0, .null, .null]))]) (wr := []) (w1 := [(qa_25, aI (q 0) 5 (fun _ => (-1))), (qa_26, aR (q 5) 1 (fun _ => none)), (qa_27, aI (q 1) 400 (fun _ => 0)), (q_13, .inr (5, [.int (k 0), .int 3, .ref qa_26, .int 0, .ref qa_25, .int p0, .int p6, .ref q_16, .ref qa_27]))]) (pl := va_pl z_18.1 f_19) (vaP_swap hPn) (vaD_rotR hDn) [0] [] rfl rfl rfl (fun i hi => absurd hi List.not_mem_nil) hk1 hFc hP1 hD1
              generalize H1 = H at hP hS ⊢
              have hEo := hEz
              obtain ⟨hnm_28, hP, hD⟩ := pushC hP hD
              obtain ⟨z_29, ez_29⟩ : ∃ y : gS, y = pz z_18 qa_25 (17, 4000 + (u.1 3).toNatClampNeg, []) := ⟨_, rfl⟩
              obtain ⟨f_30, ef_30⟩ : ∃ y : xF, y = va_up f_19 qa_25 (aI (q 0) 5 (fun _ => (-1))) := ⟨_, rfl⟩
              have hE_31 : zE z_18 z_29 := by rw [ez_29]; exact pz_E hnm_28 _
              have hI : xI q h0 d k z_29 f_30 := by rw [ez_29, ef_30]; exact x_push hI hnm_28 (Or.inr (by decide : (15 : Nat) < 17)) (cO_17 (by rw [pz_s]) ⟨_, rfl⟩)
              rw [show z_18.1 ++ [qa_25] = z_29.1 from by rw [ez_29]; rfl, ← ef_30] at hP hD
              have hlg_24 := zE_lg hE_31 hlg_24
              have hp_23 := zE_pc hE_31 hp_23
              have ht_32 : tg z_29 qa_25 17 := by rw [ez_29]; exact pz_t _ _ _
              have hEz : zE z z_29 := zE_tr hEz hE_31
              have hc_22 : nC z_29 f_30 q_16 22 (0) (.inr (7, [va_rf none, .int p1, .int p2, .int p3, .int p4, .int p5])) := by rw [ez_29, ef_30]; exact nC_push hc_22 hnm_28
              have hc_33 : nC z_29 f_30 qa_25 17 (4000 + (u.1 3).toNatClampNeg) (aI (q 0) 5 (fun _ => (-1))) := by rw [ez_29, ef_30]; exact nC_new
              have hoK : oK z f f_30 := by rw [ef_30]; exact oK_push hoK hEo hnm_28
              have hEo := hEz
              obtain ⟨hnm_34, hP, hD⟩ := pushC hP hD
              obtain ⟨z_35, ez_35⟩ : ∃ y : gS, y = pz z_29 qa_26 (16, q_13, []) := ⟨_, rfl⟩
              obtain ⟨f_36, ef_36⟩ : ∃ y : xF, y = va_up f_30 qa_26 (aR (q 5) 1 (fun _ => none)) := ⟨_, rfl⟩
              have hE_37 : zE z_29 z_35 := by rw [ez_35]; exact pz_E hnm_34 _
              have hI : xI q h0 d k z_35 f_36 := by rw [ez_35, ef_36]; exact x_push hI hnm_34 (Or.inr (by decide : (15 : Nat) < 16)) (cO_16 (by rw [pz_s]) ⟨1, by decide, by decide, _, rfl, fun _ _ b hb => by cases hb⟩)
              rw [show z_29.1 ++ [qa_26] = z_35.1 from by rw [ez_35]; rfl, ← ef_36] at hP hD
              have hpf9 : f_36 qa_26 = aR (q 5) 1 (fun _ => none) := by rw [ef_36]; exact up_s
              have ho9 : (z_35.2 qa_26).2.1 = q_13 := by rw [ez_35, pz_s]
              have hlg_24 := zE_lg hE_37 hlg_24
              have ht_32 := zE_tg hE_37 ht_32
              have hp_23 := zE_pc hE_37 hp_23
              have ht_38 : tg z_35 qa_26 16 := by rw [ez_35]; exact pz_t _ _ _
              have hEz : zE z z_35 := zE_tr hEz hE_37
              have hc_22 : nC z_35 f_36 q_16 22 (0) (.inr (7, [va_rf none, .int p1, .int p2, .int p3, .int p4, .int p5])) := by rw [ez_35, ef_36]; exact nC_push hc_22 hnm_34
              have hc_33 : nC z_35 f_36 qa_25 17 (4000 + (u.1 3).toNatClampNeg) (aI (q 0) 5 (fun _ => (-1))) := by rw [ez_35, ef_36]; exact nC_push hc_33 hnm_34
              have hc_39 : nC z_35 f_36 qa_26 16 (q_13) (aR (q 5) 1 (fun _ => none)) := by rw [ez_35, ef_36]; exact nC_new
              have hoK : oK z f f_36 := by rw [ef_36]; exact oK_push hoK hEo hnm_34
              have hEo := hEz
              obtain ⟨hnm_40, hP, hD⟩ := pushC hP hD
              obtain ⟨z_41, ez_41⟩ : ∃ y : gS, y = pz z_35 qa_27 (21, 6000 + (u.1 3).toNatClampNeg, []) := ⟨_, rfl⟩
              obtain ⟨f_42, ef_42⟩ : ∃ y : xF, y = va_up f_36 qa_27 (aI (q 1) 400 (fun _ => 0)) := ⟨_, rfl⟩
              have hE_43 : zE z_35 z_41 := by rw [ez_41]; exact pz_E hnm_40 _
              have hI : xI q h0 d k z_41 f_42 := by rw [ez_41, ef_42]; exact x_push hI hnm_40 (Or.inr (by decide : (15 : Nat) < 21)) (cO_21 (by rw [pz_s]) ⟨_, rfl⟩)
              rw [show z_35.1 ++ [qa_27] = z_41.1 from by rw [ez_41]; rfl, ← ef_42] at hP hD
              have hpf9 : f_42 qa_26 = aR (q 5) 1 (fun _ => none) := by rw [ef_42, up_o (fun e => hnm_40 (by rw [← e]; exact ht_38.1))]; exact hpf9
              have ho9 : (z_41.2 qa_26).2.1 = q_13 := by rw [zE_o hE_43 ht_38.1]; exact ho9
              have hlg_24 := zE_lg hE_43 hlg_24
              have ht_32 := zE_tg hE_43 ht_32
              have ht_38 := zE_tg hE_43 ht_38
              have hp_23 := zE_pc hE_43 hp_23
              have ht_44 : tg z_41 qa_27 21 := by rw [ez_41]; exact pz_t _ _ _
              have hEz : zE z z_41 := zE_tr hEz hE_43
              have hc_22 : nC z_41 f_42 q_16 22 (0) (.inr (7, [va_rf none, .int p1, .int p2, .int p3, .int p4, .int p5])) := by rw [ez_41, ef_42]; exact nC_push hc_22 hnm_40
              have hc_33 : nC z_41 f_42 qa_25 17 (4000 + (u.1 3).toNatClampNeg) (aI (q 0) 5 (fun _ => (-1))) := by rw [ez_41, ef_42]; exact nC_push hc_33 hnm_40
              have hc_39 : nC z_41 f_42 qa_26 16 (q_13) (aR (q 5) 1 (fun _ => none)) := by rw [ez_41, ef_42]; exact nC_push hc_39 hnm_40
              have hc_45 : nC z_41 f_42 qa_27 21 (6000 + (u.1 3).toNatClampNeg) (aI (q 1) 400 (fun _ => 0)) := by rw [ez_41, ef_42]; exact nC_new
              have hoK : oK z f f_42 := by rw [ef_42]; exact oK_push hoK hEo hnm_40
              have hEo := hEz
              obtain ⟨hnm_46, hP, hD⟩ := pushC hP hD
              obtain ⟨z_47, ez_47⟩ : ∃ y : gS, y = pz z_41 q_13 (13, 2000 + (u.1 3).toNatClampNeg, []) := ⟨_, rfl⟩
              obtain ⟨f_48, ef_48⟩ : ∃ y : xF, y = va_up f_42 q_13 (.inr (5, [.int (k 0), .int 3, .ref qa_26, .int 0, .ref qa_25, .int p0, .int p6, .ref q_16, .ref qa_27])) := ⟨_, rfl⟩
              have hE_49 : zE z_41 z_47 := by rw [ez_47]; exact pz_E hnm_46 _
              have hI : xI q h0 d k z_47 f_48 := by rw [ez_47, ef_48]; exact x_pushIo (n := 1) hI hnm_46 (by decide) ht_38 ho9 ht_32 hpf9 (by decide) ⟨fun x => absurd x (by decide), fun x => absurd x (by decide), fun x => absurd x (by decide), fun _ => ⟨_, _, _, _, rfl, b_1, zE_lg (pz_E hnm_46 _) hlg_24, zE_tg (pz_E hnm_46 _) ht_44⟩, fun x => absurd x (by decide), fun x => absurd x (by decide)⟩
              rw [show z_41.1 ++ [q_13] = z_47.1 from by rw [ez_47]; rfl, ← ef_48] at hP hD
              have hpf9 : f_48 qa_26 = aR (q 5) 1 (fun _ => none) := by rw [ef_48, up_o (fun e => hnm_46 (by rw [← e]; exact ht_38.1))]; exact hpf9
              have ho9 : (z_47.2 qa_26).2.1 = q_13 := by rw [zE_o hE_49 ht_38.1]; exact ho9
              have hlg_24 := zE_lg hE_49 hlg_24
              have ht_32 := zE_tg hE_49 ht_32
              have ht_38 := zE_tg hE_49 ht_38
              have ht_44 := zE_tg hE_49 ht_44
              have hp_23 := zE_pc hE_49 hp_23
              have ht_50 : tg z_47 q_13 13 := by rw [ez_47]; exact pz_t _ _ _
              have hEz : zE z z_47 := zE_tr hEz hE_49
              have hc_22 : nC z_47 f_48 q_16 22 (0) (.inr (7, [va_rf none, .int p1, .int p2, .int p3, .int p4, .int p5])) := by rw [ez_47, ef_48]; exact nC_push hc_22 hnm_46
              have hc_33 : nC z_47 f_48 qa_25 17 (4000 + (u.1 3).toNatClampNeg) (aI (q 0) 5 (fun _ => (-1))) := by rw [ez_47, ef_48]; exact nC_push hc_33 hnm_46
              have hc_39 : nC z_47 f_48 qa_26 16 (q_13) (aR (q 5) 1 (fun _ => none)) := by rw [ez_47, ef_48]; exact nC_push hc_39 hnm_46
              have hc_45 : nC z_47 f_48 qa_27 21 (6000 + (u.1 3).toNatClampNeg) (aI (q 1) 400 (fun _ => 0)) := by rw [ez_47, ef_48]; exact nC_push hc_45 hnm_46
              have hc_51 : nC z_47 f_48 q_13 13 (2000 + (u.1 3).toNatClampNeg) (.inr (5, [.int (k 0), .int 3, .ref qa_26, .int 0, .ref qa_25, .int p0, .int p6, .ref q_16, .ref qa_27])) := by rw [ez_47, ef_48]; exact nC_new
              have hoK : oK z f f_48 := by rw [ef_48]; exact oK_push hoK hEo hnm_46
              refine W.widen (k := 5) (n := 421) (Nat.le_of_ble_eq_true rfl) (Nat.le_of_ble_eq_true rfl) ?_
              refine W.eq (g2 := F0 m 98 ls [.ref q_13, .ref h0]) rfl ?_
              obtain ⟨kk_52, hk_53⟩ := pl_at hI.2.1.1.1 hI.2.2.2.1.1
              have hFc := fr_all hD hS hA
              refine va_calli (va_runV (As := [.ref q_13]) (rest := []) ⟨hx, hb, hml, hown, hts⟩ (y_enter l dC dI q h0 d k z_47 f_48 hI q_13 (tg_itm ht_50 (by decide)) (k 0) 3 0 qa_26 qa_25 [.int p0, .int p6, .ref q_16, .ref qa_27] (by rw [hc_51.2.2, hc_51.1.2]; rfl) H.size) (cwV 1 hts gX11_paid_X11_enter rfl rfl rfl zh_X11_enter_87 ⟨Nat.le_of_ble_eq_true rfl, Nat.le_of_ble_eq_true rfl⟩) ⟨gx_fb, va_recv hK hP (ci := 10) (q0 := kk_52) rfl hk_53, fun U hU hW => ⟨rfl, by rw [hU], px_to hU hW hP hK hN hXN, hD.weaken (fun _ _ _ _ => trivial)⟩⟩ rfl rfl hl.1 rfl (lv_room (Nat.le_of_ble_eq_true rfl)) dX11_paid_98 ⟨Nat.le_of_ble_eq_true rfl, Nat.le_of_ble_eq_true rfl⟩) hS (fun q _ h => hFc q h) hFc (fun r w_54 t H1 locs ht hvm hw hB hz1 hk1 hS => ?_)
              obtain ⟨hP, hD1⟩ := hB
              rw [ht] at hP
              rw [hw.1] at hP hD1
              have hD := hD1.weaken (fun _ q _ h => hFc q.1 h)
              have hI := hw.2.1
              have hw0 := hw
              generalize w_54.1 = k_56 at hI hw0
              generalize w_54.2.2 = f_55 at hP hD hI hw0
              generalize H1 = H at hP hS ⊢
              exact W.iret (v := r) hx hb hr (fun t ht hW => ⟨⟨r, (k_56, z_47, f_55), rfl, (mk_Paid hIo hrp hk0 hz0 hnw hI hEz hoK hw0.2.2 hc_51 hc_39 hc_33 hp_23 hc_45 (pdB_iff.mpr ⟨b_1, b_3, b_5, b_7, b_9, b_11⟩)), by rw [ht]; exact hP, hD⟩, hS.F ht⟩) hS.2.2 dX11_paid_101
            ·
              obtain rfl : r = 0 := b_f hw b_11
              refine lv_if_ne (tgt := 67) hx hb dX11_paid_62 (by decide) (fun c_57 => absurd (by decide) c_57) (fun c_57 => ?_)
              refine lv_iconst (v := (-1)) hx hb dX11_paid_65 (by decide) ?_
              refine W.widen (k := 5) (n := 421) (Nat.le_of_ble_eq_true rfl) (Nat.le_of_ble_eq_true rfl) ?_
              exact W.iret (v := (-1)) hx hb hr (fun t ht hW => ⟨⟨(-1), (k, z, f), rfl, (mkP_0 hI hrp hk0 (pd_n (fun h9 => bne b_11 (pdB_iff.mp h9).2.2.2.2.2))), by rw [ht]; exact hP, hD⟩, hS.F ht⟩) hS.2.2 dX11_paid_66
          ·
            obtain rfl : r = 0 := b_f hw b_9
            refine lv_if_eq (tgt := 65) hx hb dX11_paid_48 (by decide) (fun c_58 => ?_) (fun c_58 => absurd (by decide) c_58)
            refine lv_iconst (v := (-1)) hx hb dX11_paid_65 (by decide) ?_
            refine W.widen (k := 5) (n := 421) (Nat.le_of_ble_eq_true rfl) (Nat.le_of_ble_eq_true rfl) ?_
            exact W.iret (v := (-1)) hx hb hr (fun t ht hW => ⟨⟨(-1), (k, z, f), rfl, (mkP_0 hI hrp hk0 (pd_n (fun h9 => bne b_9 (pdB_iff.mp h9).2.2.2.2.1))), by rw [ht]; exact hP, hD⟩, hS.F ht⟩) hS.2.2 dX11_paid_66
        ·
          obtain rfl : r = 0 := b_f hw b_7
          refine lv_if_ne (tgt := 38) hx hb dX11_paid_33 (by decide) (fun c_59 => absurd (by decide) c_59) (fun c_59 => ?_)
          refine lv_iconst (v := (-1)) hx hb dX11_paid_36 (by decide) ?_
          refine W.widen (k := 5) (n := 421) (Nat.le_of_ble_eq_true rfl) (Nat.le_of_ble_eq_true rfl) ?_
          exact W.iret (v := (-1)) hx hb hr (fun t ht hW => ⟨⟨(-1), (k, z, f), rfl, (mkP_0 hI hrp hk0 (pd_n (fun h9 => bne b_7 (pdB_iff.mp h9).2.2.2.1))), by rw [ht]; exact hP, hD⟩, hS.F ht⟩) hS.2.2 dX11_paid_37
      ·
        obtain rfl : r = 0 := b_f hw b_5
        refine lv_if_eq (tgt := 36) hx hb dX11_paid_21 (by decide) (fun c_60 => ?_) (fun c_60 => absurd (by decide) c_60)
        refine lv_iconst (v := (-1)) hx hb dX11_paid_36 (by decide) ?_
        refine W.widen (k := 5) (n := 421) (Nat.le_of_ble_eq_true rfl) (Nat.le_of_ble_eq_true rfl) ?_
        exact W.iret (v := (-1)) hx hb hr (fun t ht hW => ⟨⟨(-1), (k, z, f), rfl, (mkP_0 hI hrp hk0 (pd_n (fun h9 => bne b_5 (pdB_iff.mp h9).2.2.1))), by rw [ht]; exact hP, hD⟩, hS.F ht⟩) hS.2.2 dX11_paid_37
    ·
      obtain rfl : r = 0 := b_f hw b_3
      refine lv_if_eq (tgt := 36) hx hb dX11_paid_11 (by decide) (fun c_61 => ?_) (fun c_61 => absurd (by decide) c_61)
      refine lv_iconst (v := (-1)) hx hb dX11_paid_36 (by decide) ?_
      refine W.widen (k := 5) (n := 421) (Nat.le_of_ble_eq_true rfl) (Nat.le_of_ble_eq_true rfl) ?_
      exact W.iret (v := (-1)) hx hb hr (fun t ht hW => ⟨⟨(-1), (k, z, f), rfl, (mkP_0 hI hrp hk0 (pd_n (fun h9 => bne b_3 (pdB_iff.mp h9).2.1))), by rw [ht]; exact hP, hD⟩, hS.F ht⟩) hS.2.2 dX11_paid_37
  ·
    obtain rfl : r = 0 := b_f hw b_1
    refine lv_if_eq (tgt := 36) hx hb dX11_paid_4 (by decide) (fun c_62 => ?_) (fun c_62 => absurd (by decide) c_62)
    refine lv_iconst (v := (-1)) hx hb dX11_paid_36 (by decide) ?_
    refine W.widen (k := 5) (n := 421) (Nat.le_of_ble_eq_true rfl) (Nat.le_of_ble_eq_true rfl) ?_
    exact W.iret (v := (-1)) hx hb hr (fun t ht hW => ⟨⟨(-1), (k, z, f), rfl, (mkP_0 hI hrp hk0 (pd_n (fun h9 => bne b_1 (pdB_iff.mp h9).1))), by rw [ht]; exact hP, hD⟩, hS.F ht⟩) hS.2.2 dX11_paid_37
set_option maxHeartbeats 4000000 in
set_option maxRecDepth 100000 in
theorem y_notice (l : Launch) (dC : Nat → ClassId) (dI : Nat → Nat → Nat) (q : Nat → ClassId) (h0 : Nat) (d : Nat → Nat) (k : Nat → Int32) (z : gS) (f : xF) (hI : xI q h0 d k z f) (p0 p1 : Int32) (u : mS) (hrp : rep q d u z f) (hk0 : k 0 = u.1 3) (hk1 : k 1 = u.1 28) (hk2 : k 2 = u.1 38) (hk3 : k 3 = u.1 39) (hz0 : (z.2 h0).2.1 = 0) (hnw : nwI u) (hpi : plI u) (hfi : fiI u) (sz : Nat) : Met l yX11_notice wsX11_notice ({ frames := 5, cells := 3, slots := 13, locals := 111 }) (va_Pc [.ref h0, .int p0, .int p1] (fun U => U.heap.size = sz ∧ PX dC dI (va_pl z.1 f) (xT q) U ∧ va_D (fun _ => True) (va_pl z.1 f))) (va_Qi (fun (r : Int32) (w : xU) => mkP q h0 d k z f u (mNoticeX u p0 p1) r w) (fun (w : xU) t => va_P (dC, dI) vwCl (va_pl w.2.1.1 w.2.2) t.heap ∧ va_D (va_A (va_pl z.1 f) sz) (va_pl w.2.1.1 w.2.2)) (va_A (va_pl z.1 f) sz)) 3 13 (va_A (va_pl z.1 f) sz) := by
  refine Met.ofW (cc := cX11_notice) (maxL := 4) (ret := (some .int)) (by decide) rfl ?_
  intro p e s m args below meth c s₁ B hml hv
  obtain ⟨rfl, hsz, ⟨⟨hP, hK, hN⟩, hXN⟩, hD0⟩ := hv
  have hx := B.exec
  have hb := B.bytes
  have hr := B.returns
  have hts := atoms_spec (ws := wsX11_notice) B.pre
  have hown : s.vm.findClass RX11 = some m.cls := findClass_of_methodNamed B.named
  have hlocks := B.notSynchronized
  subst hsz
  have hD := hD0.self (sz := s.heap.size)
  generalize hAe : va_A (va_pl z.1 f) s.heap.size = A at hD ⊢
  have hA : ∀ q : Nat, s.heap.size ≤ q → A q := fun q h => by rw [← hAe]; exact Or.inr h
  have hS : va_S A s.heap s.heap [] := va_S.rf
  have hl := lv_entry ([.ref h0, .int p0, .int p1]) (n := 4) (Nat.le_of_ble_eq_true rfl)
  rw [lg_entry_eq]
  generalize (lg_sl ([.ref h0, .int p0, .int p1]) ++ List.replicate (4 - (lg_sl ([.ref h0, .int p0, .int p1])).length) Slot.unset).toArray = ls at hl ⊢
  have hl : lv_has ls 4 [(0, .ref h0), (1, .int p0), (2, .int p1)] := hl
  have hIo := hI
  refine lv_aload_n hx hb dX11_notice_0 rfl (lv_at hl 0 rfl) ?_
  refine lv_iload_n hx hb dX11_notice_1 rfl (lv_at hl 1 rfl) ?_
  obtain ⟨kk_1, hk_2⟩ := pl_at hI.2.1.1.1 hI.2.2.2.1.1
  refine va_csq (va_runV (As := [.int p0]) (rest := []) ⟨hx, hb, hml, hown, hts⟩ (y_itemOf l dC dI q h0 d k z f hI p0 u hrp hk0 hk1 hk2 hk3) (cwV 1 hts gX11_notice_X11_itemOf rfl rfl rfl zh_X11_itemOf_49 ⟨Nat.le_of_ble_eq_true rfl, Nat.le_of_ble_eq_true rfl⟩) ⟨px_fb, va_recv hK hP (ci := 10) (q0 := kk_1) rfl hk_2, fun U hU hW => ⟨rfl, px_to hU hW hP hK hN hXN⟩⟩ rfl rfl hl.1 rfl (lv_room (Nat.le_of_ble_eq_true rfl)) dX11_notice_2 ⟨Nat.le_of_ble_eq_true rfl, Nat.le_of_ble_eq_true rfl⟩).run (fun r hw => ?_)
  rcases hw with ⟨hr9, hn9⟩ | ⟨i_3, hi_4, ep_5, hr9⟩
  ·
    subst hr9
    have hno_25 := hn9
    refine W.eq (g2 := F0 m 5 ls [.null]) rfl ?_
    refine lv_astore_nN (lv' := [(3, .null), (0, .ref h0), (1, .int p0), (2, .int p1)]) hx hb dX11_notice_5 rfl hl (by decide) rfl (fun ls hl => ?_)
    refine lv_aload_nN hx hb dX11_notice_6 rfl (lv_at hl 0 rfl) ?_
    refine lv_ifnullN (tgt := 27) hx hb dX11_notice_7 (by decide) ?_
    refine lv_iconst (v := (-1)) hx hb dX11_notice_27 (by decide) ?_
    refine W.widen (k := 3) (n := 13) (Nat.le_of_ble_eq_true rfl) (Nat.le_of_ble_eq_true rfl) ?_
    exact W.iret (v := (-1)) hx hb hr (fun t ht hW => ⟨⟨(-1), (k, z, f), rfl, (mkP_0 hI hrp hk0 (nt_i hno_25)), by rw [ht]; exact hP, hD⟩, hS.F ht⟩) hS.2.2 dX11_notice_28
  ·
    subst hr9
    obtain ⟨rs_6, n_7, g_8, fg_9, hit_10, hs_11, hpa_12, hps_13, h1_14, h6_15, hcb_16, hpl_17, hlg_18, hnn_19, hfa_20, hfs_21, hfe_22, hrs_23, hkt_24⟩ := it_all hI hrp.2.2.1 hi_4
    refine W.eq (g2 := F0 m 5 ls [.ref (d (2000 + i_3))]) rfl ?_
    refine lv_astore_n (lv' := [(3, .ref (d (2000 + i_3))), (0, .ref h0), (1, .int p0), (2, .int p1)]) hx hb dX11_notice_5 rfl hl (by decide) rfl (fun ls hl => ?_)
    refine lv_aload_n hx hb dX11_notice_6 rfl (lv_at hl 0 rfl) ?_
    refine lv_ifnull hx hb dX11_notice_7 ?_
    refine lv_aload_n hx hb dX11_notice_10 rfl (lv_at hl 0 rfl) ?_
    rcases Classical.em (tg z (d (2000 + i_3)) 12) with ht9 | ht9
    ·
      have ht_26 := ht9
      have hkd_28 : u.2 4 i_3 = 5 := (kT_k (kd_05 hrp.2.2.1 hi_4).1 (kd_05 hrp.2.2.1 hi_4).2).2.2.2.2.2 (hkt_24.symm.trans ht_26.2)
      obtain ⟨o_49, hx_39, hx_40, hx_41⟩ := hrs_23.2.2.2.2.2 hkd_28
      have hs_48 : f (d (2000 + i_3)) = .inr (4, [.int (nI i_3), .int (u.2 4 i_3), .ref (d (3000 + i_3)), .int (u.2 22 i_3), .ref (d (4000 + i_3)), .ref (d (2000 + o_49)), .int (u.2 8 i_3)]) := by rw [hs_11, ht_26.2, hx_41]; rfl
      have hit_50 := rI_itm hrp.2.2.1 hx_39
      obtain ⟨kk_51, hk_52⟩ := pl_at ht_26.1 hs_48
      refine va_instS hx hb hown (hts (.classLink RX11 119 RX5) (zat q_wsX11_notice k_wsX11_notice 404 rfl (by decide +kernel))) (hK.1 4 (RX5, TX5, 7) rfl).2 (va_recv hK hP (ci := 4) (q0 := kk_51) rfl hk_52) dX11_notice_11 ?_
      refine lv_if_ne (tgt := 27) hx hb dX11_notice_14 (by decide) (fun c_53 => ?_) (fun c_53 => absurd c_53 (by decide))
      refine lv_iconst (v := (-1)) hx hb dX11_notice_27 (by decide) ?_
      refine W.widen (k := 3) (n := 13) (Nat.le_of_ble_eq_true rfl) (Nat.le_of_ble_eq_true rfl) ?_
      exact W.iret (v := (-1)) hx hb hr (fun t ht hW => ⟨⟨(-1), (k, z, f), rfl, (mkP_0 hI hrp hk0 (by rw [ep_5]; exact nt_k (by rw [nI_clamp (by have := w80i hI.1.1 hk0; have := hi_4; omega)]; exact hkd_28))), by rw [ht]; exact hP, hD⟩, hS.F ht⟩) hS.2.2 dX11_notice_28
    ·
      have hn_27 := ht9
      have hkd_28 : ¬ u.2 4 i_3 = 5 := fun e9 => ht9 ⟨hit_10.1, by rw [hkt_24, e9]; rfl⟩
      refine w_then (F0 m 14 ls [.int 0]) (fun hgo => ?_) ?_
      ·
        rcases x_tag hit_10 with ht8 | ht8 | ht8 | ht8 | ht8 | ht8
        ·
          obtain ⟨nu_54, kd_55, cn_56, pa_57, fa_58, l_59, m_60, hs_61, hs_62, hs_63, hs_64⟩ := x_ifl hI ht8
          obtain ⟨kk_65, hk_66⟩ := pl_at ht8.1 hs_61
          exact va_instNo hx hb hown (hts (.classLink RX11 119 RX5) (zat q_wsX11_notice k_wsX11_notice 404 rfl (by decide +kernel))) hXN.n_X2_X5 (va_recv hK hP (ci := 2) (q0 := kk_65) rfl hk_66) dX11_notice_11 hgo
        ·
          obtain ⟨nu_67, kd_68, cn_69, pa_70, fa_71, o_72, w_73, y_74, hs_75, hs_76, hs_77, hs_78, hq_79⟩ := x_ihd hI ht8
          obtain ⟨kk_80, hk_81⟩ := pl_at ht8.1 hs_75
          exact va_instNo hx hb hown (hts (.classLink RX11 119 RX5) (zat q_wsX11_notice k_wsX11_notice 404 rfl (by decide +kernel))) hXN.n_X3_X5 (va_recv hK hP (ci := 3) (q0 := kk_80) rfl hk_81) dX11_notice_11 hgo
        ·
          exact absurd ht8 ht9
        ·
          obtain ⟨nu_82, kd_83, cn_84, pa_85, fa_86, b_87, pr_88, sp_89, dy_90, hs_91, hs_92, hs_93, hs_94, hq_95, hq_96, hq_97⟩ := x_ipd hI ht8
          obtain ⟨kk_98, hk_99⟩ := pl_at ht8.1 hs_91
          exact va_instNo hx hb hown (hts (.classLink RX11 119 RX5) (zat q_wsX11_notice k_wsX11_notice 404 rfl (by decide +kernel))) hXN.n_X6_X5 (va_recv hK hP (ci := 5) (q0 := kk_98) rfl hk_99) dX11_notice_11 hgo
        ·
          obtain ⟨nu_100, kd_101, cn_102, pa_103, fa_104, ww_105, hh_106, sz_107, hs_108, hs_109, hs_110, hs_111, hq_112, hq_113, hq_114⟩ := x_ipi hI ht8
          obtain ⟨kk_115, hk_116⟩ := pl_at ht8.1 hs_108
          exact va_instNo hx hb hown (hts (.classLink RX11 119 RX5) (zat q_wsX11_notice k_wsX11_notice 404 rfl (by decide +kernel))) hXN.n_X7_X5 (va_recv hK hP (ci := 6) (q0 := kk_115) rfl hk_116) dX11_notice_11 hgo
        ·
          obtain ⟨nu_117, kd_118, cn_119, pa_120, fa_121, l_122, co_123, wd_124, nm_125, hs_126, hs_127, hs_128, hs_129, hq_130, hq_131, hq_132⟩ := x_ist hI ht8
          obtain ⟨kk_133, hk_134⟩ := pl_at ht8.1 hs_126
          exact va_instNo hx hb hown (hts (.classLink RX11 119 RX5) (zat q_wsX11_notice k_wsX11_notice 404 rfl (by decide +kernel))) hXN.n_X10_X5 (va_recv hK hP (ci := 9) (q0 := kk_133) rfl hk_134) dX11_notice_11 hgo
      ·
        refine lv_if_ne (tgt := 27) hx hb dX11_notice_14 (by decide) (fun c_135 => absurd (by decide) c_135) (fun c_135 => ?_)
        refine lv_iload_n hx hb dX11_notice_17 rfl (lv_at hl 3 rfl) ?_
        refine lv_iconst (v := 1) hx hb dX11_notice_18 (by decide) ?_
        refine lv_bipush (v := 20) hx hb dX11_notice_19 (by decide) ?_
        refine vp_callSi (va_runS (As := [.int p1, .int 1, .int 20]) (rest := []) ⟨hx, hb, hml, hown, hts⟩ (x_isWithin l dC dI p1 1 20) (va_cwS 3 hts gX11_notice_X11_isWithin rfl rfl rfl zh_X11_isWithin_30 ⟨Nat.le_of_ble_eq_true rfl, Nat.le_of_ble_eq_true rfl⟩) ⟨pw_fb, fun U hU hW => ⟨rfl, pw_to hU hW (hP.sub (ws' := []) [] rfl) (hK.sub (tys' := []) [] rfl) hN⟩⟩ rfl rfl hl.1 rfl (lv_room (Nat.le_of_ble_eq_true rfl)) dX11_notice_21 ⟨Nat.le_of_ble_eq_true rfl, Nat.le_of_ble_eq_true rfl⟩).run (fun r hw => ?_)
        rcases Bool.eq_false_or_eq_true (bw p1 1 20) with b_136 | b_136
        ·
          obtain rfl : r = 1 := b_t hw b_136
          refine lv_if_ne (tgt := 29) hx hb dX11_notice_24 (by decide) (fun c_137 => ?_) (fun c_137 => absurd c_137 (by decide))
          refine lv_aload_n hx hb dX11_notice_29 rfl (lv_at hl 1 rfl) ?_
          refine lv_aload_n hx hb dX11_notice_30 rfl (lv_at hl 0 rfl) ?_
          refine lv_iconst (v := 0) hx hb dX11_notice_31 (by decide) ?_
          obtain ⟨kk_138, hk_139⟩ := pl_at hI.2.1.1.1 hI.2.2.2.1.1
          refine vp_callSi (va_runV (As := [.ref (d (2000 + i_3)), .int 0]) (rest := []) ⟨hx, hb, hml, hown, hts⟩ (y_firstPrinting l dC dI q h0 d k z f hI 0 u hrp hk0 hk1 hk2 hk3 hpi hfi i_3 hi_4) (cwV 2 hts gX11_notice_X11_firstPrinting rfl rfl rfl zh_X11_firstPrinting_73 ⟨Nat.le_of_ble_eq_true rfl, Nat.le_of_ble_eq_true rfl⟩) ⟨px_fb, va_recv hK hP (ci := 10) (q0 := kk_138) rfl hk_139, fun U hU hW => ⟨rfl, px_to hU hW hP hK hN hXN⟩⟩ rfl rfl hl.1 rfl (lv_room (Nat.le_of_ble_eq_true rfl)) dX11_notice_32 ⟨Nat.le_of_ble_eq_true rfl, Nat.le_of_ble_eq_true rfl⟩).run (fun r hw => ?_)
          generalize r = zr_140 at hw ⊢
          have hzr_140 := hw
          refine lv_iconst (v := (-1)) hx hb dX11_notice_35 (by decide) ?_
          refine lv_icmp_eq (tgt := 47) hx hb dX11_notice_36 (by decide) (fun c_141 => ?_) (fun c_141 => ?_)
          ·
            refine lv_iconst (v := (-1)) hx hb dX11_notice_47 (by decide) ?_
            refine W.widen (k := 3) (n := 13) (Nat.le_of_ble_eq_true rfl) (Nat.le_of_ble_eq_true rfl) ?_
            exact W.iret (v := (-1)) hx hb hr (fun t ht hW => ⟨⟨(-1), (k, z, f), rfl, (mkP_0 hI hrp hk0 (by rw [ep_5]; exact nt_p (by rw [← mPr_eq hzr_140, c_141]; decide))), by rw [ht]; exact hP, hD⟩, hS.F ht⟩) hS.2.2 dX11_notice_48
          ·
            refine lv_aload_n hx hb dX11_notice_39 rfl (lv_at hl 1 rfl) ?_
            refine lv_aload_n hx hb dX11_notice_40 rfl (lv_at hl 0 rfl) ?_
            obtain ⟨kk_142, hk_143⟩ := pl_at hI.2.1.1.1 hI.2.2.2.1.1
            refine vp_callSi (va_runV (As := [.ref (d (2000 + i_3))]) (rest := []) ⟨hx, hb, hml, hown, hts⟩ (y_hasNotice l dC dI q h0 d k z f hI u hrp hk0 hk1 hk2 hk3 i_3 hi_4) (cwV 1 hts gX11_notice_X11_hasNotice rfl rfl rfl zh_X11_hasNotice_92 ⟨Nat.le_of_ble_eq_true rfl, Nat.le_of_ble_eq_true rfl⟩) ⟨px_fb, va_recv hK hP (ci := 10) (q0 := kk_142) rfl hk_143, fun U hU hW => ⟨rfl, px_to hU hW hP hK hN hXN⟩⟩ rfl rfl hl.1 rfl (lv_room (Nat.le_of_ble_eq_true rfl)) dX11_notice_41 ⟨Nat.le_of_ble_eq_true rfl, Nat.le_of_ble_eq_true rfl⟩).run (fun r hw => ?_)
            rcases hw with ⟨hw, hnn_144⟩ | ⟨hw, hnn_144⟩
            ·
              subst hw
              refine lv_if_eq (tgt := 49) hx hb dX11_notice_44 (by decide) (fun c_145 => ?_) (fun c_145 => absurd (by decide) c_145)
              refine lv_aload_n hx hb dX11_notice_49 rfl (lv_at hl 1 rfl) ?_
              refine va_new (ci := 4) (fs := [.int 0, .int 0, .null, .int 0, .null, .null, .int 0]) (C := RX5) (T := TX5) (N := 7) hx hb hts zl_X11_notice_X5 tyX5 tyX5_ok hown (hts (.classLink RX11 119 RX5) (zat q_wsX11_notice k_wsX11_notice 404 rfl (by decide +kernel))) (hts (.instantiable RX5 7) (zat q_wsX11_notice k_wsX11_notice 435 rfl (by decide +kernel))) (hts (.initialized RX5) (zat q_wsX11_notice k_wsX11_notice 64 rfl (by decide +kernel))) hK hP hD hS hA rfl nwX5 (Nat.le_of_ble_eq_true rfl) (Nat.le_of_ble_eq_true rfl) dX11_notice_50 (fun q_146 H hPn hDn hS => ?_)
              have hP := vaP_l hPn
              refine W.widen (k := 1) (n := 7) (Nat.le_of_ble_eq_true rfl) (Nat.le_of_ble_eq_true rfl) ?_
              refine lv_dup hx hb dX11_notice_53 rfl ?_
              refine lv_aload_n hx hb dX11_notice_54 rfl (lv_at hl 1 rfl) ?_
              obtain ⟨kk_147, hk_148⟩ := pl_at hI.2.1.1.1 hI.2.2.2.1.1
              refine va_get (D := (dC, dI)) (ci := 10) (v := .int (k 0)) (C := RX11) (T := TX11) (N := 9) hx hb hts zl_X11_notice_X11 hown hK hP kk_147 hk_148 rfl 3 (by decide) (hts (.fieldLink RX11 24 "PageOne" "itemCount" "I") (zat q_wsX11_notice k_wsX11_notice 115 rfl (by decide +kernel))) (fun _ h9 => h9) rfl dX11_notice_55 ?_
              refine lv_aload_n hx hb dX11_notice_58 rfl (lv_at hl 0 rfl) ?_
              refine lv_iload_n hx hb dX11_notice_59 rfl (lv_at hl 3 rfl) ?_
              have hPc := vaP_r hPn
              have hDc := vaD_r hDn
              have hFc := fr_part hDn hS hA
              refine va_callv (va_runI (As := [.int (k 0), .ref (d (2000 + i_3)), .int p1]) (rest := [.ref q_146, .ref h0]) ⟨hx, hb, hml, hown, hts⟩ (xn_Notice l dC dI q_146 (d (2000 + i_3)) (q 0) (q 5) (k 0) p1 H.size) (cwI 3 hts gX11_notice_X5_init rfl rfl rfl (hts (.initialized RX5) (zat q_wsX11_notice k_wsX11_notice 64 rfl (by decide +kernel))) (hts (.methodLink RX11 129 yX5_init) (zat q_wsX11_notice k_wsX11_notice 436 rfl (by decide +kernel))) (hts (.instanceMethod yX5_init) (zat q_wsX11_notice k_wsX11_notice 437 rfl (by decide +kernel))) rfl zh_X5_init_93 ⟨Nat.le_of_ble_eq_true rfl, Nat.le_of_ble_eq_true rfl⟩) ⟨gw_fb, fun U hU hW => ⟨rfl, by rw [hU], pw_to hU hW hPc (hK.sub (tys' := [(q 0, .int), (q 5, .object "PageOne$Piece")]) [0, 5] rfl) hN, hDc.weaken (fun _ _ _ _ => trivial)⟩⟩ rfl rfl hl.1 rfl (lv_room (Nat.le_of_ble_eq_true rfl)) dX11_notice_60 ⟨Nat.le_of_ble_eq_true rfl, Nat.le_of_ble_eq_true rfl⟩) hS (fun q _ h => hFc q h) hFc (fun u9 t H1 locs ht hvm hw hB hz1 hk1 hS => ?_)
              obtain ⟨qa_149, qa_150, hP1, hD1⟩ := hB
              rw [ht] at hP1
              obtain ⟨hP, hD⟩ := va_joinQ (X := [(q_146, .inr (4, [.int 0, .int 0, .null, .int 0, .null, .null, .int 0]))]) (cx := [(q_146, .inr (4, [.int 0, .int 0, .null, .int 0, .null, .null, .int 0]))]) (wr := []) (w1 := [(qa_149, aI (q 0) 5 (fun _ => (-1))), (qa_150, aR (q 5) 1 (fun _ => none)), (q_146, .inr (4, [.int (k 0), .int 5, .ref qa_150, .int 0, .ref qa_149, .ref (d (2000 + i_3)), .int p1]))]) (pl := va_pl z.1 f) (vaP_swap hPn) (vaD_rotR hDn) [0] [] rfl rfl rfl (fun i hi => absurd hi List.not_mem_nil) hk1 hFc hP1 hD1
              generalize H1 = H at hP hS ⊢
              obtain ⟨hnm_151, hP, hD⟩ := pushC hP hD
              obtain ⟨z_152, ez_152⟩ : ∃ y : gS, y = pz z qa_149 (17, 4000 + (u.1 3).toNatClampNeg, []) := ⟨_, rfl⟩
              obtain ⟨f_153, ef_153⟩ : ∃ y : xF, y = va_up f qa_149 (aI (q 0) 5 (fun _ => (-1))) := ⟨_, rfl⟩
              have hE_154 : zE z z_152 := by rw [ez_152]; exact pz_E hnm_151 _
              have hI : xI q h0 d k z_152 f_153 := by rw [ez_152, ef_153]; exact x_push hI hnm_151 (Or.inr (by decide : (15 : Nat) < 17)) (cO_17 (by rw [pz_s]) ⟨_, rfl⟩)
              rw [show z.1 ++ [qa_149] = z_152.1 from by rw [ez_152]; rfl, ← ef_153] at hP hD
              have hit_10 := zE_itm hE_154 hit_10
              have hpa_12 := zE_tg hE_154 hpa_12
              have hfa_20 := zE_tg hE_154 hfa_20
              have ht_155 : tg z_152 qa_149 17 := by rw [ez_152]; exact pz_t _ _ _
              have hEz : zE z z_152 := zE_tr (zE_rf z) hE_154
              have hc_156 : nC z_152 f_153 qa_149 17 (4000 + (u.1 3).toNatClampNeg) (aI (q 0) 5 (fun _ => (-1))) := by rw [ez_152, ef_153]; exact nC_new
              have hoK : oK z f f_153 := by rw [ef_153]; exact oK_push (fun _ _ => rfl) (zE_rf z) hnm_151
              have hEo := hEz
              obtain ⟨hnm_157, hP, hD⟩ := pushC hP hD
              obtain ⟨z_158, ez_158⟩ : ∃ y : gS, y = pz z_152 qa_150 (16, q_146, []) := ⟨_, rfl⟩
              obtain ⟨f_159, ef_159⟩ : ∃ y : xF, y = va_up f_153 qa_150 (aR (q 5) 1 (fun _ => none)) := ⟨_, rfl⟩
              have hE_160 : zE z_152 z_158 := by rw [ez_158]; exact pz_E hnm_157 _
              have hI : xI q h0 d k z_158 f_159 := by rw [ez_158, ef_159]; exact x_push hI hnm_157 (Or.inr (by decide : (15 : Nat) < 16)) (cO_16 (by rw [pz_s]) ⟨1, by decide, by decide, _, rfl, fun _ _ b hb => by cases hb⟩)
              rw [show z_152.1 ++ [qa_150] = z_158.1 from by rw [ez_158]; rfl, ← ef_159] at hP hD
              have hpf9 : f_159 qa_150 = aR (q 5) 1 (fun _ => none) := by rw [ef_159]; exact up_s
              have ho9 : (z_158.2 qa_150).2.1 = q_146 := by rw [ez_158, pz_s]
              have hit_10 := zE_itm hE_160 hit_10
              have hpa_12 := zE_tg hE_160 hpa_12
              have hfa_20 := zE_tg hE_160 hfa_20
              have ht_155 := zE_tg hE_160 ht_155
              have ht_161 : tg z_158 qa_150 16 := by rw [ez_158]; exact pz_t _ _ _
              have hEz : zE z z_158 := zE_tr hEz hE_160
              have hc_156 : nC z_158 f_159 qa_149 17 (4000 + (u.1 3).toNatClampNeg) (aI (q 0) 5 (fun _ => (-1))) := by rw [ez_158, ef_159]; exact nC_push hc_156 hnm_157
              have hc_162 : nC z_158 f_159 qa_150 16 (q_146) (aR (q 5) 1 (fun _ => none)) := by rw [ez_158, ef_159]; exact nC_new
              have hoK : oK z f f_159 := by rw [ef_159]; exact oK_push hoK hEo hnm_157
              have hEo := hEz
              obtain ⟨hnm_163, hP, hD⟩ := pushC hP hD
              obtain ⟨z_164, ez_164⟩ : ∃ y : gS, y = pz z_158 q_146 (12, 2000 + (u.1 3).toNatClampNeg, []) := ⟨_, rfl⟩
              obtain ⟨f_165, ef_165⟩ : ∃ y : xF, y = va_up f_159 q_146 (.inr (4, [.int (k 0), .int 5, .ref qa_150, .int 0, .ref qa_149, .ref (d (2000 + i_3)), .int p1])) := ⟨_, rfl⟩
              have hE_166 : zE z_158 z_164 := by rw [ez_164]; exact pz_E hnm_163 _
              have hI : xI q h0 d k z_164 f_165 := by rw [ez_164, ef_165]; exact x_pushIo (n := 1) hI hnm_163 (by decide) ht_161 ho9 ht_155 hpf9 (by decide) ⟨fun x => absurd x (by decide), fun x => absurd x (by decide), fun _ => ⟨_, _, rfl, zE_itm (pz_E hnm_163 _) hit_10⟩, fun x => absurd x (by decide), fun x => absurd x (by decide), fun x => absurd x (by decide)⟩
              rw [show z_158.1 ++ [q_146] = z_164.1 from by rw [ez_164]; rfl, ← ef_165] at hP hD
              have hpf9 : f_165 qa_150 = aR (q 5) 1 (fun _ => none) := by rw [ef_165, up_o (fun e => hnm_163 (by rw [← e]; exact ht_161.1))]; exact hpf9
              have ho9 : (z_164.2 qa_150).2.1 = q_146 := by rw [zE_o hE_166 ht_161.1]; exact ho9
              have hit_10 := zE_itm hE_166 hit_10
              have hpa_12 := zE_tg hE_166 hpa_12
              have hfa_20 := zE_tg hE_166 hfa_20
              have ht_155 := zE_tg hE_166 ht_155
              have ht_161 := zE_tg hE_166 ht_161
              have ht_167 : tg z_164 q_146 12 := by rw [ez_164]; exact pz_t _ _ _
              have hEz : zE z z_164 := zE_tr hEz hE_166
              have hc_156 : nC z_164 f_165 qa_149 17 (4000 + (u.1 3).toNatClampNeg) (aI (q 0) 5 (fun _ => (-1))) := by rw [ez_164, ef_165]; exact nC_push hc_156 hnm_163
              have hc_162 : nC z_164 f_165 qa_150 16 (q_146) (aR (q 5) 1 (fun _ => none)) := by rw [ez_164, ef_165]; exact nC_push hc_162 hnm_163
              have hc_168 : nC z_164 f_165 q_146 12 (2000 + (u.1 3).toNatClampNeg) (.inr (4, [.int (k 0), .int 5, .ref qa_150, .int 0, .ref qa_149, .ref (d (2000 + i_3)), .int p1])) := by rw [ez_164, ef_165]; exact nC_new
              have hoK : oK z f f_165 := by rw [ef_165]; exact oK_push hoK hEo hnm_163
              refine W.widen (k := 3) (n := 13) (Nat.le_of_ble_eq_true rfl) (Nat.le_of_ble_eq_true rfl) ?_
              refine W.eq (g2 := F0 m 63 ls [.ref q_146, .ref h0]) rfl ?_
              obtain ⟨kk_169, hk_170⟩ := pl_at hI.2.1.1.1 hI.2.2.2.1.1
              have hFc := fr_all hD hS hA
              refine va_calli (va_runV (As := [.ref q_146]) (rest := []) ⟨hx, hb, hml, hown, hts⟩ (y_enter l dC dI q h0 d k z_164 f_165 hI q_146 (tg_itm ht_167 (by decide)) (k 0) 5 0 qa_150 qa_149 [.ref (d (2000 + i_3)), .int p1] (by rw [hc_168.2.2, hc_168.1.2]; rfl) H.size) (cwV 1 hts gX11_notice_X11_enter rfl rfl rfl zh_X11_enter_87 ⟨Nat.le_of_ble_eq_true rfl, Nat.le_of_ble_eq_true rfl⟩) ⟨gx_fb, va_recv hK hP (ci := 10) (q0 := kk_169) rfl hk_170, fun U hU hW => ⟨rfl, by rw [hU], px_to hU hW hP hK hN hXN, hD.weaken (fun _ _ _ _ => trivial)⟩⟩ rfl rfl hl.1 rfl (lv_room (Nat.le_of_ble_eq_true rfl)) dX11_notice_63 ⟨Nat.le_of_ble_eq_true rfl, Nat.le_of_ble_eq_true rfl⟩) hS (fun q _ h => hFc q h) hFc (fun r w_171 t H1 locs ht hvm hw hB hz1 hk1 hS => ?_)
              obtain ⟨hP, hD1⟩ := hB
              rw [ht] at hP
              rw [hw.1] at hP hD1
              have hD := hD1.weaken (fun _ q _ h => hFc q.1 h)
              have hI := hw.2.1
              have hw0 := hw
              generalize w_171.1 = k_173 at hI hw0
              generalize w_171.2.2 = f_172 at hP hD hI hw0
              generalize H1 = H at hP hS ⊢
              exact W.iret (v := r) hx hb hr (fun t ht hW => ⟨⟨r, (k_173, z_164, f_172), rfl, (by rw [ep_5]; exact mk_Notice (a5 := 0) (a6 := 0) hIo hrp hk0 hz0 hnw hI hEz hoK hw0.2.2 hc_168 hc_162 hc_156 hi_4 hkd_28 b_136 (by rw [← mPr_eq hzr_140]; rcases pr_0 hzr_140 (by rw [← hk2]; exact hIo.1.2.2) with h8 | h8; exact absurd h8 c_141; exact h8) hnn_144), by rw [ht]; exact hP, hD⟩, hS.F ht⟩) hS.2.2 dX11_notice_66
            ·
              subst hw
              refine lv_if_eq (tgt := 49) hx hb dX11_notice_44 (by decide) (fun c_174 => absurd c_174 (by decide)) (fun c_174 => ?_)
              refine lv_iconst (v := (-1)) hx hb dX11_notice_47 (by decide) ?_
              refine W.widen (k := 3) (n := 13) (Nat.le_of_ble_eq_true rfl) (Nat.le_of_ble_eq_true rfl) ?_
              exact W.iret (v := (-1)) hx hb hr (fun t ht hW => ⟨⟨(-1), (k, z, f), rfl, (mkP_0 hI hrp hk0 (by rw [ep_5]; exact nt_n hnn_144)), by rw [ht]; exact hP, hD⟩, hS.F ht⟩) hS.2.2 dX11_notice_48
        ·
          obtain rfl : r = 0 := b_f hw b_136
          refine lv_if_ne (tgt := 29) hx hb dX11_notice_24 (by decide) (fun c_175 => absurd (by decide) c_175) (fun c_175 => ?_)
          refine lv_iconst (v := (-1)) hx hb dX11_notice_27 (by decide) ?_
          refine W.widen (k := 3) (n := 13) (Nat.le_of_ble_eq_true rfl) (Nat.le_of_ble_eq_true rfl) ?_
          exact W.iret (v := (-1)) hx hb hr (fun t ht hW => ⟨⟨(-1), (k, z, f), rfl, (mkP_0 hI hrp hk0 (by rw [ep_5]; exact nt_h (bne b_136))), by rw [ht]; exact hP, hD⟩, hS.F ht⟩) hS.2.2 dX11_notice_28
theorem setR_in (f : Nat → Int32) (P X Y n : Nat) (x : Int32) : ∀ D a b, a < D → b < n → setR f P X Y n x D (480 * P + 60 * (X + a) + (Y + b)) = x
  | 0, _, _, h, _ => absurd h (Nat.not_lt_zero _)
  | D + 1, a, b, ha, hb => by
    show setC (setR f P X Y n x D) P (X + D) Y n x _ = x
    unfold setC
    by_cases e : 480 * P + 60 * (X + D) + Y ≤ 480 * P + 60 * (X + a) + (Y + b) ∧ 480 * P + 60 * (X + a) + (Y + b) < 480 * P + 60 * (X + D) + Y + n
    · rw [if_pos e]
    · rw [if_neg e]
      have : a ≠ D := fun q => e (by subst q; omega)
      exact setR_in f P X Y n x D a b (by omega) hb
theorem setR_out {f : Nat → Int32} {P X Y n : Nat} {x : Int32} {j : Nat} : ∀ {D : Nat}, (∀ a b, a < D → b < n → j ≠ 480 * P + 60 * (X + a) + (Y + b)) → setR f P X Y n x D j = f j
  | 0, _ => rfl
  | D + 1, h => by
    show setC (setR f P X Y n x D) P (X + D) Y n x j = f j
    unfold setC
    rw [if_neg (fun e => h D (j - (480 * P + 60 * (X + D) + Y)) (by omega) (by omega) (by omega))]
    exact setR_out (fun a b ha hb => h a b (by omega) hb)
theorem setR_c (f : Nat → Int32) (P X Y n : Nat) (x : Int32) (D j : Nat) : (∃ a b, a < D ∧ b < n ∧ j = 480 * P + 60 * (X + a) + (Y + b)) ∨ ∀ a b, a < D → b < n → j ≠ 480 * P + 60 * (X + a) + (Y + b) := by
  rcases Classical.em (∃ a b, a < D ∧ b < n ∧ j = 480 * P + 60 * (X + a) + (Y + b)) with h | h
  · exact Or.inl h
  · exact Or.inr fun a b ha hb e => h ⟨a, b, ha, hb, e⟩
/-- a page's cells marked: both rows alike -/
theorem setR_pg {f g : Nat → Int32} {P X Y n : Nat} {x : Int32} {D : Nat} (hX : X + D ≤ 8) (hY : Y + n ≤ 60) (h : eqR 480 g f (480 * P)) : eqR 480 (setR g 0 X Y n x D) (setR f P X Y n x D) (480 * P) := by
  intro t ht
  rcases setR_c g 0 X Y n x D t with ⟨a, b, ha, hb, e⟩ | hn
  · have e2 : 480 * P + t = 480 * P + 60 * (X + a) + (Y + b) := by omega
    rw [e2, e, setR_in _ _ _ _ _ _ _ _ _ ha hb, setR_in _ _ _ _ _ _ _ _ _ ha hb]
  · rw [setR_out hn, setR_out (fun a b ha hb e => hn a b ha hb (by omega))]
    exact h t ht
theorem setR_op {f : Nat → Int32} {P X Y n : Nat} {x : Int32} {D j t : Nat} (hX : X + D ≤ 8) (hY : Y + n ≤ 60) (hj : j ≠ P) (ht : t < 480) : setR f P X Y n x D (480 * j + t) = f (480 * j + t) := setR_out (fun a b ha hb e => by
  have h1 : 60 * (X + a) + (Y + b) < 480 := by omega
  omega)
theorem rep_mark {q d u z f} {P X Y n D : Nat} {x : Int32} {gc : Nat → Int32} (h : rep q d u z f) (hP : P < 12) (hX : X + D ≤ 8) (hY : Y + n ≤ 60) (hg : f (d (50 + P)) = aI (q 0) 480 gc) : rep q d (mput u 2 (setR (u.2 2) P X Y n x D)) z (va_up f (d (50 + P)) (aI (q 0) 480 (setR gc 0 X Y n x D))) := by
  obtain ⟨m1, m2, m3, dd, ii, s1, ⟨gl, s2, s3⟩, gc2, s4, s5⟩ := h.1.2 P hP
  obtain rfl := (aI_inj (hg.symm.trans s4)).2
  generalize hw9 : mput u 2 (setR (u.2 2) P X Y n x D) = w
  have w2 : ∀ r, r ≠ 2 → w.2 r = u.2 r := fun r r1 => by rw [← hw9, mput_other r1]
  have w0 : w.2 2 = setR (u.2 2) P X Y n x D := by rw [← hw9]; rfl
  have w1 : w.1 = u.1 := by rw [← hw9]; rfl
  have hf : fK d z f (va_up f (d (50 + P)) (aI (q 0) 480 (setR gc 0 X Y n x D))) (fun x => x = 50 + P) := fK_up (fK_rf d z f _) m3 (by decide) rfl
  refine rep_pg (p := P) h hf (fun x hx => by omega) hP w1 (fun r r1 => w2 r (by omega)) (fun j hj hjp => ⟨by rw [w2 1 (by omega)], fun t ht => by rw [w2 0 (by omega)], fun t ht => by rw [w0, setR_op hX hY hjp ht]⟩) ⟨dd, ii, ?_, ⟨gl, ?_, ?_⟩, _, up_s, ?_⟩
  · rw [hf.1 _ _ m1 (by omega), w2 1 (by omega)]; exact s1
  · rw [hf.1 _ _ m2 (by omega)]; exact s2
  · rw [w2 0 (by omega)]; exact s3
  · rw [w0]; exact setR_pg hX hY s5
theorem fK_3 {d : Nat → Nat} {z : gS} {f f1 : xF} {X : Nat → Prop} {i : Nat} {e : va_E} (h : fK d z f f1 X) (ht : tg z (d (3000 + i)) 16) (ho2 : ∀ j, j < 1000 → ¬ X (3000 + j) → d (3000 + j) ≠ d (3000 + i)) : fK d z f (va_up f1 (d (3000 + i)) e) X := by
  refine ⟨fun x t hn hX => ?_, fun j hj hX => ?_⟩
  · rw [up_o (tg_ne hn.1 ht hn.2.2)]; exact h.1 x t hn hX
  · rw [up_o (ho2 j hj.2 hX)]; exact h.2 j hj hX
/-- the pieces' rows of two items are two -/
theorem d3_inj {q h0 d k z f u} (hI : xI q h0 d k z f) (h : rIs q d u z f) {i j : Nat} (hi : i < (u.1 3).toNatClampNeg) (hj : j < (u.1 3).toNatClampNeg) (e : d (3000 + i) = d (3000 + j)) : i = j := by
  have own : ∀ i, i < (u.1 3).toNatClampNeg → (z.2 (d (3000 + i))).2.1 = d (2000 + i) := fun i hi => by
    obtain ⟨n1, n2, n3, hkd, rs, g, fg, hs, -⟩ := h.2 i hi
    obtain ⟨nu, kd, cn, pa, fa, rs2, hs2, o1, o2, o3, o4⟩ := x_im hI (rI_itm h hi)
    have e := (Prod.mk.inj (Sum.inr.inj (hs.symm.trans hs2))).2
    unfold itF at e
    simp only [List.cons.injEq, Value.ref.injEq] at e
    rw [e.2.2.1]; exact o2
  refine d_inj h hi hj ?_
  rw [← own i hi, ← own j hj, e]
/-- a write at an item alone, its pieces' row among it -/
theorem rep_it2 {q d u w z f f2} {X : Nat → Prop} {i : Nat} (h : rep q d u z f) (hf : fK d z f f2 X) (hX : ∀ x, X x → x = 2000 + i ∨ (3000 ≤ x ∧ x < 4000 ∧ d x = d (3000 + i))) (hinj : ∀ j, j < (u.1 3).toNatClampNeg → d (3000 + j) = d (3000 + i) → j = i) (hi : i < 80) (hn : (u.1 3).toNatClampNeg ≤ 80) (hs : ∀ j, j < (u.1 3).toNatClampNeg → j ≠ i → sI u w j) (h1 : w.1 = u.1) (hr : ∀ r, r < 3 ∨ r = 4 ∨ r = 20 ∨ (40 ≤ r ∧ r ≤ 44) → w.2 r = u.2 r) (hit : rIt q d w z f2 i) : rep q d w z f2 := by
  obtain ⟨h1g, h1l, ⟨⟨g, a1, a2⟩, a3⟩, h1v, n0, n1, n2, n3, n4⟩ := h
  have nx : ∀ x, x < 2000 → ¬ X x := fun x hx hX2 => by rcases hX x hX2 with e | e <;> omega
  refine ⟨rPg_fr h1g (zE_rf z) (fun _ _ => rfl) hf (fun x hx _ _ _ _ => nx x (by omega)) n0 (hr 0 (by omega)) (hr 1 (by omega)) (hr 2 (by omega)), rPl_fr h1l (zE_rf z) rfl (fun _ _ _ => rfl) hf (nx 1 (by omega)) (fun x _ hx => nx x (by omega)) n1 (fun r r1 r2 => hr r (by omega)), ⟨⟨g, by rw [hf.1 2 _ n2 (nx 2 (by omega))]; exact a1, fun j hj => a2 j (by rw [← h1]; exact hj)⟩, fun j hj => ?_⟩, rRv_fr h1v rfl (hf.1 4 _ n4 (nx 4 (by omega))) (hr 20 (by omega)), n0, n1, n2, n3, n4⟩
  rw [h1] at hj
  by_cases e : j = i
  · rw [e]; exact hit
  · refine rIt_fr (a3 j hj) (zE_rf z) ⟨rfl, rfl, rfl, rfl, rfl⟩ hf ?_ (hs j hj e) (by rw [h1]; exact Nat.le_refl _) (fun o _ => ⟨rfl, by rw [hr 4 (by omega)]⟩)
    refine ⟨fun x => ?_, fun x => ?_, fun x => ?_, fun x => ?_, fun x => ?_⟩ <;> rcases hX _ x with e2 | ⟨e2, e3, e4⟩ <;> first | omega | exact e (hinj j hj e4)
/-- an item's count and pieces -/
theorem rep_pcs {q d u w z f} {i : Nat} {n : Nat} {g2 : Nat → Option Nat} {rs : List Value} {cn : Int32} {f2 : xF} (h : rep q d u z f) (hn : bw (u.1 3) 0 80 = true) (hi : i < (u.1 3).toNatClampNeg) (hnn : n = if u.2 4 i = 0 then 6 else 1) (hs : f (d (2000 + i)) = .inr (ciT (z.2 (d (2000 + i))).1, itF (nI i) (u.2 4 i) (d (3000 + i)) cn (d (4000 + i)) rs)) (hf2a : f2 (d (2000 + i)) = .inr (ciT (z.2 (d (2000 + i))).1, itF (nI i) (u.2 4 i) (d (3000 + i)) (w.2 22 i) (d (4000 + i)) rs)) (hf2b : f2 (d (3000 + i)) = aR (q 5) n g2) (hf : fK d z f f2 (fun x => x = 2000 + i ∨ (3000 ≤ x ∧ x < 4000 ∧ d x = d (3000 + i)))) (hinj : ∀ j, j < (u.1 3).toNatClampNeg → d (3000 + j) = d (3000 + i) → j = i) (hp : ∀ k, k < (w.2 22 i).toNatClampNeg → ∃ b, g2 k = some b ∧ pcS z b (some (d (2000 + i))) (pR w i k 0) (pR w i k 1) (pR w i k 2) (pR w i k 3) (pR w i k 4)) (w1 : w.1 = u.1) (wr : ∀ r, r < 22 ∨ 27 < r → w.2 r = u.2 r) (wo : ∀ j, j ≠ i → w.2 22 j = u.2 22 j) (wp : ∀ r, 23 ≤ r → r ≤ 27 → ∀ j, j < (u.1 3).toNatClampNeg → j ≠ i → ∀ t, t < (u.2 22 j).toNatClampNeg → w.2 r (6 * j + t) = u.2 r (6 * j + t)) : rep q d w z f2 := by
  have hi8 := (bw_it hn hi).2
  have hN := w80 hn
  obtain ⟨n1, n2, n3, hkd, rs2, g9, fg, hsl, hps, hpcs, hfs, hfe, hrs⟩ := h.2.2.1.2 i hi
  obtain rfl : rs = rs2 := by
    have e := (Prod.mk.inj (Sum.inr.inj (hs.symm.trans hsl))).2
    unfold itF at e
    simp only [List.cons.injEq] at e
    exact e.2.2.2.2.2
  have q4 : w.2 4 = u.2 4 := wr 4 (by omega)
  refine rep_it2 (i := i) h hf (fun x hx => hx) hinj hi8 hN (fun j hj hji => ?_) w1 (fun r hr => wr r (by omega)) ?_
  · refine ⟨fun r r1 r2 r3 r4 r5 r6 r7 => ?_, fun r r1 r2 t ht => wp r r1 r2 j hj hji t ht, fun t _ => by rw [wr 47 (by omega)], fun t _ => by rw [wr 16 (by omega)], fun t ht => by rw [wr 18 (by omega), wr 19 (by omega)]; exact ⟨rfl, rfl⟩, fun t _ => by rw [wr 21 (by omega)], fun t _ => by rw [wr 48 (by omega)]⟩
    by_cases e : r = 22
    · rw [e]; exact wo j hji
    · rw [wr r (by omega)]
  · refine ⟨by rw [q4]; exact n1, n2, n3, by rw [q4]; exact hkd, rs, g2, fg, ?_, ?_, hp, ?_, ?_, ?_⟩
    · rw [hf2a, q4]
    · rw [hf2b, q4, hnn]
    · rw [hf.1 _ _ n3 (by omega)]; exact hfs
    · rw [wr 47 (by omega)]; exact hfe
    · obtain ⟨k0, k1, k2, k3, k4, k5⟩ := hrs
      unfold rRs
      rw [q4, wr 5 (by omega), wr 6 (by omega), wr 7 (by omega), wr 8 (by omega), wr 9 (by omega), wr 10 (by omega), wr 11 (by omega), wr 12 (by omega), wr 13 (by omega), wr 14 (by omega), wr 15 (by omega), wr 16 (by omega), wr 17 (by omega), wr 18 (by omega), wr 19 (by omega), wr 21 (by omega), wr 48 (by omega), w1]
      refine ⟨fun e => ?_, k1, fun e => ?_, fun e => ?_, k4, k5⟩
      · obtain ⟨a1, a2, a3, ⟨g1, a4, a5⟩, g3, a6, a7⟩ := k0 e
        exact ⟨a1, a2, a3, ⟨g1, by rw [hf.1 _ _ a2 (by omega)]; exact a4, a5⟩, g3, by rw [hf.1 _ _ a3 (by omega)]; exact a6, a7⟩
      · obtain ⟨a1, a2, a3, ⟨g1, a4, a5⟩, g3, a6, a7⟩ := k2 e
        exact ⟨a1, a2, a3, ⟨g1, by rw [hf.1 _ _ a2 (by omega)]; exact a4, a5⟩, g3, by rw [hf.1 _ _ a3 (by omega)]; exact a6, a7⟩
      · obtain ⟨a1, a2, a3, g1, a4, a5⟩ := k3 e
        exact ⟨a1, a2, a3, g1, by rw [hf.1 _ _ a3 (by omega)]; exact a4, a5⟩
/-- rep looks at these rows alone -/
theorem rep_ext {q d u w z f} (h : rep q d u z f) (h3 : w.1 3 = u.1 3) (hr : ∀ r, r ≤ 2 ∨ (4 ≤ r ∧ r ≤ 22) ∨ (40 ≤ r ∧ r ≤ 44) ∨ r = 47 ∨ r = 48 → w.2 r = u.2 r) (hp : ∀ r, 23 ≤ r → r ≤ 27 → ∀ j, j < (u.1 3).toNatClampNeg → ∀ t, t < (u.2 22 j).toNatClampNeg → w.2 r (6 * j + t) = u.2 r (6 * j + t)) : rep q d w z f := by
  obtain ⟨h1g, h1l, ⟨⟨g, a1, a2⟩, a3⟩, h1v, n0, n1, n2, n3, n4⟩ := h
  have hf : fK d z f f (fun _ => False) := fK_rf d z f _
  refine ⟨rPg_fr h1g (zE_rf z) (fun _ _ => rfl) hf (fun _ _ _ _ _ _ h => h) n0 (hr 0 (by omega)) (hr 1 (by omega)) (hr 2 (by omega)), rPl_fr h1l (zE_rf z) rfl (fun _ _ _ => rfl) hf (fun h => h) (fun _ _ _ h => h) n1 (fun r r1 r2 => hr r (by omega)), ⟨⟨g, a1, fun j hj => a2 j (by rw [← h3]; exact hj)⟩, fun j hj => ?_⟩, rRv_fr h1v rfl rfl (hr 20 (by omega)), n0, n1, n2, n3, n4⟩
  rw [h3] at hj
  refine rIt_fr (a3 j hj) (zE_rf z) ⟨rfl, rfl, rfl, rfl, rfl⟩ hf ⟨fun h => h, fun h => h, fun h => h, fun h => h, fun h => h⟩ ⟨fun r r1 r2 _ _ _ _ _ => by rw [hr r (by omega)], fun r r1 r2 t ht => hp r r1 r2 j hj t ht, fun t _ => by rw [hr 47 (by omega)], fun t _ => by rw [hr 16 (by omega)], fun t _ => by rw [hr 18 (by omega), hr 19 (by omega)]; exact ⟨rfl, rfl⟩, fun t _ => by rw [hr 21 (by omega)], fun t _ => by rw [hr 48 (by omega)]⟩ (by rw [h3]; exact Nat.le_refl _) (fun o _ => ⟨rfl, by rw [hr 4 (by omega)]⟩)
/-- the slot and the count of a piece that is put, without its cells -/
def gU (u : mS) (i : Int32) (P X Y D N : Nat) : mS :=
  let k := 6 * i + u.2 22 i.toNatClampNeg
  let u5 := mst (mst (mst (mst (mst u 23 k (nI P)) 24 k (nI X)) 25 k (nI Y)) 26 k (nI D)) 27 k (nI N)
  mst u5 22 i (u5.2 22 i.toNatClampNeg + 1)
theorem mStand_gU (u : mS) (i : Int32) (P X Y D N : Nat) : mStand u i P X Y D N = mput (gU u i P X Y D N) 2 (setR ((gU u i P X Y D N).2 2) P X Y N i D) := rfl
theorem gU_k (u : mS) (i : Int32) (P X Y D N : Nat) {r : Nat} (h : r < 22 ∨ 27 < r) : (gU u i P X Y D N).2 r = u.2 r := by
  unfold gU
  dsimp only
  rw [mst_other (by omega), mst_other (by omega), mst_other (by omega), mst_other (by omega), mst_other (by omega), mst_other (by omega)]
theorem gU_22 (u : mS) (i : Int32) (P X Y D N : Nat) (j : Nat) : (gU u i P X Y D N).2 22 j = if j = i.toNatClampNeg then u.2 22 i.toNatClampNeg + 1 else u.2 22 j := by
  unfold gU
  dsimp only
  rw [mst_at, mst_other (by decide), mst_other (by decide), mst_other (by decide), mst_other (by decide), mst_other (by decide)]
theorem gU_p (u : mS) (i : Int32) (P X Y D N : Nat) (j : Nat) : (gU u i P X Y D N).2 23 j = (if j = (6 * i + u.2 22 i.toNatClampNeg).toNatClampNeg then nI P else u.2 23 j) ∧ (gU u i P X Y D N).2 24 j = (if j = (6 * i + u.2 22 i.toNatClampNeg).toNatClampNeg then nI X else u.2 24 j) ∧ (gU u i P X Y D N).2 25 j = (if j = (6 * i + u.2 22 i.toNatClampNeg).toNatClampNeg then nI Y else u.2 25 j) ∧ (gU u i P X Y D N).2 26 j = (if j = (6 * i + u.2 22 i.toNatClampNeg).toNatClampNeg then nI D else u.2 26 j) ∧ (gU u i P X Y D N).2 27 j = (if j = (6 * i + u.2 22 i.toNatClampNeg).toNatClampNeg then nI N else u.2 27 j) := by
  unfold gU
  dsimp only
  refine ⟨?_, ?_, ?_, ?_, ?_⟩
  · rw [mst_other (by decide), mst_other (by decide), mst_other (by decide), mst_other (by decide), mst_other (by decide), mst_at]
  · rw [mst_other (by decide), mst_other (by decide), mst_other (by decide), mst_other (by decide), mst_at, mst_other (by decide)]
  · rw [mst_other (by decide), mst_other (by decide), mst_other (by decide), mst_at, mst_other (by decide), mst_other (by decide)]
  · rw [mst_other (by decide), mst_other (by decide), mst_at, mst_other (by decide), mst_other (by decide), mst_other (by decide)]
  · rw [mst_other (by decide), mst_at, mst_other (by decide), mst_other (by decide), mst_other (by decide), mst_other (by decide)]
theorem gU_5 {u : mS} {i c : Nat} {P X Y D N : Nat} (hi : i < 80) (hc : u.2 22 i = nI c) (hc6 : c < 6) {r : Nat} (r1 : 23 ≤ r) (r2 : r ≤ 27) (j : Nat) : (gU u (nI i) P X Y D N).2 r j = if j = 6 * i + c then (if r = 23 then nI P else if r = 24 then nI X else if r = 25 then nI Y else if r = 26 then nI D else nI N) else u.2 r j := by
  have e6 : (6 * nI i + u.2 22 (nI i).toNatClampNeg).toNatClampNeg = 6 * i + c := by rw [nI_clamp (by omega), hc, show (6 : Int32) = nI 6 from rfl, pk_mul, nI_add, nI_clamp (by omega)]
  obtain ⟨p1, p2, p3, p4, p5⟩ := gU_p u (nI i) P X Y D N j
  rw [e6] at p1 p2 p3 p4 p5
  rcases (show r = 23 ∨ r = 24 ∨ r = 25 ∨ r = 26 ∨ r = 27 by omega) with e | e | e | e | e <;> subst e
  · exact p1
  · exact p2
  · exact p3
  · exact p4
  · exact p5
theorem cnN {c : Int32} {n : Nat} (hn : n ≤ 6) (h : bw c 0 (nI n) = true) : c = nI c.toNatClampNeg ∧ c.toNatClampNeg ≤ n := by
  obtain ⟨c1, c2, c3⟩ := nI_of_bw h
  rw [nI_toInt (by omega)] at c3
  exact ⟨c1, by omega⟩
/-- gain: what is written keeps rep -/
theorem rep_gain {q h0 d k u z f} {i n b0 P X Y D N : Nat} {g : Nat → Option Nat} {rs : List Value} (hI : xI q h0 d k z f) (h : rep q d u z f) (hn : bw (u.1 3) 0 80 = true) (hi : i < (u.1 3).toNatClampNeg) (hnn : n = if u.2 4 i = 0 then 6 else 1) (hs : f (d (2000 + i)) = .inr (ciT (z.2 (d (2000 + i))).1, itF (nI i) (u.2 4 i) (d (3000 + i)) (u.2 22 i) (d (4000 + i)) rs)) (hps : f (d (3000 + i)) = aR (q 5) n g) (hcb : bw (u.2 22 i) 0 (nI n) = true) (hroom : (u.2 22 i).toNatClampNeg < n) (hb : pcS z b0 (some (d (2000 + i))) (nI P) (nI X) (nI Y) (nI D) (nI N)) : rep q d (gU u (nI i) P X Y D N) z (va_up (va_up f (d (3000 + i)) (aR (q 5) n (va_up g (u.2 22 i).toNatClampNeg (some b0)))) (d (2000 + i)) (.inr (ciT (z.2 (d (2000 + i))).1, itF (nI i) (u.2 4 i) (d (3000 + i)) (u.2 22 i + 1) (d (4000 + i)) rs))) := by
  have hi8 := (bw_it hn hi).2
  obtain ⟨n1, n2, n3, hkd, rs2, g2, fg, hsl, hps2, hpcs, hfs, hfe, hrs⟩ := h.2.2.1.2 i hi
  have n6 : n ≤ 6 := by rw [hnn]; split <;> omega
  obtain ⟨ec, hc⟩ := cnN n6 hcb
  generalize hcc : (u.2 22 i).toNatClampNeg = c at *
  have eg : g = g2 := by
    have e := hps.symm.trans hps2
    exact (aR_inj e).2
  have ne : d (3000 + i) ≠ d (2000 + i) := fun e => by
    have h1 := n2.1.2
    rw [e, n1.1.2] at h1
    have := kT_r (u.2 4 i)
    omega
  have eI : (nI i).toNatClampNeg = i := nI_clamp (by omega)
  have w22 : (gU u (nI i) P X Y D N).2 22 i = u.2 22 i + 1 := by rw [gU_22, eI, if_pos rfl]
  have e22 : ((gU u (nI i) P X Y D N).2 22 i).toNatClampNeg = c + 1 := by rw [w22, ec, show (1 : Int32) = nI 1 from rfl, nI_add, nI_clamp (by omega)]
  refine rep_pcs (n := n) (g2 := va_up g c (some b0)) h hn hi hnn hs ?_ ?_ ?_ (fun j hj e => d3_inj hI h.2.2.1 hj hi e) ?_ rfl (fun r hr => gU_k _ _ _ _ _ _ _ hr) (fun j hj => by rw [gU_22, eI, if_neg hj]) ?_
  · rw [up_s, w22]
  · rw [up_o ne, up_s]
  · exact fK_up (fK_3 (fK_rf d z f _) n2.1 (fun j hj9 hj e => hj (Or.inr ⟨by omega, by omega, e⟩))) n1 (fun e => by have := kT_r (u.2 4 i); omega) (Or.inl rfl)
  · intro t ht
    rw [e22] at ht
    by_cases e : t = c
    · refine ⟨b0, by rw [e]; exact if_pos rfl, ?_⟩
      have hp : ∀ r, r < 5 → pR (gU u (nI i) P X Y D N) i t r = (if 23 + r = 23 then nI P else if 23 + r = 24 then nI X else if 23 + r = 25 then nI Y else if 23 + r = 26 then nI D else nI N) := fun r hr => by
        show (gU u (nI i) P X Y D N).2 (23 + r) (6 * i + t) = _
        rw [gU_5 hi8 ec (by omega) (by omega) (by omega), if_pos (by omega)]
      rw [hp 0 (by omega), hp 1 (by omega), hp 2 (by omega), hp 3 (by omega), hp 4 (by omega)]
      exact hb
    · obtain ⟨b, b1, b2⟩ := hpcs t (by omega)
      refine ⟨b, by rw [← b1, ← eg]; exact if_neg e, ?_⟩
      have hp : ∀ r, r < 5 → pR (gU u (nI i) P X Y D N) i t r = pR u i t r := fun r hr => by
        show (gU u (nI i) P X Y D N).2 (23 + r) (6 * i + t) = _
        rw [gU_5 hi8 ec (by omega) (by omega) (by omega), if_neg (by omega)]; rfl
      rw [hp 0 (by omega), hp 1 (by omega), hp 2 (by omega), hp 3 (by omega), hp 4 (by omega)]
      exact b2
  · intro r r1 r2 j hj hji t ht
    rw [gU_5 hi8 ec (by omega) r1 r2, if_neg (fun e => hji ?_)]
    obtain ⟨rs9, n9, g9, fg9, q1, q2, q3, q4, q5, q6, q7, -⟩ := it_all hI h.2.2.1 hj
    have := (cnN q6 q7).2
    omega
/-- the count alone, one less -/
def lU (u : mS) (i : Int32) : mS := mst u 22 i (u.2 22 i.toNatClampNeg - 1)
theorem mUnstand_lU (u : mS) (i : Int32) (P X Y D N : Nat) : mUnstand u i P X Y D N = mput (lU u i) 2 (setR ((lU u i).2 2) P X Y N (-2) D) := rfl
/-- loseLast: what is written keeps rep -/
theorem rep_lose {q h0 d k u z f} {i n : Nat} {g : Nat → Option Nat} {rs : List Value} (hI : xI q h0 d k z f) (h : rep q d u z f) (hn : bw (u.1 3) 0 80 = true) (hi : i < (u.1 3).toNatClampNeg) (hnn : n = if u.2 4 i = 0 then 6 else 1) (hs : f (d (2000 + i)) = .inr (ciT (z.2 (d (2000 + i))).1, itF (nI i) (u.2 4 i) (d (3000 + i)) (u.2 22 i) (d (4000 + i)) rs)) (hps : f (d (3000 + i)) = aR (q 5) n g) (hcb : bw (u.2 22 i) 0 (nI n) = true) (h1 : 0 < (u.2 22 i).toNatClampNeg) : rep q d (lU u (nI i)) z (va_up (va_up f (d (2000 + i)) (.inr (ciT (z.2 (d (2000 + i))).1, itF (nI i) (u.2 4 i) (d (3000 + i)) (u.2 22 i - 1) (d (4000 + i)) rs))) (d (3000 + i)) (aR (q 5) n (va_up g (u.2 22 i - 1).toNatClampNeg none))) := by
  have hi8 := (bw_it hn hi).2
  obtain ⟨n1, n2, n3, hkd, rs2, g2, fg, hsl, hps2, hpcs, hfs, hfe, hrs⟩ := h.2.2.1.2 i hi
  have n6 : n ≤ 6 := by rw [hnn]; split <;> omega
  obtain ⟨ec, hc⟩ := cnN n6 hcb
  generalize hcc : (u.2 22 i).toNatClampNeg = c at *
  have eg : g = g2 := (aR_inj (hps.symm.trans hps2)).2
  have ne : d (2000 + i) ≠ d (3000 + i) := fun e => by
    have h1 := n2.1.2
    rw [← e, n1.1.2] at h1
    have := kT_r (u.2 4 i)
    omega
  have eI : (nI i).toNatClampNeg = i := nI_clamp (by omega)
  have em : u.2 22 i - 1 = nI (c - 1) := by
    rw [ec, show (1 : Int32) = nI 1 from rfl]
    exact nI_sb (i := c) (r := 1) (by omega) (by omega)
  have w22 : (lU u (nI i)).2 22 i = u.2 22 i - 1 := by unfold lU; rw [mst_at, eI, if_pos rfl]
  have e22 : ((lU u (nI i)).2 22 i).toNatClampNeg = c - 1 := by rw [w22, em, nI_clamp (by omega)]
  have wk : ∀ r, r ≠ 22 → (lU u (nI i)).2 r = u.2 r := fun r hr => mst_other hr
  refine rep_pcs (n := n) (g2 := va_up g (u.2 22 i - 1).toNatClampNeg none) h hn hi hnn hs ?_ up_s ?_ (fun j hj e => d3_inj hI h.2.2.1 hj hi e) ?_ rfl (fun r hr => wk r (by omega)) (fun j hj => by unfold lU; rw [mst_at, eI, if_neg hj]) (fun r r1 r2 j hj hji t ht => by rw [wk r (by omega)])
  · rw [up_o ne, up_s, w22]
  · exact fK_3 (fK_up (fK_rf d z f _) n1 (fun e => by have := kT_r (u.2 4 i); omega) (Or.inl rfl)) n2.1 (fun j hj9 hj e => hj (Or.inr ⟨by omega, by omega, e⟩))
  · intro t ht
    rw [e22] at ht
    obtain ⟨b, b1, b2⟩ := hpcs t (by omega)
    refine ⟨b, by rw [← b1, ← eg, em, nI_clamp (by omega)]; exact if_neg (by omega), ?_⟩
    have hp : ∀ r, r < 5 → pR (lU u (nI i)) i t r = pR u i t r := fun r hr => by
      show (lU u (nI i)).2 (23 + r) (6 * i + t) = _
      rw [wk _ (by omega)]; rfl
    rw [hp 0 (by omega), hp 1 (by omega), hp 2 (by omega), hp 3 (by omega), hp 4 (by omega)]
    exact b2
/-- all that is told of page p -/
theorem pg_all {q h0 d k z f u} (hI : xI q h0 d k z f) (h : rPg q d u z f) {p : Nat} (hp : p < 12) : ∃ (dd ii : Int32) (gl gc : Nat → Int32), tg z (d (10 + p)) 7 ∧ tg z (d (30 + p)) 8 ∧ tg z (d (50 + p)) 9 ∧ f (d (10 + p)) = .inr (8, [.ref (d (30 + p)), .ref (d (50 + p)), .int (u.2 1 p), .int dd, .int ii]) ∧ f (d (30 + p)) = aI (q 0) 8 gl ∧ (∀ j, j < 8 → bw (gl j) 0 60 = true) ∧ f (d (50 + p)) = aI (q 0) 480 gc ∧ eqR 8 gl (u.2 0) (8 * p) ∧ eqR 480 gc (u.2 2) (480 * p) := by
  obtain ⟨m1, m2, m3, dd, ii, s1, ⟨gl, s2, s3⟩, gc, s4, s5⟩ := h.2 p hp
  obtain ⟨g, hs, hg⟩ := x_ln hI m2.1
  obtain rfl := (aI_inj (hs.symm.trans s2)).2
  exact ⟨dd, ii, g, gc, m1.1, m2.1, m3.1, s1, s2, hg, s4, s3, s5⟩
theorem pg_at {q d z f u} (h : rPg q d u z f) {g : Nat → Option Nat} (hg : f (d 0) = aR (q 2) 12 g) {p b : Nat} (hp : p < 12) (hb : g p = some b) : b = d (10 + p) := by
  obtain ⟨⟨g2, a1, a2⟩, -⟩ := h
  have eg := (aR_inj (hg.symm.trans a1)).2
  exact Option.some.inj (hb.symm.trans (by rw [eg]; exact a2 p hp))
