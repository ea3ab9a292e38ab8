theorem mPrR_u {u : mS} {i w r r2 : Int32} (h : mPrR u i w r) (h2 : mPrR u i w r2) : r = r2 := by
  unfold mPrR at h h2
  by_cases b1 : bw i 0 (u.1 3 - 1) = true
  · rw [if_pos b1] at h h2
    by_cases b2 : bw w 0 4 = true
    · rw [if_pos b2] at h h2
      by_cases b3 : u.2 47 (5 * i).toNatClampNeg < 0
      · rw [if_pos b3] at h h2
        rcases h with ⟨q, q1, q2, q3, q4⟩ | ⟨q1, q2⟩
        · rcases h2 with ⟨s, s1, s2, s3, s4⟩ | ⟨s1, s2⟩
          · have e : q = s := by
              rcases Nat.lt_trichotomy q s with x | x | x
              · exact absurd q2 (by rw [s3 q x]; decide)
              · exact x
              · exact absurd s2 (by rw [q3 s x]; decide)
            rw [q4, s4, e]
          · exact absurd q2 (by rw [s1 q q1]; decide)
        · rcases h2 with ⟨s, s1, s2, s3, s4⟩ | ⟨s1, s2⟩
          · exact absurd s2 (by rw [q1 s s1]; decide)
          · rw [q2, s2]
      · rw [if_neg b3] at h h2; rw [h, h2]
    · rw [if_neg b2] at h h2; rw [h, h2]
  · rw [if_neg b1] at h h2; rw [h, h2]
noncomputable def mPr (u : mS) (i w : Int32) : Int32 := @Classical.epsilon Int32 ⟨0⟩ (fun r => mPrR u i w r)
theorem mPr_eq {u : mS} {i w r : Int32} (h : mPrR u i w r) : r = mPr u i w := mPrR_u h (@Classical.epsilon_spec Int32 (fun r => mPrR u i w r) ⟨r, h⟩)
noncomputable def mMend (u : mS) (p0 p1 p2 : Int32) : Int32 := if (mPr u (u.2 9 (p0 : Int32).toNatClampNeg) 0) < 0 then 0 else (if (u.1 38) ≤ (mPr u (u.2 9 (p0 : Int32).toNatClampNeg) 0) then 0 else (if mWas u p0 (u.1 38).toNatClampNeg = true then 0 else (if (mPr u (u.2 9 (p0 : Int32).toNatClampNeg) 2) < p1 then 1 else (if p1 = (mPr u (u.2 9 (p0 : Int32).toNatClampNeg) 2) then (if p2 < (mPr u (u.2 9 (p0 : Int32).toNatClampNeg) 3) then 0 else 1) else 0))))
set_option maxHeartbeats 4000000 in
set_option maxRecDepth 100000 in
theorem n_mayMend (l : Launch) (dC : Nat → ClassId) (dI : Nat → Nat → Nat) (h0 : Nat) (v : Nat → Nat) (cI cZ : ClassId) (u : mS) (p0 p1 p2 : Int32) (hi : bw p0 0 79 = true) (hn : bw (u.1 3) 0 80 = true) (hd : bw (u.1 38) 0 399 = true) : Met l yX12_mayMend wsX12_mayMend ({ frames := 3, cells := 0, slots := 0, locals := 66 }) (va_Pc [.ref h0, .int p0, .int p1, .int p2] (PW dC dI (mW h0 v cI cZ u) [(cI, .int), (cZ, .boolean)])) (vp_Si (fun r => r = mMend u p0 p1 p2)) 0 0 (fun _ => False) := by
  refine Met.ofW (cc := cX12_mayMend) (maxL := 6) (ret := (some .boolean)) (by decide) rfl ?_
  intro p e s m args below meth c s₁ B hml hv
  obtain ⟨rfl, hP, hK, hN⟩ := hv
  have hx := B.exec
  have hb := B.bytes
  have hr := B.returns
  have hts := atoms_spec (ws := wsX12_mayMend) B.pre
  have hown : s.vm.findClass RX12 = some m.cls := findClass_of_methodNamed B.named
  have hlocks := B.notSynchronized
  have hl := lv_entry ([.ref h0, .int p0, .int p1, .int p2]) (n := 6) (Nat.le_of_ble_eq_true rfl)
  rw [lg_entry_eq]
  generalize (lg_sl ([.ref h0, .int p0, .int p1, .int p2]) ++ List.replicate (6 - (lg_sl ([.ref h0, .int p0, .int p1, .int p2])).length) Slot.unset).toArray = ls at hl ⊢
  have hl : lv_has ls 6 [(0, .ref h0), (1, .int p0), (2, .int p1), (3, .int p2)] := hl
  refine lv_aload_n hx hb dX12_mayMend_0 rfl (lv_at hl 0 rfl) ?_
  refine lv_aload_n hx hb dX12_mayMend_1 rfl (lv_at hl 0 rfl) ?_
  refine va_get (D := (dC, dI)) (ci := 11) (v := .ref (v 9)) (C := RX12) (T := TX12) (N := 52) hx hb hts (by decide +kernel) hown hK hP 0 rfl rfl 9 (by decide) (hts (.fieldLink RX12 34 "PageOneModel" "of" "[I") (by decide +kernel)) (fun _ h9 => h9) rfl dX12_mayMend_2 ?_
  refine lv_iload_n hx hb dX12_mayMend_5 rfl (lv_at hl 1 rfl) ?_
  refine va_iald hx hb hK hP 9 0 rfl rfl (vin hi (by decide)) dX12_mayMend_6 ?_
  refine lv_iconst (v := 0) hx hb dX12_mayMend_7 (by decide) ?_
  refine vp_callSi (va_runV (As := [.int (u.2 9 (p0 : Int32).toNatClampNeg), .int 0]) (rest := []) ⟨hx, hb, hml, hown, hts⟩ (m_printed l dC dI h0 v cI cZ u (u.2 9 (p0 : Int32).toNatClampNeg) 0 hn) (cwV 2 hts gX12_mayMend_X12_printed rfl rfl rfl (by decide +kernel) ⟨Nat.le_of_ble_eq_true rfl, Nat.le_of_ble_eq_true rfl⟩) ⟨pw_fb, va_recv hK hP (ci := 11) (q0 := 0) rfl rfl, fun U hU hW => ⟨rfl, pw_to hU hW hP hK hN⟩⟩ rfl rfl hl.1 rfl (lv_room (Nat.le_of_ble_eq_true rfl)) dX12_mayMend_8 ⟨Nat.le_of_ble_eq_true rfl, Nat.le_of_ble_eq_true rfl⟩).run (fun r hw => ?_)
  obtain rfl : r = (mPr u (u.2 9 (p0 : Int32).toNatClampNeg) 0) := mPr_eq hw
  refine lv_topi (fun x_1 ex_1 => ?_)
  refine lv_istore (lv' := [(4, .int x_1), (0, .ref h0), (1, .int p0), (2, .int p1), (3, .int p2)]) hx hb dX12_mayMend_11 hl (by decide) rfl (fun ls hl => ?_)
  refine lv_iload hx hb dX12_mayMend_13 (lv_at hl 0 rfl) ?_
  refine lv_if_lt (tgt := 35) hx hb dX12_mayMend_15 (by decide) (fun c_2 => ?_) (fun c_2 => ?_)
  ·
    refine lv_iconst (v := 0) hx hb dX12_mayMend_35 (by decide) ?_
    exact W.zret (v := 0) hx hb hr (by decide) (fun t ht hW => ⟨_, rfl, (by rw [ex_1] at c_2; unfold mMend; rw [if_pos c_2]), ht⟩) (fun q h => absurd h List.not_mem_nil) dX12_mayMend_36
  ·
    refine lv_iload hx hb dX12_mayMend_18 (lv_at hl 0 rfl) ?_
    refine lv_aload_n hx hb dX12_mayMend_20 rfl (lv_at hl 1 rfl) ?_
    refine va_get (D := (dC, dI)) (ci := 11) (v := .int (u.1 38)) (C := RX12) (T := TX12) (N := 52) hx hb hts (by decide +kernel) hown hK hP 0 rfl rfl 38 (by decide) (hts (.fieldLink RX12 206 "PageOneModel" "day" "I") (by decide +kernel)) (fun _ h9 => h9) rfl dX12_mayMend_21 ?_
    refine lv_icmp_ge (tgt := 35) hx hb dX12_mayMend_24 (by decide) (fun c_3 => ?_) (fun c_3 => ?_)
    ·
      refine lv_iconst (v := 0) hx hb dX12_mayMend_35 (by decide) ?_
      exact W.zret (v := 0) hx hb hr (by decide) (fun t ht hW => ⟨_, rfl, (by rw [ex_1] at c_2; rw [ex_1] at c_3; unfold mMend; rw [if_neg c_2, if_pos c_3]), ht⟩) (fun q h => absurd h List.not_mem_nil) dX12_mayMend_36
    ·
      refine lv_aload_n hx hb dX12_mayMend_27 rfl (lv_at hl 1 rfl) ?_
      refine lv_iload_n hx hb dX12_mayMend_28 rfl (lv_at hl 2 rfl) ?_
      refine vp_callSi (va_runV (As := [.int p0]) (rest := []) ⟨hx, hb, hml, hown, hts⟩ (m_wasPrintedAhead l dC dI h0 v cI cZ u p0 hi hd) (cwV 1 hts gX12_mayMend_X12_wasPrintedAhead rfl rfl rfl (by decide +kernel) ⟨Nat.le_of_ble_eq_true rfl, Nat.le_of_ble_eq_true rfl⟩) ⟨pw_fb, va_recv hK hP (ci := 11) (q0 := 0) rfl rfl, fun U hU hW => ⟨rfl, pw_to hU hW hP hK hN⟩⟩ rfl rfl hl.1 rfl (lv_room (Nat.le_of_ble_eq_true rfl)) dX12_mayMend_29 ⟨Nat.le_of_ble_eq_true rfl, Nat.le_of_ble_eq_true rfl⟩).run (fun r hw => ?_)
      rcases Bool.eq_false_or_eq_true (mWas u p0 (u.1 38).toNatClampNeg) with b_4 | b_4
      ·
        obtain rfl : r = 1 := b_t hw b_4
        refine lv_if_eq (tgt := 37) hx hb dX12_mayMend_32 (by decide) (fun c_5 => absurd c_5 (by decide)) (fun c_5 => ?_)
        refine lv_iconst (v := 0) hx hb dX12_mayMend_35 (by decide) ?_
        exact W.zret (v := 0) hx hb hr (by decide) (fun t ht hW => ⟨_, rfl, (by rw [ex_1] at c_2; rw [ex_1] at c_3; unfold mMend; rw [if_neg c_2, if_neg c_3, if_pos b_4]), ht⟩) (fun q h => absurd h List.not_mem_nil) dX12_mayMend_36
      ·
        obtain rfl : r = 0 := b_f hw b_4
        refine lv_if_eq (tgt := 37) hx hb dX12_mayMend_32 (by decide) (fun c_6 => ?_) (fun c_6 => absurd (by decide) c_6)
        refine lv_aload_n hx hb dX12_mayMend_37 rfl (lv_at hl 1 rfl) ?_
        refine lv_aload_n hx hb dX12_mayMend_38 rfl (lv_at hl 1 rfl) ?_
        refine va_get (D := (dC, dI)) (ci := 11) (v := .ref (v 9)) (C := RX12) (T := TX12) (N := 52) hx hb hts (by decide +kernel) hown hK hP 0 rfl rfl 9 (by decide) (hts (.fieldLink RX12 34 "PageOneModel" "of" "[I") (by decide +kernel)) (fun _ h9 => h9) rfl dX12_mayMend_39 ?_
        refine lv_iload_n hx hb dX12_mayMend_42 rfl (lv_at hl 2 rfl) ?_
        refine va_iald hx hb hK hP 9 0 rfl rfl (vin hi (by decide)) dX12_mayMend_43 ?_
        refine lv_iconst (v := 2) hx hb dX12_mayMend_44 (by decide) ?_
        refine vp_callSi (va_runV (As := [.int (u.2 9 (p0 : Int32).toNatClampNeg), .int 2]) (rest := []) ⟨hx, hb, hml, hown, hts⟩ (m_printed l dC dI h0 v cI cZ u (u.2 9 (p0 : Int32).toNatClampNeg) 2 hn) (cwV 2 hts gX12_mayMend_X12_printed rfl rfl rfl (by decide +kernel) ⟨Nat.le_of_ble_eq_true rfl, Nat.le_of_ble_eq_true rfl⟩) ⟨pw_fb, va_recv hK hP (ci := 11) (q0 := 0) rfl rfl, fun U hU hW => ⟨rfl, pw_to hU hW hP hK hN⟩⟩ rfl rfl hl.1 rfl (lv_room (Nat.le_of_ble_eq_true rfl)) dX12_mayMend_45 ⟨Nat.le_of_ble_eq_true rfl, Nat.le_of_ble_eq_true rfl⟩).run (fun r hw => ?_)
        obtain rfl : r = (mPr u (u.2 9 (p0 : Int32).toNatClampNeg) 2) := mPr_eq hw
        refine lv_topi (fun x_7 ex_7 => ?_)
        refine lv_istore (lv' := [(5, .int x_7), (4, .int x_1), (0, .ref h0), (1, .int p0), (2, .int p1), (3, .int p2)]) hx hb dX12_mayMend_48 hl (by decide) rfl (fun ls hl => ?_)
        refine lv_iload_n hx hb dX12_mayMend_50 rfl (lv_at hl 4 rfl) ?_
        refine lv_iload hx hb dX12_mayMend_51 (lv_at hl 0 rfl) ?_
        refine lv_icmp_gt (tgt := 77) hx hb dX12_mayMend_53 (by decide) (fun c_8 => ?_) (fun c_8 => ?_)
        ·
          refine lv_iconst (v := 1) hx hb dX12_mayMend_77 (by decide) ?_
          refine lv_goto (tgt := 82) hx hb dX12_mayMend_78 (by decide) ?_
          exact W.zret (v := 1) hx hb hr (by decide) (fun t ht hW => ⟨_, rfl, (by rw [ex_1] at c_2; rw [ex_1] at c_3; rw [ex_7] at c_8; unfold mMend; rw [if_neg c_2, if_neg c_3, if_neg (bne b_4), if_pos c_8]), ht⟩) (fun q h => absurd h List.not_mem_nil) dX12_mayMend_82
        ·
          refine lv_iload_n hx hb dX12_mayMend_56 rfl (lv_at hl 4 rfl) ?_
          refine lv_iload hx hb dX12_mayMend_57 (lv_at hl 0 rfl) ?_
          refine lv_icmp_ne (tgt := 81) hx hb dX12_mayMend_59 (by decide) (fun c_9 => ?_) (fun c_9 => ?_)
          ·
            refine lv_iconst (v := 0) hx hb dX12_mayMend_81 (by decide) ?_
            exact W.zret (v := 0) hx hb hr (by decide) (fun t ht hW => ⟨_, rfl, (by rw [ex_1] at c_2; rw [ex_1] at c_3; rw [ex_7] at c_8; rw [ex_7] at c_9; unfold mMend; rw [if_neg c_2, if_neg c_3, if_neg (bne b_4), if_neg c_8, if_neg c_9]), ht⟩) (fun q h => absurd h List.not_mem_nil) dX12_mayMend_82
          ·
            refine lv_iload_n hx hb dX12_mayMend_62 rfl (lv_at hl 5 rfl) ?_
            refine lv_aload_n hx hb dX12_mayMend_63 rfl (lv_at hl 2 rfl) ?_
            refine lv_aload_n hx hb dX12_mayMend_64 rfl (lv_at hl 2 rfl) ?_
            refine va_get (D := (dC, dI)) (ci := 11) (v := .ref (v 9)) (C := RX12) (T := TX12) (N := 52) hx hb hts (by decide +kernel) hown hK hP 0 rfl rfl 9 (by decide) (hts (.fieldLink RX12 34 "PageOneModel" "of" "[I") (by decide +kernel)) (fun _ h9 => h9) rfl dX12_mayMend_65 ?_
            refine lv_iload_n hx hb dX12_mayMend_68 rfl (lv_at hl 3 rfl) ?_
            refine va_iald hx hb hK hP 9 0 rfl rfl (vin hi (by decide)) dX12_mayMend_69 ?_
            refine lv_iconst (v := 3) hx hb dX12_mayMend_70 (by decide) ?_
            refine vp_callSi (va_runV (As := [.int (u.2 9 (p0 : Int32).toNatClampNeg), .int 3]) (rest := [.int p2]) ⟨hx, hb, hml, hown, hts⟩ (m_printed l dC dI h0 v cI cZ u (u.2 9 (p0 : Int32).toNatClampNeg) 3 hn) (cwV 2 hts gX12_mayMend_X12_printed rfl rfl rfl (by decide +kernel) ⟨Nat.le_of_ble_eq_true rfl, Nat.le_of_ble_eq_true rfl⟩) ⟨pw_fb, va_recv hK hP (ci := 11) (q0 := 0) rfl rfl, fun U hU hW => ⟨rfl, pw_to hU hW hP hK hN⟩⟩ rfl rfl hl.1 rfl (lv_room (Nat.le_of_ble_eq_true rfl)) dX12_mayMend_71 ⟨Nat.le_of_ble_eq_true rfl, Nat.le_of_ble_eq_true rfl⟩).run (fun r hw => ?_)
            obtain rfl : r = (mPr u (u.2 9 (p0 : Int32).toNatClampNeg) 3) := mPr_eq hw
            refine lv_icmp_lt (tgt := 81) hx hb dX12_mayMend_74 (by decide) (fun c_10 => ?_) (fun c_10 => ?_)
            ·
              refine lv_iconst (v := 0) hx hb dX12_mayMend_81 (by decide) ?_
              exact W.zret (v := 0) hx hb hr (by decide) (fun t ht hW => ⟨_, rfl, (by rw [ex_1] at c_2; rw [ex_1] at c_3; rw [ex_7] at c_8; rw [ex_7] at c_9; unfold mMend; rw [if_neg c_2, if_neg c_3, if_neg (bne b_4), if_neg c_8, if_pos c_9, if_pos c_10]), ht⟩) (fun q h => absurd h List.not_mem_nil) dX12_mayMend_82
            ·
              refine lv_iconst (v := 1) hx hb dX12_mayMend_77 (by decide) ?_
              refine lv_goto (tgt := 82) hx hb dX12_mayMend_78 (by decide) ?_
              exact W.zret (v := 1) hx hb hr (by decide) (fun t ht hW => ⟨_, rfl, (by rw [ex_1] at c_2; rw [ex_1] at c_3; rw [ex_7] at c_8; rw [ex_7] at c_9; unfold mMend; rw [if_neg c_2, if_neg c_3, if_neg (bne b_4), if_neg c_8, if_pos c_9, if_neg c_10]), ht⟩) (fun q h => absurd h List.not_mem_nil) dX12_mayMend_82
def mHasN (u : mS) (i : Int32) : Prop := ∃ j, j < (u.1 3).toNatClampNeg ∧ u.2 4 j = 5 ∧ u.2 9 j = i
set_option maxHeartbeats 4000000 in
set_option maxRecDepth 100000 in
theorem n_nt_loop {p : Program} {l : Launch} {e : Env} {R : Room} {s : State} {m : MethodId} {args : Array Value} {below : List Frame} {meth : Method} {c : Code} {Q : State → Prop} {cells slots : Nat} {dC : Nat → ClassId} {dI : Nat → Nat → Nat} {h0 : Nat} {v : Nat → Nat} {cI cZ : ClassId} {H : Heap} {locs : List Loc} {u : mS} (hx : p.tables.exec = Jvm.exec) (hb : c.code = cX12_notice) (hml : c.maxLocals = 4) (hts : ∀ w ∈ wsX12_notice, w.before args s = true) (hown : s.vm.findClass RX12 = some m.cls) (hN : NN s) (hK : va_K (dC, dI) vwCl [(cI, .int), (cZ, .boolean)] s) (hP : va_P (dC, dI) vwCl (mW h0 v cI cZ u) H) {p0 p1 : Int32} {M : Nat} (hM8 : M ≤ 80) (eM : u.1 3 = nI M) (kx78 : ∀ (ls : Array Slot), (∃ j, j < M ∧ (u.2 4 j = 5 ∧ u.2 9 j = p0)) → lv_has ls 4 [(0, .ref h0), (1, .int p0), (2, .int p1)] → W p l e R s m args below meth c H locs cells slots Q (F0 m 78 ls [])) (kx86 : ∀ (ls : Array Slot), (∀ j, j < M → ¬ (u.2 4 j = 5 ∧ u.2 9 j = p0)) → lv_has ls 4 [(0, .ref h0), (1, .int p0), (2, .int p1)] → W p l e R s m args below meth c H locs cells slots Q (F0 m 86 ls [])) : ∀ (k i : Nat) (ls : Array Slot), i ≤ M → M - i < k → (∀ j, j < i → ¬ (u.2 4 j = 5 ∧ u.2 9 j = p0)) → lv_has ls 4 [(3, .int (nI i)), (0, .ref h0), (1, .int p0), (2, .int p1)] → W p l e R s m args below meth c H locs cells slots Q (F0 m 50 ls []) := by
  intro k
  induction k with
  | zero => intro i ls h1 h2; exact absurd h2 (Nat.not_lt_zero _)
  | succ k ih =>
    intro i ls hi hk hg hl
    refine lv_iload_n hx hb dX12_notice_50 rfl (lv_at hl 0 rfl) ?_
    refine lv_aload_n hx hb dX12_notice_51 rfl (lv_at hl 1 rfl) ?_
    refine va_get (D := (dC, dI)) (ci := 11) (v := .int (u.1 3)) (C := RX12) (T := TX12) (N := 52) hx hb hts (by decide +kernel) hown hK hP 0 rfl rfl 3 (by decide) (hts (.fieldLink RX12 147 "PageOneModel" "items" "I") (by decide +kernel)) (fun _ h9 => h9) rfl dX12_notice_52 ?_
    refine lv_topi (fun y_1 ey_1 => ?_)
    obtain rfl : y_1 = (nI M) := ey_1.trans (eM)
    refine lv_icmp_ge (tgt := 86) hx hb dX12_notice_55 (by decide) (fun c_2 => ?_) (fun c_2 => ?_)
    ·
      have hie : i = M := lp_eq rfl (by omega) hi c_2
      exact kx86 ls (by rw [← hie]; exact hg) (lv_sub hl [1, 2, 3] rfl)
    ·
      have hlt : i < M := lp_lt rfl (by omega) hi c_2
      refine lv_aload_n hx hb dX12_notice_58 rfl (lv_at hl 1 rfl) ?_
      refine va_get (D := (dC, dI)) (ci := 11) (v := .ref (v 4)) (C := RX12) (T := TX12) (N := 52) hx hb hts (by decide +kernel) hown hK hP 0 rfl rfl 4 (by decide) (hts (.fieldLink RX12 19 "PageOneModel" "kind" "[I") (by decide +kernel)) (fun _ h9 => h9) rfl dX12_notice_59 ?_
      refine lv_iload_n hx hb dX12_notice_62 rfl (lv_at hl 0 rfl) ?_
      refine va_iald hx hb hK hP 4 0 rfl rfl (vp_in_nI (by omega) (by decide)) dX12_notice_63 ?_
      refine lv_iconst (v := 5) hx hb dX12_notice_64 (by decide) ?_
      refine lv_icmp_ne (tgt := 80) hx hb dX12_notice_65 (by decide) (fun c_3 => ?_) (fun c_3 => ?_)
      ·
        refine lv_iinc (v := (nI (i + 1))) (lv' := [(3, .int (nI (i + 1))), (0, .ref h0), (1, .int p0), (2, .int p1)]) hx hb dX12_notice_80 hl (k := 0) rfl (nI_1 i) (by decide) rfl (fun ls hl => ?_)
        refine lv_goto (tgt := 50) hx hb dX12_notice_83 (by decide) ?_
        exact ih (i + 1) ls (by omega) (by omega) (fr_1 hg (by have e9 : (nI i).toNatClampNeg = i := nI_clamp (by omega); (try simp only [e9] at c_3); simp [c_3])) (lv_sub hl [0, 1, 2, 3] rfl)
      ·
        refine lv_aload_n hx hb dX12_notice_68 rfl (lv_at hl 1 rfl) ?_
        refine va_get (D := (dC, dI)) (ci := 11) (v := .ref (v 9)) (C := RX12) (T := TX12) (N := 52) hx hb hts (by decide +kernel) hown hK hP 0 rfl rfl 9 (by decide) (hts (.fieldLink RX12 34 "PageOneModel" "of" "[I") (by decide +kernel)) (fun _ h9 => h9) rfl dX12_notice_69 ?_
        refine lv_iload_n hx hb dX12_notice_72 rfl (lv_at hl 0 rfl) ?_
        refine va_iald hx hb hK hP 9 0 rfl rfl (vp_in_nI (by omega) (by decide)) dX12_notice_73 ?_
        refine lv_iload_n hx hb dX12_notice_74 rfl (lv_at hl 2 rfl) ?_
        refine lv_icmp_ne (tgt := 80) hx hb dX12_notice_75 (by decide) (fun c_4 => ?_) (fun c_4 => ?_)
        ·
          refine lv_iinc (v := (nI (i + 1))) (lv' := [(3, .int (nI (i + 1))), (0, .ref h0), (1, .int p0), (2, .int p1)]) hx hb dX12_notice_80 hl (k := 0) rfl (nI_1 i) (by decide) rfl (fun ls hl => ?_)
          refine lv_goto (tgt := 50) hx hb dX12_notice_83 (by decide) ?_
          exact ih (i + 1) ls (by omega) (by omega) (fr_1 hg (by have e9 : (nI i).toNatClampNeg = i := nI_clamp (by omega); (try simp only [e9] at c_3); (try simp only [e9] at c_4); simp [c_3, c_4])) (lv_sub hl [0, 1, 2, 3] rfl)
        ·
          exact kx78 ls ⟨i, hlt, (by have e9 : (nI i).toNatClampNeg = i := nI_clamp (by omega); (try simp only [e9] at c_3); (try simp only [e9] at c_4); simp [c_3, c_4])⟩ (lv_sub hl [1, 2, 3] rfl)
noncomputable def mNoticeX (u : mS) (p0 p1 : Int32) : Int32 × mS := if (u.1 3) = 80 then ((-1), u) else (if bw p0 0 (u.1 3 - 1) = true then (if bw p1 1 20 = true then (if (u.2 4 (p0 : Int32).toNatClampNeg) = 5 then ((-1), u) else (if 0 ≤ (mPr u p0 0) then (if bP (mHasN u p0) = 0 then ((u.1 3), (mst (mst (mMade u 5) 9 (u.1 3) p0) 8 (u.1 3) p1)) else ((-1), u)) else ((-1), u))) else ((-1), u)) else ((-1), u))
set_option maxHeartbeats 4000000 in
set_option maxRecDepth 100000 in
theorem n_notice (l : Launch) (dC : Nat → ClassId) (dI : Nat → Nat → Nat) (h0 : Nat) (v : Nat → Nat) (cI cZ : ClassId) (u : mS) (p0 p1 : Int32) (hn : bw (u.1 3) 0 80 = true) (sz : Nat) : Met l yX12_notice wsX12_notice ({ frames := 3, cells := 0, slots := 0, locals := 66 }) (va_Pc [.ref h0, .int p0, .int p1] (fun U => U.heap.size = sz ∧ PW dC dI (mW h0 v cI cZ u) [(cI, .int), (cZ, .boolean)] U ∧ va_D (fun _ => True) (mW h0 v cI cZ u))) (va_Qi (fun (r : Int32) (u9 : mS) => (r, u9) = mNoticeX u p0 p1) (fun u9 t => va_P (dC, dI) vwCl (mW h0 v cI cZ u9) t.heap ∧ va_D (va_A (mW h0 v cI cZ u) sz) (mW h0 v cI cZ u9)) (va_A (mW h0 v cI cZ u) sz)) 0 0 (va_A (mW h0 v cI cZ u) sz) := by
  refine Met.ofW (cc := cX12_notice) (maxL := 4) (ret := (some .int)) (by decide) rfl ?_
  intro p e s m args below meth c s₁ B hml hv
  obtain ⟨rfl, hsz, ⟨hP, hK, hN⟩, hD0⟩ := hv
  have hx := B.exec
  have hb := B.bytes
  have hr := B.returns
  have hts := atoms_spec (ws := wsX12_notice) B.pre
  have hown : s.vm.findClass RX12 = some m.cls := findClass_of_methodNamed B.named
  have hlocks := B.notSynchronized
  subst hsz
  have hD := hD0.self (sz := s.heap.size)
  generalize hAe : va_A (mW h0 v cI cZ u) s.heap.size = A at hD ⊢
  have hA : ∀ q : Nat, s.heap.size ≤ q → A q := fun q h => by rw [← hAe]; exact Or.inr h
  have hS : va_S A s.heap s.heap [] := va_S.rf
  have hl := lv_entry ([.ref h0, .int p0, .int p1]) (n := 4) (Nat.le_of_ble_eq_true rfl)
  rw [lg_entry_eq]
  generalize (lg_sl ([.ref h0, .int p0, .int p1]) ++ List.replicate (4 - (lg_sl ([.ref h0, .int p0, .int p1])).length) Slot.unset).toArray = ls at hl ⊢
  have hl : lv_has ls 4 [(0, .ref h0), (1, .int p0), (2, .int p1)] := hl
  refine lv_aload_n hx hb dX12_notice_0 rfl (lv_at hl 0 rfl) ?_
  refine va_get (D := (dC, dI)) (ci := 11) (v := .int (u.1 3)) (C := RX12) (T := TX12) (N := 52) hx hb hts (by decide +kernel) hown hK hP 0 rfl rfl 3 (by decide) (hts (.fieldLink RX12 147 "PageOneModel" "items" "I") (by decide +kernel)) (fun _ h9 => h9) rfl dX12_notice_1 ?_
  refine lv_bipush (v := 80) hx hb dX12_notice_4 (by decide) ?_
  refine lv_icmp_eq (tgt := 46) hx hb dX12_notice_6 (by decide) (fun c_1 => ?_) (fun c_1 => ?_)
  ·
    refine lv_iconst (v := (-1)) hx hb dX12_notice_46 (by decide) ?_
    exact W.iret (v := (-1)) hx hb hr (fun t ht hW => ⟨⟨(-1), u, rfl, (by unfold mNoticeX; rw [if_pos c_1]), by rw [ht]; exact hP, hD⟩, hS.F ht⟩) hS.2.2 dX12_notice_47
  ·
    refine lv_aload_n hx hb dX12_notice_9 rfl (lv_at hl 0 rfl) ?_
    refine lv_iload_n hx hb dX12_notice_10 rfl (lv_at hl 1 rfl) ?_
    refine vp_callSi (va_runV (As := [.int p0]) (rest := []) ⟨hx, hb, hml, hown, hts⟩ (m_isItem l dC dI h0 v cI cZ u p0) (cwV 1 hts gX12_notice_X12_isItem rfl rfl rfl (by decide +kernel) ⟨Nat.le_of_ble_eq_true rfl, Nat.le_of_ble_eq_true rfl⟩) ⟨pw_fb, va_recv hK hP (ci := 11) (q0 := 0) rfl rfl, fun U hU hW => ⟨rfl, pw_to hU hW hP hK hN⟩⟩ rfl rfl hl.1 rfl (lv_room (Nat.le_of_ble_eq_true rfl)) dX12_notice_11 ⟨Nat.le_of_ble_eq_true rfl, Nat.le_of_ble_eq_true rfl⟩).run (fun r hw => ?_)
    rcases Bool.eq_false_or_eq_true (bw p0 0 (u.1 3 - 1)) with b_2 | b_2
    ·
      obtain rfl : r = 1 := b_t hw b_2
      refine lv_if_eq (tgt := 46) hx hb dX12_notice_14 (by decide) (fun c_3 => absurd c_3 (by decide)) (fun c_3 => ?_)
      refine lv_iload_n hx hb dX12_notice_17 rfl (lv_at hl 2 rfl) ?_
      refine lv_iconst (v := 1) hx hb dX12_notice_18 (by decide) ?_
      refine lv_bipush (v := 20) hx hb dX12_notice_19 (by decide) ?_
      refine vp_callSi (va_runS (As := [.int p1, .int 1, .int 20]) (rest := []) ⟨hx, hb, hml, hown, hts⟩ (m_in l dC dI p1 1 20) (va_cwS 3 hts gX12_notice_X12_in rfl rfl rfl (by decide +kernel) ⟨Nat.le_of_ble_eq_true rfl, Nat.le_of_ble_eq_true rfl⟩) ⟨pw_fb, fun U hU hW => ⟨rfl, pw_to hU hW (hP.sub (ws' := []) [] rfl) (hK.sub (tys' := []) [] rfl) hN⟩⟩ rfl rfl hl.1 rfl (lv_room (Nat.le_of_ble_eq_true rfl)) dX12_notice_21 ⟨Nat.le_of_ble_eq_true rfl, Nat.le_of_ble_eq_true rfl⟩).run (fun r hw => ?_)
      rcases Bool.eq_false_or_eq_true (bw p1 1 20) with b_4 | b_4
      ·
        obtain rfl : r = 1 := b_t hw b_4
        refine lv_if_eq (tgt := 46) hx hb dX12_notice_24 (by decide) (fun c_5 => absurd c_5 (by decide)) (fun c_5 => ?_)
        refine lv_aload_n hx hb dX12_notice_27 rfl (lv_at hl 0 rfl) ?_
        refine va_get (D := (dC, dI)) (ci := 11) (v := .ref (v 4)) (C := RX12) (T := TX12) (N := 52) hx hb hts (by decide +kernel) hown hK hP 0 rfl rfl 4 (by decide) (hts (.fieldLink RX12 19 "PageOneModel" "kind" "[I") (by decide +kernel)) (fun _ h9 => h9) rfl dX12_notice_28 ?_
        refine lv_iload_n hx hb dX12_notice_31 rfl (lv_at hl 1 rfl) ?_
        refine va_iald hx hb hK hP 4 0 rfl rfl (vIt hn b_2) dX12_notice_32 ?_
        refine lv_iconst (v := 5) hx hb dX12_notice_33 (by decide) ?_
        refine lv_icmp_eq (tgt := 46) hx hb dX12_notice_34 (by decide) (fun c_6 => ?_) (fun c_6 => ?_)
        ·
          refine lv_iconst (v := (-1)) hx hb dX12_notice_46 (by decide) ?_
          exact W.iret (v := (-1)) hx hb hr (fun t ht hW => ⟨⟨(-1), u, rfl, (by unfold mNoticeX; rw [if_neg c_1, if_pos b_2, if_pos b_4, if_pos c_6]), by rw [ht]; exact hP, hD⟩, hS.F ht⟩) hS.2.2 dX12_notice_47
        ·
          refine lv_aload_n hx hb dX12_notice_37 rfl (lv_at hl 0 rfl) ?_
          refine lv_iload_n hx hb dX12_notice_38 rfl (lv_at hl 1 rfl) ?_
          refine lv_iconst (v := 0) hx hb dX12_notice_39 (by decide) ?_
          refine vp_callSi (va_runV (As := [.int p0, .int 0]) (rest := []) ⟨hx, hb, hml, hown, hts⟩ (m_printed l dC dI h0 v cI cZ u p0 0 hn) (cwV 2 hts gX12_notice_X12_printed rfl rfl rfl (by decide +kernel) ⟨Nat.le_of_ble_eq_true rfl, Nat.le_of_ble_eq_true rfl⟩) ⟨pw_fb, va_recv hK hP (ci := 11) (q0 := 0) rfl rfl, fun U hU hW => ⟨rfl, pw_to hU hW hP hK hN⟩⟩ rfl rfl hl.1 rfl (lv_room (Nat.le_of_ble_eq_true rfl)) dX12_notice_40 ⟨Nat.le_of_ble_eq_true rfl, Nat.le_of_ble_eq_true rfl⟩).run (fun r hw => ?_)
          obtain rfl : r = (mPr u p0 0) := mPr_eq hw
          refine lv_if_ge (tgt := 48) hx hb dX12_notice_43 (by decide) (fun c_7 => ?_) (fun c_7 => ?_)
          ·
            refine lv_iconst (v := 0) hx hb dX12_notice_48 (by decide) ?_
            refine lv_istore_n (lv' := [(3, .int 0), (0, .ref h0), (1, .int p0), (2, .int p1)]) hx hb dX12_notice_49 rfl hl (by decide) rfl (fun ls hl => ?_)
            obtain ⟨eK, eK2, eK3⟩ := nI_of_bw hn
            have h80 : (80 : Int32).toInt = 80 := rfl
            refine n_nt_loop (p0 := p0) (M := (u.1 3).toNatClampNeg) hx hb hml hts hown hN hK hP (by omega) eK (fun ls hh hl => ?_) (fun ls hh hl => ?_) _ 0 ls (Nat.zero_le _) (Nat.lt_succ_self _) (fun j hj => absurd hj (Nat.not_lt_zero _)) (lv_sub hl [0, 1, 2, 3] rfl)
            ·
              have hq_8 := hh
              refine lv_iconst (v := (-1)) hx hb dX12_notice_78 (by decide) ?_
              exact W.iret (v := (-1)) hx hb hr (fun t ht hW => ⟨⟨(-1), u, rfl, (by unfold mNoticeX; rw [if_neg c_1, if_pos b_2, if_pos b_4, if_neg c_6, if_pos c_7, if_neg (by rw [bP_t (show mHasN u p0 from hq_8)]; decide)]), by rw [ht]; exact hP, hD⟩, hS.F ht⟩) hS.2.2 dX12_notice_79
            ·
              have hq_9 := hh
              refine lv_aload_n hx hb dX12_notice_86 rfl (lv_at hl 0 rfl) ?_
              refine lv_iconst (v := 5) hx hb dX12_notice_87 (by decide) ?_
              have hFc := fr_all hD hS hA
              refine va_calli (va_runV (As := [.int 5]) (rest := []) ⟨hx, hb, hml, hown, hts⟩ (m_made l dC dI h0 v cI cZ u 5 hn c_1 s.heap.size) (cwV 1 hts gX12_notice_X12_made rfl rfl rfl (by decide +kernel) ⟨Nat.le_of_ble_eq_true rfl, Nat.le_of_ble_eq_true rfl⟩) ⟨gw_fb, va_recv hK hP (ci := 11) (q0 := 0) rfl rfl, fun U hU hW => ⟨rfl, by rw [hU], pw_to hU hW hP hK hN, hD.weaken (fun _ _ _ _ => trivial)⟩⟩ rfl rfl hl.1 rfl (lv_room (Nat.le_of_ble_eq_true rfl)) dX12_notice_88 ⟨Nat.le_of_ble_eq_true rfl, Nat.le_of_ble_eq_true rfl⟩) hS (fun q _ h => hFc q h) hFc (fun r u_10 t H1 locs ht hvm hw hB hz1 hk1 hS => ?_)
              obtain ⟨hP, hD1⟩ := hB
              rw [ht] at hP
              have hD := hD1.weaken (fun _ q _ h => hFc q.1 h)
              generalize H1 = H at hP hS ⊢
              obtain ⟨rfl, eu_10⟩ := hw
              refine lv_istore_n (lv' := [(3, .int (u.1 3)), (0, .ref h0), (1, .int p0), (2, .int p1)]) hx hb dX12_notice_91 rfl hl (by decide) rfl (fun ls hl => ?_)
              refine lv_aload_n hx hb dX12_notice_92 rfl (lv_at hl 1 rfl) ?_
              refine va_get (D := (dC, dI)) (ci := 11) (v := .ref (v 9)) (C := RX12) (T := TX12) (N := 52) hx hb hts (by decide +kernel) hown hK hP 0 rfl rfl 9 (by decide) (hts (.fieldLink RX12 34 "PageOneModel" "of" "[I") (by decide +kernel)) (fun _ h9 => h9) rfl dX12_notice_93 ?_
              refine lv_iload_n hx hb dX12_notice_96 rfl (lv_at hl 0 rfl) ?_
              refine lv_iload_n hx hb dX12_notice_97 rfl (lv_at hl 2 rfl) ?_
              refine va_iast hx hb hK hP hD hS 9 0 rfl rfl (vNew hn c_1) dX12_notice_98 (fun H locs hP hD hS => ?_)
              obtain ⟨u_11, eu_11⟩ : ∃ zz : mS, zz = mst u_10 9 (u.1 3) p0 := ⟨_, rfl⟩
              have hP : va_P (dC, dI) vwCl (mW h0 v cI cZ u_11) H := by rw [eu_11]; exact hP
              have hD : va_D A (mW h0 v cI cZ u_11) := by rw [eu_11]; exact hD
              refine lv_aload_n hx hb dX12_notice_99 rfl (lv_at hl 1 rfl) ?_
              refine va_get (D := (dC, dI)) (ci := 11) (v := .ref (v 8)) (C := RX12) (T := TX12) (N := 52) hx hb hts (by decide +kernel) hown hK hP 0 rfl rfl 8 (by decide) (hts (.fieldLink RX12 31 "PageOneModel" "high" "[I") (by decide +kernel)) (fun _ h9 => h9) rfl dX12_notice_100 ?_
              refine lv_iload_n hx hb dX12_notice_103 rfl (lv_at hl 0 rfl) ?_
              refine lv_iload_n hx hb dX12_notice_104 rfl (lv_at hl 3 rfl) ?_
              refine va_iast hx hb hK hP hD hS 8 0 rfl rfl (vNew hn c_1) dX12_notice_105 (fun H locs hP hD hS => ?_)
              obtain ⟨u_12, eu_12⟩ : ∃ zz : mS, zz = mst u_11 8 (u.1 3) p1 := ⟨_, rfl⟩
              have hP : va_P (dC, dI) vwCl (mW h0 v cI cZ u_12) H := by rw [eu_12]; exact hP
              have hD : va_D A (mW h0 v cI cZ u_12) := by rw [eu_12]; exact hD
              refine lv_iload_n hx hb dX12_notice_106 rfl (lv_at hl 0 rfl) ?_
              exact W.iret (v := (u.1 3)) hx hb hr (fun t ht hW => ⟨⟨(u.1 3), u_12, rfl, (by rw [eu_12, eu_11, eu_10]; unfold mNoticeX; rw [if_neg c_1, if_pos b_2, if_pos b_4, if_neg c_6, if_pos c_7, if_pos (bP_f (fun ⟨j, hj, hP9⟩ => hq_9 j hj hP9))]), by rw [ht]; exact hP, hD⟩, hS.F ht⟩) hS.2.2 dX12_notice_107
          ·
            refine lv_iconst (v := (-1)) hx hb dX12_notice_46 (by decide) ?_
            exact W.iret (v := (-1)) hx hb hr (fun t ht hW => ⟨⟨(-1), u, rfl, (by unfold mNoticeX; rw [if_neg c_1, if_pos b_2, if_pos b_4, if_neg c_6, if_neg c_7]), by rw [ht]; exact hP, hD⟩, hS.F ht⟩) hS.2.2 dX12_notice_47
      ·
        obtain rfl : r = 0 := b_f hw b_4
        refine lv_if_eq (tgt := 46) hx hb dX12_notice_24 (by decide) (fun c_13 => ?_) (fun c_13 => absurd (by decide) c_13)
        refine lv_iconst (v := (-1)) hx hb dX12_notice_46 (by decide) ?_
        exact W.iret (v := (-1)) hx hb hr (fun t ht hW => ⟨⟨(-1), u, rfl, (by unfold mNoticeX; rw [if_neg c_1, if_pos b_2, if_neg (bne b_4)]), by rw [ht]; exact hP, hD⟩, hS.F ht⟩) hS.2.2 dX12_notice_47
    ·
      obtain rfl : r = 0 := b_f hw b_2
      refine lv_if_eq (tgt := 46) hx hb dX12_notice_14 (by decide) (fun c_14 => ?_) (fun c_14 => absurd (by decide) c_14)
      refine lv_iconst (v := (-1)) hx hb dX12_notice_46 (by decide) ?_
      exact W.iret (v := (-1)) hx hb hr (fun t ht hW => ⟨⟨(-1), u, rfl, (by unfold mNoticeX; rw [if_neg c_1, if_neg (bne b_2)]), by rw [ht]; exact hP, hD⟩, hS.F ht⟩) hS.2.2 dX12_notice_47
theorem bP_or1 {P : Nat → Prop} {i : Nat} {a : Int32} (hg : a = bP (∃ j, j < i ∧ P j)) (h : ¬ a = 0) : (1 : Int32) = bP (∃ j, j < i + 1 ∧ P j) := by
  rw [hg] at h
  obtain ⟨j, hj, hp⟩ := bP_n h
  exact (bP_t ⟨j, by omega, hp⟩).symm
theorem bP_or2 {P : Nat → Prop} {i : Nat} (h : P i) : (1 : Int32) = bP (∃ j, j < i + 1 ∧ P j) := (bP_t ⟨i, Nat.lt_succ_self _, h⟩).symm
theorem bP_or3 {P : Nat → Prop} {i : Nat} {a : Int32} (hg : a = bP (∃ j, j < i ∧ P j)) (h : a = 0) (hn : ¬ P i) : (0 : Int32) = bP (∃ j, j < i + 1 ∧ P j) := by
  rw [hg] at h
  refine (bP_f (fun ⟨j, hj, hp⟩ => ?_)).symm
  by_cases e : j = i
  · rw [e] at hp; exact hn hp
  · exact bP_0 h ⟨j, by omega, hp⟩
theorem bP_z {P : Nat → Prop} : (0 : Int32) = bP (∃ j, j < 0 ∧ P j) := (bP_f (fun ⟨_, hj, _⟩ => absurd hj (Nat.not_lt_zero _))).symm
def hsC (u : mS) (p0 kk b : Int32) (c : Nat) : Prop := mCell u (u.2 23 kk.toNatClampNeg) (nI c) b = true ∧ u.2 2 (480 * u.2 23 kk.toNatClampNeg + 60 * nI c + b).toNatClampNeg = u.2 9 p0.toNatClampNeg
set_option maxHeartbeats 4000000 in
set_option maxRecDepth 100000 in
theorem n_hasS_loop {p : Program} {l : Launch} {e : Env} {R : Room} {s : State} {m : MethodId} {args : Array Value} {below : List Frame} {meth : Method} {c : Code} {Q : State → Prop} {cells slots : Nat} {dC : Nat → ClassId} {dI : Nat → Nat → Nat} {h0 : Nat} {v : Nat → Nat} {cI cZ : ClassId} {H : Heap} {locs : List Loc} {u : mS} (hx : p.tables.exec = Jvm.exec) (hb : c.code = cX12_hasStory) (hml : c.maxLocals = 6) (hts : ∀ w ∈ wsX12_hasStory, w.before args s = true) (hown : s.vm.findClass RX12 = some m.cls) (hN : NN s) (hK : va_K (dC, dI) vwCl [(cI, .int), (cZ, .boolean)] s) (hRf : 3 ≤ R.frames) (hRl : 65 ≤ R.locals) (hRc : cells ≤ R.cells) (hRs : slots ≤ R.slots) (hP : va_P (dC, dI) vwCl (mW h0 v cI cZ u) H) {p0 b kk : Int32} {X D : Nat} (hi0 : bw p0 0 79 = true) (hkk : vp_in kk 480) (hXW : X + D ≤ 8) (hln : ∀ j, j < 96 → bw (u.2 0 j) 0 60 = true) (e24 : u.2 24 kk.toNatClampNeg = nI X) (e26 : u.2 26 kk.toNatClampNeg = nI D) (kx : ∀ (a : Int32) (ls : Array Slot), (a = bP (∃ j, j < D ∧ hsC u p0 kk b (X + j))) → lv_has ls 6 [(5, .int (nI (X + D))), (4, .int a), (0, .ref h0), (1, .int p0), (2, .int kk), (3, .int b)] → W p l e R s m args below meth c H locs cells slots Q (F0 m 108 ls [])) : ∀ (k i : Nat) (a : Int32) (ls : Array Slot), i ≤ D → D - i < k → (a = bP (∃ j, j < i ∧ hsC u p0 kk b (X + j))) → lv_has ls 6 [(5, .int (nI (X + i))), (4, .int a), (0, .ref h0), (1, .int p0), (2, .int kk), (3, .int b)] → W p l e R s m args below meth c H locs cells slots Q (F0 m 30 ls []) := by
  intro k
  induction k with
  | zero => intro i a ls h1 h2; exact absurd h2 (Nat.not_lt_zero _)
  | succ k ih =>
    intro i a ls hi hk hg hl
    refine lv_iload hx hb dX12_hasStory_30 (lv_at hl 0 rfl) ?_
    refine lv_aload_n hx hb dX12_hasStory_32 rfl (lv_at hl 2 rfl) ?_
    refine va_get (D := (dC, dI)) (ci := 11) (v := .ref (v 24)) (C := RX12) (T := TX12) (N := 52) hx hb hts (by decide +kernel) hown hK hP 0 rfl rfl 24 (by decide) (hts (.fieldLink RX12 80 "PageOneModel" "pColumn" "[I") (by decide +kernel)) (fun _ h9 => h9) rfl dX12_hasStory_33 ?_
    refine lv_iload_n hx hb dX12_hasStory_36 rfl (lv_at hl 4 rfl) ?_
    refine va_iald hx hb hK hP 24 0 rfl rfl hkk dX12_hasStory_37 ?_
    refine lv_topi (fun y_1 ey_1 => ?_)
    obtain rfl : y_1 = (nI X) := ey_1.trans (e24)
    refine lv_aload_n hx hb dX12_hasStory_38 rfl (lv_at hl 2 rfl) ?_
    refine va_get (D := (dC, dI)) (ci := 11) (v := .ref (v 26)) (C := RX12) (T := TX12) (N := 52) hx hb hts (by decide +kernel) hown hK hP 0 rfl rfl 26 (by decide) (hts (.fieldLink RX12 86 "PageOneModel" "pWide" "[I") (by decide +kernel)) (fun _ h9 => h9) rfl dX12_hasStory_39 ?_
    refine lv_iload_n hx hb dX12_hasStory_42 rfl (lv_at hl 4 rfl) ?_
    refine va_iald hx hb hK hP 26 0 rfl rfl hkk dX12_hasStory_43 ?_
    refine lv_topi (fun y_2 ey_2 => ?_)
    obtain rfl : y_2 = (nI D) := ey_2.trans (e26)
    refine lv_iadd hx hb dX12_hasStory_44 ?_
    refine lv_icmp_ge (tgt := 108) hx hb dX12_hasStory_45 (by decide) (fun c_3 => ?_) (fun c_3 => ?_)
    ·
      have hie : i = D := by have := lp_eq (nI_add X D) (by omega) (by omega) c_3; omega
      rw [hie] at hg hl
      exact kx _ ls hg (lv_sub hl [0, 1, 2, 3, 4, 5] rfl)
    ·
      have hlt : i < D := by have := lp_lt (nI_add X D) (by omega) (by omega) c_3; omega
      refine lv_iload hx hb dX12_hasStory_48 (lv_at hl 1 rfl) ?_
      refine lv_if_ne (tgt := 95) hx hb dX12_hasStory_50 (by decide) (fun c_4 => ?_) (fun c_4 => ?_)
      ·
        refine lv_iconst (v := 1) hx hb dX12_hasStory_95 (by decide) ?_
        refine lv_goto (tgt := 100) hx hb dX12_hasStory_96 (by decide) ?_
        refine lv_istore (lv' := [(4, .int 1), (5, .int (nI (X + i))), (0, .ref h0), (1, .int p0), (2, .int kk), (3, .int b)]) hx hb dX12_hasStory_100 hl (by decide) rfl (fun ls hl => ?_)
        refine lv_iinc (v := (nI (X + i + 1))) (lv' := [(5, .int (nI (X + i + 1))), (4, .int 1), (0, .ref h0), (1, .int p0), (2, .int kk), (3, .int b)]) hx hb dX12_hasStory_102 hl (k := 1) rfl (nI_1 _) (by decide) rfl (fun ls hl => ?_)
        refine lv_goto (tgt := 30) hx hb dX12_hasStory_105 (by decide) ?_
        exact ih (i + 1) _ ls (by omega) (by omega) (bP_or1 (P := fun j => hsC u p0 kk b (X + j)) hg c_4) (lv_sub hl [0, 1, 2, 3, 4, 5] rfl)
      ·
        refine lv_aload_n hx hb dX12_hasStory_53 rfl (lv_at hl 2 rfl) ?_
        refine lv_aload_n hx hb dX12_hasStory_54 rfl (lv_at hl 2 rfl) ?_
        refine va_get (D := (dC, dI)) (ci := 11) (v := .ref (v 23)) (C := RX12) (T := TX12) (N := 52) hx hb hts (by decide +kernel) hown hK hP 0 rfl rfl 23 (by decide) (hts (.fieldLink RX12 77 "PageOneModel" "pPage" "[I") (by decide +kernel)) (fun _ h9 => h9) rfl dX12_hasStory_55 ?_
        refine lv_iload_n hx hb dX12_hasStory_58 rfl (lv_at hl 4 rfl) ?_
        refine va_iald hx hb hK hP 23 0 rfl rfl hkk dX12_hasStory_59 ?_
        refine lv_iload hx hb dX12_hasStory_60 (lv_at hl 0 rfl) ?_
        refine lv_iload_n hx hb dX12_hasStory_62 rfl (lv_at hl 5 rfl) ?_
        refine vp_callSi (va_runV (As := [.int (u.2 23 (kk : Int32).toNatClampNeg), .int (nI (X + i)), .int b]) (rest := []) ⟨hx, hb, hml, hown, hts⟩ (m_isCell l dC dI h0 v cI cZ u (u.2 23 (kk : Int32).toNatClampNeg) (nI (X + i)) b) (cwV 3 hts gX12_hasStory_X12_isCell rfl rfl rfl (by decide +kernel) ⟨Nat.le_trans (Nat.le_of_ble_eq_true rfl) hRf, Nat.le_trans (Nat.le_of_ble_eq_true rfl) hRl⟩) ⟨pw_fb, va_recv hK hP (ci := 11) (q0 := 0) rfl rfl, fun U hU hW => ⟨rfl, pw_to hU hW hP hK hN⟩⟩ rfl rfl hl.1 rfl (lv_room (Nat.le_of_ble_eq_true rfl)) dX12_hasStory_63 ⟨hRc, hRs⟩).run (fun r hw => ?_)
        rcases Bool.eq_false_or_eq_true (mCell u (u.2 23 (kk : Int32).toNatClampNeg) (nI (X + i)) b) with b_5 | b_5
        ·
          obtain rfl : r = 1 := b_t hw b_5
          refine lv_if_eq (tgt := 99) hx hb dX12_hasStory_66 (by decide) (fun c_6 => absurd c_6 (by decide)) (fun c_6 => ?_)
          refine lv_aload_n hx hb dX12_hasStory_69 rfl (lv_at hl 2 rfl) ?_
          refine va_get (D := (dC, dI)) (ci := 11) (v := .ref (v 2)) (C := RX12) (T := TX12) (N := 52) hx hb hts (by decide +kernel) hown hK hP 0 rfl rfl 2 (by decide) (hts (.fieldLink RX12 16 "PageOneModel" "cell" "[I") (by decide +kernel)) (fun _ h9 => h9) rfl dX12_hasStory_70 ?_
          refine lv_aload_n hx hb dX12_hasStory_73 rfl (lv_at hl 2 rfl) ?_
          refine va_get (D := (dC, dI)) (ci := 11) (v := .ref (v 23)) (C := RX12) (T := TX12) (N := 52) hx hb hts (by decide +kernel) hown hK hP 0 rfl rfl 23 (by decide) (hts (.fieldLink RX12 77 "PageOneModel" "pPage" "[I") (by decide +kernel)) (fun _ h9 => h9) rfl dX12_hasStory_74 ?_
          refine lv_iload_n hx hb dX12_hasStory_77 rfl (lv_at hl 4 rfl) ?_
          refine va_iald hx hb hK hP 23 0 rfl rfl hkk dX12_hasStory_78 ?_
          refine lv_iload hx hb dX12_hasStory_79 (lv_at hl 0 rfl) ?_
          refine lv_iload_n hx hb dX12_hasStory_81 rfl (lv_at hl 5 rfl) ?_
          refine vp_callSi (va_runS (As := [.int (u.2 23 (kk : Int32).toNatClampNeg), .int (nI (X + i)), .int b]) (rest := [.ref (v 2)]) ⟨hx, hb, hml, hown, hts⟩ (m_at l dC dI (u.2 23 (kk : Int32).toNatClampNeg) (nI (X + i)) b) (va_cwS 3 hts gX12_hasStory_X12_at rfl rfl rfl (by decide +kernel) ⟨Nat.le_trans (Nat.le_of_ble_eq_true rfl) hRf, Nat.le_trans (Nat.le_of_ble_eq_true rfl) hRl⟩) ⟨pw_fb, fun U hU hW => ⟨rfl, pw_to hU hW (hP.sub (ws' := []) [] rfl) (hK.sub (tys' := []) [] rfl) hN⟩⟩ rfl rfl hl.1 rfl (lv_room (Nat.le_of_ble_eq_true rfl)) dX12_hasStory_82 ⟨hRc, hRs⟩).run (fun r hw => ?_)
          obtain rfl : r = (480 * (u.2 23 (kk : Int32).toNatClampNeg) + 60 * (nI (X + i)) + b) := hw
          refine va_iald hx hb hK hP 3 0 rfl rfl (vCell hln b_5) dX12_hasStory_85 ?_
          refine lv_aload_n hx hb dX12_hasStory_86 rfl (lv_at hl 2 rfl) ?_
          refine va_get (D := (dC, dI)) (ci := 11) (v := .ref (v 9)) (C := RX12) (T := TX12) (N := 52) hx hb hts (by decide +kernel) hown hK hP 0 rfl rfl 9 (by decide) (hts (.fieldLink RX12 34 "PageOneModel" "of" "[I") (by decide +kernel)) (fun _ h9 => h9) rfl dX12_hasStory_87 ?_
          refine lv_iload_n hx hb dX12_hasStory_90 rfl (lv_at hl 3 rfl) ?_
          refine va_iald hx hb hK hP 9 0 rfl rfl (vin hi0 (by decide)) dX12_hasStory_91 ?_
          refine lv_icmp_ne (tgt := 99) hx hb dX12_hasStory_92 (by decide) (fun c_7 => ?_) (fun c_7 => ?_)
          ·
            refine lv_iconst (v := 0) hx hb dX12_hasStory_99 (by decide) ?_
            refine lv_istore (lv' := [(4, .int 0), (5, .int (nI (X + i))), (0, .ref h0), (1, .int p0), (2, .int kk), (3, .int b)]) hx hb dX12_hasStory_100 hl (by decide) rfl (fun ls hl => ?_)
            refine lv_iinc (v := (nI (X + i + 1))) (lv' := [(5, .int (nI (X + i + 1))), (4, .int 0), (0, .ref h0), (1, .int p0), (2, .int kk), (3, .int b)]) hx hb dX12_hasStory_102 hl (k := 1) rfl (nI_1 _) (by decide) rfl (fun ls hl => ?_)
            refine lv_goto (tgt := 30) hx hb dX12_hasStory_105 (by decide) ?_
            exact ih (i + 1) _ ls (by omega) (by omega) (bP_or3 (P := fun j => hsC u p0 kk b (X + j)) hg c_4 (fun h => c_7 h.2)) (lv_sub hl [0, 1, 2, 3, 4, 5] rfl)
          ·
            refine lv_iconst (v := 1) hx hb dX12_hasStory_95 (by decide) ?_
            refine lv_goto (tgt := 100) hx hb dX12_hasStory_96 (by decide) ?_
            refine lv_istore (lv' := [(4, .int 1), (5, .int (nI (X + i))), (0, .ref h0), (1, .int p0), (2, .int kk), (3, .int b)]) hx hb dX12_hasStory_100 hl (by decide) rfl (fun ls hl => ?_)
            refine lv_iinc (v := (nI (X + i + 1))) (lv' := [(5, .int (nI (X + i + 1))), (4, .int 1), (0, .ref h0), (1, .int p0), (2, .int kk), (3, .int b)]) hx hb dX12_hasStory_102 hl (k := 1) rfl (nI_1 _) (by decide) rfl (fun ls hl => ?_)
            refine lv_goto (tgt := 30) hx hb dX12_hasStory_105 (by decide) ?_
            exact ih (i + 1) _ ls (by omega) (by omega) (bP_or2 (P := fun j => hsC u p0 kk b (X + j)) ⟨b_5, c_7⟩) (lv_sub hl [0, 1, 2, 3, 4, 5] rfl)
        ·
          obtain rfl : r = 0 := b_f hw b_5
          refine lv_if_eq (tgt := 99) hx hb dX12_hasStory_66 (by decide) (fun c_8 => ?_) (fun c_8 => absurd (by decide) c_8)
          refine lv_iconst (v := 0) hx hb dX12_hasStory_99 (by decide) ?_
          refine lv_istore (lv' := [(4, .int 0), (5, .int (nI (X + i))), (0, .ref h0), (1, .int p0), (2, .int kk), (3, .int b)]) hx hb dX12_hasStory_100 hl (by decide) rfl (fun ls hl => ?_)
          refine lv_iinc (v := (nI (X + i + 1))) (lv' := [(5, .int (nI (X + i + 1))), (4, .int 0), (0, .ref h0), (1, .int p0), (2, .int kk), (3, .int b)]) hx hb dX12_hasStory_102 hl (k := 1) rfl (nI_1 _) (by decide) rfl (fun ls hl => ?_)
          refine lv_goto (tgt := 30) hx hb dX12_hasStory_105 (by decide) ?_
          exact ih (i + 1) _ ls (by omega) (by omega) (bP_or3 (P := fun j => hsC u p0 kk b (X + j)) hg c_4 (fun h => bne b_5 h.1)) (lv_sub hl [0, 1, 2, 3, 4, 5] rfl)
set_option maxHeartbeats 4000000 in
set_option maxRecDepth 100000 in
theorem n_hasStory (l : Launch) (dC : Nat → ClassId) (dI : Nat → Nat → Nat) (h0 : Nat) (v : Nat → Nat) (cI cZ : ClassId) (u : mS) (p0 : Int32) (X D : Nat) (hi : bw p0 0 79 = true) (hXW : X + D ≤ 8) (hln : ∀ j, j < 96 → bw (u.2 0 j) 0 60 = true) (e24 : u.2 24 (6 * p0).toNatClampNeg = nI X) (e26 : u.2 26 (6 * p0).toNatClampNeg = nI D) : Met l yX12_hasStory wsX12_hasStory ({ frames := 3, cells := 0, slots := 0, locals := 65 }) (va_Pc [.ref h0, .int p0] (PW dC dI (mW h0 v cI cZ u) [(cI, .int), (cZ, .boolean)])) (vp_Si (fun r => r = bP (∃ j, j < D ∧ hsC u p0 (6 * p0) (u.2 25 (6 * p0).toNatClampNeg + u.2 27 (6 * p0).toNatClampNeg) (X + j)))) 0 0 (fun _ => False) := by
  refine Met.ofW (cc := cX12_hasStory) (maxL := 6) (ret := (some .boolean)) (by decide) rfl ?_
  intro p e s m args below meth c s₁ B hml hv
  obtain ⟨rfl, hP, hK, hN⟩ := hv
  have hx := B.exec
  have hb := B.bytes
  have hr := B.returns
  have hts := atoms_spec (ws := wsX12_hasStory) B.pre
  have hown : s.vm.findClass RX12 = some m.cls := findClass_of_methodNamed B.named
  have hlocks := B.notSynchronized
  have hl := lv_entry ([.ref h0, .int p0]) (n := 6) (Nat.le_of_ble_eq_true rfl)
  rw [lg_entry_eq]
  generalize (lg_sl ([.ref h0, .int p0]) ++ List.replicate (6 - (lg_sl ([.ref h0, .int p0])).length) Slot.unset).toArray = ls at hl ⊢
  have hl : lv_has ls 6 [(0, .ref h0), (1, .int p0)] := hl
  refine lv_bipush (v := 6) hx hb dX12_hasStory_0 (by decide) ?_
  refine lv_iload_n hx hb dX12_hasStory_2 rfl (lv_at hl 1 rfl) ?_
  refine lv_imul hx hb dX12_hasStory_3 ?_
  refine lv_topi (fun x_1 ex_1 => ?_)
  refine lv_istore_n (lv' := [(2, .int x_1), (0, .ref h0), (1, .int p0)]) hx hb dX12_hasStory_4 rfl hl (by decide) rfl (fun ls hl => ?_)
  refine lv_aload_n hx hb dX12_hasStory_5 rfl (lv_at hl 1 rfl) ?_
  refine va_get (D := (dC, dI)) (ci := 11) (v := .ref (v 25)) (C := RX12) (T := TX12) (N := 52) hx hb hts (by decide +kernel) hown hK hP 0 rfl rfl 25 (by decide) (hts (.fieldLink RX12 83 "PageOneModel" "pLine" "[I") (by decide +kernel)) (fun _ h9 => h9) rfl dX12_hasStory_6 ?_
  refine lv_iload_n hx hb dX12_hasStory_9 rfl (lv_at hl 0 rfl) ?_
  refine va_iald hx hb hK hP 25 0 rfl rfl (v60 hi ex_1) dX12_hasStory_10 ?_
  refine lv_aload_n hx hb dX12_hasStory_11 rfl (lv_at hl 1 rfl) ?_
  refine va_get (D := (dC, dI)) (ci := 11) (v := .ref (v 27)) (C := RX12) (T := TX12) (N := 52) hx hb hts (by decide +kernel) hown hK hP 0 rfl rfl 27 (by decide) (hts (.fieldLink RX12 89 "PageOneModel" "pHigh" "[I") (by decide +kernel)) (fun _ h9 => h9) rfl dX12_hasStory_12 ?_
  refine lv_iload_n hx hb dX12_hasStory_15 rfl (lv_at hl 0 rfl) ?_
  refine va_iald hx hb hK hP 27 0 rfl rfl (v60 hi ex_1) dX12_hasStory_16 ?_
  refine lv_iadd hx hb dX12_hasStory_17 ?_
  refine lv_topi (fun x_2 ex_2 => ?_)
  refine lv_istore_n (lv' := [(3, .int x_2), (2, .int x_1), (0, .ref h0), (1, .int p0)]) hx hb dX12_hasStory_18 rfl hl (by decide) rfl (fun ls hl => ?_)
  refine lv_iconst (v := 0) hx hb dX12_hasStory_19 (by decide) ?_
  refine lv_istore (lv' := [(4, .int 0), (3, .int x_2), (2, .int x_1), (0, .ref h0), (1, .int p0)]) hx hb dX12_hasStory_20 hl (by decide) rfl (fun ls hl => ?_)
  refine lv_aload_n hx hb dX12_hasStory_22 rfl (lv_at hl 3 rfl) ?_
  refine va_get (D := (dC, dI)) (ci := 11) (v := .ref (v 24)) (C := RX12) (T := TX12) (N := 52) hx hb hts (by decide +kernel) hown hK hP 0 rfl rfl 24 (by decide) (hts (.fieldLink RX12 80 "PageOneModel" "pColumn" "[I") (by decide +kernel)) (fun _ h9 => h9) rfl dX12_hasStory_23 ?_
  refine lv_iload_n hx hb dX12_hasStory_26 rfl (lv_at hl 2 rfl) ?_
  refine va_iald hx hb hK hP 24 0 rfl rfl (v60 hi ex_1) dX12_hasStory_27 ?_
  refine lv_topi (fun y_3 ey_3 => ?_)
  obtain rfl : y_3 = (nI X) := ey_3.trans ((by rw [ex_1]; exact e24))
  refine lv_istore (lv' := [(5, .int (nI X)), (4, .int 0), (3, .int x_2), (2, .int x_1), (0, .ref h0), (1, .int p0)]) hx hb dX12_hasStory_28 hl (by decide) rfl (fun ls hl => ?_)
  refine n_hasS_loop (X := X) (D := D) hx hb hml hts hown hN hK (Nat.le_of_ble_eq_true rfl) (Nat.le_of_ble_eq_true rfl) (Nat.le_of_ble_eq_true rfl) (Nat.le_of_ble_eq_true rfl) hP hi (v60 hi ex_1) hXW hln (by rw [ex_1]; exact e24) (by rw [ex_1]; exact e26) (fun a ls hg hl => ?_) (D + 1) 0 0 ls (Nat.zero_le _) (by omega) bP_z (lv_sub hl [0, 1, 4, 5, 3, 2] rfl)
  refine lv_iload hx hb dX12_hasStory_108 (lv_at hl 1 rfl) ?_
  exact W.zret (v := a) hx hb hr (by rw [hg]; rcases bP_01 (∃ j, j < D ∧ hsC u p0 x_1 x_2 (X + j)) with h | h <;> rw [h] <;> decide) (fun t ht hW => ⟨_, rfl, (by rw [hg, ex_2, ex_1]), ht⟩) (fun q h => absurd h List.not_mem_nil) dX12_hasStory_110
/-- the wrongs: the least of all that were found -/
abbrev tr3 : Type := Int32 × Int32 × Int32
def wr3 (u : mS) : tr3 := (u.1 49, u.1 50, u.1 51)
def trN (k a b : Int32) : tr3 := (k, if b < 0 then a else if a ≤ b then a else b, if b < 0 then b else if a ≤ b then b else a)
def le3 (a b : tr3) : Prop := a.1.toInt < b.1.toInt ∨ (a.1.toInt = b.1.toInt ∧ (a.2.1.toInt < b.2.1.toInt ∨ (a.2.1.toInt = b.2.1.toInt ∧ a.2.2.toInt ≤ b.2.2.toInt)))
theorem le3_rf (a : tr3) : le3 a a := by unfold le3; omega
theorem le3_tr {a b c : tr3} (h1 : le3 a b) (h2 : le3 b c) : le3 a c := by unfold le3 at *; omega
theorem le3_an {a b : tr3} (h1 : le3 a b) (h2 : le3 b a) : a = b := by
  unfold le3 at h1 h2
  exact Prod.ext (Int32.toInt_inj.mp (by omega)) (Prod.ext (Int32.toInt_inj.mp (by omega)) (Int32.toInt_inj.mp (by omega)))
def best (S : tr3 → Prop) (w : tr3) : Prop := (w = (0, -1, -1) ∧ ∀ t, ¬ S t) ∨ (¬ w.1 = 0 ∧ S w ∧ ∀ t, S t → le3 w t)
theorem best_u {S : tr3 → Prop} {w w2 : tr3} (h : best S w) (h2 : best S w2) : w = w2 := by
  rcases h with ⟨a1, a2⟩ | ⟨a1, a2, a3⟩
  · rcases h2 with ⟨b1, b2⟩ | ⟨b1, b2, b3⟩
    · rw [a1, b1]
    · exact absurd b2 (a2 _)
  · rcases h2 with ⟨b1, b2⟩ | ⟨b1, b2, b3⟩
    · exact absurd a2 (b2 _)
    · exact le3_an (a3 _ b2) (b3 _ a2)
theorem best_c {S T : tr3 → Prop} {w : tr3} (h : best S w) (e : ∀ t, S t ↔ T t) : best T w := by
  rcases h with ⟨a1, a2⟩ | ⟨a1, a2, a3⟩
  · exact Or.inl ⟨a1, fun t ht => a2 t ((e t).mpr ht)⟩
  · exact Or.inr ⟨a1, (e w).mp a2, fun t ht => a3 t ((e t).mpr ht)⟩
theorem best_new {S : tr3 → Prop} {w t0 : tr3} (h : best S w) (hk : ¬ t0.1 = 0) (hlt : w.1 = 0 ∨ le3 t0 w) : best (fun t => S t ∨ t = t0) t0 := by
  refine Or.inr ⟨hk, Or.inr rfl, fun t ht => ?_⟩
  rcases ht with ht | ht
  · rcases h with ⟨a1, a2⟩ | ⟨a1, a2, a3⟩
    · exact absurd ht (a2 t)
    · rcases hlt with x | x
      · exact absurd x a1
      · exact le3_tr x (a3 t ht)
  · rw [ht]; exact le3_rf _
theorem best_old {S : tr3 → Prop} {w t0 : tr3} (h : best S w) (hw : ¬ w.1 = 0) (hle : le3 w t0) : best (fun t => S t ∨ t = t0) w := by
  rcases h with ⟨a1, a2⟩ | ⟨a1, a2, a3⟩
  · exact absurd (by rw [a1]) hw
  · refine Or.inr ⟨a1, Or.inl a2, fun t ht => ?_⟩
    rcases ht with ht | ht
    · exact a3 t ht
    · rw [ht]; exact hle
theorem i32n {a b : Int32} (h : ¬ a < b) (h2 : ¬ a = b) : b.toInt < a.toInt := by
  rw [i32_lt] at h
  have h3 : ¬ a.toInt = b.toInt := fun e => h2 (Int32.toInt_inj.mp e)
  omega
theorem best_wr {S : tr3 → Prop} {u : mS} {k a b : Int32} (h : best S (wr3 u)) (hk : ¬ k = 0) : best (fun t => S t ∨ t = trN k a b) (wr3 (mWrongs u k a b)) := by
  have hw : ∀ lo ot : Int32, wr3 (mset (mset (mset u 49 k) 50 lo) 51 ot) = (k, lo, ot) := fun lo ot => by
    unfold wr3 mset
    dsimp only
    rw [if_neg (by decide), if_neg (by decide), if_pos rfl, if_neg (by decide), if_pos rfl, if_pos rfl]
  unfold mWrongs
  dsimp only
  generalize hlo : (if b < 0 then a else if a ≤ b then a else b) = lo
  generalize hot : (if b < 0 then b else if a ≤ b then b else a) = ot
  have ht : trN k a b = (k, lo, ot) := by unfold trN; rw [hlo, hot]
  rw [ht]
  by_cases c1 : u.1 49 = 0
  · rw [if_pos c1, hw]; exact best_new h hk (Or.inl c1)
  · rw [if_neg c1]
    have hz : ¬ (wr3 u).1 = 0 := c1
    by_cases c2 : k < u.1 49
    · rw [if_pos c2, hw]; exact best_new h hk (Or.inr (Or.inl (by rw [i32_lt] at c2; exact c2)))
    · rw [if_neg c2]
      by_cases c3 : k = u.1 49
      · rw [if_pos c3]
        by_cases c4 : lo < u.1 50
        · rw [if_pos c4, hw]; exact best_new h hk (Or.inr (Or.inr ⟨by rw [c3]; rfl, Or.inl (by rw [i32_lt] at c4; exact c4)⟩))
        · rw [if_neg c4]
          by_cases c5 : lo = u.1 50
          · rw [if_pos c5]
            by_cases c6 : u.1 51 ≤ ot
            · rw [if_pos c6]; exact best_old h hz (Or.inr ⟨by rw [c3]; rfl, Or.inr ⟨by rw [c5]; rfl, by rw [i32_le] at c6; exact c6⟩⟩)
            · rw [if_neg c6, hw]; exact best_new h hk (Or.inr (Or.inr ⟨by rw [c3]; rfl, Or.inr ⟨by rw [c5]; rfl, by rw [i32_le] at c6; show ot.toInt ≤ (u.1 51).toInt; omega⟩⟩))
          · rw [if_neg c5]; exact best_old h hz (Or.inr ⟨by rw [c3]; rfl, Or.inl (i32n c4 c5)⟩)
      · rw [if_neg c3]; exact best_old h hz (Or.inl (i32n c2 c3))
theorem d_inj {q d u z f} (h : rIs q d u z f) {i j : Nat} (hi : i < (u.1 3).toNatClampNeg) (hj : j < (u.1 3).toNatClampNeg) (e : d (2000 + i) = d (2000 + j)) : i = j := Classical.byContradiction fun n => nO_ne (h.2 i hi).1 (h.2 j hj).1 (by omega) e
theorem nI_inj2 {a b : Nat} (ha : a < 2 ^ 31) (hb : b < 2 ^ 31) (e : nI a = nI b) : a = b := by rw [← nI_clamp ha, ← nI_clamp hb, e]
def hnP (u : mS) (i0 j : Nat) : Prop := u.2 4 j = 5 ∧ u.2 9 j = nI i0
theorem w80i {u : mS} {k : Nat → Int32} (h : bw (k 0) 0 80 = true) (hk : k 0 = u.1 3) : (u.1 3).toNatClampNeg ≤ 80 := by
  rw [hk] at h
  obtain ⟨c1, c2, c3⟩ := nI_of_bw h
  have e : (80 : Int32).toInt = 80 := rfl
  omega
set_option maxHeartbeats 4000000 in
set_option maxRecDepth 100000 in
theorem y_hasNotice_l {p : Program} {l : Launch} {e : Env} {R : Room} {s : State} {m : MethodId} {args : Array Value} {below : List Frame} {meth : Method} {c : Code} {Q : State → Prop} {cells slots : Nat} {dC : Nat → ClassId} {dI : Nat → Nat → Nat} {q : Nat → ClassId} {h0 : Nat} {d : Nat → Nat} {k : Nat → Int32} {z : gS} {f : xF} {H : Heap} {locs : List Loc} (hI : xI q h0 d k z f) (hx : p.tables.exec = Jvm.exec) (hb : c.code = cX11_hasNotice) (hml : c.maxLocals = 5) (hts : ∀ w ∈ wsX11_hasNotice, w.before args s = true) (hown : s.vm.findClass RX11 = some m.cls) (hN : NN s) (hXN : XN s) (hK : va_K (dC, dI) vwCl (xT q) s) (hP : va_P (dC, dI) vwCl (va_pl z.1 f) H) {u : mS} (hrp : rep q d u z f) (hk0 : k 0 = u.1 3) {K : Nat} (hK8 : K ≤ 80) (eK : k 0 = nI K) (eKn : (u.1 3).toNatClampNeg = K) {i0 : Nat} (hi0 : i0 < (u.1 3).toNatClampNeg) (kx48 : ∀ (ls : Array Slot), (∀ j, j < K → ¬ hnP u i0 j) → lv_has ls 5 [(0, .ref h0), (1, .ref (d (2000 + i0)))] → W p l e R s m args below meth c H locs cells slots Q (F0 m 48 ls [])) (kx40 : ∀ (ls : Array Slot), (∃ j, j < (u.1 3).toNatClampNeg ∧ hnP u i0 j) → lv_has ls 5 [(0, .ref h0), (1, .ref (d (2000 + i0)))] → W p l e R s m args below meth c H locs cells slots Q (F0 m 40 ls [])) : ∀ (kk i : Nat) (ls : Array Slot), i ≤ K → K - i < kk → (∀ j, j < i → ¬ hnP u i0 j) → lv_has ls 5 [(2, .int (nI i)), (0, .ref h0), (1, .ref (d (2000 + i0)))] → W p l e R s m args below meth c H locs cells slots Q (F0 m 2 ls []) := by
  intro kk
  induction kk with
  | zero => intro i ls h1 h2; exact absurd h2 (Nat.not_lt_zero _)
  | succ kk ih =>
    intro i ls hi hkk hg hl
    refine lv_iload_n hx hb dX11_hasNotice_2 rfl (lv_at hl 0 rfl) ?_
    refine lv_aload_n hx hb dX11_hasNotice_3 rfl (lv_at hl 1 rfl) ?_
    obtain ⟨kk_1, hk_2⟩ := pl_at hI.2.1.1.1 hI.2.2.2.1.1
    refine va_get (D := (dC, dI)) (ci := 10) (v := .int (k 0)) (C := RX11) (T := TX11) (N := 9) hx hb hts (by decide +kernel) hown hK hP kk_1 hk_2 rfl 3 (by decide) (hts (.fieldLink RX11 24 "PageOne" "itemCount" "I") (by decide +kernel)) (fun _ h9 => h9) rfl dX11_hasNotice_4 ?_
    refine lv_topi (fun y_3 ey_3 => ?_)
    obtain rfl : y_3 = (nI K) := ey_3.trans (eK)
    refine lv_icmp_ge (tgt := 48) hx hb dX11_hasNotice_7 (by decide) (fun c_4 => ?_) (fun c_4 => ?_)
    ·
      have hie : i = K := lp_eq rfl (by omega) hi c_4
      exact kx48 ls (by rw [← hie]; exact hg) (lv_sub hl [1, 2] rfl)
    ·
      have hlt : i < K := lp_lt rfl (by omega) hi c_4
      refine lv_aload_n hx hb dX11_hasNotice_10 rfl (lv_at hl 1 rfl) ?_
      obtain ⟨kk_5, hk_6⟩ := pl_at hI.2.1.1.1 hI.2.2.2.1.1
      refine va_get (D := (dC, dI)) (ci := 10) (v := .ref (d 2)) (C := RX11) (T := TX11) (N := 9) hx hb hts (by decide +kernel) hown hK hP kk_5 hk_6 rfl 2 (by decide) (hts (.fieldLink RX11 20 "PageOne" "items" "[LPageOne$Item;") (by decide +kernel)) (fun _ h9 => h9) rfl dX11_hasNotice_11 ?_
      refine lv_iload_n hx hb dX11_hasNotice_14 rfl (lv_at hl 0 rfl) ?_
      obtain ⟨g_7, hs_8, hn_9, hg_10⟩ := x_itm hI
      obtain ⟨kk_11, hk_12⟩ := pl_at hI.2.1.2.2.2.1.1 hs_8
      refine va_aldq hx hb hK hP kk_11 3 hk_12 rfl (vp_in_nI (by omega) (by decide)) dX11_hasNotice_15 ?_
      obtain ⟨b_13, hg_14⟩ := hn_9 ((nI i) : Int32).toNatClampNeg (by rw [eK, nI_clamp (by omega), nI_clamp (by omega)]; exact hlt)
      have ht_15 := hg_10 ((nI i) : Int32).toNatClampNeg (vlt (vp_in_nI (by omega) (by decide))) b_13 hg_14
      rw [hg_14]
      refine W.eq (g2 := F0 m 16 ls [.ref b_13]) rfl ?_
      have hb_16 := rI_at hrp.2.2.1 hs_8 (by rw [eKn]; exact hlt) (by rw [nI_clamp (by omega)] at hg_14; exact hg_14)
      subst hb_16
      obtain ⟨rs_17, n_18, g_19, fg_20, hit_21, hs_22, hpa_23, hps_24, h1_25, h6_26, hcb_27, hpl_28, hlg_29, hnn_30, hfa_31, hfs_32, hfe_33, hrs_34, hkt_35⟩ := it_all hI hrp.2.2.1 (by rw [eKn]; exact hlt)
      refine lv_astore (lv' := [(4, .ref (d (2000 + i))), (2, .int (nI i)), (0, .ref h0), (1, .ref (d (2000 + i0)))]) hx hb dX11_hasNotice_16 hl (by decide) rfl (fun ls hl => ?_)
      refine lv_aload hx hb dX11_hasNotice_18 (lv_at hl 0 rfl) ?_
      rcases Classical.em (tg z (d (2000 + i)) 12) with ht9 | ht9
      ·
        have ht_36 := ht9
        have hkd_38 : u.2 4 i = 5 := (kT_k (kd_05 hrp.2.2.1 (by rw [eKn]; exact hlt)).1 (kd_05 hrp.2.2.1 (by rw [eKn]; exact hlt)).2).2.2.2.2.2 (hkt_35.symm.trans ht_36.2)
        obtain ⟨o_59, hx_49, hx_50, hx_51⟩ := hrs_34.2.2.2.2.2 hkd_38
        have hs_58 : f (d (2000 + i)) = .inr (4, [.int (nI i), .int (u.2 4 i), .ref (d (3000 + i)), .int (u.2 22 i), .ref (d (4000 + i)), .ref (d (2000 + o_59)), .int (u.2 8 i)]) := by rw [hs_22, ht_36.2, hx_51]; rfl
        have hit_60 := rI_itm hrp.2.2.1 hx_49
        obtain ⟨kk_61, hk_62⟩ := pl_at ht_36.1 hs_58
        refine va_instS hx hb hown (hts (.classLink RX11 119 RX5) (by decide +kernel)) (hK.1 4 (RX5, TX5, 7) rfl).2 (va_recv hK hP (ci := 4) (q0 := kk_61) rfl hk_62) dX11_hasNotice_20 ?_
        refine lv_if_eq (tgt := 42) hx hb dX11_hasNotice_23 (by decide) (fun c_63 => absurd c_63 (by decide)) (fun c_63 => ?_)
        refine lv_aload hx hb dX11_hasNotice_26 (lv_at hl 0 rfl) ?_
        obtain ⟨kk_64, hk_65⟩ := pl_at ht_36.1 hs_58
        refine va_castS hx hb hown (hts (.classLink RX11 119 RX5) (by decide +kernel)) (hK.1 4 (RX5, TX5, 7) rfl).2 (va_recv hK hP (ci := 4) (q0 := kk_64) rfl hk_65) dX11_hasNotice_28 ?_
        refine lv_astore_n (lv' := [(3, .ref (d (2000 + i))), (4, .ref (d (2000 + i))), (2, .int (nI i)), (0, .ref h0), (1, .ref (d (2000 + i0)))]) hx hb dX11_hasNotice_31 rfl hl (by decide) rfl (fun ls hl => ?_)
        refine lv_aload_n hx hb dX11_hasNotice_32 rfl (lv_at hl 0 rfl) ?_
        obtain ⟨kk_66, hk_67⟩ := pl_at ht_36.1 hs_58
        refine va_get (D := (dC, dI)) (ci := 4) (v := .ref (d (2000 + o_59))) (C := RX5) (T := TX5) (N := 7) hx hb hts (by decide +kernel) hown hK hP kk_66 hk_67 rfl 5 (by decide) (hts (.fieldLink RX11 288 "PageOne$Notice" "mended" "LPageOne$Item;") (by decide +kernel)) (fun _ h9 => h9) rfl dX11_hasNotice_33 ?_
        refine lv_aload_n hx hb dX11_hasNotice_36 rfl (lv_at hl 4 rfl) ?_
        refine lv_acmp_ne (rx := some (d (2000 + o_59))) (ry := some (d (2000 + i0))) (tgt := 42) hx hb dX11_hasNotice_37 (by decide) (fun c_68 => ?_) (fun c_68 => ?_)
        ·
          refine lv_iinc (v := (nI (i + 1))) (lv' := [(2, .int (nI (i + 1))), (3, .ref (d (2000 + i))), (4, .ref (d (2000 + i))), (0, .ref h0), (1, .ref (d (2000 + i0)))]) hx hb dX11_hasNotice_42 hl (k := 2) rfl (nI_1 i) (by decide) rfl (fun ls hl => ?_)
          refine lv_goto (tgt := 2) hx hb dX11_hasNotice_45 (by decide) ?_
          exact ih (i + 1) ls (by omega) (by omega) (fun j hj => by rcases Nat.lt_succ_iff_lt_or_eq.mp hj with h9 | h9; exact hg j h9; subst h9; exact fun h8 => c_68 (by rw [nI_inj2 (by have := w80i hI.1.1 hk0; omega) (by have := w80i hI.1.1 hk0; omega) (hx_50.symm.trans h8.2)])) (lv_sub hl [0, 3, 4] rfl)
        ·
          exact kx40 ls ⟨i, by rw [eKn]; exact hlt, hkd_38, by rw [hx_50, d_inj hrp.2.2.1 hx_49 hi0 (Option.some.inj c_68)]⟩ (lv_sub hl [3, 4] rfl)
      ·
        have hn_37 := ht9
        have hkd_38 : ¬ u.2 4 i = 5 := fun e9 => ht9 ⟨hit_21.1, by rw [hkt_35, e9]; rfl⟩
        refine w_then (F0 m 23 ls [.int 0]) (fun hgo => ?_) ?_
        ·
          rcases x_tag hit_21 with ht8 | ht8 | ht8 | ht8 | ht8 | ht8
          ·
            obtain ⟨nu_69, kd_70, cn_71, pa_72, fa_73, l_74, m_75, hs_76, hs_77, hs_78, hs_79⟩ := x_ifl hI ht8
            obtain ⟨kk_80, hk_81⟩ := pl_at ht8.1 hs_76
            exact va_instNo hx hb hown (hts (.classLink RX11 119 RX5) (by decide +kernel)) hXN.n_X2_X5 (va_recv hK hP (ci := 2) (q0 := kk_80) rfl hk_81) dX11_hasNotice_20 hgo
          ·
            obtain ⟨nu_82, kd_83, cn_84, pa_85, fa_86, o_87, w_88, y_89, hs_90, hs_91, hs_92, hs_93, hq_94⟩ := x_ihd hI ht8
            obtain ⟨kk_95, hk_96⟩ := pl_at ht8.1 hs_90
            exact va_instNo hx hb hown (hts (.classLink RX11 119 RX5) (by decide +kernel)) hXN.n_X3_X5 (va_recv hK hP (ci := 3) (q0 := kk_95) rfl hk_96) dX11_hasNotice_20 hgo
          ·
            exact absurd ht8 ht9
          ·
            obtain ⟨nu_97, kd_98, cn_99, pa_100, fa_101, b_102, pr_103, sp_104, dy_105, hs_106, hs_107, hs_108, hs_109, hq_110, hq_111, hq_112⟩ := x_ipd hI ht8
            obtain ⟨kk_113, hk_114⟩ := pl_at ht8.1 hs_106
            exact va_instNo hx hb hown (hts (.classLink RX11 119 RX5) (by decide +kernel)) hXN.n_X6_X5 (va_recv hK hP (ci := 5) (q0 := kk_113) rfl hk_114) dX11_hasNotice_20 hgo
          ·
            obtain ⟨nu_115, kd_116, cn_117, pa_118, fa_119, ww_120, hh_121, sz_122, hs_123, hs_124, hs_125, hs_126, hq_127, hq_128, hq_129⟩ := x_ipi hI ht8
            obtain ⟨kk_130, hk_131⟩ := pl_at ht8.1 hs_123
            exact va_instNo hx hb hown (hts (.classLink RX11 119 RX5) (by decide +kernel)) hXN.n_X7_X5 (va_recv hK hP (ci := 6) (q0 := kk_130) rfl hk_131) dX11_hasNotice_20 hgo
          ·
            obtain ⟨nu_132, kd_133, cn_134, pa_135, fa_136, l_137, co_138, wd_139, nm_140, hs_141, hs_142, hs_143, hs_144, hq_145, hq_146, hq_147⟩ := x_ist hI ht8
            obtain ⟨kk_148, hk_149⟩ := pl_at ht8.1 hs_141
            exact va_instNo hx hb hown (hts (.classLink RX11 119 RX5) (by decide +kernel)) hXN.n_X10_X5 (va_recv hK hP (ci := 9) (q0 := kk_148) rfl hk_149) dX11_hasNotice_20 hgo
        ·
          refine lv_if_eq (tgt := 42) hx hb dX11_hasNotice_23 (by decide) (fun c_150 => ?_) (fun c_150 => absurd (by decide) c_150)
          refine lv_iinc (v := (nI (i + 1))) (lv' := [(2, .int (nI (i + 1))), (4, .ref (d (2000 + i))), (0, .ref h0), (1, .ref (d (2000 + i0)))]) hx hb dX11_hasNotice_42 hl (k := 1) rfl (nI_1 i) (by decide) rfl (fun ls hl => ?_)
          refine lv_goto (tgt := 2) hx hb dX11_hasNotice_45 (by decide) ?_
          exact ih (i + 1) ls (by omega) (by omega) (fun j hj => by rcases Nat.lt_succ_iff_lt_or_eq.mp hj with h9 | h9; exact hg j h9; subst h9; exact fun h8 => hkd_38 h8.1) (lv_sub hl [0, 2, 3] rfl)
set_option maxHeartbeats 4000000 in
set_option maxRecDepth 100000 in
theorem y_hasNotice (l : Launch) (dC : Nat → ClassId) (dI : Nat → Nat → Nat) (q : Nat → ClassId) (h0 : Nat) (d : Nat → Nat) (k : Nat → Int32) (z : gS) (f : xF) (hI : xI q h0 d k z f) (u : mS) (hrp : rep q d u z f) (hk0 : k 0 = u.1 3) (hk1 : k 1 = u.1 28) (hk2 : k 2 = u.1 38) (hk3 : k 3 = u.1 39) (i0 : Nat) (hi0 : i0 < (u.1 3).toNatClampNeg) : Met l yX11_hasNotice wsX11_hasNotice ({ frames := 0, cells := 0, slots := 0, locals := 0 }) (va_Pc [.ref h0, .ref (d (2000 + i0))] (PX dC dI (va_pl z.1 f) (xT q))) (vp_Si (fun r => (r = 0 ∧ ¬ mHasN u (nI i0)) ∨ (r = 1 ∧ mHasN u (nI i0)))) 0 0 (fun _ => False) := by
  refine Met.ofW (cc := cX11_hasNotice) (maxL := 5) (ret := (some .boolean)) (by decide) rfl ?_
  intro p e s m args below meth c s₁ B hml hv
  obtain ⟨rfl, ⟨hP, hK, hN⟩, hXN⟩ := hv
  have hx := B.exec
  have hb := B.bytes
  have hr := B.returns
  have hts := atoms_spec (ws := wsX11_hasNotice) B.pre
  have hown : s.vm.findClass RX11 = some m.cls := findClass_of_methodNamed B.named
  have hlocks := B.notSynchronized
  have hl := lv_entry ([.ref h0, .ref (d (2000 + i0))]) (n := 5) (Nat.le_of_ble_eq_true rfl)
  rw [lg_entry_eq]
  generalize (lg_sl ([.ref h0, .ref (d (2000 + i0))]) ++ List.replicate (5 - (lg_sl ([.ref h0, .ref (d (2000 + i0))])).length) Slot.unset).toArray = ls at hl ⊢
  have hl : lv_has ls 5 [(0, .ref h0), (1, .ref (d (2000 + i0)))] := hl
  refine lv_iconst (v := 0) hx hb dX11_hasNotice_0 (by decide) ?_
  refine lv_istore_n (lv' := [(2, .int 0), (0, .ref h0), (1, .ref (d (2000 + i0)))]) hx hb dX11_hasNotice_1 rfl hl (by decide) rfl (fun ls hl => ?_)
  obtain ⟨K, hK8, -, eK⟩ := exN hI.1.1 (by decide)
  have h80 : (80 : Int32).toInt = 80 := rfl
  have eKn : (u.1 3).toNatClampNeg = K := by rw [← hk0, eK, nI_clamp (by omega)]
  refine y_hasNotice_l (K := K) hI hx hb hml hts hown hN hXN hK hP hrp hk0 (by omega) eK eKn hi0 (fun ls hno hl => ?_) (fun ls hye hl => ?_) (K + 1) 0 ls (Nat.zero_le _) (by omega) (fun j hj => absurd hj (Nat.not_lt_zero _)) (lv_sub hl [0, 1, 2] rfl)
  ·
    refine lv_iconst (v := 0) hx hb dX11_hasNotice_48 (by decide) ?_
    exact W.zret (v := 0) hx hb hr (by decide) (fun t ht hW => ⟨_, rfl, (Or.inl ⟨rfl, fun ⟨j, h1, h2⟩ => hno j (by omega) h2⟩), ht⟩) (fun q h => absurd h List.not_mem_nil) dX11_hasNotice_49
  ·
    refine lv_iconst (v := 1) hx hb dX11_hasNotice_40 (by decide) ?_
    exact W.zret (v := 1) hx hb hr (by decide) (fun t ht hW => ⟨_, rfl, (Or.inr ⟨rfl, hye⟩), ht⟩) (fun q h => absurd h List.not_mem_nil) dX11_hasNotice_41
/-- plate p has no cell of item i -/
def plN (u : mS) (p i : Nat) : Prop := ∀ c l, c < 8 → l < (u.2 43 (8 * p + c)).toNatClampNeg → ¬ u.2 44 (480 * p + (60 * c + l)) = nI i
/-- the first cell of item i on plate p -/
def plF (u : mS) (p i c l : Nat) : Prop := c < 8 ∧ l < (u.2 43 (8 * p + c)).toNatClampNeg ∧ u.2 44 (480 * p + (60 * c + l)) = nI i ∧ ∀ c' l', c' < 8 → l' < (u.2 43 (8 * p + c')).toNatClampNeg → (c' < c ∨ (c' = c ∧ l' < l)) → ¬ u.2 44 (480 * p + (60 * c' + l')) = nI i
/-- what is told of each plate's items is its first cell -/
def plI (u : mS) : Prop := ∀ p, p < 12 → u.2 40 p = 1 → ∀ i, i < 80 → (u.2 45 (80 * p + i) = (-1) ∧ plN u p i) ∨ ∃ c l, u.2 45 (80 * p + i) = nI c ∧ u.2 46 (80 * p + i) = nI l ∧ plF u p i c l
def fiI (u : mS) : Prop := ∀ i, i < 80 → ¬ u.2 47 (5 * i) < (-1)
theorem plF_u {u : mS} {p i c l c2 l2 : Nat} (h : plF u p i c l) (h2 : plF u p i c2 l2) : c = c2 ∧ l = l2 := by
  obtain ⟨a1, a2, a3, a4⟩ := h
  obtain ⟨b1, b2, b3, b4⟩ := h2
  have x1 : ¬ (c2 < c ∨ (c2 = c ∧ l2 < l)) := fun e => a4 c2 l2 b1 b2 e b3
  have x2 : ¬ (c < c2 ∨ (c = c2 ∧ l < l2)) := fun e => b4 c l a1 a2 e a3
  omega
theorem plFN {u : mS} {p i c l : Nat} (h : plF u p i c l) (h2 : plN u p i) : False := h2 c l h.1 h.2.1 h.2.2.1
/-- a sheet's cell as its rows have it -/
theorem shAt_in {gl gc r0 r1 : Nat → Int32} {p c l : Nat} (hp : p < 12) (hl : eqR 8 gl r0 (8 * p)) (hc : eqR 480 gc r1 (480 * p)) (hb : ∀ j, j < 8 → bw (gl j) 0 60 = true) (h8 : c < 8) (hlt : l < (r0 (8 * p + c)).toNatClampNeg) : shAt gl gc (nI c) (nI l) = r1 (480 * p + (60 * c + l)) ∧ l < 60 := by
  have hb1 := hb c h8
  obtain ⟨b1, b2, b3⟩ := nI_of_bw hb1
  have h60 : (60 : Int32).toInt = 60 := rfl
  rw [hl c h8] at b1 b2 b3
  have h6 : l < 60 := by omega
  have b7 : bw (nI c) 0 7 = true := bw7 h8
  have hbl : bw (nI l) 0 (r0 (8 * p + c) - 1) = true := by
    rw [b1]
    exact bw_iff.mpr ⟨by rw [nI_toInt (by omega)]; exact Int.natCast_nonneg _, by
      have e1 : (nI (r0 (8 * p + c)).toNatClampNeg - 1) = nI ((r0 (8 * p + c)).toNatClampNeg - 1) := by
        have := nI_add ((r0 (8 * p + c)).toNatClampNeg - 1) 1
        rw [show (r0 (8 * p + c)).toNatClampNeg - 1 + 1 = (r0 (8 * p + c)).toNatClampNeg from by omega] at this
        rw [← this]
        show nI _ + 1 - 1 = _
        exact Int32.add_sub_cancel _ _
      rw [e1, nI_toInt (by omega), nI_toInt (by omega)]; omega⟩
  have e1 : (nI c * 60 + nI l).toNatClampNeg = 60 * c + l := by rw [show (60 : Int32) = nI 60 from rfl, pk_mul, nI_add, nI_clamp (by omega)]; omega
  unfold shAt
  rw [if_pos b7, nI_clamp (by omega), hl c h8, if_pos hbl, e1]
  exact ⟨hc _ (by omega), h6⟩
theorem sp_pl {gl gc : Nat → Int32} {u : mS} {p i : Nat} {r : Int32} (hp : p < 12) (hl : eqR 8 gl (u.2 43) (8 * p)) (hc : eqR 480 gc (u.2 44) (480 * p)) (hb : ∀ j, j < 8 → bw (gl j) 0 60 = true) (h : shSp gl gc (nI i) r) : (r = -1 ∧ plN u p i) ∨ ∃ c l, l < 60 ∧ r = nI c * 60 + nI l ∧ plF u p i c l := by
  have eg : ∀ c, c < 8 → gl (nI c).toNatClampNeg = u.2 43 (8 * p + c) := fun c h8 => by rw [nI_clamp (by omega)]; exact hl c h8
  rcases h with ⟨e, hn⟩ | ⟨c, l, h8, hlt, e, hv, hn⟩
  · refine Or.inl ⟨e, fun c l h8 hlt hv => hn c l h8 (by rw [eg c h8]; exact hlt) (Or.inl h8) ?_⟩
    rw [(shAt_in hp hl hc hb h8 hlt).1]; exact hv
  · rw [eg c h8] at hlt
    have h1 := shAt_in hp hl hc hb h8 hlt
    refine Or.inr ⟨c, l, h1.2, e, h8, hlt, by rw [← h1.1]; exact hv, fun c' l' h8' hlt' ho hv' => hn c' l' h8' (by rw [eg c' h8']; exact hlt') ho ?_⟩
    rw [(shAt_in hp hl hc hb h8' hlt').1]; exact hv'
/-- spotOf on a plate tells what the reference has of it -/
def spR (u : mS) (i p : Nat) (s : Int32) : Prop := ∃ c l, c < 8 ∧ l < 60 ∧ s = nI (60 * c + l) ∧ u.2 45 (80 * p + i) = nI c ∧ u.2 46 (80 * p + i) = nI l
theorem sp_val {gl gc : Nat → Int32} {u : mS} {p i : Nat} {r : Int32} (hp : p < 12) (hpl : plI u) (h40 : u.2 40 p = 1) (hi : i < 80) (hl : eqR 8 gl (u.2 43) (8 * p)) (hc : eqR 480 gc (u.2 44) (480 * p)) (hb : ∀ j, j < 8 → bw (gl j) 0 60 = true) (h : shSp gl gc (nI i) r) : (r = -1 ∧ u.2 45 (80 * p + i) = (-1)) ∨ (¬ r = -1 ∧ spR u i p r) := by
  rcases sp_pl hp hl hc hb h with ⟨e, hn⟩ | ⟨c, l, l6, e, hf⟩
  · rcases hpl p hp h40 i hi with ⟨a, -⟩ | ⟨c, l, -, -, hf⟩
    · exact Or.inl ⟨e, a⟩
    · exact absurd hn (fun x => plFN hf x)
  · rcases hpl p hp h40 i hi with ⟨-, a⟩ | ⟨c2, l2, e1, e2, hf2⟩
    · exact absurd a (fun x => plFN hf x)
    · obtain ⟨rfl, rfl⟩ := plF_u hf hf2
      have er : r = nI (60 * c + l) := by rw [e, show (60 : Int32) = nI 60 from rfl, pk_mul, nI_add, Nat.mul_comm c 60]
      have h8 := hf.1
      refine Or.inr ⟨fun x => ?_, c, l, h8, l6, er, e1, e2⟩
      have := congrArg Int32.toInt (er.symm.trans x)
      rw [nI_toInt (by omega)] at this
      have h1 : (-1 : Int32).toInt = -1 := rfl
      omega
theorem q60 : ∀ c : Fin 8, ∀ l : Fin 60, nI (60 * c.1 + l.1) / 60 = nI c.1 ∧ nI (60 * c.1 + l.1) - nI (60 * c.1 + l.1) / 60 * 60 = nI l.1 := by decide +kernel
theorem e80 {p i : Nat} (hp : p < 12) (hi : i < 80) : (80 * nI p + nI i).toNatClampNeg = 80 * p + i := by rw [show (80 : Int32) = nI 80 from rfl, pk_mul, nI_add, nI_clamp (by omega)]
theorem prC_f {u : mS} {i p : Nat} (hp : p < 12) (hi : i < 80) (h : ¬ mNow u (nI p) = true ∨ u.2 45 (80 * p + i) = (-1)) : prC u (nI i) p = false := by
  unfold prC
  rcases h with h | h
  · cases hm : mNow u (nI p) with
    | false => rfl
    | true => exact absurd hm h
  · rw [e80 hp hi, h]; cases mNow u (nI p) <;> rfl
theorem prC_t {u : mS} {i p : Nat} {s : Int32} (hp : p < 12) (hi : i < 80) (h : mNow u (nI p) = true) (hs : spR u i p s) : prC u (nI i) p = true := by
  obtain ⟨c, l, c8, -, -, e, -⟩ := hs
  unfold prC
  rw [e80 hp hi, h, e]
  have : ¬ nI c < 0 := fun x => by rw [i32_lt, nI_toInt (by omega), i0] at x; omega
  rw [decide_eq_false this]; rfl
/-- what is told of a plate's cell -/
def mPF (u : mS) (p0 p1 p2 : Int32) : Int32 := if p2 = 0 then u.2 41 p0.toNatClampNeg else if p2 = 1 then u.2 42 p0.toNatClampNeg else if p2 = 2 then p0 else if p2 = 3 then p1 / 60 else if p2 = 4 then p1 - p1 / 60 * 60 else (-1)
theorem mPF_v {u : mS} {i p : Nat} {s w : Int32} (hp : p < 12) (hi : i < 80) (hn : frP u (nI p)) (hs : spR u i p s) (hw : bw w 0 4 = true) : mPF u (nI p) s w = mPrV u (nI i) w (nI p) := by
  obtain ⟨c, l, c8, l6, es, e1, e2⟩ := hs
  have hq := q60 ⟨c, c8⟩ ⟨l, l6⟩
  rw [← es] at hq
  unfold mPF mPrV
  rw [e80 hp hi, e1, e2, hq.2, hq.1, hn.2.1, hn.2.2]
  by_cases w0 : w = 0
  · rw [if_pos w0, if_pos w0]
  · rw [if_neg w0, if_neg w0]
    by_cases w1 : w = 1
    · rw [if_pos w1, if_pos w1]
    · rw [if_neg w1, if_neg w1]
      by_cases w2 : w = 2
      · rw [if_pos w2, if_pos w2]
      · rw [if_neg w2, if_neg w2]
        by_cases w3 : w = 3
        · rw [if_pos w3, if_pos w3]
        · rw [if_neg w3, if_neg w3]
          have w4 : w = 4 := by
            have h1 := bw_iff.mp hw
            have h4 : (4 : Int32).toInt = 4 := rfl
            rw [i0] at h1
            have n0 : w.toInt ≠ 0 := fun e => w0 (sw_in e.symm rfl)
            have n1 : w.toInt ≠ 1 := fun e => w1 (sw_in e.symm rfl)
            have n2 : w.toInt ≠ 2 := fun e => w2 (sw_in e.symm rfl)
            have n3 : w.toInt ≠ 3 := fun e => w3 (sw_in e.symm rfl)
            exact sw_in (k := 4) (by omega) rfl
          rw [if_pos w4]
set_option maxHeartbeats 4000000 in
set_option maxRecDepth 100000 in
theorem y_plateFact (l : Launch) (dC : Nat → ClassId) (dI : Nat → Nat → Nat) (q : Nat → ClassId) (h0 : Nat) (d : Nat → Nat) (k : Nat → Int32) (z : gS) (f : xF) (hI : xI q h0 d k z f) (p0 p1 p2 : Int32) (hpl : xPl q d z f p0) (u : mS) (hrp : rep q d u z f) : Met l yX11_plateFact wsX11_plateFact ({ frames := 0, cells := 0, slots := 0, locals := 0 }) (va_Pc [.ref h0, .int p0, .int p1, .int p2] (PX dC dI (va_pl z.1 f) (xT q))) (vp_Si (fun r => r = mPF u p0 p1 p2)) 0 0 (fun _ => False) := by
  refine Met.ofW (cc := cX11_plateFact) (maxL := 4) (ret := (some .int)) (by decide) rfl ?_
  intro p e s m args below meth c s₁ B hml hv
  obtain ⟨rfl, ⟨hP, hK, hN⟩, hXN⟩ := hv
  have hx := B.exec
  have hb := B.bytes
  have hr := B.returns
  have hts := atoms_spec (ws := wsX11_plateFact) B.pre
  have hown : s.vm.findClass RX11 = some m.cls := findClass_of_methodNamed B.named
  have hlocks := B.notSynchronized
  have hl := lv_entry ([.ref h0, .int p0, .int p1, .int p2]) (n := 4) (Nat.le_of_ble_eq_true rfl)
  rw [lg_entry_eq]
  generalize (lg_sl ([.ref h0, .int p0, .int p1, .int p2]) ++ List.replicate (4 - (lg_sl ([.ref h0, .int p0, .int p1, .int p2])).length) Slot.unset).toArray = ls at hl ⊢
  have hl : lv_has ls 4 [(0, .ref h0), (1, .int p0), (2, .int p1), (3, .int p2)] := hl
  obtain ⟨hbw0, gp0, bp0, hp01, hp02, hp03⟩ := hpl
  refine lv_iload_n hx hb dX11_plateFact_0 rfl (lv_at hl 3 rfl) ?_
  rcases Classical.em (p2 = 0) with s_1 | s_1
  ·
    subst s_1
    refine lv_tableIn (tgt := 36) (off := 35) hx hb dX11_plateFact_1 (by decide) (by decide) (by decide) (by decide) ?_
    refine lv_aload_n hx hb dX11_plateFact_36 rfl (lv_at hl 0 rfl) ?_
    obtain ⟨kk_2, hk_3⟩ := pl_at hI.2.1.1.1 hI.2.2.2.1.1
    refine va_get (D := (dC, dI)) (ci := 10) (v := .ref (d 1)) (C := RX11) (T := TX11) (N := 9) hx hb hts (by decide +kernel) hown hK hP kk_2 hk_3 rfl 1 (by decide) (hts (.fieldLink RX11 15 "PageOne" "plates" "[LPageOne$Sheet;") (by decide +kernel)) (fun _ h9 => h9) rfl dX11_plateFact_37 ?_
    refine lv_iload_n hx hb dX11_plateFact_40 rfl (lv_at hl 1 rfl) ?_
    obtain ⟨kk_4, hk_5⟩ := pl_at hI.2.1.2.2.1.1 hp01
    refine va_aldq hx hb hK hP kk_4 2 hk_5 rfl (vin hbw0 (by decide)) dX11_plateFact_41 ?_
    rw [hp02]
    refine W.eq (g2 := F0 m 42 ls [.ref bp0]) rfl ?_
    obtain ⟨la_6, ca_7, m_8, dd_9, ii_10, hs_11, ht_12, ht_13⟩ := x_sh hI hp03
    obtain ⟨kk_14, hk_15⟩ := pl_at hp03.1 hs_11
    refine va_get (D := (dC, dI)) (ci := 8) (v := .int dd_9) (C := RX9) (T := TX9) (N := 5) hx hb hts (by decide +kernel) hown hK hP kk_14 hk_15 rfl 3 (by decide) (hts (.fieldLink RX11 210 "PageOne$Sheet" "day" "I") (by decide +kernel)) (fun _ h9 => h9) rfl dX11_plateFact_42 ?_
    exact W.iret (v := dd_9) hx hb hr (fun t ht hW => ⟨_, rfl, (by unfold mPF; rw [if_pos rfl]; exact (((rp_pl hrp.2.1 hp01 (clp hbw0)).2 _ hp02).2.2 _ _ _ _ _ hs_11).1), ht⟩) (fun q h => absurd h List.not_mem_nil) dX11_plateFact_45
  ·
    rcases Classical.em (p2 = 1) with s_16 | s_16
    ·
      subst s_16
      refine lv_tableIn (tgt := 46) (off := 45) hx hb dX11_plateFact_1 (by decide) (by decide) (by decide) (by decide) ?_
      refine lv_aload_n hx hb dX11_plateFact_46 rfl (lv_at hl 0 rfl) ?_
      obtain ⟨kk_17, hk_18⟩ := pl_at hI.2.1.1.1 hI.2.2.2.1.1
      refine va_get (D := (dC, dI)) (ci := 10) (v := .ref (d 1)) (C := RX11) (T := TX11) (N := 9) hx hb hts (by decide +kernel) hown hK hP kk_17 hk_18 rfl 1 (by decide) (hts (.fieldLink RX11 15 "PageOne" "plates" "[LPageOne$Sheet;") (by decide +kernel)) (fun _ h9 => h9) rfl dX11_plateFact_47 ?_
      refine lv_iload_n hx hb dX11_plateFact_50 rfl (lv_at hl 1 rfl) ?_
      obtain ⟨kk_19, hk_20⟩ := pl_at hI.2.1.2.2.1.1 hp01
      refine va_aldq hx hb hK hP kk_19 2 hk_20 rfl (vin hbw0 (by decide)) dX11_plateFact_51 ?_
      rw [hp02]
      refine W.eq (g2 := F0 m 52 ls [.ref bp0]) rfl ?_
      obtain ⟨la_21, ca_22, m_23, dd_24, ii_25, hs_26, ht_27, ht_28⟩ := x_sh hI hp03
      obtain ⟨kk_29, hk_30⟩ := pl_at hp03.1 hs_26
      refine va_get (D := (dC, dI)) (ci := 8) (v := .int ii_25) (C := RX9) (T := TX9) (N := 5) hx hb hts (by decide +kernel) hown hK hP kk_29 hk_30 rfl 4 (by decide) (hts (.fieldLink RX11 213 "PageOne$Sheet" "edition" "I") (by decide +kernel)) (fun _ h9 => h9) rfl dX11_plateFact_52 ?_
      exact W.iret (v := ii_25) hx hb hr (fun t ht hW => ⟨_, rfl, (by unfold mPF; rw [if_neg (by decide), if_pos rfl]; exact (((rp_pl hrp.2.1 hp01 (clp hbw0)).2 _ hp02).2.2 _ _ _ _ _ hs_26).2.1), ht⟩) (fun q h => absurd h List.not_mem_nil) dX11_plateFact_55
    ·
      rcases Classical.em (p2 = 2) with s_31 | s_31
      ·
        subst s_31
        refine lv_tableIn (tgt := 56) (off := 55) hx hb dX11_plateFact_1 (by decide) (by decide) (by decide) (by decide) ?_
        refine lv_iload_n hx hb dX11_plateFact_56 rfl (lv_at hl 1 rfl) ?_
        exact W.iret (v := p0) hx hb hr (fun t ht hW => ⟨_, rfl, (by unfold mPF; rw [if_neg (by decide), if_neg (by decide), if_pos rfl]), ht⟩) (fun q h => absurd h List.not_mem_nil) dX11_plateFact_57
      ·
        rcases Classical.em (p2 = 3) with s_32 | s_32
        ·
          subst s_32
          refine lv_tableIn (tgt := 58) (off := 57) hx hb dX11_plateFact_1 (by decide) (by decide) (by decide) (by decide) ?_
          refine lv_iload_n hx hb dX11_plateFact_58 rfl (lv_at hl 2 rfl) ?_
          refine lv_bipush (v := 60) hx hb dX11_plateFact_59 (by decide) ?_
          refine lv_idiv hx hb dX11_plateFact_61 (by decide) ?_
          refine lv_topi (fun zr_33 ezr_33 => ?_)
          exact W.iret (v := zr_33) hx hb hr (fun t ht hW => ⟨_, rfl, (by unfold mPF; rw [if_neg (by decide), if_neg (by decide), if_neg (by decide), if_pos rfl]; exact ezr_33), ht⟩) (fun q h => absurd h List.not_mem_nil) dX11_plateFact_62
        ·
          rcases Classical.em (p2 = 4) with s_34 | s_34
          ·
            subst s_34
            refine lv_tableIn (tgt := 63) (off := 62) hx hb dX11_plateFact_1 (by decide) (by decide) (by decide) (by decide) ?_
            refine lv_iload_n hx hb dX11_plateFact_63 rfl (lv_at hl 2 rfl) ?_
            refine lv_bipush (v := 60) hx hb dX11_plateFact_64 (by decide) ?_
            refine lv_irem hx hb dX11_plateFact_66 (by decide) ?_
            refine lv_topi (fun zr_35 ezr_35 => ?_)
            exact W.iret (v := zr_35) hx hb hr (fun t ht hW => ⟨_, rfl, (by unfold mPF; rw [if_neg (by decide), if_neg (by decide), if_neg (by decide), if_neg (by decide), if_pos rfl]; exact ezr_35), ht⟩) (fun q h => absurd h List.not_mem_nil) dX11_plateFact_67
          ·
            refine lv_tableOut (tgt := 68) hx hb dX11_plateFact_1 (sw_out4 s_1 s_16 s_31 s_32 s_34) (by decide) ?_
            refine lv_iconst (v := (-1)) hx hb dX11_plateFact_68 (by decide) ?_
            exact W.iret (v := (-1)) hx hb hr (fun t ht hW => ⟨_, rfl, (by unfold mPF; rw [if_neg s_1, if_neg s_16, if_neg s_31, if_neg s_32, if_neg s_34]), ht⟩) (fun q h => absurd h List.not_mem_nil) dX11_plateFact_69
set_option maxHeartbeats 4000000 in
set_option maxRecDepth 100000 in
theorem y_first_l {p : Program} {l : Launch} {e : Env} {R : Room} {s : State} {m : MethodId} {args : Array Value} {below : List Frame} {meth : Method} {c : Code} {Q : State → Prop} {cells slots : Nat} {dC : Nat → ClassId} {dI : Nat → Nat → Nat} {q : Nat → ClassId} {h0 : Nat} {d : Nat → Nat} {k : Nat → Int32} {z : gS} {f : xF} {H : Heap} {locs : List Loc} (hI : xI q h0 d k z f) (hx : p.tables.exec = Jvm.exec) (hb : c.code = cX11_firstPrinting) (hml : c.maxLocals = 5) (hts : ∀ w ∈ wsX11_firstPrinting, w.before args s = true) (hown : s.vm.findClass RX11 = some m.cls) (hN : NN s) (hXN : XN s) (hK : va_K (dC, dI) vwCl (xT q) s) (hRf : 4 ≤ R.frames) (hRl : 87 ≤ R.locals) (hRc : cells ≤ R.cells) (hRs : slots ≤ R.slots) (hP : va_P (dC, dI) vwCl (va_pl z.1 f) H) {u : mS} (hrp : rep q d u z f) (hk0 : k 0 = u.1 3) (hk2 : k 2 = u.1 38) (hk3 : k 3 = u.1 39) (hpi : plI u) {i0 : Nat} (hi0 : i0 < (u.1 3).toNatClampNeg) {p0 : Int32} (kx84 : ∀ (ls : Array Slot), (∀ j, j < 12 → prC u (nI i0) j = false) → lv_has ls 5 [(0, .ref h0), (1, .ref (d (2000 + i0))), (2, .int p0)] → W p l e R s m args below meth c H locs cells slots Q (F0 m 84 ls [])) (kx69 : ∀ (i9 : Nat) (s9 : Int32) (ls : Array Slot), xPl q d z f (nI i9) → (i9 < 12 ∧ (∀ j, j < i9 → prC u (nI i0) j = false) ∧ frP u (nI i9) ∧ spR u i0 i9 s9) → lv_has ls 5 [(3, .int (nI i9)), (4, .int s9), (0, .ref h0), (1, .ref (d (2000 + i0))), (2, .int p0)] → W p l e R s m args below meth c H locs cells slots Q (F0 m 69 ls [])) : ∀ (kk i : Nat) (ls : Array Slot), i ≤ 12 → 12 - i < kk → (∀ j, j < i → prC u (nI i0) j = false) → lv_has ls 5 [(3, .int (nI i)), (0, .ref h0), (1, .ref (d (2000 + i0))), (2, .int p0)] → W p l e R s m args below meth c H locs cells slots Q (F0 m 30 ls []) := by
  intro kk
  induction kk with
  | zero => intro i ls h1 h2; exact absurd h2 (Nat.not_lt_zero _)
  | succ kk ih =>
    intro i ls hi hkk hg hl
    obtain ⟨rs_1, n_2, g_3, fg_4, hit_5, hs_6, hpa_7, hps_8, h1_9, h6_10, hcb_11, hpl_12, hlg_13, hnn_14, hfa_15, hfs_16, hfe_17, hrs_18, hkt_19⟩ := it_all hI hrp.2.2.1 hi0
    have hi8 : i0 < 80 := by have := w80i hI.1.1 hk0; omega
    refine lv_iload_n hx hb dX11_firstPrinting_30 rfl (lv_at hl 0 rfl) ?_
    refine lv_bipush (v := 12) hx hb dX11_firstPrinting_31 (by decide) ?_
    refine lv_icmp_ge (tgt := 84) hx hb dX11_firstPrinting_33 (by decide) (fun c_20 => ?_) (fun c_20 => ?_)
    ·
      have hie : i = 12 := lp_eq rfl (by decide) hi c_20
      exact kx84 ls (by rw [← hie]; exact hg) (lv_sub hl [1, 2, 3] rfl)
    ·
      have hlt : i < 12 := lp_lt rfl (by decide) hi c_20
      refine lv_aload_n hx hb dX11_firstPrinting_36 rfl (lv_at hl 1 rfl) ?_
      refine lv_iload_n hx hb dX11_firstPrinting_37 rfl (lv_at hl 0 rfl) ?_
      obtain ⟨kk_21, hk_22⟩ := pl_at hI.2.1.1.1 hI.2.2.2.1.1
      refine vp_callSi (va_runV (As := [.int (nI i)]) (rest := []) ⟨hx, hb, hml, hown, hts⟩ (y_isFresh l dC dI q h0 d k z f hI (nI i) u hrp hk2 hk3) (cwV 1 hts gX11_firstPrinting_X11_isFresh rfl rfl rfl (by decide +kernel) ⟨Nat.le_trans (Nat.le_of_ble_eq_true rfl) hRf, Nat.le_trans (Nat.le_of_ble_eq_true rfl) hRl⟩) ⟨px_fb, va_recv hK hP (ci := 10) (q0 := kk_21) rfl hk_22, fun U hU hW => ⟨rfl, px_to hU hW hP hK hN hXN⟩⟩ rfl rfl hl.1 rfl (lv_room (Nat.le_of_ble_eq_true rfl)) dX11_firstPrinting_38 ⟨hRc, hRs⟩).run (fun r hw => ?_)
      rcases hw with ⟨hw, hpp_29⟩ | ⟨hw, hpp_29, hbw_28, gp_23, bp_24, hp_25, hp_26, hp_27⟩
      ·
        subst hw
        refine lv_if_eq (tgt := 60) hx hb dX11_firstPrinting_41 (by decide) (fun c_30 => ?_) (fun c_30 => absurd (by decide) c_30)
        refine lv_iconst (v := (-1)) hx hb dX11_firstPrinting_60 (by decide) ?_
        refine lv_istore (lv' := [(4, .int (-1)), (3, .int (nI i)), (0, .ref h0), (1, .ref (d (2000 + i0))), (2, .int p0)]) hx hb dX11_firstPrinting_61 hl (by decide) rfl (fun ls hl => ?_)
        refine lv_iload hx hb dX11_firstPrinting_63 (lv_at hl 0 rfl) ?_
        refine lv_iconst (v := (-1)) hx hb dX11_firstPrinting_65 (by decide) ?_
        refine lv_icmp_eq (tgt := 78) hx hb dX11_firstPrinting_66 (by decide) (fun c_31 => ?_) (fun c_31 => absurd (by decide) c_31)
        refine lv_iinc (v := (nI (i + 1))) (lv' := [(3, .int (nI (i + 1))), (4, .int (-1)), (0, .ref h0), (1, .ref (d (2000 + i0))), (2, .int p0)]) hx hb dX11_firstPrinting_78 hl (k := 1) rfl (nI_1 i) (by decide) rfl (fun ls hl => ?_)
        refine lv_goto (tgt := 30) hx hb dX11_firstPrinting_81 (by decide) ?_
        exact ih (i + 1) ls (by omega) (by omega) (fun j hj => by rcases Nat.lt_succ_iff_lt_or_eq.mp hj with h9 | h9; exact hg j h9; rw [h9]; exact prC_f hlt hi8 (Or.inl (fun h => hpp_29 ((frP_now (bw11 hlt) (rp_01 hrp.2.1 _ (by rw [nI_clamp (by omega)]; exact hlt))).mpr h)))) (lv_sub hl [0, 2, 3, 4] rfl)
      ·
        subst hw
        refine lv_if_eq (tgt := 60) hx hb dX11_firstPrinting_41 (by decide) (fun c_32 => absurd c_32 (by decide)) (fun c_32 => ?_)
        refine lv_aload_n hx hb dX11_firstPrinting_44 rfl (lv_at hl 1 rfl) ?_
        obtain ⟨kk_33, hk_34⟩ := pl_at hI.2.1.1.1 hI.2.2.2.1.1
        refine va_get (D := (dC, dI)) (ci := 10) (v := .ref (d 1)) (C := RX11) (T := TX11) (N := 9) hx hb hts (by decide +kernel) hown hK hP kk_33 hk_34 rfl 1 (by decide) (hts (.fieldLink RX11 15 "PageOne" "plates" "[LPageOne$Sheet;") (by decide +kernel)) (fun _ h9 => h9) rfl dX11_firstPrinting_45 ?_
        refine lv_iload_n hx hb dX11_firstPrinting_48 rfl (lv_at hl 0 rfl) ?_
        obtain ⟨kk_35, hk_36⟩ := pl_at hI.2.1.2.2.1.1 hp_25
        refine va_aldq hx hb hK hP kk_35 2 hk_36 rfl (vin hbw_28 (by decide)) dX11_firstPrinting_49 ?_
        rw [hp_26]
        refine W.eq (g2 := F0 m 50 ls [.ref bp_24]) rfl ?_
        refine lv_aload_n hx hb dX11_firstPrinting_50 rfl (lv_at hl 2 rfl) ?_
        obtain ⟨kk_37, hk_38⟩ := pl_at hit_5.1 hs_6
        refine w_then (F0 m 54 ls [.int (nI i0), .ref bp_24]) (fun hgo => ?_) ?_
        ·
          rcases x_tag hit_5 with ht9 | ht9 | ht9 | ht9 | ht9 | ht9
          ·
            rw [ht9.2] at hk_38
            exact va_get (D := (dC, dI)) (ci := 2) (v := .int (nI i0)) (C := RX2) (T := TX2) (N := 7) hx hb hts (by decide +kernel) hown hK hP kk_37 hk_38 rfl 0 (by decide) (hts (.fieldLink RX11 285 "PageOne$Item" "number" "I") (by decide +kernel)) (fun _ h9 => h9) rfl dX11_firstPrinting_51 hgo
          ·
            rw [ht9.2] at hk_38
            exact va_get (D := (dC, dI)) (ci := 3) (v := .int (nI i0)) (C := RX3) (T := TX3) (N := 8) hx hb hts (by decide +kernel) hown hK hP kk_37 hk_38 rfl 0 (by decide) (hts (.fieldLink RX11 285 "PageOne$Item" "number" "I") (by decide +kernel)) (fun _ h9 => h9) rfl dX11_firstPrinting_51 hgo
          ·
            rw [ht9.2] at hk_38
            exact va_get (D := (dC, dI)) (ci := 4) (v := .int (nI i0)) (C := RX5) (T := TX5) (N := 7) hx hb hts (by decide +kernel) hown hK hP kk_37 hk_38 rfl 0 (by decide) (hts (.fieldLink RX11 285 "PageOne$Item" "number" "I") (by decide +kernel)) (fun _ h9 => h9) rfl dX11_firstPrinting_51 hgo
          ·
            rw [ht9.2] at hk_38
            exact va_get (D := (dC, dI)) (ci := 5) (v := .int (nI i0)) (C := RX6) (T := TX6) (N := 9) hx hb hts (by decide +kernel) hown hK hP kk_37 hk_38 rfl 0 (by decide) (hts (.fieldLink RX11 285 "PageOne$Item" "number" "I") (by decide +kernel)) (fun _ h9 => h9) rfl dX11_firstPrinting_51 hgo
          ·
            rw [ht9.2] at hk_38
            exact va_get (D := (dC, dI)) (ci := 6) (v := .int (nI i0)) (C := RX7) (T := TX7) (N := 8) hx hb hts (by decide +kernel) hown hK hP kk_37 hk_38 rfl 0 (by decide) (hts (.fieldLink RX11 285 "PageOne$Item" "number" "I") (by decide +kernel)) (fun _ h9 => h9) rfl dX11_firstPrinting_51 hgo
          ·
            rw [ht9.2] at hk_38
            exact va_get (D := (dC, dI)) (ci := 9) (v := .int (nI i0)) (C := RX10) (T := TX10) (N := 9) hx hb hts (by decide +kernel) hown hK hP kk_37 hk_38 rfl 0 (by decide) (hts (.fieldLink RX11 285 "PageOne$Item" "number" "I") (by decide +kernel)) (fun _ h9 => h9) rfl dX11_firstPrinting_51 hgo
        ·
          obtain ⟨la_39, ca_40, m_41, dd_42, ii_43, hs_44, ht_45, ht_46⟩ := x_sh hI hp_27
          obtain ⟨g_47, hs_48, hg_49⟩ := x_ln hI ht_45
          obtain ⟨g_50, hs_51⟩ := x_ce hI ht_46
          obtain ⟨kk_52, hk_53⟩ := pl_at hp_27.1 hs_44
          refine vp_callSi (va_runV (As := [.int (nI i0)]) (rest := []) ⟨hx, hb, hml, hown, hts⟩ (y_spotOf l dC dI q h0 d k z f hI bp_24 la_39 ca_40 m_41 dd_42 ii_43 g_47 g_50 hp_27 hs_44 ht_45 ht_46 hs_48 hg_49 hs_51 (nI i0)) (cwV 1 hts gX11_firstPrinting_X9_spotOf rfl rfl rfl (by decide +kernel) ⟨Nat.le_trans (Nat.le_of_ble_eq_true rfl) hRf, Nat.le_trans (Nat.le_of_ble_eq_true rfl) hRl⟩) ⟨px_fb, va_recv hK hP (ci := 8) (q0 := kk_52) rfl hk_53, fun U hU hW => ⟨rfl, px_to hU hW hP hK hN hXN⟩⟩ rfl rfl hl.1 rfl (lv_room (Nat.le_of_ble_eq_true rfl)) dX11_firstPrinting_54 ⟨hRc, hRs⟩).run (fun r hw => ?_)
          generalize r = zr_54 at hw ⊢
          have hzr_54 := hw
          refine lv_goto (tgt := 61) hx hb dX11_firstPrinting_57 (by decide) ?_
          refine lv_istore (lv' := [(4, .int zr_54), (3, .int (nI i)), (0, .ref h0), (1, .ref (d (2000 + i0))), (2, .int p0)]) hx hb dX11_firstPrinting_61 hl (by decide) rfl (fun ls hl => ?_)
          refine lv_iload hx hb dX11_firstPrinting_63 (lv_at hl 0 rfl) ?_
          refine lv_iconst (v := (-1)) hx hb dX11_firstPrinting_65 (by decide) ?_
          refine lv_icmp_eq (tgt := 78) hx hb dX11_firstPrinting_66 (by decide) (fun c_55 => ?_) (fun c_55 => ?_)
          ·
            refine lv_iinc (v := (nI (i + 1))) (lv' := [(3, .int (nI (i + 1))), (4, .int zr_54), (0, .ref h0), (1, .ref (d (2000 + i0))), (2, .int p0)]) hx hb dX11_firstPrinting_78 hl (k := 1) rfl (nI_1 i) (by decide) rfl (fun ls hl => ?_)
            refine lv_goto (tgt := 30) hx hb dX11_firstPrinting_81 (by decide) ?_
            exact ih (i + 1) ls (by omega) (by omega) (fun j hj => by rcases Nat.lt_succ_iff_lt_or_eq.mp hj with h9 | h9; exact hg j h9; rw [h9]; exact prC_f hlt hi8 (Or.inr (by rcases (by have hq9 := ((rp_pl hrp.2.1 hp_25 (clp hbw_28)).2 _ hp_26).2.2 _ _ _ _ _ hs_44; have h40 := hpp_29.1.2; rw [nI_clamp (by omega)] at hq9 h40; exact sp_val hlt hpi h40 hi8 (hq9.2.2.1 _ hs_48) (hq9.2.2.2 _ hs_51) hg_49 hzr_54 : (zr_54 = -1 ∧ u.2 45 (80 * i + i0) = (-1)) ∨ (¬ zr_54 = -1 ∧ spR u i0 i zr_54)) with h8 | h8; exact h8.2; exact absurd c_55 h8.1))) (lv_sub hl [0, 2, 3, 4] rfl)
          ·
            exact kx69 _ _ ls ⟨hbw_28, gp_23, bp_24, hp_25, hp_26, hp_27⟩ ⟨hlt, hg, hpp_29, by rcases (by have hq9 := ((rp_pl hrp.2.1 hp_25 (clp hbw_28)).2 _ hp_26).2.2 _ _ _ _ _ hs_44; have h40 := hpp_29.1.2; rw [nI_clamp (by omega)] at hq9 h40; exact sp_val hlt hpi h40 hi8 (hq9.2.2.1 _ hs_48) (hq9.2.2.2 _ hs_51) hg_49 hzr_54 : (zr_54 = -1 ∧ u.2 45 (80 * i + i0) = (-1)) ∨ (¬ zr_54 = -1 ∧ spR u i0 i zr_54)) with h8 | h8; exact absurd h8.1 c_55; exact h8.2⟩ (lv_sub hl [1, 0, 2, 3, 4] rfl)
theorem e5 {i : Nat} (hi : i < 80) : (5 * nI i).toNatClampNeg = 5 * i := by rw [show (5 : Int32) = nI 5 from rfl, pk_mul, nI_clamp (by omega)]
theorem e5w {i : Nat} {w : Int32} (hi : i < 80) (hw : bw w 0 4 = true) : (5 * nI i + w).toNatClampNeg = 5 * i + w.toNatClampNeg ∧ w.toNatClampNeg < 5 := by
  obtain ⟨W, hW, -, e⟩ := exN hw (by decide)
  have h4 : (4 : Int32).toInt = 4 := rfl
  subst e
  rw [show (5 : Int32) = nI 5 from rfl, pk_mul, nI_add, nI_clamp (by omega), nI_clamp (by omega)]
  exact ⟨rfl, by omega⟩
theorem fi_n {u : mS} {i : Nat} (h : fiI u) (hi : i < 80) : (u.2 47 (5 * i) = (-1) → u.2 47 (5 * nI i).toNatClampNeg < 0) ∧ (¬ u.2 47 (5 * i) = (-1) → ¬ u.2 47 (5 * nI i).toNatClampNeg < 0) := by
  rw [e5 hi]
  refine ⟨fun e => by rw [e]; decide, fun n x => ?_⟩
  have h1 := h i hi
  rw [i32_lt] at h1 x
  have m1 : (-1 : Int32).toInt = -1 := rfl
  rw [i0] at x
  exact n (Int32.toInt_inj.mp (by omega))
set_option maxHeartbeats 4000000 in
set_option maxRecDepth 100000 in
theorem y_firstPrinting (l : Launch) (dC : Nat → ClassId) (dI : Nat → Nat → Nat) (q : Nat → ClassId) (h0 : Nat) (d : Nat → Nat) (k : Nat → Int32) (z : gS) (f : xF) (hI : xI q h0 d k z f) (p0 : Int32) (u : mS) (hrp : rep q d u z f) (hk0 : k 0 = u.1 3) (hk1 : k 1 = u.1 28) (hk2 : k 2 = u.1 38) (hk3 : k 3 = u.1 39) (hpi : plI u) (hfi : fiI u) (i0 : Nat) (hi0 : i0 < (u.1 3).toNatClampNeg) : Met l yX11_firstPrinting wsX11_firstPrinting ({ frames := 4, cells := 0, slots := 0, locals := 87 }) (va_Pc [.ref h0, .ref (d (2000 + i0)), .int p0] (PX dC dI (va_pl z.1 f) (xT q))) (vp_Si (fun r => mPrR u (nI i0) p0 r)) 0 0 (fun _ => False) := by
  refine Met.ofW (cc := cX11_firstPrinting) (maxL := 5) (ret := (some .int)) (by decide) rfl ?_
  intro p e s m args below meth c s₁ B hml hv
  obtain ⟨rfl, ⟨hP, hK, hN⟩, hXN⟩ := hv
  have hx := B.exec
  have hb := B.bytes
  have hr := B.returns
  have hts := atoms_spec (ws := wsX11_firstPrinting) B.pre
  have hown : s.vm.findClass RX11 = some m.cls := findClass_of_methodNamed B.named
  have hlocks := B.notSynchronized
  have hl := lv_entry ([.ref h0, .ref (d (2000 + i0)), .int p0]) (n := 5) (Nat.le_of_ble_eq_true rfl)
  rw [lg_entry_eq]
  generalize (lg_sl ([.ref h0, .ref (d (2000 + i0)), .int p0]) ++ List.replicate (5 - (lg_sl ([.ref h0, .ref (d (2000 + i0)), .int p0])).length) Slot.unset).toArray = ls at hl ⊢
  have hl : lv_has ls 5 [(0, .ref h0), (1, .ref (d (2000 + i0))), (2, .int p0)] := hl
  obtain ⟨rs_1, n_2, g_3, fg_4, hit_5, hs_6, hpa_7, hps_8, h1_9, h6_10, hcb_11, hpl_12, hlg_13, hnn_14, hfa_15, hfs_16, hfe_17, hrs_18, hkt_19⟩ := it_all hI hrp.2.2.1 hi0
  have hi8 : i0 < 80 := by have := w80i hI.1.1 hk0; omega
  refine lv_iload_n hx hb dX11_firstPrinting_0 rfl (lv_at hl 2 rfl) ?_
  refine lv_iconst (v := 0) hx hb dX11_firstPrinting_1 (by decide) ?_
  refine lv_iconst (v := 4) hx hb dX11_firstPrinting_2 (by decide) ?_
  refine vp_callSi (va_runS (As := [.int p0, .int 0, .int 4]) (rest := []) ⟨hx, hb, hml, hown, hts⟩ (x_isWithin l dC dI p0 0 4) (va_cwS 3 hts gX11_firstPrinting_X11_isWithin rfl rfl rfl (by decide +kernel) ⟨Nat.le_of_ble_eq_true rfl, Nat.le_of_ble_eq_true rfl⟩) ⟨pw_fb, fun U hU hW => ⟨rfl, pw_to hU hW (hP.sub (ws' := []) [] rfl) (hK.sub (tys' := []) [] rfl) hN⟩⟩ rfl rfl hl.1 rfl (lv_room (Nat.le_of_ble_eq_true rfl)) dX11_firstPrinting_3 ⟨Nat.le_of_ble_eq_true rfl, Nat.le_of_ble_eq_true rfl⟩).run (fun r hw => ?_)
  rcases Bool.eq_false_or_eq_true (bw p0 0 4) with b_20 | b_20
  ·
    obtain rfl : r = 1 := b_t hw b_20
    refine lv_if_ne (tgt := 11) hx hb dX11_firstPrinting_6 (by decide) (fun c_21 => ?_) (fun c_21 => absurd c_21 (by decide))
    refine lv_aload_n hx hb dX11_firstPrinting_11 rfl (lv_at hl 1 rfl) ?_
    obtain ⟨kk_22, hk_23⟩ := pl_at hit_5.1 hs_6
    refine w_then (F0 m 15 ls [.ref (d (4000 + i0))]) (fun hgo => ?_) ?_
    ·
      rcases x_tag hit_5 with ht9 | ht9 | ht9 | ht9 | ht9 | ht9
      ·
        rw [ht9.2] at hk_23
        exact va_get (D := (dC, dI)) (ci := 2) (v := .ref (d (4000 + i0))) (C := RX2) (T := TX2) (N := 7) hx hb hts (by decide +kernel) hown hK hP kk_22 hk_23 rfl 4 (by decide) (hts (.fieldLink RX11 382 "PageOne$Item" "first" "[I") (by decide +kernel)) (fun _ h9 => h9) rfl dX11_firstPrinting_12 hgo
      ·
        rw [ht9.2] at hk_23
        exact va_get (D := (dC, dI)) (ci := 3) (v := .ref (d (4000 + i0))) (C := RX3) (T := TX3) (N := 8) hx hb hts (by decide +kernel) hown hK hP kk_22 hk_23 rfl 4 (by decide) (hts (.fieldLink RX11 382 "PageOne$Item" "first" "[I") (by decide +kernel)) (fun _ h9 => h9) rfl dX11_firstPrinting_12 hgo
      ·
        rw [ht9.2] at hk_23
        exact va_get (D := (dC, dI)) (ci := 4) (v := .ref (d (4000 + i0))) (C := RX5) (T := TX5) (N := 7) hx hb hts (by decide +kernel) hown hK hP kk_22 hk_23 rfl 4 (by decide) (hts (.fieldLink RX11 382 "PageOne$Item" "first" "[I") (by decide +kernel)) (fun _ h9 => h9) rfl dX11_firstPrinting_12 hgo
      ·
        rw [ht9.2] at hk_23
        exact va_get (D := (dC, dI)) (ci := 5) (v := .ref (d (4000 + i0))) (C := RX6) (T := TX6) (N := 9) hx hb hts (by decide +kernel) hown hK hP kk_22 hk_23 rfl 4 (by decide) (hts (.fieldLink RX11 382 "PageOne$Item" "first" "[I") (by decide +kernel)) (fun _ h9 => h9) rfl dX11_firstPrinting_12 hgo
      ·
        rw [ht9.2] at hk_23
        exact va_get (D := (dC, dI)) (ci := 6) (v := .ref (d (4000 + i0))) (C := RX7) (T := TX7) (N := 8) hx hb hts (by decide +kernel) hown hK hP kk_22 hk_23 rfl 4 (by decide) (hts (.fieldLink RX11 382 "PageOne$Item" "first" "[I") (by decide +kernel)) (fun _ h9 => h9) rfl dX11_firstPrinting_12 hgo
      ·
        rw [ht9.2] at hk_23
        exact va_get (D := (dC, dI)) (ci := 9) (v := .ref (d (4000 + i0))) (C := RX10) (T := TX10) (N := 9) hx hb hts (by decide +kernel) hown hK hP kk_22 hk_23 rfl 4 (by decide) (hts (.fieldLink RX11 382 "PageOne$Item" "first" "[I") (by decide +kernel)) (fun _ h9 => h9) rfl dX11_firstPrinting_12 hgo
    ·
      refine lv_iconst (v := 0) hx hb dX11_firstPrinting_15 (by decide) ?_
      obtain ⟨kk_24, hk_25⟩ := pl_at hfa_15.1 hfs_16
      refine va_iald hx hb hK hP kk_24 0 hk_25 rfl (by unfold vp_in; decide) dX11_firstPrinting_16 ?_
      refine lv_iconst (v := (-1)) hx hb dX11_firstPrinting_17 (by decide) ?_
      refine lv_icmp_eq (tgt := 28) hx hb dX11_firstPrinting_18 (by decide) (fun c_26 => ?_) (fun c_26 => ?_)
      ·
        refine lv_iconst (v := 0) hx hb dX11_firstPrinting_28 (by decide) ?_
        refine lv_istore_n (lv' := [(3, .int 0), (0, .ref h0), (1, .ref (d (2000 + i0))), (2, .int p0)]) hx hb dX11_firstPrinting_29 rfl hl (by decide) rfl (fun ls hl => ?_)
        refine y_first_l hI hx hb hml hts hown hN hXN hK (Nat.le_of_ble_eq_true rfl) (Nat.le_of_ble_eq_true rfl) (Nat.le_of_ble_eq_true rfl) (Nat.le_of_ble_eq_true rfl) hP hrp hk0 hk2 hk3 hpi hi0 (fun ls hno hl => ?_) (fun i9 s9 ls hpl hye hl => ?_) 13 0 ls (by decide) (by decide) (fun j hj => absurd hj (Nat.not_lt_zero _)) (lv_sub hl [0, 1, 2, 3] rfl)
        ·
          refine lv_iconst (v := (-1)) hx hb dX11_firstPrinting_84 (by decide) ?_
          exact W.iret (v := (-1)) hx hb hr (fun t ht hW => ⟨_, rfl, (by show mPrR u (nI i0) p0 _; unfold mPrR; rw [if_pos (bw_it (by rw [← hk0]; exact hI.1.1) hi0).1, if_pos b_20, if_pos ((fi_n hfi hi8).1 ((hfe_17 0 (by decide)).symm.trans c_26))]; exact Or.inr ⟨hno, rfl⟩), ht⟩) (fun q h => absurd h List.not_mem_nil) dX11_firstPrinting_85
        ·
          obtain ⟨hbw0, gp0, bp0, hp01, hp02, hp03⟩ := hpl
          refine lv_aload_n hx hb dX11_firstPrinting_69 rfl (lv_at hl 2 rfl) ?_
          refine lv_iload_n hx hb dX11_firstPrinting_70 rfl (lv_at hl 0 rfl) ?_
          refine lv_iload hx hb dX11_firstPrinting_71 (lv_at hl 1 rfl) ?_
          refine lv_iload_n hx hb dX11_firstPrinting_73 rfl (lv_at hl 4 rfl) ?_
          obtain ⟨kk_27, hk_28⟩ := pl_at hI.2.1.1.1 hI.2.2.2.1.1
          refine vp_callSi (va_runV (As := [.int (nI i9), .int s9, .int p0]) (rest := []) ⟨hx, hb, hml, hown, hts⟩ (y_plateFact l dC dI q h0 d k z f hI (nI i9) s9 p0 ⟨hbw0, gp0, bp0, hp01, hp02, hp03⟩ u hrp) (cwV 3 hts gX11_firstPrinting_X11_plateFact rfl rfl rfl (by decide +kernel) ⟨Nat.le_of_ble_eq_true rfl, Nat.le_of_ble_eq_true rfl⟩) ⟨px_fb, va_recv hK hP (ci := 10) (q0 := kk_27) rfl hk_28, fun U hU hW => ⟨rfl, px_to hU hW hP hK hN hXN⟩⟩ rfl rfl hl.1 rfl (lv_room (Nat.le_of_ble_eq_true rfl)) dX11_firstPrinting_74 ⟨Nat.le_of_ble_eq_true rfl, Nat.le_of_ble_eq_true rfl⟩).run (fun r hw => ?_)
          generalize r = zr_29 at hw ⊢
          have hzr_29 := hw
          exact W.iret (v := zr_29) hx hb hr (fun t ht hW => ⟨_, rfl, (by show mPrR u (nI i0) p0 _; unfold mPrR; rw [if_pos (bw_it (by rw [← hk0]; exact hI.1.1) hi0).1, if_pos b_20, if_pos ((fi_n hfi hi8).1 ((hfe_17 0 (by decide)).symm.trans c_26))]; exact Or.inl ⟨i9, hye.1, prC_t hye.1 hi8 ((frP_now (bw11 hye.1) (rp_01 hrp.2.1 _ (by rw [nI_clamp (by omega)]; exact hye.1))).mp hye.2.2.1) hye.2.2.2, hye.2.1, hzr_29.trans (mPF_v hye.1 hi8 hye.2.2.1 hye.2.2.2 b_20)⟩), ht⟩) (fun q h => absurd h List.not_mem_nil) dX11_firstPrinting_77
      ·
        refine lv_aload_n hx hb dX11_firstPrinting_21 rfl (lv_at hl 1 rfl) ?_
        obtain ⟨kk_30, hk_31⟩ := pl_at hit_5.1 hs_6
        refine w_then (F0 m 25 ls [.ref (d (4000 + i0))]) (fun hgo => ?_) ?_
        ·
          rcases x_tag hit_5 with ht9 | ht9 | ht9 | ht9 | ht9 | ht9
          ·
            rw [ht9.2] at hk_31
            exact va_get (D := (dC, dI)) (ci := 2) (v := .ref (d (4000 + i0))) (C := RX2) (T := TX2) (N := 7) hx hb hts (by decide +kernel) hown hK hP kk_30 hk_31 rfl 4 (by decide) (hts (.fieldLink RX11 382 "PageOne$Item" "first" "[I") (by decide +kernel)) (fun _ h9 => h9) rfl dX11_firstPrinting_22 hgo
          ·
            rw [ht9.2] at hk_31
            exact va_get (D := (dC, dI)) (ci := 3) (v := .ref (d (4000 + i0))) (C := RX3) (T := TX3) (N := 8) hx hb hts (by decide +kernel) hown hK hP kk_30 hk_31 rfl 4 (by decide) (hts (.fieldLink RX11 382 "PageOne$Item" "first" "[I") (by decide +kernel)) (fun _ h9 => h9) rfl dX11_firstPrinting_22 hgo
          ·
            rw [ht9.2] at hk_31
            exact va_get (D := (dC, dI)) (ci := 4) (v := .ref (d (4000 + i0))) (C := RX5) (T := TX5) (N := 7) hx hb hts (by decide +kernel) hown hK hP kk_30 hk_31 rfl 4 (by decide) (hts (.fieldLink RX11 382 "PageOne$Item" "first" "[I") (by decide +kernel)) (fun _ h9 => h9) rfl dX11_firstPrinting_22 hgo
          ·
            rw [ht9.2] at hk_31
            exact va_get (D := (dC, dI)) (ci := 5) (v := .ref (d (4000 + i0))) (C := RX6) (T := TX6) (N := 9) hx hb hts (by decide +kernel) hown hK hP kk_30 hk_31 rfl 4 (by decide) (hts (.fieldLink RX11 382 "PageOne$Item" "first" "[I") (by decide +kernel)) (fun _ h9 => h9) rfl dX11_firstPrinting_22 hgo
          ·
            rw [ht9.2] at hk_31
            exact va_get (D := (dC, dI)) (ci := 6) (v := .ref (d (4000 + i0))) (C := RX7) (T := TX7) (N := 8) hx hb hts (by decide +kernel) hown hK hP kk_30 hk_31 rfl 4 (by decide) (hts (.fieldLink RX11 382 "PageOne$Item" "first" "[I") (by decide +kernel)) (fun _ h9 => h9) rfl dX11_firstPrinting_22 hgo
          ·
            rw [ht9.2] at hk_31
            exact va_get (D := (dC, dI)) (ci := 9) (v := .ref (d (4000 + i0))) (C := RX10) (T := TX10) (N := 9) hx hb hts (by decide +kernel) hown hK hP kk_30 hk_31 rfl 4 (by decide) (hts (.fieldLink RX11 382 "PageOne$Item" "first" "[I") (by decide +kernel)) (fun _ h9 => h9) rfl dX11_firstPrinting_22 hgo
        ·
          refine lv_iload_n hx hb dX11_firstPrinting_25 rfl (lv_at hl 2 rfl) ?_
          obtain ⟨kk_32, hk_33⟩ := pl_at hfa_15.1 hfs_16
          refine va_iald hx hb hK hP kk_32 0 hk_33 rfl (vin b_20 (by decide)) dX11_firstPrinting_26 ?_
          exact W.iret (v := (fg_4 (p0 : Int32).toNatClampNeg)) hx hb hr (fun t ht hW => ⟨_, rfl, (by show mPrR u (nI i0) p0 _; unfold mPrR; rw [if_pos (bw_it (by rw [← hk0]; exact hI.1.1) hi0).1, if_pos b_20, if_neg ((fi_n hfi hi8).2 (fun e9 => c_26 ((hfe_17 0 (by decide)).trans e9)))]; rw [(e5w hi8 b_20).1]; exact hfe_17 _ (e5w hi8 b_20).2), ht⟩) (fun q h => absurd h List.not_mem_nil) dX11_firstPrinting_27
  ·
    obtain rfl : r = 0 := b_f hw b_20
    refine lv_if_ne (tgt := 11) hx hb dX11_firstPrinting_6 (by decide) (fun c_34 => absurd (by decide) c_34) (fun c_34 => ?_)
    refine lv_iconst (v := (-1)) hx hb dX11_firstPrinting_9 (by decide) ?_
    exact W.iret (v := (-1)) hx hb hr (fun t ht hW => ⟨_, rfl, (by show mPrR u (nI i0) p0 _; unfold mPrR; rw [if_pos (bw_it (by rw [← hk0]; exact hI.1.1) hi0).1, if_neg (bne b_20)]), ht⟩) (fun q h => absurd h List.not_mem_nil) dX11_firstPrinting_10
set_option maxHeartbeats 4000000 in
set_option maxRecDepth 100000 in
theorem y_printed (l : Launch) (dC : Nat → ClassId) (dI : Nat → Nat → Nat) (q : Nat → ClassId) (h0 : Nat) (d : Nat → Nat) (k : Nat → Int32) (z : gS) (f : xF) (hI : xI q h0 d k z f) (p0 p1 : Int32) (u : mS) (hrp : rep q d u z f) (hk0 : k 0 = u.1 3) (hk1 : k 1 = u.1 28) (hk2 : k 2 = u.1 38) (hk3 : k 3 = u.1 39) (hpi : plI u) (hfi : fiI u) : Met l yX11_printed wsX11_printed ({ frames := 5, cells := 0, slots := 0, locals := 111 }) (va_Pc [.ref h0, .int p0, .int p1] (PX dC dI (va_pl z.1 f) (xT q))) (vp_Si (fun r => r = mPr u p0 p1)) 0 0 (fun _ => False) := by
  refine Met.ofW (cc := cX11_printed) (maxL := 4) (ret := (some .int)) (by decide) rfl ?_
  intro p e s m args below meth c s₁ B hml hv
  obtain ⟨rfl, ⟨hP, hK, hN⟩, hXN⟩ := hv
  have hx := B.exec
  have hb := B.bytes
  have hr := B.returns
  have hts := atoms_spec (ws := wsX11_printed) B.pre
  have hown : s.vm.findClass RX11 = some m.cls := findClass_of_methodNamed B.named
  have hlocks := B.notSynchronized
  have hl := lv_entry ([.ref h0, .int p0, .int p1]) (n := 4) (Nat.le_of_ble_eq_true rfl)
  rw [lg_entry_eq]
  generalize (lg_sl ([.ref h0, .int p0, .int p1]) ++ List.replicate (4 - (lg_sl ([.ref h0, .int p0, .int p1])).length) Slot.unset).toArray = ls at hl ⊢
  have hl : lv_has ls 4 [(0, .ref h0), (1, .int p0), (2, .int p1)] := hl
  refine lv_aload_n hx hb dX11_printed_0 rfl (lv_at hl 0 rfl) ?_
  refine lv_iload_n hx hb dX11_printed_1 rfl (lv_at hl 1 rfl) ?_
  obtain ⟨kk_1, hk_2⟩ := pl_at hI.2.1.1.1 hI.2.2.2.1.1
  refine va_csq (va_runV (As := [.int p0]) (rest := []) ⟨hx, hb, hml, hown, hts⟩ (y_itemOf l dC dI q h0 d k z f hI p0 u hrp hk0 hk1 hk2 hk3) (cwV 1 hts gX11_printed_X11_itemOf rfl rfl rfl (by decide +kernel) ⟨Nat.le_of_ble_eq_true rfl, Nat.le_of_ble_eq_true rfl⟩) ⟨px_fb, va_recv hK hP (ci := 10) (q0 := kk_1) rfl hk_2, fun U hU hW => ⟨rfl, px_to hU hW hP hK hN hXN⟩⟩ rfl rfl hl.1 rfl (lv_room (Nat.le_of_ble_eq_true rfl)) dX11_printed_2 ⟨Nat.le_of_ble_eq_true rfl, Nat.le_of_ble_eq_true rfl⟩).run (fun r hw => ?_)
  rcases hw with ⟨hr9, hn9⟩ | ⟨i_3, hi_4, ep_5, hr9⟩
  ·
    subst hr9
    have hno_25 := hn9
    refine W.eq (g2 := F0 m 5 ls [.null]) rfl ?_
    refine lv_astore_nN (lv' := [(3, .null), (0, .ref h0), (1, .int p0), (2, .int p1)]) hx hb dX11_printed_5 rfl hl (by decide) rfl (fun ls hl => ?_)
    refine lv_aload_nN hx hb dX11_printed_6 rfl (lv_at hl 0 rfl) ?_
    refine lv_ifnonnullN hx hb dX11_printed_7 ?_
    refine lv_iconst (v := (-1)) hx hb dX11_printed_10 (by decide) ?_
    refine lv_goto (tgt := 20) hx hb dX11_printed_11 (by decide) ?_
    exact W.iret (v := (-1)) hx hb hr (fun t ht hW => ⟨_, rfl, (mPr_eq (by unfold mPrR; rw [if_neg hno_25])), ht⟩) (fun q h => absurd h List.not_mem_nil) dX11_printed_20
  ·
    subst hr9
    obtain ⟨rs_6, n_7, g_8, fg_9, hit_10, hs_11, hpa_12, hps_13, h1_14, h6_15, hcb_16, hpl_17, hlg_18, hnn_19, hfa_20, hfs_21, hfe_22, hrs_23, hkt_24⟩ := it_all hI hrp.2.2.1 hi_4
    refine W.eq (g2 := F0 m 5 ls [.ref (d (2000 + i_3))]) rfl ?_
    refine lv_astore_n (lv' := [(3, .ref (d (2000 + i_3))), (0, .ref h0), (1, .int p0), (2, .int p1)]) hx hb dX11_printed_5 rfl hl (by decide) rfl (fun ls hl => ?_)
    refine lv_aload_n hx hb dX11_printed_6 rfl (lv_at hl 0 rfl) ?_
    refine lv_ifnonnull (tgt := 14) hx hb dX11_printed_7 (by decide) ?_
    refine lv_aload_n hx hb dX11_printed_14 rfl (lv_at hl 1 rfl) ?_
    refine lv_aload_n hx hb dX11_printed_15 rfl (lv_at hl 0 rfl) ?_
    refine lv_iload_n hx hb dX11_printed_16 rfl (lv_at hl 3 rfl) ?_
    obtain ⟨kk_26, hk_27⟩ := pl_at hI.2.1.1.1 hI.2.2.2.1.1
    refine vp_callSi (va_runV (As := [.ref (d (2000 + i_3)), .int p1]) (rest := []) ⟨hx, hb, hml, hown, hts⟩ (y_firstPrinting l dC dI q h0 d k z f hI p1 u hrp hk0 hk1 hk2 hk3 hpi hfi i_3 hi_4) (cwV 2 hts gX11_printed_X11_firstPrinting rfl rfl rfl (by decide +kernel) ⟨Nat.le_of_ble_eq_true rfl, Nat.le_of_ble_eq_true rfl⟩) ⟨px_fb, va_recv hK hP (ci := 10) (q0 := kk_26) rfl hk_27, fun U hU hW => ⟨rfl, px_to hU hW hP hK hN hXN⟩⟩ rfl rfl hl.1 rfl (lv_room (Nat.le_of_ble_eq_true rfl)) dX11_printed_17 ⟨Nat.le_of_ble_eq_true rfl, Nat.le_of_ble_eq_true rfl⟩).run (fun r hw => ?_)
    generalize r = zr_28 at hw ⊢
    have hzr_28 := hw
    exact W.iret (v := zr_28) hx hb hr (fun t ht hW => ⟨_, rfl, (mPr_eq (by rw [ep_5]; exact hzr_28)), ht⟩) (fun q h => absurd h List.not_mem_nil) dX11_printed_20
/-- a new cell: its tag, its owner, what lies there -/
def nC (z : gS) (f : xF) (a t o : Nat) (e : va_E) : Prop := tg z a t ∧ (z.2 a).2.1 = o ∧ f a = e
theorem nC_new {z : gS} {f : xF} {a t o : Nat} {l : List Value} {e : va_E} : nC (pz z a (t, o, l)) (va_up f a e) a t o e := ⟨pz_t z a _, by rw [pz_s], up_s⟩
theorem nC_push {z : gS} {f : xF} {b t o : Nat} {e : va_E} {a : Nat} {x : Nat × Nat × List Value} {e2 : va_E} (h : nC z f b t o e) (ha : a ∉ z.1) : nC (pz z a x) (va_up f a e2) b t o e := by
  have hne : b ≠ a := fun e => ha (by rw [← e]; exact h.1.1)
  exact ⟨zE_tg (pz_E ha x) h.1, by rw [pz_o hne]; exact h.2.1, by rw [up_o hne]; exact h.2.2⟩
theorem nC_up {z : gS} {f : xF} {b t o : Nat} {e : va_E} {a s : Nat} {e2 : va_E} (h : nC z f b t o e) (ha : tg z a s) (hs : t ≠ s) : nC z (va_up f a e2) b t o e := ⟨h.1, h.2.1, by rw [up_o (tg_ne h.1 ha hs)]; exact h.2.2⟩
/-- what lay there lies there still -/
def oK (z : gS) (f f2 : xF) : Prop := ∀ b, b ∈ z.1 → f2 b = f b
theorem oK_push {z z1 : gS} {f f1 : xF} {a : Nat} {e : va_E} (h : oK z f f1) (hE : zE z z1) (ha : a ∉ z1.1) : oK z f (va_up f1 a e) := fun b hb => by
  rw [up_o (fun e => ha (by rw [← e]; exact (hE b hb).1))]; exact h b hb
theorem oK_fK {d : Nat → Nat} {z : gS} {f f2 : xF} (h : oK z f f2) (X : Nat → Prop) : fK d z f f2 X := ⟨fun _ _ hn _ => h _ hn.1.1, fun _ hj _ => h _ hj.1.1⟩
theorem sI_rf (u : mS) (j : Nat) : sI u u j := ⟨fun _ _ _ _ _ _ _ _ => rfl, fun _ _ _ _ _ => rfl, fun _ _ => rfl, fun _ _ => rfl, fun _ _ => ⟨rfl, rfl⟩, fun _ _ => rfl, fun _ _ => rfl⟩
theorem rep_grow {q d u z z2 f f2} (h : rep q d u z f) (hE : zE z z2) (ho : oK z f f2) : rep q d u z2 f2 := by
  obtain ⟨h1g, h1l, ⟨⟨g, a1, a2⟩, a3⟩, h1v, n0, n1, n2, n3, n4⟩ := h
  have hf : fK d z f f2 (fun _ => False) := oK_fK ho _
  exact ⟨rPg_fr h1g hE (fun _ _ => rfl) hf (fun _ _ _ _ _ _ h => h) n0 rfl rfl rfl, rPl_fr h1l hE rfl (fun _ _ _ => rfl) hf (fun h => h) (fun _ _ _ h => h) n1 (fun _ _ _ => rfl), ⟨⟨g, by rw [ho _ n2.1.1]; exact a1, a2⟩, fun j hj => rIt_fr (a3 j hj) hE ⟨rfl, rfl, rfl, rfl, rfl⟩ hf ⟨fun h => h, fun h => h, fun h => h, fun h => h, fun h => h⟩ (sI_rf u j) (Nat.le_refl _) (fun _ _ => ⟨rfl, rfl⟩)⟩, rRv_fr h1v rfl (ho _ n4.1.1) rfl, nO_E hE n0, nO_E hE n1, nO_E hE n2, nO_E hE n3, nO_E hE n4⟩
theorem fK_h0 {d : Nat → Nat} {z : gS} {f f1 : xF} {X : Nat → Prop} {h0 : Nat} {e : va_E} (h : fK d z f f1 X) (n0 : nO d z 0 2) (ht : tg z h0 1) (hz0 : (z.2 h0).2.1 = 0) : fK d z f (va_up f1 h0 e) X := by
  refine ⟨fun x t hn hX => ?_, fun j hj hX => ?_⟩
  · have hne : d x ≠ h0 := fun e => by
      have e1 := hn.2.1
      rw [e, hz0] at e1
      subst e1
      have e2 := n0.1.2
      rw [e, ht.2] at e2
      exact absurd e2 (by decide)
    rw [up_o hne]; exact h.1 x t hn hX
  · rw [up_o (tg_ne hj.1 ht (by decide))]; exact h.2 j hj hX
theorem xI_d {q h0 d d2 k z f} (h : ∀ x, x < 5 → d2 x = d x) (hI : xI q h0 d k z f) : xI q h0 d2 k z f := by
  unfold xI dkS r1 dkF at hI ⊢
  rw [h 0 (by decide), h 1 (by decide), h 2 (by decide), h 3 (by decide), h 4 (by decide)]
  exact hI
/-- the book with item n's entries -/
def dN (d : Nat → Nat) (n a2 a3 a4 a5 a6 : Nat) : Nat → Nat := fun x => if x = 2000 + n then a2 else if x = 3000 + n then a3 else if x = 4000 + n then a4 else if x = 5000 + n then a5 else if x = 6000 + n then a6 else d x
theorem dN_no {d : Nat → Nat} {n a2 a3 a4 a5 a6 x : Nat} (h : x ≠ 2000 + n ∧ x ≠ 3000 + n ∧ x ≠ 4000 + n ∧ x ≠ 5000 + n ∧ x ≠ 6000 + n) : dN d n a2 a3 a4 a5 a6 x = d x := by
  unfold dN
  rw [if_neg h.1, if_neg h.2.1, if_neg h.2.2.1, if_neg h.2.2.2.1, if_neg h.2.2.2.2]
theorem dN_lo {d : Nat → Nat} {n a2 a3 a4 a5 a6 x : Nat} (h : x < 2000) : dN d n a2 a3 a4 a5 a6 x = d x := dN_no (by omega)
theorem dN_o {d : Nat → Nat} {n a2 a3 a4 a5 a6 j : Nat} (hj : j < n) (hn : n < 1000) : bI (fun x => dN d n a2 a3 a4 a5 a6 x = d x) j := ⟨dN_no (by omega), dN_no (by omega), dN_no (by omega), dN_no (by omega), dN_no (by omega)⟩
theorem dN_at {d : Nat → Nat} {n a2 a3 a4 a5 a6 : Nat} (hn : n < 1000) : dN d n a2 a3 a4 a5 a6 (2000 + n) = a2 ∧ dN d n a2 a3 a4 a5 a6 (3000 + n) = a3 ∧ dN d n a2 a3 a4 a5 a6 (4000 + n) = a4 ∧ dN d n a2 a3 a4 a5 a6 (5000 + n) = a5 ∧ dN d n a2 a3 a4 a5 a6 (6000 + n) = a6 := by
  unfold dN
  refine ⟨if_pos rfl, ?_, ?_, ?_, ?_⟩
  · rw [if_neg (by omega), if_pos rfl]
  · rw [if_neg (by omega), if_neg (by omega), if_pos rfl]
  · rw [if_neg (by omega), if_neg (by omega), if_neg (by omega), if_pos rfl]
  · rw [if_neg (by omega), if_neg (by omega), if_neg (by omega), if_neg (by omega), if_pos rfl]
/-- w is u with an item more -/
def mkS (u w : mS) (n : Nat) : Prop := (∀ j, w.1 j = if j = 3 then u.1 3 + 1 else u.1 j) ∧ (∀ r j, j ≠ n → (4 ≤ r ∧ r ≤ 15 ∨ r = 17 ∨ r = 22) → w.2 r j = u.2 r j) ∧ ∀ r, r < 4 ∨ (15 < r ∧ r ≠ 17 ∧ r ≠ 22) → w.2 r = u.2 r
theorem mst_ne {u : mS} {r0 r j : Nat} {i x : Int32} (h : j ≠ i.toNatClampNeg) : (mst u r0 i x).2 r j = u.2 r j := by
  by_cases e : r = r0
  · subst e; rw [mst_at, if_neg h]
  · rw [mst_other e]
theorem mkS_made (u : mS) (k : Int32) : mkS u (mMade u k) (u.1 3).toNatClampNeg := by
  refine ⟨fun j => made_1 u k j, fun r j hj _ => ?_, fun r hr => made_k u k (by omega)⟩
  unfold mMade
  show (mst _ 22 _ _).2 r j = _
  rw [mst_ne hj, mst_ne hj, mst_ne hj, mst_ne hj, mst_ne hj, mst_ne hj, mst_ne hj, mst_ne hj, mst_ne hj, mst_ne hj]
theorem mkS_mst {u w : mS} {n : Nat} {i : Int32} (h : mkS u w n) (hi : i.toNatClampNeg = n) {r0 : Nat} (h0 : 4 ≤ r0 ∧ r0 ≤ 15) (x : Int32) : mkS u (mst w r0 i x) n := ⟨h.1, fun r j hj hr => by rw [mst_ne (by rw [hi]; exact hj)]; exact h.2.1 r j hj hr, fun r hr => by rw [mst_other (by omega)]; exact h.2.2 r hr⟩
theorem mkS_sI {u w : mS} {n j : Nat} (h : mkS u w n) (hj : j < n) : sI u w j := ⟨fun r r1 r2 r3 r4 r5 r6 r7 => h.2.1 r j (by omega) (by omega), fun r r1 r2 t _ => by rw [h.2.2 r (by omega)], fun t _ => by rw [h.2.2 47 (by omega)], fun t _ => by rw [h.2.2 16 (by omega)], fun t _ => by rw [h.2.2 18 (by omega), h.2.2 19 (by omega)]; exact ⟨rfl, rfl⟩, fun t _ => by rw [h.2.2 21 (by omega)], fun t _ => by rw [h.2.2 48 (by omega)]⟩
theorem rIt_mk {q d2 w z2 f3} {n a2 a3 a4 : Nat} {rs : List Value} (hn9 : n < 1000) (e2 : d2 (2000 + n) = a2) (e3 : d2 (3000 + n) = a3) (e4 : d2 (4000 + n) = a4) {kd : Int32} (hk : w.2 4 n = kd) (hkr : 0 ≤ kd ∧ kd ≤ 5) {ci : Nat} (h2 : nC z2 f3 a2 (kT kd) (2000 + n) (.inr (ci, itF (nI n) kd a3 0 a4 rs))) (hci : ci = ciT (kT kd)) (h3 : nC z2 f3 a3 16 a2 (aR (q 5) (if kd = 0 then 6 else 1) (fun _ => none))) (h4 : nC z2 f3 a4 17 (4000 + n) (aI (q 0) 5 (fun _ => (-1)))) (h22 : w.2 22 n = 0) (h47 : ∀ t, t < 5 → w.2 47 (5 * n + t) = (-1)) (hrs : rRs q d2 w z2 f3 n rs) : rIt q d2 w z2 f3 n := by
  refine ⟨by unfold nO; rw [e2, hk]; exact ⟨h2.1, h2.2.1, fun e => by have := kT_r kd; omega⟩, ⟨by rw [e3]; exact h3.1, hn9⟩, by unfold nO; rw [e4]; exact ⟨h4.1, h4.2.1, by decide⟩, by rw [hk]; exact hkr, rs, fun _ => none, fun _ => (-1), ?_, ?_, ?_, ?_, ?_, hrs⟩
  · rw [e2, e3, e4, h2.2.2, hk, h22, h2.1.2, hci]
  · rw [e3, h3.2.2, hk]
  · intro t ht
    rw [h22, show (0 : Int32).toNatClampNeg = 0 from rfl] at ht
    exact absurd ht (Nat.not_lt_zero t)
  · rw [e4, h4.2.2]
  · intro t ht
    exact (h47 t ht).symm
/-- what enter does -/
def enP (q : Nat → ClassId) (h0 : Nat) (d : Nat → Nat) (k : Nat → Int32) (r : Int32) (k3 : Nat → Int32) (c0 : Nat) (f2 f3 : xF) (nu : Int32) : Prop := (80 ≤ k 0 ∧ r = (-1) ∧ k3 = k ∧ f3 = f2) ∨ (¬ 80 ≤ k 0 ∧ r = nu ∧ k3 = kup k 0 (k 0 + 1) ∧ ∃ g, f2 (d 2) = aR (q 3) 80 g ∧ f3 = va_up (va_up f2 (d 2) (aR (q 3) 80 (va_up g (k 0).toNatClampNeg (some c0)))) h0 (.inr (10, dkF d k3)))
/-- what a maker leaves -/
def mkP (q : Nat → ClassId) (h0 : Nat) (d : Nat → Nat) (k : Nat → Int32) (z : gS) (f : xF) (u : mS) (R9 : Int32 × mS) (r : Int32) (w : xU) : Prop := ∃ d2 : Nat → Nat, (∀ x, x < 2000 → d2 x = d x) ∧ (∀ j, j < (u.1 3).toNatClampNeg → bI (fun x => d2 x = d x) j) ∧ zE z w.2.1 ∧ xI q h0 d2 w.1 w.2.1 w.2.2 ∧ r = R9.1 ∧ rep q d2 R9.2 w.2.1 w.2.2 ∧ w.1 0 = R9.2.1 3 ∧ (∀ j, j ≠ 0 → w.1 j = k j) ∧ w.2.2 (d 3) = f (d 3)
theorem mkP_0 {q h0 d k z f u R9} (hI : xI q h0 d k z f) (hrp : rep q d u z f) (hk0 : k 0 = u.1 3) (hR : R9 = ((-1 : Int32), u)) : mkP q h0 d k z f u R9 (-1) (k, z, f) := by
  subst hR
  exact ⟨d, fun _ _ => rfl, fun _ _ => ⟨rfl, rfl, rfl, rfl, rfl⟩, zE_rf z, hI, rfl, hrp, hk0, fun _ _ => rfl, rfl⟩
theorem n80k {k : Nat → Int32} (h : bw (k 0) 0 80 = true) : (80 ≤ k 0 → k 0 = 80) ∧ (¬ 80 ≤ k 0 → ¬ k 0 = 80 ∧ (k 0).toNatClampNeg < 80 ∧ k 0 = nI (k 0).toNatClampNeg ∧ (k 0 + 1).toNatClampNeg = (k 0).toNatClampNeg + 1) := by
  have h1 := bw_iff.mp h
  have e80 : (80 : Int32).toInt = 80 := rfl
  rw [i0] at h1
  refine ⟨fun x => ?_, fun x => ?_⟩
  · rw [i32_le] at x; exact Int32.toInt_inj.mp (by omega)
  · obtain ⟨c1, c2, c3⟩ := nI_of_bw h
    have hl : (k 0).toNatClampNeg < 80 := by
      rw [i32_le] at x; omega
    refine ⟨fun e => x (by rw [e]; decide), hl, c1, ?_⟩
    rw [c1, show (1 : Int32) = nI 1 from rfl, nI_add, nI_clamp (by omega), nI_clamp (by omega)]
/-- a maker: a new item or, where 80 are there, none -/
theorem mk_gen {q h0 d k z f u z2 f2 f3 k3} {r : Int32} {n a2 a3 a4 a5 a6 : Nat} {W : mS} {kd : Int32} {rs : List Value} {ci : Nat} (hI : xI q h0 d k z f) (hrp : rep q d u z f) (hk0 : k 0 = u.1 3) (hz0 : (z.2 h0).2.1 = 0) (hI3 : xI q h0 d k3 z2 f3) (hE : zE z z2) (ho : oK z f f2) (hen : enP q h0 d k r k3 a2 f2 f3 (k 0)) (hn : n = (u.1 3).toNatClampNeg) (hS : mkS u W n) (hk : W.2 4 n = kd) (hkr : 0 ≤ kd ∧ kd ≤ 5) (h22 : W.2 22 n = 0) (h47 : n < 80 → ∀ t, t < 5 → u.2 47 (5 * n + t) = (-1)) (c2 : nC z2 f2 a2 (kT kd) (2000 + n) (.inr (ci, itF (k 0) kd a3 0 a4 rs))) (hci : ci = ciT (kT kd)) (c3 : nC z2 f2 a3 16 a2 (aR (q 5) (if kd = 0 then 6 else 1) (fun _ => none))) (c4 : nC z2 f2 a4 17 (4000 + n) (aI (q 0) 5 (fun _ => (-1)))) (hrs : ∀ f9, (∀ b t o e, nC z2 f2 b t o e → t ≠ 1 → t ≠ 4 → nC z2 f9 b t o e) → n < 80 → rRs q (dN d n a2 a3 a4 a5 a6) W z2 f9 n rs) {R9 : Int32 × mS} (hR0 : u.1 3 = 80 → R9 = ((-1 : Int32), u)) (hR1 : ¬ u.1 3 = 80 → R9 = (u.1 3, W)) : mkP q h0 d k z f u R9 r (k3, z2, f3) := by
  have nd : ∀ x t, nO d z x t → oK z f f2 → f2 (d x) = f (d x) := fun x t h ho => ho _ h.1.1
  have tgz : tg z2 h0 1 := zE_tg hE hI.2.1.1
  obtain ⟨-, -, -, -, n0, n1, n2, n3, n4⟩ := id hrp
  have h8 := n80k hI.1.1
  rw [hk0] at h8
  rcases hen with ⟨b8, rfl, rfl, rfl⟩ | ⟨b8, rfl, rfl, g, hg, rfl⟩
  · rw [hk0] at b8
    rw [hR0 (h8.1 b8)]
    exact ⟨d, fun _ _ => rfl, fun _ _ => ⟨rfl, rfl, rfl, rfl, rfl⟩, hE, hI3, rfl, rep_grow hrp hE ho, hk0, fun _ _ => rfl, ho _ n3.1.1⟩
  · rw [hk0] at b8
    obtain ⟨m1, m2, m3, m4⟩ := h8.2 b8
    rw [← hn] at m2 m3 m4
    rw [hR1 m1]
    have eN := dN_at (d := d) (n := n) (a2 := a2) (a3 := a3) (a4 := a4) (a5 := a5) (a6 := a6) (by omega)
    generalize hf3 : va_up (va_up f2 (d 2) (aR (q 3) 80 (va_up g (k 0).toNatClampNeg (some a2)))) h0 (.inr (10, dkF d (kup k 0 (k 0 + 1)))) = f3 at *
    have hup : ∀ b t o e, nC z2 f2 b t o e → t ≠ 1 → t ≠ 4 → nC z2 f3 b t o e := fun b t o e h t1 t4 => by
      rw [← hf3]; exact nC_up (nC_up h (zE_tg hE n2.1) t4) tgz t1
    have hfK : fK d z f f3 (fun x => x = 2) := by
      rw [← hf3]; exact fK_h0 (fK_up (oK_fK ho _) n2 (by decide) rfl) n0 hI.2.1.1 hz0
    have hkt := kT_r kd
    have h20 : d 2 ≠ h0 := tg_ne n2.1 hI.2.1.1 (by decide)
    have h30 : d 3 ≠ h0 := tg_ne n3.1 hI.2.1.1 (by decide)
    refine ⟨dN d n a2 a3 a4 a5 a6, fun x hx => dN_lo hx, fun j hj => dN_o (by omega) (by omega), hE, xI_d (fun x hx => dN_lo (by omega)) hI3, hk0, ?_, ?_, fun j hj => kup_o hj, ?_⟩
    · refine rep_new (g := g) hrp hE (fun x hx => dN_lo hx) (fun o h => dN_o (by omega) (by omega)) hfK (by rw [← ho _ n2.1.1]; exact hg) ?_ ?_ (fun j hj => mkS_sI hS (by omega)) (fun r hr => hS.2.2 r (by omega)) ?_
      · show f3 (d 2) = _
        rw [← hf3, up_o h20, up_s, ← hn, eN.1, hk0, ← hn]; rfl
      · rw [hS.1 3, if_pos rfl, m4, ← hn]
      · rw [← hn]
        refine rIt_mk (by omega) eN.1 eN.2.1 eN.2.2.1 hk hkr ?_ hci (hup _ _ _ _ c3 (by decide) (by decide)) (hup _ _ _ _ c4 (by decide) (by decide)) h22 (fun t ht => by rw [hS.2.2 47 (by omega)]; exact h47 m2 t ht) (hrs f3 hup m2)
        have c2' := hup _ _ _ _ c2 (by omega) (by omega)
        rw [hk0, m3] at c2'
        exact c2'
    · show kup k 0 (k 0 + 1) 0 = W.1 3
      rw [kup_s, hS.1 3, if_pos rfl, hk0]
    · show f3 (d 3) = f (d 3)
      rw [← hf3, up_o h30, up_o (nO_ne n3 n2 (by decide)), ho _ n3.1.1]
theorem x_pushIo {q h0 d k z f} {o : Nat} (h : xI q h0 d k z f) {a : Nat} (ha : a ∉ z.1) {t : Nat} (ht : 10 ≤ t ∧ t ≤ 15) {nu kd : Int32} {pa fa n : Nat} {rest : List Value} (hpa : tg z pa 16) (ho : (z.2 pa).2.1 = a) (hfa : tg z fa 17) (hp : f pa = aR (q 5) n (fun _ => none)) (hn : 1 ≤ n ∧ n ≤ 6) (hr : rsT (pz z a (t, o, [])) t rest) : xI q h0 d k (pz z a (t, o, [])) (va_up f a (.inr (ciT t, itF nu kd pa 0 fa rest))) := by
  obtain ⟨h1, h2, h3, ⟨g1, gi, g2i, g3⟩, h5⟩ := h
  have hE := pz_E ha (t, o, [])
  have hne : ∀ {b : Nat}, b ∈ z.1 → b ≠ a := fun hb e => ha (by rw [← e]; exact hb)
  have hs : (pz z a (t, o, [])).2 a = (t, o, []) := pz_s _ _ _
  refine ⟨h1, ⟨zE_tg hE h2.1, zE_tg hE h2.2.1, zE_tg hE h2.2.2.1, zE_tg hE h2.2.2.2.1, zE_tg hE h2.2.2.2.2.1, zE_tg hE h2.2.2.2.2.2⟩, fun b hb => ?_, ⟨by rw [up_o (hne h2.1.1)]; exact g1, gi, by rw [up_o (hne h2.2.2.2.1.1)]; exact g2i, g3⟩, ?_⟩
  · rcases List.mem_append.mp hb with hb | hb
    · rw [up_o (hne hb)]; exact cO_mono hE hb (h3 b hb)
    · have e1 : b = a := by simpa using hb
      rw [e1, up_s]
      refine cO_I ⟨pz_m _ _ _, by rw [hs]; exact ht⟩ ⟨nu, kd, 0, pa, fa, rest, by rw [hs], zE_tg hE hpa, by rw [zE_o hE hpa.1]; exact ho, zE_tg hE hfa, by rw [hs]; exact hr⟩
  · intro b hb mu md mn ma mf ms hf
    by_cases hba : b = a
    · subst hba
      rw [up_s, hs] at hf
      obtain ⟨o1, o2, o3, o4, o5, o6⟩ := itF_inj hf
      subst o3 o4
      exact ⟨n, _, by rw [up_o (hne hpa.1)]; exact hp, hn.1, hn.2, bwN (n := 0) (by rw [nI_toInt (by omega)]; omega) (by omega), fun j hj => absurd hj (Nat.not_lt_zero _)⟩
    · have hbz : b ∈ z.1 := by
        rcases List.mem_append.mp hb.1 with y | y
        · exact y
        · exact absurd (by simpa using y) hba
      rw [up_o hba, pz_o hba] at hf
      have hbi : itm z b := ⟨hbz, by have := hb.2; rw [pz_o hba] at this; exact this⟩
      obtain ⟨n5, g5, r1, r2⟩ := h5 b hbi mu md mn ma mf ms hf
      obtain ⟨nu2, kd2, cn2, pa2, fa2, rest2, e1, e2, -⟩ := (h3 b hbz).2.2.2.2.2.2.2.2.1 hbi.2.1 hbi.2.2
      obtain ⟨-, -, e3, -⟩ := itF_inj (hf.symm.trans e1)
      rw [← e3] at e2
      exact ⟨n5, g5, by rw [up_o (hne e2.1)]; exact r1, r2⟩
theorem ge_not {a b : Int32} (h : ¬ a < b) : b ≤ a := by rw [i32_lt] at h; rw [i32_le]; omega
theorem lt_not {a b : Int32} (h : a < b) : ¬ b ≤ a := by rw [i32_lt] at h; rw [i32_le]; omega
set_option maxHeartbeats 4000000 in
set_option maxRecDepth 100000 in
theorem y_enter (l : Launch) (dC : Nat → ClassId) (dI : Nat → Nat → Nat) (q : Nat → ClassId) (h0 : Nat) (d : Nat → Nat) (k : Nat → Int32) (z : gS) (f : xF) (hI : xI q h0 d k z f) (c0 : Nat) (hc0 : itm z c0) (nu kd cn : Int32) (pa fa : Nat) (rs : List Value) (hs : f c0 = .inr (ciT (z.2 c0).1, itF nu kd pa cn fa rs)) (sz : Nat) : Met l yX11_enter wsX11_enter ({ frames := 0, cells := 0, slots := 0, locals := 0 }) (va_Pc [.ref h0, .ref c0] (fun U => U.heap.size = sz ∧ PX dC dI (va_pl z.1 f) (xT q) U ∧ va_D (fun _ => True) (va_pl z.1 f))) (va_Qi (fun (r : Int32) (w : xU) => w.2.1 = z ∧ xI q h0 d w.1 z w.2.2 ∧ enP q h0 d k r w.1 c0 f w.2.2 nu) (fun (w : xU) t => va_P (dC, dI) vwCl (va_pl w.2.1.1 w.2.2) t.heap ∧ va_D (va_A (va_pl z.1 f) sz) (va_pl w.2.1.1 w.2.2)) (va_A (va_pl z.1 f) sz)) 0 0 (va_A (va_pl z.1 f) sz) := by
  refine Met.ofW (cc := cX11_enter) (maxL := 2) (ret := (some .int)) (by decide) rfl ?_
  intro p e s m args below meth c s₁ B hml hv
  obtain ⟨rfl, hsz, ⟨⟨hP, hK, hN⟩, hXN⟩, hD0⟩ := hv
  have hx := B.exec
  have hb := B.bytes
  have hr := B.returns
  have hts := atoms_spec (ws := wsX11_enter) B.pre
  have hown : s.vm.findClass RX11 = some m.cls := findClass_of_methodNamed B.named
  have hlocks := B.notSynchronized
  subst hsz
  have hD := hD0.self (sz := s.heap.size)
  generalize hAe : va_A (va_pl z.1 f) s.heap.size = A at hD ⊢
  have hA : ∀ q : Nat, s.heap.size ≤ q → A q := fun q h => by rw [← hAe]; exact Or.inr h
  have hS : va_S A s.heap s.heap [] := va_S.rf
  have hl := lv_entry ([.ref h0, .ref c0]) (n := 2) (Nat.le_of_ble_eq_true rfl)
  rw [lg_entry_eq]
  generalize (lg_sl ([.ref h0, .ref c0]) ++ List.replicate (2 - (lg_sl ([.ref h0, .ref c0])).length) Slot.unset).toArray = ls at hl ⊢
  have hl : lv_has ls 2 [(0, .ref h0), (1, .ref c0)] := hl
  refine lv_aload_n hx hb dX11_enter_0 rfl (lv_at hl 0 rfl) ?_
  obtain ⟨kk_1, hk_2⟩ := pl_at hI.2.1.1.1 hI.2.2.2.1.1
  refine va_get (D := (dC, dI)) (ci := 10) (v := .int (k 0)) (C := RX11) (T := TX11) (N := 9) hx hb hts (by decide +kernel) hown hK hP kk_1 hk_2 rfl 3 (by decide) (hts (.fieldLink RX11 24 "PageOne" "itemCount" "I") (by decide +kernel)) (fun _ h9 => h9) rfl dX11_enter_1 ?_
  refine lv_bipush (v := 80) hx hb dX11_enter_4 (by decide) ?_
  refine lv_icmp_lt (tgt := 11) hx hb dX11_enter_6 (by decide) (fun c_3 => ?_) (fun c_3 => ?_)
  ·
    refine lv_aload_n hx hb dX11_enter_11 rfl (lv_at hl 0 rfl) ?_
    obtain ⟨kk_4, hk_5⟩ := pl_at hI.2.1.1.1 hI.2.2.2.1.1
    refine va_get (D := (dC, dI)) (ci := 10) (v := .ref (d 2)) (C := RX11) (T := TX11) (N := 9) hx hb hts (by decide +kernel) hown hK hP kk_4 hk_5 rfl 2 (by decide) (hts (.fieldLink RX11 20 "PageOne" "items" "[LPageOne$Item;") (by decide +kernel)) (fun _ h9 => h9) rfl dX11_enter_12 ?_
    refine lv_aload_n hx hb dX11_enter_15 rfl (lv_at hl 0 rfl) ?_
    obtain ⟨kk_6, hk_7⟩ := pl_at hI.2.1.1.1 hI.2.2.2.1.1
    refine va_get (D := (dC, dI)) (ci := 10) (v := .int (k 0)) (C := RX11) (T := TX11) (N := 9) hx hb hts (by decide +kernel) hown hK hP kk_6 hk_7 rfl 3 (by decide) (hts (.fieldLink RX11 24 "PageOne" "itemCount" "I") (by decide +kernel)) (fun _ h9 => h9) rfl dX11_enter_16 ?_
    refine lv_aload_n hx hb dX11_enter_19 rfl (lv_at hl 1 rfl) ?_
    obtain ⟨g_8, hs_9, hn_10, hg_11⟩ := x_itm hI
    obtain ⟨kk_12, hk_13⟩ := pl_at hI.2.1.2.2.2.1.1 hs_9
    obtain ⟨kk_14, hk_15⟩ := pl_at hc0.1 hs
    have hD0 := hD
    refine w_cut (X := fun R cells slots Q args => ∀ (H : Heap) (locs : List Loc), va_P (dC, dI) vwCl ((va_pl z.1 f).set kk_12 ((d 2), aR (q 3) 80 (va_up g_8 ((k 0) : Int32).toNatClampNeg (some c0)))) H → va_D A ((va_pl z.1 f).set kk_12 ((d 2), aR (q 3) 80 (va_up g_8 ((k 0) : Int32).toNatClampNeg (some c0)))) → va_S A s.heap H locs → W p l e R s m args below meth c H locs cells slots Q (F0 m 21 ls [])) ?_ (fun kC => ?_)
    ·
      intro H locs hP hD hS
      rw [pl_set hD0 hI.2.1.2.2.2.1.1 hs_9 hk_13] at hP hD
      obtain ⟨f_16, ef_16⟩ : ∃ y : xF, y = va_up f (d 2) (aR (q 3) 80 (va_up g_8 ((k 0) : Int32).toNatClampNeg (some c0))) := ⟨_, rfl⟩
      have hI : xI q h0 d k z f_16 := by rw [ef_16]; exact x_upI hI (nn_up hn_10 (Nat.le_refl _)) (ty_up hg_11 (ty_s hc0))
      have hP : va_P (dC, dI) vwCl (va_pl z.1 f_16) H := by rw [ef_16]; exact hP
      have hD : va_D A (va_pl z.1 f_16) := by rw [ef_16]; exact hD
      have hs_17 : f_16 c0 = .inr (ciT (z.2 c0).1, itF nu kd pa cn fa rs) := by rw [ef_16, up_o (itm_ne hc0 hI.2.1.2.2.2.1 (by decide))]; exact hs
      refine lv_aload_n hx hb dX11_enter_21 rfl (lv_at hl 0 rfl) ?_
      refine lv_dup hx hb dX11_enter_22 rfl ?_
      obtain ⟨kk_18, hk_19⟩ := pl_at hI.2.1.1.1 hI.2.2.2.1.1
      refine va_get (D := (dC, dI)) (ci := 10) (v := .int (k 0)) (C := RX11) (T := TX11) (N := 9) hx hb hts (by decide +kernel) hown hK hP kk_18 hk_19 rfl 3 (by decide) (hts (.fieldLink RX11 24 "PageOne" "itemCount" "I") (by decide +kernel)) (fun _ h9 => h9) rfl dX11_enter_23 ?_
      refine lv_iconst (v := 1) hx hb dX11_enter_26 (by decide) ?_
      refine lv_iadd hx hb dX11_enter_27 ?_
      refine lv_topi (fun x_20 ex_20 => ?_)
      obtain ⟨kk_21, hk_22⟩ := pl_at hI.2.1.1.1 hI.2.2.2.1.1
      have hD0 := hD
      refine va_put (D := (dC, dI)) (ci := 10) (v := .int x_20) (ty := .int) (C := RX11) (T := TX11) (N := 9) hx hb hts (by decide +kernel) tyX11 tyX11_ok nmX11 hown hK hP hD hS kk_21 hk_22 rfl 3 (by decide) (hts (.fieldLink RX11 24 "PageOne" "itemCount" "I") (by decide +kernel)) (fun _ h9 => h9) rfl (by decide +kernel) rfl rfl (Nat.le_of_ble_eq_true rfl) dX11_enter_28 (fun H locs hP hD hS => ?_)
      obtain ⟨k_23, ek_23⟩ : ∃ y : Nat → Int32, y = kup k 0 x_20 := ⟨_, rfl⟩
      rw [pl_set hD0 hI.2.1.1.1 hI.2.2.2.1.1 hk_22] at hP hD
      obtain ⟨f_24, ef_24⟩ : ∃ y : xF, y = va_up f_16 h0 (.inr (10, dkF d k_23)) := ⟨_, rfl⟩
      have hP : va_P (dC, dI) vwCl (va_pl z.1 f_24) H := by rw [ef_24, ek_23]; exact hP
      have hD : va_D A (va_pl z.1 f_24) := by rw [ef_24, ek_23]; exact hD
      have hI : xI q h0 d k_23 z f_24 := by rw [ef_24]; exact x_dkI hI (by rw [ek_23]; exact ⟨by rw [kup_s, ex_20]; exact (vIn8 hI.1.1 c_3).2.1, hI.1.2.1, hI.1.2.2⟩) (by rw [ef_16]; exact up_s) (by rw [ek_23, kup_s, ex_20, (vIn8 hI.1.1 c_3).2.2]; exact nn_up1 hn_10)
      have hs_25 : f_24 c0 = .inr (ciT (z.2 c0).1, itF nu kd pa cn fa rs) := by rw [ef_24, up_o (itm_ne hc0 hI.2.1.1 (by decide))]; exact hs_17
      refine lv_aload_n hx hb dX11_enter_31 rfl (lv_at hl 1 rfl) ?_
      obtain ⟨kk_26, hk_27⟩ := pl_at hc0.1 hs_25
      refine w_then (F0 m 35 ls [.int nu]) (fun hgo => ?_) ?_
      ·
        rcases x_tag hc0 with ht9 | ht9 | ht9 | ht9 | ht9 | ht9
        ·
          rw [ht9.2] at hk_27
          exact va_get (D := (dC, dI)) (ci := 2) (v := .int nu) (C := RX2) (T := TX2) (N := 7) hx hb hts (by decide +kernel) hown hK hP kk_26 hk_27 rfl 0 (by decide) (hts (.fieldLink RX11 285 "PageOne$Item" "number" "I") (by decide +kernel)) (fun _ h9 => h9) rfl dX11_enter_32 hgo
        ·
          rw [ht9.2] at hk_27
          exact va_get (D := (dC, dI)) (ci := 3) (v := .int nu) (C := RX3) (T := TX3) (N := 8) hx hb hts (by decide +kernel) hown hK hP kk_26 hk_27 rfl 0 (by decide) (hts (.fieldLink RX11 285 "PageOne$Item" "number" "I") (by decide +kernel)) (fun _ h9 => h9) rfl dX11_enter_32 hgo
        ·
          rw [ht9.2] at hk_27
          exact va_get (D := (dC, dI)) (ci := 4) (v := .int nu) (C := RX5) (T := TX5) (N := 7) hx hb hts (by decide +kernel) hown hK hP kk_26 hk_27 rfl 0 (by decide) (hts (.fieldLink RX11 285 "PageOne$Item" "number" "I") (by decide +kernel)) (fun _ h9 => h9) rfl dX11_enter_32 hgo
        ·
          rw [ht9.2] at hk_27
          exact va_get (D := (dC, dI)) (ci := 5) (v := .int nu) (C := RX6) (T := TX6) (N := 9) hx hb hts (by decide +kernel) hown hK hP kk_26 hk_27 rfl 0 (by decide) (hts (.fieldLink RX11 285 "PageOne$Item" "number" "I") (by decide +kernel)) (fun _ h9 => h9) rfl dX11_enter_32 hgo
        ·
          rw [ht9.2] at hk_27
          exact va_get (D := (dC, dI)) (ci := 6) (v := .int nu) (C := RX7) (T := TX7) (N := 8) hx hb hts (by decide +kernel) hown hK hP kk_26 hk_27 rfl 0 (by decide) (hts (.fieldLink RX11 285 "PageOne$Item" "number" "I") (by decide +kernel)) (fun _ h9 => h9) rfl dX11_enter_32 hgo
        ·
          rw [ht9.2] at hk_27
          exact va_get (D := (dC, dI)) (ci := 9) (v := .int nu) (C := RX10) (T := TX10) (N := 9) hx hb hts (by decide +kernel) hown hK hP kk_26 hk_27 rfl 0 (by decide) (hts (.fieldLink RX11 285 "PageOne$Item" "number" "I") (by decide +kernel)) (fun _ h9 => h9) rfl dX11_enter_32 hgo
      ·
        exact W.iret (v := nu) hx hb hr (fun t ht hW => ⟨⟨nu, (k_23, z, f_24), rfl, ⟨rfl, hI, Or.inr ⟨(lt_not c_3), rfl, by rw [ek_23, ex_20], g_8, hs_9, by rw [ef_24, ef_16]⟩⟩, by rw [ht]; exact hP, hD⟩, hS.F ht⟩) hS.2.2 dX11_enter_35
    ·
      rcases x_tag hc0 with ht9 | ht9 | ht9 | ht9 | ht9 | ht9
      ·
        rw [ht9.2] at hk_15
        exact va_astqO (r := (RX2, TX2, 7)) (E := "PageOne$Item") hx hb hK hP hD hS kk_12 3 kk_14 2 hk_13 rfl hN.cast_X2 hk_15 rfl (vIn8 hI.1.1 c_3).1 dX11_enter_20 (fun H locs hP hD hS => kC H locs hP hD hS)
      ·
        rw [ht9.2] at hk_15
        exact va_astqO (r := (RX3, TX3, 8)) (E := "PageOne$Item") hx hb hK hP hD hS kk_12 3 kk_14 3 hk_13 rfl hN.cast_X3 hk_15 rfl (vIn8 hI.1.1 c_3).1 dX11_enter_20 (fun H locs hP hD hS => kC H locs hP hD hS)
      ·
        rw [ht9.2] at hk_15
        exact va_astqO (r := (RX5, TX5, 7)) (E := "PageOne$Item") hx hb hK hP hD hS kk_12 3 kk_14 4 hk_13 rfl hN.cast_X5 hk_15 rfl (vIn8 hI.1.1 c_3).1 dX11_enter_20 (fun H locs hP hD hS => kC H locs hP hD hS)
      ·
        rw [ht9.2] at hk_15
        exact va_astqO (r := (RX6, TX6, 9)) (E := "PageOne$Item") hx hb hK hP hD hS kk_12 3 kk_14 5 hk_13 rfl hN.cast_X6 hk_15 rfl (vIn8 hI.1.1 c_3).1 dX11_enter_20 (fun H locs hP hD hS => kC H locs hP hD hS)
      ·
        rw [ht9.2] at hk_15
        exact va_astqO (r := (RX7, TX7, 8)) (E := "PageOne$Item") hx hb hK hP hD hS kk_12 3 kk_14 6 hk_13 rfl hN.cast_X7 hk_15 rfl (vIn8 hI.1.1 c_3).1 dX11_enter_20 (fun H locs hP hD hS => kC H locs hP hD hS)
      ·
        rw [ht9.2] at hk_15
        exact va_astqO (r := (RX10, TX10, 9)) (E := "PageOne$Item") hx hb hK hP hD hS kk_12 3 kk_14 9 hk_13 rfl hN.cast_X10 hk_15 rfl (vIn8 hI.1.1 c_3).1 dX11_enter_20 (fun H locs hP hD hS => kC H locs hP hD hS)
  ·
    refine lv_iconst (v := (-1)) hx hb dX11_enter_9 (by decide) ?_
    exact W.iret (v := (-1)) hx hb hr (fun t ht hW => ⟨⟨(-1), (k, z, f), rfl, ⟨rfl, hI, Or.inl ⟨(ge_not c_3), rfl, rfl, rfl⟩⟩, by rw [ht]; exact hP, hD⟩, hS.F ht⟩) hS.2.2 dX11_enter_10
