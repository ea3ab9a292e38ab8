set_option maxHeartbeats 4000000 in
set_option maxRecDepth 100000 in
theorem m_mayMend (l : Launch) (dC : Nat → ClassId) (dI : Nat → Nat → Nat) (h0 : Nat) (v : Nat → Nat) (cI cZ : ClassId) (u : mS) (p0 p1 p2 : Int32) (hi : bw p0 0 79 = true) (hn : bw (u.1 3) 0 80 = true) (hd : bw (u.1 38) 0 399 = true) : Met l yX12_mayMend wsX12_mayMend ({ frames := 3, cells := 0, slots := 0, locals := 66 }) (va_Pc [.ref h0, .int p0, .int p1, .int p2] (PW dC dI (mW h0 v cI cZ u) [(cI, .int), (cZ, .boolean)])) (vp_Si (fun r => r = 0 ∨ r = 1)) 0 0 (fun _ => False) := by
  refine Met.ofW (cc := cX12_mayMend) (maxL := 6) (ret := (some .boolean)) (by decide) rfl ?_
  intro p e s m args below meth c s₁ B hml hv
  obtain ⟨rfl, hP, hK, hN⟩ := hv
  have hx := B.exec
  have hb := B.bytes
  have hr := B.returns
  have hts := atoms_spec (ws := wsX12_mayMend) B.pre
  have hown : s.vm.findClass RX12 = some m.cls := findClass_of_methodNamed B.named
  have hlocks := B.notSynchronized
  have hl := lv_entry ([.ref h0, .int p0, .int p1, .int p2]) (n := 6) (Nat.le_of_ble_eq_true rfl)
  rw [lg_entry_eq]
  generalize (lg_sl ([.ref h0, .int p0, .int p1, .int p2]) ++ List.replicate (6 - (lg_sl ([.ref h0, .int p0, .int p1, .int p2])).length) Slot.unset).toArray = ls at hl ⊢
  have hl : lv_has ls 6 [(0, .ref h0), (1, .int p0), (2, .int p1), (3, .int p2)] := hl
  refine lv_aload_n hx hb dX12_mayMend_0 rfl (lv_at hl 0 rfl) ?_
  refine lv_aload_n hx hb dX12_mayMend_1 rfl (lv_at hl 0 rfl) ?_
  refine va_get (D := (dC, dI)) (ci := 11) (v := .ref (v 9)) (C := RX12) (T := TX12) (N := 52) hx hb hts (by decide +kernel) hown hK hP 0 rfl rfl 9 (by decide) (hts (.fieldLink RX12 34 "PageOneModel" "of" "[I") (by decide +kernel)) (fun _ h9 => h9) rfl dX12_mayMend_2 ?_
  refine lv_iload_n hx hb dX12_mayMend_5 rfl (lv_at hl 1 rfl) ?_
  refine va_iald hx hb hK hP 9 0 rfl rfl (vin hi (by decide)) dX12_mayMend_6 ?_
  refine lv_iconst (v := 0) hx hb dX12_mayMend_7 (by decide) ?_
  refine vp_callSi (va_runV (As := [.int (u.2 9 (p0 : Int32).toNatClampNeg), .int 0]) (rest := []) ⟨hx, hb, hml, hown, hts⟩ (m_printed l dC dI h0 v cI cZ u (u.2 9 (p0 : Int32).toNatClampNeg) 0 hn) (cwV 2 hts gX12_mayMend_X12_printed rfl rfl rfl (by decide +kernel) ⟨Nat.le_of_ble_eq_true rfl, Nat.le_of_ble_eq_true rfl⟩) ⟨pw_fb, va_recv hK hP (ci := 11) (q0 := 0) rfl rfl, fun U hU hW => ⟨rfl, pw_to hU hW hP hK hN⟩⟩ rfl rfl hl.1 rfl (lv_room (Nat.le_of_ble_eq_true rfl)) dX12_mayMend_8 ⟨Nat.le_of_ble_eq_true rfl, Nat.le_of_ble_eq_true rfl⟩).run (fun r hw => ?_)
  generalize r = z_1 at hw ⊢
  have hz_1 := hw
  refine lv_istore (lv' := [(4, .int z_1), (0, .ref h0), (1, .int p0), (2, .int p1), (3, .int p2)]) hx hb dX12_mayMend_11 hl (by decide) rfl (fun ls hl => ?_)
  refine lv_iload hx hb dX12_mayMend_13 (lv_at hl 0 rfl) ?_
  refine lv_if_lt (tgt := 35) hx hb dX12_mayMend_15 (by decide) (fun c_2 => ?_) (fun c_2 => ?_)
  ·
    refine lv_iconst (v := 0) hx hb dX12_mayMend_35 (by decide) ?_
    exact W.zret (v := 0) hx hb hr (by decide) (fun t ht hW => ⟨_, rfl, (by decide), ht⟩) (fun q h => absurd h List.not_mem_nil) dX12_mayMend_36
  ·
    refine lv_iload hx hb dX12_mayMend_18 (lv_at hl 0 rfl) ?_
    refine lv_aload_n hx hb dX12_mayMend_20 rfl (lv_at hl 1 rfl) ?_
    refine va_get (D := (dC, dI)) (ci := 11) (v := .int (u.1 38)) (C := RX12) (T := TX12) (N := 52) hx hb hts (by decide +kernel) hown hK hP 0 rfl rfl 38 (by decide) (hts (.fieldLink RX12 206 "PageOneModel" "day" "I") (by decide +kernel)) (fun _ h9 => h9) rfl dX12_mayMend_21 ?_
    refine lv_icmp_ge (tgt := 35) hx hb dX12_mayMend_24 (by decide) (fun c_3 => ?_) (fun c_3 => ?_)
    ·
      refine lv_iconst (v := 0) hx hb dX12_mayMend_35 (by decide) ?_
      exact W.zret (v := 0) hx hb hr (by decide) (fun t ht hW => ⟨_, rfl, (by decide), ht⟩) (fun q h => absurd h List.not_mem_nil) dX12_mayMend_36
    ·
      refine lv_aload_n hx hb dX12_mayMend_27 rfl (lv_at hl 1 rfl) ?_
      refine lv_iload_n hx hb dX12_mayMend_28 rfl (lv_at hl 2 rfl) ?_
      refine vp_callSi (va_runV (As := [.int p0]) (rest := []) ⟨hx, hb, hml, hown, hts⟩ (m_wasPrintedAhead l dC dI h0 v cI cZ u p0 hi hd) (cwV 1 hts gX12_mayMend_X12_wasPrintedAhead rfl rfl rfl (by decide +kernel) ⟨Nat.le_of_ble_eq_true rfl, Nat.le_of_ble_eq_true rfl⟩) ⟨pw_fb, va_recv hK hP (ci := 11) (q0 := 0) rfl rfl, fun U hU hW => ⟨rfl, pw_to hU hW hP hK hN⟩⟩ rfl rfl hl.1 rfl (lv_room (Nat.le_of_ble_eq_true rfl)) dX12_mayMend_29 ⟨Nat.le_of_ble_eq_true rfl, Nat.le_of_ble_eq_true rfl⟩).run (fun r hw => ?_)
      rcases Bool.eq_false_or_eq_true (mWas u p0 (u.1 38).toNatClampNeg) with b_4 | b_4
      ·
        obtain rfl : r = 1 := b_t hw b_4
        refine lv_if_eq (tgt := 37) hx hb dX12_mayMend_32 (by decide) (fun c_5 => absurd c_5 (by decide)) (fun c_5 => ?_)
        refine lv_iconst (v := 0) hx hb dX12_mayMend_35 (by decide) ?_
        exact W.zret (v := 0) hx hb hr (by decide) (fun t ht hW => ⟨_, rfl, (by decide), ht⟩) (fun q h => absurd h List.not_mem_nil) dX12_mayMend_36
      ·
        obtain rfl : r = 0 := b_f hw b_4
        refine lv_if_eq (tgt := 37) hx hb dX12_mayMend_32 (by decide) (fun c_6 => ?_) (fun c_6 => absurd (by decide) c_6)
        refine lv_aload_n hx hb dX12_mayMend_37 rfl (lv_at hl 1 rfl) ?_
        refine lv_aload_n hx hb dX12_mayMend_38 rfl (lv_at hl 1 rfl) ?_
        refine va_get (D := (dC, dI)) (ci := 11) (v := .ref (v 9)) (C := RX12) (T := TX12) (N := 52) hx hb hts (by decide +kernel) hown hK hP 0 rfl rfl 9 (by decide) (hts (.fieldLink RX12 34 "PageOneModel" "of" "[I") (by decide +kernel)) (fun _ h9 => h9) rfl dX12_mayMend_39 ?_
        refine lv_iload_n hx hb dX12_mayMend_42 rfl (lv_at hl 2 rfl) ?_
        refine va_iald hx hb hK hP 9 0 rfl rfl (vin hi (by decide)) dX12_mayMend_43 ?_
        refine lv_iconst (v := 2) hx hb dX12_mayMend_44 (by decide) ?_
        refine vp_callSi (va_runV (As := [.int (u.2 9 (p0 : Int32).toNatClampNeg), .int 2]) (rest := []) ⟨hx, hb, hml, hown, hts⟩ (m_printed l dC dI h0 v cI cZ u (u.2 9 (p0 : Int32).toNatClampNeg) 2 hn) (cwV 2 hts gX12_mayMend_X12_printed rfl rfl rfl (by decide +kernel) ⟨Nat.le_of_ble_eq_true rfl, Nat.le_of_ble_eq_true rfl⟩) ⟨pw_fb, va_recv hK hP (ci := 11) (q0 := 0) rfl rfl, fun U hU hW => ⟨rfl, pw_to hU hW hP hK hN⟩⟩ rfl rfl hl.1 rfl (lv_room (Nat.le_of_ble_eq_true rfl)) dX12_mayMend_45 ⟨Nat.le_of_ble_eq_true rfl, Nat.le_of_ble_eq_true rfl⟩).run (fun r hw => ?_)
        generalize r = z_7 at hw ⊢
        have hz_7 := hw
        refine lv_istore (lv' := [(5, .int z_7), (4, .int z_1), (0, .ref h0), (1, .int p0), (2, .int p1), (3, .int p2)]) hx hb dX12_mayMend_48 hl (by decide) rfl (fun ls hl => ?_)
        refine lv_iload_n hx hb dX12_mayMend_50 rfl (lv_at hl 4 rfl) ?_
        refine lv_iload hx hb dX12_mayMend_51 (lv_at hl 0 rfl) ?_
        refine lv_icmp_gt (tgt := 77) hx hb dX12_mayMend_53 (by decide) (fun c_8 => ?_) (fun c_8 => ?_)
        ·
          refine lv_iconst (v := 1) hx hb dX12_mayMend_77 (by decide) ?_
          refine lv_goto (tgt := 82) hx hb dX12_mayMend_78 (by decide) ?_
          exact W.zret (v := 1) hx hb hr (by decide) (fun t ht hW => ⟨_, rfl, (by decide), ht⟩) (fun q h => absurd h List.not_mem_nil) dX12_mayMend_82
        ·
          refine lv_iload_n hx hb dX12_mayMend_56 rfl (lv_at hl 4 rfl) ?_
          refine lv_iload hx hb dX12_mayMend_57 (lv_at hl 0 rfl) ?_
          refine lv_icmp_ne (tgt := 81) hx hb dX12_mayMend_59 (by decide) (fun c_9 => ?_) (fun c_9 => ?_)
          ·
            refine lv_iconst (v := 0) hx hb dX12_mayMend_81 (by decide) ?_
            exact W.zret (v := 0) hx hb hr (by decide) (fun t ht hW => ⟨_, rfl, (by decide), ht⟩) (fun q h => absurd h List.not_mem_nil) dX12_mayMend_82
          ·
            refine lv_iload_n hx hb dX12_mayMend_62 rfl (lv_at hl 5 rfl) ?_
            refine lv_aload_n hx hb dX12_mayMend_63 rfl (lv_at hl 2 rfl) ?_
            refine lv_aload_n hx hb dX12_mayMend_64 rfl (lv_at hl 2 rfl) ?_
            refine va_get (D := (dC, dI)) (ci := 11) (v := .ref (v 9)) (C := RX12) (T := TX12) (N := 52) hx hb hts (by decide +kernel) hown hK hP 0 rfl rfl 9 (by decide) (hts (.fieldLink RX12 34 "PageOneModel" "of" "[I") (by decide +kernel)) (fun _ h9 => h9) rfl dX12_mayMend_65 ?_
            refine lv_iload_n hx hb dX12_mayMend_68 rfl (lv_at hl 3 rfl) ?_
            refine va_iald hx hb hK hP 9 0 rfl rfl (vin hi (by decide)) dX12_mayMend_69 ?_
            refine lv_iconst (v := 3) hx hb dX12_mayMend_70 (by decide) ?_
            refine vp_callSi (va_runV (As := [.int (u.2 9 (p0 : Int32).toNatClampNeg), .int 3]) (rest := [.int p2]) ⟨hx, hb, hml, hown, hts⟩ (m_printed l dC dI h0 v cI cZ u (u.2 9 (p0 : Int32).toNatClampNeg) 3 hn) (cwV 2 hts gX12_mayMend_X12_printed rfl rfl rfl (by decide +kernel) ⟨Nat.le_of_ble_eq_true rfl, Nat.le_of_ble_eq_true rfl⟩) ⟨pw_fb, va_recv hK hP (ci := 11) (q0 := 0) rfl rfl, fun U hU hW => ⟨rfl, pw_to hU hW hP hK hN⟩⟩ rfl rfl hl.1 rfl (lv_room (Nat.le_of_ble_eq_true rfl)) dX12_mayMend_71 ⟨Nat.le_of_ble_eq_true rfl, Nat.le_of_ble_eq_true rfl⟩).run (fun r hw => ?_)
            generalize r = z_10 at hw ⊢
            have hz_10 := hw
            refine lv_icmp_lt (tgt := 81) hx hb dX12_mayMend_74 (by decide) (fun c_11 => ?_) (fun c_11 => ?_)
            ·
              refine lv_iconst (v := 0) hx hb dX12_mayMend_81 (by decide) ?_
              exact W.zret (v := 0) hx hb hr (by decide) (fun t ht hW => ⟨_, rfl, (by decide), ht⟩) (fun q h => absurd h List.not_mem_nil) dX12_mayMend_82
            ·
              refine lv_iconst (v := 1) hx hb dX12_mayMend_77 (by decide) ?_
              refine lv_goto (tgt := 82) hx hb dX12_mayMend_78 (by decide) ?_
              exact W.zret (v := 1) hx hb hr (by decide) (fun t ht hW => ⟨_, rfl, (by decide), ht⟩) (fun q h => absurd h List.not_mem_nil) dX12_mayMend_82
/-- the same but for the three wrongs -/
def mE (u w : mS) : Prop := w.2 = u.2 ∧ ∀ k, k ≠ 49 → k ≠ 50 → k ≠ 51 → w.1 k = u.1 k
theorem mE_rf (u : mS) : mE u u := ⟨rfl, fun _ _ _ _ => rfl⟩
theorem mE_tr {u v w : mS} (h1 : mE u v) (h2 : mE v w) : mE u w := ⟨h2.1.trans h1.1, fun k a b c => (h2.2 k a b c).trans (h1.2 k a b c)⟩
theorem mE_set {u w : mS} (h : mE u w) {k : Nat} (hk : k = 49 ∨ k = 50 ∨ k = 51) (x : Int32) : mE u (mset w k x) := by
  refine mE_tr h ⟨rfl, fun j a b c => ?_⟩
  unfold mset
  exact if_neg (by omega)
theorem mE_wr {u w w2 : mS} {k a b : Int32} (h : mE u w) (h2 : w2 = mWrongs w k a b) : mE u w2 := by
  have h3 : ∀ x y z : Int32, mE u (mset (mset (mset w 49 x) 50 y) 51 z) := fun x y z => mE_set (mE_set (mE_set h (Or.inl rfl) x) (Or.inr (Or.inl rfl)) y) (Or.inr (Or.inr rfl)) z
  rw [h2]
  unfold mWrongs
  dsimp only
  repeat' split
  all_goals first | exact h | exact h3 _ _ _
theorem mE_b {u w : mS} (h : mE u w) (hk : ∀ j, j < 80 → u.2 4 j = 3 → bw (u.2 10 j) 0 9 = true) {i : Int32} (hi : bw i 0 79 = true) (hc : w.2 4 i.toNatClampNeg = 3) : bw (w.2 10 i.toNatClampNeg) 0 9 = true := by
  rw [h.1] at hc ⊢
  exact hk _ (vlt (vin hi (by decide))) hc
theorem vNm {i b : Int32} (hi : bw i 0 79 = true) (hb : bw b 0 9 = true) : vp_in (10 * i + b) 800 := by
  have h10 : (10 : Int32).toInt = 10 := rfl
  have h79 : (79 : Int32).toInt = 79 := rfl
  have h9 : (9 : Int32).toInt = 9 := rfl
  have h1 := bw_iff.mp hi
  have h2 := bw_iff.mp hb
  rw [i0, h79] at h1
  rw [i0, h9] at h2
  have e1 : (10 * i).toInt = 10 * i.toInt := by rw [mulI (by rw [h10]; omega) (by rw [h10]; omega), h10]
  rw [vp_in_iff, addI (by rw [e1]; omega) (by rw [e1]; omega), e1]; omega
set_option maxHeartbeats 4000000 in
set_option maxRecDepth 100000 in
theorem m_beside (l : Launch) (dC : Nat → ClassId) (dI : Nat → Nat → Nat) (h0 : Nat) (v : Nat → Nat) (cI cZ : ClassId) (u : mS) (p0 p1 p2 : Int32) (ha9 : mThing p0 = true → bw p0 0 79 = true) (hb9 : mThing p1 = true → bw p1 0 79 = true) (hk : ∀ j, j < 80 → u.2 4 j = 3 → bw (u.2 10 j) 0 9 = true) (sz : Nat) : Met l yX12_beside wsX12_beside ({ frames := 1, cells := 0, slots := 0, locals := 25 }) (va_Pc [.ref h0, .int p0, .int p1, .int p2] (fun U => U.heap.size = sz ∧ PW dC dI (mW h0 v cI cZ u) [(cI, .int), (cZ, .boolean)] U ∧ va_D (fun _ => True) (mW h0 v cI cZ u))) (va_Qv (fun u9 : mS => mE u u9) (fun u9 t => va_P (dC, dI) vwCl (mW h0 v cI cZ u9) t.heap ∧ va_D (va_A (mW h0 v cI cZ u) sz) (mW h0 v cI cZ u9)) (va_A (mW h0 v cI cZ u) sz)) 0 0 (va_A (mW h0 v cI cZ u) sz) := by
  refine Met.ofW (cc := cX12_beside) (maxL := 4) (ret := none) (by decide) rfl ?_
  intro p e s m args below meth c s₁ B hml hv
  obtain ⟨rfl, hsz, ⟨hP, hK, hN⟩, hD0⟩ := hv
  have hx := B.exec
  have hb := B.bytes
  have hr := B.returns
  have hts := atoms_spec (ws := wsX12_beside) B.pre
  have hown : s.vm.findClass RX12 = some m.cls := findClass_of_methodNamed B.named
  have hlocks := B.notSynchronized
  subst hsz
  have hD := hD0.self (sz := s.heap.size)
  generalize hAe : va_A (mW h0 v cI cZ u) s.heap.size = A at hD ⊢
  have hA : ∀ q : Nat, s.heap.size ≤ q → A q := fun q h => by rw [← hAe]; exact Or.inr h
  have hS : va_S A s.heap s.heap [] := va_S.rf
  have hl := lv_entry ([.ref h0, .int p0, .int p1, .int p2]) (n := 4) (Nat.le_of_ble_eq_true rfl)
  rw [lg_entry_eq]
  generalize (lg_sl ([.ref h0, .int p0, .int p1, .int p2]) ++ List.replicate (4 - (lg_sl ([.ref h0, .int p0, .int p1, .int p2])).length) Slot.unset).toArray = ls at hl ⊢
  have hl : lv_has ls 4 [(0, .ref h0), (1, .int p0), (2, .int p1), (3, .int p2)] := hl
  refine lv_aload_n hx hb dX12_beside_0 rfl (lv_at hl 0 rfl) ?_
  refine lv_iload_n hx hb dX12_beside_1 rfl (lv_at hl 1 rfl) ?_
  refine vp_callSi (va_runV (As := [.int p0]) (rest := []) ⟨hx, hb, hml, hown, hts⟩ (m_isThing l dC dI h0 v cI cZ u p0) (cwV 1 hts gX12_beside_X12_isThing rfl rfl rfl (by decide +kernel) ⟨Nat.le_of_ble_eq_true rfl, Nat.le_of_ble_eq_true rfl⟩) ⟨pw_fb, va_recv hK hP (ci := 11) (q0 := 0) rfl rfl, fun U hU hW => ⟨rfl, pw_to hU hW hP hK hN⟩⟩ rfl rfl hl.1 rfl (lv_room (Nat.le_of_ble_eq_true rfl)) dX12_beside_2 ⟨Nat.le_of_ble_eq_true rfl, Nat.le_of_ble_eq_true rfl⟩).run (fun r hw => ?_)
  rcases Bool.eq_false_or_eq_true (mThing p0) with b_1 | b_1
  ·
    obtain rfl : r = 1 := b_t hw b_1
    refine lv_if_eq (tgt := 21) hx hb dX12_beside_5 (by decide) (fun c_2 => absurd c_2 (by decide)) (fun c_2 => ?_)
    refine lv_aload_n hx hb dX12_beside_8 rfl (lv_at hl 0 rfl) ?_
    refine lv_iload_n hx hb dX12_beside_9 rfl (lv_at hl 2 rfl) ?_
    refine vp_callSi (va_runV (As := [.int p1]) (rest := []) ⟨hx, hb, hml, hown, hts⟩ (m_isThing l dC dI h0 v cI cZ u p1) (cwV 1 hts gX12_beside_X12_isThing rfl rfl rfl (by decide +kernel) ⟨Nat.le_of_ble_eq_true rfl, Nat.le_of_ble_eq_true rfl⟩) ⟨pw_fb, va_recv hK hP (ci := 11) (q0 := 0) rfl rfl, fun U hU hW => ⟨rfl, pw_to hU hW hP hK hN⟩⟩ rfl rfl hl.1 rfl (lv_room (Nat.le_of_ble_eq_true rfl)) dX12_beside_10 ⟨Nat.le_of_ble_eq_true rfl, Nat.le_of_ble_eq_true rfl⟩).run (fun r hw => ?_)
    rcases Bool.eq_false_or_eq_true (mThing p1) with b_3 | b_3
    ·
      obtain rfl : r = 1 := b_t hw b_3
      refine lv_if_eq (tgt := 21) hx hb dX12_beside_13 (by decide) (fun c_4 => absurd c_4 (by decide)) (fun c_4 => ?_)
      refine lv_iload_n hx hb dX12_beside_16 rfl (lv_at hl 1 rfl) ?_
      refine lv_iload_n hx hb dX12_beside_17 rfl (lv_at hl 2 rfl) ?_
      refine lv_icmp_ne (tgt := 22) hx hb dX12_beside_18 (by decide) (fun c_5 => ?_) (fun c_5 => ?_)
      ·
        have hA9 := ha9 b_1
        have hB9 := hb9 b_3
        have hg : mE u u := mE_rf u
        refine w_cut (X := fun R cells slots Q args => ∀ (uJ156 : mS) (H : Heap) (locs : List Loc) (ls : Array Slot), mE u uJ156 → va_P (dC, dI) vwCl (mW h0 v cI cZ uJ156) H → va_D A (mW h0 v cI cZ uJ156) → va_S A s.heap H locs → lv_has ls 4 [(0, .ref h0), (1, .int p0), (2, .int p1), (3, .int p2)] → W p l e R s m args below meth c H locs cells slots Q (F0 m 156 ls [])) ?_ (fun kJ156 => ?_)
        ·
          intro uJ156 H locs ls hg hP hD hS hl
          refine lv_iload_n hx hb dX12_beside_156 rfl (lv_at hl 3 rfl) ?_
          refine lv_if_eq (tgt := 187) hx hb dX12_beside_157 (by decide) (fun c_6 => ?_) (fun c_6 => ?_)
          ·
            exact W.vret hx hb hr (fun t ht hW => ⟨⟨uJ156, rfl, hg, by rw [ht]; exact hP, hD⟩, hS.F ht⟩) hS.2.2 dX12_beside_187
          ·
            refine lv_aload_n hx hb dX12_beside_160 rfl (lv_at hl 0 rfl) ?_
            refine va_get (D := (dC, dI)) (ci := 11) (v := .ref (v 4)) (C := RX12) (T := TX12) (N := 52) hx hb hts (by decide +kernel) hown hK hP 0 rfl rfl 4 (by decide) (hts (.fieldLink RX12 19 "PageOneModel" "kind" "[I") (by decide +kernel)) (fun _ h9 => h9) rfl dX12_beside_161 ?_
            refine lv_iload_n hx hb dX12_beside_164 rfl (lv_at hl 1 rfl) ?_
            refine va_iald hx hb hK hP 4 0 rfl rfl (vin hA9 (by decide)) dX12_beside_165 ?_
            refine lv_iconst (v := 1) hx hb dX12_beside_166 (by decide) ?_
            refine lv_icmp_ne (tgt := 187) hx hb dX12_beside_167 (by decide) (fun c_7 => ?_) (fun c_7 => ?_)
            ·
              exact W.vret hx hb hr (fun t ht hW => ⟨⟨uJ156, rfl, hg, by rw [ht]; exact hP, hD⟩, hS.F ht⟩) hS.2.2 dX12_beside_187
            ·
              refine lv_aload_n hx hb dX12_beside_170 rfl (lv_at hl 0 rfl) ?_
              refine va_get (D := (dC, dI)) (ci := 11) (v := .ref (v 4)) (C := RX12) (T := TX12) (N := 52) hx hb hts (by decide +kernel) hown hK hP 0 rfl rfl 4 (by decide) (hts (.fieldLink RX12 19 "PageOneModel" "kind" "[I") (by decide +kernel)) (fun _ h9 => h9) rfl dX12_beside_171 ?_
              refine lv_iload_n hx hb dX12_beside_174 rfl (lv_at hl 2 rfl) ?_
              refine va_iald hx hb hK hP 4 0 rfl rfl (vin hB9 (by decide)) dX12_beside_175 ?_
              refine lv_iconst (v := 1) hx hb dX12_beside_176 (by decide) ?_
              refine lv_icmp_ne (tgt := 187) hx hb dX12_beside_177 (by decide) (fun c_8 => ?_) (fun c_8 => ?_)
              ·
                exact W.vret hx hb hr (fun t ht hW => ⟨⟨uJ156, rfl, hg, by rw [ht]; exact hP, hD⟩, hS.F ht⟩) hS.2.2 dX12_beside_187
              ·
                refine lv_aload_n hx hb dX12_beside_180 rfl (lv_at hl 0 rfl) ?_
                refine lv_iconst (v := 3) hx hb dX12_beside_181 (by decide) ?_
                refine lv_iload_n hx hb dX12_beside_182 rfl (lv_at hl 1 rfl) ?_
                refine lv_iload_n hx hb dX12_beside_183 rfl (lv_at hl 2 rfl) ?_
                have hFc := fr_all hD hS hA
                refine va_callv (va_runV (As := [.int 3, .int p0, .int p1]) (rest := []) ⟨hx, hb, hml, hown, hts⟩ (m_wrongs l dC dI h0 v cI cZ uJ156 3 p0 p1 H.size) (cwV 3 hts gX12_beside_X12_wrongs rfl rfl rfl (by decide +kernel) ⟨Nat.le_of_ble_eq_true rfl, Nat.le_of_ble_eq_true rfl⟩) ⟨gw_fb, va_recv hK hP (ci := 11) (q0 := 0) rfl rfl, fun U hU hW => ⟨rfl, by rw [hU], pw_to hU hW hP hK hN, hD.weaken (fun _ _ _ _ => trivial)⟩⟩ rfl rfl hl.1 rfl (lv_room (Nat.le_of_ble_eq_true rfl)) dX12_beside_184 ⟨Nat.le_of_ble_eq_true rfl, Nat.le_of_ble_eq_true rfl⟩) hS (fun q _ h => hFc q h) hFc (fun u_9 t H1 locs ht hvm hw hB hz1 hk1 hS => ?_)
                obtain ⟨hP, hD1⟩ := hB
                rw [ht] at hP
                have hD := hD1.weaken (fun _ q _ h => hFc q.1 h)
                generalize H1 = H at hP hS ⊢
                have hg := mE_wr hg hw
                exact W.vret hx hb hr (fun t ht hW => ⟨⟨u_9, rfl, hg, by rw [ht]; exact hP, hD⟩, hS.F ht⟩) hS.2.2 dX12_beside_187
        ·
          refine w_cut (X := fun R cells slots Q args => ∀ (uJ149 : mS) (H : Heap) (locs : List Loc) (ls : Array Slot), mE u uJ149 → va_P (dC, dI) vwCl (mW h0 v cI cZ uJ149) H → va_D A (mW h0 v cI cZ uJ149) → va_S A s.heap H locs → lv_has ls 4 [(0, .ref h0), (1, .int p0), (2, .int p1), (3, .int p2)] → W p l e R s m args below meth c H locs cells slots Q (F0 m 149 ls [])) ?_ (fun kJ149 => ?_)
          ·
            intro uJ149 H locs ls hg hP hD hS hl
            refine lv_aload_n hx hb dX12_beside_149 rfl (lv_at hl 0 rfl) ?_
            refine lv_iconst (v := 2) hx hb dX12_beside_150 (by decide) ?_
            refine lv_iload_n hx hb dX12_beside_151 rfl (lv_at hl 1 rfl) ?_
            refine lv_iload_n hx hb dX12_beside_152 rfl (lv_at hl 2 rfl) ?_
            have hFc := fr_all hD hS hA
            refine va_callv (va_runV (As := [.int 2, .int p0, .int p1]) (rest := []) ⟨hx, hb, hml, hown, hts⟩ (m_wrongs l dC dI h0 v cI cZ uJ149 2 p0 p1 H.size) (cwV 3 hts gX12_beside_X12_wrongs rfl rfl rfl (by decide +kernel) ⟨Nat.le_of_ble_eq_true rfl, Nat.le_of_ble_eq_true rfl⟩) ⟨gw_fb, va_recv hK hP (ci := 11) (q0 := 0) rfl rfl, fun U hU hW => ⟨rfl, by rw [hU], pw_to hU hW hP hK hN, hD.weaken (fun _ _ _ _ => trivial)⟩⟩ rfl rfl hl.1 rfl (lv_room (Nat.le_of_ble_eq_true rfl)) dX12_beside_153 ⟨Nat.le_of_ble_eq_true rfl, Nat.le_of_ble_eq_true rfl⟩) hS (fun q _ h => hFc q h) hFc (fun u_10 t H1 locs ht hvm hw hB hz1 hk1 hS => ?_)
            obtain ⟨hP, hD1⟩ := hB
            rw [ht] at hP
            have hD := hD1.weaken (fun _ q _ h => hFc q.1 h)
            generalize H1 = H at hP hS ⊢
            have hg := mE_wr hg hw
            exact kJ156 _ _ _ ls hg hP hD hS (lv_sub hl [0, 1, 2, 3] rfl)
          ·
            refine w_cut (X := fun R cells slots Q args => ∀ (uJ111 : mS) (H : Heap) (locs : List Loc) (ls : Array Slot), mE u uJ111 → va_P (dC, dI) vwCl (mW h0 v cI cZ uJ111) H → va_D A (mW h0 v cI cZ uJ111) → va_S A s.heap H locs → lv_has ls 4 [(0, .ref h0), (1, .int p0), (2, .int p1), (3, .int p2)] → W p l e R s m args below meth c H locs cells slots Q (F0 m 111 ls [])) ?_ (fun kJ111 => ?_)
            ·
              intro uJ111 H locs ls hg hP hD hS hl
              refine lv_aload_n hx hb dX12_beside_111 rfl (lv_at hl 0 rfl) ?_
              refine va_get (D := (dC, dI)) (ci := 11) (v := .ref (v 4)) (C := RX12) (T := TX12) (N := 52) hx hb hts (by decide +kernel) hown hK hP 0 rfl rfl 4 (by decide) (hts (.fieldLink RX12 19 "PageOneModel" "kind" "[I") (by decide +kernel)) (fun _ h9 => h9) rfl dX12_beside_112 ?_
              refine lv_iload_n hx hb dX12_beside_115 rfl (lv_at hl 2 rfl) ?_
              refine va_iald hx hb hK hP 4 0 rfl rfl (vin hB9 (by decide)) dX12_beside_116 ?_
              refine lv_iconst (v := 3) hx hb dX12_beside_117 (by decide) ?_
              refine lv_icmp_ne (tgt := 156) hx hb dX12_beside_118 (by decide) (fun c_11 => ?_) (fun c_11 => ?_)
              ·
                exact kJ156 _ _ _ ls hg hP hD hS (lv_sub hl [0, 1, 2, 3] rfl)
              ·
                refine lv_aload_n hx hb dX12_beside_121 rfl (lv_at hl 0 rfl) ?_
                refine va_get (D := (dC, dI)) (ci := 11) (v := .ref (v 4)) (C := RX12) (T := TX12) (N := 52) hx hb hts (by decide +kernel) hown hK hP 0 rfl rfl 4 (by decide) (hts (.fieldLink RX12 19 "PageOneModel" "kind" "[I") (by decide +kernel)) (fun _ h9 => h9) rfl dX12_beside_122 ?_
                refine lv_iload_n hx hb dX12_beside_125 rfl (lv_at hl 1 rfl) ?_
                refine va_iald hx hb hK hP 4 0 rfl rfl (vin hA9 (by decide)) dX12_beside_126 ?_
                refine lv_if_ne (tgt := 156) hx hb dX12_beside_127 (by decide) (fun c_12 => ?_) (fun c_12 => ?_)
                ·
                  exact kJ156 _ _ _ ls hg hP hD hS (lv_sub hl [0, 1, 2, 3] rfl)
                ·
                  refine lv_aload_n hx hb dX12_beside_130 rfl (lv_at hl 0 rfl) ?_
                  refine va_get (D := (dC, dI)) (ci := 11) (v := .ref (v 21)) (C := RX12) (T := TX12) (N := 52) hx hb hts (by decide +kernel) hown hK hP 0 rfl rfl 21 (by decide) (hts (.fieldLink RX12 71 "PageOneModel" "isNamed" "[Z") (by decide +kernel)) (fun _ h9 => h9) rfl dX12_beside_131 ?_
                  refine lv_bipush (v := 10) hx hb dX12_beside_134 (by decide) ?_
                  refine lv_iload_n hx hb dX12_beside_136 rfl (lv_at hl 1 rfl) ?_
                  refine lv_imul hx hb dX12_beside_137 ?_
                  refine lv_aload_n hx hb dX12_beside_138 rfl (lv_at hl 0 rfl) ?_
                  refine va_get (D := (dC, dI)) (ci := 11) (v := .ref (v 10)) (C := RX12) (T := TX12) (N := 52) hx hb hts (by decide +kernel) hown hK hP 0 rfl rfl 10 (by decide) (hts (.fieldLink RX12 37 "PageOneModel" "buyer" "[I") (by decide +kernel)) (fun _ h9 => h9) rfl dX12_beside_139 ?_
                  refine lv_iload_n hx hb dX12_beside_142 rfl (lv_at hl 2 rfl) ?_
                  refine va_iald hx hb hK hP 10 0 rfl rfl (vin hB9 (by decide)) dX12_beside_143 ?_
                  refine lv_iadd hx hb dX12_beside_144 ?_
                  refine va_zald hx hb hK hP 21 1 rfl rfl (vNm hA9 (mE_b hg hk hB9 c_11)) dX12_beside_145 ?_
                  refine lv_if_eq (tgt := 156) hx hb dX12_beside_146 (by decide) (fun c_13 => ?_) (fun c_13 => ?_)
                  ·
                    exact kJ156 _ _ _ ls hg hP hD hS (lv_sub hl [0, 1, 2, 3] rfl)
                  ·
                    exact kJ149 _ _ _ ls hg hP hD hS (lv_sub hl [0, 1, 2, 3] rfl)
            ·
              refine w_cut (X := fun R cells slots Q args => ∀ (uJ73 : mS) (H : Heap) (locs : List Loc) (ls : Array Slot), mE u uJ73 → va_P (dC, dI) vwCl (mW h0 v cI cZ uJ73) H → va_D A (mW h0 v cI cZ uJ73) → va_S A s.heap H locs → lv_has ls 4 [(0, .ref h0), (1, .int p0), (2, .int p1), (3, .int p2)] → W p l e R s m args below meth c H locs cells slots Q (F0 m 73 ls [])) ?_ (fun kJ73 => ?_)
              ·
                intro uJ73 H locs ls hg hP hD hS hl
                refine lv_aload_n hx hb dX12_beside_73 rfl (lv_at hl 0 rfl) ?_
                refine va_get (D := (dC, dI)) (ci := 11) (v := .ref (v 4)) (C := RX12) (T := TX12) (N := 52) hx hb hts (by decide +kernel) hown hK hP 0 rfl rfl 4 (by decide) (hts (.fieldLink RX12 19 "PageOneModel" "kind" "[I") (by decide +kernel)) (fun _ h9 => h9) rfl dX12_beside_74 ?_
                refine lv_iload_n hx hb dX12_beside_77 rfl (lv_at hl 1 rfl) ?_
                refine va_iald hx hb hK hP 4 0 rfl rfl (vin hA9 (by decide)) dX12_beside_78 ?_
                refine lv_iconst (v := 3) hx hb dX12_beside_79 (by decide) ?_
                refine lv_icmp_ne (tgt := 111) hx hb dX12_beside_80 (by decide) (fun c_14 => ?_) (fun c_14 => ?_)
                ·
                  exact kJ111 _ _ _ ls hg hP hD hS (lv_sub hl [0, 1, 2, 3] rfl)
                ·
                  refine lv_aload_n hx hb dX12_beside_83 rfl (lv_at hl 0 rfl) ?_
                  refine va_get (D := (dC, dI)) (ci := 11) (v := .ref (v 4)) (C := RX12) (T := TX12) (N := 52) hx hb hts (by decide +kernel) hown hK hP 0 rfl rfl 4 (by decide) (hts (.fieldLink RX12 19 "PageOneModel" "kind" "[I") (by decide +kernel)) (fun _ h9 => h9) rfl dX12_beside_84 ?_
                  refine lv_iload_n hx hb dX12_beside_87 rfl (lv_at hl 2 rfl) ?_
                  refine va_iald hx hb hK hP 4 0 rfl rfl (vin hB9 (by decide)) dX12_beside_88 ?_
                  refine lv_if_ne (tgt := 111) hx hb dX12_beside_89 (by decide) (fun c_15 => ?_) (fun c_15 => ?_)
                  ·
                    exact kJ111 _ _ _ ls hg hP hD hS (lv_sub hl [0, 1, 2, 3] rfl)
                  ·
                    refine lv_aload_n hx hb dX12_beside_92 rfl (lv_at hl 0 rfl) ?_
                    refine va_get (D := (dC, dI)) (ci := 11) (v := .ref (v 21)) (C := RX12) (T := TX12) (N := 52) hx hb hts (by decide +kernel) hown hK hP 0 rfl rfl 21 (by decide) (hts (.fieldLink RX12 71 "PageOneModel" "isNamed" "[Z") (by decide +kernel)) (fun _ h9 => h9) rfl dX12_beside_93 ?_
                    refine lv_bipush (v := 10) hx hb dX12_beside_96 (by decide) ?_
                    refine lv_iload_n hx hb dX12_beside_98 rfl (lv_at hl 2 rfl) ?_
                    refine lv_imul hx hb dX12_beside_99 ?_
                    refine lv_aload_n hx hb dX12_beside_100 rfl (lv_at hl 0 rfl) ?_
                    refine va_get (D := (dC, dI)) (ci := 11) (v := .ref (v 10)) (C := RX12) (T := TX12) (N := 52) hx hb hts (by decide +kernel) hown hK hP 0 rfl rfl 10 (by decide) (hts (.fieldLink RX12 37 "PageOneModel" "buyer" "[I") (by decide +kernel)) (fun _ h9 => h9) rfl dX12_beside_101 ?_
                    refine lv_iload_n hx hb dX12_beside_104 rfl (lv_at hl 1 rfl) ?_
                    refine va_iald hx hb hK hP 10 0 rfl rfl (vin hA9 (by decide)) dX12_beside_105 ?_
                    refine lv_iadd hx hb dX12_beside_106 ?_
                    refine va_zald hx hb hK hP 21 1 rfl rfl (vNm hB9 (mE_b hg hk hA9 c_14)) dX12_beside_107 ?_
                    refine lv_if_ne (tgt := 149) hx hb dX12_beside_108 (by decide) (fun c_16 => ?_) (fun c_16 => ?_)
                    ·
                      exact kJ149 _ _ _ ls hg hP hD hS (lv_sub hl [0, 1, 2, 3] rfl)
                    ·
                      exact kJ111 _ _ _ ls hg hP hD hS (lv_sub hl [0, 1, 2, 3] rfl)
              ·
                refine lv_aload_n hx hb dX12_beside_22 rfl (lv_at hl 0 rfl) ?_
                refine va_get (D := (dC, dI)) (ci := 11) (v := .ref (v 4)) (C := RX12) (T := TX12) (N := 52) hx hb hts (by decide +kernel) hown hK hP 0 rfl rfl 4 (by decide) (hts (.fieldLink RX12 19 "PageOneModel" "kind" "[I") (by decide +kernel)) (fun _ h9 => h9) rfl dX12_beside_23 ?_
                refine lv_iload_n hx hb dX12_beside_26 rfl (lv_at hl 1 rfl) ?_
                refine va_iald hx hb hK hP 4 0 rfl rfl (vin hA9 (by decide)) dX12_beside_27 ?_
                refine lv_iconst (v := 3) hx hb dX12_beside_28 (by decide) ?_
                refine lv_icmp_ne (tgt := 73) hx hb dX12_beside_29 (by decide) (fun c_17 => ?_) (fun c_17 => ?_)
                ·
                  exact kJ73 _ _ _ ls hg hP hD hS (lv_sub hl [0, 1, 2, 3] rfl)
                ·
                  refine lv_aload_n hx hb dX12_beside_32 rfl (lv_at hl 0 rfl) ?_
                  refine va_get (D := (dC, dI)) (ci := 11) (v := .ref (v 4)) (C := RX12) (T := TX12) (N := 52) hx hb hts (by decide +kernel) hown hK hP 0 rfl rfl 4 (by decide) (hts (.fieldLink RX12 19 "PageOneModel" "kind" "[I") (by decide +kernel)) (fun _ h9 => h9) rfl dX12_beside_33 ?_
                  refine lv_iload_n hx hb dX12_beside_36 rfl (lv_at hl 2 rfl) ?_
                  refine va_iald hx hb hK hP 4 0 rfl rfl (vin hB9 (by decide)) dX12_beside_37 ?_
                  refine lv_iconst (v := 3) hx hb dX12_beside_38 (by decide) ?_
                  refine lv_icmp_ne (tgt := 73) hx hb dX12_beside_39 (by decide) (fun c_18 => ?_) (fun c_18 => ?_)
                  ·
                    exact kJ73 _ _ _ ls hg hP hD hS (lv_sub hl [0, 1, 2, 3] rfl)
                  ·
                    refine lv_aload_n hx hb dX12_beside_42 rfl (lv_at hl 0 rfl) ?_
                    refine va_get (D := (dC, dI)) (ci := 11) (v := .ref (v 20)) (C := RX12) (T := TX12) (N := 52) hx hb hts (by decide +kernel) hown hK hP 0 rfl rfl 20 (by decide) (hts (.fieldLink RX12 67 "PageOneModel" "isRival" "[Z") (by decide +kernel)) (fun _ h9 => h9) rfl dX12_beside_43 ?_
                    refine lv_bipush (v := 10) hx hb dX12_beside_46 (by decide) ?_
                    refine lv_aload_n hx hb dX12_beside_48 rfl (lv_at hl 0 rfl) ?_
                    refine va_get (D := (dC, dI)) (ci := 11) (v := .ref (v 10)) (C := RX12) (T := TX12) (N := 52) hx hb hts (by decide +kernel) hown hK hP 0 rfl rfl 10 (by decide) (hts (.fieldLink RX12 37 "PageOneModel" "buyer" "[I") (by decide +kernel)) (fun _ h9 => h9) rfl dX12_beside_49 ?_
                    refine lv_iload_n hx hb dX12_beside_52 rfl (lv_at hl 1 rfl) ?_
                    refine va_iald hx hb hK hP 10 0 rfl rfl (vin hA9 (by decide)) dX12_beside_53 ?_
                    refine lv_imul hx hb dX12_beside_54 ?_
                    refine lv_aload_n hx hb dX12_beside_55 rfl (lv_at hl 0 rfl) ?_
                    refine va_get (D := (dC, dI)) (ci := 11) (v := .ref (v 10)) (C := RX12) (T := TX12) (N := 52) hx hb hts (by decide +kernel) hown hK hP 0 rfl rfl 10 (by decide) (hts (.fieldLink RX12 37 "PageOneModel" "buyer" "[I") (by decide +kernel)) (fun _ h9 => h9) rfl dX12_beside_56 ?_
                    refine lv_iload_n hx hb dX12_beside_59 rfl (lv_at hl 2 rfl) ?_
                    refine va_iald hx hb hK hP 10 0 rfl rfl (vin hB9 (by decide)) dX12_beside_60 ?_
                    refine lv_iadd hx hb dX12_beside_61 ?_
                    refine va_zald hx hb hK hP 20 1 rfl rfl (vin10 (mE_b hg hk hA9 c_17) (mE_b hg hk hB9 c_18)) dX12_beside_62 ?_
                    refine lv_if_eq (tgt := 73) hx hb dX12_beside_63 (by decide) (fun c_19 => ?_) (fun c_19 => ?_)
                    ·
                      exact kJ73 _ _ _ ls hg hP hD hS (lv_sub hl [0, 1, 2, 3] rfl)
                    ·
                      refine lv_aload_n hx hb dX12_beside_66 rfl (lv_at hl 0 rfl) ?_
                      refine lv_iconst (v := 1) hx hb dX12_beside_67 (by decide) ?_
                      refine lv_iload_n hx hb dX12_beside_68 rfl (lv_at hl 1 rfl) ?_
                      refine lv_iload_n hx hb dX12_beside_69 rfl (lv_at hl 2 rfl) ?_
                      have hFc := fr_all hD hS hA
                      refine va_callv (va_runV (As := [.int 1, .int p0, .int p1]) (rest := []) ⟨hx, hb, hml, hown, hts⟩ (m_wrongs l dC dI h0 v cI cZ u 1 p0 p1 s.heap.size) (cwV 3 hts gX12_beside_X12_wrongs rfl rfl rfl (by decide +kernel) ⟨Nat.le_of_ble_eq_true rfl, Nat.le_of_ble_eq_true rfl⟩) ⟨gw_fb, va_recv hK hP (ci := 11) (q0 := 0) rfl rfl, fun U hU hW => ⟨rfl, by rw [hU], pw_to hU hW hP hK hN, hD.weaken (fun _ _ _ _ => trivial)⟩⟩ rfl rfl hl.1 rfl (lv_room (Nat.le_of_ble_eq_true rfl)) dX12_beside_70 ⟨Nat.le_of_ble_eq_true rfl, Nat.le_of_ble_eq_true rfl⟩) hS (fun q _ h => hFc q h) hFc (fun u_20 t H1 locs ht hvm hw hB hz1 hk1 hS => ?_)
                      obtain ⟨hP, hD1⟩ := hB
                      rw [ht] at hP
                      have hD := hD1.weaken (fun _ q _ h => hFc q.1 h)
                      generalize H1 = H at hP hS ⊢
                      have hg := mE_wr hg hw
                      exact kJ73 _ _ _ ls hg hP hD hS (lv_sub hl [0, 1, 2, 3] rfl)
      ·
        exact W.vret hx hb hr (fun t ht hW => ⟨⟨u, rfl, mE_rf u, by rw [ht]; exact hP, hD⟩, hS.F ht⟩) hS.2.2 dX12_beside_21
    ·
      obtain rfl : r = 0 := b_f hw b_3
      refine lv_if_eq (tgt := 21) hx hb dX12_beside_13 (by decide) (fun c_21 => ?_) (fun c_21 => absurd (by decide) c_21)
      exact W.vret hx hb hr (fun t ht hW => ⟨⟨u, rfl, mE_rf u, by rw [ht]; exact hP, hD⟩, hS.F ht⟩) hS.2.2 dX12_beside_21
  ·
    obtain rfl : r = 0 := b_f hw b_1
    refine lv_if_eq (tgt := 21) hx hb dX12_beside_5 (by decide) (fun c_22 => ?_) (fun c_22 => absurd (by decide) c_22)
    exact W.vret hx hb hr (fun t ht hW => ⟨⟨u, rfl, mE_rf u, by rw [ht]; exact hP, hD⟩, hS.F ht⟩) hS.2.2 dX12_beside_21
