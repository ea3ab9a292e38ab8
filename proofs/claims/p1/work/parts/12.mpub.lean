set_option maxHeartbeats 4000000 in
set_option maxRecDepth 100000 in
theorem m_column_loop {p : Program} {l : Launch} {e : Env} {R : Room} {s : State} {m : MethodId} {args : Array Value} {below : List Frame} {meth : Method} {c : Code} {Q : State → Prop} {cells slots : Nat} {dC : Nat → ClassId} {dI : Nat → Nat → Nat} {h0 : Nat} {v : Nat → Nat} {cI : ClassId} {p0 p1 p2 : Int32} (hp : bw p0 0 11 = true) (hq : bw p1 0 7 = true) {H : Heap} {locs : List Loc} (hx : p.tables.exec = Jvm.exec) (hb : c.code = cX12_column) (hml : c.maxLocals = 5) (hts : ∀ w ∈ wsX12_column, w.before args s = true) (hown : s.vm.findClass RX12 = some m.cls) (hN : NN s) (hK : va_K (dC, dI) vwCl [(cI, .int)] s) (hRf : 1 ≤ R.frames) (hRl : 22 ≤ R.locals) (hRc : cells ≤ R.cells) (hRs : slots ≤ R.slots) (hP : va_P (dC, dI) vwCl [(h0, .inr (11, mO v 0 0 0 0 0 0 0 0)), ((v 2), .inl (cI, 5760, .inl (fun _ => (-2))))] H) (kx : ∀ (ls : Array Slot), lv_has ls 5 [(4, .int (nI 60)), (0, .ref h0), (1, .int p0), (2, .int p1), (3, .int p2)] → W p l e R s m args below meth c H locs cells slots Q (F0 m 71 ls [])) : ∀ (k i : Nat) (ls : Array Slot), i ≤ 60 → 60 - i < k → lv_has ls 5 [(4, .int (nI i)), (0, .ref h0), (1, .int p0), (2, .int p1), (3, .int p2)] → W p l e R s m args below meth c H locs cells slots Q (F0 m 39 ls []) := by
  intro k
  induction k with
  | zero => intro i ls h1 h2; exact absurd h2 (Nat.not_lt_zero _)
  | succ k ih =>
    intro i ls hi hk hl
    refine lv_iload hx hb dX12_column_39 (lv_at hl 0 rfl) ?_
    refine lv_bipush (v := 60) hx hb dX12_column_41 (by decide) ?_
    refine lv_icmp_ge (tgt := 71) hx hb dX12_column_43 (by decide) (fun c_1 => ?_) (fun c_1 => ?_)
    ·
      have hie : i = 60 := lp_eq rfl (by decide) hi c_1
      subst hie
      exact kx ls (lv_sub hl [0, 1, 2, 3, 4] rfl)
    ·
      have hlt : i < 60 := lp_lt rfl (by decide) hi c_1
      refine lv_aload_n hx hb dX12_column_46 rfl (lv_at hl 1 rfl) ?_
      refine va_get (D := (dC, dI)) (ci := 11) (v := .ref (v 2)) (C := RX12) (T := TX12) (N := 52) hx hb hts (by decide +kernel) hown hK hP 0 rfl rfl 2 (by decide) (hts (.fieldLink RX12 16 "PageOneModel" "cell" "[I") (by decide +kernel)) (fun _ h9 => h9) rfl dX12_column_47 ?_
      refine lv_iload_n hx hb dX12_column_50 rfl (lv_at hl 2 rfl) ?_
      refine lv_iload_n hx hb dX12_column_51 rfl (lv_at hl 3 rfl) ?_
      refine lv_iload hx hb dX12_column_52 (lv_at hl 0 rfl) ?_
      have hPc := hP.sub (ws' := []) [] rfl
      have hKc := hK.sub (tys' := []) [] rfl
      refine vp_callSi (va_runS (As := [.int p0, .int p1, .int (nI i)]) (rest := [.ref (v 2)]) ⟨hx, hb, hml, hown, hts⟩ (m_at l dC dI p0 p1 (nI i)) (va_cwS 3 hts gX12_column_X12_at rfl rfl rfl (by decide +kernel) ⟨hRf, hRl⟩) ⟨pw_fb, fun U hU hW => ⟨rfl, pw_to hU hW hPc hKc hN⟩⟩ rfl rfl hl.1 rfl (lv_room (Nat.le_of_ble_eq_true rfl)) dX12_column_54 ⟨hRc, hRs⟩).run (fun r hw => ?_)
      obtain rfl : r = (480 * p0 + 60 * p1 + (nI i)) := hw
      refine va_iald hx hb hK hP 1 0 rfl rfl (vinC hp hq hlt) dX12_column_57 ?_
      refine lv_topi (fun k_2 ek_2 => ?_)
      obtain rfl : k_2 = (-2) := ek_2
      refine lv_bipush (v := (-2)) hx hb dX12_column_58 (by decide) ?_
      refine lv_icmp_eq (tgt := 65) hx hb dX12_column_60 (by decide) (fun c_3 => ?_) (fun c_3 => absurd (by decide) c_3)
      refine lv_iinc (v := (nI (i + 1))) (lv' := [(4, .int (nI (i + 1))), (0, .ref h0), (1, .int p0), (2, .int p1), (3, .int p2)]) hx hb dX12_column_65 hl (k := 0) rfl (nI_1 i) (by decide) rfl (fun ls hl => ?_)
      refine lv_goto (tgt := 39) hx hb dX12_column_68 (by decide) ?_
      exact ih (i + 1) ls (by omega) (by omega) (lv_sub hl [0, 1, 2, 3, 4] rfl)
set_option maxHeartbeats 4000000 in
set_option maxRecDepth 100000 in
theorem m_column (l : Launch) (dC : Nat → ClassId) (dI : Nat → Nat → Nat) (h0 : Nat) (v : Nat → Nat) (cI : ClassId) (p0 p1 p2 : Int32) (sz : Nat) : Met l yX12_column wsX12_column ({ frames := 2, cells := 0, slots := 0, locals := 42 }) (va_Pc [.ref h0, .int p0, .int p1, .int p2] (fun U => U.heap.size = sz ∧ PW dC dI [(h0, .inr (11, mO v 0 0 0 0 0 0 0 0)), ((v 0), .inl (cI, 96, .inl (fun _ => 0))), ((v 2), .inl (cI, 5760, .inl (fun _ => (-2))))] [(cI, .int)] U ∧ va_D (fun _ => True) [(h0, .inr (11, mO v 0 0 0 0 0 0 0 0)), ((v 0), .inl (cI, 96, .inl (fun _ => 0))), ((v 2), .inl (cI, 5760, .inl (fun _ => (-2))))])) (va_Qi (fun (r : Int32) (_ : Unit) => r = bi (bw p0 0 11 && bw p1 0 7 && bw p2 0 60)) (fun _ _ => True) (va_A [(h0, .inr (11, mO v 0 0 0 0 0 0 0 0)), ((v 0), .inl (cI, 96, .inl (fun _ => 0))), ((v 2), .inl (cI, 5760, .inl (fun _ => (-2))))] sz)) 0 0 (va_A [(h0, .inr (11, mO v 0 0 0 0 0 0 0 0)), ((v 0), .inl (cI, 96, .inl (fun _ => 0))), ((v 2), .inl (cI, 5760, .inl (fun _ => (-2))))] sz) := by
  refine Met.ofW (cc := cX12_column) (maxL := 5) (ret := (some .boolean)) (by decide) rfl ?_
  intro p e s m args below meth c s₁ B hml hv
  obtain ⟨rfl, hsz, ⟨hP, hK, hN⟩, hD0⟩ := hv
  have hx := B.exec
  have hb := B.bytes
  have hr := B.returns
  have hts := atoms_spec (ws := wsX12_column) B.pre
  have hown : s.vm.findClass RX12 = some m.cls := findClass_of_methodNamed B.named
  have hlocks := B.notSynchronized
  subst hsz
  have hD := hD0.self (sz := s.heap.size)
  generalize hAe : va_A [(h0, .inr (11, mO v 0 0 0 0 0 0 0 0)), ((v 0), .inl (cI, 96, .inl (fun _ => 0))), ((v 2), .inl (cI, 5760, .inl (fun _ => (-2))))] s.heap.size = A at hD ⊢
  have hA : ∀ q : Nat, s.heap.size ≤ q → A q := fun q h => by rw [← hAe]; exact Or.inr h
  have hS : va_S A s.heap s.heap [] := va_S.rf
  have hP : va_P (dC, dI) vwCl [(h0, .inr (11, mO v 0 0 0 0 0 0 0 0)), ((v 0), .inl (cI, 96, .inl (fun _ => 0))), ((v 2), .inl (cI, 5760, .inl (fun _ => (-2))))] s.heap := hP
  have hl := lv_entry ([.ref h0, .int p0, .int p1, .int p2]) (n := 5) (Nat.le_of_ble_eq_true rfl)
  rw [lg_entry_eq]
  generalize (lg_sl ([.ref h0, .int p0, .int p1, .int p2]) ++ List.replicate (5 - (lg_sl ([.ref h0, .int p0, .int p1, .int p2])).length) Slot.unset).toArray = ls at hl ⊢
  have hl : lv_has ls 5 [(0, .ref h0), (1, .int p0), (2, .int p1), (3, .int p2)] := hl
  refine lv_iload_n hx hb dX12_column_0 rfl (lv_at hl 1 rfl) ?_
  have hPc := hP.sub (ws' := []) [] rfl
  have hKc := hK.sub (tys' := []) [] rfl
  refine vp_callSi (va_runS (As := [.int p0]) (rest := []) ⟨hx, hb, hml, hown, hts⟩ (m_isPage l dC dI p0) (va_cwS 1 hts gX12_column_X12_isPage rfl rfl rfl (by decide +kernel) ⟨Nat.le_of_ble_eq_true rfl, Nat.le_of_ble_eq_true rfl⟩) ⟨pw_fb, fun U hU hW => ⟨rfl, pw_to hU hW hPc hKc hN⟩⟩ rfl rfl hl.1 rfl (lv_room (Nat.le_of_ble_eq_true rfl)) dX12_column_1 ⟨Nat.le_of_ble_eq_true rfl, Nat.le_of_ble_eq_true rfl⟩).run (fun r hw => ?_)
  rcases Bool.eq_false_or_eq_true (bw p0 0 11) with b_1 | b_1
  ·
    obtain rfl : r = 1 := b_t hw b_1
    refine lv_if_eq (tgt := 34) hx hb dX12_column_4 (by decide) (fun c_2 => absurd c_2 (by decide)) (fun c_2 => ?_)
    refine lv_iload_n hx hb dX12_column_7 rfl (lv_at hl 2 rfl) ?_
    refine lv_iconst (v := 0) hx hb dX12_column_8 (by decide) ?_
    refine lv_bipush (v := 7) hx hb dX12_column_9 (by decide) ?_
    have hPc := hP.sub (ws' := []) [] rfl
    have hKc := hK.sub (tys' := []) [] rfl
    refine vp_callSi (va_runS (As := [.int p1, .int 0, .int 7]) (rest := []) ⟨hx, hb, hml, hown, hts⟩ (m_in l dC dI p1 0 7) (va_cwS 3 hts gX12_column_X12_in rfl rfl rfl (by decide +kernel) ⟨Nat.le_of_ble_eq_true rfl, Nat.le_of_ble_eq_true rfl⟩) ⟨pw_fb, fun U hU hW => ⟨rfl, pw_to hU hW hPc hKc hN⟩⟩ rfl rfl hl.1 rfl (lv_room (Nat.le_of_ble_eq_true rfl)) dX12_column_11 ⟨Nat.le_of_ble_eq_true rfl, Nat.le_of_ble_eq_true rfl⟩).run (fun r hw => ?_)
    rcases Bool.eq_false_or_eq_true (bw p1 0 7) with b_3 | b_3
    ·
      obtain rfl : r = 1 := b_t hw b_3
      refine lv_if_eq (tgt := 34) hx hb dX12_column_14 (by decide) (fun c_4 => absurd c_4 (by decide)) (fun c_4 => ?_)
      refine lv_iload_n hx hb dX12_column_17 rfl (lv_at hl 3 rfl) ?_
      refine lv_iconst (v := 0) hx hb dX12_column_18 (by decide) ?_
      refine lv_bipush (v := 60) hx hb dX12_column_19 (by decide) ?_
      have hPc := hP.sub (ws' := []) [] rfl
      have hKc := hK.sub (tys' := []) [] rfl
      refine vp_callSi (va_runS (As := [.int p2, .int 0, .int 60]) (rest := []) ⟨hx, hb, hml, hown, hts⟩ (m_in l dC dI p2 0 60) (va_cwS 3 hts gX12_column_X12_in rfl rfl rfl (by decide +kernel) ⟨Nat.le_of_ble_eq_true rfl, Nat.le_of_ble_eq_true rfl⟩) ⟨pw_fb, fun U hU hW => ⟨rfl, pw_to hU hW hPc hKc hN⟩⟩ rfl rfl hl.1 rfl (lv_room (Nat.le_of_ble_eq_true rfl)) dX12_column_21 ⟨Nat.le_of_ble_eq_true rfl, Nat.le_of_ble_eq_true rfl⟩).run (fun r hw => ?_)
      rcases Bool.eq_false_or_eq_true (bw p2 0 60) with b_5 | b_5
      ·
        obtain rfl : r = 1 := b_t hw b_5
        refine lv_if_eq (tgt := 34) hx hb dX12_column_24 (by decide) (fun c_6 => absurd c_6 (by decide)) (fun c_6 => ?_)
        refine lv_aload_n hx hb dX12_column_27 rfl (lv_at hl 0 rfl) ?_
        refine va_get (D := (dC, dI)) (ci := 11) (v := .int 0) (C := RX12) (T := TX12) (N := 52) hx hb hts (by decide +kernel) hown hK hP 0 rfl rfl 28 (by decide) (hts (.fieldLink RX12 158 "PageOneModel" "acts" "I") (by decide +kernel)) (fun _ h9 => h9) rfl dX12_column_28 ?_
        refine lv_if_le (tgt := 36) hx hb dX12_column_31 (by decide) (fun c_7 => ?_) (fun c_7 => absurd (by decide) c_7)
        refine lv_iconst (v := 0) hx hb dX12_column_36 (by decide) ?_
        refine lv_istore (lv' := [(4, .int 0), (0, .ref h0), (1, .int p0), (2, .int p1), (3, .int p2)]) hx hb dX12_column_37 hl (by decide) rfl (fun ls hl => ?_)
        refine m_column_loop b_1 b_3 hx hb hml hts hown hN (hK.sub [0] rfl) (Nat.le_of_ble_eq_true rfl) (Nat.le_of_ble_eq_true rfl) (Nat.le_of_ble_eq_true rfl) (Nat.le_of_ble_eq_true rfl) (hP.sub [0, 2] rfl) (fun ls hl => ?_) 61 0 ls (by decide) (by decide) (lv_sub hl [0, 1, 2, 3, 4] rfl)
        refine lv_aload_n hx hb dX12_column_71 rfl (lv_at hl 1 rfl) ?_
        refine va_get (D := (dC, dI)) (ci := 11) (v := .ref (v 0)) (C := RX12) (T := TX12) (N := 52) hx hb hts (by decide +kernel) hown hK hP 0 rfl rfl 0 (by decide) (hts (.fieldLink RX12 7 "PageOneModel" "lines" "[I") (by decide +kernel)) (fun _ h9 => h9) rfl dX12_column_72 ?_
        refine lv_bipush (v := 8) hx hb dX12_column_75 (by decide) ?_
        refine lv_iload_n hx hb dX12_column_77 rfl (lv_at hl 2 rfl) ?_
        refine lv_imul hx hb dX12_column_78 ?_
        refine lv_iload_n hx hb dX12_column_79 rfl (lv_at hl 3 rfl) ?_
        refine lv_iadd hx hb dX12_column_80 ?_
        refine lv_iload_n hx hb dX12_column_81 rfl (lv_at hl 4 rfl) ?_
        refine va_iast hx hb hK hP hD hS 1 0 rfl rfl (vin8 b_1 b_3) dX12_column_82 (fun H locs hP hD hS => ?_)
        have hP : va_P (dC, dI) vwCl [(h0, .inr (11, mO v 0 0 0 0 0 0 0 0)), ((v 0), .inl (cI, 96, .inl (upd (fun _ => 0) (((8 * p0) + p1) : Int32).toNatClampNeg p2))), ((v 2), .inl (cI, 5760, .inl (fun _ => (-2))))] H := hP
        have hD : va_D A [(h0, .inr (11, mO v 0 0 0 0 0 0 0 0)), ((v 0), .inl (cI, 96, .inl (upd (fun _ => 0) (((8 * p0) + p1) : Int32).toNatClampNeg p2))), ((v 2), .inl (cI, 5760, .inl (fun _ => (-2))))] := hD
        refine lv_iconst (v := 1) hx hb dX12_column_83 (by decide) ?_
        exact W.zret (v := 1) hx hb hr (by decide) (fun t ht hW => ⟨⟨1, (), rfl, (by simp [bi, b_1, b_3, b_5]), trivial⟩, hS.F ht⟩) hS.2.2 dX12_column_84
      ·
        obtain rfl : r = 0 := b_f hw b_5
        refine lv_if_eq (tgt := 34) hx hb dX12_column_24 (by decide) (fun c_8 => ?_) (fun c_8 => absurd (by decide) c_8)
        refine lv_iconst (v := 0) hx hb dX12_column_34 (by decide) ?_
        exact W.zret (v := 0) hx hb hr (by decide) (fun t ht hW => ⟨⟨0, (), rfl, (by simp [bi, b_1, b_3, b_5]), trivial⟩, hS.F ht⟩) hS.2.2 dX12_column_35
    ·
      obtain rfl : r = 0 := b_f hw b_3
      refine lv_if_eq (tgt := 34) hx hb dX12_column_14 (by decide) (fun c_9 => ?_) (fun c_9 => absurd (by decide) c_9)
      refine lv_iconst (v := 0) hx hb dX12_column_34 (by decide) ?_
      exact W.zret (v := 0) hx hb hr (by decide) (fun t ht hW => ⟨⟨0, (), rfl, (by simp [bi, b_1, b_3]), trivial⟩, hS.F ht⟩) hS.2.2 dX12_column_35
  ·
    obtain rfl : r = 0 := b_f hw b_1
    refine lv_if_eq (tgt := 34) hx hb dX12_column_4 (by decide) (fun c_10 => ?_) (fun c_10 => absurd (by decide) c_10)
    refine lv_iconst (v := 0) hx hb dX12_column_34 (by decide) ?_
    exact W.zret (v := 0) hx hb hr (by decide) (fun t ht hW => ⟨⟨0, (), rfl, (by simp [bi, b_1]), trivial⟩, hS.F ht⟩) hS.2.2 dX12_column_35
set_option maxHeartbeats 4000000 in
set_option maxRecDepth 100000 in
theorem m_measure (l : Launch) (dC : Nat → ClassId) (dI : Nat → Nat → Nat) (h0 : Nat) (v : Nat → Nat) (cI : ClassId) (g1 : Nat → Int32) (p0 p1 : Int32) (sz : Nat) : Met l yX12_measure wsX12_measure ({ frames := 2, cells := 0, slots := 0, locals := 42 }) (va_Pc [.ref h0, .int p0, .int p1] (fun U => U.heap.size = sz ∧ PW dC dI [(h0, .inr (11, mO v 0 0 0 0 0 0 0 0)), ((v 1), .inl (cI, 12, .inl g1)), ((v 2), .inl (cI, 5760, .inl (fun _ => (-2))))] [(cI, .int)] U ∧ va_D (fun _ => True) [(h0, .inr (11, mO v 0 0 0 0 0 0 0 0)), ((v 1), .inl (cI, 12, .inl g1)), ((v 2), .inl (cI, 5760, .inl (fun _ => (-2))))])) (va_Qi (fun (r : Int32) (_ : Unit) => r = bi (bw p0 0 11 && bw p1 1 200)) (fun _ _ => True) (va_A [(h0, .inr (11, mO v 0 0 0 0 0 0 0 0)), ((v 1), .inl (cI, 12, .inl g1)), ((v 2), .inl (cI, 5760, .inl (fun _ => (-2))))] sz)) 0 0 (va_A [(h0, .inr (11, mO v 0 0 0 0 0 0 0 0)), ((v 1), .inl (cI, 12, .inl g1)), ((v 2), .inl (cI, 5760, .inl (fun _ => (-2))))] sz) := by
  refine Met.ofW (cc := cX12_measure) (maxL := 3) (ret := (some .boolean)) (by decide) rfl ?_
  intro p e s m args below meth c s₁ B hml hv
  obtain ⟨rfl, hsz, ⟨hP, hK, hN⟩, hD0⟩ := hv
  have hx := B.exec
  have hb := B.bytes
  have hr := B.returns
  have hts := atoms_spec (ws := wsX12_measure) B.pre
  have hown : s.vm.findClass RX12 = some m.cls := findClass_of_methodNamed B.named
  have hlocks := B.notSynchronized
  subst hsz
  have hD := hD0.self (sz := s.heap.size)
  generalize hAe : va_A [(h0, .inr (11, mO v 0 0 0 0 0 0 0 0)), ((v 1), .inl (cI, 12, .inl g1)), ((v 2), .inl (cI, 5760, .inl (fun _ => (-2))))] s.heap.size = A at hD ⊢
  have hA : ∀ q : Nat, s.heap.size ≤ q → A q := fun q h => by rw [← hAe]; exact Or.inr h
  have hS : va_S A s.heap s.heap [] := va_S.rf
  have hP : va_P (dC, dI) vwCl [(h0, .inr (11, mO v 0 0 0 0 0 0 0 0)), ((v 1), .inl (cI, 12, .inl g1)), ((v 2), .inl (cI, 5760, .inl (fun _ => (-2))))] s.heap := hP
  have hl := lv_entry ([.ref h0, .int p0, .int p1]) (n := 3) (Nat.le_of_ble_eq_true rfl)
  rw [lg_entry_eq]
  generalize (lg_sl ([.ref h0, .int p0, .int p1]) ++ List.replicate (3 - (lg_sl ([.ref h0, .int p0, .int p1])).length) Slot.unset).toArray = ls at hl ⊢
  have hl : lv_has ls 3 [(0, .ref h0), (1, .int p0), (2, .int p1)] := hl
  refine lv_iload_n hx hb dX12_measure_0 rfl (lv_at hl 1 rfl) ?_
  have hPc := hP.sub (ws' := []) [] rfl
  have hKc := hK.sub (tys' := []) [] rfl
  refine vp_callSi (va_runS (As := [.int p0]) (rest := []) ⟨hx, hb, hml, hown, hts⟩ (m_isPage l dC dI p0) (va_cwS 1 hts gX12_measure_X12_isPage rfl rfl rfl (by decide +kernel) ⟨Nat.le_of_ble_eq_true rfl, Nat.le_of_ble_eq_true rfl⟩) ⟨pw_fb, fun U hU hW => ⟨rfl, pw_to hU hW hPc hKc hN⟩⟩ rfl rfl hl.1 rfl (lv_room (Nat.le_of_ble_eq_true rfl)) dX12_measure_1 ⟨Nat.le_of_ble_eq_true rfl, Nat.le_of_ble_eq_true rfl⟩).run (fun r hw => ?_)
  rcases Bool.eq_false_or_eq_true (bw p0 0 11) with b_1 | b_1
  ·
    obtain rfl : r = 1 := b_t hw b_1
    refine lv_if_eq (tgt := 33) hx hb dX12_measure_4 (by decide) (fun c_2 => absurd c_2 (by decide)) (fun c_2 => ?_)
    refine lv_iload_n hx hb dX12_measure_7 rfl (lv_at hl 2 rfl) ?_
    refine lv_iconst (v := 1) hx hb dX12_measure_8 (by decide) ?_
    refine lv_sipush (v := 200) hx hb dX12_measure_9 (by decide) ?_
    have hPc := hP.sub (ws' := []) [] rfl
    have hKc := hK.sub (tys' := []) [] rfl
    refine vp_callSi (va_runS (As := [.int p1, .int 1, .int 200]) (rest := []) ⟨hx, hb, hml, hown, hts⟩ (m_in l dC dI p1 1 200) (va_cwS 3 hts gX12_measure_X12_in rfl rfl rfl (by decide +kernel) ⟨Nat.le_of_ble_eq_true rfl, Nat.le_of_ble_eq_true rfl⟩) ⟨pw_fb, fun U hU hW => ⟨rfl, pw_to hU hW hPc hKc hN⟩⟩ rfl rfl hl.1 rfl (lv_room (Nat.le_of_ble_eq_true rfl)) dX12_measure_12 ⟨Nat.le_of_ble_eq_true rfl, Nat.le_of_ble_eq_true rfl⟩).run (fun r hw => ?_)
    rcases Bool.eq_false_or_eq_true (bw p1 1 200) with b_3 | b_3
    ·
      obtain rfl : r = 1 := b_t hw b_3
      refine lv_if_eq (tgt := 33) hx hb dX12_measure_15 (by decide) (fun c_4 => absurd c_4 (by decide)) (fun c_4 => ?_)
      refine lv_aload_n hx hb dX12_measure_18 rfl (lv_at hl 0 rfl) ?_
      refine va_get (D := (dC, dI)) (ci := 11) (v := .int 0) (C := RX12) (T := TX12) (N := 52) hx hb hts (by decide +kernel) hown hK hP 0 rfl rfl 28 (by decide) (hts (.fieldLink RX12 158 "PageOneModel" "acts" "I") (by decide +kernel)) (fun _ h9 => h9) rfl dX12_measure_19 ?_
      refine lv_if_gt (tgt := 33) hx hb dX12_measure_22 (by decide) (fun c_5 => absurd c_5 (by decide)) (fun c_5 => ?_)
      refine lv_aload_n hx hb dX12_measure_25 rfl (lv_at hl 0 rfl) ?_
      refine lv_iload_n hx hb dX12_measure_26 rfl (lv_at hl 1 rfl) ?_
      have hPc := hP.sub (ws' := [(h0, .inr (11, mO v 0 0 0 0 0 0 0 0)), ((v 2), .inl (cI, 5760, .inl (fun _ => (-2))))]) [0, 2] rfl
      have hKc := hK.sub (tys' := [(cI, .int)]) [0] rfl
      refine vp_callSi (va_runV (As := [.int p0]) (rest := []) ⟨hx, hb, hml, hown, hts⟩ (m_hasPiece0 l dC dI h0 v cI p0 b_1) (cwV 1 hts gX12_measure_X12_hasPiece rfl rfl rfl (by decide +kernel) ⟨Nat.le_of_ble_eq_true rfl, Nat.le_of_ble_eq_true rfl⟩) ⟨pw_fb, va_recv hKc hPc (ci := 11) (q0 := 0) rfl rfl, fun U hU hW => ⟨rfl, pw_to hU hW hPc hKc hN⟩⟩ rfl rfl hl.1 rfl (lv_room (Nat.le_of_ble_eq_true rfl)) dX12_measure_27 ⟨Nat.le_of_ble_eq_true rfl, Nat.le_of_ble_eq_true rfl⟩).run (fun r hw => ?_)
      obtain rfl : r = 0 := hw
      refine lv_if_eq (tgt := 35) hx hb dX12_measure_30 (by decide) (fun c_6 => ?_) (fun c_6 => absurd (by decide) c_6)
      refine lv_aload_n hx hb dX12_measure_35 rfl (lv_at hl 0 rfl) ?_
      refine va_get (D := (dC, dI)) (ci := 11) (v := .ref (v 1)) (C := RX12) (T := TX12) (N := 52) hx hb hts (by decide +kernel) hown hK hP 0 rfl rfl 1 (by decide) (hts (.fieldLink RX12 13 "PageOneModel" "measure" "[I") (by decide +kernel)) (fun _ h9 => h9) rfl dX12_measure_36 ?_
      refine lv_iload_n hx hb dX12_measure_39 rfl (lv_at hl 1 rfl) ?_
      refine lv_iload_n hx hb dX12_measure_40 rfl (lv_at hl 2 rfl) ?_
      refine va_iast hx hb hK hP hD hS 1 0 rfl rfl (vin b_1 (by decide)) dX12_measure_41 (fun H locs hP hD hS => ?_)
      have hP : va_P (dC, dI) vwCl [(h0, .inr (11, mO v 0 0 0 0 0 0 0 0)), ((v 1), .inl (cI, 12, .inl (upd g1 (p0 : Int32).toNatClampNeg p1))), ((v 2), .inl (cI, 5760, .inl (fun _ => (-2))))] H := hP
      have hD : va_D A [(h0, .inr (11, mO v 0 0 0 0 0 0 0 0)), ((v 1), .inl (cI, 12, .inl (upd g1 (p0 : Int32).toNatClampNeg p1))), ((v 2), .inl (cI, 5760, .inl (fun _ => (-2))))] := hD
      refine lv_iconst (v := 1) hx hb dX12_measure_42 (by decide) ?_
      exact W.zret (v := 1) hx hb hr (by decide) (fun t ht hW => ⟨⟨1, (), rfl, (by simp [bi, b_1, b_3]), trivial⟩, hS.F ht⟩) hS.2.2 dX12_measure_43
    ·
      obtain rfl : r = 0 := b_f hw b_3
      refine lv_if_eq (tgt := 33) hx hb dX12_measure_15 (by decide) (fun c_7 => ?_) (fun c_7 => absurd (by decide) c_7)
      refine lv_iconst (v := 0) hx hb dX12_measure_33 (by decide) ?_
      exact W.zret (v := 0) hx hb hr (by decide) (fun t ht hW => ⟨⟨0, (), rfl, (by simp [bi, b_1, b_3]), trivial⟩, hS.F ht⟩) hS.2.2 dX12_measure_34
  ·
    obtain rfl : r = 0 := b_f hw b_1
    refine lv_if_eq (tgt := 33) hx hb dX12_measure_4 (by decide) (fun c_8 => ?_) (fun c_8 => absurd (by decide) c_8)
    refine lv_iconst (v := 0) hx hb dX12_measure_33 (by decide) ?_
    exact W.zret (v := 0) hx hb hr (by decide) (fun t ht hW => ⟨⟨0, (), rfl, (by simp [bi, b_1]), trivial⟩, hS.F ht⟩) hS.2.2 dX12_measure_34
set_option maxHeartbeats 4000000 in
set_option maxRecDepth 100000 in
theorem m_story (l : Launch) (dC : Nat → ClassId) (dI : Nat → Nat → Nat) (h0 : Nat) (v : Nat → Nat) (cI : ClassId) (p0 : Int32) (sz : Nat) : Met l yX12_story wsX12_story ({ frames := 1, cells := 0, slots := 0, locals := 22 }) (va_Pc [.ref h0, .int p0] (fun U => U.heap.size = sz ∧ PW dC dI [(h0, .inr (11, mO v 0 0 0 0 0 0 0 0)), ((v 4), .inl (cI, 80, .inl (fun _ => 0))), ((v 5), .inl (cI, 80, .inl (fun _ => 0))), ((v 6), .inl (cI, 80, .inl (fun _ => 0))), ((v 7), .inl (cI, 80, .inl (fun _ => 0))), ((v 8), .inl (cI, 80, .inl (fun _ => 0))), ((v 9), .inl (cI, 80, .inl (fun _ => 0))), ((v 10), .inl (cI, 80, .inl (fun _ => 0))), ((v 15), .inl (cI, 80, .inl (fun _ => 0))), ((v 17), .inl (cI, 80, .inl (fun _ => 0))), ((v 22), .inl (cI, 80, .inl (fun _ => 0)))] [(cI, .int)] U ∧ va_D (fun _ => True) [(h0, .inr (11, mO v 0 0 0 0 0 0 0 0)), ((v 4), .inl (cI, 80, .inl (fun _ => 0))), ((v 5), .inl (cI, 80, .inl (fun _ => 0))), ((v 6), .inl (cI, 80, .inl (fun _ => 0))), ((v 7), .inl (cI, 80, .inl (fun _ => 0))), ((v 8), .inl (cI, 80, .inl (fun _ => 0))), ((v 9), .inl (cI, 80, .inl (fun _ => 0))), ((v 10), .inl (cI, 80, .inl (fun _ => 0))), ((v 15), .inl (cI, 80, .inl (fun _ => 0))), ((v 17), .inl (cI, 80, .inl (fun _ => 0))), ((v 22), .inl (cI, 80, .inl (fun _ => 0)))])) (va_Qi (fun (r : Int32) (_ : Unit) => r = (if bw p0 1 80 then 0 else (-1))) (fun _ _ => True) (va_A [(h0, .inr (11, mO v 0 0 0 0 0 0 0 0)), ((v 4), .inl (cI, 80, .inl (fun _ => 0))), ((v 5), .inl (cI, 80, .inl (fun _ => 0))), ((v 6), .inl (cI, 80, .inl (fun _ => 0))), ((v 7), .inl (cI, 80, .inl (fun _ => 0))), ((v 8), .inl (cI, 80, .inl (fun _ => 0))), ((v 9), .inl (cI, 80, .inl (fun _ => 0))), ((v 10), .inl (cI, 80, .inl (fun _ => 0))), ((v 15), .inl (cI, 80, .inl (fun _ => 0))), ((v 17), .inl (cI, 80, .inl (fun _ => 0))), ((v 22), .inl (cI, 80, .inl (fun _ => 0)))] sz)) 0 0 (va_A [(h0, .inr (11, mO v 0 0 0 0 0 0 0 0)), ((v 4), .inl (cI, 80, .inl (fun _ => 0))), ((v 5), .inl (cI, 80, .inl (fun _ => 0))), ((v 6), .inl (cI, 80, .inl (fun _ => 0))), ((v 7), .inl (cI, 80, .inl (fun _ => 0))), ((v 8), .inl (cI, 80, .inl (fun _ => 0))), ((v 9), .inl (cI, 80, .inl (fun _ => 0))), ((v 10), .inl (cI, 80, .inl (fun _ => 0))), ((v 15), .inl (cI, 80, .inl (fun _ => 0))), ((v 17), .inl (cI, 80, .inl (fun _ => 0))), ((v 22), .inl (cI, 80, .inl (fun _ => 0)))] sz) := by
  refine Met.ofW (cc := cX12_story) (maxL := 3) (ret := (some .int)) (by decide) rfl ?_
  intro p e s m args below meth c s₁ B hml hv
  obtain ⟨rfl, hsz, ⟨hP, hK, hN⟩, hD0⟩ := hv
  have hx := B.exec
  have hb := B.bytes
  have hr := B.returns
  have hts := atoms_spec (ws := wsX12_story) B.pre
  have hown : s.vm.findClass RX12 = some m.cls := findClass_of_methodNamed B.named
  have hlocks := B.notSynchronized
  subst hsz
  have hD := hD0.self (sz := s.heap.size)
  generalize hAe : va_A [(h0, .inr (11, mO v 0 0 0 0 0 0 0 0)), ((v 4), .inl (cI, 80, .inl (fun _ => 0))), ((v 5), .inl (cI, 80, .inl (fun _ => 0))), ((v 6), .inl (cI, 80, .inl (fun _ => 0))), ((v 7), .inl (cI, 80, .inl (fun _ => 0))), ((v 8), .inl (cI, 80, .inl (fun _ => 0))), ((v 9), .inl (cI, 80, .inl (fun _ => 0))), ((v 10), .inl (cI, 80, .inl (fun _ => 0))), ((v 15), .inl (cI, 80, .inl (fun _ => 0))), ((v 17), .inl (cI, 80, .inl (fun _ => 0))), ((v 22), .inl (cI, 80, .inl (fun _ => 0)))] s.heap.size = A at hD ⊢
  have hA : ∀ q : Nat, s.heap.size ≤ q → A q := fun q h => by rw [← hAe]; exact Or.inr h
  have hS : va_S A s.heap s.heap [] := va_S.rf
  have hP : va_P (dC, dI) vwCl [(h0, .inr (11, mO v 0 0 0 0 0 0 0 0)), ((v 4), .inl (cI, 80, .inl (fun _ => 0))), ((v 5), .inl (cI, 80, .inl (fun _ => 0))), ((v 6), .inl (cI, 80, .inl (fun _ => 0))), ((v 7), .inl (cI, 80, .inl (fun _ => 0))), ((v 8), .inl (cI, 80, .inl (fun _ => 0))), ((v 9), .inl (cI, 80, .inl (fun _ => 0))), ((v 10), .inl (cI, 80, .inl (fun _ => 0))), ((v 15), .inl (cI, 80, .inl (fun _ => 0))), ((v 17), .inl (cI, 80, .inl (fun _ => 0))), ((v 22), .inl (cI, 80, .inl (fun _ => 0)))] s.heap := hP
  have hl := lv_entry ([.ref h0, .int p0]) (n := 3) (Nat.le_of_ble_eq_true rfl)
  rw [lg_entry_eq]
  generalize (lg_sl ([.ref h0, .int p0]) ++ List.replicate (3 - (lg_sl ([.ref h0, .int p0])).length) Slot.unset).toArray = ls at hl ⊢
  have hl : lv_has ls 3 [(0, .ref h0), (1, .int p0)] := hl
  refine lv_aload_n hx hb dX12_story_0 rfl (lv_at hl 0 rfl) ?_
  refine va_get (D := (dC, dI)) (ci := 11) (v := .int 0) (C := RX12) (T := TX12) (N := 52) hx hb hts (by decide +kernel) hown hK hP 0 rfl rfl 3 (by decide) (hts (.fieldLink RX12 147 "PageOneModel" "items" "I") (by decide +kernel)) (fun _ h9 => h9) rfl dX12_story_1 ?_
  refine lv_bipush (v := 80) hx hb dX12_story_4 (by decide) ?_
  refine lv_icmp_eq (tgt := 19) hx hb dX12_story_6 (by decide) (fun c_1 => absurd c_1 (by decide)) (fun c_1 => ?_)
  refine lv_iload_n hx hb dX12_story_9 rfl (lv_at hl 1 rfl) ?_
  refine lv_iconst (v := 1) hx hb dX12_story_10 (by decide) ?_
  refine lv_bipush (v := 80) hx hb dX12_story_11 (by decide) ?_
  have hPc := hP.sub (ws' := []) [] rfl
  have hKc := hK.sub (tys' := []) [] rfl
  refine vp_callSi (va_runS (As := [.int p0, .int 1, .int 80]) (rest := []) ⟨hx, hb, hml, hown, hts⟩ (m_in l dC dI p0 1 80) (va_cwS 3 hts gX12_story_X12_in rfl rfl rfl (by decide +kernel) ⟨Nat.le_of_ble_eq_true rfl, Nat.le_of_ble_eq_true rfl⟩) ⟨pw_fb, fun U hU hW => ⟨rfl, pw_to hU hW hPc hKc hN⟩⟩ rfl rfl hl.1 rfl (lv_room (Nat.le_of_ble_eq_true rfl)) dX12_story_13 ⟨Nat.le_of_ble_eq_true rfl, Nat.le_of_ble_eq_true rfl⟩).run (fun r hw => ?_)
  rcases Bool.eq_false_or_eq_true (bw p0 1 80) with b_2 | b_2
  ·
    obtain rfl : r = 1 := b_t hw b_2
    refine lv_if_ne (tgt := 21) hx hb dX12_story_16 (by decide) (fun c_3 => ?_) (fun c_3 => absurd c_3 (by decide))
    refine lv_aload_n hx hb dX12_story_21 rfl (lv_at hl 0 rfl) ?_
    refine lv_iconst (v := 0) hx hb dX12_story_22 (by decide) ?_
    have hPc := hP.sub (ws' := [(h0, .inr (11, mO v 0 0 0 0 0 0 0 0)), ((v 4), .inl (cI, 80, .inl (fun _ => 0))), ((v 5), .inl (cI, 80, .inl (fun _ => 0))), ((v 6), .inl (cI, 80, .inl (fun _ => 0))), ((v 7), .inl (cI, 80, .inl (fun _ => 0))), ((v 8), .inl (cI, 80, .inl (fun _ => 0))), ((v 9), .inl (cI, 80, .inl (fun _ => 0))), ((v 10), .inl (cI, 80, .inl (fun _ => 0))), ((v 15), .inl (cI, 80, .inl (fun _ => 0))), ((v 17), .inl (cI, 80, .inl (fun _ => 0))), ((v 22), .inl (cI, 80, .inl (fun _ => 0)))]) [0, 1, 2, 3, 4, 5, 6, 7, 8, 9, 10] rfl
    have hKc := hK.sub (tys' := [(cI, .int)]) [0] rfl
    have hDc := hD.sub (ws' := [(h0, .inr (11, mO v 0 0 0 0 0 0 0 0)), ((v 4), .inl (cI, 80, .inl (fun _ => 0))), ((v 5), .inl (cI, 80, .inl (fun _ => 0))), ((v 6), .inl (cI, 80, .inl (fun _ => 0))), ((v 7), .inl (cI, 80, .inl (fun _ => 0))), ((v 8), .inl (cI, 80, .inl (fun _ => 0))), ((v 9), .inl (cI, 80, .inl (fun _ => 0))), ((v 10), .inl (cI, 80, .inl (fun _ => 0))), ((v 15), .inl (cI, 80, .inl (fun _ => 0))), ((v 17), .inl (cI, 80, .inl (fun _ => 0))), ((v 22), .inl (cI, 80, .inl (fun _ => 0)))]) [0, 1, 2, 3, 4, 5, 6, 7, 8, 9, 10] (by decide) rfl
    have hFc := va_free (wc := [(h0, .inr (11, mO v 0 0 0 0 0 0 0 0)), ((v 4), .inl (cI, 80, .inl (fun _ => 0))), ((v 5), .inl (cI, 80, .inl (fun _ => 0))), ((v 6), .inl (cI, 80, .inl (fun _ => 0))), ((v 7), .inl (cI, 80, .inl (fun _ => 0))), ((v 8), .inl (cI, 80, .inl (fun _ => 0))), ((v 9), .inl (cI, 80, .inl (fun _ => 0))), ((v 10), .inl (cI, 80, .inl (fun _ => 0))), ((v 15), .inl (cI, 80, .inl (fun _ => 0))), ((v 17), .inl (cI, 80, .inl (fun _ => 0))), ((v 22), .inl (cI, 80, .inl (fun _ => 0)))]) hD hS hA [0, 1, 2, 3, 4, 5, 6, 7, 8, 9, 10] rfl
    refine va_calli (va_runV (As := [.int 0]) (rest := []) ⟨hx, hb, hml, hown, hts⟩ (m_made0 l dC dI h0 v cI 0 s.heap.size) (cwV 1 hts gX12_story_X12_made rfl rfl rfl (by decide +kernel) ⟨Nat.le_of_ble_eq_true rfl, Nat.le_of_ble_eq_true rfl⟩) ⟨gw_fb, va_recv hKc hPc (ci := 11) (q0 := 0) rfl rfl, fun U hU hW => ⟨rfl, by rw [hU], pw_to hU hW hPc hKc hN, hDc.weaken (fun _ _ _ _ => trivial)⟩⟩ rfl rfl hl.1 rfl (lv_room (Nat.le_of_ble_eq_true rfl)) dX12_story_23 ⟨Nat.le_of_ble_eq_true rfl, Nat.le_of_ble_eq_true rfl⟩) hS (fun q _ h => hFc q h) hFc (fun r u t H1 locs ht hvm hw hB hz1 hk1 hS => ?_)
    obtain ⟨hP1, hD1⟩ := hB
    rw [ht] at hP1
    obtain ⟨hP, hD⟩ := va_join (wr := []) (w1 := [(h0, .inr (11, mO v 1 0 0 0 0 0 0 0)), ((v 5), .inl (cI, 80, .inl (u 0))), ((v 6), .inl (cI, 80, .inl (u 1))), ((v 7), .inl (cI, 80, .inl (u 2))), ((v 8), .inl (cI, 80, .inl (u 3))), ((v 10), .inl (cI, 80, .inl (u 4)))]) hP hD [0, 1, 2, 3, 4, 5, 6, 7, 8, 9, 10] [] rfl rfl (by decide) (by decide) hk1 hFc hP1 hD1
    generalize H1 = H at hP hS ⊢
    have hP : va_P (dC, dI) vwCl [(h0, .inr (11, mO v 1 0 0 0 0 0 0 0)), ((v 5), .inl (cI, 80, .inl (u 0))), ((v 6), .inl (cI, 80, .inl (u 1))), ((v 7), .inl (cI, 80, .inl (u 2))), ((v 8), .inl (cI, 80, .inl (u 3))), ((v 10), .inl (cI, 80, .inl (u 4)))] H := hP
    have hD : va_D A [(h0, .inr (11, mO v 1 0 0 0 0 0 0 0)), ((v 5), .inl (cI, 80, .inl (u 0))), ((v 6), .inl (cI, 80, .inl (u 1))), ((v 7), .inl (cI, 80, .inl (u 2))), ((v 8), .inl (cI, 80, .inl (u 3))), ((v 10), .inl (cI, 80, .inl (u 4)))] := hD
    refine W.widen (k := 0) (n := 0) (Nat.le_of_ble_eq_true rfl) (Nat.le_of_ble_eq_true rfl) ?_
    obtain rfl : r = 0 := hw
    refine lv_istore_n (lv' := [(2, .int 0), (0, .ref h0), (1, .int p0)]) hx hb dX12_story_26 rfl hl (by decide) rfl (fun ls hl => ?_)
    refine lv_aload_n hx hb dX12_story_27 rfl (lv_at hl 1 rfl) ?_
    refine va_get (D := (dC, dI)) (ci := 11) (v := .ref (v 5)) (C := RX12) (T := TX12) (N := 52) hx hb hts (by decide +kernel) hown hK hP 0 rfl rfl 5 (by decide) (hts (.fieldLink RX12 22 "PageOneModel" "least" "[I") (by decide +kernel)) (fun _ h9 => h9) rfl dX12_story_28 ?_
    refine lv_iload_n hx hb dX12_story_31 rfl (lv_at hl 0 rfl) ?_
    refine lv_iload_n hx hb dX12_story_32 rfl (lv_at hl 2 rfl) ?_
    refine va_iast hx hb hK hP hD hS 1 0 rfl rfl (by unfold vp_in; decide) dX12_story_33 (fun H locs hP hD hS => ?_)
    have hP : va_P (dC, dI) vwCl [(h0, .inr (11, mO v 1 0 0 0 0 0 0 0)), ((v 5), .inl (cI, 80, .inl (upd (u 0) 0 p0))), ((v 6), .inl (cI, 80, .inl (u 1))), ((v 7), .inl (cI, 80, .inl (u 2))), ((v 8), .inl (cI, 80, .inl (u 3))), ((v 10), .inl (cI, 80, .inl (u 4)))] H := hP
    have hD : va_D A [(h0, .inr (11, mO v 1 0 0 0 0 0 0 0)), ((v 5), .inl (cI, 80, .inl (upd (u 0) 0 p0))), ((v 6), .inl (cI, 80, .inl (u 1))), ((v 7), .inl (cI, 80, .inl (u 2))), ((v 8), .inl (cI, 80, .inl (u 3))), ((v 10), .inl (cI, 80, .inl (u 4)))] := hD
    refine lv_iload_n hx hb dX12_story_34 rfl (lv_at hl 0 rfl) ?_
    exact W.iret (v := 0) hx hb hr (fun t ht hW => ⟨⟨0, (), rfl, (by simp [bi, b_2]), trivial⟩, hS.F ht⟩) hS.2.2 dX12_story_35
  ·
    obtain rfl : r = 0 := b_f hw b_2
    refine lv_if_ne (tgt := 21) hx hb dX12_story_16 (by decide) (fun c_4 => absurd (by decide) c_4) (fun c_4 => ?_)
    refine lv_iconst (v := (-1)) hx hb dX12_story_19 (by decide) ?_
    exact W.iret (v := (-1)) hx hb hr (fun t ht hW => ⟨⟨(-1), (), rfl, (by simp [bi, b_2]), trivial⟩, hS.F ht⟩) hS.2.2 dX12_story_20
set_option maxHeartbeats 4000000 in
set_option maxRecDepth 100000 in
theorem m_line (l : Launch) (dC : Nat → ClassId) (dI : Nat → Nat → Nat) (h0 : Nat) (v : Nat → Nat) (p0 p1 : Int32) : Met l yX12_line wsX12_line ({ frames := 3, cells := 0, slots := 0, locals := 65 }) (va_Pc [.ref h0, .int p0, .int p1] (PW dC dI [(h0, .inr (11, mO v 0 0 0 0 0 0 0 0))] [])) (vp_Si (fun r => r = (-1))) 0 0 (fun _ => False) := by
  refine Met.ofW (cc := cX12_line) (maxL := 3) (ret := (some .int)) (by decide) rfl ?_
  intro p e s m args below meth c s₁ B hml hv
  obtain ⟨rfl, hP, hK, hN⟩ := hv
  have hx := B.exec
  have hb := B.bytes
  have hr := B.returns
  have hts := atoms_spec (ws := wsX12_line) B.pre
  have hown : s.vm.findClass RX12 = some m.cls := findClass_of_methodNamed B.named
  have hlocks := B.notSynchronized
  have hl := lv_entry ([.ref h0, .int p0, .int p1]) (n := 3) (Nat.le_of_ble_eq_true rfl)
  rw [lg_entry_eq]
  generalize (lg_sl ([.ref h0, .int p0, .int p1]) ++ List.replicate (3 - (lg_sl ([.ref h0, .int p0, .int p1])).length) Slot.unset).toArray = ls at hl ⊢
  have hl : lv_has ls 3 [(0, .ref h0), (1, .int p0), (2, .int p1)] := hl
  refine lv_aload_n hx hb dX12_line_0 rfl (lv_at hl 0 rfl) ?_
  refine lv_iload_n hx hb dX12_line_1 rfl (lv_at hl 1 rfl) ?_
  refine lv_iconst (v := 0) hx hb dX12_line_2 (by decide) ?_
  have hPc := hP.sub (ws' := [(h0, .inr (11, mO v 0 0 0 0 0 0 0 0))]) [0] rfl
  have hKc := hK.sub (tys' := []) [] rfl
  refine vp_callSi (va_runV (As := [.int p0, .int 0]) (rest := []) ⟨hx, hb, hml, hown, hts⟩ (m_isKind0 l dC dI h0 v p0 0) (cwV 2 hts gX12_line_X12_isKind rfl rfl rfl (by decide +kernel) ⟨Nat.le_of_ble_eq_true rfl, Nat.le_of_ble_eq_true rfl⟩) ⟨pw_fb, va_recv hKc hPc (ci := 11) (q0 := 0) rfl rfl, fun U hU hW => ⟨rfl, pw_to hU hW hPc hKc hN⟩⟩ rfl rfl hl.1 rfl (lv_room (Nat.le_of_ble_eq_true rfl)) dX12_line_3 ⟨Nat.le_of_ble_eq_true rfl, Nat.le_of_ble_eq_true rfl⟩).run (fun r hw => ?_)
  obtain rfl : r = 0 := hw
  refine lv_if_eq (tgt := 31) hx hb dX12_line_6 (by decide) (fun c_1 => ?_) (fun c_1 => absurd (by decide) c_1)
  refine lv_iconst (v := (-1)) hx hb dX12_line_31 (by decide) ?_
  exact W.iret (v := (-1)) hx hb hr (fun t ht hW => ⟨_, rfl, (by simp [bi]), ht⟩) (fun q h => absurd h List.not_mem_nil) dX12_line_32
set_option maxHeartbeats 4000000 in
set_option maxRecDepth 100000 in
theorem m_head (l : Launch) (dC : Nat → ClassId) (dI : Nat → Nat → Nat) (h0 : Nat) (v : Nat → Nat) (p0 p1 p2 : Int32) : Met l yX12_head wsX12_head ({ frames := 3, cells := 0, slots := 0, locals := 65 }) (va_Pc [.ref h0, .int p0, .int p1, .int p2] (PW dC dI [(h0, .inr (11, mO v 0 0 0 0 0 0 0 0))] [])) (vp_Si (fun r => r = (-1))) 0 0 (fun _ => False) := by
  refine Met.ofW (cc := cX12_head) (maxL := 5) (ret := (some .int)) (by decide) rfl ?_
  intro p e s m args below meth c s₁ B hml hv
  obtain ⟨rfl, hP, hK, hN⟩ := hv
  have hx := B.exec
  have hb := B.bytes
  have hr := B.returns
  have hts := atoms_spec (ws := wsX12_head) B.pre
  have hown : s.vm.findClass RX12 = some m.cls := findClass_of_methodNamed B.named
  have hlocks := B.notSynchronized
  have hl := lv_entry ([.ref h0, .int p0, .int p1, .int p2]) (n := 5) (Nat.le_of_ble_eq_true rfl)
  rw [lg_entry_eq]
  generalize (lg_sl ([.ref h0, .int p0, .int p1, .int p2]) ++ List.replicate (5 - (lg_sl ([.ref h0, .int p0, .int p1, .int p2])).length) Slot.unset).toArray = ls at hl ⊢
  have hl : lv_has ls 5 [(0, .ref h0), (1, .int p0), (2, .int p1), (3, .int p2)] := hl
  refine lv_aload_n hx hb dX12_head_0 rfl (lv_at hl 0 rfl) ?_
  refine va_get (D := (dC, dI)) (ci := 11) (v := .int 0) (C := RX12) (T := TX12) (N := 52) hx hb hts (by decide +kernel) hown hK hP 0 rfl rfl 3 (by decide) (hts (.fieldLink RX12 147 "PageOneModel" "items" "I") (by decide +kernel)) (fun _ h9 => h9) rfl dX12_head_1 ?_
  refine lv_bipush (v := 80) hx hb dX12_head_4 (by decide) ?_
  refine lv_icmp_eq (tgt := 38) hx hb dX12_head_6 (by decide) (fun c_1 => absurd c_1 (by decide)) (fun c_1 => ?_)
  refine lv_aload_n hx hb dX12_head_9 rfl (lv_at hl 0 rfl) ?_
  refine lv_iload_n hx hb dX12_head_10 rfl (lv_at hl 1 rfl) ?_
  refine lv_iconst (v := 0) hx hb dX12_head_11 (by decide) ?_
  have hPc := hP.sub (ws' := [(h0, .inr (11, mO v 0 0 0 0 0 0 0 0))]) [0] rfl
  have hKc := hK.sub (tys' := []) [] rfl
  refine vp_callSi (va_runV (As := [.int p0, .int 0]) (rest := []) ⟨hx, hb, hml, hown, hts⟩ (m_isKind0 l dC dI h0 v p0 0) (cwV 2 hts gX12_head_X12_isKind rfl rfl rfl (by decide +kernel) ⟨Nat.le_of_ble_eq_true rfl, Nat.le_of_ble_eq_true rfl⟩) ⟨pw_fb, va_recv hKc hPc (ci := 11) (q0 := 0) rfl rfl, fun U hU hW => ⟨rfl, pw_to hU hW hPc hKc hN⟩⟩ rfl rfl hl.1 rfl (lv_room (Nat.le_of_ble_eq_true rfl)) dX12_head_12 ⟨Nat.le_of_ble_eq_true rfl, Nat.le_of_ble_eq_true rfl⟩).run (fun r hw => ?_)
  obtain rfl : r = 0 := hw
  refine lv_if_eq (tgt := 38) hx hb dX12_head_15 (by decide) (fun c_2 => ?_) (fun c_2 => absurd (by decide) c_2)
  refine lv_iconst (v := (-1)) hx hb dX12_head_38 (by decide) ?_
  exact W.iret (v := (-1)) hx hb hr (fun t ht hW => ⟨_, rfl, (by simp [bi]), ht⟩) (fun q h => absurd h List.not_mem_nil) dX12_head_39
set_option maxHeartbeats 4000000 in
set_option maxRecDepth 100000 in
theorem m_size (l : Launch) (dC : Nat → ClassId) (dI : Nat → Nat → Nat) (h0 : Nat) (v : Nat → Nat) (p0 p1 p2 : Int32) : Met l yX12_size wsX12_size ({ frames := 3, cells := 0, slots := 0, locals := 65 }) (va_Pc [.ref h0, .int p0, .int p1, .int p2] (PW dC dI [(h0, .inr (11, mO v 0 0 0 0 0 0 0 0))] [])) (vp_Si (fun r => r = (-1))) 0 0 (fun _ => False) := by
  refine Met.ofW (cc := cX12_size) (maxL := 4) (ret := (some .int)) (by decide) rfl ?_
  intro p e s m args below meth c s₁ B hml hv
  obtain ⟨rfl, hP, hK, hN⟩ := hv
  have hx := B.exec
  have hb := B.bytes
  have hr := B.returns
  have hts := atoms_spec (ws := wsX12_size) B.pre
  have hown : s.vm.findClass RX12 = some m.cls := findClass_of_methodNamed B.named
  have hlocks := B.notSynchronized
  have hl := lv_entry ([.ref h0, .int p0, .int p1, .int p2]) (n := 4) (Nat.le_of_ble_eq_true rfl)
  rw [lg_entry_eq]
  generalize (lg_sl ([.ref h0, .int p0, .int p1, .int p2]) ++ List.replicate (4 - (lg_sl ([.ref h0, .int p0, .int p1, .int p2])).length) Slot.unset).toArray = ls at hl ⊢
  have hl : lv_has ls 4 [(0, .ref h0), (1, .int p0), (2, .int p1), (3, .int p2)] := hl
  refine lv_aload_n hx hb dX12_size_0 rfl (lv_at hl 0 rfl) ?_
  refine lv_iload_n hx hb dX12_size_1 rfl (lv_at hl 1 rfl) ?_
  refine lv_iconst (v := 2) hx hb dX12_size_2 (by decide) ?_
  have hPc := hP.sub (ws' := [(h0, .inr (11, mO v 0 0 0 0 0 0 0 0))]) [0] rfl
  have hKc := hK.sub (tys' := []) [] rfl
  refine vp_callSi (va_runV (As := [.int p0, .int 2]) (rest := []) ⟨hx, hb, hml, hown, hts⟩ (m_isKind0 l dC dI h0 v p0 2) (cwV 2 hts gX12_size_X12_isKind rfl rfl rfl (by decide +kernel) ⟨Nat.le_of_ble_eq_true rfl, Nat.le_of_ble_eq_true rfl⟩) ⟨pw_fb, va_recv hKc hPc (ci := 11) (q0 := 0) rfl rfl, fun U hU hW => ⟨rfl, pw_to hU hW hPc hKc hN⟩⟩ rfl rfl hl.1 rfl (lv_room (Nat.le_of_ble_eq_true rfl)) dX12_size_3 ⟨Nat.le_of_ble_eq_true rfl, Nat.le_of_ble_eq_true rfl⟩).run (fun r hw => ?_)
  obtain rfl : r = 0 := hw
  refine lv_if_eq (tgt := 39) hx hb dX12_size_6 (by decide) (fun c_1 => ?_) (fun c_1 => absurd (by decide) c_1)
  refine lv_iconst (v := (-1)) hx hb dX12_size_39 (by decide) ?_
  exact W.iret (v := (-1)) hx hb hr (fun t ht hW => ⟨_, rfl, (by simp [bi]), ht⟩) (fun q h => absurd h List.not_mem_nil) dX12_size_40
set_option maxHeartbeats 4000000 in
set_option maxRecDepth 100000 in
theorem m_notice (l : Launch) (dC : Nat → ClassId) (dI : Nat → Nat → Nat) (h0 : Nat) (v : Nat → Nat) (p0 p1 : Int32) : Met l yX12_notice wsX12_notice ({ frames := 2, cells := 0, slots := 0, locals := 43 }) (va_Pc [.ref h0, .int p0, .int p1] (PW dC dI [(h0, .inr (11, mO v 0 0 0 0 0 0 0 0))] [])) (vp_Si (fun r => r = (-1))) 0 0 (fun _ => False) := by
  refine Met.ofW (cc := cX12_notice) (maxL := 4) (ret := (some .int)) (by decide) rfl ?_
  intro p e s m args below meth c s₁ B hml hv
  obtain ⟨rfl, hP, hK, hN⟩ := hv
  have hx := B.exec
  have hb := B.bytes
  have hr := B.returns
  have hts := atoms_spec (ws := wsX12_notice) B.pre
  have hown : s.vm.findClass RX12 = some m.cls := findClass_of_methodNamed B.named
  have hlocks := B.notSynchronized
  have hl := lv_entry ([.ref h0, .int p0, .int p1]) (n := 4) (Nat.le_of_ble_eq_true rfl)
  rw [lg_entry_eq]
  generalize (lg_sl ([.ref h0, .int p0, .int p1]) ++ List.replicate (4 - (lg_sl ([.ref h0, .int p0, .int p1])).length) Slot.unset).toArray = ls at hl ⊢
  have hl : lv_has ls 4 [(0, .ref h0), (1, .int p0), (2, .int p1)] := hl
  refine lv_aload_n hx hb dX12_notice_0 rfl (lv_at hl 0 rfl) ?_
  refine va_get (D := (dC, dI)) (ci := 11) (v := .int 0) (C := RX12) (T := TX12) (N := 52) hx hb hts (by decide +kernel) hown hK hP 0 rfl rfl 3 (by decide) (hts (.fieldLink RX12 147 "PageOneModel" "items" "I") (by decide +kernel)) (fun _ h9 => h9) rfl dX12_notice_1 ?_
  refine lv_bipush (v := 80) hx hb dX12_notice_4 (by decide) ?_
  refine lv_icmp_eq (tgt := 46) hx hb dX12_notice_6 (by decide) (fun c_1 => absurd c_1 (by decide)) (fun c_1 => ?_)
  refine lv_aload_n hx hb dX12_notice_9 rfl (lv_at hl 0 rfl) ?_
  refine lv_iload_n hx hb dX12_notice_10 rfl (lv_at hl 1 rfl) ?_
  have hPc := hP.sub (ws' := [(h0, .inr (11, mO v 0 0 0 0 0 0 0 0))]) [0] rfl
  have hKc := hK.sub (tys' := []) [] rfl
  refine vp_callSi (va_runV (As := [.int p0]) (rest := []) ⟨hx, hb, hml, hown, hts⟩ (m_isItem0 l dC dI h0 v p0) (cwV 1 hts gX12_notice_X12_isItem rfl rfl rfl (by decide +kernel) ⟨Nat.le_of_ble_eq_true rfl, Nat.le_of_ble_eq_true rfl⟩) ⟨pw_fb, va_recv hKc hPc (ci := 11) (q0 := 0) rfl rfl, fun U hU hW => ⟨rfl, pw_to hU hW hPc hKc hN⟩⟩ rfl rfl hl.1 rfl (lv_room (Nat.le_of_ble_eq_true rfl)) dX12_notice_11 ⟨Nat.le_of_ble_eq_true rfl, Nat.le_of_ble_eq_true rfl⟩).run (fun r hw => ?_)
  obtain rfl : r = 0 := hw
  refine lv_if_eq (tgt := 46) hx hb dX12_notice_14 (by decide) (fun c_2 => ?_) (fun c_2 => absurd (by decide) c_2)
  refine lv_iconst (v := (-1)) hx hb dX12_notice_46 (by decide) ?_
  exact W.iret (v := (-1)) hx hb hr (fun t ht hW => ⟨_, rfl, (by simp [bi]), ht⟩) (fun q h => absurd h List.not_mem_nil) dX12_notice_47
set_option maxHeartbeats 4000000 in
set_option maxRecDepth 100000 in
theorem m_picture (l : Launch) (dC : Nat → ClassId) (dI : Nat → Nat → Nat) (h0 : Nat) (v : Nat → Nat) (cI : ClassId) (sz : Nat) : Met l yX12_picture wsX12_picture ({ frames := 1, cells := 0, slots := 0, locals := 22 }) (va_Pc [.ref h0] (fun U => U.heap.size = sz ∧ PW dC dI [(h0, .inr (11, mO v 0 0 0 0 0 0 0 0)), ((v 4), .inl (cI, 80, .inl (fun _ => 0))), ((v 5), .inl (cI, 80, .inl (fun _ => 0))), ((v 6), .inl (cI, 80, .inl (fun _ => 0))), ((v 7), .inl (cI, 80, .inl (fun _ => 0))), ((v 8), .inl (cI, 80, .inl (fun _ => 0))), ((v 9), .inl (cI, 80, .inl (fun _ => 0))), ((v 10), .inl (cI, 80, .inl (fun _ => 0))), ((v 15), .inl (cI, 80, .inl (fun _ => 0))), ((v 17), .inl (cI, 80, .inl (fun _ => 0))), ((v 22), .inl (cI, 80, .inl (fun _ => 0)))] [(cI, .int)] U ∧ va_D (fun _ => True) [(h0, .inr (11, mO v 0 0 0 0 0 0 0 0)), ((v 4), .inl (cI, 80, .inl (fun _ => 0))), ((v 5), .inl (cI, 80, .inl (fun _ => 0))), ((v 6), .inl (cI, 80, .inl (fun _ => 0))), ((v 7), .inl (cI, 80, .inl (fun _ => 0))), ((v 8), .inl (cI, 80, .inl (fun _ => 0))), ((v 9), .inl (cI, 80, .inl (fun _ => 0))), ((v 10), .inl (cI, 80, .inl (fun _ => 0))), ((v 15), .inl (cI, 80, .inl (fun _ => 0))), ((v 17), .inl (cI, 80, .inl (fun _ => 0))), ((v 22), .inl (cI, 80, .inl (fun _ => 0)))])) (va_Qi (fun (r : Int32) (_ : Unit) => r = 0) (fun _ _ => True) (va_A [(h0, .inr (11, mO v 0 0 0 0 0 0 0 0)), ((v 4), .inl (cI, 80, .inl (fun _ => 0))), ((v 5), .inl (cI, 80, .inl (fun _ => 0))), ((v 6), .inl (cI, 80, .inl (fun _ => 0))), ((v 7), .inl (cI, 80, .inl (fun _ => 0))), ((v 8), .inl (cI, 80, .inl (fun _ => 0))), ((v 9), .inl (cI, 80, .inl (fun _ => 0))), ((v 10), .inl (cI, 80, .inl (fun _ => 0))), ((v 15), .inl (cI, 80, .inl (fun _ => 0))), ((v 17), .inl (cI, 80, .inl (fun _ => 0))), ((v 22), .inl (cI, 80, .inl (fun _ => 0)))] sz)) 0 0 (va_A [(h0, .inr (11, mO v 0 0 0 0 0 0 0 0)), ((v 4), .inl (cI, 80, .inl (fun _ => 0))), ((v 5), .inl (cI, 80, .inl (fun _ => 0))), ((v 6), .inl (cI, 80, .inl (fun _ => 0))), ((v 7), .inl (cI, 80, .inl (fun _ => 0))), ((v 8), .inl (cI, 80, .inl (fun _ => 0))), ((v 9), .inl (cI, 80, .inl (fun _ => 0))), ((v 10), .inl (cI, 80, .inl (fun _ => 0))), ((v 15), .inl (cI, 80, .inl (fun _ => 0))), ((v 17), .inl (cI, 80, .inl (fun _ => 0))), ((v 22), .inl (cI, 80, .inl (fun _ => 0)))] sz) := by
  refine Met.ofW (cc := cX12_picture) (maxL := 1) (ret := (some .int)) (by decide) rfl ?_
  intro p e s m args below meth c s₁ B hml hv
  obtain ⟨rfl, hsz, ⟨hP, hK, hN⟩, hD0⟩ := hv
  have hx := B.exec
  have hb := B.bytes
  have hr := B.returns
  have hts := atoms_spec (ws := wsX12_picture) B.pre
  have hown : s.vm.findClass RX12 = some m.cls := findClass_of_methodNamed B.named
  have hlocks := B.notSynchronized
  subst hsz
  have hD := hD0.self (sz := s.heap.size)
  generalize hAe : va_A [(h0, .inr (11, mO v 0 0 0 0 0 0 0 0)), ((v 4), .inl (cI, 80, .inl (fun _ => 0))), ((v 5), .inl (cI, 80, .inl (fun _ => 0))), ((v 6), .inl (cI, 80, .inl (fun _ => 0))), ((v 7), .inl (cI, 80, .inl (fun _ => 0))), ((v 8), .inl (cI, 80, .inl (fun _ => 0))), ((v 9), .inl (cI, 80, .inl (fun _ => 0))), ((v 10), .inl (cI, 80, .inl (fun _ => 0))), ((v 15), .inl (cI, 80, .inl (fun _ => 0))), ((v 17), .inl (cI, 80, .inl (fun _ => 0))), ((v 22), .inl (cI, 80, .inl (fun _ => 0)))] s.heap.size = A at hD ⊢
  have hA : ∀ q : Nat, s.heap.size ≤ q → A q := fun q h => by rw [← hAe]; exact Or.inr h
  have hS : va_S A s.heap s.heap [] := va_S.rf
  have hP : va_P (dC, dI) vwCl [(h0, .inr (11, mO v 0 0 0 0 0 0 0 0)), ((v 4), .inl (cI, 80, .inl (fun _ => 0))), ((v 5), .inl (cI, 80, .inl (fun _ => 0))), ((v 6), .inl (cI, 80, .inl (fun _ => 0))), ((v 7), .inl (cI, 80, .inl (fun _ => 0))), ((v 8), .inl (cI, 80, .inl (fun _ => 0))), ((v 9), .inl (cI, 80, .inl (fun _ => 0))), ((v 10), .inl (cI, 80, .inl (fun _ => 0))), ((v 15), .inl (cI, 80, .inl (fun _ => 0))), ((v 17), .inl (cI, 80, .inl (fun _ => 0))), ((v 22), .inl (cI, 80, .inl (fun _ => 0)))] s.heap := hP
  have hl := lv_entry ([.ref h0]) (n := 1) (Nat.le_of_ble_eq_true rfl)
  rw [lg_entry_eq]
  generalize (lg_sl ([.ref h0]) ++ List.replicate (1 - (lg_sl ([.ref h0])).length) Slot.unset).toArray = ls at hl ⊢
  have hl : lv_has ls 1 [(0, .ref h0)] := hl
  refine lv_aload_n hx hb dX12_picture_0 rfl (lv_at hl 0 rfl) ?_
  refine va_get (D := (dC, dI)) (ci := 11) (v := .int 0) (C := RX12) (T := TX12) (N := 52) hx hb hts (by decide +kernel) hown hK hP 0 rfl rfl 3 (by decide) (hts (.fieldLink RX12 147 "PageOneModel" "items" "I") (by decide +kernel)) (fun _ h9 => h9) rfl dX12_picture_1 ?_
  refine lv_bipush (v := 80) hx hb dX12_picture_4 (by decide) ?_
  refine lv_icmp_ne (tgt := 13) hx hb dX12_picture_6 (by decide) (fun c_1 => ?_) (fun c_1 => absurd c_1 (by decide))
  refine lv_aload_n hx hb dX12_picture_13 rfl (lv_at hl 0 rfl) ?_
  refine lv_iconst (v := 2) hx hb dX12_picture_14 (by decide) ?_
  have hPc := hP.sub (ws' := [(h0, .inr (11, mO v 0 0 0 0 0 0 0 0)), ((v 4), .inl (cI, 80, .inl (fun _ => 0))), ((v 5), .inl (cI, 80, .inl (fun _ => 0))), ((v 6), .inl (cI, 80, .inl (fun _ => 0))), ((v 7), .inl (cI, 80, .inl (fun _ => 0))), ((v 8), .inl (cI, 80, .inl (fun _ => 0))), ((v 9), .inl (cI, 80, .inl (fun _ => 0))), ((v 10), .inl (cI, 80, .inl (fun _ => 0))), ((v 15), .inl (cI, 80, .inl (fun _ => 0))), ((v 17), .inl (cI, 80, .inl (fun _ => 0))), ((v 22), .inl (cI, 80, .inl (fun _ => 0)))]) [0, 1, 2, 3, 4, 5, 6, 7, 8, 9, 10] rfl
  have hKc := hK.sub (tys' := [(cI, .int)]) [0] rfl
  have hDc := hD.sub (ws' := [(h0, .inr (11, mO v 0 0 0 0 0 0 0 0)), ((v 4), .inl (cI, 80, .inl (fun _ => 0))), ((v 5), .inl (cI, 80, .inl (fun _ => 0))), ((v 6), .inl (cI, 80, .inl (fun _ => 0))), ((v 7), .inl (cI, 80, .inl (fun _ => 0))), ((v 8), .inl (cI, 80, .inl (fun _ => 0))), ((v 9), .inl (cI, 80, .inl (fun _ => 0))), ((v 10), .inl (cI, 80, .inl (fun _ => 0))), ((v 15), .inl (cI, 80, .inl (fun _ => 0))), ((v 17), .inl (cI, 80, .inl (fun _ => 0))), ((v 22), .inl (cI, 80, .inl (fun _ => 0)))]) [0, 1, 2, 3, 4, 5, 6, 7, 8, 9, 10] (by decide) rfl
  have hFc := va_free (wc := [(h0, .inr (11, mO v 0 0 0 0 0 0 0 0)), ((v 4), .inl (cI, 80, .inl (fun _ => 0))), ((v 5), .inl (cI, 80, .inl (fun _ => 0))), ((v 6), .inl (cI, 80, .inl (fun _ => 0))), ((v 7), .inl (cI, 80, .inl (fun _ => 0))), ((v 8), .inl (cI, 80, .inl (fun _ => 0))), ((v 9), .inl (cI, 80, .inl (fun _ => 0))), ((v 10), .inl (cI, 80, .inl (fun _ => 0))), ((v 15), .inl (cI, 80, .inl (fun _ => 0))), ((v 17), .inl (cI, 80, .inl (fun _ => 0))), ((v 22), .inl (cI, 80, .inl (fun _ => 0)))]) hD hS hA [0, 1, 2, 3, 4, 5, 6, 7, 8, 9, 10] rfl
  refine va_calli (va_runV (As := [.int 2]) (rest := []) ⟨hx, hb, hml, hown, hts⟩ (m_made0 l dC dI h0 v cI 2 s.heap.size) (cwV 1 hts gX12_picture_X12_made rfl rfl rfl (by decide +kernel) ⟨Nat.le_of_ble_eq_true rfl, Nat.le_of_ble_eq_true rfl⟩) ⟨gw_fb, va_recv hKc hPc (ci := 11) (q0 := 0) rfl rfl, fun U hU hW => ⟨rfl, by rw [hU], pw_to hU hW hPc hKc hN, hDc.weaken (fun _ _ _ _ => trivial)⟩⟩ rfl rfl hl.1 rfl (lv_room (Nat.le_of_ble_eq_true rfl)) dX12_picture_15 ⟨Nat.le_of_ble_eq_true rfl, Nat.le_of_ble_eq_true rfl⟩) hS (fun q _ h => hFc q h) hFc (fun r u t H1 locs ht hvm hw hB hz1 hk1 hS => ?_)
  obtain ⟨hP1, hD1⟩ := hB
  rw [ht] at hP1
  obtain ⟨hP, hD⟩ := va_join (wr := []) (w1 := [(h0, .inr (11, mO v 1 0 0 0 0 0 0 0)), ((v 5), .inl (cI, 80, .inl (u 0))), ((v 6), .inl (cI, 80, .inl (u 1))), ((v 7), .inl (cI, 80, .inl (u 2))), ((v 8), .inl (cI, 80, .inl (u 3))), ((v 10), .inl (cI, 80, .inl (u 4)))]) hP hD [0, 1, 2, 3, 4, 5, 6, 7, 8, 9, 10] [] rfl rfl (by decide) (by decide) hk1 hFc hP1 hD1
  generalize H1 = H at hP hS ⊢
  have hP : va_P (dC, dI) vwCl [(h0, .inr (11, mO v 1 0 0 0 0 0 0 0)), ((v 5), .inl (cI, 80, .inl (u 0))), ((v 6), .inl (cI, 80, .inl (u 1))), ((v 7), .inl (cI, 80, .inl (u 2))), ((v 8), .inl (cI, 80, .inl (u 3))), ((v 10), .inl (cI, 80, .inl (u 4)))] H := hP
  have hD : va_D A [(h0, .inr (11, mO v 1 0 0 0 0 0 0 0)), ((v 5), .inl (cI, 80, .inl (u 0))), ((v 6), .inl (cI, 80, .inl (u 1))), ((v 7), .inl (cI, 80, .inl (u 2))), ((v 8), .inl (cI, 80, .inl (u 3))), ((v 10), .inl (cI, 80, .inl (u 4)))] := hD
  refine W.widen (k := 0) (n := 0) (Nat.le_of_ble_eq_true rfl) (Nat.le_of_ble_eq_true rfl) ?_
  obtain rfl : r = 0 := hw
  exact W.iret (v := 0) hx hb hr (fun t ht hW => ⟨⟨0, (), rfl, (by simp [bi]), trivial⟩, hS.F ht⟩) hS.2.2 dX12_picture_18
set_option maxHeartbeats 4000000 in
set_option maxRecDepth 100000 in
theorem m_paid (l : Launch) (dC : Nat → ClassId) (dI : Nat → Nat → Nat) (h0 : Nat) (v : Nat → Nat) (cI : ClassId) (p0 p1 p2 p3 p4 p5 p6 : Int32) (sz : Nat) : Met l yX12_paid wsX12_paid ({ frames := 2, cells := 0, slots := 0, locals := 42 }) (va_Pc [.ref h0, .int p0, .int p1, .int p2, .int p3, .int p4, .int p5, .int p6] (fun U => U.heap.size = sz ∧ PW dC dI [(h0, .inr (11, mO v 0 0 0 0 0 0 0 0)), ((v 4), .inl (cI, 80, .inl (fun _ => 0))), ((v 5), .inl (cI, 80, .inl (fun _ => 0))), ((v 6), .inl (cI, 80, .inl (fun _ => 0))), ((v 7), .inl (cI, 80, .inl (fun _ => 0))), ((v 8), .inl (cI, 80, .inl (fun _ => 0))), ((v 9), .inl (cI, 80, .inl (fun _ => 0))), ((v 10), .inl (cI, 80, .inl (fun _ => 0))), ((v 15), .inl (cI, 80, .inl (fun _ => 0))), ((v 17), .inl (cI, 80, .inl (fun _ => 0))), ((v 22), .inl (cI, 80, .inl (fun _ => 0))), ((v 11), .inl (cI, 80, .inl (fun _ => 0))), ((v 12), .inl (cI, 80, .inl (fun _ => 0))), ((v 13), .inl (cI, 80, .inl (fun _ => 0))), ((v 14), .inl (cI, 80, .inl (fun _ => 0)))] [(cI, .int)] U ∧ va_D (fun _ => True) [(h0, .inr (11, mO v 0 0 0 0 0 0 0 0)), ((v 4), .inl (cI, 80, .inl (fun _ => 0))), ((v 5), .inl (cI, 80, .inl (fun _ => 0))), ((v 6), .inl (cI, 80, .inl (fun _ => 0))), ((v 7), .inl (cI, 80, .inl (fun _ => 0))), ((v 8), .inl (cI, 80, .inl (fun _ => 0))), ((v 9), .inl (cI, 80, .inl (fun _ => 0))), ((v 10), .inl (cI, 80, .inl (fun _ => 0))), ((v 15), .inl (cI, 80, .inl (fun _ => 0))), ((v 17), .inl (cI, 80, .inl (fun _ => 0))), ((v 22), .inl (cI, 80, .inl (fun _ => 0))), ((v 11), .inl (cI, 80, .inl (fun _ => 0))), ((v 12), .inl (cI, 80, .inl (fun _ => 0))), ((v 13), .inl (cI, 80, .inl (fun _ => 0))), ((v 14), .inl (cI, 80, .inl (fun _ => 0)))])) (va_Qi (fun (r : Int32) (_ : Unit) => r = (if bw p1 0 11 && bw p2 0 7 && bw p3 0 59 && bw p4 1 8 && bw p5 1 60 && bw p0 0 9 && !decide (8 < p2 + p4) && !decide (60 < p3 + p5) && bw p6 0 1000 then 0 else (-1))) (fun _ _ => True) (va_A [(h0, .inr (11, mO v 0 0 0 0 0 0 0 0)), ((v 4), .inl (cI, 80, .inl (fun _ => 0))), ((v 5), .inl (cI, 80, .inl (fun _ => 0))), ((v 6), .inl (cI, 80, .inl (fun _ => 0))), ((v 7), .inl (cI, 80, .inl (fun _ => 0))), ((v 8), .inl (cI, 80, .inl (fun _ => 0))), ((v 9), .inl (cI, 80, .inl (fun _ => 0))), ((v 10), .inl (cI, 80, .inl (fun _ => 0))), ((v 15), .inl (cI, 80, .inl (fun _ => 0))), ((v 17), .inl (cI, 80, .inl (fun _ => 0))), ((v 22), .inl (cI, 80, .inl (fun _ => 0))), ((v 11), .inl (cI, 80, .inl (fun _ => 0))), ((v 12), .inl (cI, 80, .inl (fun _ => 0))), ((v 13), .inl (cI, 80, .inl (fun _ => 0))), ((v 14), .inl (cI, 80, .inl (fun _ => 0)))] sz)) 0 0 (va_A [(h0, .inr (11, mO v 0 0 0 0 0 0 0 0)), ((v 4), .inl (cI, 80, .inl (fun _ => 0))), ((v 5), .inl (cI, 80, .inl (fun _ => 0))), ((v 6), .inl (cI, 80, .inl (fun _ => 0))), ((v 7), .inl (cI, 80, .inl (fun _ => 0))), ((v 8), .inl (cI, 80, .inl (fun _ => 0))), ((v 9), .inl (cI, 80, .inl (fun _ => 0))), ((v 10), .inl (cI, 80, .inl (fun _ => 0))), ((v 15), .inl (cI, 80, .inl (fun _ => 0))), ((v 17), .inl (cI, 80, .inl (fun _ => 0))), ((v 22), .inl (cI, 80, .inl (fun _ => 0))), ((v 11), .inl (cI, 80, .inl (fun _ => 0))), ((v 12), .inl (cI, 80, .inl (fun _ => 0))), ((v 13), .inl (cI, 80, .inl (fun _ => 0))), ((v 14), .inl (cI, 80, .inl (fun _ => 0)))] sz) := by
  refine Met.ofW (cc := cX12_paid) (maxL := 11) (ret := (some .int)) (by decide) rfl ?_
  intro p e s m args below meth c s₁ B hml hv
  obtain ⟨rfl, hsz, ⟨hP, hK, hN⟩, hD0⟩ := hv
  have hx := B.exec
  have hb := B.bytes
  have hr := B.returns
  have hts := atoms_spec (ws := wsX12_paid) B.pre
  have hown : s.vm.findClass RX12 = some m.cls := findClass_of_methodNamed B.named
  have hlocks := B.notSynchronized
  subst hsz
  have hD := hD0.self (sz := s.heap.size)
  generalize hAe : va_A [(h0, .inr (11, mO v 0 0 0 0 0 0 0 0)), ((v 4), .inl (cI, 80, .inl (fun _ => 0))), ((v 5), .inl (cI, 80, .inl (fun _ => 0))), ((v 6), .inl (cI, 80, .inl (fun _ => 0))), ((v 7), .inl (cI, 80, .inl (fun _ => 0))), ((v 8), .inl (cI, 80, .inl (fun _ => 0))), ((v 9), .inl (cI, 80, .inl (fun _ => 0))), ((v 10), .inl (cI, 80, .inl (fun _ => 0))), ((v 15), .inl (cI, 80, .inl (fun _ => 0))), ((v 17), .inl (cI, 80, .inl (fun _ => 0))), ((v 22), .inl (cI, 80, .inl (fun _ => 0))), ((v 11), .inl (cI, 80, .inl (fun _ => 0))), ((v 12), .inl (cI, 80, .inl (fun _ => 0))), ((v 13), .inl (cI, 80, .inl (fun _ => 0))), ((v 14), .inl (cI, 80, .inl (fun _ => 0)))] s.heap.size = A at hD ⊢
  have hA : ∀ q : Nat, s.heap.size ≤ q → A q := fun q h => by rw [← hAe]; exact Or.inr h
  have hS : va_S A s.heap s.heap [] := va_S.rf
  have hP : va_P (dC, dI) vwCl [(h0, .inr (11, mO v 0 0 0 0 0 0 0 0)), ((v 4), .inl (cI, 80, .inl (fun _ => 0))), ((v 5), .inl (cI, 80, .inl (fun _ => 0))), ((v 6), .inl (cI, 80, .inl (fun _ => 0))), ((v 7), .inl (cI, 80, .inl (fun _ => 0))), ((v 8), .inl (cI, 80, .inl (fun _ => 0))), ((v 9), .inl (cI, 80, .inl (fun _ => 0))), ((v 10), .inl (cI, 80, .inl (fun _ => 0))), ((v 15), .inl (cI, 80, .inl (fun _ => 0))), ((v 17), .inl (cI, 80, .inl (fun _ => 0))), ((v 22), .inl (cI, 80, .inl (fun _ => 0))), ((v 11), .inl (cI, 80, .inl (fun _ => 0))), ((v 12), .inl (cI, 80, .inl (fun _ => 0))), ((v 13), .inl (cI, 80, .inl (fun _ => 0))), ((v 14), .inl (cI, 80, .inl (fun _ => 0)))] s.heap := hP
  have hl := lv_entry ([.ref h0, .int p0, .int p1, .int p2, .int p3, .int p4, .int p5, .int p6]) (n := 11) (Nat.le_of_ble_eq_true rfl)
  rw [lg_entry_eq]
  generalize (lg_sl ([.ref h0, .int p0, .int p1, .int p2, .int p3, .int p4, .int p5, .int p6]) ++ List.replicate (11 - (lg_sl ([.ref h0, .int p0, .int p1, .int p2, .int p3, .int p4, .int p5, .int p6])).length) Slot.unset).toArray = ls at hl ⊢
  have hl : lv_has ls 11 [(0, .ref h0), (1, .int p0), (2, .int p1), (3, .int p2), (4, .int p3), (5, .int p4), (6, .int p5), (7, .int p6)] := hl
  refine lv_iload_n hx hb dX12_paid_0 rfl (lv_at hl 2 rfl) ?_
  have hPc := hP.sub (ws' := []) [] rfl
  have hKc := hK.sub (tys' := []) [] rfl
  refine vp_callSi (va_runS (As := [.int p1]) (rest := []) ⟨hx, hb, hml, hown, hts⟩ (m_isPage l dC dI p1) (va_cwS 1 hts gX12_paid_X12_isPage rfl rfl rfl (by decide +kernel) ⟨Nat.le_of_ble_eq_true rfl, Nat.le_of_ble_eq_true rfl⟩) ⟨pw_fb, fun U hU hW => ⟨rfl, pw_to hU hW hPc hKc hN⟩⟩ rfl rfl hl.1 rfl (lv_room (Nat.le_of_ble_eq_true rfl)) dX12_paid_1 ⟨Nat.le_of_ble_eq_true rfl, Nat.le_of_ble_eq_true rfl⟩).run (fun r hw => ?_)
  rcases Bool.eq_false_or_eq_true (bw p1 0 11) with b_1 | b_1
  ·
    obtain rfl : r = 1 := b_t hw b_1
    refine lv_if_eq (tgt := 32) hx hb dX12_paid_4 (by decide) (fun c_2 => absurd c_2 (by decide)) (fun c_2 => ?_)
    refine lv_iload_n hx hb dX12_paid_7 rfl (lv_at hl 3 rfl) ?_
    refine lv_iconst (v := 0) hx hb dX12_paid_8 (by decide) ?_
    refine lv_bipush (v := 7) hx hb dX12_paid_9 (by decide) ?_
    have hPc := hP.sub (ws' := []) [] rfl
    have hKc := hK.sub (tys' := []) [] rfl
    refine vp_callSi (va_runS (As := [.int p2, .int 0, .int 7]) (rest := []) ⟨hx, hb, hml, hown, hts⟩ (m_in l dC dI p2 0 7) (va_cwS 3 hts gX12_paid_X12_in rfl rfl rfl (by decide +kernel) ⟨Nat.le_of_ble_eq_true rfl, Nat.le_of_ble_eq_true rfl⟩) ⟨pw_fb, fun U hU hW => ⟨rfl, pw_to hU hW hPc hKc hN⟩⟩ rfl rfl hl.1 rfl (lv_room (Nat.le_of_ble_eq_true rfl)) dX12_paid_11 ⟨Nat.le_of_ble_eq_true rfl, Nat.le_of_ble_eq_true rfl⟩).run (fun r hw => ?_)
    rcases Bool.eq_false_or_eq_true (bw p2 0 7) with b_3 | b_3
    ·
      obtain rfl : r = 1 := b_t hw b_3
      refine lv_if_eq (tgt := 32) hx hb dX12_paid_14 (by decide) (fun c_4 => absurd c_4 (by decide)) (fun c_4 => ?_)
      refine lv_iload hx hb dX12_paid_17 (lv_at hl 4 rfl) ?_
      refine lv_iconst (v := 0) hx hb dX12_paid_19 (by decide) ?_
      refine lv_bipush (v := 59) hx hb dX12_paid_20 (by decide) ?_
      have hPc := hP.sub (ws' := []) [] rfl
      have hKc := hK.sub (tys' := []) [] rfl
      refine vp_callSi (va_runS (As := [.int p3, .int 0, .int 59]) (rest := []) ⟨hx, hb, hml, hown, hts⟩ (m_in l dC dI p3 0 59) (va_cwS 3 hts gX12_paid_X12_in rfl rfl rfl (by decide +kernel) ⟨Nat.le_of_ble_eq_true rfl, Nat.le_of_ble_eq_true rfl⟩) ⟨pw_fb, fun U hU hW => ⟨rfl, pw_to hU hW hPc hKc hN⟩⟩ rfl rfl hl.1 rfl (lv_room (Nat.le_of_ble_eq_true rfl)) dX12_paid_22 ⟨Nat.le_of_ble_eq_true rfl, Nat.le_of_ble_eq_true rfl⟩).run (fun r hw => ?_)
      rcases Bool.eq_false_or_eq_true (bw p3 0 59) with b_5 | b_5
      ·
        obtain rfl : r = 1 := b_t hw b_5
        refine lv_if_eq (tgt := 32) hx hb dX12_paid_25 (by decide) (fun c_6 => absurd c_6 (by decide)) (fun c_6 => ?_)
        refine lv_iconst (v := 1) hx hb dX12_paid_28 (by decide) ?_
        refine lv_goto (tgt := 33) hx hb dX12_paid_29 (by decide) ?_
        refine lv_istore (lv' := [(8, .int 1), (0, .ref h0), (1, .int p0), (2, .int p1), (3, .int p2), (4, .int p3), (5, .int p4), (6, .int p5), (7, .int p6)]) hx hb dX12_paid_33 hl (by decide) rfl (fun ls hl => ?_)
        refine lv_iload hx hb dX12_paid_35 (lv_at hl 6 rfl) ?_
        refine lv_iconst (v := 1) hx hb dX12_paid_37 (by decide) ?_
        refine lv_bipush (v := 8) hx hb dX12_paid_38 (by decide) ?_
        have hPc := hP.sub (ws' := []) [] rfl
        have hKc := hK.sub (tys' := []) [] rfl
        refine vp_callSi (va_runS (As := [.int p4, .int 1, .int 8]) (rest := []) ⟨hx, hb, hml, hown, hts⟩ (m_in l dC dI p4 1 8) (va_cwS 3 hts gX12_paid_X12_in rfl rfl rfl (by decide +kernel) ⟨Nat.le_of_ble_eq_true rfl, Nat.le_of_ble_eq_true rfl⟩) ⟨pw_fb, fun U hU hW => ⟨rfl, pw_to hU hW hPc hKc hN⟩⟩ rfl rfl hl.1 rfl (lv_room (Nat.le_of_ble_eq_true rfl)) dX12_paid_40 ⟨Nat.le_of_ble_eq_true rfl, Nat.le_of_ble_eq_true rfl⟩).run (fun r hw => ?_)
        rcases Bool.eq_false_or_eq_true (bw p4 1 8) with b_7 | b_7
        ·
          obtain rfl : r = 1 := b_t hw b_7
          refine lv_if_eq (tgt := 61) hx hb dX12_paid_43 (by decide) (fun c_8 => absurd c_8 (by decide)) (fun c_8 => ?_)
          refine lv_iload hx hb dX12_paid_46 (lv_at hl 7 rfl) ?_
          refine lv_iconst (v := 1) hx hb dX12_paid_48 (by decide) ?_
          refine lv_bipush (v := 60) hx hb dX12_paid_49 (by decide) ?_
          have hPc := hP.sub (ws' := []) [] rfl
          have hKc := hK.sub (tys' := []) [] rfl
          refine vp_callSi (va_runS (As := [.int p5, .int 1, .int 60]) (rest := []) ⟨hx, hb, hml, hown, hts⟩ (m_in l dC dI p5 1 60) (va_cwS 3 hts gX12_paid_X12_in rfl rfl rfl (by decide +kernel) ⟨Nat.le_of_ble_eq_true rfl, Nat.le_of_ble_eq_true rfl⟩) ⟨pw_fb, fun U hU hW => ⟨rfl, pw_to hU hW hPc hKc hN⟩⟩ rfl rfl hl.1 rfl (lv_room (Nat.le_of_ble_eq_true rfl)) dX12_paid_51 ⟨Nat.le_of_ble_eq_true rfl, Nat.le_of_ble_eq_true rfl⟩).run (fun r hw => ?_)
          rcases Bool.eq_false_or_eq_true (bw p5 1 60) with b_9 | b_9
          ·
            obtain rfl : r = 1 := b_t hw b_9
            refine lv_if_eq (tgt := 61) hx hb dX12_paid_54 (by decide) (fun c_10 => absurd c_10 (by decide)) (fun c_10 => ?_)
            refine lv_iconst (v := 1) hx hb dX12_paid_57 (by decide) ?_
            refine lv_goto (tgt := 62) hx hb dX12_paid_58 (by decide) ?_
            refine lv_istore (lv' := [(9, .int 1), (8, .int 1), (0, .ref h0), (1, .int p0), (2, .int p1), (3, .int p2), (4, .int p3), (5, .int p4), (6, .int p5), (7, .int p6)]) hx hb dX12_paid_62 hl (by decide) rfl (fun ls hl => ?_)
            refine lv_aload_n hx hb dX12_paid_64 rfl (lv_at hl 2 rfl) ?_
            refine va_get (D := (dC, dI)) (ci := 11) (v := .int 0) (C := RX12) (T := TX12) (N := 52) hx hb hts (by decide +kernel) hown hK hP 0 rfl rfl 3 (by decide) (hts (.fieldLink RX12 147 "PageOneModel" "items" "I") (by decide +kernel)) (fun _ h9 => h9) rfl dX12_paid_65 ?_
            refine lv_bipush (v := 80) hx hb dX12_paid_68 (by decide) ?_
            refine lv_icmp_eq (tgt := 121) hx hb dX12_paid_70 (by decide) (fun c_11 => absurd c_11 (by decide)) (fun c_11 => ?_)
            refine lv_iload_n hx hb dX12_paid_73 rfl (lv_at hl 3 rfl) ?_
            have hPc := hP.sub (ws' := []) [] rfl
            have hKc := hK.sub (tys' := []) [] rfl
            refine vp_callSi (va_runS (As := [.int p0]) (rest := []) ⟨hx, hb, hml, hown, hts⟩ (m_isBuyer l dC dI p0) (va_cwS 1 hts gX12_paid_X12_isBuyer rfl rfl rfl (by decide +kernel) ⟨Nat.le_of_ble_eq_true rfl, Nat.le_of_ble_eq_true rfl⟩) ⟨pw_fb, fun U hU hW => ⟨rfl, pw_to hU hW hPc hKc hN⟩⟩ rfl rfl hl.1 rfl (lv_room (Nat.le_of_ble_eq_true rfl)) dX12_paid_74 ⟨Nat.le_of_ble_eq_true rfl, Nat.le_of_ble_eq_true rfl⟩).run (fun r hw => ?_)
            rcases Bool.eq_false_or_eq_true (bw p0 0 9) with b_12 | b_12
            ·
              obtain rfl : r = 1 := b_t hw b_12
              refine lv_if_eq (tgt := 121) hx hb dX12_paid_77 (by decide) (fun c_13 => absurd c_13 (by decide)) (fun c_13 => ?_)
              refine lv_iload hx hb dX12_paid_80 (lv_at hl 1 rfl) ?_
              refine lv_if_eq (tgt := 121) hx hb dX12_paid_82 (by decide) (fun c_14 => absurd c_14 (by decide)) (fun c_14 => ?_)
              refine lv_iload hx hb dX12_paid_85 (lv_at hl 0 rfl) ?_
              refine lv_if_eq (tgt := 121) hx hb dX12_paid_87 (by decide) (fun c_15 => absurd c_15 (by decide)) (fun c_15 => ?_)
              refine lv_iload_n hx hb dX12_paid_90 rfl (lv_at hl 5 rfl) ?_
              refine lv_iload hx hb dX12_paid_91 (lv_at hl 7 rfl) ?_
              refine lv_iadd hx hb dX12_paid_93 ?_
              refine lv_bipush (v := 8) hx hb dX12_paid_94 (by decide) ?_
              refine lv_icmp_gt (tgt := 121) hx hb dX12_paid_96 (by decide) (fun c_16 => ?_) (fun c_16 => ?_)
              ·
                refine lv_iconst (v := (-1)) hx hb dX12_paid_121 (by decide) ?_
                exact W.iret (v := (-1)) hx hb hr (fun t ht hW => ⟨⟨(-1), (), rfl, (by first | (simp [bi, b_1, b_3, b_5, b_7, b_9, b_12, c_16]; done) | (simp only [b_1, b_3, b_5, b_7, b_9, b_12]; simp [bi, c_16])), trivial⟩, hS.F ht⟩) hS.2.2 dX12_paid_122
              ·
                refine lv_iload hx hb dX12_paid_99 (lv_at hl 6 rfl) ?_
                refine lv_iload hx hb dX12_paid_101 (lv_at hl 8 rfl) ?_
                refine lv_iadd hx hb dX12_paid_103 ?_
                refine lv_bipush (v := 60) hx hb dX12_paid_104 (by decide) ?_
                refine lv_icmp_gt (tgt := 121) hx hb dX12_paid_106 (by decide) (fun c_17 => ?_) (fun c_17 => ?_)
                ·
                  refine lv_iconst (v := (-1)) hx hb dX12_paid_121 (by decide) ?_
                  exact W.iret (v := (-1)) hx hb hr (fun t ht hW => ⟨⟨(-1), (), rfl, (by first | (simp [bi, b_1, b_3, b_5, b_7, b_9, b_12, c_16, c_17]; done) | (simp only [b_1, b_3, b_5, b_7, b_9, b_12]; simp [bi, c_16, c_17])), trivial⟩, hS.F ht⟩) hS.2.2 dX12_paid_122
                ·
                  refine lv_iload hx hb dX12_paid_109 (lv_at hl 9 rfl) ?_
                  refine lv_iconst (v := 0) hx hb dX12_paid_111 (by decide) ?_
                  refine lv_sipush (v := 1000) hx hb dX12_paid_112 (by decide) ?_
                  have hPc := hP.sub (ws' := []) [] rfl
                  have hKc := hK.sub (tys' := []) [] rfl
                  refine vp_callSi (va_runS (As := [.int p6, .int 0, .int 1000]) (rest := []) ⟨hx, hb, hml, hown, hts⟩ (m_in l dC dI p6 0 1000) (va_cwS 3 hts gX12_paid_X12_in rfl rfl rfl (by decide +kernel) ⟨Nat.le_of_ble_eq_true rfl, Nat.le_of_ble_eq_true rfl⟩) ⟨pw_fb, fun U hU hW => ⟨rfl, pw_to hU hW hPc hKc hN⟩⟩ rfl rfl hl.1 rfl (lv_room (Nat.le_of_ble_eq_true rfl)) dX12_paid_115 ⟨Nat.le_of_ble_eq_true rfl, Nat.le_of_ble_eq_true rfl⟩).run (fun r hw => ?_)
                  rcases Bool.eq_false_or_eq_true (bw p6 0 1000) with b_18 | b_18
                  ·
                    obtain rfl : r = 1 := b_t hw b_18
                    refine lv_if_ne (tgt := 123) hx hb dX12_paid_118 (by decide) (fun c_19 => ?_) (fun c_19 => absurd c_19 (by decide))
                    refine lv_aload_n hx hb dX12_paid_123 rfl (lv_at hl 2 rfl) ?_
                    refine lv_iconst (v := 3) hx hb dX12_paid_124 (by decide) ?_
                    have hPc := hP.sub (ws' := [(h0, .inr (11, mO v 0 0 0 0 0 0 0 0)), ((v 4), .inl (cI, 80, .inl (fun _ => 0))), ((v 5), .inl (cI, 80, .inl (fun _ => 0))), ((v 6), .inl (cI, 80, .inl (fun _ => 0))), ((v 7), .inl (cI, 80, .inl (fun _ => 0))), ((v 8), .inl (cI, 80, .inl (fun _ => 0))), ((v 9), .inl (cI, 80, .inl (fun _ => 0))), ((v 10), .inl (cI, 80, .inl (fun _ => 0))), ((v 15), .inl (cI, 80, .inl (fun _ => 0))), ((v 17), .inl (cI, 80, .inl (fun _ => 0))), ((v 22), .inl (cI, 80, .inl (fun _ => 0)))]) [0, 1, 2, 3, 4, 5, 6, 7, 8, 9, 10] rfl
                    have hKc := hK.sub (tys' := [(cI, .int)]) [0] rfl
                    have hDc := hD.sub (ws' := [(h0, .inr (11, mO v 0 0 0 0 0 0 0 0)), ((v 4), .inl (cI, 80, .inl (fun _ => 0))), ((v 5), .inl (cI, 80, .inl (fun _ => 0))), ((v 6), .inl (cI, 80, .inl (fun _ => 0))), ((v 7), .inl (cI, 80, .inl (fun _ => 0))), ((v 8), .inl (cI, 80, .inl (fun _ => 0))), ((v 9), .inl (cI, 80, .inl (fun _ => 0))), ((v 10), .inl (cI, 80, .inl (fun _ => 0))), ((v 15), .inl (cI, 80, .inl (fun _ => 0))), ((v 17), .inl (cI, 80, .inl (fun _ => 0))), ((v 22), .inl (cI, 80, .inl (fun _ => 0)))]) [0, 1, 2, 3, 4, 5, 6, 7, 8, 9, 10] (by decide) rfl
                    have hFc := va_free (wc := [(h0, .inr (11, mO v 0 0 0 0 0 0 0 0)), ((v 4), .inl (cI, 80, .inl (fun _ => 0))), ((v 5), .inl (cI, 80, .inl (fun _ => 0))), ((v 6), .inl (cI, 80, .inl (fun _ => 0))), ((v 7), .inl (cI, 80, .inl (fun _ => 0))), ((v 8), .inl (cI, 80, .inl (fun _ => 0))), ((v 9), .inl (cI, 80, .inl (fun _ => 0))), ((v 10), .inl (cI, 80, .inl (fun _ => 0))), ((v 15), .inl (cI, 80, .inl (fun _ => 0))), ((v 17), .inl (cI, 80, .inl (fun _ => 0))), ((v 22), .inl (cI, 80, .inl (fun _ => 0)))]) hD hS hA [0, 1, 2, 3, 4, 5, 6, 7, 8, 9, 10] rfl
                    refine va_calli (va_runV (As := [.int 3]) (rest := []) ⟨hx, hb, hml, hown, hts⟩ (m_made0 l dC dI h0 v cI 3 s.heap.size) (cwV 1 hts gX12_paid_X12_made rfl rfl rfl (by decide +kernel) ⟨Nat.le_of_ble_eq_true rfl, Nat.le_of_ble_eq_true rfl⟩) ⟨gw_fb, va_recv hKc hPc (ci := 11) (q0 := 0) rfl rfl, fun U hU hW => ⟨rfl, by rw [hU], pw_to hU hW hPc hKc hN, hDc.weaken (fun _ _ _ _ => trivial)⟩⟩ rfl rfl hl.1 rfl (lv_room (Nat.le_of_ble_eq_true rfl)) dX12_paid_125 ⟨Nat.le_of_ble_eq_true rfl, Nat.le_of_ble_eq_true rfl⟩) hS (fun q _ h => hFc q h) hFc (fun r u t H1 locs ht hvm hw hB hz1 hk1 hS => ?_)
                    obtain ⟨hP1, hD1⟩ := hB
                    rw [ht] at hP1
                    obtain ⟨hP, hD⟩ := va_join (wr := [((v 11), .inl (cI, 80, .inl (fun _ => 0))), ((v 12), .inl (cI, 80, .inl (fun _ => 0))), ((v 13), .inl (cI, 80, .inl (fun _ => 0))), ((v 14), .inl (cI, 80, .inl (fun _ => 0)))]) (w1 := [(h0, .inr (11, mO v 1 0 0 0 0 0 0 0)), ((v 5), .inl (cI, 80, .inl (u 0))), ((v 6), .inl (cI, 80, .inl (u 1))), ((v 7), .inl (cI, 80, .inl (u 2))), ((v 8), .inl (cI, 80, .inl (u 3))), ((v 10), .inl (cI, 80, .inl (u 4)))]) hP hD [0, 1, 2, 3, 4, 5, 6, 7, 8, 9, 10] [11, 12, 13, 14] rfl rfl (by decide) (by decide) hk1 hFc hP1 hD1
                    generalize H1 = H at hP hS ⊢
                    have hP : va_P (dC, dI) vwCl [((v 11), .inl (cI, 80, .inl (fun _ => 0))), ((v 12), .inl (cI, 80, .inl (fun _ => 0))), ((v 13), .inl (cI, 80, .inl (fun _ => 0))), ((v 14), .inl (cI, 80, .inl (fun _ => 0))), (h0, .inr (11, mO v 1 0 0 0 0 0 0 0)), ((v 5), .inl (cI, 80, .inl (u 0))), ((v 6), .inl (cI, 80, .inl (u 1))), ((v 7), .inl (cI, 80, .inl (u 2))), ((v 8), .inl (cI, 80, .inl (u 3))), ((v 10), .inl (cI, 80, .inl (u 4)))] H := hP
                    have hD : va_D A [((v 11), .inl (cI, 80, .inl (fun _ => 0))), ((v 12), .inl (cI, 80, .inl (fun _ => 0))), ((v 13), .inl (cI, 80, .inl (fun _ => 0))), ((v 14), .inl (cI, 80, .inl (fun _ => 0))), (h0, .inr (11, mO v 1 0 0 0 0 0 0 0)), ((v 5), .inl (cI, 80, .inl (u 0))), ((v 6), .inl (cI, 80, .inl (u 1))), ((v 7), .inl (cI, 80, .inl (u 2))), ((v 8), .inl (cI, 80, .inl (u 3))), ((v 10), .inl (cI, 80, .inl (u 4)))] := hD
                    refine W.widen (k := 0) (n := 0) (Nat.le_of_ble_eq_true rfl) (Nat.le_of_ble_eq_true rfl) ?_
                    obtain rfl : r = 0 := hw
                    refine lv_istore (lv' := [(10, .int 0), (9, .int 1), (8, .int 1), (0, .ref h0), (1, .int p0), (2, .int p1), (3, .int p2), (4, .int p3), (5, .int p4), (6, .int p5), (7, .int p6)]) hx hb dX12_paid_128 hl (by decide) rfl (fun ls hl => ?_)
                    refine lv_aload_n hx hb dX12_paid_130 rfl (lv_at hl 3 rfl) ?_
                    refine va_get (D := (dC, dI)) (ci := 11) (v := .ref (v 10)) (C := RX12) (T := TX12) (N := 52) hx hb hts (by decide +kernel) hown hK hP 4 rfl rfl 10 (by decide) (hts (.fieldLink RX12 37 "PageOneModel" "buyer" "[I") (by decide +kernel)) (fun _ h9 => h9) rfl dX12_paid_131 ?_
                    refine lv_iload hx hb dX12_paid_134 (lv_at hl 0 rfl) ?_
                    refine lv_iload_n hx hb dX12_paid_136 rfl (lv_at hl 4 rfl) ?_
                    refine va_iast hx hb hK hP hD hS 9 0 rfl rfl (by unfold vp_in; decide) dX12_paid_137 (fun H locs hP hD hS => ?_)
                    have hP : va_P (dC, dI) vwCl [((v 11), .inl (cI, 80, .inl (fun _ => 0))), ((v 12), .inl (cI, 80, .inl (fun _ => 0))), ((v 13), .inl (cI, 80, .inl (fun _ => 0))), ((v 14), .inl (cI, 80, .inl (fun _ => 0))), (h0, .inr (11, mO v 1 0 0 0 0 0 0 0)), ((v 5), .inl (cI, 80, .inl (u 0))), ((v 6), .inl (cI, 80, .inl (u 1))), ((v 7), .inl (cI, 80, .inl (u 2))), ((v 8), .inl (cI, 80, .inl (u 3))), ((v 10), .inl (cI, 80, .inl (upd (u 4) 0 p0)))] H := hP
                    have hD : va_D A [((v 11), .inl (cI, 80, .inl (fun _ => 0))), ((v 12), .inl (cI, 80, .inl (fun _ => 0))), ((v 13), .inl (cI, 80, .inl (fun _ => 0))), ((v 14), .inl (cI, 80, .inl (fun _ => 0))), (h0, .inr (11, mO v 1 0 0 0 0 0 0 0)), ((v 5), .inl (cI, 80, .inl (u 0))), ((v 6), .inl (cI, 80, .inl (u 1))), ((v 7), .inl (cI, 80, .inl (u 2))), ((v 8), .inl (cI, 80, .inl (u 3))), ((v 10), .inl (cI, 80, .inl (upd (u 4) 0 p0)))] := hD
                    refine lv_aload_n hx hb dX12_paid_138 rfl (lv_at hl 3 rfl) ?_
                    refine va_get (D := (dC, dI)) (ci := 11) (v := .ref (v 11)) (C := RX12) (T := TX12) (N := 52) hx hb hts (by decide +kernel) hown hK hP 4 rfl rfl 11 (by decide) (hts (.fieldLink RX12 40 "PageOneModel" "soldPage" "[I") (by decide +kernel)) (fun _ h9 => h9) rfl dX12_paid_139 ?_
                    refine lv_iload hx hb dX12_paid_142 (lv_at hl 0 rfl) ?_
                    refine lv_iload_n hx hb dX12_paid_144 rfl (lv_at hl 5 rfl) ?_
                    refine va_iast hx hb hK hP hD hS 0 0 rfl rfl (by unfold vp_in; decide) dX12_paid_145 (fun H locs hP hD hS => ?_)
                    have hP : va_P (dC, dI) vwCl [((v 11), .inl (cI, 80, .inl (upd (fun _ => 0) 0 p1))), ((v 12), .inl (cI, 80, .inl (fun _ => 0))), ((v 13), .inl (cI, 80, .inl (fun _ => 0))), ((v 14), .inl (cI, 80, .inl (fun _ => 0))), (h0, .inr (11, mO v 1 0 0 0 0 0 0 0)), ((v 5), .inl (cI, 80, .inl (u 0))), ((v 6), .inl (cI, 80, .inl (u 1))), ((v 7), .inl (cI, 80, .inl (u 2))), ((v 8), .inl (cI, 80, .inl (u 3))), ((v 10), .inl (cI, 80, .inl (upd (u 4) 0 p0)))] H := hP
                    have hD : va_D A [((v 11), .inl (cI, 80, .inl (upd (fun _ => 0) 0 p1))), ((v 12), .inl (cI, 80, .inl (fun _ => 0))), ((v 13), .inl (cI, 80, .inl (fun _ => 0))), ((v 14), .inl (cI, 80, .inl (fun _ => 0))), (h0, .inr (11, mO v 1 0 0 0 0 0 0 0)), ((v 5), .inl (cI, 80, .inl (u 0))), ((v 6), .inl (cI, 80, .inl (u 1))), ((v 7), .inl (cI, 80, .inl (u 2))), ((v 8), .inl (cI, 80, .inl (u 3))), ((v 10), .inl (cI, 80, .inl (upd (u 4) 0 p0)))] := hD
                    refine lv_aload_n hx hb dX12_paid_146 rfl (lv_at hl 3 rfl) ?_
                    refine va_get (D := (dC, dI)) (ci := 11) (v := .ref (v 12)) (C := RX12) (T := TX12) (N := 52) hx hb hts (by decide +kernel) hown hK hP 4 rfl rfl 12 (by decide) (hts (.fieldLink RX12 43 "PageOneModel" "soldColumn" "[I") (by decide +kernel)) (fun _ h9 => h9) rfl dX12_paid_147 ?_
                    refine lv_iload hx hb dX12_paid_150 (lv_at hl 0 rfl) ?_
                    refine lv_iload_n hx hb dX12_paid_152 rfl (lv_at hl 6 rfl) ?_
                    refine va_iast hx hb hK hP hD hS 1 0 rfl rfl (by unfold vp_in; decide) dX12_paid_153 (fun H locs hP hD hS => ?_)
                    have hP : va_P (dC, dI) vwCl [((v 11), .inl (cI, 80, .inl (upd (fun _ => 0) 0 p1))), ((v 12), .inl (cI, 80, .inl (upd (fun _ => 0) 0 p2))), ((v 13), .inl (cI, 80, .inl (fun _ => 0))), ((v 14), .inl (cI, 80, .inl (fun _ => 0))), (h0, .inr (11, mO v 1 0 0 0 0 0 0 0)), ((v 5), .inl (cI, 80, .inl (u 0))), ((v 6), .inl (cI, 80, .inl (u 1))), ((v 7), .inl (cI, 80, .inl (u 2))), ((v 8), .inl (cI, 80, .inl (u 3))), ((v 10), .inl (cI, 80, .inl (upd (u 4) 0 p0)))] H := hP
                    have hD : va_D A [((v 11), .inl (cI, 80, .inl (upd (fun _ => 0) 0 p1))), ((v 12), .inl (cI, 80, .inl (upd (fun _ => 0) 0 p2))), ((v 13), .inl (cI, 80, .inl (fun _ => 0))), ((v 14), .inl (cI, 80, .inl (fun _ => 0))), (h0, .inr (11, mO v 1 0 0 0 0 0 0 0)), ((v 5), .inl (cI, 80, .inl (u 0))), ((v 6), .inl (cI, 80, .inl (u 1))), ((v 7), .inl (cI, 80, .inl (u 2))), ((v 8), .inl (cI, 80, .inl (u 3))), ((v 10), .inl (cI, 80, .inl (upd (u 4) 0 p0)))] := hD
                    refine lv_aload_n hx hb dX12_paid_154 rfl (lv_at hl 3 rfl) ?_
                    refine va_get (D := (dC, dI)) (ci := 11) (v := .ref (v 13)) (C := RX12) (T := TX12) (N := 52) hx hb hts (by decide +kernel) hown hK hP 4 rfl rfl 13 (by decide) (hts (.fieldLink RX12 46 "PageOneModel" "soldLine" "[I") (by decide +kernel)) (fun _ h9 => h9) rfl dX12_paid_155 ?_
                    refine lv_iload hx hb dX12_paid_158 (lv_at hl 0 rfl) ?_
                    refine lv_iload hx hb dX12_paid_160 (lv_at hl 7 rfl) ?_
                    refine va_iast hx hb hK hP hD hS 2 0 rfl rfl (by unfold vp_in; decide) dX12_paid_162 (fun H locs hP hD hS => ?_)
                    have hP : va_P (dC, dI) vwCl [((v 11), .inl (cI, 80, .inl (upd (fun _ => 0) 0 p1))), ((v 12), .inl (cI, 80, .inl (upd (fun _ => 0) 0 p2))), ((v 13), .inl (cI, 80, .inl (upd (fun _ => 0) 0 p3))), ((v 14), .inl (cI, 80, .inl (fun _ => 0))), (h0, .inr (11, mO v 1 0 0 0 0 0 0 0)), ((v 5), .inl (cI, 80, .inl (u 0))), ((v 6), .inl (cI, 80, .inl (u 1))), ((v 7), .inl (cI, 80, .inl (u 2))), ((v 8), .inl (cI, 80, .inl (u 3))), ((v 10), .inl (cI, 80, .inl (upd (u 4) 0 p0)))] H := hP
                    have hD : va_D A [((v 11), .inl (cI, 80, .inl (upd (fun _ => 0) 0 p1))), ((v 12), .inl (cI, 80, .inl (upd (fun _ => 0) 0 p2))), ((v 13), .inl (cI, 80, .inl (upd (fun _ => 0) 0 p3))), ((v 14), .inl (cI, 80, .inl (fun _ => 0))), (h0, .inr (11, mO v 1 0 0 0 0 0 0 0)), ((v 5), .inl (cI, 80, .inl (u 0))), ((v 6), .inl (cI, 80, .inl (u 1))), ((v 7), .inl (cI, 80, .inl (u 2))), ((v 8), .inl (cI, 80, .inl (u 3))), ((v 10), .inl (cI, 80, .inl (upd (u 4) 0 p0)))] := hD
                    refine lv_aload_n hx hb dX12_paid_163 rfl (lv_at hl 3 rfl) ?_
                    refine va_get (D := (dC, dI)) (ci := 11) (v := .ref (v 7)) (C := RX12) (T := TX12) (N := 52) hx hb hts (by decide +kernel) hown hK hP 4 rfl rfl 7 (by decide) (hts (.fieldLink RX12 28 "PageOneModel" "wide" "[I") (by decide +kernel)) (fun _ h9 => h9) rfl dX12_paid_164 ?_
                    refine lv_iload hx hb dX12_paid_167 (lv_at hl 0 rfl) ?_
                    refine lv_iload hx hb dX12_paid_169 (lv_at hl 8 rfl) ?_
                    refine va_iast hx hb hK hP hD hS 7 0 rfl rfl (by unfold vp_in; decide) dX12_paid_171 (fun H locs hP hD hS => ?_)
                    have hP : va_P (dC, dI) vwCl [((v 11), .inl (cI, 80, .inl (upd (fun _ => 0) 0 p1))), ((v 12), .inl (cI, 80, .inl (upd (fun _ => 0) 0 p2))), ((v 13), .inl (cI, 80, .inl (upd (fun _ => 0) 0 p3))), ((v 14), .inl (cI, 80, .inl (fun _ => 0))), (h0, .inr (11, mO v 1 0 0 0 0 0 0 0)), ((v 5), .inl (cI, 80, .inl (u 0))), ((v 6), .inl (cI, 80, .inl (u 1))), ((v 7), .inl (cI, 80, .inl (upd (u 2) 0 p4))), ((v 8), .inl (cI, 80, .inl (u 3))), ((v 10), .inl (cI, 80, .inl (upd (u 4) 0 p0)))] H := hP
                    have hD : va_D A [((v 11), .inl (cI, 80, .inl (upd (fun _ => 0) 0 p1))), ((v 12), .inl (cI, 80, .inl (upd (fun _ => 0) 0 p2))), ((v 13), .inl (cI, 80, .inl (upd (fun _ => 0) 0 p3))), ((v 14), .inl (cI, 80, .inl (fun _ => 0))), (h0, .inr (11, mO v 1 0 0 0 0 0 0 0)), ((v 5), .inl (cI, 80, .inl (u 0))), ((v 6), .inl (cI, 80, .inl (u 1))), ((v 7), .inl (cI, 80, .inl (upd (u 2) 0 p4))), ((v 8), .inl (cI, 80, .inl (u 3))), ((v 10), .inl (cI, 80, .inl (upd (u 4) 0 p0)))] := hD
                    refine lv_aload_n hx hb dX12_paid_172 rfl (lv_at hl 3 rfl) ?_
                    refine va_get (D := (dC, dI)) (ci := 11) (v := .ref (v 8)) (C := RX12) (T := TX12) (N := 52) hx hb hts (by decide +kernel) hown hK hP 4 rfl rfl 8 (by decide) (hts (.fieldLink RX12 31 "PageOneModel" "high" "[I") (by decide +kernel)) (fun _ h9 => h9) rfl dX12_paid_173 ?_
                    refine lv_iload hx hb dX12_paid_176 (lv_at hl 0 rfl) ?_
                    refine lv_iload hx hb dX12_paid_178 (lv_at hl 9 rfl) ?_
                    refine va_iast hx hb hK hP hD hS 8 0 rfl rfl (by unfold vp_in; decide) dX12_paid_180 (fun H locs hP hD hS => ?_)
                    have hP : va_P (dC, dI) vwCl [((v 11), .inl (cI, 80, .inl (upd (fun _ => 0) 0 p1))), ((v 12), .inl (cI, 80, .inl (upd (fun _ => 0) 0 p2))), ((v 13), .inl (cI, 80, .inl (upd (fun _ => 0) 0 p3))), ((v 14), .inl (cI, 80, .inl (fun _ => 0))), (h0, .inr (11, mO v 1 0 0 0 0 0 0 0)), ((v 5), .inl (cI, 80, .inl (u 0))), ((v 6), .inl (cI, 80, .inl (u 1))), ((v 7), .inl (cI, 80, .inl (upd (u 2) 0 p4))), ((v 8), .inl (cI, 80, .inl (upd (u 3) 0 p5))), ((v 10), .inl (cI, 80, .inl (upd (u 4) 0 p0)))] H := hP
                    have hD : va_D A [((v 11), .inl (cI, 80, .inl (upd (fun _ => 0) 0 p1))), ((v 12), .inl (cI, 80, .inl (upd (fun _ => 0) 0 p2))), ((v 13), .inl (cI, 80, .inl (upd (fun _ => 0) 0 p3))), ((v 14), .inl (cI, 80, .inl (fun _ => 0))), (h0, .inr (11, mO v 1 0 0 0 0 0 0 0)), ((v 5), .inl (cI, 80, .inl (u 0))), ((v 6), .inl (cI, 80, .inl (u 1))), ((v 7), .inl (cI, 80, .inl (upd (u 2) 0 p4))), ((v 8), .inl (cI, 80, .inl (upd (u 3) 0 p5))), ((v 10), .inl (cI, 80, .inl (upd (u 4) 0 p0)))] := hD
                    refine lv_aload_n hx hb dX12_paid_181 rfl (lv_at hl 3 rfl) ?_
                    refine va_get (D := (dC, dI)) (ci := 11) (v := .ref (v 14)) (C := RX12) (T := TX12) (N := 52) hx hb hts (by decide +kernel) hown hK hP 4 rfl rfl 14 (by decide) (hts (.fieldLink RX12 49 "PageOneModel" "price" "[I") (by decide +kernel)) (fun _ h9 => h9) rfl dX12_paid_182 ?_
                    refine lv_iload hx hb dX12_paid_185 (lv_at hl 0 rfl) ?_
                    refine lv_iload hx hb dX12_paid_187 (lv_at hl 10 rfl) ?_
                    refine va_iast hx hb hK hP hD hS 3 0 rfl rfl (by unfold vp_in; decide) dX12_paid_189 (fun H locs hP hD hS => ?_)
                    have hP : va_P (dC, dI) vwCl [((v 11), .inl (cI, 80, .inl (upd (fun _ => 0) 0 p1))), ((v 12), .inl (cI, 80, .inl (upd (fun _ => 0) 0 p2))), ((v 13), .inl (cI, 80, .inl (upd (fun _ => 0) 0 p3))), ((v 14), .inl (cI, 80, .inl (upd (fun _ => 0) 0 p6))), (h0, .inr (11, mO v 1 0 0 0 0 0 0 0)), ((v 5), .inl (cI, 80, .inl (u 0))), ((v 6), .inl (cI, 80, .inl (u 1))), ((v 7), .inl (cI, 80, .inl (upd (u 2) 0 p4))), ((v 8), .inl (cI, 80, .inl (upd (u 3) 0 p5))), ((v 10), .inl (cI, 80, .inl (upd (u 4) 0 p0)))] H := hP
                    have hD : va_D A [((v 11), .inl (cI, 80, .inl (upd (fun _ => 0) 0 p1))), ((v 12), .inl (cI, 80, .inl (upd (fun _ => 0) 0 p2))), ((v 13), .inl (cI, 80, .inl (upd (fun _ => 0) 0 p3))), ((v 14), .inl (cI, 80, .inl (upd (fun _ => 0) 0 p6))), (h0, .inr (11, mO v 1 0 0 0 0 0 0 0)), ((v 5), .inl (cI, 80, .inl (u 0))), ((v 6), .inl (cI, 80, .inl (u 1))), ((v 7), .inl (cI, 80, .inl (upd (u 2) 0 p4))), ((v 8), .inl (cI, 80, .inl (upd (u 3) 0 p5))), ((v 10), .inl (cI, 80, .inl (upd (u 4) 0 p0)))] := hD
                    refine lv_iload hx hb dX12_paid_190 (lv_at hl 0 rfl) ?_
                    exact W.iret (v := 0) hx hb hr (fun t ht hW => ⟨⟨0, (), rfl, (by first | (simp [bi, b_1, b_3, b_5, b_7, b_9, b_12, b_18, c_16, c_17]; done) | (simp only [b_1, b_3, b_5, b_7, b_9, b_12, b_18]; simp [bi, c_16, c_17])), trivial⟩, hS.F ht⟩) hS.2.2 dX12_paid_192
                  ·
                    obtain rfl : r = 0 := b_f hw b_18
                    refine lv_if_ne (tgt := 123) hx hb dX12_paid_118 (by decide) (fun c_20 => absurd (by decide) c_20) (fun c_20 => ?_)
                    refine lv_iconst (v := (-1)) hx hb dX12_paid_121 (by decide) ?_
                    exact W.iret (v := (-1)) hx hb hr (fun t ht hW => ⟨⟨(-1), (), rfl, (by first | (simp [bi, b_1, b_3, b_5, b_7, b_9, b_12, b_18, c_16, c_17]; done) | (simp only [b_1, b_3, b_5, b_7, b_9, b_12, b_18]; simp [bi, c_16, c_17])), trivial⟩, hS.F ht⟩) hS.2.2 dX12_paid_122
            ·
              obtain rfl : r = 0 := b_f hw b_12
              refine lv_if_eq (tgt := 121) hx hb dX12_paid_77 (by decide) (fun c_21 => ?_) (fun c_21 => absurd (by decide) c_21)
              refine lv_iconst (v := (-1)) hx hb dX12_paid_121 (by decide) ?_
              exact W.iret (v := (-1)) hx hb hr (fun t ht hW => ⟨⟨(-1), (), rfl, (by simp [bi, b_1, b_3, b_5, b_7, b_9, b_12]), trivial⟩, hS.F ht⟩) hS.2.2 dX12_paid_122
          ·
            obtain rfl : r = 0 := b_f hw b_9
            refine lv_if_eq (tgt := 61) hx hb dX12_paid_54 (by decide) (fun c_22 => ?_) (fun c_22 => absurd (by decide) c_22)
            refine lv_iconst (v := 0) hx hb dX12_paid_61 (by decide) ?_
            refine lv_istore (lv' := [(9, .int 0), (8, .int 1), (0, .ref h0), (1, .int p0), (2, .int p1), (3, .int p2), (4, .int p3), (5, .int p4), (6, .int p5), (7, .int p6)]) hx hb dX12_paid_62 hl (by decide) rfl (fun ls hl => ?_)
            refine lv_aload_n hx hb dX12_paid_64 rfl (lv_at hl 2 rfl) ?_
            refine va_get (D := (dC, dI)) (ci := 11) (v := .int 0) (C := RX12) (T := TX12) (N := 52) hx hb hts (by decide +kernel) hown hK hP 0 rfl rfl 3 (by decide) (hts (.fieldLink RX12 147 "PageOneModel" "items" "I") (by decide +kernel)) (fun _ h9 => h9) rfl dX12_paid_65 ?_
            refine lv_bipush (v := 80) hx hb dX12_paid_68 (by decide) ?_
            refine lv_icmp_eq (tgt := 121) hx hb dX12_paid_70 (by decide) (fun c_23 => absurd c_23 (by decide)) (fun c_23 => ?_)
            refine lv_iload_n hx hb dX12_paid_73 rfl (lv_at hl 3 rfl) ?_
            have hPc := hP.sub (ws' := []) [] rfl
            have hKc := hK.sub (tys' := []) [] rfl
            refine vp_callSi (va_runS (As := [.int p0]) (rest := []) ⟨hx, hb, hml, hown, hts⟩ (m_isBuyer l dC dI p0) (va_cwS 1 hts gX12_paid_X12_isBuyer rfl rfl rfl (by decide +kernel) ⟨Nat.le_of_ble_eq_true rfl, Nat.le_of_ble_eq_true rfl⟩) ⟨pw_fb, fun U hU hW => ⟨rfl, pw_to hU hW hPc hKc hN⟩⟩ rfl rfl hl.1 rfl (lv_room (Nat.le_of_ble_eq_true rfl)) dX12_paid_74 ⟨Nat.le_of_ble_eq_true rfl, Nat.le_of_ble_eq_true rfl⟩).run (fun r hw => ?_)
            rcases Bool.eq_false_or_eq_true (bw p0 0 9) with b_24 | b_24
            ·
              obtain rfl : r = 1 := b_t hw b_24
              refine lv_if_eq (tgt := 121) hx hb dX12_paid_77 (by decide) (fun c_25 => absurd c_25 (by decide)) (fun c_25 => ?_)
              refine lv_iload hx hb dX12_paid_80 (lv_at hl 1 rfl) ?_
              refine lv_if_eq (tgt := 121) hx hb dX12_paid_82 (by decide) (fun c_26 => absurd c_26 (by decide)) (fun c_26 => ?_)
              refine lv_iload hx hb dX12_paid_85 (lv_at hl 0 rfl) ?_
              refine lv_if_eq (tgt := 121) hx hb dX12_paid_87 (by decide) (fun c_27 => ?_) (fun c_27 => absurd (by decide) c_27)
              refine lv_iconst (v := (-1)) hx hb dX12_paid_121 (by decide) ?_
              exact W.iret (v := (-1)) hx hb hr (fun t ht hW => ⟨⟨(-1), (), rfl, (by simp [bi, b_1, b_3, b_5, b_7, b_9, b_24]), trivial⟩, hS.F ht⟩) hS.2.2 dX12_paid_122
            ·
              obtain rfl : r = 0 := b_f hw b_24
              refine lv_if_eq (tgt := 121) hx hb dX12_paid_77 (by decide) (fun c_28 => ?_) (fun c_28 => absurd (by decide) c_28)
              refine lv_iconst (v := (-1)) hx hb dX12_paid_121 (by decide) ?_
              exact W.iret (v := (-1)) hx hb hr (fun t ht hW => ⟨⟨(-1), (), rfl, (by simp [bi, b_1, b_3, b_5, b_7, b_9, b_24]), trivial⟩, hS.F ht⟩) hS.2.2 dX12_paid_122
        ·
          obtain rfl : r = 0 := b_f hw b_7
          refine lv_if_eq (tgt := 61) hx hb dX12_paid_43 (by decide) (fun c_29 => ?_) (fun c_29 => absurd (by decide) c_29)
          refine lv_iconst (v := 0) hx hb dX12_paid_61 (by decide) ?_
          refine lv_istore (lv' := [(9, .int 0), (8, .int 1), (0, .ref h0), (1, .int p0), (2, .int p1), (3, .int p2), (4, .int p3), (5, .int p4), (6, .int p5), (7, .int p6)]) hx hb dX12_paid_62 hl (by decide) rfl (fun ls hl => ?_)
          refine lv_aload_n hx hb dX12_paid_64 rfl (lv_at hl 2 rfl) ?_
          refine va_get (D := (dC, dI)) (ci := 11) (v := .int 0) (C := RX12) (T := TX12) (N := 52) hx hb hts (by decide +kernel) hown hK hP 0 rfl rfl 3 (by decide) (hts (.fieldLink RX12 147 "PageOneModel" "items" "I") (by decide +kernel)) (fun _ h9 => h9) rfl dX12_paid_65 ?_
          refine lv_bipush (v := 80) hx hb dX12_paid_68 (by decide) ?_
          refine lv_icmp_eq (tgt := 121) hx hb dX12_paid_70 (by decide) (fun c_30 => absurd c_30 (by decide)) (fun c_30 => ?_)
          refine lv_iload_n hx hb dX12_paid_73 rfl (lv_at hl 3 rfl) ?_
          have hPc := hP.sub (ws' := []) [] rfl
          have hKc := hK.sub (tys' := []) [] rfl
          refine vp_callSi (va_runS (As := [.int p0]) (rest := []) ⟨hx, hb, hml, hown, hts⟩ (m_isBuyer l dC dI p0) (va_cwS 1 hts gX12_paid_X12_isBuyer rfl rfl rfl (by decide +kernel) ⟨Nat.le_of_ble_eq_true rfl, Nat.le_of_ble_eq_true rfl⟩) ⟨pw_fb, fun U hU hW => ⟨rfl, pw_to hU hW hPc hKc hN⟩⟩ rfl rfl hl.1 rfl (lv_room (Nat.le_of_ble_eq_true rfl)) dX12_paid_74 ⟨Nat.le_of_ble_eq_true rfl, Nat.le_of_ble_eq_true rfl⟩).run (fun r hw => ?_)
          rcases Bool.eq_false_or_eq_true (bw p0 0 9) with b_31 | b_31
          ·
            obtain rfl : r = 1 := b_t hw b_31
            refine lv_if_eq (tgt := 121) hx hb dX12_paid_77 (by decide) (fun c_32 => absurd c_32 (by decide)) (fun c_32 => ?_)
            refine lv_iload hx hb dX12_paid_80 (lv_at hl 1 rfl) ?_
            refine lv_if_eq (tgt := 121) hx hb dX12_paid_82 (by decide) (fun c_33 => absurd c_33 (by decide)) (fun c_33 => ?_)
            refine lv_iload hx hb dX12_paid_85 (lv_at hl 0 rfl) ?_
            refine lv_if_eq (tgt := 121) hx hb dX12_paid_87 (by decide) (fun c_34 => ?_) (fun c_34 => absurd (by decide) c_34)
            refine lv_iconst (v := (-1)) hx hb dX12_paid_121 (by decide) ?_
            exact W.iret (v := (-1)) hx hb hr (fun t ht hW => ⟨⟨(-1), (), rfl, (by simp [bi, b_1, b_3, b_5, b_7, b_31]), trivial⟩, hS.F ht⟩) hS.2.2 dX12_paid_122
          ·
            obtain rfl : r = 0 := b_f hw b_31
            refine lv_if_eq (tgt := 121) hx hb dX12_paid_77 (by decide) (fun c_35 => ?_) (fun c_35 => absurd (by decide) c_35)
            refine lv_iconst (v := (-1)) hx hb dX12_paid_121 (by decide) ?_
            exact W.iret (v := (-1)) hx hb hr (fun t ht hW => ⟨⟨(-1), (), rfl, (by simp [bi, b_1, b_3, b_5, b_7, b_31]), trivial⟩, hS.F ht⟩) hS.2.2 dX12_paid_122
      ·
        obtain rfl : r = 0 := b_f hw b_5
        refine lv_if_eq (tgt := 32) hx hb dX12_paid_25 (by decide) (fun c_36 => ?_) (fun c_36 => absurd (by decide) c_36)
        refine lv_iconst (v := 0) hx hb dX12_paid_32 (by decide) ?_
        refine lv_istore (lv' := [(8, .int 0), (0, .ref h0), (1, .int p0), (2, .int p1), (3, .int p2), (4, .int p3), (5, .int p4), (6, .int p5), (7, .int p6)]) hx hb dX12_paid_33 hl (by decide) rfl (fun ls hl => ?_)
        refine lv_iload hx hb dX12_paid_35 (lv_at hl 6 rfl) ?_
        refine lv_iconst (v := 1) hx hb dX12_paid_37 (by decide) ?_
        refine lv_bipush (v := 8) hx hb dX12_paid_38 (by decide) ?_
        have hPc := hP.sub (ws' := []) [] rfl
        have hKc := hK.sub (tys' := []) [] rfl
        refine vp_callSi (va_runS (As := [.int p4, .int 1, .int 8]) (rest := []) ⟨hx, hb, hml, hown, hts⟩ (m_in l dC dI p4 1 8) (va_cwS 3 hts gX12_paid_X12_in rfl rfl rfl (by decide +kernel) ⟨Nat.le_of_ble_eq_true rfl, Nat.le_of_ble_eq_true rfl⟩) ⟨pw_fb, fun U hU hW => ⟨rfl, pw_to hU hW hPc hKc hN⟩⟩ rfl rfl hl.1 rfl (lv_room (Nat.le_of_ble_eq_true rfl)) dX12_paid_40 ⟨Nat.le_of_ble_eq_true rfl, Nat.le_of_ble_eq_true rfl⟩).run (fun r hw => ?_)
        rcases Bool.eq_false_or_eq_true (bw p4 1 8) with b_37 | b_37
        ·
          obtain rfl : r = 1 := b_t hw b_37
          refine lv_if_eq (tgt := 61) hx hb dX12_paid_43 (by decide) (fun c_38 => absurd c_38 (by decide)) (fun c_38 => ?_)
          refine lv_iload hx hb dX12_paid_46 (lv_at hl 7 rfl) ?_
          refine lv_iconst (v := 1) hx hb dX12_paid_48 (by decide) ?_
          refine lv_bipush (v := 60) hx hb dX12_paid_49 (by decide) ?_
          have hPc := hP.sub (ws' := []) [] rfl
          have hKc := hK.sub (tys' := []) [] rfl
          refine vp_callSi (va_runS (As := [.int p5, .int 1, .int 60]) (rest := []) ⟨hx, hb, hml, hown, hts⟩ (m_in l dC dI p5 1 60) (va_cwS 3 hts gX12_paid_X12_in rfl rfl rfl (by decide +kernel) ⟨Nat.le_of_ble_eq_true rfl, Nat.le_of_ble_eq_true rfl⟩) ⟨pw_fb, fun U hU hW => ⟨rfl, pw_to hU hW hPc hKc hN⟩⟩ rfl rfl hl.1 rfl (lv_room (Nat.le_of_ble_eq_true rfl)) dX12_paid_51 ⟨Nat.le_of_ble_eq_true rfl, Nat.le_of_ble_eq_true rfl⟩).run (fun r hw => ?_)
          rcases Bool.eq_false_or_eq_true (bw p5 1 60) with b_39 | b_39
          ·
            obtain rfl : r = 1 := b_t hw b_39
            refine lv_if_eq (tgt := 61) hx hb dX12_paid_54 (by decide) (fun c_40 => absurd c_40 (by decide)) (fun c_40 => ?_)
            refine lv_iconst (v := 1) hx hb dX12_paid_57 (by decide) ?_
            refine lv_goto (tgt := 62) hx hb dX12_paid_58 (by decide) ?_
            refine lv_istore (lv' := [(9, .int 1), (8, .int 0), (0, .ref h0), (1, .int p0), (2, .int p1), (3, .int p2), (4, .int p3), (5, .int p4), (6, .int p5), (7, .int p6)]) hx hb dX12_paid_62 hl (by decide) rfl (fun ls hl => ?_)
            refine lv_aload_n hx hb dX12_paid_64 rfl (lv_at hl 2 rfl) ?_
            refine va_get (D := (dC, dI)) (ci := 11) (v := .int 0) (C := RX12) (T := TX12) (N := 52) hx hb hts (by decide +kernel) hown hK hP 0 rfl rfl 3 (by decide) (hts (.fieldLink RX12 147 "PageOneModel" "items" "I") (by decide +kernel)) (fun _ h9 => h9) rfl dX12_paid_65 ?_
            refine lv_bipush (v := 80) hx hb dX12_paid_68 (by decide) ?_
            refine lv_icmp_eq (tgt := 121) hx hb dX12_paid_70 (by decide) (fun c_41 => absurd c_41 (by decide)) (fun c_41 => ?_)
            refine lv_iload_n hx hb dX12_paid_73 rfl (lv_at hl 3 rfl) ?_
            have hPc := hP.sub (ws' := []) [] rfl
            have hKc := hK.sub (tys' := []) [] rfl
            refine vp_callSi (va_runS (As := [.int p0]) (rest := []) ⟨hx, hb, hml, hown, hts⟩ (m_isBuyer l dC dI p0) (va_cwS 1 hts gX12_paid_X12_isBuyer rfl rfl rfl (by decide +kernel) ⟨Nat.le_of_ble_eq_true rfl, Nat.le_of_ble_eq_true rfl⟩) ⟨pw_fb, fun U hU hW => ⟨rfl, pw_to hU hW hPc hKc hN⟩⟩ rfl rfl hl.1 rfl (lv_room (Nat.le_of_ble_eq_true rfl)) dX12_paid_74 ⟨Nat.le_of_ble_eq_true rfl, Nat.le_of_ble_eq_true rfl⟩).run (fun r hw => ?_)
            rcases Bool.eq_false_or_eq_true (bw p0 0 9) with b_42 | b_42
            ·
              obtain rfl : r = 1 := b_t hw b_42
              refine lv_if_eq (tgt := 121) hx hb dX12_paid_77 (by decide) (fun c_43 => absurd c_43 (by decide)) (fun c_43 => ?_)
              refine lv_iload hx hb dX12_paid_80 (lv_at hl 1 rfl) ?_
              refine lv_if_eq (tgt := 121) hx hb dX12_paid_82 (by decide) (fun c_44 => ?_) (fun c_44 => absurd (by decide) c_44)
              refine lv_iconst (v := (-1)) hx hb dX12_paid_121 (by decide) ?_
              exact W.iret (v := (-1)) hx hb hr (fun t ht hW => ⟨⟨(-1), (), rfl, (by simp [bi, b_1, b_3, b_5, b_37, b_39, b_42]), trivial⟩, hS.F ht⟩) hS.2.2 dX12_paid_122
            ·
              obtain rfl : r = 0 := b_f hw b_42
              refine lv_if_eq (tgt := 121) hx hb dX12_paid_77 (by decide) (fun c_45 => ?_) (fun c_45 => absurd (by decide) c_45)
              refine lv_iconst (v := (-1)) hx hb dX12_paid_121 (by decide) ?_
              exact W.iret (v := (-1)) hx hb hr (fun t ht hW => ⟨⟨(-1), (), rfl, (by simp [bi, b_1, b_3, b_5, b_37, b_39, b_42]), trivial⟩, hS.F ht⟩) hS.2.2 dX12_paid_122
          ·
            obtain rfl : r = 0 := b_f hw b_39
            refine lv_if_eq (tgt := 61) hx hb dX12_paid_54 (by decide) (fun c_46 => ?_) (fun c_46 => absurd (by decide) c_46)
            refine lv_iconst (v := 0) hx hb dX12_paid_61 (by decide) ?_
            refine lv_istore (lv' := [(9, .int 0), (8, .int 0), (0, .ref h0), (1, .int p0), (2, .int p1), (3, .int p2), (4, .int p3), (5, .int p4), (6, .int p5), (7, .int p6)]) hx hb dX12_paid_62 hl (by decide) rfl (fun ls hl => ?_)
            refine lv_aload_n hx hb dX12_paid_64 rfl (lv_at hl 2 rfl) ?_
            refine va_get (D := (dC, dI)) (ci := 11) (v := .int 0) (C := RX12) (T := TX12) (N := 52) hx hb hts (by decide +kernel) hown hK hP 0 rfl rfl 3 (by decide) (hts (.fieldLink RX12 147 "PageOneModel" "items" "I") (by decide +kernel)) (fun _ h9 => h9) rfl dX12_paid_65 ?_
            refine lv_bipush (v := 80) hx hb dX12_paid_68 (by decide) ?_
            refine lv_icmp_eq (tgt := 121) hx hb dX12_paid_70 (by decide) (fun c_47 => absurd c_47 (by decide)) (fun c_47 => ?_)
            refine lv_iload_n hx hb dX12_paid_73 rfl (lv_at hl 3 rfl) ?_
            have hPc := hP.sub (ws' := []) [] rfl
            have hKc := hK.sub (tys' := []) [] rfl
            refine vp_callSi (va_runS (As := [.int p0]) (rest := []) ⟨hx, hb, hml, hown, hts⟩ (m_isBuyer l dC dI p0) (va_cwS 1 hts gX12_paid_X12_isBuyer rfl rfl rfl (by decide +kernel) ⟨Nat.le_of_ble_eq_true rfl, Nat.le_of_ble_eq_true rfl⟩) ⟨pw_fb, fun U hU hW => ⟨rfl, pw_to hU hW hPc hKc hN⟩⟩ rfl rfl hl.1 rfl (lv_room (Nat.le_of_ble_eq_true rfl)) dX12_paid_74 ⟨Nat.le_of_ble_eq_true rfl, Nat.le_of_ble_eq_true rfl⟩).run (fun r hw => ?_)
            rcases Bool.eq_false_or_eq_true (bw p0 0 9) with b_48 | b_48
            ·
              obtain rfl : r = 1 := b_t hw b_48
              refine lv_if_eq (tgt := 121) hx hb dX12_paid_77 (by decide) (fun c_49 => absurd c_49 (by decide)) (fun c_49 => ?_)
              refine lv_iload hx hb dX12_paid_80 (lv_at hl 1 rfl) ?_
              refine lv_if_eq (tgt := 121) hx hb dX12_paid_82 (by decide) (fun c_50 => ?_) (fun c_50 => absurd (by decide) c_50)
              refine lv_iconst (v := (-1)) hx hb dX12_paid_121 (by decide) ?_
              exact W.iret (v := (-1)) hx hb hr (fun t ht hW => ⟨⟨(-1), (), rfl, (by simp [bi, b_1, b_3, b_5, b_37, b_39, b_48]), trivial⟩, hS.F ht⟩) hS.2.2 dX12_paid_122
            ·
              obtain rfl : r = 0 := b_f hw b_48
              refine lv_if_eq (tgt := 121) hx hb dX12_paid_77 (by decide) (fun c_51 => ?_) (fun c_51 => absurd (by decide) c_51)
              refine lv_iconst (v := (-1)) hx hb dX12_paid_121 (by decide) ?_
              exact W.iret (v := (-1)) hx hb hr (fun t ht hW => ⟨⟨(-1), (), rfl, (by simp [bi, b_1, b_3, b_5, b_37, b_39, b_48]), trivial⟩, hS.F ht⟩) hS.2.2 dX12_paid_122
        ·
          obtain rfl : r = 0 := b_f hw b_37
          refine lv_if_eq (tgt := 61) hx hb dX12_paid_43 (by decide) (fun c_52 => ?_) (fun c_52 => absurd (by decide) c_52)
          refine lv_iconst (v := 0) hx hb dX12_paid_61 (by decide) ?_
          refine lv_istore (lv' := [(9, .int 0), (8, .int 0), (0, .ref h0), (1, .int p0), (2, .int p1), (3, .int p2), (4, .int p3), (5, .int p4), (6, .int p5), (7, .int p6)]) hx hb dX12_paid_62 hl (by decide) rfl (fun ls hl => ?_)
          refine lv_aload_n hx hb dX12_paid_64 rfl (lv_at hl 2 rfl) ?_
          refine va_get (D := (dC, dI)) (ci := 11) (v := .int 0) (C := RX12) (T := TX12) (N := 52) hx hb hts (by decide +kernel) hown hK hP 0 rfl rfl 3 (by decide) (hts (.fieldLink RX12 147 "PageOneModel" "items" "I") (by decide +kernel)) (fun _ h9 => h9) rfl dX12_paid_65 ?_
          refine lv_bipush (v := 80) hx hb dX12_paid_68 (by decide) ?_
          refine lv_icmp_eq (tgt := 121) hx hb dX12_paid_70 (by decide) (fun c_53 => absurd c_53 (by decide)) (fun c_53 => ?_)
          refine lv_iload_n hx hb dX12_paid_73 rfl (lv_at hl 3 rfl) ?_
          have hPc := hP.sub (ws' := []) [] rfl
          have hKc := hK.sub (tys' := []) [] rfl
          refine vp_callSi (va_runS (As := [.int p0]) (rest := []) ⟨hx, hb, hml, hown, hts⟩ (m_isBuyer l dC dI p0) (va_cwS 1 hts gX12_paid_X12_isBuyer rfl rfl rfl (by decide +kernel) ⟨Nat.le_of_ble_eq_true rfl, Nat.le_of_ble_eq_true rfl⟩) ⟨pw_fb, fun U hU hW => ⟨rfl, pw_to hU hW hPc hKc hN⟩⟩ rfl rfl hl.1 rfl (lv_room (Nat.le_of_ble_eq_true rfl)) dX12_paid_74 ⟨Nat.le_of_ble_eq_true rfl, Nat.le_of_ble_eq_true rfl⟩).run (fun r hw => ?_)
          rcases Bool.eq_false_or_eq_true (bw p0 0 9) with b_54 | b_54
          ·
            obtain rfl : r = 1 := b_t hw b_54
            refine lv_if_eq (tgt := 121) hx hb dX12_paid_77 (by decide) (fun c_55 => absurd c_55 (by decide)) (fun c_55 => ?_)
            refine lv_iload hx hb dX12_paid_80 (lv_at hl 1 rfl) ?_
            refine lv_if_eq (tgt := 121) hx hb dX12_paid_82 (by decide) (fun c_56 => ?_) (fun c_56 => absurd (by decide) c_56)
            refine lv_iconst (v := (-1)) hx hb dX12_paid_121 (by decide) ?_
            exact W.iret (v := (-1)) hx hb hr (fun t ht hW => ⟨⟨(-1), (), rfl, (by simp [bi, b_1, b_3, b_5, b_37, b_54]), trivial⟩, hS.F ht⟩) hS.2.2 dX12_paid_122
          ·
            obtain rfl : r = 0 := b_f hw b_54
            refine lv_if_eq (tgt := 121) hx hb dX12_paid_77 (by decide) (fun c_57 => ?_) (fun c_57 => absurd (by decide) c_57)
            refine lv_iconst (v := (-1)) hx hb dX12_paid_121 (by decide) ?_
            exact W.iret (v := (-1)) hx hb hr (fun t ht hW => ⟨⟨(-1), (), rfl, (by simp [bi, b_1, b_3, b_5, b_37, b_54]), trivial⟩, hS.F ht⟩) hS.2.2 dX12_paid_122
    ·
      obtain rfl : r = 0 := b_f hw b_3
      refine lv_if_eq (tgt := 32) hx hb dX12_paid_14 (by decide) (fun c_58 => ?_) (fun c_58 => absurd (by decide) c_58)
      refine lv_iconst (v := 0) hx hb dX12_paid_32 (by decide) ?_
      refine lv_istore (lv' := [(8, .int 0), (0, .ref h0), (1, .int p0), (2, .int p1), (3, .int p2), (4, .int p3), (5, .int p4), (6, .int p5), (7, .int p6)]) hx hb dX12_paid_33 hl (by decide) rfl (fun ls hl => ?_)
      refine lv_iload hx hb dX12_paid_35 (lv_at hl 6 rfl) ?_
      refine lv_iconst (v := 1) hx hb dX12_paid_37 (by decide) ?_
      refine lv_bipush (v := 8) hx hb dX12_paid_38 (by decide) ?_
      have hPc := hP.sub (ws' := []) [] rfl
      have hKc := hK.sub (tys' := []) [] rfl
      refine vp_callSi (va_runS (As := [.int p4, .int 1, .int 8]) (rest := []) ⟨hx, hb, hml, hown, hts⟩ (m_in l dC dI p4 1 8) (va_cwS 3 hts gX12_paid_X12_in rfl rfl rfl (by decide +kernel) ⟨Nat.le_of_ble_eq_true rfl, Nat.le_of_ble_eq_true rfl⟩) ⟨pw_fb, fun U hU hW => ⟨rfl, pw_to hU hW hPc hKc hN⟩⟩ rfl rfl hl.1 rfl (lv_room (Nat.le_of_ble_eq_true rfl)) dX12_paid_40 ⟨Nat.le_of_ble_eq_true rfl, Nat.le_of_ble_eq_true rfl⟩).run (fun r hw => ?_)
      rcases Bool.eq_false_or_eq_true (bw p4 1 8) with b_59 | b_59
      ·
        obtain rfl : r = 1 := b_t hw b_59
        refine lv_if_eq (tgt := 61) hx hb dX12_paid_43 (by decide) (fun c_60 => absurd c_60 (by decide)) (fun c_60 => ?_)
        refine lv_iload hx hb dX12_paid_46 (lv_at hl 7 rfl) ?_
        refine lv_iconst (v := 1) hx hb dX12_paid_48 (by decide) ?_
        refine lv_bipush (v := 60) hx hb dX12_paid_49 (by decide) ?_
        have hPc := hP.sub (ws' := []) [] rfl
        have hKc := hK.sub (tys' := []) [] rfl
        refine vp_callSi (va_runS (As := [.int p5, .int 1, .int 60]) (rest := []) ⟨hx, hb, hml, hown, hts⟩ (m_in l dC dI p5 1 60) (va_cwS 3 hts gX12_paid_X12_in rfl rfl rfl (by decide +kernel) ⟨Nat.le_of_ble_eq_true rfl, Nat.le_of_ble_eq_true rfl⟩) ⟨pw_fb, fun U hU hW => ⟨rfl, pw_to hU hW hPc hKc hN⟩⟩ rfl rfl hl.1 rfl (lv_room (Nat.le_of_ble_eq_true rfl)) dX12_paid_51 ⟨Nat.le_of_ble_eq_true rfl, Nat.le_of_ble_eq_true rfl⟩).run (fun r hw => ?_)
        rcases Bool.eq_false_or_eq_true (bw p5 1 60) with b_61 | b_61
        ·
          obtain rfl : r = 1 := b_t hw b_61
          refine lv_if_eq (tgt := 61) hx hb dX12_paid_54 (by decide) (fun c_62 => absurd c_62 (by decide)) (fun c_62 => ?_)
          refine lv_iconst (v := 1) hx hb dX12_paid_57 (by decide) ?_
          refine lv_goto (tgt := 62) hx hb dX12_paid_58 (by decide) ?_
          refine lv_istore (lv' := [(9, .int 1), (8, .int 0), (0, .ref h0), (1, .int p0), (2, .int p1), (3, .int p2), (4, .int p3), (5, .int p4), (6, .int p5), (7, .int p6)]) hx hb dX12_paid_62 hl (by decide) rfl (fun ls hl => ?_)
          refine lv_aload_n hx hb dX12_paid_64 rfl (lv_at hl 2 rfl) ?_
          refine va_get (D := (dC, dI)) (ci := 11) (v := .int 0) (C := RX12) (T := TX12) (N := 52) hx hb hts (by decide +kernel) hown hK hP 0 rfl rfl 3 (by decide) (hts (.fieldLink RX12 147 "PageOneModel" "items" "I") (by decide +kernel)) (fun _ h9 => h9) rfl dX12_paid_65 ?_
          refine lv_bipush (v := 80) hx hb dX12_paid_68 (by decide) ?_
          refine lv_icmp_eq (tgt := 121) hx hb dX12_paid_70 (by decide) (fun c_63 => absurd c_63 (by decide)) (fun c_63 => ?_)
          refine lv_iload_n hx hb dX12_paid_73 rfl (lv_at hl 3 rfl) ?_
          have hPc := hP.sub (ws' := []) [] rfl
          have hKc := hK.sub (tys' := []) [] rfl
          refine vp_callSi (va_runS (As := [.int p0]) (rest := []) ⟨hx, hb, hml, hown, hts⟩ (m_isBuyer l dC dI p0) (va_cwS 1 hts gX12_paid_X12_isBuyer rfl rfl rfl (by decide +kernel) ⟨Nat.le_of_ble_eq_true rfl, Nat.le_of_ble_eq_true rfl⟩) ⟨pw_fb, fun U hU hW => ⟨rfl, pw_to hU hW hPc hKc hN⟩⟩ rfl rfl hl.1 rfl (lv_room (Nat.le_of_ble_eq_true rfl)) dX12_paid_74 ⟨Nat.le_of_ble_eq_true rfl, Nat.le_of_ble_eq_true rfl⟩).run (fun r hw => ?_)
          rcases Bool.eq_false_or_eq_true (bw p0 0 9) with b_64 | b_64
          ·
            obtain rfl : r = 1 := b_t hw b_64
            refine lv_if_eq (tgt := 121) hx hb dX12_paid_77 (by decide) (fun c_65 => absurd c_65 (by decide)) (fun c_65 => ?_)
            refine lv_iload hx hb dX12_paid_80 (lv_at hl 1 rfl) ?_
            refine lv_if_eq (tgt := 121) hx hb dX12_paid_82 (by decide) (fun c_66 => ?_) (fun c_66 => absurd (by decide) c_66)
            refine lv_iconst (v := (-1)) hx hb dX12_paid_121 (by decide) ?_
            exact W.iret (v := (-1)) hx hb hr (fun t ht hW => ⟨⟨(-1), (), rfl, (by simp [bi, b_1, b_3, b_59, b_61, b_64]), trivial⟩, hS.F ht⟩) hS.2.2 dX12_paid_122
          ·
            obtain rfl : r = 0 := b_f hw b_64
            refine lv_if_eq (tgt := 121) hx hb dX12_paid_77 (by decide) (fun c_67 => ?_) (fun c_67 => absurd (by decide) c_67)
            refine lv_iconst (v := (-1)) hx hb dX12_paid_121 (by decide) ?_
            exact W.iret (v := (-1)) hx hb hr (fun t ht hW => ⟨⟨(-1), (), rfl, (by simp [bi, b_1, b_3, b_59, b_61, b_64]), trivial⟩, hS.F ht⟩) hS.2.2 dX12_paid_122
        ·
          obtain rfl : r = 0 := b_f hw b_61
          refine lv_if_eq (tgt := 61) hx hb dX12_paid_54 (by decide) (fun c_68 => ?_) (fun c_68 => absurd (by decide) c_68)
          refine lv_iconst (v := 0) hx hb dX12_paid_61 (by decide) ?_
          refine lv_istore (lv' := [(9, .int 0), (8, .int 0), (0, .ref h0), (1, .int p0), (2, .int p1), (3, .int p2), (4, .int p3), (5, .int p4), (6, .int p5), (7, .int p6)]) hx hb dX12_paid_62 hl (by decide) rfl (fun ls hl => ?_)
          refine lv_aload_n hx hb dX12_paid_64 rfl (lv_at hl 2 rfl) ?_
          refine va_get (D := (dC, dI)) (ci := 11) (v := .int 0) (C := RX12) (T := TX12) (N := 52) hx hb hts (by decide +kernel) hown hK hP 0 rfl rfl 3 (by decide) (hts (.fieldLink RX12 147 "PageOneModel" "items" "I") (by decide +kernel)) (fun _ h9 => h9) rfl dX12_paid_65 ?_
          refine lv_bipush (v := 80) hx hb dX12_paid_68 (by decide) ?_
          refine lv_icmp_eq (tgt := 121) hx hb dX12_paid_70 (by decide) (fun c_69 => absurd c_69 (by decide)) (fun c_69 => ?_)
          refine lv_iload_n hx hb dX12_paid_73 rfl (lv_at hl 3 rfl) ?_
          have hPc := hP.sub (ws' := []) [] rfl
          have hKc := hK.sub (tys' := []) [] rfl
          refine vp_callSi (va_runS (As := [.int p0]) (rest := []) ⟨hx, hb, hml, hown, hts⟩ (m_isBuyer l dC dI p0) (va_cwS 1 hts gX12_paid_X12_isBuyer rfl rfl rfl (by decide +kernel) ⟨Nat.le_of_ble_eq_true rfl, Nat.le_of_ble_eq_true rfl⟩) ⟨pw_fb, fun U hU hW => ⟨rfl, pw_to hU hW hPc hKc hN⟩⟩ rfl rfl hl.1 rfl (lv_room (Nat.le_of_ble_eq_true rfl)) dX12_paid_74 ⟨Nat.le_of_ble_eq_true rfl, Nat.le_of_ble_eq_true rfl⟩).run (fun r hw => ?_)
          rcases Bool.eq_false_or_eq_true (bw p0 0 9) with b_70 | b_70
          ·
            obtain rfl : r = 1 := b_t hw b_70
            refine lv_if_eq (tgt := 121) hx hb dX12_paid_77 (by decide) (fun c_71 => absurd c_71 (by decide)) (fun c_71 => ?_)
            refine lv_iload hx hb dX12_paid_80 (lv_at hl 1 rfl) ?_
            refine lv_if_eq (tgt := 121) hx hb dX12_paid_82 (by decide) (fun c_72 => ?_) (fun c_72 => absurd (by decide) c_72)
            refine lv_iconst (v := (-1)) hx hb dX12_paid_121 (by decide) ?_
            exact W.iret (v := (-1)) hx hb hr (fun t ht hW => ⟨⟨(-1), (), rfl, (by simp [bi, b_1, b_3, b_59, b_61, b_70]), trivial⟩, hS.F ht⟩) hS.2.2 dX12_paid_122
          ·
            obtain rfl : r = 0 := b_f hw b_70
            refine lv_if_eq (tgt := 121) hx hb dX12_paid_77 (by decide) (fun c_73 => ?_) (fun c_73 => absurd (by decide) c_73)
            refine lv_iconst (v := (-1)) hx hb dX12_paid_121 (by decide) ?_
            exact W.iret (v := (-1)) hx hb hr (fun t ht hW => ⟨⟨(-1), (), rfl, (by simp [bi, b_1, b_3, b_59, b_61, b_70]), trivial⟩, hS.F ht⟩) hS.2.2 dX12_paid_122
      ·
        obtain rfl : r = 0 := b_f hw b_59
        refine lv_if_eq (tgt := 61) hx hb dX12_paid_43 (by decide) (fun c_74 => ?_) (fun c_74 => absurd (by decide) c_74)
        refine lv_iconst (v := 0) hx hb dX12_paid_61 (by decide) ?_
        refine lv_istore (lv' := [(9, .int 0), (8, .int 0), (0, .ref h0), (1, .int p0), (2, .int p1), (3, .int p2), (4, .int p3), (5, .int p4), (6, .int p5), (7, .int p6)]) hx hb dX12_paid_62 hl (by decide) rfl (fun ls hl => ?_)
        refine lv_aload_n hx hb dX12_paid_64 rfl (lv_at hl 2 rfl) ?_
        refine va_get (D := (dC, dI)) (ci := 11) (v := .int 0) (C := RX12) (T := TX12) (N := 52) hx hb hts (by decide +kernel) hown hK hP 0 rfl rfl 3 (by decide) (hts (.fieldLink RX12 147 "PageOneModel" "items" "I") (by decide +kernel)) (fun _ h9 => h9) rfl dX12_paid_65 ?_
        refine lv_bipush (v := 80) hx hb dX12_paid_68 (by decide) ?_
        refine lv_icmp_eq (tgt := 121) hx hb dX12_paid_70 (by decide) (fun c_75 => absurd c_75 (by decide)) (fun c_75 => ?_)
        refine lv_iload_n hx hb dX12_paid_73 rfl (lv_at hl 3 rfl) ?_
        have hPc := hP.sub (ws' := []) [] rfl
        have hKc := hK.sub (tys' := []) [] rfl
        refine vp_callSi (va_runS (As := [.int p0]) (rest := []) ⟨hx, hb, hml, hown, hts⟩ (m_isBuyer l dC dI p0) (va_cwS 1 hts gX12_paid_X12_isBuyer rfl rfl rfl (by decide +kernel) ⟨Nat.le_of_ble_eq_true rfl, Nat.le_of_ble_eq_true rfl⟩) ⟨pw_fb, fun U hU hW => ⟨rfl, pw_to hU hW hPc hKc hN⟩⟩ rfl rfl hl.1 rfl (lv_room (Nat.le_of_ble_eq_true rfl)) dX12_paid_74 ⟨Nat.le_of_ble_eq_true rfl, Nat.le_of_ble_eq_true rfl⟩).run (fun r hw => ?_)
        rcases Bool.eq_false_or_eq_true (bw p0 0 9) with b_76 | b_76
        ·
          obtain rfl : r = 1 := b_t hw b_76
          refine lv_if_eq (tgt := 121) hx hb dX12_paid_77 (by decide) (fun c_77 => absurd c_77 (by decide)) (fun c_77 => ?_)
          refine lv_iload hx hb dX12_paid_80 (lv_at hl 1 rfl) ?_
          refine lv_if_eq (tgt := 121) hx hb dX12_paid_82 (by decide) (fun c_78 => ?_) (fun c_78 => absurd (by decide) c_78)
          refine lv_iconst (v := (-1)) hx hb dX12_paid_121 (by decide) ?_
          exact W.iret (v := (-1)) hx hb hr (fun t ht hW => ⟨⟨(-1), (), rfl, (by simp [bi, b_1, b_3, b_59, b_76]), trivial⟩, hS.F ht⟩) hS.2.2 dX12_paid_122
        ·
          obtain rfl : r = 0 := b_f hw b_76
          refine lv_if_eq (tgt := 121) hx hb dX12_paid_77 (by decide) (fun c_79 => ?_) (fun c_79 => absurd (by decide) c_79)
          refine lv_iconst (v := (-1)) hx hb dX12_paid_121 (by decide) ?_
          exact W.iret (v := (-1)) hx hb hr (fun t ht hW => ⟨⟨(-1), (), rfl, (by simp [bi, b_1, b_3, b_59, b_76]), trivial⟩, hS.F ht⟩) hS.2.2 dX12_paid_122
  ·
    obtain rfl : r = 0 := b_f hw b_1
    refine lv_if_eq (tgt := 32) hx hb dX12_paid_4 (by decide) (fun c_80 => ?_) (fun c_80 => absurd (by decide) c_80)
    refine lv_iconst (v := 0) hx hb dX12_paid_32 (by decide) ?_
    refine lv_istore (lv' := [(8, .int 0), (0, .ref h0), (1, .int p0), (2, .int p1), (3, .int p2), (4, .int p3), (5, .int p4), (6, .int p5), (7, .int p6)]) hx hb dX12_paid_33 hl (by decide) rfl (fun ls hl => ?_)
    refine lv_iload hx hb dX12_paid_35 (lv_at hl 6 rfl) ?_
    refine lv_iconst (v := 1) hx hb dX12_paid_37 (by decide) ?_
    refine lv_bipush (v := 8) hx hb dX12_paid_38 (by decide) ?_
    have hPc := hP.sub (ws' := []) [] rfl
    have hKc := hK.sub (tys' := []) [] rfl
    refine vp_callSi (va_runS (As := [.int p4, .int 1, .int 8]) (rest := []) ⟨hx, hb, hml, hown, hts⟩ (m_in l dC dI p4 1 8) (va_cwS 3 hts gX12_paid_X12_in rfl rfl rfl (by decide +kernel) ⟨Nat.le_of_ble_eq_true rfl, Nat.le_of_ble_eq_true rfl⟩) ⟨pw_fb, fun U hU hW => ⟨rfl, pw_to hU hW hPc hKc hN⟩⟩ rfl rfl hl.1 rfl (lv_room (Nat.le_of_ble_eq_true rfl)) dX12_paid_40 ⟨Nat.le_of_ble_eq_true rfl, Nat.le_of_ble_eq_true rfl⟩).run (fun r hw => ?_)
    rcases Bool.eq_false_or_eq_true (bw p4 1 8) with b_81 | b_81
    ·
      obtain rfl : r = 1 := b_t hw b_81
      refine lv_if_eq (tgt := 61) hx hb dX12_paid_43 (by decide) (fun c_82 => absurd c_82 (by decide)) (fun c_82 => ?_)
      refine lv_iload hx hb dX12_paid_46 (lv_at hl 7 rfl) ?_
      refine lv_iconst (v := 1) hx hb dX12_paid_48 (by decide) ?_
      refine lv_bipush (v := 60) hx hb dX12_paid_49 (by decide) ?_
      have hPc := hP.sub (ws' := []) [] rfl
      have hKc := hK.sub (tys' := []) [] rfl
      refine vp_callSi (va_runS (As := [.int p5, .int 1, .int 60]) (rest := []) ⟨hx, hb, hml, hown, hts⟩ (m_in l dC dI p5 1 60) (va_cwS 3 hts gX12_paid_X12_in rfl rfl rfl (by decide +kernel) ⟨Nat.le_of_ble_eq_true rfl, Nat.le_of_ble_eq_true rfl⟩) ⟨pw_fb, fun U hU hW => ⟨rfl, pw_to hU hW hPc hKc hN⟩⟩ rfl rfl hl.1 rfl (lv_room (Nat.le_of_ble_eq_true rfl)) dX12_paid_51 ⟨Nat.le_of_ble_eq_true rfl, Nat.le_of_ble_eq_true rfl⟩).run (fun r hw => ?_)
      rcases Bool.eq_false_or_eq_true (bw p5 1 60) with b_83 | b_83
      ·
        obtain rfl : r = 1 := b_t hw b_83
        refine lv_if_eq (tgt := 61) hx hb dX12_paid_54 (by decide) (fun c_84 => absurd c_84 (by decide)) (fun c_84 => ?_)
        refine lv_iconst (v := 1) hx hb dX12_paid_57 (by decide) ?_
        refine lv_goto (tgt := 62) hx hb dX12_paid_58 (by decide) ?_
        refine lv_istore (lv' := [(9, .int 1), (8, .int 0), (0, .ref h0), (1, .int p0), (2, .int p1), (3, .int p2), (4, .int p3), (5, .int p4), (6, .int p5), (7, .int p6)]) hx hb dX12_paid_62 hl (by decide) rfl (fun ls hl => ?_)
        refine lv_aload_n hx hb dX12_paid_64 rfl (lv_at hl 2 rfl) ?_
        refine va_get (D := (dC, dI)) (ci := 11) (v := .int 0) (C := RX12) (T := TX12) (N := 52) hx hb hts (by decide +kernel) hown hK hP 0 rfl rfl 3 (by decide) (hts (.fieldLink RX12 147 "PageOneModel" "items" "I") (by decide +kernel)) (fun _ h9 => h9) rfl dX12_paid_65 ?_
        refine lv_bipush (v := 80) hx hb dX12_paid_68 (by decide) ?_
        refine lv_icmp_eq (tgt := 121) hx hb dX12_paid_70 (by decide) (fun c_85 => absurd c_85 (by decide)) (fun c_85 => ?_)
        refine lv_iload_n hx hb dX12_paid_73 rfl (lv_at hl 3 rfl) ?_
        have hPc := hP.sub (ws' := []) [] rfl
        have hKc := hK.sub (tys' := []) [] rfl
        refine vp_callSi (va_runS (As := [.int p0]) (rest := []) ⟨hx, hb, hml, hown, hts⟩ (m_isBuyer l dC dI p0) (va_cwS 1 hts gX12_paid_X12_isBuyer rfl rfl rfl (by decide +kernel) ⟨Nat.le_of_ble_eq_true rfl, Nat.le_of_ble_eq_true rfl⟩) ⟨pw_fb, fun U hU hW => ⟨rfl, pw_to hU hW hPc hKc hN⟩⟩ rfl rfl hl.1 rfl (lv_room (Nat.le_of_ble_eq_true rfl)) dX12_paid_74 ⟨Nat.le_of_ble_eq_true rfl, Nat.le_of_ble_eq_true rfl⟩).run (fun r hw => ?_)
        rcases Bool.eq_false_or_eq_true (bw p0 0 9) with b_86 | b_86
        ·
          obtain rfl : r = 1 := b_t hw b_86
          refine lv_if_eq (tgt := 121) hx hb dX12_paid_77 (by decide) (fun c_87 => absurd c_87 (by decide)) (fun c_87 => ?_)
          refine lv_iload hx hb dX12_paid_80 (lv_at hl 1 rfl) ?_
          refine lv_if_eq (tgt := 121) hx hb dX12_paid_82 (by decide) (fun c_88 => ?_) (fun c_88 => absurd (by decide) c_88)
          refine lv_iconst (v := (-1)) hx hb dX12_paid_121 (by decide) ?_
          exact W.iret (v := (-1)) hx hb hr (fun t ht hW => ⟨⟨(-1), (), rfl, (by simp [bi, b_1, b_81, b_83, b_86]), trivial⟩, hS.F ht⟩) hS.2.2 dX12_paid_122
        ·
          obtain rfl : r = 0 := b_f hw b_86
          refine lv_if_eq (tgt := 121) hx hb dX12_paid_77 (by decide) (fun c_89 => ?_) (fun c_89 => absurd (by decide) c_89)
          refine lv_iconst (v := (-1)) hx hb dX12_paid_121 (by decide) ?_
          exact W.iret (v := (-1)) hx hb hr (fun t ht hW => ⟨⟨(-1), (), rfl, (by simp [bi, b_1, b_81, b_83, b_86]), trivial⟩, hS.F ht⟩) hS.2.2 dX12_paid_122
      ·
        obtain rfl : r = 0 := b_f hw b_83
        refine lv_if_eq (tgt := 61) hx hb dX12_paid_54 (by decide) (fun c_90 => ?_) (fun c_90 => absurd (by decide) c_90)
        refine lv_iconst (v := 0) hx hb dX12_paid_61 (by decide) ?_
        refine lv_istore (lv' := [(9, .int 0), (8, .int 0), (0, .ref h0), (1, .int p0), (2, .int p1), (3, .int p2), (4, .int p3), (5, .int p4), (6, .int p5), (7, .int p6)]) hx hb dX12_paid_62 hl (by decide) rfl (fun ls hl => ?_)
        refine lv_aload_n hx hb dX12_paid_64 rfl (lv_at hl 2 rfl) ?_
        refine va_get (D := (dC, dI)) (ci := 11) (v := .int 0) (C := RX12) (T := TX12) (N := 52) hx hb hts (by decide +kernel) hown hK hP 0 rfl rfl 3 (by decide) (hts (.fieldLink RX12 147 "PageOneModel" "items" "I") (by decide +kernel)) (fun _ h9 => h9) rfl dX12_paid_65 ?_
        refine lv_bipush (v := 80) hx hb dX12_paid_68 (by decide) ?_
        refine lv_icmp_eq (tgt := 121) hx hb dX12_paid_70 (by decide) (fun c_91 => absurd c_91 (by decide)) (fun c_91 => ?_)
        refine lv_iload_n hx hb dX12_paid_73 rfl (lv_at hl 3 rfl) ?_
        have hPc := hP.sub (ws' := []) [] rfl
        have hKc := hK.sub (tys' := []) [] rfl
        refine vp_callSi (va_runS (As := [.int p0]) (rest := []) ⟨hx, hb, hml, hown, hts⟩ (m_isBuyer l dC dI p0) (va_cwS 1 hts gX12_paid_X12_isBuyer rfl rfl rfl (by decide +kernel) ⟨Nat.le_of_ble_eq_true rfl, Nat.le_of_ble_eq_true rfl⟩) ⟨pw_fb, fun U hU hW => ⟨rfl, pw_to hU hW hPc hKc hN⟩⟩ rfl rfl hl.1 rfl (lv_room (Nat.le_of_ble_eq_true rfl)) dX12_paid_74 ⟨Nat.le_of_ble_eq_true rfl, Nat.le_of_ble_eq_true rfl⟩).run (fun r hw => ?_)
        rcases Bool.eq_false_or_eq_true (bw p0 0 9) with b_92 | b_92
        ·
          obtain rfl : r = 1 := b_t hw b_92
          refine lv_if_eq (tgt := 121) hx hb dX12_paid_77 (by decide) (fun c_93 => absurd c_93 (by decide)) (fun c_93 => ?_)
          refine lv_iload hx hb dX12_paid_80 (lv_at hl 1 rfl) ?_
          refine lv_if_eq (tgt := 121) hx hb dX12_paid_82 (by decide) (fun c_94 => ?_) (fun c_94 => absurd (by decide) c_94)
          refine lv_iconst (v := (-1)) hx hb dX12_paid_121 (by decide) ?_
          exact W.iret (v := (-1)) hx hb hr (fun t ht hW => ⟨⟨(-1), (), rfl, (by simp [bi, b_1, b_81, b_83, b_92]), trivial⟩, hS.F ht⟩) hS.2.2 dX12_paid_122
        ·
          obtain rfl : r = 0 := b_f hw b_92
          refine lv_if_eq (tgt := 121) hx hb dX12_paid_77 (by decide) (fun c_95 => ?_) (fun c_95 => absurd (by decide) c_95)
          refine lv_iconst (v := (-1)) hx hb dX12_paid_121 (by decide) ?_
          exact W.iret (v := (-1)) hx hb hr (fun t ht hW => ⟨⟨(-1), (), rfl, (by simp [bi, b_1, b_81, b_83, b_92]), trivial⟩, hS.F ht⟩) hS.2.2 dX12_paid_122
    ·
      obtain rfl : r = 0 := b_f hw b_81
      refine lv_if_eq (tgt := 61) hx hb dX12_paid_43 (by decide) (fun c_96 => ?_) (fun c_96 => absurd (by decide) c_96)
      refine lv_iconst (v := 0) hx hb dX12_paid_61 (by decide) ?_
      refine lv_istore (lv' := [(9, .int 0), (8, .int 0), (0, .ref h0), (1, .int p0), (2, .int p1), (3, .int p2), (4, .int p3), (5, .int p4), (6, .int p5), (7, .int p6)]) hx hb dX12_paid_62 hl (by decide) rfl (fun ls hl => ?_)
      refine lv_aload_n hx hb dX12_paid_64 rfl (lv_at hl 2 rfl) ?_
      refine va_get (D := (dC, dI)) (ci := 11) (v := .int 0) (C := RX12) (T := TX12) (N := 52) hx hb hts (by decide +kernel) hown hK hP 0 rfl rfl 3 (by decide) (hts (.fieldLink RX12 147 "PageOneModel" "items" "I") (by decide +kernel)) (fun _ h9 => h9) rfl dX12_paid_65 ?_
      refine lv_bipush (v := 80) hx hb dX12_paid_68 (by decide) ?_
      refine lv_icmp_eq (tgt := 121) hx hb dX12_paid_70 (by decide) (fun c_97 => absurd c_97 (by decide)) (fun c_97 => ?_)
      refine lv_iload_n hx hb dX12_paid_73 rfl (lv_at hl 3 rfl) ?_
      have hPc := hP.sub (ws' := []) [] rfl
      have hKc := hK.sub (tys' := []) [] rfl
      refine vp_callSi (va_runS (As := [.int p0]) (rest := []) ⟨hx, hb, hml, hown, hts⟩ (m_isBuyer l dC dI p0) (va_cwS 1 hts gX12_paid_X12_isBuyer rfl rfl rfl (by decide +kernel) ⟨Nat.le_of_ble_eq_true rfl, Nat.le_of_ble_eq_true rfl⟩) ⟨pw_fb, fun U hU hW => ⟨rfl, pw_to hU hW hPc hKc hN⟩⟩ rfl rfl hl.1 rfl (lv_room (Nat.le_of_ble_eq_true rfl)) dX12_paid_74 ⟨Nat.le_of_ble_eq_true rfl, Nat.le_of_ble_eq_true rfl⟩).run (fun r hw => ?_)
      rcases Bool.eq_false_or_eq_true (bw p0 0 9) with b_98 | b_98
      ·
        obtain rfl : r = 1 := b_t hw b_98
        refine lv_if_eq (tgt := 121) hx hb dX12_paid_77 (by decide) (fun c_99 => absurd c_99 (by decide)) (fun c_99 => ?_)
        refine lv_iload hx hb dX12_paid_80 (lv_at hl 1 rfl) ?_
        refine lv_if_eq (tgt := 121) hx hb dX12_paid_82 (by decide) (fun c_100 => ?_) (fun c_100 => absurd (by decide) c_100)
        refine lv_iconst (v := (-1)) hx hb dX12_paid_121 (by decide) ?_
        exact W.iret (v := (-1)) hx hb hr (fun t ht hW => ⟨⟨(-1), (), rfl, (by simp [bi, b_1, b_81, b_98]), trivial⟩, hS.F ht⟩) hS.2.2 dX12_paid_122
      ·
        obtain rfl : r = 0 := b_f hw b_98
        refine lv_if_eq (tgt := 121) hx hb dX12_paid_77 (by decide) (fun c_101 => ?_) (fun c_101 => absurd (by decide) c_101)
        refine lv_iconst (v := (-1)) hx hb dX12_paid_121 (by decide) ?_
        exact W.iret (v := (-1)) hx hb hr (fun t ht hW => ⟨⟨(-1), (), rfl, (by simp [bi, b_1, b_81, b_98]), trivial⟩, hS.F ht⟩) hS.2.2 dX12_paid_122
set_option maxHeartbeats 4000000 in
set_option maxRecDepth 100000 in
theorem m_filler (l : Launch) (dC : Nat → ClassId) (dI : Nat → Nat → Nat) (h0 : Nat) (v : Nat → Nat) (cI : ClassId) (p0 p1 : Int32) (sz : Nat) : Met l yX12_filler wsX12_filler ({ frames := 1, cells := 0, slots := 0, locals := 22 }) (va_Pc [.ref h0, .int p0, .int p1] (fun U => U.heap.size = sz ∧ PW dC dI [(h0, .inr (11, mO v 0 0 0 0 0 0 0 0)), ((v 4), .inl (cI, 80, .inl (fun _ => 0))), ((v 5), .inl (cI, 80, .inl (fun _ => 0))), ((v 6), .inl (cI, 80, .inl (fun _ => 0))), ((v 7), .inl (cI, 80, .inl (fun _ => 0))), ((v 8), .inl (cI, 80, .inl (fun _ => 0))), ((v 9), .inl (cI, 80, .inl (fun _ => 0))), ((v 10), .inl (cI, 80, .inl (fun _ => 0))), ((v 15), .inl (cI, 80, .inl (fun _ => 0))), ((v 17), .inl (cI, 80, .inl (fun _ => 0))), ((v 22), .inl (cI, 80, .inl (fun _ => 0)))] [(cI, .int)] U ∧ va_D (fun _ => True) [(h0, .inr (11, mO v 0 0 0 0 0 0 0 0)), ((v 4), .inl (cI, 80, .inl (fun _ => 0))), ((v 5), .inl (cI, 80, .inl (fun _ => 0))), ((v 6), .inl (cI, 80, .inl (fun _ => 0))), ((v 7), .inl (cI, 80, .inl (fun _ => 0))), ((v 8), .inl (cI, 80, .inl (fun _ => 0))), ((v 9), .inl (cI, 80, .inl (fun _ => 0))), ((v 10), .inl (cI, 80, .inl (fun _ => 0))), ((v 15), .inl (cI, 80, .inl (fun _ => 0))), ((v 17), .inl (cI, 80, .inl (fun _ => 0))), ((v 22), .inl (cI, 80, .inl (fun _ => 0)))])) (va_Qi (fun (r : Int32) (_ : Unit) => r = (if bw p0 1 60 && bw p1 p0 60 then 0 else (-1))) (fun _ _ => True) (va_A [(h0, .inr (11, mO v 0 0 0 0 0 0 0 0)), ((v 4), .inl (cI, 80, .inl (fun _ => 0))), ((v 5), .inl (cI, 80, .inl (fun _ => 0))), ((v 6), .inl (cI, 80, .inl (fun _ => 0))), ((v 7), .inl (cI, 80, .inl (fun _ => 0))), ((v 8), .inl (cI, 80, .inl (fun _ => 0))), ((v 9), .inl (cI, 80, .inl (fun _ => 0))), ((v 10), .inl (cI, 80, .inl (fun _ => 0))), ((v 15), .inl (cI, 80, .inl (fun _ => 0))), ((v 17), .inl (cI, 80, .inl (fun _ => 0))), ((v 22), .inl (cI, 80, .inl (fun _ => 0)))] sz)) 0 0 (va_A [(h0, .inr (11, mO v 0 0 0 0 0 0 0 0)), ((v 4), .inl (cI, 80, .inl (fun _ => 0))), ((v 5), .inl (cI, 80, .inl (fun _ => 0))), ((v 6), .inl (cI, 80, .inl (fun _ => 0))), ((v 7), .inl (cI, 80, .inl (fun _ => 0))), ((v 8), .inl (cI, 80, .inl (fun _ => 0))), ((v 9), .inl (cI, 80, .inl (fun _ => 0))), ((v 10), .inl (cI, 80, .inl (fun _ => 0))), ((v 15), .inl (cI, 80, .inl (fun _ => 0))), ((v 17), .inl (cI, 80, .inl (fun _ => 0))), ((v 22), .inl (cI, 80, .inl (fun _ => 0)))] sz) := by
  refine Met.ofW (cc := cX12_filler) (maxL := 4) (ret := (some .int)) (by decide) rfl ?_
  intro p e s m args below meth c s₁ B hml hv
  obtain ⟨rfl, hsz, ⟨hP, hK, hN⟩, hD0⟩ := hv
  have hx := B.exec
  have hb := B.bytes
  have hr := B.returns
  have hts := atoms_spec (ws := wsX12_filler) B.pre
  have hown : s.vm.findClass RX12 = some m.cls := findClass_of_methodNamed B.named
  have hlocks := B.notSynchronized
  subst hsz
  have hD := hD0.self (sz := s.heap.size)
  generalize hAe : va_A [(h0, .inr (11, mO v 0 0 0 0 0 0 0 0)), ((v 4), .inl (cI, 80, .inl (fun _ => 0))), ((v 5), .inl (cI, 80, .inl (fun _ => 0))), ((v 6), .inl (cI, 80, .inl (fun _ => 0))), ((v 7), .inl (cI, 80, .inl (fun _ => 0))), ((v 8), .inl (cI, 80, .inl (fun _ => 0))), ((v 9), .inl (cI, 80, .inl (fun _ => 0))), ((v 10), .inl (cI, 80, .inl (fun _ => 0))), ((v 15), .inl (cI, 80, .inl (fun _ => 0))), ((v 17), .inl (cI, 80, .inl (fun _ => 0))), ((v 22), .inl (cI, 80, .inl (fun _ => 0)))] s.heap.size = A at hD ⊢
  have hA : ∀ q : Nat, s.heap.size ≤ q → A q := fun q h => by rw [← hAe]; exact Or.inr h
  have hS : va_S A s.heap s.heap [] := va_S.rf
  have hP : va_P (dC, dI) vwCl [(h0, .inr (11, mO v 0 0 0 0 0 0 0 0)), ((v 4), .inl (cI, 80, .inl (fun _ => 0))), ((v 5), .inl (cI, 80, .inl (fun _ => 0))), ((v 6), .inl (cI, 80, .inl (fun _ => 0))), ((v 7), .inl (cI, 80, .inl (fun _ => 0))), ((v 8), .inl (cI, 80, .inl (fun _ => 0))), ((v 9), .inl (cI, 80, .inl (fun _ => 0))), ((v 10), .inl (cI, 80, .inl (fun _ => 0))), ((v 15), .inl (cI, 80, .inl (fun _ => 0))), ((v 17), .inl (cI, 80, .inl (fun _ => 0))), ((v 22), .inl (cI, 80, .inl (fun _ => 0)))] s.heap := hP
  have hl := lv_entry ([.ref h0, .int p0, .int p1]) (n := 4) (Nat.le_of_ble_eq_true rfl)
  rw [lg_entry_eq]
  generalize (lg_sl ([.ref h0, .int p0, .int p1]) ++ List.replicate (4 - (lg_sl ([.ref h0, .int p0, .int p1])).length) Slot.unset).toArray = ls at hl ⊢
  have hl : lv_has ls 4 [(0, .ref h0), (1, .int p0), (2, .int p1)] := hl
  refine lv_aload_n hx hb dX12_filler_0 rfl (lv_at hl 0 rfl) ?_
  refine va_get (D := (dC, dI)) (ci := 11) (v := .int 0) (C := RX12) (T := TX12) (N := 52) hx hb hts (by decide +kernel) hown hK hP 0 rfl rfl 3 (by decide) (hts (.fieldLink RX12 147 "PageOneModel" "items" "I") (by decide +kernel)) (fun _ h9 => h9) rfl dX12_filler_1 ?_
  refine lv_bipush (v := 80) hx hb dX12_filler_4 (by decide) ?_
  refine lv_icmp_eq (tgt := 29) hx hb dX12_filler_6 (by decide) (fun c_1 => absurd c_1 (by decide)) (fun c_1 => ?_)
  refine lv_iload_n hx hb dX12_filler_9 rfl (lv_at hl 1 rfl) ?_
  refine lv_iconst (v := 1) hx hb dX12_filler_10 (by decide) ?_
  refine lv_bipush (v := 60) hx hb dX12_filler_11 (by decide) ?_
  have hPc := hP.sub (ws' := []) [] rfl
  have hKc := hK.sub (tys' := []) [] rfl
  refine vp_callSi (va_runS (As := [.int p0, .int 1, .int 60]) (rest := []) ⟨hx, hb, hml, hown, hts⟩ (m_in l dC dI p0 1 60) (va_cwS 3 hts gX12_filler_X12_in rfl rfl rfl (by decide +kernel) ⟨Nat.le_of_ble_eq_true rfl, Nat.le_of_ble_eq_true rfl⟩) ⟨pw_fb, fun U hU hW => ⟨rfl, pw_to hU hW hPc hKc hN⟩⟩ rfl rfl hl.1 rfl (lv_room (Nat.le_of_ble_eq_true rfl)) dX12_filler_13 ⟨Nat.le_of_ble_eq_true rfl, Nat.le_of_ble_eq_true rfl⟩).run (fun r hw => ?_)
  rcases Bool.eq_false_or_eq_true (bw p0 1 60) with b_2 | b_2
  ·
    obtain rfl : r = 1 := b_t hw b_2
    refine lv_if_eq (tgt := 29) hx hb dX12_filler_16 (by decide) (fun c_3 => absurd c_3 (by decide)) (fun c_3 => ?_)
    refine lv_iload_n hx hb dX12_filler_19 rfl (lv_at hl 2 rfl) ?_
    refine lv_iload_n hx hb dX12_filler_20 rfl (lv_at hl 1 rfl) ?_
    refine lv_bipush (v := 60) hx hb dX12_filler_21 (by decide) ?_
    have hPc := hP.sub (ws' := []) [] rfl
    have hKc := hK.sub (tys' := []) [] rfl
    refine vp_callSi (va_runS (As := [.int p1, .int p0, .int 60]) (rest := []) ⟨hx, hb, hml, hown, hts⟩ (m_in l dC dI p1 p0 60) (va_cwS 3 hts gX12_filler_X12_in rfl rfl rfl (by decide +kernel) ⟨Nat.le_of_ble_eq_true rfl, Nat.le_of_ble_eq_true rfl⟩) ⟨pw_fb, fun U hU hW => ⟨rfl, pw_to hU hW hPc hKc hN⟩⟩ rfl rfl hl.1 rfl (lv_room (Nat.le_of_ble_eq_true rfl)) dX12_filler_23 ⟨Nat.le_of_ble_eq_true rfl, Nat.le_of_ble_eq_true rfl⟩).run (fun r hw => ?_)
    rcases Bool.eq_false_or_eq_true (bw p1 p0 60) with b_4 | b_4
    ·
      obtain rfl : r = 1 := b_t hw b_4
      refine lv_if_ne (tgt := 31) hx hb dX12_filler_26 (by decide) (fun c_5 => ?_) (fun c_5 => absurd c_5 (by decide))
      refine lv_aload_n hx hb dX12_filler_31 rfl (lv_at hl 0 rfl) ?_
      refine lv_iconst (v := 4) hx hb dX12_filler_32 (by decide) ?_
      have hPc := hP.sub (ws' := [(h0, .inr (11, mO v 0 0 0 0 0 0 0 0)), ((v 4), .inl (cI, 80, .inl (fun _ => 0))), ((v 5), .inl (cI, 80, .inl (fun _ => 0))), ((v 6), .inl (cI, 80, .inl (fun _ => 0))), ((v 7), .inl (cI, 80, .inl (fun _ => 0))), ((v 8), .inl (cI, 80, .inl (fun _ => 0))), ((v 9), .inl (cI, 80, .inl (fun _ => 0))), ((v 10), .inl (cI, 80, .inl (fun _ => 0))), ((v 15), .inl (cI, 80, .inl (fun _ => 0))), ((v 17), .inl (cI, 80, .inl (fun _ => 0))), ((v 22), .inl (cI, 80, .inl (fun _ => 0)))]) [0, 1, 2, 3, 4, 5, 6, 7, 8, 9, 10] rfl
      have hKc := hK.sub (tys' := [(cI, .int)]) [0] rfl
      have hDc := hD.sub (ws' := [(h0, .inr (11, mO v 0 0 0 0 0 0 0 0)), ((v 4), .inl (cI, 80, .inl (fun _ => 0))), ((v 5), .inl (cI, 80, .inl (fun _ => 0))), ((v 6), .inl (cI, 80, .inl (fun _ => 0))), ((v 7), .inl (cI, 80, .inl (fun _ => 0))), ((v 8), .inl (cI, 80, .inl (fun _ => 0))), ((v 9), .inl (cI, 80, .inl (fun _ => 0))), ((v 10), .inl (cI, 80, .inl (fun _ => 0))), ((v 15), .inl (cI, 80, .inl (fun _ => 0))), ((v 17), .inl (cI, 80, .inl (fun _ => 0))), ((v 22), .inl (cI, 80, .inl (fun _ => 0)))]) [0, 1, 2, 3, 4, 5, 6, 7, 8, 9, 10] (by decide) rfl
      have hFc := va_free (wc := [(h0, .inr (11, mO v 0 0 0 0 0 0 0 0)), ((v 4), .inl (cI, 80, .inl (fun _ => 0))), ((v 5), .inl (cI, 80, .inl (fun _ => 0))), ((v 6), .inl (cI, 80, .inl (fun _ => 0))), ((v 7), .inl (cI, 80, .inl (fun _ => 0))), ((v 8), .inl (cI, 80, .inl (fun _ => 0))), ((v 9), .inl (cI, 80, .inl (fun _ => 0))), ((v 10), .inl (cI, 80, .inl (fun _ => 0))), ((v 15), .inl (cI, 80, .inl (fun _ => 0))), ((v 17), .inl (cI, 80, .inl (fun _ => 0))), ((v 22), .inl (cI, 80, .inl (fun _ => 0)))]) hD hS hA [0, 1, 2, 3, 4, 5, 6, 7, 8, 9, 10] rfl
      refine va_calli (va_runV (As := [.int 4]) (rest := []) ⟨hx, hb, hml, hown, hts⟩ (m_made0 l dC dI h0 v cI 4 s.heap.size) (cwV 1 hts gX12_filler_X12_made rfl rfl rfl (by decide +kernel) ⟨Nat.le_of_ble_eq_true rfl, Nat.le_of_ble_eq_true rfl⟩) ⟨gw_fb, va_recv hKc hPc (ci := 11) (q0 := 0) rfl rfl, fun U hU hW => ⟨rfl, by rw [hU], pw_to hU hW hPc hKc hN, hDc.weaken (fun _ _ _ _ => trivial)⟩⟩ rfl rfl hl.1 rfl (lv_room (Nat.le_of_ble_eq_true rfl)) dX12_filler_33 ⟨Nat.le_of_ble_eq_true rfl, Nat.le_of_ble_eq_true rfl⟩) hS (fun q _ h => hFc q h) hFc (fun r u t H1 locs ht hvm hw hB hz1 hk1 hS => ?_)
      obtain ⟨hP1, hD1⟩ := hB
      rw [ht] at hP1
      obtain ⟨hP, hD⟩ := va_join (wr := []) (w1 := [(h0, .inr (11, mO v 1 0 0 0 0 0 0 0)), ((v 5), .inl (cI, 80, .inl (u 0))), ((v 6), .inl (cI, 80, .inl (u 1))), ((v 7), .inl (cI, 80, .inl (u 2))), ((v 8), .inl (cI, 80, .inl (u 3))), ((v 10), .inl (cI, 80, .inl (u 4)))]) hP hD [0, 1, 2, 3, 4, 5, 6, 7, 8, 9, 10] [] rfl rfl (by decide) (by decide) hk1 hFc hP1 hD1
      generalize H1 = H at hP hS ⊢
      have hP : va_P (dC, dI) vwCl [(h0, .inr (11, mO v 1 0 0 0 0 0 0 0)), ((v 5), .inl (cI, 80, .inl (u 0))), ((v 6), .inl (cI, 80, .inl (u 1))), ((v 7), .inl (cI, 80, .inl (u 2))), ((v 8), .inl (cI, 80, .inl (u 3))), ((v 10), .inl (cI, 80, .inl (u 4)))] H := hP
      have hD : va_D A [(h0, .inr (11, mO v 1 0 0 0 0 0 0 0)), ((v 5), .inl (cI, 80, .inl (u 0))), ((v 6), .inl (cI, 80, .inl (u 1))), ((v 7), .inl (cI, 80, .inl (u 2))), ((v 8), .inl (cI, 80, .inl (u 3))), ((v 10), .inl (cI, 80, .inl (u 4)))] := hD
      refine W.widen (k := 0) (n := 0) (Nat.le_of_ble_eq_true rfl) (Nat.le_of_ble_eq_true rfl) ?_
      obtain rfl : r = 0 := hw
      refine lv_istore_n (lv' := [(3, .int 0), (0, .ref h0), (1, .int p0), (2, .int p1)]) hx hb dX12_filler_36 rfl hl (by decide) rfl (fun ls hl => ?_)
      refine lv_aload_n hx hb dX12_filler_37 rfl (lv_at hl 1 rfl) ?_
      refine va_get (D := (dC, dI)) (ci := 11) (v := .ref (v 5)) (C := RX12) (T := TX12) (N := 52) hx hb hts (by decide +kernel) hown hK hP 0 rfl rfl 5 (by decide) (hts (.fieldLink RX12 22 "PageOneModel" "least" "[I") (by decide +kernel)) (fun _ h9 => h9) rfl dX12_filler_38 ?_
      refine lv_iload_n hx hb dX12_filler_41 rfl (lv_at hl 0 rfl) ?_
      refine lv_iload_n hx hb dX12_filler_42 rfl (lv_at hl 2 rfl) ?_
      refine va_iast hx hb hK hP hD hS 1 0 rfl rfl (by unfold vp_in; decide) dX12_filler_43 (fun H locs hP hD hS => ?_)
      have hP : va_P (dC, dI) vwCl [(h0, .inr (11, mO v 1 0 0 0 0 0 0 0)), ((v 5), .inl (cI, 80, .inl (upd (u 0) 0 p0))), ((v 6), .inl (cI, 80, .inl (u 1))), ((v 7), .inl (cI, 80, .inl (u 2))), ((v 8), .inl (cI, 80, .inl (u 3))), ((v 10), .inl (cI, 80, .inl (u 4)))] H := hP
      have hD : va_D A [(h0, .inr (11, mO v 1 0 0 0 0 0 0 0)), ((v 5), .inl (cI, 80, .inl (upd (u 0) 0 p0))), ((v 6), .inl (cI, 80, .inl (u 1))), ((v 7), .inl (cI, 80, .inl (u 2))), ((v 8), .inl (cI, 80, .inl (u 3))), ((v 10), .inl (cI, 80, .inl (u 4)))] := hD
      refine lv_aload_n hx hb dX12_filler_44 rfl (lv_at hl 1 rfl) ?_
      refine va_get (D := (dC, dI)) (ci := 11) (v := .ref (v 6)) (C := RX12) (T := TX12) (N := 52) hx hb hts (by decide +kernel) hown hK hP 0 rfl rfl 6 (by decide) (hts (.fieldLink RX12 25 "PageOneModel" "most" "[I") (by decide +kernel)) (fun _ h9 => h9) rfl dX12_filler_45 ?_
      refine lv_iload_n hx hb dX12_filler_48 rfl (lv_at hl 0 rfl) ?_
      refine lv_iload_n hx hb dX12_filler_49 rfl (lv_at hl 3 rfl) ?_
      refine va_iast hx hb hK hP hD hS 2 0 rfl rfl (by unfold vp_in; decide) dX12_filler_50 (fun H locs hP hD hS => ?_)
      have hP : va_P (dC, dI) vwCl [(h0, .inr (11, mO v 1 0 0 0 0 0 0 0)), ((v 5), .inl (cI, 80, .inl (upd (u 0) 0 p0))), ((v 6), .inl (cI, 80, .inl (upd (u 1) 0 p1))), ((v 7), .inl (cI, 80, .inl (u 2))), ((v 8), .inl (cI, 80, .inl (u 3))), ((v 10), .inl (cI, 80, .inl (u 4)))] H := hP
      have hD : va_D A [(h0, .inr (11, mO v 1 0 0 0 0 0 0 0)), ((v 5), .inl (cI, 80, .inl (upd (u 0) 0 p0))), ((v 6), .inl (cI, 80, .inl (upd (u 1) 0 p1))), ((v 7), .inl (cI, 80, .inl (u 2))), ((v 8), .inl (cI, 80, .inl (u 3))), ((v 10), .inl (cI, 80, .inl (u 4)))] := hD
      refine lv_iload_n hx hb dX12_filler_51 rfl (lv_at hl 0 rfl) ?_
      exact W.iret (v := 0) hx hb hr (fun t ht hW => ⟨⟨0, (), rfl, (by simp [bi, b_2, b_4]), trivial⟩, hS.F ht⟩) hS.2.2 dX12_filler_52
    ·
      obtain rfl : r = 0 := b_f hw b_4
      refine lv_if_ne (tgt := 31) hx hb dX12_filler_26 (by decide) (fun c_6 => absurd (by decide) c_6) (fun c_6 => ?_)
      refine lv_iconst (v := (-1)) hx hb dX12_filler_29 (by decide) ?_
      exact W.iret (v := (-1)) hx hb hr (fun t ht hW => ⟨⟨(-1), (), rfl, (by simp [bi, b_2, b_4]), trivial⟩, hS.F ht⟩) hS.2.2 dX12_filler_30
  ·
    obtain rfl : r = 0 := b_f hw b_2
    refine lv_if_eq (tgt := 29) hx hb dX12_filler_16 (by decide) (fun c_7 => ?_) (fun c_7 => absurd (by decide) c_7)
    refine lv_iconst (v := (-1)) hx hb dX12_filler_29 (by decide) ?_
    exact W.iret (v := (-1)) hx hb hr (fun t ht hW => ⟨⟨(-1), (), rfl, (by simp [bi, b_2]), trivial⟩, hS.F ht⟩) hS.2.2 dX12_filler_30
set_option maxHeartbeats 4000000 in
set_option maxRecDepth 100000 in
theorem m_rival (l : Launch) (dC : Nat → ClassId) (dI : Nat → Nat → Nat) (h0 : Nat) (v : Nat → Nat) (cZ : ClassId) (p0 p1 : Int32) (sz : Nat) : Met l yX12_rival wsX12_rival ({ frames := 2, cells := 0, slots := 0, locals := 42 }) (va_Pc [.ref h0, .int p0, .int p1] (fun U => U.heap.size = sz ∧ PW dC dI [(h0, .inr (11, mO v 0 0 0 0 0 0 0 0)), ((v 20), .inl (cZ, 100, .inl (fun _ => 0)))] [(cZ, .boolean)] U ∧ va_D (fun _ => True) [(h0, .inr (11, mO v 0 0 0 0 0 0 0 0)), ((v 20), .inl (cZ, 100, .inl (fun _ => 0)))])) (va_Qi (fun (r : Int32) (_ : Unit) => r = bi (bw p0 0 9 && bw p1 0 9 && !decide (p0 = p1))) (fun _ _ => True) (va_A [(h0, .inr (11, mO v 0 0 0 0 0 0 0 0)), ((v 20), .inl (cZ, 100, .inl (fun _ => 0)))] sz)) 0 0 (va_A [(h0, .inr (11, mO v 0 0 0 0 0 0 0 0)), ((v 20), .inl (cZ, 100, .inl (fun _ => 0)))] sz) := by
  refine Met.ofW (cc := cX12_rival) (maxL := 3) (ret := (some .boolean)) (by decide) rfl ?_
  intro p e s m args below meth c s₁ B hml hv
  obtain ⟨rfl, hsz, ⟨hP, hK, hN⟩, hD0⟩ := hv
  have hx := B.exec
  have hb := B.bytes
  have hr := B.returns
  have hts := atoms_spec (ws := wsX12_rival) B.pre
  have hown : s.vm.findClass RX12 = some m.cls := findClass_of_methodNamed B.named
  have hlocks := B.notSynchronized
  subst hsz
  have hD := hD0.self (sz := s.heap.size)
  generalize hAe : va_A [(h0, .inr (11, mO v 0 0 0 0 0 0 0 0)), ((v 20), .inl (cZ, 100, .inl (fun _ => 0)))] s.heap.size = A at hD ⊢
  have hA : ∀ q : Nat, s.heap.size ≤ q → A q := fun q h => by rw [← hAe]; exact Or.inr h
  have hS : va_S A s.heap s.heap [] := va_S.rf
  have hP : va_P (dC, dI) vwCl [(h0, .inr (11, mO v 0 0 0 0 0 0 0 0)), ((v 20), .inl (cZ, 100, .inl (fun _ => 0)))] s.heap := hP
  have hl := lv_entry ([.ref h0, .int p0, .int p1]) (n := 3) (Nat.le_of_ble_eq_true rfl)
  rw [lg_entry_eq]
  generalize (lg_sl ([.ref h0, .int p0, .int p1]) ++ List.replicate (3 - (lg_sl ([.ref h0, .int p0, .int p1])).length) Slot.unset).toArray = ls at hl ⊢
  have hl : lv_has ls 3 [(0, .ref h0), (1, .int p0), (2, .int p1)] := hl
  refine lv_iload_n hx hb dX12_rival_0 rfl (lv_at hl 1 rfl) ?_
  have hPc := hP.sub (ws' := []) [] rfl
  have hKc := hK.sub (tys' := []) [] rfl
  refine vp_callSi (va_runS (As := [.int p0]) (rest := []) ⟨hx, hb, hml, hown, hts⟩ (m_isBuyer l dC dI p0) (va_cwS 1 hts gX12_rival_X12_isBuyer rfl rfl rfl (by decide +kernel) ⟨Nat.le_of_ble_eq_true rfl, Nat.le_of_ble_eq_true rfl⟩) ⟨pw_fb, fun U hU hW => ⟨rfl, pw_to hU hW hPc hKc hN⟩⟩ rfl rfl hl.1 rfl (lv_room (Nat.le_of_ble_eq_true rfl)) dX12_rival_1 ⟨Nat.le_of_ble_eq_true rfl, Nat.le_of_ble_eq_true rfl⟩).run (fun r hw => ?_)
  rcases Bool.eq_false_or_eq_true (bw p0 0 9) with b_1 | b_1
  ·
    obtain rfl : r = 1 := b_t hw b_1
    refine lv_if_eq (tgt := 33) hx hb dX12_rival_4 (by decide) (fun c_2 => absurd c_2 (by decide)) (fun c_2 => ?_)
    refine lv_iload_n hx hb dX12_rival_7 rfl (lv_at hl 2 rfl) ?_
    have hPc := hP.sub (ws' := []) [] rfl
    have hKc := hK.sub (tys' := []) [] rfl
    refine vp_callSi (va_runS (As := [.int p1]) (rest := []) ⟨hx, hb, hml, hown, hts⟩ (m_isBuyer l dC dI p1) (va_cwS 1 hts gX12_rival_X12_isBuyer rfl rfl rfl (by decide +kernel) ⟨Nat.le_of_ble_eq_true rfl, Nat.le_of_ble_eq_true rfl⟩) ⟨pw_fb, fun U hU hW => ⟨rfl, pw_to hU hW hPc hKc hN⟩⟩ rfl rfl hl.1 rfl (lv_room (Nat.le_of_ble_eq_true rfl)) dX12_rival_8 ⟨Nat.le_of_ble_eq_true rfl, Nat.le_of_ble_eq_true rfl⟩).run (fun r hw => ?_)
    rcases Bool.eq_false_or_eq_true (bw p1 0 9) with b_3 | b_3
    ·
      obtain rfl : r = 1 := b_t hw b_3
      refine lv_if_eq (tgt := 33) hx hb dX12_rival_11 (by decide) (fun c_4 => absurd c_4 (by decide)) (fun c_4 => ?_)
      refine lv_iload_n hx hb dX12_rival_14 rfl (lv_at hl 1 rfl) ?_
      refine lv_iload_n hx hb dX12_rival_15 rfl (lv_at hl 2 rfl) ?_
      refine lv_icmp_eq (tgt := 33) hx hb dX12_rival_16 (by decide) (fun c_5 => ?_) (fun c_5 => ?_)
      ·
        refine lv_iconst (v := 0) hx hb dX12_rival_33 (by decide) ?_
        exact W.zret (v := 0) hx hb hr (by decide) (fun t ht hW => ⟨⟨0, (), rfl, (by first | (simp [bi, b_1, b_3, c_5]; done) | (simp only [b_1, b_3]; simp [bi, c_5])), trivial⟩, hS.F ht⟩) hS.2.2 dX12_rival_34
      ·
        refine lv_aload_n hx hb dX12_rival_19 rfl (lv_at hl 0 rfl) ?_
        refine va_get (D := (dC, dI)) (ci := 11) (v := .ref (v 20)) (C := RX12) (T := TX12) (N := 52) hx hb hts (by decide +kernel) hown hK hP 0 rfl rfl 20 (by decide) (hts (.fieldLink RX12 67 "PageOneModel" "isRival" "[Z") (by decide +kernel)) (fun _ h9 => h9) rfl dX12_rival_20 ?_
        refine lv_bipush (v := 10) hx hb dX12_rival_23 (by decide) ?_
        refine lv_iload_n hx hb dX12_rival_25 rfl (lv_at hl 1 rfl) ?_
        refine lv_imul hx hb dX12_rival_26 ?_
        refine lv_iload_n hx hb dX12_rival_27 rfl (lv_at hl 2 rfl) ?_
        refine lv_iadd hx hb dX12_rival_28 ?_
        refine va_zald hx hb hK hP 1 0 rfl rfl (vin10 b_1 b_3) dX12_rival_29 ?_
        refine lv_topi (fun k_6 ek_6 => ?_)
        obtain rfl : k_6 = 0 := ek_6
        refine lv_if_eq (tgt := 35) hx hb dX12_rival_30 (by decide) (fun c_7 => ?_) (fun c_7 => absurd (by decide) c_7)
        refine lv_aload_n hx hb dX12_rival_35 rfl (lv_at hl 0 rfl) ?_
        refine va_get (D := (dC, dI)) (ci := 11) (v := .ref (v 20)) (C := RX12) (T := TX12) (N := 52) hx hb hts (by decide +kernel) hown hK hP 0 rfl rfl 20 (by decide) (hts (.fieldLink RX12 67 "PageOneModel" "isRival" "[Z") (by decide +kernel)) (fun _ h9 => h9) rfl dX12_rival_36 ?_
        refine lv_bipush (v := 10) hx hb dX12_rival_39 (by decide) ?_
        refine lv_iload_n hx hb dX12_rival_41 rfl (lv_at hl 1 rfl) ?_
        refine lv_imul hx hb dX12_rival_42 ?_
        refine lv_iload_n hx hb dX12_rival_43 rfl (lv_at hl 2 rfl) ?_
        refine lv_iadd hx hb dX12_rival_44 ?_
        refine lv_iconst (v := 1) hx hb dX12_rival_45 (by decide) ?_
        refine va_zast hx hb hK hP hD hS 1 0 rfl rfl (vin10 b_1 b_3) dX12_rival_46 (fun H locs hP hD hS => ?_)
        have hP : va_P (dC, dI) vwCl [(h0, .inr (11, mO v 0 0 0 0 0 0 0 0)), ((v 20), .inl (cZ, 100, .inl (upd (fun _ => 0) (((10 * p0) + p1) : Int32).toNatClampNeg (vp_nar .boolean 1))))] H := hP
        have hD : va_D A [(h0, .inr (11, mO v 0 0 0 0 0 0 0 0)), ((v 20), .inl (cZ, 100, .inl (upd (fun _ => 0) (((10 * p0) + p1) : Int32).toNatClampNeg (vp_nar .boolean 1))))] := hD
        refine lv_aload_n hx hb dX12_rival_47 rfl (lv_at hl 0 rfl) ?_
        refine va_get (D := (dC, dI)) (ci := 11) (v := .ref (v 20)) (C := RX12) (T := TX12) (N := 52) hx hb hts (by decide +kernel) hown hK hP 0 rfl rfl 20 (by decide) (hts (.fieldLink RX12 67 "PageOneModel" "isRival" "[Z") (by decide +kernel)) (fun _ h9 => h9) rfl dX12_rival_48 ?_
        refine lv_bipush (v := 10) hx hb dX12_rival_51 (by decide) ?_
        refine lv_iload_n hx hb dX12_rival_53 rfl (lv_at hl 2 rfl) ?_
        refine lv_imul hx hb dX12_rival_54 ?_
        refine lv_iload_n hx hb dX12_rival_55 rfl (lv_at hl 1 rfl) ?_
        refine lv_iadd hx hb dX12_rival_56 ?_
        refine lv_iconst (v := 1) hx hb dX12_rival_57 (by decide) ?_
        refine va_zast hx hb hK hP hD hS 1 0 rfl rfl (vin10 b_3 b_1) dX12_rival_58 (fun H locs hP hD hS => ?_)
        have hP : va_P (dC, dI) vwCl [(h0, .inr (11, mO v 0 0 0 0 0 0 0 0)), ((v 20), .inl (cZ, 100, .inl (upd (upd (fun _ => 0) (((10 * p0) + p1) : Int32).toNatClampNeg (vp_nar .boolean 1)) (((10 * p1) + p0) : Int32).toNatClampNeg (vp_nar .boolean 1))))] H := hP
        have hD : va_D A [(h0, .inr (11, mO v 0 0 0 0 0 0 0 0)), ((v 20), .inl (cZ, 100, .inl (upd (upd (fun _ => 0) (((10 * p0) + p1) : Int32).toNatClampNeg (vp_nar .boolean 1)) (((10 * p1) + p0) : Int32).toNatClampNeg (vp_nar .boolean 1))))] := hD
        refine lv_iconst (v := 1) hx hb dX12_rival_59 (by decide) ?_
        exact W.zret (v := 1) hx hb hr (by decide) (fun t ht hW => ⟨⟨1, (), rfl, (by first | (simp [bi, b_1, b_3, c_5]; done) | (simp only [b_1, b_3]; simp [bi, c_5])), trivial⟩, hS.F ht⟩) hS.2.2 dX12_rival_60
    ·
      obtain rfl : r = 0 := b_f hw b_3
      refine lv_if_eq (tgt := 33) hx hb dX12_rival_11 (by decide) (fun c_8 => ?_) (fun c_8 => absurd (by decide) c_8)
      refine lv_iconst (v := 0) hx hb dX12_rival_33 (by decide) ?_
      exact W.zret (v := 0) hx hb hr (by decide) (fun t ht hW => ⟨⟨0, (), rfl, (by simp [bi, b_1, b_3]), trivial⟩, hS.F ht⟩) hS.2.2 dX12_rival_34
  ·
    obtain rfl : r = 0 := b_f hw b_1
    refine lv_if_eq (tgt := 33) hx hb dX12_rival_4 (by decide) (fun c_9 => ?_) (fun c_9 => absurd (by decide) c_9)
    refine lv_iconst (v := 0) hx hb dX12_rival_33 (by decide) ?_
    exact W.zret (v := 0) hx hb hr (by decide) (fun t ht hW => ⟨⟨0, (), rfl, (by simp [bi, b_1]), trivial⟩, hS.F ht⟩) hS.2.2 dX12_rival_34
set_option maxHeartbeats 4000000 in
set_option maxRecDepth 100000 in
theorem m_names (l : Launch) (dC : Nat → ClassId) (dI : Nat → Nat → Nat) (h0 : Nat) (v : Nat → Nat) (p0 p1 : Int32) : Met l yX12_names wsX12_names ({ frames := 3, cells := 0, slots := 0, locals := 65 }) (va_Pc [.ref h0, .int p0, .int p1] (PW dC dI [(h0, .inr (11, mO v 0 0 0 0 0 0 0 0))] [])) (vp_Si (fun r => r = 0)) 0 0 (fun _ => False) := by
  refine Met.ofW (cc := cX12_names) (maxL := 3) (ret := (some .boolean)) (by decide) rfl ?_
  intro p e s m args below meth c s₁ B hml hv
  obtain ⟨rfl, hP, hK, hN⟩ := hv
  have hx := B.exec
  have hb := B.bytes
  have hr := B.returns
  have hts := atoms_spec (ws := wsX12_names) B.pre
  have hown : s.vm.findClass RX12 = some m.cls := findClass_of_methodNamed B.named
  have hlocks := B.notSynchronized
  have hl := lv_entry ([.ref h0, .int p0, .int p1]) (n := 3) (Nat.le_of_ble_eq_true rfl)
  rw [lg_entry_eq]
  generalize (lg_sl ([.ref h0, .int p0, .int p1]) ++ List.replicate (3 - (lg_sl ([.ref h0, .int p0, .int p1])).length) Slot.unset).toArray = ls at hl ⊢
  have hl : lv_has ls 3 [(0, .ref h0), (1, .int p0), (2, .int p1)] := hl
  refine lv_aload_n hx hb dX12_names_0 rfl (lv_at hl 0 rfl) ?_
  refine lv_iload_n hx hb dX12_names_1 rfl (lv_at hl 1 rfl) ?_
  refine lv_iconst (v := 0) hx hb dX12_names_2 (by decide) ?_
  have hPc := hP.sub (ws' := [(h0, .inr (11, mO v 0 0 0 0 0 0 0 0))]) [0] rfl
  have hKc := hK.sub (tys' := []) [] rfl
  refine vp_callSi (va_runV (As := [.int p0, .int 0]) (rest := []) ⟨hx, hb, hml, hown, hts⟩ (m_isKind0 l dC dI h0 v p0 0) (cwV 2 hts gX12_names_X12_isKind rfl rfl rfl (by decide +kernel) ⟨Nat.le_of_ble_eq_true rfl, Nat.le_of_ble_eq_true rfl⟩) ⟨pw_fb, va_recv hKc hPc (ci := 11) (q0 := 0) rfl rfl, fun U hU hW => ⟨rfl, pw_to hU hW hPc hKc hN⟩⟩ rfl rfl hl.1 rfl (lv_room (Nat.le_of_ble_eq_true rfl)) dX12_names_3 ⟨Nat.le_of_ble_eq_true rfl, Nat.le_of_ble_eq_true rfl⟩).run (fun r hw => ?_)
  obtain rfl : r = 0 := hw
  refine lv_if_eq (tgt := 30) hx hb dX12_names_6 (by decide) (fun c_1 => ?_) (fun c_1 => absurd (by decide) c_1)
  refine lv_iconst (v := 0) hx hb dX12_names_30 (by decide) ?_
  exact W.zret (v := 0) hx hb hr (by decide) (fun t ht hW => ⟨_, rfl, (by simp [bi]), ht⟩) (fun q h => absurd h List.not_mem_nil) dX12_names_31
set_option maxHeartbeats 4000000 in
set_option maxRecDepth 100000 in
theorem m_put (l : Launch) (dC : Nat → ClassId) (dI : Nat → Nat → Nat) (h0 : Nat) (v : Nat → Nat) (p0 p1 p2 p3 p4 : Int32) : Met l yX12_put wsX12_put ({ frames := 2, cells := 0, slots := 0, locals := 43 }) (va_Pc [.ref h0, .int p0, .int p1, .int p2, .int p3, .int p4] (PW dC dI [(h0, .inr (11, mO v 0 0 0 0 0 0 0 0))] [])) (vp_Si (fun r => r = (-1))) 0 0 (fun _ => False) := by
  refine Met.ofW (cc := cX12_put) (maxL := 10) (ret := (some .int)) (by decide) rfl ?_
  intro p e s m args below meth c s₁ B hml hv
  obtain ⟨rfl, hP, hK, hN⟩ := hv
  have hx := B.exec
  have hb := B.bytes
  have hr := B.returns
  have hts := atoms_spec (ws := wsX12_put) B.pre
  have hown : s.vm.findClass RX12 = some m.cls := findClass_of_methodNamed B.named
  have hlocks := B.notSynchronized
  have hl := lv_entry ([.ref h0, .int p0, .int p1, .int p2, .int p3, .int p4]) (n := 10) (Nat.le_of_ble_eq_true rfl)
  rw [lg_entry_eq]
  generalize (lg_sl ([.ref h0, .int p0, .int p1, .int p2, .int p3, .int p4]) ++ List.replicate (10 - (lg_sl ([.ref h0, .int p0, .int p1, .int p2, .int p3, .int p4])).length) Slot.unset).toArray = ls at hl ⊢
  have hl : lv_has ls 10 [(0, .ref h0), (1, .int p0), (2, .int p1), (3, .int p2), (4, .int p3), (5, .int p4)] := hl
  refine lv_aload_n hx hb dX12_put_0 rfl (lv_at hl 0 rfl) ?_
  refine lv_iload_n hx hb dX12_put_1 rfl (lv_at hl 1 rfl) ?_
  have hPc := hP.sub (ws' := [(h0, .inr (11, mO v 0 0 0 0 0 0 0 0))]) [0] rfl
  have hKc := hK.sub (tys' := []) [] rfl
  refine vp_callSi (va_runV (As := [.int p0]) (rest := []) ⟨hx, hb, hml, hown, hts⟩ (m_isItem0 l dC dI h0 v p0) (cwV 1 hts gX12_put_X12_isItem rfl rfl rfl (by decide +kernel) ⟨Nat.le_of_ble_eq_true rfl, Nat.le_of_ble_eq_true rfl⟩) ⟨pw_fb, va_recv hKc hPc (ci := 11) (q0 := 0) rfl rfl, fun U hU hW => ⟨rfl, pw_to hU hW hPc hKc hN⟩⟩ rfl rfl hl.1 rfl (lv_room (Nat.le_of_ble_eq_true rfl)) dX12_put_2 ⟨Nat.le_of_ble_eq_true rfl, Nat.le_of_ble_eq_true rfl⟩).run (fun r hw => ?_)
  obtain rfl : r = 0 := hw
  refine lv_if_eq (tgt := 18) hx hb dX12_put_5 (by decide) (fun c_1 => ?_) (fun c_1 => absurd (by decide) c_1)
  refine lv_iconst (v := (-1)) hx hb dX12_put_18 (by decide) ?_
  exact W.iret (v := (-1)) hx hb hr (fun t ht hW => ⟨_, rfl, (by simp [bi]), ht⟩) (fun q h => absurd h List.not_mem_nil) dX12_put_19
set_option maxHeartbeats 4000000 in
set_option maxRecDepth 100000 in
theorem m_lift (l : Launch) (dC : Nat → ClassId) (dI : Nat → Nat → Nat) (h0 : Nat) (v : Nat → Nat) (p0 : Int32) : Met l yX12_lift wsX12_lift ({ frames := 2, cells := 0, slots := 0, locals := 43 }) (va_Pc [.ref h0, .int p0] (PW dC dI [(h0, .inr (11, mO v 0 0 0 0 0 0 0 0))] [])) (vp_Si (fun r => r = (-1))) 0 0 (fun _ => False) := by
  refine Met.ofW (cc := cX12_lift) (maxL := 3) (ret := (some .int)) (by decide) rfl ?_
  intro p e s m args below meth c s₁ B hml hv
  obtain ⟨rfl, hP, hK, hN⟩ := hv
  have hx := B.exec
  have hb := B.bytes
  have hr := B.returns
  have hts := atoms_spec (ws := wsX12_lift) B.pre
  have hown : s.vm.findClass RX12 = some m.cls := findClass_of_methodNamed B.named
  have hlocks := B.notSynchronized
  have hl := lv_entry ([.ref h0, .int p0]) (n := 3) (Nat.le_of_ble_eq_true rfl)
  rw [lg_entry_eq]
  generalize (lg_sl ([.ref h0, .int p0]) ++ List.replicate (3 - (lg_sl ([.ref h0, .int p0])).length) Slot.unset).toArray = ls at hl ⊢
  have hl : lv_has ls 3 [(0, .ref h0), (1, .int p0)] := hl
  refine lv_aload_n hx hb dX12_lift_0 rfl (lv_at hl 0 rfl) ?_
  refine lv_iload_n hx hb dX12_lift_1 rfl (lv_at hl 1 rfl) ?_
  have hPc := hP.sub (ws' := [(h0, .inr (11, mO v 0 0 0 0 0 0 0 0))]) [0] rfl
  have hKc := hK.sub (tys' := []) [] rfl
  refine vp_callSi (va_runV (As := [.int p0]) (rest := []) ⟨hx, hb, hml, hown, hts⟩ (m_isItem0 l dC dI h0 v p0) (cwV 1 hts gX12_lift_X12_isItem rfl rfl rfl (by decide +kernel) ⟨Nat.le_of_ble_eq_true rfl, Nat.le_of_ble_eq_true rfl⟩) ⟨pw_fb, va_recv hKc hPc (ci := 11) (q0 := 0) rfl rfl, fun U hU hW => ⟨rfl, pw_to hU hW hPc hKc hN⟩⟩ rfl rfl hl.1 rfl (lv_room (Nat.le_of_ble_eq_true rfl)) dX12_lift_2 ⟨Nat.le_of_ble_eq_true rfl, Nat.le_of_ble_eq_true rfl⟩).run (fun r hw => ?_)
  obtain rfl : r = 0 := hw
  refine lv_if_eq (tgt := 27) hx hb dX12_lift_5 (by decide) (fun c_1 => ?_) (fun c_1 => absurd (by decide) c_1)
  refine lv_iconst (v := (-1)) hx hb dX12_lift_27 (by decide) ?_
  exact W.iret (v := (-1)) hx hb hr (fun t ht hW => ⟨_, rfl, (by simp [bi]), ht⟩) (fun q h => absurd h List.not_mem_nil) dX12_lift_28
set_option maxHeartbeats 4000000 in
set_option maxRecDepth 100000 in
theorem m_rule (l : Launch) (dC : Nat → ClassId) (dI : Nat → Nat → Nat) (h0 : Nat) (v : Nat → Nat) (cI : ClassId) (p0 p1 p2 : Int32) : Met l yX12_rule wsX12_rule ({ frames := 3, cells := 0, slots := 0, locals := 65 }) (va_Pc [.ref h0, .int p0, .int p1, .int p2] (PW dC dI [(h0, .inr (11, mO v 0 0 0 0 0 0 0 0)), ((v 0), .inl (cI, 96, .inl (fun _ => 0)))] [(cI, .int)])) (vp_Si (fun r => r = 0)) 0 0 (fun _ => False) := by
  refine Met.ofW (cc := cX12_rule) (maxL := 4) (ret := (some .boolean)) (by decide) rfl ?_
  intro p e s m args below meth c s₁ B hml hv
  obtain ⟨rfl, hP, hK, hN⟩ := hv
  have hx := B.exec
  have hb := B.bytes
  have hr := B.returns
  have hts := atoms_spec (ws := wsX12_rule) B.pre
  have hown : s.vm.findClass RX12 = some m.cls := findClass_of_methodNamed B.named
  have hlocks := B.notSynchronized
  have hl := lv_entry ([.ref h0, .int p0, .int p1, .int p2]) (n := 4) (Nat.le_of_ble_eq_true rfl)
  rw [lg_entry_eq]
  generalize (lg_sl ([.ref h0, .int p0, .int p1, .int p2]) ++ List.replicate (4 - (lg_sl ([.ref h0, .int p0, .int p1, .int p2])).length) Slot.unset).toArray = ls at hl ⊢
  have hl : lv_has ls 4 [(0, .ref h0), (1, .int p0), (2, .int p1), (3, .int p2)] := hl
  refine lv_aload_n hx hb dX12_rule_0 rfl (lv_at hl 0 rfl) ?_
  refine lv_iload_n hx hb dX12_rule_1 rfl (lv_at hl 1 rfl) ?_
  refine lv_iload_n hx hb dX12_rule_2 rfl (lv_at hl 2 rfl) ?_
  refine lv_iload_n hx hb dX12_rule_3 rfl (lv_at hl 3 rfl) ?_
  have hPc := hP.sub (ws' := [(h0, .inr (11, mO v 0 0 0 0 0 0 0 0)), ((v 0), .inl (cI, 96, .inl (fun _ => 0)))]) [0, 1] rfl
  have hKc := hK.sub (tys' := [(cI, .int)]) [0] rfl
  refine vp_callSi (va_runV (As := [.int p0, .int p1, .int p2]) (rest := []) ⟨hx, hb, hml, hown, hts⟩ (m_isCell0 l dC dI h0 v cI p0 p1 p2) (cwV 3 hts gX12_rule_X12_isCell rfl rfl rfl (by decide +kernel) ⟨Nat.le_of_ble_eq_true rfl, Nat.le_of_ble_eq_true rfl⟩) ⟨pw_fb, va_recv hKc hPc (ci := 11) (q0 := 0) rfl rfl, fun U hU hW => ⟨rfl, pw_to hU hW hPc hKc hN⟩⟩ rfl rfl hl.1 rfl (lv_room (Nat.le_of_ble_eq_true rfl)) dX12_rule_4 ⟨Nat.le_of_ble_eq_true rfl, Nat.le_of_ble_eq_true rfl⟩).run (fun r hw => ?_)
  obtain rfl : r = 0 := hw
  refine lv_if_eq (tgt := 36) hx hb dX12_rule_7 (by decide) (fun c_1 => ?_) (fun c_1 => absurd (by decide) c_1)
  refine lv_iconst (v := 0) hx hb dX12_rule_36 (by decide) ?_
  exact W.zret (v := 0) hx hb hr (by decide) (fun t ht hW => ⟨_, rfl, (by simp [bi]), ht⟩) (fun q h => absurd h List.not_mem_nil) dX12_rule_37
set_option maxHeartbeats 4000000 in
set_option maxRecDepth 100000 in
theorem m_fill (l : Launch) (dC : Nat → ClassId) (dI : Nat → Nat → Nat) (h0 : Nat) (v : Nat → Nat) (cI : ClassId) (p0 : Int32) : Met l yX12_fill wsX12_fill ({ frames := 2, cells := 0, slots := 0, locals := 42 }) (va_Pc [.ref h0, .int p0] (PW dC dI [(h0, .inr (11, mO v 0 0 0 0 0 0 0 0)), ((v 0), .inl (cI, 96, .inl (fun _ => 0)))] [(cI, .int)])) (vp_Si (fun r => r = (if bw p0 0 11 then 0 else (-1)))) 0 0 (fun _ => False) := by
  refine Met.ofW (cc := cX12_fill) (maxL := 7) (ret := (some .int)) (by decide) rfl ?_
  intro p e s m args below meth c s₁ B hml hv
  obtain ⟨rfl, hP, hK, hN⟩ := hv
  have hx := B.exec
  have hb := B.bytes
  have hr := B.returns
  have hts := atoms_spec (ws := wsX12_fill) B.pre
  have hown : s.vm.findClass RX12 = some m.cls := findClass_of_methodNamed B.named
  have hlocks := B.notSynchronized
  have hl := lv_entry ([.ref h0, .int p0]) (n := 7) (Nat.le_of_ble_eq_true rfl)
  rw [lg_entry_eq]
  generalize (lg_sl ([.ref h0, .int p0]) ++ List.replicate (7 - (lg_sl ([.ref h0, .int p0])).length) Slot.unset).toArray = ls at hl ⊢
  have hl : lv_has ls 7 [(0, .ref h0), (1, .int p0)] := hl
  refine lv_iload_n hx hb dX12_fill_0 rfl (lv_at hl 1 rfl) ?_
  have hPc := hP.sub (ws' := []) [] rfl
  have hKc := hK.sub (tys' := []) [] rfl
  refine vp_callSi (va_runS (As := [.int p0]) (rest := []) ⟨hx, hb, hml, hown, hts⟩ (m_isPage l dC dI p0) (va_cwS 1 hts gX12_fill_X12_isPage rfl rfl rfl (by decide +kernel) ⟨Nat.le_of_ble_eq_true rfl, Nat.le_of_ble_eq_true rfl⟩) ⟨pw_fb, fun U hU hW => ⟨rfl, pw_to hU hW hPc hKc hN⟩⟩ rfl rfl hl.1 rfl (lv_room (Nat.le_of_ble_eq_true rfl)) dX12_fill_1 ⟨Nat.le_of_ble_eq_true rfl, Nat.le_of_ble_eq_true rfl⟩).run (fun r hw => ?_)
  rcases Bool.eq_false_or_eq_true (bw p0 0 11) with b_1 | b_1
  ·
    obtain rfl : r = 1 := b_t hw b_1
    refine lv_if_eq (tgt := 17) hx hb dX12_fill_4 (by decide) (fun c_2 => absurd c_2 (by decide)) (fun c_2 => ?_)
    refine lv_aload_n hx hb dX12_fill_7 rfl (lv_at hl 0 rfl) ?_
    refine va_get (D := (dC, dI)) (ci := 11) (v := .int 0) (C := RX12) (T := TX12) (N := 52) hx hb hts (by decide +kernel) hown hK hP 0 rfl rfl 28 (by decide) (hts (.fieldLink RX12 158 "PageOneModel" "acts" "I") (by decide +kernel)) (fun _ h9 => h9) rfl dX12_fill_8 ?_
    refine lv_sipush (v := 300) hx hb dX12_fill_11 (by decide) ?_
    refine lv_icmp_ne (tgt := 19) hx hb dX12_fill_14 (by decide) (fun c_3 => ?_) (fun c_3 => absurd c_3 (by decide))
    refine lv_iconst (v := 0) hx hb dX12_fill_19 (by decide) ?_
    refine lv_istore_n (lv' := [(2, .int 0), (0, .ref h0), (1, .int p0)]) hx hb dX12_fill_20 rfl hl (by decide) rfl (fun ls hl => ?_)
    refine lv_iconst (v := 0) hx hb dX12_fill_21 (by decide) ?_
    refine lv_istore_n (lv' := [(3, .int 0), (2, .int 0), (0, .ref h0), (1, .int p0)]) hx hb dX12_fill_22 rfl hl (by decide) rfl (fun ls hl => ?_)
    refine lv_iload_n hx hb dX12_fill_23 rfl (lv_at hl 0 rfl) ?_
    refine lv_bipush (v := 8) hx hb dX12_fill_24 (by decide) ?_
    refine lv_icmp_ge (tgt := 177) hx hb dX12_fill_26 (by decide) (fun c_4 => absurd c_4 (by decide)) (fun c_4 => ?_)
    refine lv_iconst (v := 0) hx hb dX12_fill_29 (by decide) ?_
    refine lv_istore (lv' := [(4, .int 0), (3, .int 0), (2, .int 0), (0, .ref h0), (1, .int p0)]) hx hb dX12_fill_30 hl (by decide) rfl (fun ls hl => ?_)
    refine lv_iload hx hb dX12_fill_32 (lv_at hl 0 rfl) ?_
    refine lv_aload_n hx hb dX12_fill_34 rfl (lv_at hl 3 rfl) ?_
    refine va_get (D := (dC, dI)) (ci := 11) (v := .ref (v 0)) (C := RX12) (T := TX12) (N := 52) hx hb hts (by decide +kernel) hown hK hP 0 rfl rfl 0 (by decide) (hts (.fieldLink RX12 7 "PageOneModel" "lines" "[I") (by decide +kernel)) (fun _ h9 => h9) rfl dX12_fill_35 ?_
    refine lv_bipush (v := 8) hx hb dX12_fill_38 (by decide) ?_
    refine lv_iload_n hx hb dX12_fill_40 rfl (lv_at hl 4 rfl) ?_
    refine lv_imul hx hb dX12_fill_41 ?_
    refine lv_iload_n hx hb dX12_fill_42 rfl (lv_at hl 1 rfl) ?_
    refine lv_iadd hx hb dX12_fill_43 ?_
    refine va_iald hx hb hK hP 1 0 rfl rfl (vin8 b_1 (by decide)) dX12_fill_44 ?_
    refine lv_topi (fun k_5 ek_5 => ?_)
    obtain rfl : k_5 = 0 := ek_5
    refine lv_icmp_ge (tgt := 171) hx hb dX12_fill_45 (by decide) (fun c_6 => ?_) (fun c_6 => absurd (by decide) c_6)
    refine lv_iinc (v := 1) (lv' := [(3, .int 1), (4, .int 0), (2, .int 0), (0, .ref h0), (1, .int p0)]) hx hb dX12_fill_171 hl (k := 1) rfl (by decide) (by decide) rfl (fun ls hl => ?_)
    refine lv_goto (tgt := 23) hx hb dX12_fill_174 (by decide) ?_
    refine lv_iload_n hx hb dX12_fill_23 rfl (lv_at hl 0 rfl) ?_
    refine lv_bipush (v := 8) hx hb dX12_fill_24 (by decide) ?_
    refine lv_icmp_ge (tgt := 177) hx hb dX12_fill_26 (by decide) (fun c_7 => absurd c_7 (by decide)) (fun c_7 => ?_)
    refine lv_iconst (v := 0) hx hb dX12_fill_29 (by decide) ?_
    refine lv_istore (lv' := [(4, .int 0), (3, .int 1), (2, .int 0), (0, .ref h0), (1, .int p0)]) hx hb dX12_fill_30 hl (by decide) rfl (fun ls hl => ?_)
    refine lv_iload hx hb dX12_fill_32 (lv_at hl 0 rfl) ?_
    refine lv_aload_n hx hb dX12_fill_34 rfl (lv_at hl 3 rfl) ?_
    refine va_get (D := (dC, dI)) (ci := 11) (v := .ref (v 0)) (C := RX12) (T := TX12) (N := 52) hx hb hts (by decide +kernel) hown hK hP 0 rfl rfl 0 (by decide) (hts (.fieldLink RX12 7 "PageOneModel" "lines" "[I") (by decide +kernel)) (fun _ h9 => h9) rfl dX12_fill_35 ?_
    refine lv_bipush (v := 8) hx hb dX12_fill_38 (by decide) ?_
    refine lv_iload_n hx hb dX12_fill_40 rfl (lv_at hl 4 rfl) ?_
    refine lv_imul hx hb dX12_fill_41 ?_
    refine lv_iload_n hx hb dX12_fill_42 rfl (lv_at hl 1 rfl) ?_
    refine lv_iadd hx hb dX12_fill_43 ?_
    refine va_iald hx hb hK hP 1 0 rfl rfl (vin8 b_1 (by decide)) dX12_fill_44 ?_
    refine lv_topi (fun k_8 ek_8 => ?_)
    obtain rfl : k_8 = 0 := ek_8
    refine lv_icmp_ge (tgt := 171) hx hb dX12_fill_45 (by decide) (fun c_9 => ?_) (fun c_9 => absurd (by decide) c_9)
    refine lv_iinc (v := 2) (lv' := [(3, .int 2), (4, .int 0), (2, .int 0), (0, .ref h0), (1, .int p0)]) hx hb dX12_fill_171 hl (k := 1) rfl (by decide) (by decide) rfl (fun ls hl => ?_)
    refine lv_goto (tgt := 23) hx hb dX12_fill_174 (by decide) ?_
    refine lv_iload_n hx hb dX12_fill_23 rfl (lv_at hl 0 rfl) ?_
    refine lv_bipush (v := 8) hx hb dX12_fill_24 (by decide) ?_
    refine lv_icmp_ge (tgt := 177) hx hb dX12_fill_26 (by decide) (fun c_10 => absurd c_10 (by decide)) (fun c_10 => ?_)
    refine lv_iconst (v := 0) hx hb dX12_fill_29 (by decide) ?_
    refine lv_istore (lv' := [(4, .int 0), (3, .int 2), (2, .int 0), (0, .ref h0), (1, .int p0)]) hx hb dX12_fill_30 hl (by decide) rfl (fun ls hl => ?_)
    refine lv_iload hx hb dX12_fill_32 (lv_at hl 0 rfl) ?_
    refine lv_aload_n hx hb dX12_fill_34 rfl (lv_at hl 3 rfl) ?_
    refine va_get (D := (dC, dI)) (ci := 11) (v := .ref (v 0)) (C := RX12) (T := TX12) (N := 52) hx hb hts (by decide +kernel) hown hK hP 0 rfl rfl 0 (by decide) (hts (.fieldLink RX12 7 "PageOneModel" "lines" "[I") (by decide +kernel)) (fun _ h9 => h9) rfl dX12_fill_35 ?_
    refine lv_bipush (v := 8) hx hb dX12_fill_38 (by decide) ?_
    refine lv_iload_n hx hb dX12_fill_40 rfl (lv_at hl 4 rfl) ?_
    refine lv_imul hx hb dX12_fill_41 ?_
    refine lv_iload_n hx hb dX12_fill_42 rfl (lv_at hl 1 rfl) ?_
    refine lv_iadd hx hb dX12_fill_43 ?_
    refine va_iald hx hb hK hP 1 0 rfl rfl (vin8 b_1 (by decide)) dX12_fill_44 ?_
    refine lv_topi (fun k_11 ek_11 => ?_)
    obtain rfl : k_11 = 0 := ek_11
    refine lv_icmp_ge (tgt := 171) hx hb dX12_fill_45 (by decide) (fun c_12 => ?_) (fun c_12 => absurd (by decide) c_12)
    refine lv_iinc (v := 3) (lv' := [(3, .int 3), (4, .int 0), (2, .int 0), (0, .ref h0), (1, .int p0)]) hx hb dX12_fill_171 hl (k := 1) rfl (by decide) (by decide) rfl (fun ls hl => ?_)
    refine lv_goto (tgt := 23) hx hb dX12_fill_174 (by decide) ?_
    refine lv_iload_n hx hb dX12_fill_23 rfl (lv_at hl 0 rfl) ?_
    refine lv_bipush (v := 8) hx hb dX12_fill_24 (by decide) ?_
    refine lv_icmp_ge (tgt := 177) hx hb dX12_fill_26 (by decide) (fun c_13 => absurd c_13 (by decide)) (fun c_13 => ?_)
    refine lv_iconst (v := 0) hx hb dX12_fill_29 (by decide) ?_
    refine lv_istore (lv' := [(4, .int 0), (3, .int 3), (2, .int 0), (0, .ref h0), (1, .int p0)]) hx hb dX12_fill_30 hl (by decide) rfl (fun ls hl => ?_)
    refine lv_iload hx hb dX12_fill_32 (lv_at hl 0 rfl) ?_
    refine lv_aload_n hx hb dX12_fill_34 rfl (lv_at hl 3 rfl) ?_
    refine va_get (D := (dC, dI)) (ci := 11) (v := .ref (v 0)) (C := RX12) (T := TX12) (N := 52) hx hb hts (by decide +kernel) hown hK hP 0 rfl rfl 0 (by decide) (hts (.fieldLink RX12 7 "PageOneModel" "lines" "[I") (by decide +kernel)) (fun _ h9 => h9) rfl dX12_fill_35 ?_
    refine lv_bipush (v := 8) hx hb dX12_fill_38 (by decide) ?_
    refine lv_iload_n hx hb dX12_fill_40 rfl (lv_at hl 4 rfl) ?_
    refine lv_imul hx hb dX12_fill_41 ?_
    refine lv_iload_n hx hb dX12_fill_42 rfl (lv_at hl 1 rfl) ?_
    refine lv_iadd hx hb dX12_fill_43 ?_
    refine va_iald hx hb hK hP 1 0 rfl rfl (vin8 b_1 (by decide)) dX12_fill_44 ?_
    refine lv_topi (fun k_14 ek_14 => ?_)
    obtain rfl : k_14 = 0 := ek_14
    refine lv_icmp_ge (tgt := 171) hx hb dX12_fill_45 (by decide) (fun c_15 => ?_) (fun c_15 => absurd (by decide) c_15)
    refine lv_iinc (v := 4) (lv' := [(3, .int 4), (4, .int 0), (2, .int 0), (0, .ref h0), (1, .int p0)]) hx hb dX12_fill_171 hl (k := 1) rfl (by decide) (by decide) rfl (fun ls hl => ?_)
    refine lv_goto (tgt := 23) hx hb dX12_fill_174 (by decide) ?_
    refine lv_iload_n hx hb dX12_fill_23 rfl (lv_at hl 0 rfl) ?_
    refine lv_bipush (v := 8) hx hb dX12_fill_24 (by decide) ?_
    refine lv_icmp_ge (tgt := 177) hx hb dX12_fill_26 (by decide) (fun c_16 => absurd c_16 (by decide)) (fun c_16 => ?_)
    refine lv_iconst (v := 0) hx hb dX12_fill_29 (by decide) ?_
    refine lv_istore (lv' := [(4, .int 0), (3, .int 4), (2, .int 0), (0, .ref h0), (1, .int p0)]) hx hb dX12_fill_30 hl (by decide) rfl (fun ls hl => ?_)
    refine lv_iload hx hb dX12_fill_32 (lv_at hl 0 rfl) ?_
    refine lv_aload_n hx hb dX12_fill_34 rfl (lv_at hl 3 rfl) ?_
    refine va_get (D := (dC, dI)) (ci := 11) (v := .ref (v 0)) (C := RX12) (T := TX12) (N := 52) hx hb hts (by decide +kernel) hown hK hP 0 rfl rfl 0 (by decide) (hts (.fieldLink RX12 7 "PageOneModel" "lines" "[I") (by decide +kernel)) (fun _ h9 => h9) rfl dX12_fill_35 ?_
    refine lv_bipush (v := 8) hx hb dX12_fill_38 (by decide) ?_
    refine lv_iload_n hx hb dX12_fill_40 rfl (lv_at hl 4 rfl) ?_
    refine lv_imul hx hb dX12_fill_41 ?_
    refine lv_iload_n hx hb dX12_fill_42 rfl (lv_at hl 1 rfl) ?_
    refine lv_iadd hx hb dX12_fill_43 ?_
    refine va_iald hx hb hK hP 1 0 rfl rfl (vin8 b_1 (by decide)) dX12_fill_44 ?_
    refine lv_topi (fun k_17 ek_17 => ?_)
    obtain rfl : k_17 = 0 := ek_17
    refine lv_icmp_ge (tgt := 171) hx hb dX12_fill_45 (by decide) (fun c_18 => ?_) (fun c_18 => absurd (by decide) c_18)
    refine lv_iinc (v := 5) (lv' := [(3, .int 5), (4, .int 0), (2, .int 0), (0, .ref h0), (1, .int p0)]) hx hb dX12_fill_171 hl (k := 1) rfl (by decide) (by decide) rfl (fun ls hl => ?_)
    refine lv_goto (tgt := 23) hx hb dX12_fill_174 (by decide) ?_
    refine lv_iload_n hx hb dX12_fill_23 rfl (lv_at hl 0 rfl) ?_
    refine lv_bipush (v := 8) hx hb dX12_fill_24 (by decide) ?_
    refine lv_icmp_ge (tgt := 177) hx hb dX12_fill_26 (by decide) (fun c_19 => absurd c_19 (by decide)) (fun c_19 => ?_)
    refine lv_iconst (v := 0) hx hb dX12_fill_29 (by decide) ?_
    refine lv_istore (lv' := [(4, .int 0), (3, .int 5), (2, .int 0), (0, .ref h0), (1, .int p0)]) hx hb dX12_fill_30 hl (by decide) rfl (fun ls hl => ?_)
    refine lv_iload hx hb dX12_fill_32 (lv_at hl 0 rfl) ?_
    refine lv_aload_n hx hb dX12_fill_34 rfl (lv_at hl 3 rfl) ?_
    refine va_get (D := (dC, dI)) (ci := 11) (v := .ref (v 0)) (C := RX12) (T := TX12) (N := 52) hx hb hts (by decide +kernel) hown hK hP 0 rfl rfl 0 (by decide) (hts (.fieldLink RX12 7 "PageOneModel" "lines" "[I") (by decide +kernel)) (fun _ h9 => h9) rfl dX12_fill_35 ?_
    refine lv_bipush (v := 8) hx hb dX12_fill_38 (by decide) ?_
    refine lv_iload_n hx hb dX12_fill_40 rfl (lv_at hl 4 rfl) ?_
    refine lv_imul hx hb dX12_fill_41 ?_
    refine lv_iload_n hx hb dX12_fill_42 rfl (lv_at hl 1 rfl) ?_
    refine lv_iadd hx hb dX12_fill_43 ?_
    refine va_iald hx hb hK hP 1 0 rfl rfl (vin8 b_1 (by decide)) dX12_fill_44 ?_
    refine lv_topi (fun k_20 ek_20 => ?_)
    obtain rfl : k_20 = 0 := ek_20
    refine lv_icmp_ge (tgt := 171) hx hb dX12_fill_45 (by decide) (fun c_21 => ?_) (fun c_21 => absurd (by decide) c_21)
    refine lv_iinc (v := 6) (lv' := [(3, .int 6), (4, .int 0), (2, .int 0), (0, .ref h0), (1, .int p0)]) hx hb dX12_fill_171 hl (k := 1) rfl (by decide) (by decide) rfl (fun ls hl => ?_)
    refine lv_goto (tgt := 23) hx hb dX12_fill_174 (by decide) ?_
    refine lv_iload_n hx hb dX12_fill_23 rfl (lv_at hl 0 rfl) ?_
    refine lv_bipush (v := 8) hx hb dX12_fill_24 (by decide) ?_
    refine lv_icmp_ge (tgt := 177) hx hb dX12_fill_26 (by decide) (fun c_22 => absurd c_22 (by decide)) (fun c_22 => ?_)
    refine lv_iconst (v := 0) hx hb dX12_fill_29 (by decide) ?_
    refine lv_istore (lv' := [(4, .int 0), (3, .int 6), (2, .int 0), (0, .ref h0), (1, .int p0)]) hx hb dX12_fill_30 hl (by decide) rfl (fun ls hl => ?_)
    refine lv_iload hx hb dX12_fill_32 (lv_at hl 0 rfl) ?_
    refine lv_aload_n hx hb dX12_fill_34 rfl (lv_at hl 3 rfl) ?_
    refine va_get (D := (dC, dI)) (ci := 11) (v := .ref (v 0)) (C := RX12) (T := TX12) (N := 52) hx hb hts (by decide +kernel) hown hK hP 0 rfl rfl 0 (by decide) (hts (.fieldLink RX12 7 "PageOneModel" "lines" "[I") (by decide +kernel)) (fun _ h9 => h9) rfl dX12_fill_35 ?_
    refine lv_bipush (v := 8) hx hb dX12_fill_38 (by decide) ?_
    refine lv_iload_n hx hb dX12_fill_40 rfl (lv_at hl 4 rfl) ?_
    refine lv_imul hx hb dX12_fill_41 ?_
    refine lv_iload_n hx hb dX12_fill_42 rfl (lv_at hl 1 rfl) ?_
    refine lv_iadd hx hb dX12_fill_43 ?_
    refine va_iald hx hb hK hP 1 0 rfl rfl (vin8 b_1 (by decide)) dX12_fill_44 ?_
    refine lv_topi (fun k_23 ek_23 => ?_)
    obtain rfl : k_23 = 0 := ek_23
    refine lv_icmp_ge (tgt := 171) hx hb dX12_fill_45 (by decide) (fun c_24 => ?_) (fun c_24 => absurd (by decide) c_24)
    refine lv_iinc (v := 7) (lv' := [(3, .int 7), (4, .int 0), (2, .int 0), (0, .ref h0), (1, .int p0)]) hx hb dX12_fill_171 hl (k := 1) rfl (by decide) (by decide) rfl (fun ls hl => ?_)
    refine lv_goto (tgt := 23) hx hb dX12_fill_174 (by decide) ?_
    refine lv_iload_n hx hb dX12_fill_23 rfl (lv_at hl 0 rfl) ?_
    refine lv_bipush (v := 8) hx hb dX12_fill_24 (by decide) ?_
    refine lv_icmp_ge (tgt := 177) hx hb dX12_fill_26 (by decide) (fun c_25 => absurd c_25 (by decide)) (fun c_25 => ?_)
    refine lv_iconst (v := 0) hx hb dX12_fill_29 (by decide) ?_
    refine lv_istore (lv' := [(4, .int 0), (3, .int 7), (2, .int 0), (0, .ref h0), (1, .int p0)]) hx hb dX12_fill_30 hl (by decide) rfl (fun ls hl => ?_)
    refine lv_iload hx hb dX12_fill_32 (lv_at hl 0 rfl) ?_
    refine lv_aload_n hx hb dX12_fill_34 rfl (lv_at hl 3 rfl) ?_
    refine va_get (D := (dC, dI)) (ci := 11) (v := .ref (v 0)) (C := RX12) (T := TX12) (N := 52) hx hb hts (by decide +kernel) hown hK hP 0 rfl rfl 0 (by decide) (hts (.fieldLink RX12 7 "PageOneModel" "lines" "[I") (by decide +kernel)) (fun _ h9 => h9) rfl dX12_fill_35 ?_
    refine lv_bipush (v := 8) hx hb dX12_fill_38 (by decide) ?_
    refine lv_iload_n hx hb dX12_fill_40 rfl (lv_at hl 4 rfl) ?_
    refine lv_imul hx hb dX12_fill_41 ?_
    refine lv_iload_n hx hb dX12_fill_42 rfl (lv_at hl 1 rfl) ?_
    refine lv_iadd hx hb dX12_fill_43 ?_
    refine va_iald hx hb hK hP 1 0 rfl rfl (vin8 b_1 (by decide)) dX12_fill_44 ?_
    refine lv_topi (fun k_26 ek_26 => ?_)
    obtain rfl : k_26 = 0 := ek_26
    refine lv_icmp_ge (tgt := 171) hx hb dX12_fill_45 (by decide) (fun c_27 => ?_) (fun c_27 => absurd (by decide) c_27)
    refine lv_iinc (v := 8) (lv' := [(3, .int 8), (4, .int 0), (2, .int 0), (0, .ref h0), (1, .int p0)]) hx hb dX12_fill_171 hl (k := 1) rfl (by decide) (by decide) rfl (fun ls hl => ?_)
    refine lv_goto (tgt := 23) hx hb dX12_fill_174 (by decide) ?_
    refine lv_iload_n hx hb dX12_fill_23 rfl (lv_at hl 0 rfl) ?_
    refine lv_bipush (v := 8) hx hb dX12_fill_24 (by decide) ?_
    refine lv_icmp_ge (tgt := 177) hx hb dX12_fill_26 (by decide) (fun c_28 => ?_) (fun c_28 => absurd (by decide) c_28)
    refine lv_iload_n hx hb dX12_fill_177 rfl (lv_at hl 2 rfl) ?_
    refine lv_if_ne (tgt := 183) hx hb dX12_fill_178 (by decide) (fun c_29 => absurd (by decide) c_29) (fun c_29 => ?_)
    refine lv_iconst (v := 0) hx hb dX12_fill_181 (by decide) ?_
    exact W.iret (v := 0) hx hb hr (fun t ht hW => ⟨_, rfl, (by simp [bi, b_1]), ht⟩) (fun q h => absurd h List.not_mem_nil) dX12_fill_182
  ·
    obtain rfl : r = 0 := b_f hw b_1
    refine lv_if_eq (tgt := 17) hx hb dX12_fill_4 (by decide) (fun c_30 => ?_) (fun c_30 => absurd (by decide) c_30)
    refine lv_iconst (v := (-1)) hx hb dX12_fill_17 (by decide) ?_
    exact W.iret (v := (-1)) hx hb hr (fun t ht hW => ⟨_, rfl, (by simp [bi, b_1]), ht⟩) (fun q h => absurd h List.not_mem_nil) dX12_fill_18
set_option maxHeartbeats 4000000 in
set_option maxRecDepth 100000 in
theorem m_undo (l : Launch) (dC : Nat → ClassId) (dI : Nat → Nat → Nat) (h0 : Nat) (v : Nat → Nat) : Met l yX12_undo wsX12_undo ({ frames := 0, cells := 0, slots := 0, locals := 0 }) (va_Pc [.ref h0] (PW dC dI [(h0, .inr (11, mO v 0 0 0 0 0 0 0 0))] [])) (vp_Si (fun r => r = (-1))) 0 0 (fun _ => False) := by
  refine Met.ofW (cc := cX12_undo) (maxL := 3) (ret := (some .int)) (by decide) rfl ?_
  intro p e s m args below meth c s₁ B hml hv
  obtain ⟨rfl, hP, hK, hN⟩ := hv
  have hx := B.exec
  have hb := B.bytes
  have hr := B.returns
  have hts := atoms_spec (ws := wsX12_undo) B.pre
  have hown : s.vm.findClass RX12 = some m.cls := findClass_of_methodNamed B.named
  have hlocks := B.notSynchronized
  have hl := lv_entry ([.ref h0]) (n := 3) (Nat.le_of_ble_eq_true rfl)
  rw [lg_entry_eq]
  generalize (lg_sl ([.ref h0]) ++ List.replicate (3 - (lg_sl ([.ref h0])).length) Slot.unset).toArray = ls at hl ⊢
  have hl : lv_has ls 3 [(0, .ref h0)] := hl
  refine lv_aload_n hx hb dX12_undo_0 rfl (lv_at hl 0 rfl) ?_
  refine va_get (D := (dC, dI)) (ci := 11) (v := .int 0) (C := RX12) (T := TX12) (N := 52) hx hb hts (by decide +kernel) hown hK hP 0 rfl rfl 28 (by decide) (hts (.fieldLink RX12 158 "PageOneModel" "acts" "I") (by decide +kernel)) (fun _ h9 => h9) rfl dX12_undo_1 ?_
  refine lv_if_ne (tgt := 9) hx hb dX12_undo_4 (by decide) (fun c_1 => absurd (by decide) c_1) (fun c_1 => ?_)
  refine lv_iconst (v := (-1)) hx hb dX12_undo_7 (by decide) ?_
  exact W.iret (v := (-1)) hx hb hr (fun t ht hW => ⟨_, rfl, (by simp [bi]), ht⟩) (fun q h => absurd h List.not_mem_nil) dX12_undo_8
set_option maxHeartbeats 4000000 in
set_option maxRecDepth 100000 in
theorem m_plate (l : Launch) (dC : Nat → ClassId) (dI : Nat → Nat → Nat) (h0 : Nat) (v : Nat → Nat) (cI : ClassId) (p0 : Int32) (sz : Nat) : Met l yX12_plate wsX12_plate ({ frames := 2, cells := 0, slots := 0, locals := 42 }) (va_Pc [.ref h0, .int p0] (fun U => U.heap.size = sz ∧ PW dC dI [(h0, .inr (11, mO v 0 0 0 0 0 0 0 0)), ((v 0), .inl (cI, 96, .inl (fun _ => 0)))] [(cI, .int)] U ∧ va_D (fun _ => True) [(h0, .inr (11, mO v 0 0 0 0 0 0 0 0)), ((v 0), .inl (cI, 96, .inl (fun _ => 0)))])) (va_Qi (fun (r : Int32) (_ : Unit) => r = (-1)) (fun _ _ => True) (va_A [(h0, .inr (11, mO v 0 0 0 0 0 0 0 0)), ((v 0), .inl (cI, 96, .inl (fun _ => 0)))] sz)) 0 0 (va_A [(h0, .inr (11, mO v 0 0 0 0 0 0 0 0)), ((v 0), .inl (cI, 96, .inl (fun _ => 0)))] sz) := by
  refine Met.ofW (cc := cX12_plate) (maxL := 5) (ret := (some .int)) (by decide) rfl ?_
  intro p e s m args below meth c s₁ B hml hv
  obtain ⟨rfl, hsz, ⟨hP, hK, hN⟩, hD0⟩ := hv
  have hx := B.exec
  have hb := B.bytes
  have hr := B.returns
  have hts := atoms_spec (ws := wsX12_plate) B.pre
  have hown : s.vm.findClass RX12 = some m.cls := findClass_of_methodNamed B.named
  have hlocks := B.notSynchronized
  subst hsz
  have hD := hD0.self (sz := s.heap.size)
  generalize hAe : va_A [(h0, .inr (11, mO v 0 0 0 0 0 0 0 0)), ((v 0), .inl (cI, 96, .inl (fun _ => 0)))] s.heap.size = A at hD ⊢
  have hA : ∀ q : Nat, s.heap.size ≤ q → A q := fun q h => by rw [← hAe]; exact Or.inr h
  have hS : va_S A s.heap s.heap [] := va_S.rf
  have hP : va_P (dC, dI) vwCl [(h0, .inr (11, mO v 0 0 0 0 0 0 0 0)), ((v 0), .inl (cI, 96, .inl (fun _ => 0)))] s.heap := hP
  have hl := lv_entry ([.ref h0, .int p0]) (n := 5) (Nat.le_of_ble_eq_true rfl)
  rw [lg_entry_eq]
  generalize (lg_sl ([.ref h0, .int p0]) ++ List.replicate (5 - (lg_sl ([.ref h0, .int p0])).length) Slot.unset).toArray = ls at hl ⊢
  have hl : lv_has ls 5 [(0, .ref h0), (1, .int p0)] := hl
  refine lv_iload_n hx hb dX12_plate_0 rfl (lv_at hl 1 rfl) ?_
  have hPc := hP.sub (ws' := []) [] rfl
  have hKc := hK.sub (tys' := []) [] rfl
  refine vp_callSi (va_runS (As := [.int p0]) (rest := []) ⟨hx, hb, hml, hown, hts⟩ (m_isPage l dC dI p0) (va_cwS 1 hts gX12_plate_X12_isPage rfl rfl rfl (by decide +kernel) ⟨Nat.le_of_ble_eq_true rfl, Nat.le_of_ble_eq_true rfl⟩) ⟨pw_fb, fun U hU hW => ⟨rfl, pw_to hU hW hPc hKc hN⟩⟩ rfl rfl hl.1 rfl (lv_room (Nat.le_of_ble_eq_true rfl)) dX12_plate_1 ⟨Nat.le_of_ble_eq_true rfl, Nat.le_of_ble_eq_true rfl⟩).run (fun r hw => ?_)
  rcases Bool.eq_false_or_eq_true (bw p0 0 11) with b_1 | b_1
  ·
    obtain rfl : r = 1 := b_t hw b_1
    refine lv_if_ne (tgt := 9) hx hb dX12_plate_4 (by decide) (fun c_2 => ?_) (fun c_2 => absurd c_2 (by decide))
    refine lv_iconst (v := 0) hx hb dX12_plate_9 (by decide) ?_
    refine lv_istore_n (lv' := [(2, .int 0), (0, .ref h0), (1, .int p0)]) hx hb dX12_plate_10 rfl hl (by decide) rfl (fun ls hl => ?_)
    refine lv_iconst (v := 0) hx hb dX12_plate_11 (by decide) ?_
    refine lv_istore_n (lv' := [(3, .int 0), (2, .int 0), (0, .ref h0), (1, .int p0)]) hx hb dX12_plate_12 rfl hl (by decide) rfl (fun ls hl => ?_)
    refine lv_iload_n hx hb dX12_plate_13 rfl (lv_at hl 0 rfl) ?_
    refine lv_bipush (v := 8) hx hb dX12_plate_14 (by decide) ?_
    refine lv_icmp_ge (tgt := 72) hx hb dX12_plate_16 (by decide) (fun c_3 => absurd c_3 (by decide)) (fun c_3 => ?_)
    refine lv_iconst (v := 0) hx hb dX12_plate_19 (by decide) ?_
    refine lv_istore (lv' := [(4, .int 0), (3, .int 0), (2, .int 0), (0, .ref h0), (1, .int p0)]) hx hb dX12_plate_20 hl (by decide) rfl (fun ls hl => ?_)
    refine lv_iload hx hb dX12_plate_22 (lv_at hl 0 rfl) ?_
    refine lv_aload_n hx hb dX12_plate_24 rfl (lv_at hl 3 rfl) ?_
    refine va_get (D := (dC, dI)) (ci := 11) (v := .ref (v 0)) (C := RX12) (T := TX12) (N := 52) hx hb hts (by decide +kernel) hown hK hP 0 rfl rfl 0 (by decide) (hts (.fieldLink RX12 7 "PageOneModel" "lines" "[I") (by decide +kernel)) (fun _ h9 => h9) rfl dX12_plate_25 ?_
    refine lv_bipush (v := 8) hx hb dX12_plate_28 (by decide) ?_
    refine lv_iload_n hx hb dX12_plate_30 rfl (lv_at hl 4 rfl) ?_
    refine lv_imul hx hb dX12_plate_31 ?_
    refine lv_iload_n hx hb dX12_plate_32 rfl (lv_at hl 1 rfl) ?_
    refine lv_iadd hx hb dX12_plate_33 ?_
    refine va_iald hx hb hK hP 1 0 rfl rfl (vin8 b_1 (by decide)) dX12_plate_34 ?_
    refine lv_topi (fun k_4 ek_4 => ?_)
    obtain rfl : k_4 = 0 := ek_4
    refine lv_icmp_ge (tgt := 66) hx hb dX12_plate_35 (by decide) (fun c_5 => ?_) (fun c_5 => absurd (by decide) c_5)
    refine lv_iinc (v := 1) (lv' := [(3, .int 1), (4, .int 0), (2, .int 0), (0, .ref h0), (1, .int p0)]) hx hb dX12_plate_66 hl (k := 1) rfl (by decide) (by decide) rfl (fun ls hl => ?_)
    refine lv_goto (tgt := 13) hx hb dX12_plate_69 (by decide) ?_
    refine lv_iload_n hx hb dX12_plate_13 rfl (lv_at hl 0 rfl) ?_
    refine lv_bipush (v := 8) hx hb dX12_plate_14 (by decide) ?_
    refine lv_icmp_ge (tgt := 72) hx hb dX12_plate_16 (by decide) (fun c_6 => absurd c_6 (by decide)) (fun c_6 => ?_)
    refine lv_iconst (v := 0) hx hb dX12_plate_19 (by decide) ?_
    refine lv_istore (lv' := [(4, .int 0), (3, .int 1), (2, .int 0), (0, .ref h0), (1, .int p0)]) hx hb dX12_plate_20 hl (by decide) rfl (fun ls hl => ?_)
    refine lv_iload hx hb dX12_plate_22 (lv_at hl 0 rfl) ?_
    refine lv_aload_n hx hb dX12_plate_24 rfl (lv_at hl 3 rfl) ?_
    refine va_get (D := (dC, dI)) (ci := 11) (v := .ref (v 0)) (C := RX12) (T := TX12) (N := 52) hx hb hts (by decide +kernel) hown hK hP 0 rfl rfl 0 (by decide) (hts (.fieldLink RX12 7 "PageOneModel" "lines" "[I") (by decide +kernel)) (fun _ h9 => h9) rfl dX12_plate_25 ?_
    refine lv_bipush (v := 8) hx hb dX12_plate_28 (by decide) ?_
    refine lv_iload_n hx hb dX12_plate_30 rfl (lv_at hl 4 rfl) ?_
    refine lv_imul hx hb dX12_plate_31 ?_
    refine lv_iload_n hx hb dX12_plate_32 rfl (lv_at hl 1 rfl) ?_
    refine lv_iadd hx hb dX12_plate_33 ?_
    refine va_iald hx hb hK hP 1 0 rfl rfl (vin8 b_1 (by decide)) dX12_plate_34 ?_
    refine lv_topi (fun k_7 ek_7 => ?_)
    obtain rfl : k_7 = 0 := ek_7
    refine lv_icmp_ge (tgt := 66) hx hb dX12_plate_35 (by decide) (fun c_8 => ?_) (fun c_8 => absurd (by decide) c_8)
    refine lv_iinc (v := 2) (lv' := [(3, .int 2), (4, .int 0), (2, .int 0), (0, .ref h0), (1, .int p0)]) hx hb dX12_plate_66 hl (k := 1) rfl (by decide) (by decide) rfl (fun ls hl => ?_)
    refine lv_goto (tgt := 13) hx hb dX12_plate_69 (by decide) ?_
    refine lv_iload_n hx hb dX12_plate_13 rfl (lv_at hl 0 rfl) ?_
    refine lv_bipush (v := 8) hx hb dX12_plate_14 (by decide) ?_
    refine lv_icmp_ge (tgt := 72) hx hb dX12_plate_16 (by decide) (fun c_9 => absurd c_9 (by decide)) (fun c_9 => ?_)
    refine lv_iconst (v := 0) hx hb dX12_plate_19 (by decide) ?_
    refine lv_istore (lv' := [(4, .int 0), (3, .int 2), (2, .int 0), (0, .ref h0), (1, .int p0)]) hx hb dX12_plate_20 hl (by decide) rfl (fun ls hl => ?_)
    refine lv_iload hx hb dX12_plate_22 (lv_at hl 0 rfl) ?_
    refine lv_aload_n hx hb dX12_plate_24 rfl (lv_at hl 3 rfl) ?_
    refine va_get (D := (dC, dI)) (ci := 11) (v := .ref (v 0)) (C := RX12) (T := TX12) (N := 52) hx hb hts (by decide +kernel) hown hK hP 0 rfl rfl 0 (by decide) (hts (.fieldLink RX12 7 "PageOneModel" "lines" "[I") (by decide +kernel)) (fun _ h9 => h9) rfl dX12_plate_25 ?_
    refine lv_bipush (v := 8) hx hb dX12_plate_28 (by decide) ?_
    refine lv_iload_n hx hb dX12_plate_30 rfl (lv_at hl 4 rfl) ?_
    refine lv_imul hx hb dX12_plate_31 ?_
    refine lv_iload_n hx hb dX12_plate_32 rfl (lv_at hl 1 rfl) ?_
    refine lv_iadd hx hb dX12_plate_33 ?_
    refine va_iald hx hb hK hP 1 0 rfl rfl (vin8 b_1 (by decide)) dX12_plate_34 ?_
    refine lv_topi (fun k_10 ek_10 => ?_)
    obtain rfl : k_10 = 0 := ek_10
    refine lv_icmp_ge (tgt := 66) hx hb dX12_plate_35 (by decide) (fun c_11 => ?_) (fun c_11 => absurd (by decide) c_11)
    refine lv_iinc (v := 3) (lv' := [(3, .int 3), (4, .int 0), (2, .int 0), (0, .ref h0), (1, .int p0)]) hx hb dX12_plate_66 hl (k := 1) rfl (by decide) (by decide) rfl (fun ls hl => ?_)
    refine lv_goto (tgt := 13) hx hb dX12_plate_69 (by decide) ?_
    refine lv_iload_n hx hb dX12_plate_13 rfl (lv_at hl 0 rfl) ?_
    refine lv_bipush (v := 8) hx hb dX12_plate_14 (by decide) ?_
    refine lv_icmp_ge (tgt := 72) hx hb dX12_plate_16 (by decide) (fun c_12 => absurd c_12 (by decide)) (fun c_12 => ?_)
    refine lv_iconst (v := 0) hx hb dX12_plate_19 (by decide) ?_
    refine lv_istore (lv' := [(4, .int 0), (3, .int 3), (2, .int 0), (0, .ref h0), (1, .int p0)]) hx hb dX12_plate_20 hl (by decide) rfl (fun ls hl => ?_)
    refine lv_iload hx hb dX12_plate_22 (lv_at hl 0 rfl) ?_
    refine lv_aload_n hx hb dX12_plate_24 rfl (lv_at hl 3 rfl) ?_
    refine va_get (D := (dC, dI)) (ci := 11) (v := .ref (v 0)) (C := RX12) (T := TX12) (N := 52) hx hb hts (by decide +kernel) hown hK hP 0 rfl rfl 0 (by decide) (hts (.fieldLink RX12 7 "PageOneModel" "lines" "[I") (by decide +kernel)) (fun _ h9 => h9) rfl dX12_plate_25 ?_
    refine lv_bipush (v := 8) hx hb dX12_plate_28 (by decide) ?_
    refine lv_iload_n hx hb dX12_plate_30 rfl (lv_at hl 4 rfl) ?_
    refine lv_imul hx hb dX12_plate_31 ?_
    refine lv_iload_n hx hb dX12_plate_32 rfl (lv_at hl 1 rfl) ?_
    refine lv_iadd hx hb dX12_plate_33 ?_
    refine va_iald hx hb hK hP 1 0 rfl rfl (vin8 b_1 (by decide)) dX12_plate_34 ?_
    refine lv_topi (fun k_13 ek_13 => ?_)
    obtain rfl : k_13 = 0 := ek_13
    refine lv_icmp_ge (tgt := 66) hx hb dX12_plate_35 (by decide) (fun c_14 => ?_) (fun c_14 => absurd (by decide) c_14)
    refine lv_iinc (v := 4) (lv' := [(3, .int 4), (4, .int 0), (2, .int 0), (0, .ref h0), (1, .int p0)]) hx hb dX12_plate_66 hl (k := 1) rfl (by decide) (by decide) rfl (fun ls hl => ?_)
    refine lv_goto (tgt := 13) hx hb dX12_plate_69 (by decide) ?_
    refine lv_iload_n hx hb dX12_plate_13 rfl (lv_at hl 0 rfl) ?_
    refine lv_bipush (v := 8) hx hb dX12_plate_14 (by decide) ?_
    refine lv_icmp_ge (tgt := 72) hx hb dX12_plate_16 (by decide) (fun c_15 => absurd c_15 (by decide)) (fun c_15 => ?_)
    refine lv_iconst (v := 0) hx hb dX12_plate_19 (by decide) ?_
    refine lv_istore (lv' := [(4, .int 0), (3, .int 4), (2, .int 0), (0, .ref h0), (1, .int p0)]) hx hb dX12_plate_20 hl (by decide) rfl (fun ls hl => ?_)
    refine lv_iload hx hb dX12_plate_22 (lv_at hl 0 rfl) ?_
    refine lv_aload_n hx hb dX12_plate_24 rfl (lv_at hl 3 rfl) ?_
    refine va_get (D := (dC, dI)) (ci := 11) (v := .ref (v 0)) (C := RX12) (T := TX12) (N := 52) hx hb hts (by decide +kernel) hown hK hP 0 rfl rfl 0 (by decide) (hts (.fieldLink RX12 7 "PageOneModel" "lines" "[I") (by decide +kernel)) (fun _ h9 => h9) rfl dX12_plate_25 ?_
    refine lv_bipush (v := 8) hx hb dX12_plate_28 (by decide) ?_
    refine lv_iload_n hx hb dX12_plate_30 rfl (lv_at hl 4 rfl) ?_
    refine lv_imul hx hb dX12_plate_31 ?_
    refine lv_iload_n hx hb dX12_plate_32 rfl (lv_at hl 1 rfl) ?_
    refine lv_iadd hx hb dX12_plate_33 ?_
    refine va_iald hx hb hK hP 1 0 rfl rfl (vin8 b_1 (by decide)) dX12_plate_34 ?_
    refine lv_topi (fun k_16 ek_16 => ?_)
    obtain rfl : k_16 = 0 := ek_16
    refine lv_icmp_ge (tgt := 66) hx hb dX12_plate_35 (by decide) (fun c_17 => ?_) (fun c_17 => absurd (by decide) c_17)
    refine lv_iinc (v := 5) (lv' := [(3, .int 5), (4, .int 0), (2, .int 0), (0, .ref h0), (1, .int p0)]) hx hb dX12_plate_66 hl (k := 1) rfl (by decide) (by decide) rfl (fun ls hl => ?_)
    refine lv_goto (tgt := 13) hx hb dX12_plate_69 (by decide) ?_
    refine lv_iload_n hx hb dX12_plate_13 rfl (lv_at hl 0 rfl) ?_
    refine lv_bipush (v := 8) hx hb dX12_plate_14 (by decide) ?_
    refine lv_icmp_ge (tgt := 72) hx hb dX12_plate_16 (by decide) (fun c_18 => absurd c_18 (by decide)) (fun c_18 => ?_)
    refine lv_iconst (v := 0) hx hb dX12_plate_19 (by decide) ?_
    refine lv_istore (lv' := [(4, .int 0), (3, .int 5), (2, .int 0), (0, .ref h0), (1, .int p0)]) hx hb dX12_plate_20 hl (by decide) rfl (fun ls hl => ?_)
    refine lv_iload hx hb dX12_plate_22 (lv_at hl 0 rfl) ?_
    refine lv_aload_n hx hb dX12_plate_24 rfl (lv_at hl 3 rfl) ?_
    refine va_get (D := (dC, dI)) (ci := 11) (v := .ref (v 0)) (C := RX12) (T := TX12) (N := 52) hx hb hts (by decide +kernel) hown hK hP 0 rfl rfl 0 (by decide) (hts (.fieldLink RX12 7 "PageOneModel" "lines" "[I") (by decide +kernel)) (fun _ h9 => h9) rfl dX12_plate_25 ?_
    refine lv_bipush (v := 8) hx hb dX12_plate_28 (by decide) ?_
    refine lv_iload_n hx hb dX12_plate_30 rfl (lv_at hl 4 rfl) ?_
    refine lv_imul hx hb dX12_plate_31 ?_
    refine lv_iload_n hx hb dX12_plate_32 rfl (lv_at hl 1 rfl) ?_
    refine lv_iadd hx hb dX12_plate_33 ?_
    refine va_iald hx hb hK hP 1 0 rfl rfl (vin8 b_1 (by decide)) dX12_plate_34 ?_
    refine lv_topi (fun k_19 ek_19 => ?_)
    obtain rfl : k_19 = 0 := ek_19
    refine lv_icmp_ge (tgt := 66) hx hb dX12_plate_35 (by decide) (fun c_20 => ?_) (fun c_20 => absurd (by decide) c_20)
    refine lv_iinc (v := 6) (lv' := [(3, .int 6), (4, .int 0), (2, .int 0), (0, .ref h0), (1, .int p0)]) hx hb dX12_plate_66 hl (k := 1) rfl (by decide) (by decide) rfl (fun ls hl => ?_)
    refine lv_goto (tgt := 13) hx hb dX12_plate_69 (by decide) ?_
    refine lv_iload_n hx hb dX12_plate_13 rfl (lv_at hl 0 rfl) ?_
    refine lv_bipush (v := 8) hx hb dX12_plate_14 (by decide) ?_
    refine lv_icmp_ge (tgt := 72) hx hb dX12_plate_16 (by decide) (fun c_21 => absurd c_21 (by decide)) (fun c_21 => ?_)
    refine lv_iconst (v := 0) hx hb dX12_plate_19 (by decide) ?_
    refine lv_istore (lv' := [(4, .int 0), (3, .int 6), (2, .int 0), (0, .ref h0), (1, .int p0)]) hx hb dX12_plate_20 hl (by decide) rfl (fun ls hl => ?_)
    refine lv_iload hx hb dX12_plate_22 (lv_at hl 0 rfl) ?_
    refine lv_aload_n hx hb dX12_plate_24 rfl (lv_at hl 3 rfl) ?_
    refine va_get (D := (dC, dI)) (ci := 11) (v := .ref (v 0)) (C := RX12) (T := TX12) (N := 52) hx hb hts (by decide +kernel) hown hK hP 0 rfl rfl 0 (by decide) (hts (.fieldLink RX12 7 "PageOneModel" "lines" "[I") (by decide +kernel)) (fun _ h9 => h9) rfl dX12_plate_25 ?_
    refine lv_bipush (v := 8) hx hb dX12_plate_28 (by decide) ?_
    refine lv_iload_n hx hb dX12_plate_30 rfl (lv_at hl 4 rfl) ?_
    refine lv_imul hx hb dX12_plate_31 ?_
    refine lv_iload_n hx hb dX12_plate_32 rfl (lv_at hl 1 rfl) ?_
    refine lv_iadd hx hb dX12_plate_33 ?_
    refine va_iald hx hb hK hP 1 0 rfl rfl (vin8 b_1 (by decide)) dX12_plate_34 ?_
    refine lv_topi (fun k_22 ek_22 => ?_)
    obtain rfl : k_22 = 0 := ek_22
    refine lv_icmp_ge (tgt := 66) hx hb dX12_plate_35 (by decide) (fun c_23 => ?_) (fun c_23 => absurd (by decide) c_23)
    refine lv_iinc (v := 7) (lv' := [(3, .int 7), (4, .int 0), (2, .int 0), (0, .ref h0), (1, .int p0)]) hx hb dX12_plate_66 hl (k := 1) rfl (by decide) (by decide) rfl (fun ls hl => ?_)
    refine lv_goto (tgt := 13) hx hb dX12_plate_69 (by decide) ?_
    refine lv_iload_n hx hb dX12_plate_13 rfl (lv_at hl 0 rfl) ?_
    refine lv_bipush (v := 8) hx hb dX12_plate_14 (by decide) ?_
    refine lv_icmp_ge (tgt := 72) hx hb dX12_plate_16 (by decide) (fun c_24 => absurd c_24 (by decide)) (fun c_24 => ?_)
    refine lv_iconst (v := 0) hx hb dX12_plate_19 (by decide) ?_
    refine lv_istore (lv' := [(4, .int 0), (3, .int 7), (2, .int 0), (0, .ref h0), (1, .int p0)]) hx hb dX12_plate_20 hl (by decide) rfl (fun ls hl => ?_)
    refine lv_iload hx hb dX12_plate_22 (lv_at hl 0 rfl) ?_
    refine lv_aload_n hx hb dX12_plate_24 rfl (lv_at hl 3 rfl) ?_
    refine va_get (D := (dC, dI)) (ci := 11) (v := .ref (v 0)) (C := RX12) (T := TX12) (N := 52) hx hb hts (by decide +kernel) hown hK hP 0 rfl rfl 0 (by decide) (hts (.fieldLink RX12 7 "PageOneModel" "lines" "[I") (by decide +kernel)) (fun _ h9 => h9) rfl dX12_plate_25 ?_
    refine lv_bipush (v := 8) hx hb dX12_plate_28 (by decide) ?_
    refine lv_iload_n hx hb dX12_plate_30 rfl (lv_at hl 4 rfl) ?_
    refine lv_imul hx hb dX12_plate_31 ?_
    refine lv_iload_n hx hb dX12_plate_32 rfl (lv_at hl 1 rfl) ?_
    refine lv_iadd hx hb dX12_plate_33 ?_
    refine va_iald hx hb hK hP 1 0 rfl rfl (vin8 b_1 (by decide)) dX12_plate_34 ?_
    refine lv_topi (fun k_25 ek_25 => ?_)
    obtain rfl : k_25 = 0 := ek_25
    refine lv_icmp_ge (tgt := 66) hx hb dX12_plate_35 (by decide) (fun c_26 => ?_) (fun c_26 => absurd (by decide) c_26)
    refine lv_iinc (v := 8) (lv' := [(3, .int 8), (4, .int 0), (2, .int 0), (0, .ref h0), (1, .int p0)]) hx hb dX12_plate_66 hl (k := 1) rfl (by decide) (by decide) rfl (fun ls hl => ?_)
    refine lv_goto (tgt := 13) hx hb dX12_plate_69 (by decide) ?_
    refine lv_iload_n hx hb dX12_plate_13 rfl (lv_at hl 0 rfl) ?_
    refine lv_bipush (v := 8) hx hb dX12_plate_14 (by decide) ?_
    refine lv_icmp_ge (tgt := 72) hx hb dX12_plate_16 (by decide) (fun c_27 => ?_) (fun c_27 => absurd (by decide) c_27)
    refine lv_aload_n hx hb dX12_plate_72 rfl (lv_at hl 3 rfl) ?_
    refine lv_iload_n hx hb dX12_plate_73 rfl (lv_at hl 4 rfl) ?_
    have hPc := hP.sub (ws' := [(h0, .inr (11, mO v 0 0 0 0 0 0 0 0)), ((v 0), .inl (cI, 96, .inl (fun _ => 0)))]) [0, 1] rfl
    have hKc := hK.sub (tys' := [(cI, .int)]) [0] rfl
    have hDc := hD.sub (ws' := [(h0, .inr (11, mO v 0 0 0 0 0 0 0 0)), ((v 0), .inl (cI, 96, .inl (fun _ => 0)))]) [0, 1] (by decide) rfl
    have hFc := va_free (wc := [(h0, .inr (11, mO v 0 0 0 0 0 0 0 0)), ((v 0), .inl (cI, 96, .inl (fun _ => 0)))]) hD hS hA [0, 1] rfl
    refine va_callv (va_runV (As := [.int p0]) (rest := []) ⟨hx, hb, hml, hown, hts⟩ (m_breaks0 l dC dI h0 v cI p0 b_1 s.heap.size) (cwV 1 hts gX12_plate_X12_breaks rfl rfl rfl (by decide +kernel) ⟨Nat.le_of_ble_eq_true rfl, Nat.le_of_ble_eq_true rfl⟩) ⟨gw_fb, va_recv hKc hPc (ci := 11) (q0 := 0) rfl rfl, fun U hU hW => ⟨rfl, by rw [hU], pw_to hU hW hPc hKc hN, hDc.weaken (fun _ _ _ _ => trivial)⟩⟩ rfl rfl hl.1 rfl (lv_room (Nat.le_of_ble_eq_true rfl)) dX12_plate_74 ⟨Nat.le_of_ble_eq_true rfl, Nat.le_of_ble_eq_true rfl⟩) hS (fun q _ h => hFc q h) hFc (fun u t H1 locs ht hvm hw hB hz1 hk1 hS => ?_)
    obtain ⟨hP1, hD1⟩ := hB
    rw [ht] at hP1
    obtain ⟨hP, hD⟩ := va_join (wr := []) (w1 := [(h0, .inr (11, mO v 0 0 0 0 0 0 (-1) (-1)))]) hP hD [0, 1] [] rfl rfl (by decide) (by decide) hk1 hFc hP1 hD1
    generalize H1 = H at hP hS ⊢
    have hP : va_P (dC, dI) vwCl [(h0, .inr (11, mO v 0 0 0 0 0 0 (-1) (-1)))] H := hP
    have hD : va_D A [(h0, .inr (11, mO v 0 0 0 0 0 0 (-1) (-1)))] := hD
    refine W.widen (k := 0) (n := 0) (Nat.le_of_ble_eq_true rfl) (Nat.le_of_ble_eq_true rfl) ?_
    refine lv_iload_n hx hb dX12_plate_77 rfl (lv_at hl 2 rfl) ?_
    refine lv_if_eq (tgt := 88) hx hb dX12_plate_78 (by decide) (fun c_28 => ?_) (fun c_28 => absurd (by decide) c_28)
    refine lv_iconst (v := (-1)) hx hb dX12_plate_88 (by decide) ?_
    exact W.iret (v := (-1)) hx hb hr (fun t ht hW => ⟨⟨(-1), (), rfl, (by simp [bi, b_1]), trivial⟩, hS.F ht⟩) hS.2.2 dX12_plate_89
  ·
    obtain rfl : r = 0 := b_f hw b_1
    refine lv_if_ne (tgt := 9) hx hb dX12_plate_4 (by decide) (fun c_29 => absurd (by decide) c_29) (fun c_29 => ?_)
    refine lv_iconst (v := (-1)) hx hb dX12_plate_7 (by decide) ?_
    exact W.iret (v := (-1)) hx hb hr (fun t ht hW => ⟨⟨(-1), (), rfl, (by simp [bi, b_1]), trivial⟩, hS.F ht⟩) hS.2.2 dX12_plate_8
set_option maxHeartbeats 4000000 in
set_option maxRecDepth 100000 in
theorem m_edition (l : Launch) (dC : Nat → ClassId) (dI : Nat → Nat → Nat) (h0 : Nat) (v : Nat → Nat) (sz : Nat) : Met l yX12_edition wsX12_edition ({ frames := 1, cells := 0, slots := 0, locals := 22 }) (va_Pc [.ref h0] (fun U => U.heap.size = sz ∧ PW dC dI [(h0, .inr (11, mO v 0 0 0 0 0 0 0 0))] [] U ∧ va_D (fun _ => True) [(h0, .inr (11, mO v 0 0 0 0 0 0 0 0))])) (va_Qi (fun (r : Int32) (_ : Unit) => r = 1) (fun _ _ => True) (va_A [(h0, .inr (11, mO v 0 0 0 0 0 0 0 0))] sz)) 0 0 (va_A [(h0, .inr (11, mO v 0 0 0 0 0 0 0 0))] sz) := by
  refine Met.ofW (cc := cX12_edition) (maxL := 1) (ret := (some .int)) (by decide) rfl ?_
  intro p e s m args below meth c s₁ B hml hv
  obtain ⟨rfl, hsz, ⟨hP, hK, hN⟩, hD0⟩ := hv
  have hx := B.exec
  have hb := B.bytes
  have hr := B.returns
  have hts := atoms_spec (ws := wsX12_edition) B.pre
  have hown : s.vm.findClass RX12 = some m.cls := findClass_of_methodNamed B.named
  have hlocks := B.notSynchronized
  subst hsz
  have hD := hD0.self (sz := s.heap.size)
  generalize hAe : va_A [(h0, .inr (11, mO v 0 0 0 0 0 0 0 0))] s.heap.size = A at hD ⊢
  have hA : ∀ q : Nat, s.heap.size ≤ q → A q := fun q h => by rw [← hAe]; exact Or.inr h
  have hS : va_S A s.heap s.heap [] := va_S.rf
  have hP : va_P (dC, dI) vwCl [(h0, .inr (11, mO v 0 0 0 0 0 0 0 0))] s.heap := hP
  have hl := lv_entry ([.ref h0]) (n := 1) (Nat.le_of_ble_eq_true rfl)
  rw [lg_entry_eq]
  generalize (lg_sl ([.ref h0]) ++ List.replicate (1 - (lg_sl ([.ref h0])).length) Slot.unset).toArray = ls at hl ⊢
  have hl : lv_has ls 1 [(0, .ref h0)] := hl
  refine lv_aload_n hx hb dX12_edition_0 rfl (lv_at hl 0 rfl) ?_
  refine va_get (D := (dC, dI)) (ci := 11) (v := .int 0) (C := RX12) (T := TX12) (N := 52) hx hb hts (by decide +kernel) hown hK hP 0 rfl rfl 39 (by decide) (hts (.fieldLink RX12 257 "PageOneModel" "edition" "I") (by decide +kernel)) (fun _ h9 => h9) rfl dX12_edition_1 ?_
  refine lv_bipush (v := 7) hx hb dX12_edition_4 (by decide) ?_
  refine lv_icmp_ne (tgt := 11) hx hb dX12_edition_6 (by decide) (fun c_1 => ?_) (fun c_1 => absurd c_1 (by decide))
  refine lv_aload_n hx hb dX12_edition_11 rfl (lv_at hl 0 rfl) ?_
  have hPc := hP.sub (ws' := [(h0, .inr (11, mO v 0 0 0 0 0 0 0 0))]) [0] rfl
  have hKc := hK.sub (tys' := []) [] rfl
  refine va_csv (va_runV (As := []) (rest := []) ⟨hx, hb, hml, hown, hts⟩ (m_ends0 l dC dI h0 v) (cwV 0 hts gX12_edition_X12_ends rfl rfl rfl (by decide +kernel) ⟨Nat.le_of_ble_eq_true rfl, Nat.le_of_ble_eq_true rfl⟩) ⟨pw_fb, va_recv hKc hPc (ci := 11) (q0 := 0) rfl rfl, fun U hU hW => ⟨rfl, pw_to hU hW hPc hKc hN⟩⟩ rfl rfl hl.1 rfl (lv_room (Nat.le_of_ble_eq_true rfl)) dX12_edition_12 ⟨Nat.le_of_ble_eq_true rfl, Nat.le_of_ble_eq_true rfl⟩).run (fun _ => ?_)
  refine lv_aload_n hx hb dX12_edition_15 rfl (lv_at hl 0 rfl) ?_
  refine lv_dup hx hb dX12_edition_16 rfl ?_
  refine va_get (D := (dC, dI)) (ci := 11) (v := .int 0) (C := RX12) (T := TX12) (N := 52) hx hb hts (by decide +kernel) hown hK hP 0 rfl rfl 39 (by decide) (hts (.fieldLink RX12 257 "PageOneModel" "edition" "I") (by decide +kernel)) (fun _ h9 => h9) rfl dX12_edition_17 ?_
  refine lv_iconst (v := 1) hx hb dX12_edition_20 (by decide) ?_
  refine lv_iadd hx hb dX12_edition_21 ?_
  refine lv_topi (fun k_2 ek_2 => ?_)
  obtain rfl : k_2 = 1 := ek_2.trans (by decide)
  refine va_put (D := (dC, dI)) (ci := 11) (v := .int 1) (ty := .int) (C := RX12) (T := TX12) (N := 52) hx hb hts (by decide +kernel) tyX12 tyX12_ok nmX12 hown hK hP hD hS 0 rfl rfl 39 (by decide) (hts (.fieldLink RX12 257 "PageOneModel" "edition" "I") (by decide +kernel)) (fun _ h9 => h9) rfl (by decide +kernel) rfl rfl (Nat.le_of_ble_eq_true rfl) dX12_edition_22 (fun H locs hP hD hS => ?_)
  have hP : va_P (dC, dI) vwCl [(h0, .inr (11, mO v 0 0 0 0 1 0 0 0))] H := hP
  have hD : va_D A [(h0, .inr (11, mO v 0 0 0 0 1 0 0 0))] := hD
  refine lv_aload_n hx hb dX12_edition_25 rfl (lv_at hl 0 rfl) ?_
  refine va_get (D := (dC, dI)) (ci := 11) (v := .int 1) (C := RX12) (T := TX12) (N := 52) hx hb hts (by decide +kernel) hown hK hP 0 rfl rfl 39 (by decide) (hts (.fieldLink RX12 257 "PageOneModel" "edition" "I") (by decide +kernel)) (fun _ h9 => h9) rfl dX12_edition_26 ?_
  exact W.iret (v := 1) hx hb hr (fun t ht hW => ⟨⟨1, (), rfl, (by simp [bi]), trivial⟩, hS.F ht⟩) hS.2.2 dX12_edition_29
set_option maxHeartbeats 4000000 in
set_option maxRecDepth 100000 in
theorem m_day_loop {p : Program} {l : Launch} {e : Env} {R : Room} {s : State} {m : MethodId} {args : Array Value} {below : List Frame} {meth : Method} {c : Code} {Q : State → Prop} {cells slots : Nat} {A : Nat → Prop} {H0 : Heap} {dC : Nat → ClassId} {dI : Nat → Nat → Nat} {h0 : Nat} {v : Nat → Nat} {cI : ClassId} (hx : p.tables.exec = Jvm.exec) (hb : c.code = cX12_day) (hml : c.maxLocals = 2) (hts : ∀ w ∈ wsX12_day, w.before args s = true) (hown : s.vm.findClass RX12 = some m.cls) (hN : NN s) (hK : va_K (dC, dI) vwCl [(cI, .int)] s) (kx : ∀ (g : Nat → Int32) (H : Heap) (locs : List Loc) (ls : Array Slot), va_P (dC, dI) vwCl [(h0, .inr (11, mO v 0 0 0 1 0 0 0 0)), ((v 2), .inl (cI, 5760, .inl g))] H → va_D A [(h0, .inr (11, mO v 0 0 0 1 0 0 0 0)), ((v 2), .inl (cI, 5760, .inl g))] → va_S A H0 H locs → lv_has ls 2 [(1, .int (nI 5760)), (0, .ref h0)] → W p l e R s m args below meth c H locs cells slots Q (F0 m 54 ls [])) : ∀ (k i : Nat) (g : Nat → Int32) (H : Heap) (locs : List Loc) (ls : Array Slot), i ≤ 5760 → 5760 - i < k → va_P (dC, dI) vwCl [(h0, .inr (11, mO v 0 0 0 1 0 0 0 0)), ((v 2), .inl (cI, 5760, .inl g))] H → va_D A [(h0, .inr (11, mO v 0 0 0 1 0 0 0 0)), ((v 2), .inl (cI, 5760, .inl g))] → va_S A H0 H locs → lv_has ls 2 [(1, .int (nI i)), (0, .ref h0)] → W p l e R s m args below meth c H locs cells slots Q (F0 m 33 ls []) := by
  intro k
  induction k with
  | zero => intro i g H locs ls h1 h2; exact absurd h2 (Nat.not_lt_zero _)
  | succ k ih =>
    intro i g H locs ls hi hk hP hD hS hl
    refine lv_iload_n hx hb dX12_day_33 rfl (lv_at hl 0 rfl) ?_
    refine lv_sipush (v := 5760) hx hb dX12_day_34 (by decide) ?_
    refine lv_icmp_ge (tgt := 54) hx hb dX12_day_37 (by decide) (fun c_1 => ?_) (fun c_1 => ?_)
    ·
      have hie : i = 5760 := lp_eq rfl (by decide) hi c_1
      subst hie
      exact kx _ _ _ ls hP hD hS (lv_sub hl [0, 1] rfl)
    ·
      have hlt : i < 5760 := lp_lt rfl (by decide) hi c_1
      refine lv_aload_n hx hb dX12_day_40 rfl (lv_at hl 1 rfl) ?_
      refine va_get (D := (dC, dI)) (ci := 11) (v := .ref (v 2)) (C := RX12) (T := TX12) (N := 52) hx hb hts (by decide +kernel) hown hK hP 0 rfl rfl 2 (by decide) (hts (.fieldLink RX12 16 "PageOneModel" "cell" "[I") (by decide +kernel)) (fun _ h9 => h9) rfl dX12_day_41 ?_
      refine lv_iload_n hx hb dX12_day_44 rfl (lv_at hl 0 rfl) ?_
      refine lv_bipush (v := (-2)) hx hb dX12_day_45 (by decide) ?_
      refine va_iast hx hb hK hP hD hS 1 0 rfl rfl (vp_in_nI hlt (by decide)) dX12_day_47 (fun H locs hP hD hS => ?_)
      have hP : va_P (dC, dI) vwCl [(h0, .inr (11, mO v 0 0 0 1 0 0 0 0)), ((v 2), .inl (cI, 5760, .inl (upd g ((nI i) : Int32).toNatClampNeg (-2))))] H := hP
      have hD : va_D A [(h0, .inr (11, mO v 0 0 0 1 0 0 0 0)), ((v 2), .inl (cI, 5760, .inl (upd g ((nI i) : Int32).toNatClampNeg (-2))))] := hD
      refine lv_iinc (v := (nI (i + 1))) (lv' := [(1, .int (nI (i + 1))), (0, .ref h0)]) hx hb dX12_day_48 hl (k := 0) rfl (nI_1 i) (by decide) rfl (fun ls hl => ?_)
      refine lv_goto (tgt := 33) hx hb dX12_day_51 (by decide) ?_
      exact ih (i + 1) _ _ _ ls (by omega) (by omega) hP hD hS (lv_sub hl [0, 1] rfl)
set_option maxHeartbeats 4000000 in
set_option maxRecDepth 100000 in
theorem m_day (l : Launch) (dC : Nat → ClassId) (dI : Nat → Nat → Nat) (h0 : Nat) (v : Nat → Nat) (cI : ClassId) (sz : Nat) : Met l yX12_day wsX12_day ({ frames := 1, cells := 0, slots := 0, locals := 22 }) (va_Pc [.ref h0] (fun U => U.heap.size = sz ∧ PW dC dI [(h0, .inr (11, mO v 0 0 0 0 0 0 0 0)), ((v 2), .inl (cI, 5760, .inl (fun _ => (-2))))] [(cI, .int)] U ∧ va_D (fun _ => True) [(h0, .inr (11, mO v 0 0 0 0 0 0 0 0)), ((v 2), .inl (cI, 5760, .inl (fun _ => (-2))))])) (va_Qi (fun (r : Int32) (_ : Unit) => r = 1) (fun _ _ => True) (va_A [(h0, .inr (11, mO v 0 0 0 0 0 0 0 0)), ((v 2), .inl (cI, 5760, .inl (fun _ => (-2))))] sz)) 0 0 (va_A [(h0, .inr (11, mO v 0 0 0 0 0 0 0 0)), ((v 2), .inl (cI, 5760, .inl (fun _ => (-2))))] sz) := by
  refine Met.ofW (cc := cX12_day) (maxL := 2) (ret := (some .int)) (by decide) rfl ?_
  intro p e s m args below meth c s₁ B hml hv
  obtain ⟨rfl, hsz, ⟨hP, hK, hN⟩, hD0⟩ := hv
  have hx := B.exec
  have hb := B.bytes
  have hr := B.returns
  have hts := atoms_spec (ws := wsX12_day) B.pre
  have hown : s.vm.findClass RX12 = some m.cls := findClass_of_methodNamed B.named
  have hlocks := B.notSynchronized
  subst hsz
  have hD := hD0.self (sz := s.heap.size)
  generalize hAe : va_A [(h0, .inr (11, mO v 0 0 0 0 0 0 0 0)), ((v 2), .inl (cI, 5760, .inl (fun _ => (-2))))] s.heap.size = A at hD ⊢
  have hA : ∀ q : Nat, s.heap.size ≤ q → A q := fun q h => by rw [← hAe]; exact Or.inr h
  have hS : va_S A s.heap s.heap [] := va_S.rf
  have hP : va_P (dC, dI) vwCl [(h0, .inr (11, mO v 0 0 0 0 0 0 0 0)), ((v 2), .inl (cI, 5760, .inl (fun _ => (-2))))] s.heap := hP
  have hl := lv_entry ([.ref h0]) (n := 2) (Nat.le_of_ble_eq_true rfl)
  rw [lg_entry_eq]
  generalize (lg_sl ([.ref h0]) ++ List.replicate (2 - (lg_sl ([.ref h0])).length) Slot.unset).toArray = ls at hl ⊢
  have hl : lv_has ls 2 [(0, .ref h0)] := hl
  refine lv_aload_n hx hb dX12_day_0 rfl (lv_at hl 0 rfl) ?_
  refine va_get (D := (dC, dI)) (ci := 11) (v := .int 0) (C := RX12) (T := TX12) (N := 52) hx hb hts (by decide +kernel) hown hK hP 0 rfl rfl 38 (by decide) (hts (.fieldLink RX12 206 "PageOneModel" "day" "I") (by decide +kernel)) (fun _ h9 => h9) rfl dX12_day_1 ?_
  refine lv_sipush (v := 399) hx hb dX12_day_4 (by decide) ?_
  refine lv_icmp_ne (tgt := 12) hx hb dX12_day_7 (by decide) (fun c_1 => ?_) (fun c_1 => absurd c_1 (by decide))
  refine lv_aload_n hx hb dX12_day_12 rfl (lv_at hl 0 rfl) ?_
  have hPc := hP.sub (ws' := [(h0, .inr (11, mO v 0 0 0 0 0 0 0 0))]) [0] rfl
  have hKc := hK.sub (tys' := []) [] rfl
  refine va_csv (va_runV (As := []) (rest := []) ⟨hx, hb, hml, hown, hts⟩ (m_ends0 l dC dI h0 v) (cwV 0 hts gX12_day_X12_ends rfl rfl rfl (by decide +kernel) ⟨Nat.le_of_ble_eq_true rfl, Nat.le_of_ble_eq_true rfl⟩) ⟨pw_fb, va_recv hKc hPc (ci := 11) (q0 := 0) rfl rfl, fun U hU hW => ⟨rfl, pw_to hU hW hPc hKc hN⟩⟩ rfl rfl hl.1 rfl (lv_room (Nat.le_of_ble_eq_true rfl)) dX12_day_13 ⟨Nat.le_of_ble_eq_true rfl, Nat.le_of_ble_eq_true rfl⟩).run (fun _ => ?_)
  refine lv_aload_n hx hb dX12_day_16 rfl (lv_at hl 0 rfl) ?_
  refine lv_dup hx hb dX12_day_17 rfl ?_
  refine va_get (D := (dC, dI)) (ci := 11) (v := .int 0) (C := RX12) (T := TX12) (N := 52) hx hb hts (by decide +kernel) hown hK hP 0 rfl rfl 38 (by decide) (hts (.fieldLink RX12 206 "PageOneModel" "day" "I") (by decide +kernel)) (fun _ h9 => h9) rfl dX12_day_18 ?_
  refine lv_iconst (v := 1) hx hb dX12_day_21 (by decide) ?_
  refine lv_iadd hx hb dX12_day_22 ?_
  refine lv_topi (fun k_2 ek_2 => ?_)
  obtain rfl : k_2 = 1 := ek_2.trans (by decide)
  refine va_put (D := (dC, dI)) (ci := 11) (v := .int 1) (ty := .int) (C := RX12) (T := TX12) (N := 52) hx hb hts (by decide +kernel) tyX12 tyX12_ok nmX12 hown hK hP hD hS 0 rfl rfl 38 (by decide) (hts (.fieldLink RX12 206 "PageOneModel" "day" "I") (by decide +kernel)) (fun _ h9 => h9) rfl (by decide +kernel) rfl rfl (Nat.le_of_ble_eq_true rfl) dX12_day_23 (fun H locs hP hD hS => ?_)
  have hP : va_P (dC, dI) vwCl [(h0, .inr (11, mO v 0 0 0 1 0 0 0 0)), ((v 2), .inl (cI, 5760, .inl (fun _ => (-2))))] H := hP
  have hD : va_D A [(h0, .inr (11, mO v 0 0 0 1 0 0 0 0)), ((v 2), .inl (cI, 5760, .inl (fun _ => (-2))))] := hD
  refine lv_aload_n hx hb dX12_day_26 rfl (lv_at hl 0 rfl) ?_
  refine lv_iconst (v := 0) hx hb dX12_day_27 (by decide) ?_
  refine va_put (D := (dC, dI)) (ci := 11) (v := .int 0) (ty := .int) (C := RX12) (T := TX12) (N := 52) hx hb hts (by decide +kernel) tyX12 tyX12_ok nmX12 hown hK hP hD hS 0 rfl rfl 39 (by decide) (hts (.fieldLink RX12 257 "PageOneModel" "edition" "I") (by decide +kernel)) (fun _ h9 => h9) rfl (by decide +kernel) rfl rfl (Nat.le_of_ble_eq_true rfl) dX12_day_28 (fun H locs hP hD hS => ?_)
  have hP : va_P (dC, dI) vwCl [(h0, .inr (11, mO v 0 0 0 1 0 0 0 0)), ((v 2), .inl (cI, 5760, .inl (fun _ => (-2))))] H := hP
  have hD : va_D A [(h0, .inr (11, mO v 0 0 0 1 0 0 0 0)), ((v 2), .inl (cI, 5760, .inl (fun _ => (-2))))] := hD
  refine lv_iconst (v := 0) hx hb dX12_day_31 (by decide) ?_
  refine lv_istore_n (lv' := [(1, .int 0), (0, .ref h0)]) hx hb dX12_day_32 rfl hl (by decide) rfl (fun ls hl => ?_)
  refine m_day_loop hx hb hml hts hown hN hK (fun g H locs ls hP hD hS hl => ?_) 5761 0 _ _ _ ls (by decide) (by decide) hP hD hS (lv_sub hl [0, 1] rfl)
  refine lv_iconst (v := 0) hx hb dX12_day_54 (by decide) ?_
  refine lv_istore_n (lv' := [(1, .int 0), (0, .ref h0)]) hx hb dX12_day_55 rfl hl (by decide) rfl (fun ls hl => ?_)
  refine lv_iload_n hx hb dX12_day_56 rfl (lv_at hl 0 rfl) ?_
  refine lv_aload_n hx hb dX12_day_57 rfl (lv_at hl 1 rfl) ?_
  refine va_get (D := (dC, dI)) (ci := 11) (v := .int 0) (C := RX12) (T := TX12) (N := 52) hx hb hts (by decide +kernel) hown hK hP 0 rfl rfl 3 (by decide) (hts (.fieldLink RX12 147 "PageOneModel" "items" "I") (by decide +kernel)) (fun _ h9 => h9) rfl dX12_day_58 ?_
  refine lv_icmp_ge (tgt := 77) hx hb dX12_day_61 (by decide) (fun c_3 => ?_) (fun c_3 => absurd (by decide) c_3)
  refine lv_aload_n hx hb dX12_day_77 rfl (lv_at hl 1 rfl) ?_
  have hPc := hP.sub (ws' := [(h0, .inr (11, mO v 0 0 0 1 0 0 0 0))]) [0] rfl
  have hKc := hK.sub (tys' := []) [] rfl
  have hDc := hD.sub (ws' := [(h0, .inr (11, mO v 0 0 0 1 0 0 0 0))]) [0] (by decide) rfl
  have hFc := va_free (wc := [(h0, .inr (11, mO v 0 0 0 1 0 0 0 0))]) hD hS hA [0] rfl
  refine va_callv (va_runV (As := []) (rest := []) ⟨hx, hb, hml, hown, hts⟩ (m_forget0 l dC dI h0 v H.size) (cwV 0 hts gX12_day_X12_forget rfl rfl rfl (by decide +kernel) ⟨Nat.le_of_ble_eq_true rfl, Nat.le_of_ble_eq_true rfl⟩) ⟨gw_fb, va_recv hKc hPc (ci := 11) (q0 := 0) rfl rfl, fun U hU hW => ⟨rfl, by rw [hU], pw_to hU hW hPc hKc hN, hDc.weaken (fun _ _ _ _ => trivial)⟩⟩ rfl rfl hl.1 rfl (lv_room (Nat.le_of_ble_eq_true rfl)) dX12_day_78 ⟨Nat.le_of_ble_eq_true rfl, Nat.le_of_ble_eq_true rfl⟩) hS (fun q _ h => hFc q h) hFc (fun u t H1 locs ht hvm hw hB hz1 hk1 hS => ?_)
  obtain ⟨hP1, hD1⟩ := hB
  rw [ht] at hP1
  obtain ⟨hP, hD⟩ := va_join (wr := [((v 2), .inl (cI, 5760, .inl g))]) (w1 := [(h0, .inr (11, mO v 0 0 0 1 0 0 0 0))]) hP hD [0] [1] rfl rfl (by decide) (by decide) hk1 hFc hP1 hD1
  generalize H1 = H at hP hS ⊢
  have hP : va_P (dC, dI) vwCl [((v 2), .inl (cI, 5760, .inl g)), (h0, .inr (11, mO v 0 0 0 1 0 0 0 0))] H := hP
  have hD : va_D A [((v 2), .inl (cI, 5760, .inl g)), (h0, .inr (11, mO v 0 0 0 1 0 0 0 0))] := hD
  refine W.widen (k := 0) (n := 0) (Nat.le_of_ble_eq_true rfl) (Nat.le_of_ble_eq_true rfl) ?_
  refine lv_aload_n hx hb dX12_day_81 rfl (lv_at hl 1 rfl) ?_
  refine va_get (D := (dC, dI)) (ci := 11) (v := .int 1) (C := RX12) (T := TX12) (N := 52) hx hb hts (by decide +kernel) hown hK hP 1 rfl rfl 38 (by decide) (hts (.fieldLink RX12 206 "PageOneModel" "day" "I") (by decide +kernel)) (fun _ h9 => h9) rfl dX12_day_82 ?_
  exact W.iret (v := 1) hx hb hr (fun t ht hW => ⟨⟨1, (), rfl, (by simp [bi]), trivial⟩, hS.F ht⟩) hS.2.2 dX12_day_85
set_option maxHeartbeats 4000000 in
set_option maxRecDepth 100000 in
theorem m_cell (l : Launch) (dC : Nat → ClassId) (dI : Nat → Nat → Nat) (h0 : Nat) (v : Nat → Nat) (cI : ClassId) (p0 p1 p2 : Int32) : Met l yX12_cell wsX12_cell ({ frames := 3, cells := 0, slots := 0, locals := 65 }) (va_Pc [.ref h0, .int p0, .int p1, .int p2] (PW dC dI [(h0, .inr (11, mO v 0 0 0 0 0 0 0 0)), ((v 0), .inl (cI, 96, .inl (fun _ => 0)))] [(cI, .int)])) (vp_Si (fun r => r = (-1))) 0 0 (fun _ => False) := by
  refine Met.ofW (cc := cX12_cell) (maxL := 4) (ret := (some .int)) (by decide) rfl ?_
  intro p e s m args below meth c s₁ B hml hv
  obtain ⟨rfl, hP, hK, hN⟩ := hv
  have hx := B.exec
  have hb := B.bytes
  have hr := B.returns
  have hts := atoms_spec (ws := wsX12_cell) B.pre
  have hown : s.vm.findClass RX12 = some m.cls := findClass_of_methodNamed B.named
  have hlocks := B.notSynchronized
  have hl := lv_entry ([.ref h0, .int p0, .int p1, .int p2]) (n := 4) (Nat.le_of_ble_eq_true rfl)
  rw [lg_entry_eq]
  generalize (lg_sl ([.ref h0, .int p0, .int p1, .int p2]) ++ List.replicate (4 - (lg_sl ([.ref h0, .int p0, .int p1, .int p2])).length) Slot.unset).toArray = ls at hl ⊢
  have hl : lv_has ls 4 [(0, .ref h0), (1, .int p0), (2, .int p1), (3, .int p2)] := hl
  refine lv_aload_n hx hb dX12_cell_0 rfl (lv_at hl 0 rfl) ?_
  refine lv_iload_n hx hb dX12_cell_1 rfl (lv_at hl 1 rfl) ?_
  refine lv_iload_n hx hb dX12_cell_2 rfl (lv_at hl 2 rfl) ?_
  refine lv_iload_n hx hb dX12_cell_3 rfl (lv_at hl 3 rfl) ?_
  have hPc := hP.sub (ws' := [(h0, .inr (11, mO v 0 0 0 0 0 0 0 0)), ((v 0), .inl (cI, 96, .inl (fun _ => 0)))]) [0, 1] rfl
  have hKc := hK.sub (tys' := [(cI, .int)]) [0] rfl
  refine vp_callSi (va_runV (As := [.int p0, .int p1, .int p2]) (rest := []) ⟨hx, hb, hml, hown, hts⟩ (m_isCell0 l dC dI h0 v cI p0 p1 p2) (cwV 3 hts gX12_cell_X12_isCell rfl rfl rfl (by decide +kernel) ⟨Nat.le_of_ble_eq_true rfl, Nat.le_of_ble_eq_true rfl⟩) ⟨pw_fb, va_recv hKc hPc (ci := 11) (q0 := 0) rfl rfl, fun U hU hW => ⟨rfl, pw_to hU hW hPc hKc hN⟩⟩ rfl rfl hl.1 rfl (lv_room (Nat.le_of_ble_eq_true rfl)) dX12_cell_4 ⟨Nat.le_of_ble_eq_true rfl, Nat.le_of_ble_eq_true rfl⟩).run (fun r hw => ?_)
  obtain rfl : r = 0 := hw
  refine lv_if_eq (tgt := 24) hx hb dX12_cell_7 (by decide) (fun c_1 => ?_) (fun c_1 => absurd (by decide) c_1)
  refine lv_iconst (v := (-1)) hx hb dX12_cell_24 (by decide) ?_
  exact W.iret (v := (-1)) hx hb hr (fun t ht hW => ⟨_, rfl, (by simp [bi]), ht⟩) (fun q h => absurd h List.not_mem_nil) dX12_cell_25
set_option maxHeartbeats 4000000 in
set_option maxRecDepth 100000 in
theorem m_piece (l : Launch) (dC : Nat → ClassId) (dI : Nat → Nat → Nat) (h0 : Nat) (v : Nat → Nat) (p0 p1 p2 : Int32) : Met l yX12_piece wsX12_piece ({ frames := 2, cells := 0, slots := 0, locals := 43 }) (va_Pc [.ref h0, .int p0, .int p1, .int p2] (PW dC dI [(h0, .inr (11, mO v 0 0 0 0 0 0 0 0))] [])) (vp_Si (fun r => r = (-1))) 0 0 (fun _ => False) := by
  refine Met.ofW (cc := cX12_piece) (maxL := 5) (ret := (some .int)) (by decide) rfl ?_
  intro p e s m args below meth c s₁ B hml hv
  obtain ⟨rfl, hP, hK, hN⟩ := hv
  have hx := B.exec
  have hb := B.bytes
  have hr := B.returns
  have hts := atoms_spec (ws := wsX12_piece) B.pre
  have hown : s.vm.findClass RX12 = some m.cls := findClass_of_methodNamed B.named
  have hlocks := B.notSynchronized
  have hl := lv_entry ([.ref h0, .int p0, .int p1, .int p2]) (n := 5) (Nat.le_of_ble_eq_true rfl)
  rw [lg_entry_eq]
  generalize (lg_sl ([.ref h0, .int p0, .int p1, .int p2]) ++ List.replicate (5 - (lg_sl ([.ref h0, .int p0, .int p1, .int p2])).length) Slot.unset).toArray = ls at hl ⊢
  have hl : lv_has ls 5 [(0, .ref h0), (1, .int p0), (2, .int p1), (3, .int p2)] := hl
  refine lv_aload_n hx hb dX12_piece_0 rfl (lv_at hl 0 rfl) ?_
  refine lv_iload_n hx hb dX12_piece_1 rfl (lv_at hl 1 rfl) ?_
  have hPc := hP.sub (ws' := [(h0, .inr (11, mO v 0 0 0 0 0 0 0 0))]) [0] rfl
  have hKc := hK.sub (tys' := []) [] rfl
  refine vp_callSi (va_runV (As := [.int p0]) (rest := []) ⟨hx, hb, hml, hown, hts⟩ (m_isItem0 l dC dI h0 v p0) (cwV 1 hts gX12_piece_X12_isItem rfl rfl rfl (by decide +kernel) ⟨Nat.le_of_ble_eq_true rfl, Nat.le_of_ble_eq_true rfl⟩) ⟨pw_fb, va_recv hKc hPc (ci := 11) (q0 := 0) rfl rfl, fun U hU hW => ⟨rfl, pw_to hU hW hPc hKc hN⟩⟩ rfl rfl hl.1 rfl (lv_room (Nat.le_of_ble_eq_true rfl)) dX12_piece_2 ⟨Nat.le_of_ble_eq_true rfl, Nat.le_of_ble_eq_true rfl⟩).run (fun r hw => ?_)
  obtain rfl : r = 0 := hw
  refine lv_if_eq (tgt := 24) hx hb dX12_piece_5 (by decide) (fun c_1 => ?_) (fun c_1 => absurd (by decide) c_1)
  refine lv_iconst (v := (-1)) hx hb dX12_piece_24 (by decide) ?_
  exact W.iret (v := (-1)) hx hb hr (fun t ht hW => ⟨_, rfl, (by simp [bi]), ht⟩) (fun q h => absurd h List.not_mem_nil) dX12_piece_25
set_option maxHeartbeats 4000000 in
set_option maxRecDepth 100000 in
theorem m_item (l : Launch) (dC : Nat → ClassId) (dI : Nat → Nat → Nat) (h0 : Nat) (v : Nat → Nat) (p0 p1 : Int32) : Met l yX12_item wsX12_item ({ frames := 2, cells := 0, slots := 0, locals := 43 }) (va_Pc [.ref h0, .int p0, .int p1] (PW dC dI [(h0, .inr (11, mO v 0 0 0 0 0 0 0 0))] [])) (vp_Si (fun r => r = (-1))) 0 0 (fun _ => False) := by
  refine Met.ofW (cc := cX12_item) (maxL := 3) (ret := (some .int)) (by decide) rfl ?_
  intro p e s m args below meth c s₁ B hml hv
  obtain ⟨rfl, hP, hK, hN⟩ := hv
  have hx := B.exec
  have hb := B.bytes
  have hr := B.returns
  have hts := atoms_spec (ws := wsX12_item) B.pre
  have hown : s.vm.findClass RX12 = some m.cls := findClass_of_methodNamed B.named
  have hlocks := B.notSynchronized
  have hl := lv_entry ([.ref h0, .int p0, .int p1]) (n := 3) (Nat.le_of_ble_eq_true rfl)
  rw [lg_entry_eq]
  generalize (lg_sl ([.ref h0, .int p0, .int p1]) ++ List.replicate (3 - (lg_sl ([.ref h0, .int p0, .int p1])).length) Slot.unset).toArray = ls at hl ⊢
  have hl : lv_has ls 3 [(0, .ref h0), (1, .int p0), (2, .int p1)] := hl
  refine lv_aload_n hx hb dX12_item_0 rfl (lv_at hl 0 rfl) ?_
  refine lv_iload_n hx hb dX12_item_1 rfl (lv_at hl 1 rfl) ?_
  have hPc := hP.sub (ws' := [(h0, .inr (11, mO v 0 0 0 0 0 0 0 0))]) [0] rfl
  have hKc := hK.sub (tys' := []) [] rfl
  refine vp_callSi (va_runV (As := [.int p0]) (rest := []) ⟨hx, hb, hml, hown, hts⟩ (m_isItem0 l dC dI h0 v p0) (cwV 1 hts gX12_item_X12_isItem rfl rfl rfl (by decide +kernel) ⟨Nat.le_of_ble_eq_true rfl, Nat.le_of_ble_eq_true rfl⟩) ⟨pw_fb, va_recv hKc hPc (ci := 11) (q0 := 0) rfl rfl, fun U hU hW => ⟨rfl, pw_to hU hW hPc hKc hN⟩⟩ rfl rfl hl.1 rfl (lv_room (Nat.le_of_ble_eq_true rfl)) dX12_item_2 ⟨Nat.le_of_ble_eq_true rfl, Nat.le_of_ble_eq_true rfl⟩).run (fun r hw => ?_)
  obtain rfl : r = 0 := hw
  refine lv_if_ne (tgt := 10) hx hb dX12_item_5 (by decide) (fun c_1 => absurd (by decide) c_1) (fun c_1 => ?_)
  refine lv_iconst (v := (-1)) hx hb dX12_item_8 (by decide) ?_
  exact W.iret (v := (-1)) hx hb hr (fun t ht hW => ⟨_, rfl, (by simp [bi]), ht⟩) (fun q h => absurd h List.not_mem_nil) dX12_item_9
set_option maxHeartbeats 4000000 in
set_option maxRecDepth 100000 in
theorem m_shortOf (l : Launch) (dC : Nat → ClassId) (dI : Nat → Nat → Nat) (h0 : Nat) (v : Nat → Nat) (cI : ClassId) (p0 p1 : Int32) : Met l yX12_shortOf wsX12_shortOf ({ frames := 2, cells := 0, slots := 0, locals := 42 }) (va_Pc [.ref h0, .int p0, .int p1] (PW dC dI [(h0, .inr (11, mO v 0 0 0 0 0 0 0 0)), ((v 0), .inl (cI, 96, .inl (fun _ => 0)))] [(cI, .int)])) (vp_Si (fun r => r = (if bw p0 0 11 && bw p1 0 7 then 0 else (-1)))) 0 0 (fun _ => False) := by
  refine Met.ofW (cc := cX12_shortOf) (maxL := 5) (ret := (some .int)) (by decide) rfl ?_
  intro p e s m args below meth c s₁ B hml hv
  obtain ⟨rfl, hP, hK, hN⟩ := hv
  have hx := B.exec
  have hb := B.bytes
  have hr := B.returns
  have hts := atoms_spec (ws := wsX12_shortOf) B.pre
  have hown : s.vm.findClass RX12 = some m.cls := findClass_of_methodNamed B.named
  have hlocks := B.notSynchronized
  have hl := lv_entry ([.ref h0, .int p0, .int p1]) (n := 5) (Nat.le_of_ble_eq_true rfl)
  rw [lg_entry_eq]
  generalize (lg_sl ([.ref h0, .int p0, .int p1]) ++ List.replicate (5 - (lg_sl ([.ref h0, .int p0, .int p1])).length) Slot.unset).toArray = ls at hl ⊢
  have hl : lv_has ls 5 [(0, .ref h0), (1, .int p0), (2, .int p1)] := hl
  refine lv_iload_n hx hb dX12_shortOf_0 rfl (lv_at hl 1 rfl) ?_
  have hPc := hP.sub (ws' := []) [] rfl
  have hKc := hK.sub (tys' := []) [] rfl
  refine vp_callSi (va_runS (As := [.int p0]) (rest := []) ⟨hx, hb, hml, hown, hts⟩ (m_isPage l dC dI p0) (va_cwS 1 hts gX12_shortOf_X12_isPage rfl rfl rfl (by decide +kernel) ⟨Nat.le_of_ble_eq_true rfl, Nat.le_of_ble_eq_true rfl⟩) ⟨pw_fb, fun U hU hW => ⟨rfl, pw_to hU hW hPc hKc hN⟩⟩ rfl rfl hl.1 rfl (lv_room (Nat.le_of_ble_eq_true rfl)) dX12_shortOf_1 ⟨Nat.le_of_ble_eq_true rfl, Nat.le_of_ble_eq_true rfl⟩).run (fun r hw => ?_)
  rcases Bool.eq_false_or_eq_true (bw p0 0 11) with b_1 | b_1
  ·
    obtain rfl : r = 1 := b_t hw b_1
    refine lv_if_eq (tgt := 17) hx hb dX12_shortOf_4 (by decide) (fun c_2 => absurd c_2 (by decide)) (fun c_2 => ?_)
    refine lv_iload_n hx hb dX12_shortOf_7 rfl (lv_at hl 2 rfl) ?_
    refine lv_iconst (v := 0) hx hb dX12_shortOf_8 (by decide) ?_
    refine lv_bipush (v := 7) hx hb dX12_shortOf_9 (by decide) ?_
    have hPc := hP.sub (ws' := []) [] rfl
    have hKc := hK.sub (tys' := []) [] rfl
    refine vp_callSi (va_runS (As := [.int p1, .int 0, .int 7]) (rest := []) ⟨hx, hb, hml, hown, hts⟩ (m_in l dC dI p1 0 7) (va_cwS 3 hts gX12_shortOf_X12_in rfl rfl rfl (by decide +kernel) ⟨Nat.le_of_ble_eq_true rfl, Nat.le_of_ble_eq_true rfl⟩) ⟨pw_fb, fun U hU hW => ⟨rfl, pw_to hU hW hPc hKc hN⟩⟩ rfl rfl hl.1 rfl (lv_room (Nat.le_of_ble_eq_true rfl)) dX12_shortOf_11 ⟨Nat.le_of_ble_eq_true rfl, Nat.le_of_ble_eq_true rfl⟩).run (fun r hw => ?_)
    rcases Bool.eq_false_or_eq_true (bw p1 0 7) with b_3 | b_3
    ·
      obtain rfl : r = 1 := b_t hw b_3
      refine lv_if_ne (tgt := 19) hx hb dX12_shortOf_14 (by decide) (fun c_4 => ?_) (fun c_4 => absurd c_4 (by decide))
      refine lv_iconst (v := 0) hx hb dX12_shortOf_19 (by decide) ?_
      refine lv_istore_n (lv' := [(3, .int 0), (0, .ref h0), (1, .int p0), (2, .int p1)]) hx hb dX12_shortOf_20 rfl hl (by decide) rfl (fun ls hl => ?_)
      refine lv_iconst (v := 0) hx hb dX12_shortOf_21 (by decide) ?_
      refine lv_istore (lv' := [(4, .int 0), (3, .int 0), (0, .ref h0), (1, .int p0), (2, .int p1)]) hx hb dX12_shortOf_22 hl (by decide) rfl (fun ls hl => ?_)
      refine lv_iload hx hb dX12_shortOf_24 (lv_at hl 0 rfl) ?_
      refine lv_aload_n hx hb dX12_shortOf_26 rfl (lv_at hl 2 rfl) ?_
      refine va_get (D := (dC, dI)) (ci := 11) (v := .ref (v 0)) (C := RX12) (T := TX12) (N := 52) hx hb hts (by decide +kernel) hown hK hP 0 rfl rfl 0 (by decide) (hts (.fieldLink RX12 7 "PageOneModel" "lines" "[I") (by decide +kernel)) (fun _ h9 => h9) rfl dX12_shortOf_27 ?_
      refine lv_bipush (v := 8) hx hb dX12_shortOf_30 (by decide) ?_
      refine lv_iload_n hx hb dX12_shortOf_32 rfl (lv_at hl 3 rfl) ?_
      refine lv_imul hx hb dX12_shortOf_33 ?_
      refine lv_iload_n hx hb dX12_shortOf_34 rfl (lv_at hl 4 rfl) ?_
      refine lv_iadd hx hb dX12_shortOf_35 ?_
      refine va_iald hx hb hK hP 1 0 rfl rfl (vin8 b_1 b_3) dX12_shortOf_36 ?_
      refine lv_topi (fun k_5 ek_5 => ?_)
      obtain rfl : k_5 = 0 := ek_5
      refine lv_icmp_ge (tgt := 71) hx hb dX12_shortOf_37 (by decide) (fun c_6 => ?_) (fun c_6 => absurd (by decide) c_6)
      refine lv_iload_n hx hb dX12_shortOf_71 rfl (lv_at hl 1 rfl) ?_
      exact W.iret (v := 0) hx hb hr (fun t ht hW => ⟨_, rfl, (by simp [bi, b_1, b_3]), ht⟩) (fun q h => absurd h List.not_mem_nil) dX12_shortOf_72
    ·
      obtain rfl : r = 0 := b_f hw b_3
      refine lv_if_ne (tgt := 19) hx hb dX12_shortOf_14 (by decide) (fun c_7 => absurd (by decide) c_7) (fun c_7 => ?_)
      refine lv_iconst (v := (-1)) hx hb dX12_shortOf_17 (by decide) ?_
      exact W.iret (v := (-1)) hx hb hr (fun t ht hW => ⟨_, rfl, (by simp [bi, b_1, b_3]), ht⟩) (fun q h => absurd h List.not_mem_nil) dX12_shortOf_18
  ·
    obtain rfl : r = 0 := b_f hw b_1
    refine lv_if_eq (tgt := 17) hx hb dX12_shortOf_4 (by decide) (fun c_8 => ?_) (fun c_8 => absurd (by decide) c_8)
    refine lv_iconst (v := (-1)) hx hb dX12_shortOf_17 (by decide) ?_
    exact W.iret (v := (-1)) hx hb hr (fun t ht hW => ⟨_, rfl, (by simp [bi, b_1]), ht⟩) (fun q h => absurd h List.not_mem_nil) dX12_shortOf_18
set_option maxHeartbeats 4000000 in
set_option maxRecDepth 100000 in
theorem m_broken (l : Launch) (dC : Nat → ClassId) (dI : Nat → Nat → Nat) (h0 : Nat) (v : Nat → Nat) (cI : ClassId) (p0 p1 : Int32) (sz : Nat) : Met l yX12_broken wsX12_broken ({ frames := 2, cells := 0, slots := 0, locals := 42 }) (va_Pc [.ref h0, .int p0, .int p1] (fun U => U.heap.size = sz ∧ PW dC dI [(h0, .inr (11, mO v 0 0 0 0 0 0 0 0)), ((v 0), .inl (cI, 96, .inl (fun _ => 0)))] [(cI, .int)] U ∧ va_D (fun _ => True) [(h0, .inr (11, mO v 0 0 0 0 0 0 0 0)), ((v 0), .inl (cI, 96, .inl (fun _ => 0)))])) (va_Qi (fun (r : Int32) (_ : Unit) => r = (if bw p0 0 11 && bw p1 0 2 then (if p1 = 0 then 0 else (-1)) else (-1))) (fun _ _ => True) (va_A [(h0, .inr (11, mO v 0 0 0 0 0 0 0 0)), ((v 0), .inl (cI, 96, .inl (fun _ => 0)))] sz)) 0 0 (va_A [(h0, .inr (11, mO v 0 0 0 0 0 0 0 0)), ((v 0), .inl (cI, 96, .inl (fun _ => 0)))] sz) := by
  refine Met.ofW (cc := cX12_broken) (maxL := 3) (ret := (some .int)) (by decide) rfl ?_
  intro p e s m args below meth c s₁ B hml hv
  obtain ⟨rfl, hsz, ⟨hP, hK, hN⟩, hD0⟩ := hv
  have hx := B.exec
  have hb := B.bytes
  have hr := B.returns
  have hts := atoms_spec (ws := wsX12_broken) B.pre
  have hown : s.vm.findClass RX12 = some m.cls := findClass_of_methodNamed B.named
  have hlocks := B.notSynchronized
  subst hsz
  have hD := hD0.self (sz := s.heap.size)
  generalize hAe : va_A [(h0, .inr (11, mO v 0 0 0 0 0 0 0 0)), ((v 0), .inl (cI, 96, .inl (fun _ => 0)))] s.heap.size = A at hD ⊢
  have hA : ∀ q : Nat, s.heap.size ≤ q → A q := fun q h => by rw [← hAe]; exact Or.inr h
  have hS : va_S A s.heap s.heap [] := va_S.rf
  have hP : va_P (dC, dI) vwCl [(h0, .inr (11, mO v 0 0 0 0 0 0 0 0)), ((v 0), .inl (cI, 96, .inl (fun _ => 0)))] s.heap := hP
  have hl := lv_entry ([.ref h0, .int p0, .int p1]) (n := 3) (Nat.le_of_ble_eq_true rfl)
  rw [lg_entry_eq]
  generalize (lg_sl ([.ref h0, .int p0, .int p1]) ++ List.replicate (3 - (lg_sl ([.ref h0, .int p0, .int p1])).length) Slot.unset).toArray = ls at hl ⊢
  have hl : lv_has ls 3 [(0, .ref h0), (1, .int p0), (2, .int p1)] := hl
  refine lv_iload_n hx hb dX12_broken_0 rfl (lv_at hl 1 rfl) ?_
  have hPc := hP.sub (ws' := []) [] rfl
  have hKc := hK.sub (tys' := []) [] rfl
  refine vp_callSi (va_runS (As := [.int p0]) (rest := []) ⟨hx, hb, hml, hown, hts⟩ (m_isPage l dC dI p0) (va_cwS 1 hts gX12_broken_X12_isPage rfl rfl rfl (by decide +kernel) ⟨Nat.le_of_ble_eq_true rfl, Nat.le_of_ble_eq_true rfl⟩) ⟨pw_fb, fun U hU hW => ⟨rfl, pw_to hU hW hPc hKc hN⟩⟩ rfl rfl hl.1 rfl (lv_room (Nat.le_of_ble_eq_true rfl)) dX12_broken_1 ⟨Nat.le_of_ble_eq_true rfl, Nat.le_of_ble_eq_true rfl⟩).run (fun r hw => ?_)
  rcases Bool.eq_false_or_eq_true (bw p0 0 11) with b_1 | b_1
  ·
    obtain rfl : r = 1 := b_t hw b_1
    refine lv_if_eq (tgt := 16) hx hb dX12_broken_4 (by decide) (fun c_2 => absurd c_2 (by decide)) (fun c_2 => ?_)
    refine lv_iload_n hx hb dX12_broken_7 rfl (lv_at hl 2 rfl) ?_
    refine lv_iconst (v := 0) hx hb dX12_broken_8 (by decide) ?_
    refine lv_iconst (v := 2) hx hb dX12_broken_9 (by decide) ?_
    have hPc := hP.sub (ws' := []) [] rfl
    have hKc := hK.sub (tys' := []) [] rfl
    refine vp_callSi (va_runS (As := [.int p1, .int 0, .int 2]) (rest := []) ⟨hx, hb, hml, hown, hts⟩ (m_in l dC dI p1 0 2) (va_cwS 3 hts gX12_broken_X12_in rfl rfl rfl (by decide +kernel) ⟨Nat.le_of_ble_eq_true rfl, Nat.le_of_ble_eq_true rfl⟩) ⟨pw_fb, fun U hU hW => ⟨rfl, pw_to hU hW hPc hKc hN⟩⟩ rfl rfl hl.1 rfl (lv_room (Nat.le_of_ble_eq_true rfl)) dX12_broken_10 ⟨Nat.le_of_ble_eq_true rfl, Nat.le_of_ble_eq_true rfl⟩).run (fun r hw => ?_)
    rcases Bool.eq_false_or_eq_true (bw p1 0 2) with b_3 | b_3
    ·
      obtain rfl : r = 1 := b_t hw b_3
      refine lv_if_ne (tgt := 18) hx hb dX12_broken_13 (by decide) (fun c_4 => ?_) (fun c_4 => absurd c_4 (by decide))
      refine lv_aload_n hx hb dX12_broken_18 rfl (lv_at hl 0 rfl) ?_
      refine lv_iload_n hx hb dX12_broken_19 rfl (lv_at hl 1 rfl) ?_
      have hPc := hP.sub (ws' := [(h0, .inr (11, mO v 0 0 0 0 0 0 0 0)), ((v 0), .inl (cI, 96, .inl (fun _ => 0)))]) [0, 1] rfl
      have hKc := hK.sub (tys' := [(cI, .int)]) [0] rfl
      have hDc := hD.sub (ws' := [(h0, .inr (11, mO v 0 0 0 0 0 0 0 0)), ((v 0), .inl (cI, 96, .inl (fun _ => 0)))]) [0, 1] (by decide) rfl
      have hFc := va_free (wc := [(h0, .inr (11, mO v 0 0 0 0 0 0 0 0)), ((v 0), .inl (cI, 96, .inl (fun _ => 0)))]) hD hS hA [0, 1] rfl
      refine va_callv (va_runV (As := [.int p0]) (rest := []) ⟨hx, hb, hml, hown, hts⟩ (m_breaks0 l dC dI h0 v cI p0 b_1 s.heap.size) (cwV 1 hts gX12_broken_X12_breaks rfl rfl rfl (by decide +kernel) ⟨Nat.le_of_ble_eq_true rfl, Nat.le_of_ble_eq_true rfl⟩) ⟨gw_fb, va_recv hKc hPc (ci := 11) (q0 := 0) rfl rfl, fun U hU hW => ⟨rfl, by rw [hU], pw_to hU hW hPc hKc hN, hDc.weaken (fun _ _ _ _ => trivial)⟩⟩ rfl rfl hl.1 rfl (lv_room (Nat.le_of_ble_eq_true rfl)) dX12_broken_20 ⟨Nat.le_of_ble_eq_true rfl, Nat.le_of_ble_eq_true rfl⟩) hS (fun q _ h => hFc q h) hFc (fun u t H1 locs ht hvm hw hB hz1 hk1 hS => ?_)
      obtain ⟨hP1, hD1⟩ := hB
      rw [ht] at hP1
      obtain ⟨hP, hD⟩ := va_join (wr := []) (w1 := [(h0, .inr (11, mO v 0 0 0 0 0 0 (-1) (-1)))]) hP hD [0, 1] [] rfl rfl (by decide) (by decide) hk1 hFc hP1 hD1
      generalize H1 = H at hP hS ⊢
      have hP : va_P (dC, dI) vwCl [(h0, .inr (11, mO v 0 0 0 0 0 0 (-1) (-1)))] H := hP
      have hD : va_D A [(h0, .inr (11, mO v 0 0 0 0 0 0 (-1) (-1)))] := hD
      refine W.widen (k := 0) (n := 0) (Nat.le_of_ble_eq_true rfl) (Nat.le_of_ble_eq_true rfl) ?_
      refine lv_iload_n hx hb dX12_broken_23 rfl (lv_at hl 2 rfl) ?_
      refine lv_if_ne (tgt := 34) hx hb dX12_broken_24 (by decide) (fun c_5 => ?_) (fun c_5 => ?_)
      ·
        refine lv_iload_n hx hb dX12_broken_34 rfl (lv_at hl 2 rfl) ?_
        refine lv_iconst (v := 1) hx hb dX12_broken_35 (by decide) ?_
        refine lv_icmp_ne (tgt := 46) hx hb dX12_broken_36 (by decide) (fun c_6 => ?_) (fun c_6 => ?_)
        ·
          refine lv_aload_n hx hb dX12_broken_46 rfl (lv_at hl 0 rfl) ?_
          refine va_get (D := (dC, dI)) (ci := 11) (v := .int (-1)) (C := RX12) (T := TX12) (N := 52) hx hb hts (by decide +kernel) hown hK hP 0 rfl rfl 51 (by decide) (hts (.fieldLink RX12 234 "PageOneModel" "wrongTwo" "I") (by decide +kernel)) (fun _ h9 => h9) rfl dX12_broken_47 ?_
          exact W.iret (v := (-1)) hx hb hr (fun t ht hW => ⟨⟨(-1), (), rfl, (by first | (simp [bi, b_1, b_3, c_5, c_6]; done) | (simp only [b_1, b_3]; simp [bi, c_5, c_6])), trivial⟩, hS.F ht⟩) hS.2.2 dX12_broken_50
        ·
          refine lv_aload_n hx hb dX12_broken_39 rfl (lv_at hl 0 rfl) ?_
          refine va_get (D := (dC, dI)) (ci := 11) (v := .int (-1)) (C := RX12) (T := TX12) (N := 52) hx hb hts (by decide +kernel) hown hK hP 0 rfl rfl 50 (by decide) (hts (.fieldLink RX12 231 "PageOneModel" "wrongOne" "I") (by decide +kernel)) (fun _ h9 => h9) rfl dX12_broken_40 ?_
          refine lv_goto (tgt := 50) hx hb dX12_broken_43 (by decide) ?_
          exact W.iret (v := (-1)) hx hb hr (fun t ht hW => ⟨⟨(-1), (), rfl, (by first | (simp [bi, b_1, b_3, c_5, c_6]; done) | (simp only [b_1, b_3]; simp [bi, c_5, c_6])), trivial⟩, hS.F ht⟩) hS.2.2 dX12_broken_50
      ·
        refine lv_aload_n hx hb dX12_broken_27 rfl (lv_at hl 0 rfl) ?_
        refine va_get (D := (dC, dI)) (ci := 11) (v := .int 0) (C := RX12) (T := TX12) (N := 52) hx hb hts (by decide +kernel) hown hK hP 0 rfl rfl 49 (by decide) (hts (.fieldLink RX12 228 "PageOneModel" "wrong" "I") (by decide +kernel)) (fun _ h9 => h9) rfl dX12_broken_28 ?_
        refine lv_goto (tgt := 50) hx hb dX12_broken_31 (by decide) ?_
        exact W.iret (v := 0) hx hb hr (fun t ht hW => ⟨⟨0, (), rfl, (by first | (simp [bi, b_1, b_3, c_5]; done) | (simp only [b_1, b_3]; simp [bi, c_5])), trivial⟩, hS.F ht⟩) hS.2.2 dX12_broken_50
    ·
      obtain rfl : r = 0 := b_f hw b_3
      refine lv_if_ne (tgt := 18) hx hb dX12_broken_13 (by decide) (fun c_7 => absurd (by decide) c_7) (fun c_7 => ?_)
      refine lv_iconst (v := (-1)) hx hb dX12_broken_16 (by decide) ?_
      exact W.iret (v := (-1)) hx hb hr (fun t ht hW => ⟨⟨(-1), (), rfl, (by simp [bi, b_1, b_3]), trivial⟩, hS.F ht⟩) hS.2.2 dX12_broken_17
  ·
    obtain rfl : r = 0 := b_f hw b_1
    refine lv_if_eq (tgt := 16) hx hb dX12_broken_4 (by decide) (fun c_8 => ?_) (fun c_8 => absurd (by decide) c_8)
    refine lv_iconst (v := (-1)) hx hb dX12_broken_16 (by decide) ?_
    exact W.iret (v := (-1)) hx hb hr (fun t ht hW => ⟨⟨(-1), (), rfl, (by simp [bi, b_1]), trivial⟩, hS.F ht⟩) hS.2.2 dX12_broken_17
set_option maxHeartbeats 4000000 in
set_option maxRecDepth 100000 in
theorem m_printed (l : Launch) (dC : Nat → ClassId) (dI : Nat → Nat → Nat) (h0 : Nat) (v : Nat → Nat) (p0 p1 : Int32) : Met l yX12_printed wsX12_printed ({ frames := 2, cells := 0, slots := 0, locals := 43 }) (va_Pc [.ref h0, .int p0, .int p1] (PW dC dI [(h0, .inr (11, mO v 0 0 0 0 0 0 0 0))] [])) (vp_Si (fun r => r = (-1))) 0 0 (fun _ => False) := by
  refine Met.ofW (cc := cX12_printed) (maxL := 4) (ret := (some .int)) (by decide) rfl ?_
  intro p e s m args below meth c s₁ B hml hv
  obtain ⟨rfl, hP, hK, hN⟩ := hv
  have hx := B.exec
  have hb := B.bytes
  have hr := B.returns
  have hts := atoms_spec (ws := wsX12_printed) B.pre
  have hown : s.vm.findClass RX12 = some m.cls := findClass_of_methodNamed B.named
  have hlocks := B.notSynchronized
  have hl := lv_entry ([.ref h0, .int p0, .int p1]) (n := 4) (Nat.le_of_ble_eq_true rfl)
  rw [lg_entry_eq]
  generalize (lg_sl ([.ref h0, .int p0, .int p1]) ++ List.replicate (4 - (lg_sl ([.ref h0, .int p0, .int p1])).length) Slot.unset).toArray = ls at hl ⊢
  have hl : lv_has ls 4 [(0, .ref h0), (1, .int p0), (2, .int p1)] := hl
  refine lv_aload_n hx hb dX12_printed_0 rfl (lv_at hl 0 rfl) ?_
  refine lv_iload_n hx hb dX12_printed_1 rfl (lv_at hl 1 rfl) ?_
  have hPc := hP.sub (ws' := [(h0, .inr (11, mO v 0 0 0 0 0 0 0 0))]) [0] rfl
  have hKc := hK.sub (tys' := []) [] rfl
  refine vp_callSi (va_runV (As := [.int p0]) (rest := []) ⟨hx, hb, hml, hown, hts⟩ (m_isItem0 l dC dI h0 v p0) (cwV 1 hts gX12_printed_X12_isItem rfl rfl rfl (by decide +kernel) ⟨Nat.le_of_ble_eq_true rfl, Nat.le_of_ble_eq_true rfl⟩) ⟨pw_fb, va_recv hKc hPc (ci := 11) (q0 := 0) rfl rfl, fun U hU hW => ⟨rfl, pw_to hU hW hPc hKc hN⟩⟩ rfl rfl hl.1 rfl (lv_room (Nat.le_of_ble_eq_true rfl)) dX12_printed_2 ⟨Nat.le_of_ble_eq_true rfl, Nat.le_of_ble_eq_true rfl⟩).run (fun r hw => ?_)
  obtain rfl : r = 0 := hw
  refine lv_if_eq (tgt := 17) hx hb dX12_printed_5 (by decide) (fun c_1 => ?_) (fun c_1 => absurd (by decide) c_1)
  refine lv_iconst (v := (-1)) hx hb dX12_printed_17 (by decide) ?_
  exact W.iret (v := (-1)) hx hb hr (fun t ht hW => ⟨_, rfl, (by simp [bi]), ht⟩) (fun q h => absurd h List.not_mem_nil) dX12_printed_18
set_option maxHeartbeats 4000000 in
set_option maxRecDepth 100000 in
theorem m_plated (l : Launch) (dC : Nat → ClassId) (dI : Nat → Nat → Nat) (h0 : Nat) (v : Nat → Nat) (cZ : ClassId) (p0 p1 p2 : Int32) : Met l yX12_plated wsX12_plated ({ frames := 2, cells := 0, slots := 0, locals := 42 }) (va_Pc [.ref h0, .int p0, .int p1, .int p2] (PW dC dI [(h0, .inr (11, mO v 0 0 0 0 0 0 0 0)), ((v 40), .inl (cZ, 12, .inl (fun _ => 0)))] [(cZ, .boolean)])) (vp_Si (fun r => r = (-1))) 0 0 (fun _ => False) := by
  refine Met.ofW (cc := cX12_plated) (maxL := 4) (ret := (some .int)) (by decide) rfl ?_
  intro p e s m args below meth c s₁ B hml hv
  obtain ⟨rfl, hP, hK, hN⟩ := hv
  have hx := B.exec
  have hb := B.bytes
  have hr := B.returns
  have hts := atoms_spec (ws := wsX12_plated) B.pre
  have hown : s.vm.findClass RX12 = some m.cls := findClass_of_methodNamed B.named
  have hlocks := B.notSynchronized
  have hl := lv_entry ([.ref h0, .int p0, .int p1, .int p2]) (n := 4) (Nat.le_of_ble_eq_true rfl)
  rw [lg_entry_eq]
  generalize (lg_sl ([.ref h0, .int p0, .int p1, .int p2]) ++ List.replicate (4 - (lg_sl ([.ref h0, .int p0, .int p1, .int p2])).length) Slot.unset).toArray = ls at hl ⊢
  have hl : lv_has ls 4 [(0, .ref h0), (1, .int p0), (2, .int p1), (3, .int p2)] := hl
  refine lv_iload_n hx hb dX12_plated_0 rfl (lv_at hl 1 rfl) ?_
  have hPc := hP.sub (ws' := []) [] rfl
  have hKc := hK.sub (tys' := []) [] rfl
  refine vp_callSi (va_runS (As := [.int p0]) (rest := []) ⟨hx, hb, hml, hown, hts⟩ (m_isPage l dC dI p0) (va_cwS 1 hts gX12_plated_X12_isPage rfl rfl rfl (by decide +kernel) ⟨Nat.le_of_ble_eq_true rfl, Nat.le_of_ble_eq_true rfl⟩) ⟨pw_fb, fun U hU hW => ⟨rfl, pw_to hU hW hPc hKc hN⟩⟩ rfl rfl hl.1 rfl (lv_room (Nat.le_of_ble_eq_true rfl)) dX12_plated_1 ⟨Nat.le_of_ble_eq_true rfl, Nat.le_of_ble_eq_true rfl⟩).run (fun r hw => ?_)
  rcases Bool.eq_false_or_eq_true (bw p0 0 11) with b_1 | b_1
  ·
    obtain rfl : r = 1 := b_t hw b_1
    refine lv_if_eq (tgt := 61) hx hb dX12_plated_4 (by decide) (fun c_2 => absurd c_2 (by decide)) (fun c_2 => ?_)
    refine lv_aload_n hx hb dX12_plated_7 rfl (lv_at hl 0 rfl) ?_
    refine va_get (D := (dC, dI)) (ci := 11) (v := .ref (v 40)) (C := RX12) (T := TX12) (N := 52) hx hb hts (by decide +kernel) hown hK hP 0 rfl rfl 40 (by decide) (hts (.fieldLink RX12 116 "PageOneModel" "isPlated" "[Z") (by decide +kernel)) (fun _ h9 => h9) rfl dX12_plated_8 ?_
    refine lv_iload_n hx hb dX12_plated_11 rfl (lv_at hl 1 rfl) ?_
    refine va_zald hx hb hK hP 1 0 rfl rfl (vin b_1 (by decide)) dX12_plated_12 ?_
    refine lv_topi (fun k_3 ek_3 => ?_)
    obtain rfl : k_3 = 0 := ek_3
    refine lv_if_eq (tgt := 61) hx hb dX12_plated_13 (by decide) (fun c_4 => ?_) (fun c_4 => absurd (by decide) c_4)
    refine lv_iconst (v := (-1)) hx hb dX12_plated_61 (by decide) ?_
    exact W.iret (v := (-1)) hx hb hr (fun t ht hW => ⟨_, rfl, (by simp [bi, b_1]), ht⟩) (fun q h => absurd h List.not_mem_nil) dX12_plated_62
  ·
    obtain rfl : r = 0 := b_f hw b_1
    refine lv_if_eq (tgt := 61) hx hb dX12_plated_4 (by decide) (fun c_5 => ?_) (fun c_5 => absurd (by decide) c_5)
    refine lv_iconst (v := (-1)) hx hb dX12_plated_61 (by decide) ?_
    exact W.iret (v := (-1)) hx hb hr (fun t ht hW => ⟨_, rfl, (by simp [bi, b_1]), ht⟩) (fun q h => absurd h List.not_mem_nil) dX12_plated_62
set_option maxHeartbeats 4000000 in
set_option maxRecDepth 100000 in
theorem m_plateOf (l : Launch) (dC : Nat → ClassId) (dI : Nat → Nat → Nat) (h0 : Nat) (v : Nat → Nat) (cZ : ClassId) (p0 p1 : Int32) : Met l yX12_plateOf wsX12_plateOf ({ frames := 2, cells := 0, slots := 0, locals := 42 }) (va_Pc [.ref h0, .int p0, .int p1] (PW dC dI [(h0, .inr (11, mO v 0 0 0 0 0 0 0 0)), ((v 40), .inl (cZ, 12, .inl (fun _ => 0)))] [(cZ, .boolean)])) (vp_Si (fun r => r = (-1))) 0 0 (fun _ => False) := by
  refine Met.ofW (cc := cX12_plateOf) (maxL := 3) (ret := (some .int)) (by decide) rfl ?_
  intro p e s m args below meth c s₁ B hml hv
  obtain ⟨rfl, hP, hK, hN⟩ := hv
  have hx := B.exec
  have hb := B.bytes
  have hr := B.returns
  have hts := atoms_spec (ws := wsX12_plateOf) B.pre
  have hown : s.vm.findClass RX12 = some m.cls := findClass_of_methodNamed B.named
  have hlocks := B.notSynchronized
  have hl := lv_entry ([.ref h0, .int p0, .int p1]) (n := 3) (Nat.le_of_ble_eq_true rfl)
  rw [lg_entry_eq]
  generalize (lg_sl ([.ref h0, .int p0, .int p1]) ++ List.replicate (3 - (lg_sl ([.ref h0, .int p0, .int p1])).length) Slot.unset).toArray = ls at hl ⊢
  have hl : lv_has ls 3 [(0, .ref h0), (1, .int p0), (2, .int p1)] := hl
  refine lv_iload_n hx hb dX12_plateOf_0 rfl (lv_at hl 1 rfl) ?_
  have hPc := hP.sub (ws' := []) [] rfl
  have hKc := hK.sub (tys' := []) [] rfl
  refine vp_callSi (va_runS (As := [.int p0]) (rest := []) ⟨hx, hb, hml, hown, hts⟩ (m_isPage l dC dI p0) (va_cwS 1 hts gX12_plateOf_X12_isPage rfl rfl rfl (by decide +kernel) ⟨Nat.le_of_ble_eq_true rfl, Nat.le_of_ble_eq_true rfl⟩) ⟨pw_fb, fun U hU hW => ⟨rfl, pw_to hU hW hPc hKc hN⟩⟩ rfl rfl hl.1 rfl (lv_room (Nat.le_of_ble_eq_true rfl)) dX12_plateOf_1 ⟨Nat.le_of_ble_eq_true rfl, Nat.le_of_ble_eq_true rfl⟩).run (fun r hw => ?_)
  rcases Bool.eq_false_or_eq_true (bw p0 0 11) with b_1 | b_1
  ·
    obtain rfl : r = 1 := b_t hw b_1
    refine lv_if_eq (tgt := 16) hx hb dX12_plateOf_4 (by decide) (fun c_2 => absurd c_2 (by decide)) (fun c_2 => ?_)
    refine lv_aload_n hx hb dX12_plateOf_7 rfl (lv_at hl 0 rfl) ?_
    refine va_get (D := (dC, dI)) (ci := 11) (v := .ref (v 40)) (C := RX12) (T := TX12) (N := 52) hx hb hts (by decide +kernel) hown hK hP 0 rfl rfl 40 (by decide) (hts (.fieldLink RX12 116 "PageOneModel" "isPlated" "[Z") (by decide +kernel)) (fun _ h9 => h9) rfl dX12_plateOf_8 ?_
    refine lv_iload_n hx hb dX12_plateOf_11 rfl (lv_at hl 1 rfl) ?_
    refine va_zald hx hb hK hP 1 0 rfl rfl (vin b_1 (by decide)) dX12_plateOf_12 ?_
    refine lv_topi (fun k_3 ek_3 => ?_)
    obtain rfl : k_3 = 0 := ek_3
    refine lv_if_ne (tgt := 18) hx hb dX12_plateOf_13 (by decide) (fun c_4 => absurd (by decide) c_4) (fun c_4 => ?_)
    refine lv_iconst (v := (-1)) hx hb dX12_plateOf_16 (by decide) ?_
    exact W.iret (v := (-1)) hx hb hr (fun t ht hW => ⟨_, rfl, (by simp [bi, b_1]), ht⟩) (fun q h => absurd h List.not_mem_nil) dX12_plateOf_17
  ·
    obtain rfl : r = 0 := b_f hw b_1
    refine lv_if_eq (tgt := 16) hx hb dX12_plateOf_4 (by decide) (fun c_5 => ?_) (fun c_5 => absurd (by decide) c_5)
    refine lv_iconst (v := (-1)) hx hb dX12_plateOf_16 (by decide) ?_
    exact W.iret (v := (-1)) hx hb hr (fun t ht hW => ⟨_, rfl, (by simp [bi, b_1]), ht⟩) (fun q h => absurd h List.not_mem_nil) dX12_plateOf_17
set_option maxHeartbeats 4000000 in
set_option maxRecDepth 100000 in
theorem m_bill (l : Launch) (dC : Nat → ClassId) (dI : Nat → Nat → Nat) (h0 : Nat) (v : Nat → Nat) (p0 p1 : Int32) : Met l yX12_bill wsX12_bill ({ frames := 2, cells := 0, slots := 0, locals := 42 }) (va_Pc [.ref h0, .int p0, .int p1] (PW dC dI [(h0, .inr (11, mO v 0 0 0 0 0 0 0 0))] [])) (vp_Si (fun r => r = (if bw p0 0 9 && bw p1 0 0 then 0 else (-1)))) 0 0 (fun _ => False) := by
  refine Met.ofW (cc := cX12_bill) (maxL := 7) (ret := (some .int)) (by decide) rfl ?_
  intro p e s m args below meth c s₁ B hml hv
  obtain ⟨rfl, hP, hK, hN⟩ := hv
  have hx := B.exec
  have hb := B.bytes
  have hr := B.returns
  have hts := atoms_spec (ws := wsX12_bill) B.pre
  have hown : s.vm.findClass RX12 = some m.cls := findClass_of_methodNamed B.named
  have hlocks := B.notSynchronized
  have hl := lv_entry ([.ref h0, .int p0, .int p1]) (n := 7) (Nat.le_of_ble_eq_true rfl)
  rw [lg_entry_eq]
  generalize (lg_sl ([.ref h0, .int p0, .int p1]) ++ List.replicate (7 - (lg_sl ([.ref h0, .int p0, .int p1])).length) Slot.unset).toArray = ls at hl ⊢
  have hl : lv_has ls 7 [(0, .ref h0), (1, .int p0), (2, .int p1)] := hl
  refine lv_iload_n hx hb dX12_bill_0 rfl (lv_at hl 1 rfl) ?_
  have hPc := hP.sub (ws' := []) [] rfl
  have hKc := hK.sub (tys' := []) [] rfl
  refine vp_callSi (va_runS (As := [.int p0]) (rest := []) ⟨hx, hb, hml, hown, hts⟩ (m_isBuyer l dC dI p0) (va_cwS 1 hts gX12_bill_X12_isBuyer rfl rfl rfl (by decide +kernel) ⟨Nat.le_of_ble_eq_true rfl, Nat.le_of_ble_eq_true rfl⟩) ⟨pw_fb, fun U hU hW => ⟨rfl, pw_to hU hW hPc hKc hN⟩⟩ rfl rfl hl.1 rfl (lv_room (Nat.le_of_ble_eq_true rfl)) dX12_bill_1 ⟨Nat.le_of_ble_eq_true rfl, Nat.le_of_ble_eq_true rfl⟩).run (fun r hw => ?_)
  rcases Bool.eq_false_or_eq_true (bw p0 0 9) with b_1 | b_1
  ·
    obtain rfl : r = 1 := b_t hw b_1
    refine lv_if_eq (tgt := 19) hx hb dX12_bill_4 (by decide) (fun c_2 => absurd c_2 (by decide)) (fun c_2 => ?_)
    refine lv_iload_n hx hb dX12_bill_7 rfl (lv_at hl 2 rfl) ?_
    refine lv_iconst (v := 0) hx hb dX12_bill_8 (by decide) ?_
    refine lv_aload_n hx hb dX12_bill_9 rfl (lv_at hl 0 rfl) ?_
    refine va_get (D := (dC, dI)) (ci := 11) (v := .int 0) (C := RX12) (T := TX12) (N := 52) hx hb hts (by decide +kernel) hown hK hP 0 rfl rfl 38 (by decide) (hts (.fieldLink RX12 206 "PageOneModel" "day" "I") (by decide +kernel)) (fun _ h9 => h9) rfl dX12_bill_10 ?_
    have hPc := hP.sub (ws' := []) [] rfl
    have hKc := hK.sub (tys' := []) [] rfl
    refine vp_callSi (va_runS (As := [.int p1, .int 0, .int 0]) (rest := []) ⟨hx, hb, hml, hown, hts⟩ (m_in l dC dI p1 0 0) (va_cwS 3 hts gX12_bill_X12_in rfl rfl rfl (by decide +kernel) ⟨Nat.le_of_ble_eq_true rfl, Nat.le_of_ble_eq_true rfl⟩) ⟨pw_fb, fun U hU hW => ⟨rfl, pw_to hU hW hPc hKc hN⟩⟩ rfl rfl hl.1 rfl (lv_room (Nat.le_of_ble_eq_true rfl)) dX12_bill_13 ⟨Nat.le_of_ble_eq_true rfl, Nat.le_of_ble_eq_true rfl⟩).run (fun r hw => ?_)
    rcases Bool.eq_false_or_eq_true (bw p1 0 0) with b_3 | b_3
    ·
      obtain rfl : r = 1 := b_t hw b_3
      refine lv_if_ne (tgt := 21) hx hb dX12_bill_16 (by decide) (fun c_4 => ?_) (fun c_4 => absurd c_4 (by decide))
      refine lv_iconst (v := 0) hx hb dX12_bill_21 (by decide) ?_
      refine lv_istore_n (lv' := [(3, .int 0), (0, .ref h0), (1, .int p0), (2, .int p1)]) hx hb dX12_bill_22 rfl hl (by decide) rfl (fun ls hl => ?_)
      refine lv_iconst (v := 0) hx hb dX12_bill_23 (by decide) ?_
      refine lv_istore (lv' := [(4, .int 0), (3, .int 0), (0, .ref h0), (1, .int p0), (2, .int p1)]) hx hb dX12_bill_24 hl (by decide) rfl (fun ls hl => ?_)
      refine lv_iload hx hb dX12_bill_26 (lv_at hl 0 rfl) ?_
      refine lv_aload_n hx hb dX12_bill_28 rfl (lv_at hl 2 rfl) ?_
      refine va_get (D := (dC, dI)) (ci := 11) (v := .int 0) (C := RX12) (T := TX12) (N := 52) hx hb hts (by decide +kernel) hown hK hP 0 rfl rfl 3 (by decide) (hts (.fieldLink RX12 147 "PageOneModel" "items" "I") (by decide +kernel)) (fun _ h9 => h9) rfl dX12_bill_29 ?_
      refine lv_icmp_ge (tgt := 173) hx hb dX12_bill_32 (by decide) (fun c_5 => ?_) (fun c_5 => absurd (by decide) c_5)
      refine lv_iload_n hx hb dX12_bill_173 rfl (lv_at hl 1 rfl) ?_
      exact W.iret (v := 0) hx hb hr (fun t ht hW => ⟨_, rfl, (by simp [bi, b_1, b_3]), ht⟩) (fun q h => absurd h List.not_mem_nil) dX12_bill_174
    ·
      obtain rfl : r = 0 := b_f hw b_3
      refine lv_if_ne (tgt := 21) hx hb dX12_bill_16 (by decide) (fun c_6 => absurd (by decide) c_6) (fun c_6 => ?_)
      refine lv_iconst (v := (-1)) hx hb dX12_bill_19 (by decide) ?_
      exact W.iret (v := (-1)) hx hb hr (fun t ht hW => ⟨_, rfl, (by simp [bi, b_1, b_3]), ht⟩) (fun q h => absurd h List.not_mem_nil) dX12_bill_20
  ·
    obtain rfl : r = 0 := b_f hw b_1
    refine lv_if_eq (tgt := 19) hx hb dX12_bill_4 (by decide) (fun c_7 => ?_) (fun c_7 => absurd (by decide) c_7)
    refine lv_iconst (v := (-1)) hx hb dX12_bill_19 (by decide) ?_
    exact W.iret (v := (-1)) hx hb hr (fun t ht hW => ⟨_, rfl, (by simp [bi, b_1]), ht⟩) (fun q h => absurd h List.not_mem_nil) dX12_bill_20
set_option maxHeartbeats 4000000 in
set_option maxRecDepth 100000 in
theorem m_about (l : Launch) (dC : Nat → ClassId) (dI : Nat → Nat → Nat) (h0 : Nat) (v : Nat → Nat) (cZ : ClassId) (p0 : Int32) : Met l yX12_about wsX12_about ({ frames := 1, cells := 0, slots := 0, locals := 21 }) (va_Pc [.ref h0, .int p0] (PW dC dI [(h0, .inr (11, mO v 0 0 0 0 0 0 0 0)), ((v 40), .inl (cZ, 12, .inl (fun _ => 0)))] [(cZ, .boolean)])) (vp_Si (fun r => r = (if bw p0 0 4 = true then 0 else (-1)))) 0 0 (fun _ => False) := by
  refine Met.ofW (cc := cX12_about) (maxL := 4) (ret := (some .int)) (by decide) rfl ?_
  intro p e s m args below meth c s₁ B hml hv
  obtain ⟨rfl, hP, hK, hN⟩ := hv
  have hx := B.exec
  have hb := B.bytes
  have hr := B.returns
  have hts := atoms_spec (ws := wsX12_about) B.pre
  have hown : s.vm.findClass RX12 = some m.cls := findClass_of_methodNamed B.named
  have hlocks := B.notSynchronized
  have hl := lv_entry ([.ref h0, .int p0]) (n := 4) (Nat.le_of_ble_eq_true rfl)
  rw [lg_entry_eq]
  generalize (lg_sl ([.ref h0, .int p0]) ++ List.replicate (4 - (lg_sl ([.ref h0, .int p0])).length) Slot.unset).toArray = ls at hl ⊢
  have hl : lv_has ls 4 [(0, .ref h0), (1, .int p0)] := hl
  refine lv_iload_n hx hb dX12_about_0 rfl (lv_at hl 1 rfl) ?_
  rcases Classical.em (p0 = 0) with s_1 | s_1
  ·
    subst s_1
    refine lv_tableIn (tgt := 36) (off := 35) hx hb dX12_about_1 (by decide) (by decide) (by decide) (by decide) ?_
    refine lv_aload_n hx hb dX12_about_36 rfl (lv_at hl 0 rfl) ?_
    refine va_get (D := (dC, dI)) (ci := 11) (v := .int 0) (C := RX12) (T := TX12) (N := 52) hx hb hts (by decide +kernel) hown hK hP 0 rfl rfl 38 (by decide) (hts (.fieldLink RX12 206 "PageOneModel" "day" "I") (by decide +kernel)) (fun _ h9 => h9) rfl dX12_about_37 ?_
    exact W.iret (v := 0) hx hb hr (fun t ht hW => ⟨_, rfl, (by decide), ht⟩) (fun q h => absurd h List.not_mem_nil) dX12_about_40
  ·
    rcases Classical.em (p0 = 1) with s_2 | s_2
    ·
      subst s_2
      refine lv_tableIn (tgt := 41) (off := 40) hx hb dX12_about_1 (by decide) (by decide) (by decide) (by decide) ?_
      refine lv_aload_n hx hb dX12_about_41 rfl (lv_at hl 0 rfl) ?_
      refine va_get (D := (dC, dI)) (ci := 11) (v := .int 0) (C := RX12) (T := TX12) (N := 52) hx hb hts (by decide +kernel) hown hK hP 0 rfl rfl 39 (by decide) (hts (.fieldLink RX12 257 "PageOneModel" "edition" "I") (by decide +kernel)) (fun _ h9 => h9) rfl dX12_about_42 ?_
      exact W.iret (v := 0) hx hb hr (fun t ht hW => ⟨_, rfl, (by decide), ht⟩) (fun q h => absurd h List.not_mem_nil) dX12_about_45
    ·
      rcases Classical.em (p0 = 2) with s_3 | s_3
      ·
        subst s_3
        refine lv_tableIn (tgt := 46) (off := 45) hx hb dX12_about_1 (by decide) (by decide) (by decide) (by decide) ?_
        refine lv_aload_n hx hb dX12_about_46 rfl (lv_at hl 0 rfl) ?_
        refine va_get (D := (dC, dI)) (ci := 11) (v := .int 0) (C := RX12) (T := TX12) (N := 52) hx hb hts (by decide +kernel) hown hK hP 0 rfl rfl 3 (by decide) (hts (.fieldLink RX12 147 "PageOneModel" "items" "I") (by decide +kernel)) (fun _ h9 => h9) rfl dX12_about_47 ?_
        exact W.iret (v := 0) hx hb hr (fun t ht hW => ⟨_, rfl, (by decide), ht⟩) (fun q h => absurd h List.not_mem_nil) dX12_about_50
      ·
        rcases Classical.em (p0 = 3) with s_4 | s_4
        ·
          subst s_4
          refine lv_tableIn (tgt := 51) (off := 50) hx hb dX12_about_1 (by decide) (by decide) (by decide) (by decide) ?_
          refine lv_aload_n hx hb dX12_about_51 rfl (lv_at hl 0 rfl) ?_
          refine va_get (D := (dC, dI)) (ci := 11) (v := .int 0) (C := RX12) (T := TX12) (N := 52) hx hb hts (by decide +kernel) hown hK hP 0 rfl rfl 28 (by decide) (hts (.fieldLink RX12 158 "PageOneModel" "acts" "I") (by decide +kernel)) (fun _ h9 => h9) rfl dX12_about_52 ?_
          exact W.iret (v := 0) hx hb hr (fun t ht hW => ⟨_, rfl, (by decide), ht⟩) (fun q h => absurd h List.not_mem_nil) dX12_about_55
        ·
          rcases Classical.em (p0 = 4) with s_5 | s_5
          ·
            subst s_5
            refine lv_tableIn (tgt := 56) (off := 55) hx hb dX12_about_1 (by decide) (by decide) (by decide) (by decide) ?_
            refine lv_iconst (v := 0) hx hb dX12_about_56 (by decide) ?_
            refine lv_istore_n (lv' := [(2, .int 0), (0, .ref h0), (1, .int 4)]) hx hb dX12_about_57 rfl hl (by decide) rfl (fun ls hl => ?_)
            refine lv_iconst (v := 0) hx hb dX12_about_58 (by decide) ?_
            refine lv_istore_n (lv' := [(3, .int 0), (2, .int 0), (0, .ref h0), (1, .int 4)]) hx hb dX12_about_59 rfl hl (by decide) rfl (fun ls hl => ?_)
            refine lv_iload_n hx hb dX12_about_60 rfl (lv_at hl 0 rfl) ?_
            refine lv_bipush (v := 12) hx hb dX12_about_61 (by decide) ?_
            refine lv_icmp_ge (tgt := 88) hx hb dX12_about_63 (by decide) (fun c_6 => absurd c_6 (by decide)) (fun c_6 => ?_)
            refine lv_iload_n hx hb dX12_about_66 rfl (lv_at hl 1 rfl) ?_
            refine lv_aload_n hx hb dX12_about_67 rfl (lv_at hl 2 rfl) ?_
            refine lv_iload_n hx hb dX12_about_68 rfl (lv_at hl 0 rfl) ?_
            have hPc := hP.sub (ws' := [(h0, .inr (11, mO v 0 0 0 0 0 0 0 0)), ((v 40), .inl (cZ, 12, .inl (fun _ => 0)))]) [0, 1] rfl
            have hKc := hK.sub (tys' := [(cZ, .boolean)]) [0] rfl
            refine vp_callSi (va_runV (As := [.int 0]) (rest := [.int 0]) ⟨hx, hb, hml, hown, hts⟩ (m_isNow0 l dC dI h0 v cZ 0 (by decide)) (cwV 1 hts gX12_about_X12_isNow rfl rfl rfl (by decide +kernel) ⟨Nat.le_of_ble_eq_true rfl, Nat.le_of_ble_eq_true rfl⟩) ⟨pw_fb, va_recv hKc hPc (ci := 11) (q0 := 0) rfl rfl, fun U hU hW => ⟨rfl, pw_to hU hW hPc hKc hN⟩⟩ rfl rfl hl.1 rfl (lv_room (Nat.le_of_ble_eq_true rfl)) dX12_about_69 ⟨Nat.le_of_ble_eq_true rfl, Nat.le_of_ble_eq_true rfl⟩).run (fun r hw => ?_)
            obtain rfl : r = 0 := hw
            refine lv_if_eq (tgt := 79) hx hb dX12_about_72 (by decide) (fun c_7 => ?_) (fun c_7 => absurd (by decide) c_7)
            refine lv_iconst (v := 0) hx hb dX12_about_79 (by decide) ?_
            refine lv_iadd hx hb dX12_about_80 ?_
            refine lv_topi (fun k_8 ek_8 => ?_)
            obtain rfl : k_8 = 0 := ek_8.trans (by decide)
            refine lv_istore_n (lv' := [(2, .int 0), (3, .int 0), (0, .ref h0), (1, .int 4)]) hx hb dX12_about_81 rfl hl (by decide) rfl (fun ls hl => ?_)
            refine lv_iinc (v := 1) (lv' := [(3, .int 1), (2, .int 0), (0, .ref h0), (1, .int 4)]) hx hb dX12_about_82 hl (k := 1) rfl (by decide) (by decide) rfl (fun ls hl => ?_)
            refine lv_goto (tgt := 60) hx hb dX12_about_85 (by decide) ?_
            refine lv_iload_n hx hb dX12_about_60 rfl (lv_at hl 0 rfl) ?_
            refine lv_bipush (v := 12) hx hb dX12_about_61 (by decide) ?_
            refine lv_icmp_ge (tgt := 88) hx hb dX12_about_63 (by decide) (fun c_9 => absurd c_9 (by decide)) (fun c_9 => ?_)
            refine lv_iload_n hx hb dX12_about_66 rfl (lv_at hl 1 rfl) ?_
            refine lv_aload_n hx hb dX12_about_67 rfl (lv_at hl 2 rfl) ?_
            refine lv_iload_n hx hb dX12_about_68 rfl (lv_at hl 0 rfl) ?_
            have hPc := hP.sub (ws' := [(h0, .inr (11, mO v 0 0 0 0 0 0 0 0)), ((v 40), .inl (cZ, 12, .inl (fun _ => 0)))]) [0, 1] rfl
            have hKc := hK.sub (tys' := [(cZ, .boolean)]) [0] rfl
            refine vp_callSi (va_runV (As := [.int 1]) (rest := [.int 0]) ⟨hx, hb, hml, hown, hts⟩ (m_isNow0 l dC dI h0 v cZ 1 (by decide)) (cwV 1 hts gX12_about_X12_isNow rfl rfl rfl (by decide +kernel) ⟨Nat.le_of_ble_eq_true rfl, Nat.le_of_ble_eq_true rfl⟩) ⟨pw_fb, va_recv hKc hPc (ci := 11) (q0 := 0) rfl rfl, fun U hU hW => ⟨rfl, pw_to hU hW hPc hKc hN⟩⟩ rfl rfl hl.1 rfl (lv_room (Nat.le_of_ble_eq_true rfl)) dX12_about_69 ⟨Nat.le_of_ble_eq_true rfl, Nat.le_of_ble_eq_true rfl⟩).run (fun r hw => ?_)
            obtain rfl : r = 0 := hw
            refine lv_if_eq (tgt := 79) hx hb dX12_about_72 (by decide) (fun c_10 => ?_) (fun c_10 => absurd (by decide) c_10)
            refine lv_iconst (v := 0) hx hb dX12_about_79 (by decide) ?_
            refine lv_iadd hx hb dX12_about_80 ?_
            refine lv_topi (fun k_11 ek_11 => ?_)
            obtain rfl : k_11 = 0 := ek_11.trans (by decide)
            refine lv_istore_n (lv' := [(2, .int 0), (3, .int 1), (0, .ref h0), (1, .int 4)]) hx hb dX12_about_81 rfl hl (by decide) rfl (fun ls hl => ?_)
            refine lv_iinc (v := 2) (lv' := [(3, .int 2), (2, .int 0), (0, .ref h0), (1, .int 4)]) hx hb dX12_about_82 hl (k := 1) rfl (by decide) (by decide) rfl (fun ls hl => ?_)
            refine lv_goto (tgt := 60) hx hb dX12_about_85 (by decide) ?_
            refine lv_iload_n hx hb dX12_about_60 rfl (lv_at hl 0 rfl) ?_
            refine lv_bipush (v := 12) hx hb dX12_about_61 (by decide) ?_
            refine lv_icmp_ge (tgt := 88) hx hb dX12_about_63 (by decide) (fun c_12 => absurd c_12 (by decide)) (fun c_12 => ?_)
            refine lv_iload_n hx hb dX12_about_66 rfl (lv_at hl 1 rfl) ?_
            refine lv_aload_n hx hb dX12_about_67 rfl (lv_at hl 2 rfl) ?_
            refine lv_iload_n hx hb dX12_about_68 rfl (lv_at hl 0 rfl) ?_
            have hPc := hP.sub (ws' := [(h0, .inr (11, mO v 0 0 0 0 0 0 0 0)), ((v 40), .inl (cZ, 12, .inl (fun _ => 0)))]) [0, 1] rfl
            have hKc := hK.sub (tys' := [(cZ, .boolean)]) [0] rfl
            refine vp_callSi (va_runV (As := [.int 2]) (rest := [.int 0]) ⟨hx, hb, hml, hown, hts⟩ (m_isNow0 l dC dI h0 v cZ 2 (by decide)) (cwV 1 hts gX12_about_X12_isNow rfl rfl rfl (by decide +kernel) ⟨Nat.le_of_ble_eq_true rfl, Nat.le_of_ble_eq_true rfl⟩) ⟨pw_fb, va_recv hKc hPc (ci := 11) (q0 := 0) rfl rfl, fun U hU hW => ⟨rfl, pw_to hU hW hPc hKc hN⟩⟩ rfl rfl hl.1 rfl (lv_room (Nat.le_of_ble_eq_true rfl)) dX12_about_69 ⟨Nat.le_of_ble_eq_true rfl, Nat.le_of_ble_eq_true rfl⟩).run (fun r hw => ?_)
            obtain rfl : r = 0 := hw
            refine lv_if_eq (tgt := 79) hx hb dX12_about_72 (by decide) (fun c_13 => ?_) (fun c_13 => absurd (by decide) c_13)
            refine lv_iconst (v := 0) hx hb dX12_about_79 (by decide) ?_
            refine lv_iadd hx hb dX12_about_80 ?_
            refine lv_topi (fun k_14 ek_14 => ?_)
            obtain rfl : k_14 = 0 := ek_14.trans (by decide)
            refine lv_istore_n (lv' := [(2, .int 0), (3, .int 2), (0, .ref h0), (1, .int 4)]) hx hb dX12_about_81 rfl hl (by decide) rfl (fun ls hl => ?_)
            refine lv_iinc (v := 3) (lv' := [(3, .int 3), (2, .int 0), (0, .ref h0), (1, .int 4)]) hx hb dX12_about_82 hl (k := 1) rfl (by decide) (by decide) rfl (fun ls hl => ?_)
            refine lv_goto (tgt := 60) hx hb dX12_about_85 (by decide) ?_
            refine lv_iload_n hx hb dX12_about_60 rfl (lv_at hl 0 rfl) ?_
            refine lv_bipush (v := 12) hx hb dX12_about_61 (by decide) ?_
            refine lv_icmp_ge (tgt := 88) hx hb dX12_about_63 (by decide) (fun c_15 => absurd c_15 (by decide)) (fun c_15 => ?_)
            refine lv_iload_n hx hb dX12_about_66 rfl (lv_at hl 1 rfl) ?_
            refine lv_aload_n hx hb dX12_about_67 rfl (lv_at hl 2 rfl) ?_
            refine lv_iload_n hx hb dX12_about_68 rfl (lv_at hl 0 rfl) ?_
            have hPc := hP.sub (ws' := [(h0, .inr (11, mO v 0 0 0 0 0 0 0 0)), ((v 40), .inl (cZ, 12, .inl (fun _ => 0)))]) [0, 1] rfl
            have hKc := hK.sub (tys' := [(cZ, .boolean)]) [0] rfl
            refine vp_callSi (va_runV (As := [.int 3]) (rest := [.int 0]) ⟨hx, hb, hml, hown, hts⟩ (m_isNow0 l dC dI h0 v cZ 3 (by decide)) (cwV 1 hts gX12_about_X12_isNow rfl rfl rfl (by decide +kernel) ⟨Nat.le_of_ble_eq_true rfl, Nat.le_of_ble_eq_true rfl⟩) ⟨pw_fb, va_recv hKc hPc (ci := 11) (q0 := 0) rfl rfl, fun U hU hW => ⟨rfl, pw_to hU hW hPc hKc hN⟩⟩ rfl rfl hl.1 rfl (lv_room (Nat.le_of_ble_eq_true rfl)) dX12_about_69 ⟨Nat.le_of_ble_eq_true rfl, Nat.le_of_ble_eq_true rfl⟩).run (fun r hw => ?_)
            obtain rfl : r = 0 := hw
            refine lv_if_eq (tgt := 79) hx hb dX12_about_72 (by decide) (fun c_16 => ?_) (fun c_16 => absurd (by decide) c_16)
            refine lv_iconst (v := 0) hx hb dX12_about_79 (by decide) ?_
            refine lv_iadd hx hb dX12_about_80 ?_
            refine lv_topi (fun k_17 ek_17 => ?_)
            obtain rfl : k_17 = 0 := ek_17.trans (by decide)
            refine lv_istore_n (lv' := [(2, .int 0), (3, .int 3), (0, .ref h0), (1, .int 4)]) hx hb dX12_about_81 rfl hl (by decide) rfl (fun ls hl => ?_)
            refine lv_iinc (v := 4) (lv' := [(3, .int 4), (2, .int 0), (0, .ref h0), (1, .int 4)]) hx hb dX12_about_82 hl (k := 1) rfl (by decide) (by decide) rfl (fun ls hl => ?_)
            refine lv_goto (tgt := 60) hx hb dX12_about_85 (by decide) ?_
            refine lv_iload_n hx hb dX12_about_60 rfl (lv_at hl 0 rfl) ?_
            refine lv_bipush (v := 12) hx hb dX12_about_61 (by decide) ?_
            refine lv_icmp_ge (tgt := 88) hx hb dX12_about_63 (by decide) (fun c_18 => absurd c_18 (by decide)) (fun c_18 => ?_)
            refine lv_iload_n hx hb dX12_about_66 rfl (lv_at hl 1 rfl) ?_
            refine lv_aload_n hx hb dX12_about_67 rfl (lv_at hl 2 rfl) ?_
            refine lv_iload_n hx hb dX12_about_68 rfl (lv_at hl 0 rfl) ?_
            have hPc := hP.sub (ws' := [(h0, .inr (11, mO v 0 0 0 0 0 0 0 0)), ((v 40), .inl (cZ, 12, .inl (fun _ => 0)))]) [0, 1] rfl
            have hKc := hK.sub (tys' := [(cZ, .boolean)]) [0] rfl
            refine vp_callSi (va_runV (As := [.int 4]) (rest := [.int 0]) ⟨hx, hb, hml, hown, hts⟩ (m_isNow0 l dC dI h0 v cZ 4 (by decide)) (cwV 1 hts gX12_about_X12_isNow rfl rfl rfl (by decide +kernel) ⟨Nat.le_of_ble_eq_true rfl, Nat.le_of_ble_eq_true rfl⟩) ⟨pw_fb, va_recv hKc hPc (ci := 11) (q0 := 0) rfl rfl, fun U hU hW => ⟨rfl, pw_to hU hW hPc hKc hN⟩⟩ rfl rfl hl.1 rfl (lv_room (Nat.le_of_ble_eq_true rfl)) dX12_about_69 ⟨Nat.le_of_ble_eq_true rfl, Nat.le_of_ble_eq_true rfl⟩).run (fun r hw => ?_)
            obtain rfl : r = 0 := hw
            refine lv_if_eq (tgt := 79) hx hb dX12_about_72 (by decide) (fun c_19 => ?_) (fun c_19 => absurd (by decide) c_19)
            refine lv_iconst (v := 0) hx hb dX12_about_79 (by decide) ?_
            refine lv_iadd hx hb dX12_about_80 ?_
            refine lv_topi (fun k_20 ek_20 => ?_)
            obtain rfl : k_20 = 0 := ek_20.trans (by decide)
            refine lv_istore_n (lv' := [(2, .int 0), (3, .int 4), (0, .ref h0), (1, .int 4)]) hx hb dX12_about_81 rfl hl (by decide) rfl (fun ls hl => ?_)
            refine lv_iinc (v := 5) (lv' := [(3, .int 5), (2, .int 0), (0, .ref h0), (1, .int 4)]) hx hb dX12_about_82 hl (k := 1) rfl (by decide) (by decide) rfl (fun ls hl => ?_)
            refine lv_goto (tgt := 60) hx hb dX12_about_85 (by decide) ?_
            refine lv_iload_n hx hb dX12_about_60 rfl (lv_at hl 0 rfl) ?_
            refine lv_bipush (v := 12) hx hb dX12_about_61 (by decide) ?_
            refine lv_icmp_ge (tgt := 88) hx hb dX12_about_63 (by decide) (fun c_21 => absurd c_21 (by decide)) (fun c_21 => ?_)
            refine lv_iload_n hx hb dX12_about_66 rfl (lv_at hl 1 rfl) ?_
            refine lv_aload_n hx hb dX12_about_67 rfl (lv_at hl 2 rfl) ?_
            refine lv_iload_n hx hb dX12_about_68 rfl (lv_at hl 0 rfl) ?_
            have hPc := hP.sub (ws' := [(h0, .inr (11, mO v 0 0 0 0 0 0 0 0)), ((v 40), .inl (cZ, 12, .inl (fun _ => 0)))]) [0, 1] rfl
            have hKc := hK.sub (tys' := [(cZ, .boolean)]) [0] rfl
            refine vp_callSi (va_runV (As := [.int 5]) (rest := [.int 0]) ⟨hx, hb, hml, hown, hts⟩ (m_isNow0 l dC dI h0 v cZ 5 (by decide)) (cwV 1 hts gX12_about_X12_isNow rfl rfl rfl (by decide +kernel) ⟨Nat.le_of_ble_eq_true rfl, Nat.le_of_ble_eq_true rfl⟩) ⟨pw_fb, va_recv hKc hPc (ci := 11) (q0 := 0) rfl rfl, fun U hU hW => ⟨rfl, pw_to hU hW hPc hKc hN⟩⟩ rfl rfl hl.1 rfl (lv_room (Nat.le_of_ble_eq_true rfl)) dX12_about_69 ⟨Nat.le_of_ble_eq_true rfl, Nat.le_of_ble_eq_true rfl⟩).run (fun r hw => ?_)
            obtain rfl : r = 0 := hw
            refine lv_if_eq (tgt := 79) hx hb dX12_about_72 (by decide) (fun c_22 => ?_) (fun c_22 => absurd (by decide) c_22)
            refine lv_iconst (v := 0) hx hb dX12_about_79 (by decide) ?_
            refine lv_iadd hx hb dX12_about_80 ?_
            refine lv_topi (fun k_23 ek_23 => ?_)
            obtain rfl : k_23 = 0 := ek_23.trans (by decide)
            refine lv_istore_n (lv' := [(2, .int 0), (3, .int 5), (0, .ref h0), (1, .int 4)]) hx hb dX12_about_81 rfl hl (by decide) rfl (fun ls hl => ?_)
            refine lv_iinc (v := 6) (lv' := [(3, .int 6), (2, .int 0), (0, .ref h0), (1, .int 4)]) hx hb dX12_about_82 hl (k := 1) rfl (by decide) (by decide) rfl (fun ls hl => ?_)
            refine lv_goto (tgt := 60) hx hb dX12_about_85 (by decide) ?_
            refine lv_iload_n hx hb dX12_about_60 rfl (lv_at hl 0 rfl) ?_
            refine lv_bipush (v := 12) hx hb dX12_about_61 (by decide) ?_
            refine lv_icmp_ge (tgt := 88) hx hb dX12_about_63 (by decide) (fun c_24 => absurd c_24 (by decide)) (fun c_24 => ?_)
            refine lv_iload_n hx hb dX12_about_66 rfl (lv_at hl 1 rfl) ?_
            refine lv_aload_n hx hb dX12_about_67 rfl (lv_at hl 2 rfl) ?_
            refine lv_iload_n hx hb dX12_about_68 rfl (lv_at hl 0 rfl) ?_
            have hPc := hP.sub (ws' := [(h0, .inr (11, mO v 0 0 0 0 0 0 0 0)), ((v 40), .inl (cZ, 12, .inl (fun _ => 0)))]) [0, 1] rfl
            have hKc := hK.sub (tys' := [(cZ, .boolean)]) [0] rfl
            refine vp_callSi (va_runV (As := [.int 6]) (rest := [.int 0]) ⟨hx, hb, hml, hown, hts⟩ (m_isNow0 l dC dI h0 v cZ 6 (by decide)) (cwV 1 hts gX12_about_X12_isNow rfl rfl rfl (by decide +kernel) ⟨Nat.le_of_ble_eq_true rfl, Nat.le_of_ble_eq_true rfl⟩) ⟨pw_fb, va_recv hKc hPc (ci := 11) (q0 := 0) rfl rfl, fun U hU hW => ⟨rfl, pw_to hU hW hPc hKc hN⟩⟩ rfl rfl hl.1 rfl (lv_room (Nat.le_of_ble_eq_true rfl)) dX12_about_69 ⟨Nat.le_of_ble_eq_true rfl, Nat.le_of_ble_eq_true rfl⟩).run (fun r hw => ?_)
            obtain rfl : r = 0 := hw
            refine lv_if_eq (tgt := 79) hx hb dX12_about_72 (by decide) (fun c_25 => ?_) (fun c_25 => absurd (by decide) c_25)
            refine lv_iconst (v := 0) hx hb dX12_about_79 (by decide) ?_
            refine lv_iadd hx hb dX12_about_80 ?_
            refine lv_topi (fun k_26 ek_26 => ?_)
            obtain rfl : k_26 = 0 := ek_26.trans (by decide)
            refine lv_istore_n (lv' := [(2, .int 0), (3, .int 6), (0, .ref h0), (1, .int 4)]) hx hb dX12_about_81 rfl hl (by decide) rfl (fun ls hl => ?_)
            refine lv_iinc (v := 7) (lv' := [(3, .int 7), (2, .int 0), (0, .ref h0), (1, .int 4)]) hx hb dX12_about_82 hl (k := 1) rfl (by decide) (by decide) rfl (fun ls hl => ?_)
            refine lv_goto (tgt := 60) hx hb dX12_about_85 (by decide) ?_
            refine lv_iload_n hx hb dX12_about_60 rfl (lv_at hl 0 rfl) ?_
            refine lv_bipush (v := 12) hx hb dX12_about_61 (by decide) ?_
            refine lv_icmp_ge (tgt := 88) hx hb dX12_about_63 (by decide) (fun c_27 => absurd c_27 (by decide)) (fun c_27 => ?_)
            refine lv_iload_n hx hb dX12_about_66 rfl (lv_at hl 1 rfl) ?_
            refine lv_aload_n hx hb dX12_about_67 rfl (lv_at hl 2 rfl) ?_
            refine lv_iload_n hx hb dX12_about_68 rfl (lv_at hl 0 rfl) ?_
            have hPc := hP.sub (ws' := [(h0, .inr (11, mO v 0 0 0 0 0 0 0 0)), ((v 40), .inl (cZ, 12, .inl (fun _ => 0)))]) [0, 1] rfl
            have hKc := hK.sub (tys' := [(cZ, .boolean)]) [0] rfl
            refine vp_callSi (va_runV (As := [.int 7]) (rest := [.int 0]) ⟨hx, hb, hml, hown, hts⟩ (m_isNow0 l dC dI h0 v cZ 7 (by decide)) (cwV 1 hts gX12_about_X12_isNow rfl rfl rfl (by decide +kernel) ⟨Nat.le_of_ble_eq_true rfl, Nat.le_of_ble_eq_true rfl⟩) ⟨pw_fb, va_recv hKc hPc (ci := 11) (q0 := 0) rfl rfl, fun U hU hW => ⟨rfl, pw_to hU hW hPc hKc hN⟩⟩ rfl rfl hl.1 rfl (lv_room (Nat.le_of_ble_eq_true rfl)) dX12_about_69 ⟨Nat.le_of_ble_eq_true rfl, Nat.le_of_ble_eq_true rfl⟩).run (fun r hw => ?_)
            obtain rfl : r = 0 := hw
            refine lv_if_eq (tgt := 79) hx hb dX12_about_72 (by decide) (fun c_28 => ?_) (fun c_28 => absurd (by decide) c_28)
            refine lv_iconst (v := 0) hx hb dX12_about_79 (by decide) ?_
            refine lv_iadd hx hb dX12_about_80 ?_
            refine lv_topi (fun k_29 ek_29 => ?_)
            obtain rfl : k_29 = 0 := ek_29.trans (by decide)
            refine lv_istore_n (lv' := [(2, .int 0), (3, .int 7), (0, .ref h0), (1, .int 4)]) hx hb dX12_about_81 rfl hl (by decide) rfl (fun ls hl => ?_)
            refine lv_iinc (v := 8) (lv' := [(3, .int 8), (2, .int 0), (0, .ref h0), (1, .int 4)]) hx hb dX12_about_82 hl (k := 1) rfl (by decide) (by decide) rfl (fun ls hl => ?_)
            refine lv_goto (tgt := 60) hx hb dX12_about_85 (by decide) ?_
            refine lv_iload_n hx hb dX12_about_60 rfl (lv_at hl 0 rfl) ?_
            refine lv_bipush (v := 12) hx hb dX12_about_61 (by decide) ?_
            refine lv_icmp_ge (tgt := 88) hx hb dX12_about_63 (by decide) (fun c_30 => absurd c_30 (by decide)) (fun c_30 => ?_)
            refine lv_iload_n hx hb dX12_about_66 rfl (lv_at hl 1 rfl) ?_
            refine lv_aload_n hx hb dX12_about_67 rfl (lv_at hl 2 rfl) ?_
            refine lv_iload_n hx hb dX12_about_68 rfl (lv_at hl 0 rfl) ?_
            have hPc := hP.sub (ws' := [(h0, .inr (11, mO v 0 0 0 0 0 0 0 0)), ((v 40), .inl (cZ, 12, .inl (fun _ => 0)))]) [0, 1] rfl
            have hKc := hK.sub (tys' := [(cZ, .boolean)]) [0] rfl
            refine vp_callSi (va_runV (As := [.int 8]) (rest := [.int 0]) ⟨hx, hb, hml, hown, hts⟩ (m_isNow0 l dC dI h0 v cZ 8 (by decide)) (cwV 1 hts gX12_about_X12_isNow rfl rfl rfl (by decide +kernel) ⟨Nat.le_of_ble_eq_true rfl, Nat.le_of_ble_eq_true rfl⟩) ⟨pw_fb, va_recv hKc hPc (ci := 11) (q0 := 0) rfl rfl, fun U hU hW => ⟨rfl, pw_to hU hW hPc hKc hN⟩⟩ rfl rfl hl.1 rfl (lv_room (Nat.le_of_ble_eq_true rfl)) dX12_about_69 ⟨Nat.le_of_ble_eq_true rfl, Nat.le_of_ble_eq_true rfl⟩).run (fun r hw => ?_)
            obtain rfl : r = 0 := hw
            refine lv_if_eq (tgt := 79) hx hb dX12_about_72 (by decide) (fun c_31 => ?_) (fun c_31 => absurd (by decide) c_31)
            refine lv_iconst (v := 0) hx hb dX12_about_79 (by decide) ?_
            refine lv_iadd hx hb dX12_about_80 ?_
            refine lv_topi (fun k_32 ek_32 => ?_)
            obtain rfl : k_32 = 0 := ek_32.trans (by decide)
            refine lv_istore_n (lv' := [(2, .int 0), (3, .int 8), (0, .ref h0), (1, .int 4)]) hx hb dX12_about_81 rfl hl (by decide) rfl (fun ls hl => ?_)
            refine lv_iinc (v := 9) (lv' := [(3, .int 9), (2, .int 0), (0, .ref h0), (1, .int 4)]) hx hb dX12_about_82 hl (k := 1) rfl (by decide) (by decide) rfl (fun ls hl => ?_)
            refine lv_goto (tgt := 60) hx hb dX12_about_85 (by decide) ?_
            refine lv_iload_n hx hb dX12_about_60 rfl (lv_at hl 0 rfl) ?_
            refine lv_bipush (v := 12) hx hb dX12_about_61 (by decide) ?_
            refine lv_icmp_ge (tgt := 88) hx hb dX12_about_63 (by decide) (fun c_33 => absurd c_33 (by decide)) (fun c_33 => ?_)
            refine lv_iload_n hx hb dX12_about_66 rfl (lv_at hl 1 rfl) ?_
            refine lv_aload_n hx hb dX12_about_67 rfl (lv_at hl 2 rfl) ?_
            refine lv_iload_n hx hb dX12_about_68 rfl (lv_at hl 0 rfl) ?_
            have hPc := hP.sub (ws' := [(h0, .inr (11, mO v 0 0 0 0 0 0 0 0)), ((v 40), .inl (cZ, 12, .inl (fun _ => 0)))]) [0, 1] rfl
            have hKc := hK.sub (tys' := [(cZ, .boolean)]) [0] rfl
            refine vp_callSi (va_runV (As := [.int 9]) (rest := [.int 0]) ⟨hx, hb, hml, hown, hts⟩ (m_isNow0 l dC dI h0 v cZ 9 (by decide)) (cwV 1 hts gX12_about_X12_isNow rfl rfl rfl (by decide +kernel) ⟨Nat.le_of_ble_eq_true rfl, Nat.le_of_ble_eq_true rfl⟩) ⟨pw_fb, va_recv hKc hPc (ci := 11) (q0 := 0) rfl rfl, fun U hU hW => ⟨rfl, pw_to hU hW hPc hKc hN⟩⟩ rfl rfl hl.1 rfl (lv_room (Nat.le_of_ble_eq_true rfl)) dX12_about_69 ⟨Nat.le_of_ble_eq_true rfl, Nat.le_of_ble_eq_true rfl⟩).run (fun r hw => ?_)
            obtain rfl : r = 0 := hw
            refine lv_if_eq (tgt := 79) hx hb dX12_about_72 (by decide) (fun c_34 => ?_) (fun c_34 => absurd (by decide) c_34)
            refine lv_iconst (v := 0) hx hb dX12_about_79 (by decide) ?_
            refine lv_iadd hx hb dX12_about_80 ?_
            refine lv_topi (fun k_35 ek_35 => ?_)
            obtain rfl : k_35 = 0 := ek_35.trans (by decide)
            refine lv_istore_n (lv' := [(2, .int 0), (3, .int 9), (0, .ref h0), (1, .int 4)]) hx hb dX12_about_81 rfl hl (by decide) rfl (fun ls hl => ?_)
            refine lv_iinc (v := 10) (lv' := [(3, .int 10), (2, .int 0), (0, .ref h0), (1, .int 4)]) hx hb dX12_about_82 hl (k := 1) rfl (by decide) (by decide) rfl (fun ls hl => ?_)
            refine lv_goto (tgt := 60) hx hb dX12_about_85 (by decide) ?_
            refine lv_iload_n hx hb dX12_about_60 rfl (lv_at hl 0 rfl) ?_
            refine lv_bipush (v := 12) hx hb dX12_about_61 (by decide) ?_
            refine lv_icmp_ge (tgt := 88) hx hb dX12_about_63 (by decide) (fun c_36 => absurd c_36 (by decide)) (fun c_36 => ?_)
            refine lv_iload_n hx hb dX12_about_66 rfl (lv_at hl 1 rfl) ?_
            refine lv_aload_n hx hb dX12_about_67 rfl (lv_at hl 2 rfl) ?_
            refine lv_iload_n hx hb dX12_about_68 rfl (lv_at hl 0 rfl) ?_
            have hPc := hP.sub (ws' := [(h0, .inr (11, mO v 0 0 0 0 0 0 0 0)), ((v 40), .inl (cZ, 12, .inl (fun _ => 0)))]) [0, 1] rfl
            have hKc := hK.sub (tys' := [(cZ, .boolean)]) [0] rfl
            refine vp_callSi (va_runV (As := [.int 10]) (rest := [.int 0]) ⟨hx, hb, hml, hown, hts⟩ (m_isNow0 l dC dI h0 v cZ 10 (by decide)) (cwV 1 hts gX12_about_X12_isNow rfl rfl rfl (by decide +kernel) ⟨Nat.le_of_ble_eq_true rfl, Nat.le_of_ble_eq_true rfl⟩) ⟨pw_fb, va_recv hKc hPc (ci := 11) (q0 := 0) rfl rfl, fun U hU hW => ⟨rfl, pw_to hU hW hPc hKc hN⟩⟩ rfl rfl hl.1 rfl (lv_room (Nat.le_of_ble_eq_true rfl)) dX12_about_69 ⟨Nat.le_of_ble_eq_true rfl, Nat.le_of_ble_eq_true rfl⟩).run (fun r hw => ?_)
            obtain rfl : r = 0 := hw
            refine lv_if_eq (tgt := 79) hx hb dX12_about_72 (by decide) (fun c_37 => ?_) (fun c_37 => absurd (by decide) c_37)
            refine lv_iconst (v := 0) hx hb dX12_about_79 (by decide) ?_
            refine lv_iadd hx hb dX12_about_80 ?_
            refine lv_topi (fun k_38 ek_38 => ?_)
            obtain rfl : k_38 = 0 := ek_38.trans (by decide)
            refine lv_istore_n (lv' := [(2, .int 0), (3, .int 10), (0, .ref h0), (1, .int 4)]) hx hb dX12_about_81 rfl hl (by decide) rfl (fun ls hl => ?_)
            refine lv_iinc (v := 11) (lv' := [(3, .int 11), (2, .int 0), (0, .ref h0), (1, .int 4)]) hx hb dX12_about_82 hl (k := 1) rfl (by decide) (by decide) rfl (fun ls hl => ?_)
            refine lv_goto (tgt := 60) hx hb dX12_about_85 (by decide) ?_
            refine lv_iload_n hx hb dX12_about_60 rfl (lv_at hl 0 rfl) ?_
            refine lv_bipush (v := 12) hx hb dX12_about_61 (by decide) ?_
            refine lv_icmp_ge (tgt := 88) hx hb dX12_about_63 (by decide) (fun c_39 => absurd c_39 (by decide)) (fun c_39 => ?_)
            refine lv_iload_n hx hb dX12_about_66 rfl (lv_at hl 1 rfl) ?_
            refine lv_aload_n hx hb dX12_about_67 rfl (lv_at hl 2 rfl) ?_
            refine lv_iload_n hx hb dX12_about_68 rfl (lv_at hl 0 rfl) ?_
            have hPc := hP.sub (ws' := [(h0, .inr (11, mO v 0 0 0 0 0 0 0 0)), ((v 40), .inl (cZ, 12, .inl (fun _ => 0)))]) [0, 1] rfl
            have hKc := hK.sub (tys' := [(cZ, .boolean)]) [0] rfl
            refine vp_callSi (va_runV (As := [.int 11]) (rest := [.int 0]) ⟨hx, hb, hml, hown, hts⟩ (m_isNow0 l dC dI h0 v cZ 11 (by decide)) (cwV 1 hts gX12_about_X12_isNow rfl rfl rfl (by decide +kernel) ⟨Nat.le_of_ble_eq_true rfl, Nat.le_of_ble_eq_true rfl⟩) ⟨pw_fb, va_recv hKc hPc (ci := 11) (q0 := 0) rfl rfl, fun U hU hW => ⟨rfl, pw_to hU hW hPc hKc hN⟩⟩ rfl rfl hl.1 rfl (lv_room (Nat.le_of_ble_eq_true rfl)) dX12_about_69 ⟨Nat.le_of_ble_eq_true rfl, Nat.le_of_ble_eq_true rfl⟩).run (fun r hw => ?_)
            obtain rfl : r = 0 := hw
            refine lv_if_eq (tgt := 79) hx hb dX12_about_72 (by decide) (fun c_40 => ?_) (fun c_40 => absurd (by decide) c_40)
            refine lv_iconst (v := 0) hx hb dX12_about_79 (by decide) ?_
            refine lv_iadd hx hb dX12_about_80 ?_
            refine lv_topi (fun k_41 ek_41 => ?_)
            obtain rfl : k_41 = 0 := ek_41.trans (by decide)
            refine lv_istore_n (lv' := [(2, .int 0), (3, .int 11), (0, .ref h0), (1, .int 4)]) hx hb dX12_about_81 rfl hl (by decide) rfl (fun ls hl => ?_)
            refine lv_iinc (v := 12) (lv' := [(3, .int 12), (2, .int 0), (0, .ref h0), (1, .int 4)]) hx hb dX12_about_82 hl (k := 1) rfl (by decide) (by decide) rfl (fun ls hl => ?_)
            refine lv_goto (tgt := 60) hx hb dX12_about_85 (by decide) ?_
            refine lv_iload_n hx hb dX12_about_60 rfl (lv_at hl 0 rfl) ?_
            refine lv_bipush (v := 12) hx hb dX12_about_61 (by decide) ?_
            refine lv_icmp_ge (tgt := 88) hx hb dX12_about_63 (by decide) (fun c_42 => ?_) (fun c_42 => absurd (by decide) c_42)
            refine lv_iload_n hx hb dX12_about_88 rfl (lv_at hl 1 rfl) ?_
            exact W.iret (v := 0) hx hb hr (fun t ht hW => ⟨_, rfl, (by decide), ht⟩) (fun q h => absurd h List.not_mem_nil) dX12_about_89
          ·
            refine lv_tableOut (tgt := 90) hx hb dX12_about_1 (sw_out4 s_1 s_2 s_3 s_4 s_5) (by decide) ?_
            refine lv_iconst (v := (-1)) hx hb dX12_about_90 (by decide) ?_
            exact W.iret (v := (-1)) hx hb hr (fun t ht hW => ⟨_, rfl, (by rw [if_neg (abt_out s_1 s_2 s_3 s_4 s_5)]), ht⟩) (fun q h => absurd h List.not_mem_nil) dX12_about_91
