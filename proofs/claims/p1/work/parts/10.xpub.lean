set_option maxHeartbeats 4000000 in
set_option maxRecDepth 100000 in
theorem x_column (l : Launch) (dC : Nat → ClassId) (dI : Nat → Nat → Nat) (h0 pg pl it ac rv : Nat) (sa la ca : Nat → Nat) (cI cS : ClassId) (p0 p1 p2 : Int32) (sz : Nat) : Met l yX11_column wsX11_column ({ frames := 2, cells := 0, slots := 0, locals := 42 }) (va_Pc [.ref h0, .int p0, .int p1, .int p2] (fun U => U.heap.size = sz ∧ PW dC dI ([(h0, .inr (10, [.ref pg, .ref pl, .ref it, .int 0, .ref ac, .int 0, .ref rv, .int 0, .int 0])), (pg, .inl (cS, 12, .inr (.inr (.inr (.inr (fun j => some (sa j)))))))] ++ shW cI sa la ca) [(cI, .int), (cS, .object "PageOne$Sheet")] U ∧ va_D (fun _ => True) ([(h0, .inr (10, [.ref pg, .ref pl, .ref it, .int 0, .ref ac, .int 0, .ref rv, .int 0, .int 0])), (pg, .inl (cS, 12, .inr (.inr (.inr (.inr (fun j => some (sa j)))))))] ++ shW cI sa la ca))) (va_Qi (fun (r : Int32) (_ : Unit) => r = bi (bw p0 0 11 && bw p1 0 7 && bw p2 0 60)) (fun _ _ => True) (va_A ([(h0, .inr (10, [.ref pg, .ref pl, .ref it, .int 0, .ref ac, .int 0, .ref rv, .int 0, .int 0])), (pg, .inl (cS, 12, .inr (.inr (.inr (.inr (fun j => some (sa j)))))))] ++ shW cI sa la ca) sz)) 0 0 (va_A ([(h0, .inr (10, [.ref pg, .ref pl, .ref it, .int 0, .ref ac, .int 0, .ref rv, .int 0, .int 0])), (pg, .inl (cS, 12, .inr (.inr (.inr (.inr (fun j => some (sa j)))))))] ++ shW cI sa la ca) sz) := by
  refine Met.ofW (cc := cX11_column) (maxL := 4) (ret := (some .boolean)) (by decide) rfl ?_
  intro p e s m args below meth c s₁ B hml hv
  obtain ⟨rfl, hsz, ⟨hP, hK, hN⟩, hD0⟩ := hv
  have hx := B.exec
  have hb := B.bytes
  have hr := B.returns
  have hts := atoms_spec (ws := wsX11_column) B.pre
  have hown : s.vm.findClass RX11 = some m.cls := findClass_of_methodNamed B.named
  have hlocks := B.notSynchronized
  subst hsz
  have hD := hD0.self (sz := s.heap.size)
  generalize hAe : va_A ([(h0, .inr (10, [.ref pg, .ref pl, .ref it, .int 0, .ref ac, .int 0, .ref rv, .int 0, .int 0])), (pg, .inl (cS, 12, .inr (.inr (.inr (.inr (fun j => some (sa j)))))))] ++ shW cI sa la ca) s.heap.size = A at hD ⊢
  have hA : ∀ q : Nat, s.heap.size ≤ q → A q := fun q h => by rw [← hAe]; exact Or.inr h
  have hS : va_S A s.heap s.heap [] := va_S.rf
  have hP : va_P (dC, dI) vwCl ([(h0, .inr (10, [.ref pg, .ref pl, .ref it, .int 0, .ref ac, .int 0, .ref rv, .int 0, .int 0])), (pg, .inl (cS, 12, .inr (.inr (.inr (.inr (fun j => some (sa j)))))))] ++ shW cI sa la ca) s.heap := hP
  have hl := lv_entry ([.ref h0, .int p0, .int p1, .int p2]) (n := 4) (Nat.le_of_ble_eq_true rfl)
  rw [lg_entry_eq]
  generalize (lg_sl ([.ref h0, .int p0, .int p1, .int p2]) ++ List.replicate (4 - (lg_sl ([.ref h0, .int p0, .int p1, .int p2])).length) Slot.unset).toArray = ls at hl ⊢
  have hl : lv_has ls 4 [(0, .ref h0), (1, .int p0), (2, .int p1), (3, .int p2)] := hl
  refine lv_iload_n hx hb dX11_column_0 rfl (lv_at hl 1 rfl) ?_
  have hPc := hP.sub (ws' := []) [] rfl
  have hKc := hK.sub (tys' := []) [] rfl
  refine vp_callSi (va_runS (As := [.int p0]) (rest := []) ⟨hx, hb, hml, hown, hts⟩ (x_isPage l dC dI p0) (va_cwS 1 hts gX11_column_X11_isPage rfl rfl rfl (by decide +kernel) ⟨Nat.le_of_ble_eq_true rfl, Nat.le_of_ble_eq_true rfl⟩) ⟨pw_fb, fun U hU hW => ⟨rfl, pw_to hU hW hPc hKc hN⟩⟩ rfl rfl hl.1 rfl (lv_room (Nat.le_of_ble_eq_true rfl)) dX11_column_1 ⟨Nat.le_of_ble_eq_true rfl, Nat.le_of_ble_eq_true rfl⟩).run (fun r hw => ?_)
  rcases Bool.eq_false_or_eq_true (bw p0 0 11) with b_1 | b_1
  ·
    obtain rfl : r = 1 := b_t hw b_1
    have hj := clamp_lt (n := 12) b_1 (by decide)
    have hP := pick2P hP hj
    have hD := pick2D hD hj
    have hP : va_P (dC, dI) vwCl [(h0, .inr (10, [.ref pg, .ref pl, .ref it, .int 0, .ref ac, .int 0, .ref rv, .int 0, .int 0])), (pg, .inl (cS, 12, .inr (.inr (.inr (.inr (fun j => some (sa j))))))), ((sa p0.toNatClampNeg), .inr (8, [.ref (la p0.toNatClampNeg), .ref (ca p0.toNatClampNeg), .int 100, .int (-1), .int (-1)])), ((la p0.toNatClampNeg), .inl (cI, 8, .inl (fun _ => 0))), ((ca p0.toNatClampNeg), .inl (cI, 480, .inl (fun _ => (-2))))] s.heap := hP
    have hD : va_D A [(h0, .inr (10, [.ref pg, .ref pl, .ref it, .int 0, .ref ac, .int 0, .ref rv, .int 0, .int 0])), (pg, .inl (cS, 12, .inr (.inr (.inr (.inr (fun j => some (sa j))))))), ((sa p0.toNatClampNeg), .inr (8, [.ref (la p0.toNatClampNeg), .ref (ca p0.toNatClampNeg), .int 100, .int (-1), .int (-1)])), ((la p0.toNatClampNeg), .inl (cI, 8, .inl (fun _ => 0))), ((ca p0.toNatClampNeg), .inl (cI, 480, .inl (fun _ => (-2))))] := hD
    refine lv_if_eq (tgt := 31) hx hb dX11_column_4 (by decide) (fun c_2 => absurd c_2 (by decide)) (fun c_2 => ?_)
    refine lv_iload_n hx hb dX11_column_7 rfl (lv_at hl 2 rfl) ?_
    have hPc := hP.sub (ws' := []) [] rfl
    have hKc := hK.sub (tys' := []) [] rfl
    refine vp_callSi (va_runS (As := [.int p1]) (rest := []) ⟨hx, hb, hml, hown, hts⟩ (x_isColumn l dC dI p1) (va_cwS 1 hts gX11_column_X11_isColumn rfl rfl rfl (by decide +kernel) ⟨Nat.le_of_ble_eq_true rfl, Nat.le_of_ble_eq_true rfl⟩) ⟨pw_fb, fun U hU hW => ⟨rfl, pw_to hU hW hPc hKc hN⟩⟩ rfl rfl hl.1 rfl (lv_room (Nat.le_of_ble_eq_true rfl)) dX11_column_8 ⟨Nat.le_of_ble_eq_true rfl, Nat.le_of_ble_eq_true rfl⟩).run (fun r hw => ?_)
    rcases Bool.eq_false_or_eq_true (bw p1 0 7) with b_3 | b_3
    ·
      obtain rfl : r = 1 := b_t hw b_3
      refine lv_if_eq (tgt := 31) hx hb dX11_column_11 (by decide) (fun c_4 => absurd c_4 (by decide)) (fun c_4 => ?_)
      refine lv_iload_n hx hb dX11_column_14 rfl (lv_at hl 3 rfl) ?_
      refine lv_iconst (v := 0) hx hb dX11_column_15 (by decide) ?_
      refine lv_bipush (v := 60) hx hb dX11_column_16 (by decide) ?_
      have hPc := hP.sub (ws' := []) [] rfl
      have hKc := hK.sub (tys' := []) [] rfl
      refine vp_callSi (va_runS (As := [.int p2, .int 0, .int 60]) (rest := []) ⟨hx, hb, hml, hown, hts⟩ (x_isWithin l dC dI p2 0 60) (va_cwS 3 hts gX11_column_X11_isWithin rfl rfl rfl (by decide +kernel) ⟨Nat.le_of_ble_eq_true rfl, Nat.le_of_ble_eq_true rfl⟩) ⟨pw_fb, fun U hU hW => ⟨rfl, pw_to hU hW hPc hKc hN⟩⟩ rfl rfl hl.1 rfl (lv_room (Nat.le_of_ble_eq_true rfl)) dX11_column_18 ⟨Nat.le_of_ble_eq_true rfl, Nat.le_of_ble_eq_true rfl⟩).run (fun r hw => ?_)
      rcases Bool.eq_false_or_eq_true (bw p2 0 60) with b_5 | b_5
      ·
        obtain rfl : r = 1 := b_t hw b_5
        refine lv_if_eq (tgt := 31) hx hb dX11_column_21 (by decide) (fun c_6 => absurd c_6 (by decide)) (fun c_6 => ?_)
        refine lv_aload_n hx hb dX11_column_24 rfl (lv_at hl 0 rfl) ?_
        refine va_get (D := (dC, dI)) (ci := 10) (v := .int 0) (C := RX11) (T := TX11) (N := 9) hx hb hts (by decide +kernel) hown hK hP 0 rfl rfl 5 (by decide) (hts (.fieldLink RX11 34 "PageOne" "actCount" "I") (by decide +kernel)) (fun _ h9 => h9) rfl dX11_column_25 ?_
        refine lv_if_le (tgt := 33) hx hb dX11_column_28 (by decide) (fun c_7 => ?_) (fun c_7 => absurd (by decide) c_7)
        refine lv_aload_n hx hb dX11_column_33 rfl (lv_at hl 0 rfl) ?_
        refine va_get (D := (dC, dI)) (ci := 10) (v := .ref pg) (C := RX11) (T := TX11) (N := 9) hx hb hts (by decide +kernel) hown hK hP 0 rfl rfl 0 (by decide) (hts (.fieldLink RX11 11 "PageOne" "pages" "[LPageOne$Sheet;") (by decide +kernel)) (fun _ h9 => h9) rfl dX11_column_34 ?_
        refine lv_iload_n hx hb dX11_column_37 rfl (lv_at hl 1 rfl) ?_
        refine va_aldq hx hb hK hP 1 1 rfl rfl (vin b_1 (by decide)) dX11_column_38 ?_
        refine W.eq (g2 := F0 m 39 ls [.ref (sa p0.toNatClampNeg)]) rfl ?_
        refine va_get (D := (dC, dI)) (ci := 8) (v := .ref (la p0.toNatClampNeg)) (C := RX9) (T := TX9) (N := 5) hx hb hts (by decide +kernel) hown hK hP 2 rfl rfl 0 (by decide) (hts (.fieldLink RX11 59 "PageOne$Sheet" "lines" "[I") (by decide +kernel)) (fun _ h9 => h9) rfl dX11_column_39 ?_
        refine lv_iload_n hx hb dX11_column_42 rfl (lv_at hl 2 rfl) ?_
        refine lv_iload_n hx hb dX11_column_43 rfl (lv_at hl 3 rfl) ?_
        refine va_iast hx hb hK hP hD hS 3 0 rfl rfl (vin b_3 (by decide)) dX11_column_44 (fun H locs hP hD hS => ?_)
        have hP : va_P (dC, dI) vwCl [(h0, .inr (10, [.ref pg, .ref pl, .ref it, .int 0, .ref ac, .int 0, .ref rv, .int 0, .int 0])), (pg, .inl (cS, 12, .inr (.inr (.inr (.inr (fun j => some (sa j))))))), ((sa p0.toNatClampNeg), .inr (8, [.ref (la p0.toNatClampNeg), .ref (ca p0.toNatClampNeg), .int 100, .int (-1), .int (-1)])), ((la p0.toNatClampNeg), .inl (cI, 8, .inl (upd (fun _ => 0) (p1 : Int32).toNatClampNeg p2))), ((ca p0.toNatClampNeg), .inl (cI, 480, .inl (fun _ => (-2))))] H := hP
        have hD : va_D A [(h0, .inr (10, [.ref pg, .ref pl, .ref it, .int 0, .ref ac, .int 0, .ref rv, .int 0, .int 0])), (pg, .inl (cS, 12, .inr (.inr (.inr (.inr (fun j => some (sa j))))))), ((sa p0.toNatClampNeg), .inr (8, [.ref (la p0.toNatClampNeg), .ref (ca p0.toNatClampNeg), .int 100, .int (-1), .int (-1)])), ((la p0.toNatClampNeg), .inl (cI, 8, .inl (upd (fun _ => 0) (p1 : Int32).toNatClampNeg p2))), ((ca p0.toNatClampNeg), .inl (cI, 480, .inl (fun _ => (-2))))] := hD
        refine lv_iconst (v := 1) hx hb dX11_column_45 (by decide) ?_
        exact W.zret (v := 1) hx hb hr (by decide) (fun t ht hW => ⟨⟨1, (), rfl, (by simp [bi, b_1, b_3, b_5]), trivial⟩, hS.F ht⟩) hS.2.2 dX11_column_46
      ·
        obtain rfl : r = 0 := b_f hw b_5
        refine lv_if_eq (tgt := 31) hx hb dX11_column_21 (by decide) (fun c_8 => ?_) (fun c_8 => absurd (by decide) c_8)
        refine lv_iconst (v := 0) hx hb dX11_column_31 (by decide) ?_
        exact W.zret (v := 0) hx hb hr (by decide) (fun t ht hW => ⟨⟨0, (), rfl, (by simp [bi, b_1, b_3, b_5]), trivial⟩, hS.F ht⟩) hS.2.2 dX11_column_32
    ·
      obtain rfl : r = 0 := b_f hw b_3
      refine lv_if_eq (tgt := 31) hx hb dX11_column_11 (by decide) (fun c_9 => ?_) (fun c_9 => absurd (by decide) c_9)
      refine lv_iconst (v := 0) hx hb dX11_column_31 (by decide) ?_
      exact W.zret (v := 0) hx hb hr (by decide) (fun t ht hW => ⟨⟨0, (), rfl, (by simp [bi, b_1, b_3]), trivial⟩, hS.F ht⟩) hS.2.2 dX11_column_32
  ·
    obtain rfl : r = 0 := b_f hw b_1
    refine lv_if_eq (tgt := 31) hx hb dX11_column_4 (by decide) (fun c_10 => ?_) (fun c_10 => absurd (by decide) c_10)
    refine lv_iconst (v := 0) hx hb dX11_column_31 (by decide) ?_
    exact W.zret (v := 0) hx hb hr (by decide) (fun t ht hW => ⟨⟨0, (), rfl, (by simp [bi, b_1]), trivial⟩, hS.F ht⟩) hS.2.2 dX11_column_32
set_option maxHeartbeats 4000000 in
set_option maxRecDepth 100000 in
theorem x_measure (l : Launch) (dC : Nat → ClassId) (dI : Nat → Nat → Nat) (h0 pg pl it ac rv : Nat) (sa la ca : Nat → Nat) (cI cS : ClassId) (p0 p1 : Int32) (sz : Nat) : Met l yX11_measure wsX11_measure ({ frames := 2, cells := 0, slots := 0, locals := 42 }) (va_Pc [.ref h0, .int p0, .int p1] (fun U => U.heap.size = sz ∧ PW dC dI ([(h0, .inr (10, [.ref pg, .ref pl, .ref it, .int 0, .ref ac, .int 0, .ref rv, .int 0, .int 0])), (pg, .inl (cS, 12, .inr (.inr (.inr (.inr (fun j => some (sa j)))))))] ++ shW cI sa la ca) [(cI, .int), (cS, .object "PageOne$Sheet")] U ∧ va_D (fun _ => True) ([(h0, .inr (10, [.ref pg, .ref pl, .ref it, .int 0, .ref ac, .int 0, .ref rv, .int 0, .int 0])), (pg, .inl (cS, 12, .inr (.inr (.inr (.inr (fun j => some (sa j)))))))] ++ shW cI sa la ca))) (va_Qi (fun (r : Int32) (_ : Unit) => r = bi (bw p0 0 11 && bw p1 1 200)) (fun _ _ => True) (va_A ([(h0, .inr (10, [.ref pg, .ref pl, .ref it, .int 0, .ref ac, .int 0, .ref rv, .int 0, .int 0])), (pg, .inl (cS, 12, .inr (.inr (.inr (.inr (fun j => some (sa j)))))))] ++ shW cI sa la ca) sz)) 0 0 (va_A ([(h0, .inr (10, [.ref pg, .ref pl, .ref it, .int 0, .ref ac, .int 0, .ref rv, .int 0, .int 0])), (pg, .inl (cS, 12, .inr (.inr (.inr (.inr (fun j => some (sa j)))))))] ++ shW cI sa la ca) sz) := by
  refine Met.ofW (cc := cX11_measure) (maxL := 3) (ret := (some .boolean)) (by decide) rfl ?_
  intro p e s m args below meth c s₁ B hml hv
  obtain ⟨rfl, hsz, ⟨hP, hK, hN⟩, hD0⟩ := hv
  have hx := B.exec
  have hb := B.bytes
  have hr := B.returns
  have hts := atoms_spec (ws := wsX11_measure) B.pre
  have hown : s.vm.findClass RX11 = some m.cls := findClass_of_methodNamed B.named
  have hlocks := B.notSynchronized
  subst hsz
  have hD := hD0.self (sz := s.heap.size)
  generalize hAe : va_A ([(h0, .inr (10, [.ref pg, .ref pl, .ref it, .int 0, .ref ac, .int 0, .ref rv, .int 0, .int 0])), (pg, .inl (cS, 12, .inr (.inr (.inr (.inr (fun j => some (sa j)))))))] ++ shW cI sa la ca) s.heap.size = A at hD ⊢
  have hA : ∀ q : Nat, s.heap.size ≤ q → A q := fun q h => by rw [← hAe]; exact Or.inr h
  have hS : va_S A s.heap s.heap [] := va_S.rf
  have hP : va_P (dC, dI) vwCl ([(h0, .inr (10, [.ref pg, .ref pl, .ref it, .int 0, .ref ac, .int 0, .ref rv, .int 0, .int 0])), (pg, .inl (cS, 12, .inr (.inr (.inr (.inr (fun j => some (sa j)))))))] ++ shW cI sa la ca) s.heap := hP
  have hl := lv_entry ([.ref h0, .int p0, .int p1]) (n := 3) (Nat.le_of_ble_eq_true rfl)
  rw [lg_entry_eq]
  generalize (lg_sl ([.ref h0, .int p0, .int p1]) ++ List.replicate (3 - (lg_sl ([.ref h0, .int p0, .int p1])).length) Slot.unset).toArray = ls at hl ⊢
  have hl : lv_has ls 3 [(0, .ref h0), (1, .int p0), (2, .int p1)] := hl
  refine lv_iload_n hx hb dX11_measure_0 rfl (lv_at hl 1 rfl) ?_
  have hPc := hP.sub (ws' := []) [] rfl
  have hKc := hK.sub (tys' := []) [] rfl
  refine vp_callSi (va_runS (As := [.int p0]) (rest := []) ⟨hx, hb, hml, hown, hts⟩ (x_isPage l dC dI p0) (va_cwS 1 hts gX11_measure_X11_isPage rfl rfl rfl (by decide +kernel) ⟨Nat.le_of_ble_eq_true rfl, Nat.le_of_ble_eq_true rfl⟩) ⟨pw_fb, fun U hU hW => ⟨rfl, pw_to hU hW hPc hKc hN⟩⟩ rfl rfl hl.1 rfl (lv_room (Nat.le_of_ble_eq_true rfl)) dX11_measure_1 ⟨Nat.le_of_ble_eq_true rfl, Nat.le_of_ble_eq_true rfl⟩).run (fun r hw => ?_)
  rcases Bool.eq_false_or_eq_true (bw p0 0 11) with b_1 | b_1
  ·
    obtain rfl : r = 1 := b_t hw b_1
    have hj := clamp_lt (n := 12) b_1 (by decide)
    have hP := pick2P hP hj
    have hD := pick2D hD hj
    have hP : va_P (dC, dI) vwCl [(h0, .inr (10, [.ref pg, .ref pl, .ref it, .int 0, .ref ac, .int 0, .ref rv, .int 0, .int 0])), (pg, .inl (cS, 12, .inr (.inr (.inr (.inr (fun j => some (sa j))))))), ((sa p0.toNatClampNeg), .inr (8, [.ref (la p0.toNatClampNeg), .ref (ca p0.toNatClampNeg), .int 100, .int (-1), .int (-1)])), ((la p0.toNatClampNeg), .inl (cI, 8, .inl (fun _ => 0))), ((ca p0.toNatClampNeg), .inl (cI, 480, .inl (fun _ => (-2))))] s.heap := hP
    have hD : va_D A [(h0, .inr (10, [.ref pg, .ref pl, .ref it, .int 0, .ref ac, .int 0, .ref rv, .int 0, .int 0])), (pg, .inl (cS, 12, .inr (.inr (.inr (.inr (fun j => some (sa j))))))), ((sa p0.toNatClampNeg), .inr (8, [.ref (la p0.toNatClampNeg), .ref (ca p0.toNatClampNeg), .int 100, .int (-1), .int (-1)])), ((la p0.toNatClampNeg), .inl (cI, 8, .inl (fun _ => 0))), ((ca p0.toNatClampNeg), .inl (cI, 480, .inl (fun _ => (-2))))] := hD
    refine lv_if_eq (tgt := 25) hx hb dX11_measure_4 (by decide) (fun c_2 => absurd c_2 (by decide)) (fun c_2 => ?_)
    refine lv_iload_n hx hb dX11_measure_7 rfl (lv_at hl 2 rfl) ?_
    refine lv_iconst (v := 1) hx hb dX11_measure_8 (by decide) ?_
    refine lv_sipush (v := 200) hx hb dX11_measure_9 (by decide) ?_
    have hPc := hP.sub (ws' := []) [] rfl
    have hKc := hK.sub (tys' := []) [] rfl
    refine vp_callSi (va_runS (As := [.int p1, .int 1, .int 200]) (rest := []) ⟨hx, hb, hml, hown, hts⟩ (x_isWithin l dC dI p1 1 200) (va_cwS 3 hts gX11_measure_X11_isWithin rfl rfl rfl (by decide +kernel) ⟨Nat.le_of_ble_eq_true rfl, Nat.le_of_ble_eq_true rfl⟩) ⟨pw_fb, fun U hU hW => ⟨rfl, pw_to hU hW hPc hKc hN⟩⟩ rfl rfl hl.1 rfl (lv_room (Nat.le_of_ble_eq_true rfl)) dX11_measure_12 ⟨Nat.le_of_ble_eq_true rfl, Nat.le_of_ble_eq_true rfl⟩).run (fun r hw => ?_)
    rcases Bool.eq_false_or_eq_true (bw p1 1 200) with b_3 | b_3
    ·
      obtain rfl : r = 1 := b_t hw b_3
      refine lv_if_eq (tgt := 25) hx hb dX11_measure_15 (by decide) (fun c_4 => absurd c_4 (by decide)) (fun c_4 => ?_)
      refine lv_aload_n hx hb dX11_measure_18 rfl (lv_at hl 0 rfl) ?_
      refine va_get (D := (dC, dI)) (ci := 10) (v := .int 0) (C := RX11) (T := TX11) (N := 9) hx hb hts (by decide +kernel) hown hK hP 0 rfl rfl 5 (by decide) (hts (.fieldLink RX11 34 "PageOne" "actCount" "I") (by decide +kernel)) (fun _ h9 => h9) rfl dX11_measure_19 ?_
      refine lv_if_le (tgt := 27) hx hb dX11_measure_22 (by decide) (fun c_5 => ?_) (fun c_5 => absurd (by decide) c_5)
      refine lv_aload_n hx hb dX11_measure_27 rfl (lv_at hl 0 rfl) ?_
      refine va_get (D := (dC, dI)) (ci := 10) (v := .ref pg) (C := RX11) (T := TX11) (N := 9) hx hb hts (by decide +kernel) hown hK hP 0 rfl rfl 0 (by decide) (hts (.fieldLink RX11 11 "PageOne" "pages" "[LPageOne$Sheet;") (by decide +kernel)) (fun _ h9 => h9) rfl dX11_measure_28 ?_
      refine lv_iload_n hx hb dX11_measure_31 rfl (lv_at hl 1 rfl) ?_
      refine va_aldq hx hb hK hP 1 1 rfl rfl (vin b_1 (by decide)) dX11_measure_32 ?_
      refine W.eq (g2 := F0 m 33 ls [.ref (sa p0.toNatClampNeg)]) rfl ?_
      refine lv_iload_n hx hb dX11_measure_33 rfl (lv_at hl 2 rfl) ?_
      refine va_put (D := (dC, dI)) (ci := 8) (v := .int p1) (ty := .int) (C := RX9) (T := TX9) (N := 5) hx hb hts (by decide +kernel) tyX9 tyX9_ok nmX9 hown hK hP hD hS 2 rfl rfl 2 (by decide) (hts (.fieldLink RX11 63 "PageOne$Sheet" "measure" "I") (by decide +kernel)) (fun _ h9 => h9) rfl (by decide +kernel) rfl rfl (Nat.le_of_ble_eq_true rfl) dX11_measure_34 (fun H locs hP hD hS => ?_)
      have hP : va_P (dC, dI) vwCl [(h0, .inr (10, [.ref pg, .ref pl, .ref it, .int 0, .ref ac, .int 0, .ref rv, .int 0, .int 0])), (pg, .inl (cS, 12, .inr (.inr (.inr (.inr (fun j => some (sa j))))))), ((sa p0.toNatClampNeg), .inr (8, [.ref (la p0.toNatClampNeg), .ref (ca p0.toNatClampNeg), .int p1, .int (-1), .int (-1)])), ((la p0.toNatClampNeg), .inl (cI, 8, .inl (fun _ => 0))), ((ca p0.toNatClampNeg), .inl (cI, 480, .inl (fun _ => (-2))))] H := hP
      have hD : va_D A [(h0, .inr (10, [.ref pg, .ref pl, .ref it, .int 0, .ref ac, .int 0, .ref rv, .int 0, .int 0])), (pg, .inl (cS, 12, .inr (.inr (.inr (.inr (fun j => some (sa j))))))), ((sa p0.toNatClampNeg), .inr (8, [.ref (la p0.toNatClampNeg), .ref (ca p0.toNatClampNeg), .int p1, .int (-1), .int (-1)])), ((la p0.toNatClampNeg), .inl (cI, 8, .inl (fun _ => 0))), ((ca p0.toNatClampNeg), .inl (cI, 480, .inl (fun _ => (-2))))] := hD
      refine lv_iconst (v := 1) hx hb dX11_measure_37 (by decide) ?_
      exact W.zret (v := 1) hx hb hr (by decide) (fun t ht hW => ⟨⟨1, (), rfl, (by simp [bi, b_1, b_3]), trivial⟩, hS.F ht⟩) hS.2.2 dX11_measure_38
    ·
      obtain rfl : r = 0 := b_f hw b_3
      refine lv_if_eq (tgt := 25) hx hb dX11_measure_15 (by decide) (fun c_6 => ?_) (fun c_6 => absurd (by decide) c_6)
      refine lv_iconst (v := 0) hx hb dX11_measure_25 (by decide) ?_
      exact W.zret (v := 0) hx hb hr (by decide) (fun t ht hW => ⟨⟨0, (), rfl, (by simp [bi, b_1, b_3]), trivial⟩, hS.F ht⟩) hS.2.2 dX11_measure_26
  ·
    obtain rfl : r = 0 := b_f hw b_1
    refine lv_if_eq (tgt := 25) hx hb dX11_measure_4 (by decide) (fun c_7 => ?_) (fun c_7 => absurd (by decide) c_7)
    refine lv_iconst (v := 0) hx hb dX11_measure_25 (by decide) ?_
    exact W.zret (v := 0) hx hb hr (by decide) (fun t ht hW => ⟨⟨0, (), rfl, (by simp [bi, b_1]), trivial⟩, hS.F ht⟩) hS.2.2 dX11_measure_26
set_option maxHeartbeats 4000000 in
set_option maxRecDepth 100000 in
theorem x_story (l : Launch) (dC : Nat → ClassId) (dI : Nat → Nat → Nat) (h0 pg pl it ac rv : Nat) (cI cZ cT : ClassId) (p0 : Int32) (sz : Nat) : Met l yX11_story wsX11_story ({ frames := 3, cells := 5, slots := 110, locals := 68 }) (va_Pc [.ref h0, .int p0] (fun U => U.heap.size = sz ∧ PW dC dI [(h0, .inr (10, [.ref pg, .ref pl, .ref it, .int 0, .ref ac, .int 0, .ref rv, .int 0, .int 0])), (it, .inl (cT, 80, .inr (.inr (.inr (.inr (fun _ => none))))))] [(cI, .int), (cZ, .boolean), (cT, .object "PageOne$Item")] U ∧ va_D (fun _ => True) [(h0, .inr (10, [.ref pg, .ref pl, .ref it, .int 0, .ref ac, .int 0, .ref rv, .int 0, .int 0])), (it, .inl (cT, 80, .inr (.inr (.inr (.inr (fun _ => none))))))])) (va_Qi (fun (r : Int32) (_ : Unit) => r = (if bw p0 1 80 then 0 else (-1))) (fun _ _ => True) (va_A [(h0, .inr (10, [.ref pg, .ref pl, .ref it, .int 0, .ref ac, .int 0, .ref rv, .int 0, .int 0])), (it, .inl (cT, 80, .inr (.inr (.inr (.inr (fun _ => none))))))] sz)) 5 110 (va_A [(h0, .inr (10, [.ref pg, .ref pl, .ref it, .int 0, .ref ac, .int 0, .ref rv, .int 0, .int 0])), (it, .inl (cT, 80, .inr (.inr (.inr (.inr (fun _ => none))))))] sz) := by
  refine Met.ofW (cc := cX11_story) (maxL := 2) (ret := (some .int)) (by decide) rfl ?_
  intro p e s m args below meth c s₁ B hml hv
  obtain ⟨rfl, hsz, ⟨hP, hK, hN⟩, hD0⟩ := hv
  have hx := B.exec
  have hb := B.bytes
  have hr := B.returns
  have hts := atoms_spec (ws := wsX11_story) B.pre
  have hown : s.vm.findClass RX11 = some m.cls := findClass_of_methodNamed B.named
  have hlocks := B.notSynchronized
  subst hsz
  have hD := hD0.self (sz := s.heap.size)
  generalize hAe : va_A [(h0, .inr (10, [.ref pg, .ref pl, .ref it, .int 0, .ref ac, .int 0, .ref rv, .int 0, .int 0])), (it, .inl (cT, 80, .inr (.inr (.inr (.inr (fun _ => none))))))] s.heap.size = A at hD ⊢
  have hA : ∀ q : Nat, s.heap.size ≤ q → A q := fun q h => by rw [← hAe]; exact Or.inr h
  have hS : va_S A s.heap s.heap [] := va_S.rf
  have hP : va_P (dC, dI) vwCl [(h0, .inr (10, [.ref pg, .ref pl, .ref it, .int 0, .ref ac, .int 0, .ref rv, .int 0, .int 0])), (it, .inl (cT, 80, .inr (.inr (.inr (.inr (fun _ => none))))))] s.heap := hP
  have hl := lv_entry ([.ref h0, .int p0]) (n := 2) (Nat.le_of_ble_eq_true rfl)
  rw [lg_entry_eq]
  generalize (lg_sl ([.ref h0, .int p0]) ++ List.replicate (2 - (lg_sl ([.ref h0, .int p0])).length) Slot.unset).toArray = ls at hl ⊢
  have hl : lv_has ls 2 [(0, .ref h0), (1, .int p0)] := hl
  refine lv_iload_n hx hb dX11_story_0 rfl (lv_at hl 1 rfl) ?_
  refine lv_iconst (v := 1) hx hb dX11_story_1 (by decide) ?_
  refine lv_bipush (v := 80) hx hb dX11_story_2 (by decide) ?_
  have hPc := hP.sub (ws' := []) [] rfl
  have hKc := hK.sub (tys' := []) [] rfl
  refine vp_callSi (va_runS (As := [.int p0, .int 1, .int 80]) (rest := []) ⟨hx, hb, hml, hown, hts⟩ (x_isWithin l dC dI p0 1 80) (va_cwS 3 hts gX11_story_X11_isWithin rfl rfl rfl (by decide +kernel) ⟨Nat.le_of_ble_eq_true rfl, Nat.le_of_ble_eq_true rfl⟩) ⟨pw_fb, fun U hU hW => ⟨rfl, pw_to hU hW hPc hKc hN⟩⟩ rfl rfl hl.1 rfl (lv_room (Nat.le_of_ble_eq_true rfl)) dX11_story_4 ⟨Nat.le_of_ble_eq_true rfl, Nat.le_of_ble_eq_true rfl⟩).run (fun r hw => ?_)
  rcases Bool.eq_false_or_eq_true (bw p0 1 80) with b_1 | b_1
  ·
    obtain rfl : r = 1 := b_t hw b_1
    refine lv_if_ne (tgt := 12) hx hb dX11_story_7 (by decide) (fun c_2 => ?_) (fun c_2 => absurd c_2 (by decide))
    refine lv_aload_n hx hb dX11_story_12 rfl (lv_at hl 0 rfl) ?_
    refine va_new (ci := 9) (fs := [.int 0, .int 0, .null, .int 0, .null, .int 0, .null, .int 0, .null]) (C := RX10) (T := TX10) (N := 9) hx hb hts (by decide +kernel) tyX10 tyX10_ok hown (hts (.classLink RX11 66 RX10) (by decide +kernel)) (hts (.instantiable RX10 9) (by decide +kernel)) (hts (.initialized RX10) (by decide +kernel)) hK hP hD hS hA rfl nwX10 (Nat.le_of_ble_eq_true rfl) (Nat.le_of_ble_eq_true rfl) dX11_story_13 (fun q_3 H hP hD hS => ?_)
    have hP : va_P (dC, dI) vwCl [(h0, .inr (10, [.ref pg, .ref pl, .ref it, .int 0, .ref ac, .int 0, .ref rv, .int 0, .int 0])), (it, .inl (cT, 80, .inr (.inr (.inr (.inr (fun _ => none)))))), (q_3, .inr (9, [.int 0, .int 0, .null, .int 0, .null, .int 0, .null, .int 0, .null]))] H := hP
    have hD : va_D A [(h0, .inr (10, [.ref pg, .ref pl, .ref it, .int 0, .ref ac, .int 0, .ref rv, .int 0, .int 0])), (it, .inl (cT, 80, .inr (.inr (.inr (.inr (fun _ => none)))))), (q_3, .inr (9, [.int 0, .int 0, .null, .int 0, .null, .int 0, .null, .int 0, .null]))] := hD
    refine W.widen (k := 1) (n := 9) (Nat.le_of_ble_eq_true rfl) (Nat.le_of_ble_eq_true rfl) ?_
    refine lv_dup hx hb dX11_story_16 rfl ?_
    refine lv_aload_n hx hb dX11_story_17 rfl (lv_at hl 0 rfl) ?_
    refine va_get (D := (dC, dI)) (ci := 10) (v := .int 0) (C := RX11) (T := TX11) (N := 9) hx hb hts (by decide +kernel) hown hK hP 0 rfl rfl 3 (by decide) (hts (.fieldLink RX11 24 "PageOne" "itemCount" "I") (by decide +kernel)) (fun _ h9 => h9) rfl dX11_story_18 ?_
    refine lv_iload_n hx hb dX11_story_21 rfl (lv_at hl 1 rfl) ?_
    have hPc := hP.sub (ws' := [(q_3, .inr (9, [.int 0, .int 0, .null, .int 0, .null, .int 0, .null, .int 0, .null]))]) [2] rfl
    have hKc := hK.sub (tys' := [(cI, .int), (cZ, .boolean)]) [0, 1] rfl
    have hDc := hD.sub (ws' := [(q_3, .inr (9, [.int 0, .int 0, .null, .int 0, .null, .int 0, .null, .int 0, .null]))]) [2] (by decide) rfl
    have hFc := va_free (wc := [(q_3, .inr (9, [.int 0, .int 0, .null, .int 0, .null, .int 0, .null, .int 0, .null]))]) hD hS hA [2] rfl
    refine va_callv (va_runI (As := [.int 0, .int p0]) (rest := [.ref q_3, .ref h0]) ⟨hx, hb, hml, hown, hts⟩ (x_Story l dC dI q_3 cI cZ 0 p0 H.size) (cwI 2 hts gX11_story_X10_init rfl rfl rfl (hts (.initialized RX10) (by decide +kernel)) (hts (.methodLink RX11 68 yX10_init) (by decide +kernel)) (hts (.instanceMethod yX10_init) (by decide +kernel)) rfl (by decide +kernel) ⟨Nat.le_of_ble_eq_true rfl, Nat.le_of_ble_eq_true rfl⟩) ⟨gw_fb, fun U hU hW => ⟨rfl, by rw [hU], pw_to hU hW hPc hKc hN, hDc.weaken (fun _ _ _ _ => trivial)⟩⟩ rfl rfl hl.1 rfl (lv_room (Nat.le_of_ble_eq_true rfl)) dX11_story_22 ⟨Nat.le_of_ble_eq_true rfl, Nat.le_of_ble_eq_true rfl⟩) hS (fun q _ h => hFc q h) hFc (fun u t H1 locs ht hvm hw hB hz1 hk1 hS => ?_)
    obtain ⟨qa_4, qa_5, qa_6, qa_7, hP1, hD1⟩ := hB
    rw [ht] at hP1
    obtain ⟨hP, hD⟩ := va_join (wr := [(h0, .inr (10, [.ref pg, .ref pl, .ref it, .int 0, .ref ac, .int 0, .ref rv, .int 0, .int 0])), (it, .inl (cT, 80, .inr (.inr (.inr (.inr (fun _ => none))))))]) (w1 := [(q_3, .inr (9, [.int 0, .int 0, .ref qa_4, .int 0, .ref qa_5, .int p0, .ref qa_6, .int 0, .ref qa_7]))]) hP hD [2] [0, 1] rfl rfl (by decide) (by decide) hk1 hFc hP1 hD1
    generalize H1 = H at hP hS ⊢
    have hP : va_P (dC, dI) vwCl [(h0, .inr (10, [.ref pg, .ref pl, .ref it, .int 0, .ref ac, .int 0, .ref rv, .int 0, .int 0])), (it, .inl (cT, 80, .inr (.inr (.inr (.inr (fun _ => none)))))), (q_3, .inr (9, [.int 0, .int 0, .ref qa_4, .int 0, .ref qa_5, .int p0, .ref qa_6, .int 0, .ref qa_7]))] H := hP
    have hD : va_D A [(h0, .inr (10, [.ref pg, .ref pl, .ref it, .int 0, .ref ac, .int 0, .ref rv, .int 0, .int 0])), (it, .inl (cT, 80, .inr (.inr (.inr (.inr (fun _ => none)))))), (q_3, .inr (9, [.int 0, .int 0, .ref qa_4, .int 0, .ref qa_5, .int p0, .ref qa_6, .int 0, .ref qa_7]))] := hD
    refine W.widen (k := 5) (n := 110) (Nat.le_of_ble_eq_true rfl) (Nat.le_of_ble_eq_true rfl) ?_
    have hPc := hP.sub (ws' := [(h0, .inr (10, [.ref pg, .ref pl, .ref it, .int 0, .ref ac, .int 0, .ref rv, .int 0, .int 0])), (it, .inl (cT, 80, .inr (.inr (.inr (.inr (fun _ => none)))))), (q_3, .inr (9, [.int 0, .int 0, .ref qa_4, .int 0, .ref qa_5, .int p0, .ref qa_6, .int 0, .ref qa_7]))]) [0, 1, 2] rfl
    have hKc := hK.sub (tys' := [(cT, .object "PageOne$Item")]) [2] rfl
    have hDc := hD.sub (ws' := [(h0, .inr (10, [.ref pg, .ref pl, .ref it, .int 0, .ref ac, .int 0, .ref rv, .int 0, .int 0])), (it, .inl (cT, 80, .inr (.inr (.inr (.inr (fun _ => none)))))), (q_3, .inr (9, [.int 0, .int 0, .ref qa_4, .int 0, .ref qa_5, .int p0, .ref qa_6, .int 0, .ref qa_7]))]) [0, 1, 2] (by decide) rfl
    have hFc := va_free (wc := [(h0, .inr (10, [.ref pg, .ref pl, .ref it, .int 0, .ref ac, .int 0, .ref rv, .int 0, .int 0])), (it, .inl (cT, 80, .inr (.inr (.inr (.inr (fun _ => none)))))), (q_3, .inr (9, [.int 0, .int 0, .ref qa_4, .int 0, .ref qa_5, .int p0, .ref qa_6, .int 0, .ref qa_7]))]) hD hS hA [0, 1, 2] rfl
    refine va_calli (va_runV (As := [.ref q_3]) (rest := []) ⟨hx, hb, hml, hown, hts⟩ (x_enter_Story l dC dI h0 pg pl it ac rv q_3 0 qa_4 qa_5 qa_6 qa_7 cT 0 p0 0 H.size) (cwV 1 hts gX11_story_X11_enter rfl rfl rfl (by decide +kernel) ⟨Nat.le_of_ble_eq_true rfl, Nat.le_of_ble_eq_true rfl⟩) ⟨gw_fb, va_recv hKc hPc (ci := 10) (q0 := 0) rfl rfl, fun U hU hW => ⟨rfl, by rw [hU], pw_to hU hW hPc hKc hN, hDc.weaken (fun _ _ _ _ => trivial)⟩⟩ rfl rfl hl.1 rfl (lv_room (Nat.le_of_ble_eq_true rfl)) dX11_story_25 ⟨Nat.le_of_ble_eq_true rfl, Nat.le_of_ble_eq_true rfl⟩) hS (fun q _ h => hFc q h) hFc (fun r u t H1 locs ht hvm hw hB hz1 hk1 hS => ?_)
    have hP1 : va_P (dC, dI) vwCl [] H1 := fun k q h => by simp at h
    have hD1 : va_D (va_A [(h0, .inr (10, [.ref pg, .ref pl, .ref it, .int 0, .ref ac, .int 0, .ref rv, .int 0, .int 0])), (it, .inl (cT, 80, .inr (.inr (.inr (.inr (fun _ => none)))))), (q_3, .inr (9, [.int 0, .int 0, .ref qa_4, .int 0, .ref qa_5, .int p0, .ref qa_6, .int 0, .ref qa_7]))] H.size) [] := ⟨fun i j p q h => by simp at h, fun k q h => by simp at h⟩
    obtain ⟨hP, hD⟩ := va_join (wr := []) (w1 := []) hP hD [0, 1, 2] [] rfl rfl (by decide) (by decide) hk1 hFc hP1 hD1
    generalize H1 = H at hP hS ⊢
    have hP : va_P (dC, dI) vwCl [] H := hP
    have hD : va_D A [] := hD
    refine W.widen (k := 5) (n := 110) (Nat.le_of_ble_eq_true rfl) (Nat.le_of_ble_eq_true rfl) ?_
    obtain rfl : r = 0 := hw
    exact W.iret (v := 0) hx hb hr (fun t ht hW => ⟨⟨0, (), rfl, (by simp [bi, b_1]), trivial⟩, hS.F ht⟩) hS.2.2 dX11_story_28
  ·
    obtain rfl : r = 0 := b_f hw b_1
    refine lv_if_ne (tgt := 12) hx hb dX11_story_7 (by decide) (fun c_8 => absurd (by decide) c_8) (fun c_8 => ?_)
    refine lv_iconst (v := (-1)) hx hb dX11_story_10 (by decide) ?_
    refine W.widen (k := 5) (n := 110) (Nat.le_of_ble_eq_true rfl) (Nat.le_of_ble_eq_true rfl) ?_
    exact W.iret (v := (-1)) hx hb hr (fun t ht hW => ⟨⟨(-1), (), rfl, (by simp [bi, b_1]), trivial⟩, hS.F ht⟩) hS.2.2 dX11_story_11
set_option maxHeartbeats 4000000 in
set_option maxRecDepth 100000 in
theorem x_line (l : Launch) (dC : Nat → ClassId) (dI : Nat → Nat → Nat) (h0 pg pl it ac rv : Nat) (p0 p1 : Int32) : Met l yX11_line wsX11_line ({ frames := 2, cells := 0, slots := 0, locals := 43 }) (va_Pc [.ref h0, .int p0, .int p1] (PW dC dI [(h0, .inr (10, [.ref pg, .ref pl, .ref it, .int 0, .ref ac, .int 0, .ref rv, .int 0, .int 0]))] [])) (vp_Si (fun r => r = (-1))) 0 0 (fun _ => False) := by
  refine Met.ofW (cc := cX11_line) (maxL := 5) (ret := (some .int)) (by decide) rfl ?_
  intro p e s m args below meth c s₁ B hml hv
  obtain ⟨rfl, hP, hK, hN⟩ := hv
  have hx := B.exec
  have hb := B.bytes
  have hr := B.returns
  have hts := atoms_spec (ws := wsX11_line) B.pre
  have hown : s.vm.findClass RX11 = some m.cls := findClass_of_methodNamed B.named
  have hlocks := B.notSynchronized
  have hl := lv_entry ([.ref h0, .int p0, .int p1]) (n := 5) (Nat.le_of_ble_eq_true rfl)
  rw [lg_entry_eq]
  generalize (lg_sl ([.ref h0, .int p0, .int p1]) ++ List.replicate (5 - (lg_sl ([.ref h0, .int p0, .int p1])).length) Slot.unset).toArray = ls at hl ⊢
  have hl : lv_has ls 5 [(0, .ref h0), (1, .int p0), (2, .int p1)] := hl
  refine lv_aload_n hx hb dX11_line_0 rfl (lv_at hl 0 rfl) ?_
  refine lv_iload_n hx hb dX11_line_1 rfl (lv_at hl 1 rfl) ?_
  have hPc := hP.sub (ws' := [(h0, .inr (10, [.ref pg, .ref pl, .ref it, .int 0, .ref ac, .int 0, .ref rv, .int 0, .int 0]))]) [0] rfl
  have hKc := hK.sub (tys' := []) [] rfl
  refine va_csq (va_runV (As := [.int p0]) (rest := []) ⟨hx, hb, hml, hown, hts⟩ (x_itemOf0 l dC dI h0 pg pl it ac rv p0) (cwV 1 hts gX11_line_X11_itemOf rfl rfl rfl (by decide +kernel) ⟨Nat.le_of_ble_eq_true rfl, Nat.le_of_ble_eq_true rfl⟩) ⟨pw_fb, va_recv hKc hPc (ci := 10) (q0 := 0) rfl rfl, fun U hU hW => ⟨rfl, pw_to hU hW hPc hKc hN⟩⟩ rfl rfl hl.1 rfl (lv_room (Nat.le_of_ble_eq_true rfl)) dX11_line_2 ⟨Nat.le_of_ble_eq_true rfl, Nat.le_of_ble_eq_true rfl⟩).run (fun r hw => ?_)
  obtain rfl : r = none := hw
  refine W.eq (g2 := F0 m 5 ls [.null]) rfl ?_
  refine lv_astoreN (lv' := [(4, .null), (0, .ref h0), (1, .int p0), (2, .int p1)]) hx hb dX11_line_5 hl (by decide) rfl (fun ls hl => ?_)
  refine lv_aloadN hx hb dX11_line_7 (lv_at hl 0 rfl) ?_
  refine lv_instN hx hb dX11_line_9 ?_
  refine lv_if_eq (tgt := 32) hx hb dX11_line_12 (by decide) (fun c_1 => ?_) (fun c_1 => absurd (by decide) c_1)
  refine lv_iconst (v := (-1)) hx hb dX11_line_32 (by decide) ?_
  exact W.iret (v := (-1)) hx hb hr (fun t ht hW => ⟨_, rfl, (by simp [bi]), ht⟩) (fun q h => absurd h List.not_mem_nil) dX11_line_33
set_option maxHeartbeats 4000000 in
set_option maxRecDepth 100000 in
theorem x_head (l : Launch) (dC : Nat → ClassId) (dI : Nat → Nat → Nat) (h0 pg pl it ac rv : Nat) (p0 p1 p2 : Int32) : Met l yX11_head wsX11_head ({ frames := 2, cells := 0, slots := 0, locals := 43 }) (va_Pc [.ref h0, .int p0, .int p1, .int p2] (PW dC dI [(h0, .inr (10, [.ref pg, .ref pl, .ref it, .int 0, .ref ac, .int 0, .ref rv, .int 0, .int 0]))] [])) (vp_Si (fun r => r = (-1))) 0 0 (fun _ => False) := by
  refine Met.ofW (cc := cX11_head) (maxL := 6) (ret := (some .int)) (by decide) rfl ?_
  intro p e s m args below meth c s₁ B hml hv
  obtain ⟨rfl, hP, hK, hN⟩ := hv
  have hx := B.exec
  have hb := B.bytes
  have hr := B.returns
  have hts := atoms_spec (ws := wsX11_head) B.pre
  have hown : s.vm.findClass RX11 = some m.cls := findClass_of_methodNamed B.named
  have hlocks := B.notSynchronized
  have hl := lv_entry ([.ref h0, .int p0, .int p1, .int p2]) (n := 6) (Nat.le_of_ble_eq_true rfl)
  rw [lg_entry_eq]
  generalize (lg_sl ([.ref h0, .int p0, .int p1, .int p2]) ++ List.replicate (6 - (lg_sl ([.ref h0, .int p0, .int p1, .int p2])).length) Slot.unset).toArray = ls at hl ⊢
  have hl : lv_has ls 6 [(0, .ref h0), (1, .int p0), (2, .int p1), (3, .int p2)] := hl
  refine lv_aload_n hx hb dX11_head_0 rfl (lv_at hl 0 rfl) ?_
  refine lv_iload_n hx hb dX11_head_1 rfl (lv_at hl 1 rfl) ?_
  have hPc := hP.sub (ws' := [(h0, .inr (10, [.ref pg, .ref pl, .ref it, .int 0, .ref ac, .int 0, .ref rv, .int 0, .int 0]))]) [0] rfl
  have hKc := hK.sub (tys' := []) [] rfl
  refine va_csq (va_runV (As := [.int p0]) (rest := []) ⟨hx, hb, hml, hown, hts⟩ (x_itemOf0 l dC dI h0 pg pl it ac rv p0) (cwV 1 hts gX11_head_X11_itemOf rfl rfl rfl (by decide +kernel) ⟨Nat.le_of_ble_eq_true rfl, Nat.le_of_ble_eq_true rfl⟩) ⟨pw_fb, va_recv hKc hPc (ci := 10) (q0 := 0) rfl rfl, fun U hU hW => ⟨rfl, pw_to hU hW hPc hKc hN⟩⟩ rfl rfl hl.1 rfl (lv_room (Nat.le_of_ble_eq_true rfl)) dX11_head_2 ⟨Nat.le_of_ble_eq_true rfl, Nat.le_of_ble_eq_true rfl⟩).run (fun r hw => ?_)
  obtain rfl : r = none := hw
  refine W.eq (g2 := F0 m 5 ls [.null]) rfl ?_
  refine lv_astoreN (lv' := [(5, .null), (0, .ref h0), (1, .int p0), (2, .int p1), (3, .int p2)]) hx hb dX11_head_5 hl (by decide) rfl (fun ls hl => ?_)
  refine lv_aloadN hx hb dX11_head_7 (lv_at hl 0 rfl) ?_
  refine lv_instN hx hb dX11_head_9 ?_
  refine lv_if_eq (tgt := 42) hx hb dX11_head_12 (by decide) (fun c_1 => ?_) (fun c_1 => absurd (by decide) c_1)
  refine lv_iconst (v := (-1)) hx hb dX11_head_42 (by decide) ?_
  exact W.iret (v := (-1)) hx hb hr (fun t ht hW => ⟨_, rfl, (by simp [bi]), ht⟩) (fun q h => absurd h List.not_mem_nil) dX11_head_43
set_option maxHeartbeats 4000000 in
set_option maxRecDepth 100000 in
theorem x_size (l : Launch) (dC : Nat → ClassId) (dI : Nat → Nat → Nat) (h0 pg pl it ac rv : Nat) (p0 p1 p2 : Int32) : Met l yX11_size wsX11_size ({ frames := 2, cells := 0, slots := 0, locals := 43 }) (va_Pc [.ref h0, .int p0, .int p1, .int p2] (PW dC dI [(h0, .inr (10, [.ref pg, .ref pl, .ref it, .int 0, .ref ac, .int 0, .ref rv, .int 0, .int 0]))] [])) (vp_Si (fun r => r = (-1))) 0 0 (fun _ => False) := by
  refine Met.ofW (cc := cX11_size) (maxL := 6) (ret := (some .int)) (by decide) rfl ?_
  intro p e s m args below meth c s₁ B hml hv
  obtain ⟨rfl, hP, hK, hN⟩ := hv
  have hx := B.exec
  have hb := B.bytes
  have hr := B.returns
  have hts := atoms_spec (ws := wsX11_size) B.pre
  have hown : s.vm.findClass RX11 = some m.cls := findClass_of_methodNamed B.named
  have hlocks := B.notSynchronized
  have hl := lv_entry ([.ref h0, .int p0, .int p1, .int p2]) (n := 6) (Nat.le_of_ble_eq_true rfl)
  rw [lg_entry_eq]
  generalize (lg_sl ([.ref h0, .int p0, .int p1, .int p2]) ++ List.replicate (6 - (lg_sl ([.ref h0, .int p0, .int p1, .int p2])).length) Slot.unset).toArray = ls at hl ⊢
  have hl : lv_has ls 6 [(0, .ref h0), (1, .int p0), (2, .int p1), (3, .int p2)] := hl
  refine lv_aload_n hx hb dX11_size_0 rfl (lv_at hl 0 rfl) ?_
  refine lv_iload_n hx hb dX11_size_1 rfl (lv_at hl 1 rfl) ?_
  have hPc := hP.sub (ws' := [(h0, .inr (10, [.ref pg, .ref pl, .ref it, .int 0, .ref ac, .int 0, .ref rv, .int 0, .int 0]))]) [0] rfl
  have hKc := hK.sub (tys' := []) [] rfl
  refine va_csq (va_runV (As := [.int p0]) (rest := []) ⟨hx, hb, hml, hown, hts⟩ (x_itemOf0 l dC dI h0 pg pl it ac rv p0) (cwV 1 hts gX11_size_X11_itemOf rfl rfl rfl (by decide +kernel) ⟨Nat.le_of_ble_eq_true rfl, Nat.le_of_ble_eq_true rfl⟩) ⟨pw_fb, va_recv hKc hPc (ci := 10) (q0 := 0) rfl rfl, fun U hU hW => ⟨rfl, pw_to hU hW hPc hKc hN⟩⟩ rfl rfl hl.1 rfl (lv_room (Nat.le_of_ble_eq_true rfl)) dX11_size_2 ⟨Nat.le_of_ble_eq_true rfl, Nat.le_of_ble_eq_true rfl⟩).run (fun r hw => ?_)
  obtain rfl : r = none := hw
  refine W.eq (g2 := F0 m 5 ls [.null]) rfl ?_
  refine lv_astoreN (lv' := [(5, .null), (0, .ref h0), (1, .int p0), (2, .int p1), (3, .int p2)]) hx hb dX11_size_5 hl (by decide) rfl (fun ls hl => ?_)
  refine lv_aloadN hx hb dX11_size_7 (lv_at hl 0 rfl) ?_
  refine lv_instN hx hb dX11_size_9 ?_
  refine lv_if_eq (tgt := 30) hx hb dX11_size_12 (by decide) (fun c_1 => ?_) (fun c_1 => absurd (by decide) c_1)
  refine lv_iconst (v := (-1)) hx hb dX11_size_30 (by decide) ?_
  exact W.iret (v := (-1)) hx hb hr (fun t ht hW => ⟨_, rfl, (by simp [bi]), ht⟩) (fun q h => absurd h List.not_mem_nil) dX11_size_31
set_option maxHeartbeats 4000000 in
set_option maxRecDepth 100000 in
theorem x_notice (l : Launch) (dC : Nat → ClassId) (dI : Nat → Nat → Nat) (h0 pg pl it ac rv : Nat) (p0 p1 : Int32) : Met l yX11_notice wsX11_notice ({ frames := 2, cells := 0, slots := 0, locals := 43 }) (va_Pc [.ref h0, .int p0, .int p1] (PW dC dI [(h0, .inr (10, [.ref pg, .ref pl, .ref it, .int 0, .ref ac, .int 0, .ref rv, .int 0, .int 0]))] [])) (vp_Si (fun r => r = (-1))) 0 0 (fun _ => False) := by
  refine Met.ofW (cc := cX11_notice) (maxL := 4) (ret := (some .int)) (by decide) rfl ?_
  intro p e s m args below meth c s₁ B hml hv
  obtain ⟨rfl, hP, hK, hN⟩ := hv
  have hx := B.exec
  have hb := B.bytes
  have hr := B.returns
  have hts := atoms_spec (ws := wsX11_notice) B.pre
  have hown : s.vm.findClass RX11 = some m.cls := findClass_of_methodNamed B.named
  have hlocks := B.notSynchronized
  have hl := lv_entry ([.ref h0, .int p0, .int p1]) (n := 4) (Nat.le_of_ble_eq_true rfl)
  rw [lg_entry_eq]
  generalize (lg_sl ([.ref h0, .int p0, .int p1]) ++ List.replicate (4 - (lg_sl ([.ref h0, .int p0, .int p1])).length) Slot.unset).toArray = ls at hl ⊢
  have hl : lv_has ls 4 [(0, .ref h0), (1, .int p0), (2, .int p1)] := hl
  refine lv_aload_n hx hb dX11_notice_0 rfl (lv_at hl 0 rfl) ?_
  refine lv_iload_n hx hb dX11_notice_1 rfl (lv_at hl 1 rfl) ?_
  have hPc := hP.sub (ws' := [(h0, .inr (10, [.ref pg, .ref pl, .ref it, .int 0, .ref ac, .int 0, .ref rv, .int 0, .int 0]))]) [0] rfl
  have hKc := hK.sub (tys' := []) [] rfl
  refine va_csq (va_runV (As := [.int p0]) (rest := []) ⟨hx, hb, hml, hown, hts⟩ (x_itemOf0 l dC dI h0 pg pl it ac rv p0) (cwV 1 hts gX11_notice_X11_itemOf rfl rfl rfl (by decide +kernel) ⟨Nat.le_of_ble_eq_true rfl, Nat.le_of_ble_eq_true rfl⟩) ⟨pw_fb, va_recv hKc hPc (ci := 10) (q0 := 0) rfl rfl, fun U hU hW => ⟨rfl, pw_to hU hW hPc hKc hN⟩⟩ rfl rfl hl.1 rfl (lv_room (Nat.le_of_ble_eq_true rfl)) dX11_notice_2 ⟨Nat.le_of_ble_eq_true rfl, Nat.le_of_ble_eq_true rfl⟩).run (fun r hw => ?_)
  obtain rfl : r = none := hw
  refine W.eq (g2 := F0 m 5 ls [.null]) rfl ?_
  refine lv_astore_nN (lv' := [(3, .null), (0, .ref h0), (1, .int p0), (2, .int p1)]) hx hb dX11_notice_5 rfl hl (by decide) rfl (fun ls hl => ?_)
  refine lv_aload_nN hx hb dX11_notice_6 rfl (lv_at hl 0 rfl) ?_
  refine lv_ifnullN (tgt := 27) hx hb dX11_notice_7 (by decide) ?_
  refine lv_iconst (v := (-1)) hx hb dX11_notice_27 (by decide) ?_
  exact W.iret (v := (-1)) hx hb hr (fun t ht hW => ⟨_, rfl, (by simp [bi]), ht⟩) (fun q h => absurd h List.not_mem_nil) dX11_notice_28
set_option maxHeartbeats 4000000 in
set_option maxRecDepth 100000 in
theorem x_picture (l : Launch) (dC : Nat → ClassId) (dI : Nat → Nat → Nat) (h0 pg pl it ac rv : Nat) (cI cZ cT : ClassId) (sz : Nat) : Met l yX11_picture wsX11_picture ({ frames := 3, cells := 5, slots := 22, locals := 67 }) (va_Pc [.ref h0] (fun U => U.heap.size = sz ∧ PW dC dI [(h0, .inr (10, [.ref pg, .ref pl, .ref it, .int 0, .ref ac, .int 0, .ref rv, .int 0, .int 0])), (it, .inl (cT, 80, .inr (.inr (.inr (.inr (fun _ => none))))))] [(cI, .int), (cZ, .boolean), (cT, .object "PageOne$Item")] U ∧ va_D (fun _ => True) [(h0, .inr (10, [.ref pg, .ref pl, .ref it, .int 0, .ref ac, .int 0, .ref rv, .int 0, .int 0])), (it, .inl (cT, 80, .inr (.inr (.inr (.inr (fun _ => none))))))])) (va_Qi (fun (r : Int32) (_ : Unit) => r = 0) (fun _ _ => True) (va_A [(h0, .inr (10, [.ref pg, .ref pl, .ref it, .int 0, .ref ac, .int 0, .ref rv, .int 0, .int 0])), (it, .inl (cT, 80, .inr (.inr (.inr (.inr (fun _ => none))))))] sz)) 5 22 (va_A [(h0, .inr (10, [.ref pg, .ref pl, .ref it, .int 0, .ref ac, .int 0, .ref rv, .int 0, .int 0])), (it, .inl (cT, 80, .inr (.inr (.inr (.inr (fun _ => none))))))] sz) := by
  refine Met.ofW (cc := cX11_picture) (maxL := 1) (ret := (some .int)) (by decide) rfl ?_
  intro p e s m args below meth c s₁ B hml hv
  obtain ⟨rfl, hsz, ⟨hP, hK, hN⟩, hD0⟩ := hv
  have hx := B.exec
  have hb := B.bytes
  have hr := B.returns
  have hts := atoms_spec (ws := wsX11_picture) B.pre
  have hown : s.vm.findClass RX11 = some m.cls := findClass_of_methodNamed B.named
  have hlocks := B.notSynchronized
  subst hsz
  have hD := hD0.self (sz := s.heap.size)
  generalize hAe : va_A [(h0, .inr (10, [.ref pg, .ref pl, .ref it, .int 0, .ref ac, .int 0, .ref rv, .int 0, .int 0])), (it, .inl (cT, 80, .inr (.inr (.inr (.inr (fun _ => none))))))] s.heap.size = A at hD ⊢
  have hA : ∀ q : Nat, s.heap.size ≤ q → A q := fun q h => by rw [← hAe]; exact Or.inr h
  have hS : va_S A s.heap s.heap [] := va_S.rf
  have hP : va_P (dC, dI) vwCl [(h0, .inr (10, [.ref pg, .ref pl, .ref it, .int 0, .ref ac, .int 0, .ref rv, .int 0, .int 0])), (it, .inl (cT, 80, .inr (.inr (.inr (.inr (fun _ => none))))))] s.heap := hP
  have hl := lv_entry ([.ref h0]) (n := 1) (Nat.le_of_ble_eq_true rfl)
  rw [lg_entry_eq]
  generalize (lg_sl ([.ref h0]) ++ List.replicate (1 - (lg_sl ([.ref h0])).length) Slot.unset).toArray = ls at hl ⊢
  have hl : lv_has ls 1 [(0, .ref h0)] := hl
  refine lv_aload_n hx hb dX11_picture_0 rfl (lv_at hl 0 rfl) ?_
  refine va_new (ci := 6) (fs := [.int 0, .int 0, .null, .int 0, .null, .null, .null, .int 0]) (C := RX7) (T := TX7) (N := 8) hx hb hts (by decide +kernel) tyX7 tyX7_ok hown (hts (.classLink RX11 88 RX7) (by decide +kernel)) (hts (.instantiable RX7 8) (by decide +kernel)) (hts (.initialized RX7) (by decide +kernel)) hK hP hD hS hA rfl nwX7 (Nat.le_of_ble_eq_true rfl) (Nat.le_of_ble_eq_true rfl) dX11_picture_1 (fun q_1 H hP hD hS => ?_)
  have hP : va_P (dC, dI) vwCl [(h0, .inr (10, [.ref pg, .ref pl, .ref it, .int 0, .ref ac, .int 0, .ref rv, .int 0, .int 0])), (it, .inl (cT, 80, .inr (.inr (.inr (.inr (fun _ => none)))))), (q_1, .inr (6, [.int 0, .int 0, .null, .int 0, .null, .null, .null, .int 0]))] H := hP
  have hD : va_D A [(h0, .inr (10, [.ref pg, .ref pl, .ref it, .int 0, .ref ac, .int 0, .ref rv, .int 0, .int 0])), (it, .inl (cT, 80, .inr (.inr (.inr (.inr (fun _ => none)))))), (q_1, .inr (6, [.int 0, .int 0, .null, .int 0, .null, .null, .null, .int 0]))] := hD
  refine W.widen (k := 1) (n := 8) (Nat.le_of_ble_eq_true rfl) (Nat.le_of_ble_eq_true rfl) ?_
  refine lv_dup hx hb dX11_picture_4 rfl ?_
  refine lv_aload_n hx hb dX11_picture_5 rfl (lv_at hl 0 rfl) ?_
  refine va_get (D := (dC, dI)) (ci := 10) (v := .int 0) (C := RX11) (T := TX11) (N := 9) hx hb hts (by decide +kernel) hown hK hP 0 rfl rfl 3 (by decide) (hts (.fieldLink RX11 24 "PageOne" "itemCount" "I") (by decide +kernel)) (fun _ h9 => h9) rfl dX11_picture_6 ?_
  have hPc := hP.sub (ws' := [(q_1, .inr (6, [.int 0, .int 0, .null, .int 0, .null, .null, .null, .int 0]))]) [2] rfl
  have hKc := hK.sub (tys' := [(cI, .int)]) [0] rfl
  have hDc := hD.sub (ws' := [(q_1, .inr (6, [.int 0, .int 0, .null, .int 0, .null, .null, .null, .int 0]))]) [2] (by decide) rfl
  have hFc := va_free (wc := [(q_1, .inr (6, [.int 0, .int 0, .null, .int 0, .null, .null, .null, .int 0]))]) hD hS hA [2] rfl
  refine va_callv (va_runI (As := [.int 0]) (rest := [.ref q_1, .ref h0]) ⟨hx, hb, hml, hown, hts⟩ (x_Picture l dC dI q_1 cI 0 H.size) (cwI 1 hts gX11_picture_X7_init rfl rfl rfl (hts (.initialized RX7) (by decide +kernel)) (hts (.methodLink RX11 90 yX7_init) (by decide +kernel)) (hts (.instanceMethod yX7_init) (by decide +kernel)) rfl (by decide +kernel) ⟨Nat.le_of_ble_eq_true rfl, Nat.le_of_ble_eq_true rfl⟩) ⟨gw_fb, fun U hU hW => ⟨rfl, by rw [hU], pw_to hU hW hPc hKc hN, hDc.weaken (fun _ _ _ _ => trivial)⟩⟩ rfl rfl hl.1 rfl (lv_room (Nat.le_of_ble_eq_true rfl)) dX11_picture_9 ⟨Nat.le_of_ble_eq_true rfl, Nat.le_of_ble_eq_true rfl⟩) hS (fun q _ h => hFc q h) hFc (fun u t H1 locs ht hvm hw hB hz1 hk1 hS => ?_)
  obtain ⟨qa_2, qa_3, qa_4, qa_5, hP1, hD1⟩ := hB
  rw [ht] at hP1
  obtain ⟨hP, hD⟩ := va_join (wr := [(h0, .inr (10, [.ref pg, .ref pl, .ref it, .int 0, .ref ac, .int 0, .ref rv, .int 0, .int 0])), (it, .inl (cT, 80, .inr (.inr (.inr (.inr (fun _ => none))))))]) (w1 := [(q_1, .inr (6, [.int 0, .int 2, .ref qa_2, .int 0, .ref qa_3, .ref qa_4, .ref qa_5, .int 0]))]) hP hD [2] [0, 1] rfl rfl (by decide) (by decide) hk1 hFc hP1 hD1
  generalize H1 = H at hP hS ⊢
  have hP : va_P (dC, dI) vwCl [(h0, .inr (10, [.ref pg, .ref pl, .ref it, .int 0, .ref ac, .int 0, .ref rv, .int 0, .int 0])), (it, .inl (cT, 80, .inr (.inr (.inr (.inr (fun _ => none)))))), (q_1, .inr (6, [.int 0, .int 2, .ref qa_2, .int 0, .ref qa_3, .ref qa_4, .ref qa_5, .int 0]))] H := hP
  have hD : va_D A [(h0, .inr (10, [.ref pg, .ref pl, .ref it, .int 0, .ref ac, .int 0, .ref rv, .int 0, .int 0])), (it, .inl (cT, 80, .inr (.inr (.inr (.inr (fun _ => none)))))), (q_1, .inr (6, [.int 0, .int 2, .ref qa_2, .int 0, .ref qa_3, .ref qa_4, .ref qa_5, .int 0]))] := hD
  refine W.widen (k := 5) (n := 22) (Nat.le_of_ble_eq_true rfl) (Nat.le_of_ble_eq_true rfl) ?_
  have hPc := hP.sub (ws' := [(h0, .inr (10, [.ref pg, .ref pl, .ref it, .int 0, .ref ac, .int 0, .ref rv, .int 0, .int 0])), (it, .inl (cT, 80, .inr (.inr (.inr (.inr (fun _ => none)))))), (q_1, .inr (6, [.int 0, .int 2, .ref qa_2, .int 0, .ref qa_3, .ref qa_4, .ref qa_5, .int 0]))]) [0, 1, 2] rfl
  have hKc := hK.sub (tys' := [(cT, .object "PageOne$Item")]) [2] rfl
  have hDc := hD.sub (ws' := [(h0, .inr (10, [.ref pg, .ref pl, .ref it, .int 0, .ref ac, .int 0, .ref rv, .int 0, .int 0])), (it, .inl (cT, 80, .inr (.inr (.inr (.inr (fun _ => none)))))), (q_1, .inr (6, [.int 0, .int 2, .ref qa_2, .int 0, .ref qa_3, .ref qa_4, .ref qa_5, .int 0]))]) [0, 1, 2] (by decide) rfl
  have hFc := va_free (wc := [(h0, .inr (10, [.ref pg, .ref pl, .ref it, .int 0, .ref ac, .int 0, .ref rv, .int 0, .int 0])), (it, .inl (cT, 80, .inr (.inr (.inr (.inr (fun _ => none)))))), (q_1, .inr (6, [.int 0, .int 2, .ref qa_2, .int 0, .ref qa_3, .ref qa_4, .ref qa_5, .int 0]))]) hD hS hA [0, 1, 2] rfl
  refine va_calli (va_runV (As := [.ref q_1]) (rest := []) ⟨hx, hb, hml, hown, hts⟩ (x_enter_Picture l dC dI h0 pg pl it ac rv q_1 0 qa_2 qa_3 qa_4 qa_5 cT 0 0 0 H.size) (cwV 1 hts gX11_picture_X11_enter rfl rfl rfl (by decide +kernel) ⟨Nat.le_of_ble_eq_true rfl, Nat.le_of_ble_eq_true rfl⟩) ⟨gw_fb, va_recv hKc hPc (ci := 10) (q0 := 0) rfl rfl, fun U hU hW => ⟨rfl, by rw [hU], pw_to hU hW hPc hKc hN, hDc.weaken (fun _ _ _ _ => trivial)⟩⟩ rfl rfl hl.1 rfl (lv_room (Nat.le_of_ble_eq_true rfl)) dX11_picture_12 ⟨Nat.le_of_ble_eq_true rfl, Nat.le_of_ble_eq_true rfl⟩) hS (fun q _ h => hFc q h) hFc (fun r u t H1 locs ht hvm hw hB hz1 hk1 hS => ?_)
  have hP1 : va_P (dC, dI) vwCl [] H1 := fun k q h => by simp at h
  have hD1 : va_D (va_A [(h0, .inr (10, [.ref pg, .ref pl, .ref it, .int 0, .ref ac, .int 0, .ref rv, .int 0, .int 0])), (it, .inl (cT, 80, .inr (.inr (.inr (.inr (fun _ => none)))))), (q_1, .inr (6, [.int 0, .int 2, .ref qa_2, .int 0, .ref qa_3, .ref qa_4, .ref qa_5, .int 0]))] H.size) [] := ⟨fun i j p q h => by simp at h, fun k q h => by simp at h⟩
  obtain ⟨hP, hD⟩ := va_join (wr := []) (w1 := []) hP hD [0, 1, 2] [] rfl rfl (by decide) (by decide) hk1 hFc hP1 hD1
  generalize H1 = H at hP hS ⊢
  have hP : va_P (dC, dI) vwCl [] H := hP
  have hD : va_D A [] := hD
  refine W.widen (k := 5) (n := 22) (Nat.le_of_ble_eq_true rfl) (Nat.le_of_ble_eq_true rfl) ?_
  obtain rfl : r = 0 := hw
  exact W.iret (v := 0) hx hb hr (fun t ht hW => ⟨⟨0, (), rfl, (by simp [bi]), trivial⟩, hS.F ht⟩) hS.2.2 dX11_picture_15
set_option maxHeartbeats 4000000 in
set_option maxRecDepth 100000 in
theorem x_paid (l : Launch) (dC : Nat → ClassId) (dI : Nat → Nat → Nat) (h0 pg pl it ac rv : Nat) (cI cZ cT : ClassId) (p0 p1 p2 p3 p4 p5 p6 : Int32) (sz : Nat) : Met l yX11_paid wsX11_paid ({ frames := 3, cells := 5, slots := 421, locals := 70 }) (va_Pc [.ref h0, .int p0, .int p1, .int p2, .int p3, .int p4, .int p5, .int p6] (fun U => U.heap.size = sz ∧ PW dC dI [(h0, .inr (10, [.ref pg, .ref pl, .ref it, .int 0, .ref ac, .int 0, .ref rv, .int 0, .int 0])), (it, .inl (cT, 80, .inr (.inr (.inr (.inr (fun _ => none))))))] [(cI, .int), (cZ, .boolean), (cT, .object "PageOne$Item")] U ∧ va_D (fun _ => True) [(h0, .inr (10, [.ref pg, .ref pl, .ref it, .int 0, .ref ac, .int 0, .ref rv, .int 0, .int 0])), (it, .inl (cT, 80, .inr (.inr (.inr (.inr (fun _ => none))))))])) (va_Qi (fun (r : Int32) (_ : Unit) => r = (if bw p0 0 9 && bw p1 0 11 && (bw p4 1 8 && bw p5 1 60) && bw p6 0 1000 && bw p2 0 (8 - p4) && bw p3 0 (60 - p5) then 0 else (-1))) (fun _ _ => True) (va_A [(h0, .inr (10, [.ref pg, .ref pl, .ref it, .int 0, .ref ac, .int 0, .ref rv, .int 0, .int 0])), (it, .inl (cT, 80, .inr (.inr (.inr (.inr (fun _ => none))))))] sz)) 5 421 (va_A [(h0, .inr (10, [.ref pg, .ref pl, .ref it, .int 0, .ref ac, .int 0, .ref rv, .int 0, .int 0])), (it, .inl (cT, 80, .inr (.inr (.inr (.inr (fun _ => none))))))] sz) := by
  refine Met.ofW (cc := cX11_paid) (maxL := 8) (ret := (some .int)) (by decide) rfl ?_
  intro p e s m args below meth c s₁ B hml hv
  obtain ⟨rfl, hsz, ⟨hP, hK, hN⟩, hD0⟩ := hv
  have hx := B.exec
  have hb := B.bytes
  have hr := B.returns
  have hts := atoms_spec (ws := wsX11_paid) B.pre
  have hown : s.vm.findClass RX11 = some m.cls := findClass_of_methodNamed B.named
  have hlocks := B.notSynchronized
  subst hsz
  have hD := hD0.self (sz := s.heap.size)
  generalize hAe : va_A [(h0, .inr (10, [.ref pg, .ref pl, .ref it, .int 0, .ref ac, .int 0, .ref rv, .int 0, .int 0])), (it, .inl (cT, 80, .inr (.inr (.inr (.inr (fun _ => none))))))] s.heap.size = A at hD ⊢
  have hA : ∀ q : Nat, s.heap.size ≤ q → A q := fun q h => by rw [← hAe]; exact Or.inr h
  have hS : va_S A s.heap s.heap [] := va_S.rf
  have hP : va_P (dC, dI) vwCl [(h0, .inr (10, [.ref pg, .ref pl, .ref it, .int 0, .ref ac, .int 0, .ref rv, .int 0, .int 0])), (it, .inl (cT, 80, .inr (.inr (.inr (.inr (fun _ => none))))))] s.heap := hP
  have hl := lv_entry ([.ref h0, .int p0, .int p1, .int p2, .int p3, .int p4, .int p5, .int p6]) (n := 8) (Nat.le_of_ble_eq_true rfl)
  rw [lg_entry_eq]
  generalize (lg_sl ([.ref h0, .int p0, .int p1, .int p2, .int p3, .int p4, .int p5, .int p6]) ++ List.replicate (8 - (lg_sl ([.ref h0, .int p0, .int p1, .int p2, .int p3, .int p4, .int p5, .int p6])).length) Slot.unset).toArray = ls at hl ⊢
  have hl : lv_has ls 8 [(0, .ref h0), (1, .int p0), (2, .int p1), (3, .int p2), (4, .int p3), (5, .int p4), (6, .int p5), (7, .int p6)] := hl
  refine lv_iload_n hx hb dX11_paid_0 rfl (lv_at hl 1 rfl) ?_
  have hPc := hP.sub (ws' := []) [] rfl
  have hKc := hK.sub (tys' := []) [] rfl
  refine vp_callSi (va_runS (As := [.int p0]) (rest := []) ⟨hx, hb, hml, hown, hts⟩ (x_isBuyer l dC dI p0) (va_cwS 1 hts gX11_paid_X11_isBuyer rfl rfl rfl (by decide +kernel) ⟨Nat.le_of_ble_eq_true rfl, Nat.le_of_ble_eq_true rfl⟩) ⟨pw_fb, fun U hU hW => ⟨rfl, pw_to hU hW hPc hKc hN⟩⟩ rfl rfl hl.1 rfl (lv_room (Nat.le_of_ble_eq_true rfl)) dX11_paid_1 ⟨Nat.le_of_ble_eq_true rfl, Nat.le_of_ble_eq_true rfl⟩).run (fun r hw => ?_)
  rcases Bool.eq_false_or_eq_true (bw p0 0 9) with b_1 | b_1
  ·
    obtain rfl : r = 1 := b_t hw b_1
    refine lv_if_eq (tgt := 36) hx hb dX11_paid_4 (by decide) (fun c_2 => absurd c_2 (by decide)) (fun c_2 => ?_)
    refine lv_iload_n hx hb dX11_paid_7 rfl (lv_at hl 2 rfl) ?_
    have hPc := hP.sub (ws' := []) [] rfl
    have hKc := hK.sub (tys' := []) [] rfl
    refine vp_callSi (va_runS (As := [.int p1]) (rest := []) ⟨hx, hb, hml, hown, hts⟩ (x_isPage l dC dI p1) (va_cwS 1 hts gX11_paid_X11_isPage rfl rfl rfl (by decide +kernel) ⟨Nat.le_of_ble_eq_true rfl, Nat.le_of_ble_eq_true rfl⟩) ⟨pw_fb, fun U hU hW => ⟨rfl, pw_to hU hW hPc hKc hN⟩⟩ rfl rfl hl.1 rfl (lv_room (Nat.le_of_ble_eq_true rfl)) dX11_paid_8 ⟨Nat.le_of_ble_eq_true rfl, Nat.le_of_ble_eq_true rfl⟩).run (fun r hw => ?_)
    rcases Bool.eq_false_or_eq_true (bw p1 0 11) with b_3 | b_3
    ·
      obtain rfl : r = 1 := b_t hw b_3
      refine lv_if_eq (tgt := 36) hx hb dX11_paid_11 (by decide) (fun c_4 => absurd c_4 (by decide)) (fun c_4 => ?_)
      refine lv_iload hx hb dX11_paid_14 (lv_at hl 5 rfl) ?_
      refine lv_iload hx hb dX11_paid_16 (lv_at hl 6 rfl) ?_
      have hPc := hP.sub (ws' := []) [] rfl
      have hKc := hK.sub (tys' := []) [] rfl
      refine vp_callSi (va_runS (As := [.int p4, .int p5]) (rest := []) ⟨hx, hb, hml, hown, hts⟩ (x_isSquare l dC dI p4 p5) (va_cwS 2 hts gX11_paid_X11_isSquare rfl rfl rfl (by decide +kernel) ⟨Nat.le_of_ble_eq_true rfl, Nat.le_of_ble_eq_true rfl⟩) ⟨pw_fb, fun U hU hW => ⟨rfl, pw_to hU hW hPc hKc hN⟩⟩ rfl rfl hl.1 rfl (lv_room (Nat.le_of_ble_eq_true rfl)) dX11_paid_18 ⟨Nat.le_of_ble_eq_true rfl, Nat.le_of_ble_eq_true rfl⟩).run (fun r hw => ?_)
      rcases Bool.eq_false_or_eq_true ((bw p4 1 8 && bw p5 1 60)) with b_5 | b_5
      ·
        obtain rfl : r = 1 := b_t hw b_5
        refine lv_if_eq (tgt := 36) hx hb dX11_paid_21 (by decide) (fun c_6 => absurd c_6 (by decide)) (fun c_6 => ?_)
        refine lv_iload hx hb dX11_paid_24 (lv_at hl 7 rfl) ?_
        refine lv_iconst (v := 0) hx hb dX11_paid_26 (by decide) ?_
        refine lv_sipush (v := 1000) hx hb dX11_paid_27 (by decide) ?_
        have hPc := hP.sub (ws' := []) [] rfl
        have hKc := hK.sub (tys' := []) [] rfl
        refine vp_callSi (va_runS (As := [.int p6, .int 0, .int 1000]) (rest := []) ⟨hx, hb, hml, hown, hts⟩ (x_isWithin l dC dI p6 0 1000) (va_cwS 3 hts gX11_paid_X11_isWithin rfl rfl rfl (by decide +kernel) ⟨Nat.le_of_ble_eq_true rfl, Nat.le_of_ble_eq_true rfl⟩) ⟨pw_fb, fun U hU hW => ⟨rfl, pw_to hU hW hPc hKc hN⟩⟩ rfl rfl hl.1 rfl (lv_room (Nat.le_of_ble_eq_true rfl)) dX11_paid_30 ⟨Nat.le_of_ble_eq_true rfl, Nat.le_of_ble_eq_true rfl⟩).run (fun r hw => ?_)
        rcases Bool.eq_false_or_eq_true (bw p6 0 1000) with b_7 | b_7
        ·
          obtain rfl : r = 1 := b_t hw b_7
          refine lv_if_ne (tgt := 38) hx hb dX11_paid_33 (by decide) (fun c_8 => ?_) (fun c_8 => absurd c_8 (by decide))
          refine lv_iload_n hx hb dX11_paid_38 rfl (lv_at hl 3 rfl) ?_
          refine lv_iconst (v := 0) hx hb dX11_paid_39 (by decide) ?_
          refine lv_bipush (v := 8) hx hb dX11_paid_40 (by decide) ?_
          refine lv_iload hx hb dX11_paid_42 (lv_at hl 5 rfl) ?_
          refine lv_isub hx hb dX11_paid_44 ?_
          have hPc := hP.sub (ws' := []) [] rfl
          have hKc := hK.sub (tys' := []) [] rfl
          refine vp_callSi (va_runS (As := [.int p2, .int 0, .int (8 - p4)]) (rest := []) ⟨hx, hb, hml, hown, hts⟩ (x_isWithin l dC dI p2 0 (8 - p4)) (va_cwS 3 hts gX11_paid_X11_isWithin rfl rfl rfl (by decide +kernel) ⟨Nat.le_of_ble_eq_true rfl, Nat.le_of_ble_eq_true rfl⟩) ⟨pw_fb, fun U hU hW => ⟨rfl, pw_to hU hW hPc hKc hN⟩⟩ rfl rfl hl.1 rfl (lv_room (Nat.le_of_ble_eq_true rfl)) dX11_paid_45 ⟨Nat.le_of_ble_eq_true rfl, Nat.le_of_ble_eq_true rfl⟩).run (fun r hw => ?_)
          rcases Bool.eq_false_or_eq_true (bw p2 0 (8 - p4)) with b_9 | b_9
          ·
            obtain rfl : r = 1 := b_t hw b_9
            refine lv_if_eq (tgt := 65) hx hb dX11_paid_48 (by decide) (fun c_10 => absurd c_10 (by decide)) (fun c_10 => ?_)
            refine lv_iload hx hb dX11_paid_51 (lv_at hl 4 rfl) ?_
            refine lv_iconst (v := 0) hx hb dX11_paid_53 (by decide) ?_
            refine lv_bipush (v := 60) hx hb dX11_paid_54 (by decide) ?_
            refine lv_iload hx hb dX11_paid_56 (lv_at hl 6 rfl) ?_
            refine lv_isub hx hb dX11_paid_58 ?_
            have hPc := hP.sub (ws' := []) [] rfl
            have hKc := hK.sub (tys' := []) [] rfl
            refine vp_callSi (va_runS (As := [.int p3, .int 0, .int (60 - p5)]) (rest := []) ⟨hx, hb, hml, hown, hts⟩ (x_isWithin l dC dI p3 0 (60 - p5)) (va_cwS 3 hts gX11_paid_X11_isWithin rfl rfl rfl (by decide +kernel) ⟨Nat.le_of_ble_eq_true rfl, Nat.le_of_ble_eq_true rfl⟩) ⟨pw_fb, fun U hU hW => ⟨rfl, pw_to hU hW hPc hKc hN⟩⟩ rfl rfl hl.1 rfl (lv_room (Nat.le_of_ble_eq_true rfl)) dX11_paid_59 ⟨Nat.le_of_ble_eq_true rfl, Nat.le_of_ble_eq_true rfl⟩).run (fun r hw => ?_)
            rcases Bool.eq_false_or_eq_true (bw p3 0 (60 - p5)) with b_11 | b_11
            ·
              obtain rfl : r = 1 := b_t hw b_11
              refine lv_if_ne (tgt := 67) hx hb dX11_paid_62 (by decide) (fun c_12 => ?_) (fun c_12 => absurd c_12 (by decide))
              refine lv_aload_n hx hb dX11_paid_67 rfl (lv_at hl 0 rfl) ?_
              refine va_new (ci := 5) (fs := [.int 0, .int 0, .null, .int 0, .null, .int 0, .int 0, .null, .null]) (C := RX6) (T := TX6) (N := 9) hx hb hts (by decide +kernel) tyX6 tyX6_ok hown (hts (.classLink RX11 104 RX6) (by decide +kernel)) (hts (.instantiable RX6 9) (by decide +kernel)) (hts (.initialized RX6) (by decide +kernel)) hK hP hD hS hA rfl nwX6 (Nat.le_of_ble_eq_true rfl) (Nat.le_of_ble_eq_true rfl) dX11_paid_68 (fun q_13 H hP hD hS => ?_)
              have hP : va_P (dC, dI) vwCl [(h0, .inr (10, [.ref pg, .ref pl, .ref it, .int 0, .ref ac, .int 0, .ref rv, .int 0, .int 0])), (it, .inl (cT, 80, .inr (.inr (.inr (.inr (fun _ => none)))))), (q_13, .inr (5, [.int 0, .int 0, .null, .int 0, .null, .int 0, .int 0, .null, .null]))] H := hP
              have hD : va_D A [(h0, .inr (10, [.ref pg, .ref pl, .ref it, .int 0, .ref ac, .int 0, .ref rv, .int 0, .int 0])), (it, .inl (cT, 80, .inr (.inr (.inr (.inr (fun _ => none)))))), (q_13, .inr (5, [.int 0, .int 0, .null, .int 0, .null, .int 0, .int 0, .null, .null]))] := hD
              refine W.widen (k := 1) (n := 9) (Nat.le_of_ble_eq_true rfl) (Nat.le_of_ble_eq_true rfl) ?_
              refine lv_dup hx hb dX11_paid_71 rfl ?_
              refine lv_aload_n hx hb dX11_paid_72 rfl (lv_at hl 0 rfl) ?_
              refine va_get (D := (dC, dI)) (ci := 10) (v := .int 0) (C := RX11) (T := TX11) (N := 9) hx hb hts (by decide +kernel) hown hK hP 0 rfl rfl 3 (by decide) (hts (.fieldLink RX11 24 "PageOne" "itemCount" "I") (by decide +kernel)) (fun _ h9 => h9) rfl dX11_paid_73 ?_
              refine lv_iload_n hx hb dX11_paid_76 rfl (lv_at hl 1 rfl) ?_
              refine lv_iload hx hb dX11_paid_77 (lv_at hl 7 rfl) ?_
              refine va_new (ci := 7) (fs := [.null, .int 0, .int 0, .int 0, .int 0, .int 0]) (C := RX8) (T := TX8) (N := 6) hx hb hts (by decide +kernel) tyX8 tyX8_ok hown (hts (.classLink RX11 106 RX8) (by decide +kernel)) (hts (.instantiable RX8 6) (by decide +kernel)) (hts (.initialized RX8) (by decide +kernel)) hK hP hD hS hA rfl nwX8 (Nat.le_of_ble_eq_true rfl) (Nat.le_of_ble_eq_true rfl) dX11_paid_79 (fun q_14 H hP hD hS => ?_)
              have hP : va_P (dC, dI) vwCl [(h0, .inr (10, [.ref pg, .ref pl, .ref it, .int 0, .ref ac, .int 0, .ref rv, .int 0, .int 0])), (it, .inl (cT, 80, .inr (.inr (.inr (.inr (fun _ => none)))))), (q_13, .inr (5, [.int 0, .int 0, .null, .int 0, .null, .int 0, .int 0, .null, .null])), (q_14, .inr (7, [.null, .int 0, .int 0, .int 0, .int 0, .int 0]))] H := hP
              have hD : va_D A [(h0, .inr (10, [.ref pg, .ref pl, .ref it, .int 0, .ref ac, .int 0, .ref rv, .int 0, .int 0])), (it, .inl (cT, 80, .inr (.inr (.inr (.inr (fun _ => none)))))), (q_13, .inr (5, [.int 0, .int 0, .null, .int 0, .null, .int 0, .int 0, .null, .null])), (q_14, .inr (7, [.null, .int 0, .int 0, .int 0, .int 0, .int 0]))] := hD
              refine W.widen (k := 2) (n := 15) (Nat.le_of_ble_eq_true rfl) (Nat.le_of_ble_eq_true rfl) ?_
              refine lv_dup hx hb dX11_paid_82 rfl ?_
              refine lv_null hx hb dX11_paid_83 ?_
              refine lv_iload_n hx hb dX11_paid_84 rfl (lv_at hl 2 rfl) ?_
              refine lv_iload_n hx hb dX11_paid_85 rfl (lv_at hl 3 rfl) ?_
              refine lv_iload hx hb dX11_paid_86 (lv_at hl 4 rfl) ?_
              refine lv_iload hx hb dX11_paid_88 (lv_at hl 5 rfl) ?_
              refine lv_iload hx hb dX11_paid_90 (lv_at hl 6 rfl) ?_
              have hPc := hP.sub (ws' := [(q_14, .inr (7, [.null, .int 0, .int 0, .int 0, .int 0, .int 0]))]) [3] rfl
              have hKc := hK.sub (tys' := []) [] rfl
              have hDc := hD.sub (ws' := [(q_14, .inr (7, [.null, .int 0, .int 0, .int 0, .int 0, .int 0]))]) [3] (by decide) rfl
              have hFc := va_free (wc := [(q_14, .inr (7, [.null, .int 0, .int 0, .int 0, .int 0, .int 0]))]) hD hS hA [3] rfl
              refine va_callv (va_runI (As := [.null, .int p1, .int p2, .int p3, .int p4, .int p5]) (rest := [.ref q_14, .int p6, .int p0, .int 0, .ref q_13, .ref q_13, .ref h0]) ⟨hx, hb, hml, hown, hts⟩ (x_Piece l dC dI q_14 p1 p2 p3 p4 p5 H.size) (cwI 6 hts gX11_paid_X8_init rfl rfl rfl (hts (.initialized RX8) (by decide +kernel)) (hts (.methodLink RX11 108 yX8_init) (by decide +kernel)) (hts (.instanceMethod yX8_init) (by decide +kernel)) rfl (by decide +kernel) ⟨Nat.le_of_ble_eq_true rfl, Nat.le_of_ble_eq_true rfl⟩) ⟨gw_fb, fun U hU hW => ⟨rfl, by rw [hU], pw_to hU hW hPc hKc hN, hDc.weaken (fun _ _ _ _ => trivial)⟩⟩ rfl rfl hl.1 rfl (lv_room (Nat.le_of_ble_eq_true rfl)) dX11_paid_92 ⟨Nat.le_of_ble_eq_true rfl, Nat.le_of_ble_eq_true rfl⟩) hS (fun q _ h => hFc q h) hFc (fun u t H1 locs ht hvm hw hB hz1 hk1 hS => ?_)
              obtain ⟨hP1, hD1⟩ := hB
              rw [ht] at hP1
              obtain ⟨hP, hD⟩ := va_join (wr := [(h0, .inr (10, [.ref pg, .ref pl, .ref it, .int 0, .ref ac, .int 0, .ref rv, .int 0, .int 0])), (it, .inl (cT, 80, .inr (.inr (.inr (.inr (fun _ => none)))))), (q_13, .inr (5, [.int 0, .int 0, .null, .int 0, .null, .int 0, .int 0, .null, .null]))]) (w1 := [(q_14, .inr (7, [.null, .int p1, .int p2, .int p3, .int p4, .int p5]))]) hP hD [3] [0, 1, 2] rfl rfl (by decide) (by decide) hk1 hFc hP1 hD1
              generalize H1 = H at hP hS ⊢
              have hP : va_P (dC, dI) vwCl [(h0, .inr (10, [.ref pg, .ref pl, .ref it, .int 0, .ref ac, .int 0, .ref rv, .int 0, .int 0])), (it, .inl (cT, 80, .inr (.inr (.inr (.inr (fun _ => none)))))), (q_13, .inr (5, [.int 0, .int 0, .null, .int 0, .null, .int 0, .int 0, .null, .null])), (q_14, .inr (7, [.null, .int p1, .int p2, .int p3, .int p4, .int p5]))] H := hP
              have hD : va_D A [(h0, .inr (10, [.ref pg, .ref pl, .ref it, .int 0, .ref ac, .int 0, .ref rv, .int 0, .int 0])), (it, .inl (cT, 80, .inr (.inr (.inr (.inr (fun _ => none)))))), (q_13, .inr (5, [.int 0, .int 0, .null, .int 0, .null, .int 0, .int 0, .null, .null])), (q_14, .inr (7, [.null, .int p1, .int p2, .int p3, .int p4, .int p5]))] := hD
              refine W.widen (k := 2) (n := 15) (Nat.le_of_ble_eq_true rfl) (Nat.le_of_ble_eq_true rfl) ?_
              have hPc := hP.sub (ws' := [(q_13, .inr (5, [.int 0, .int 0, .null, .int 0, .null, .int 0, .int 0, .null, .null]))]) [2] rfl
              have hKc := hK.sub (tys' := [(cI, .int), (cZ, .boolean)]) [0, 1] rfl
              have hDc := hD.sub (ws' := [(q_13, .inr (5, [.int 0, .int 0, .null, .int 0, .null, .int 0, .int 0, .null, .null]))]) [2] (by decide) rfl
              have hFc := va_free (wc := [(q_13, .inr (5, [.int 0, .int 0, .null, .int 0, .null, .int 0, .int 0, .null, .null]))]) hD hS hA [2] rfl
              refine va_callv (va_runI (As := [.int 0, .int p0, .int p6, .ref q_14]) (rest := [.ref q_13, .ref h0]) ⟨hx, hb, hml, hown, hts⟩ (x_Paid l dC dI q_13 q_14 cI cZ 0 p0 p6 H.size) (cwI 4 hts gX11_paid_X6_init rfl rfl rfl (hts (.initialized RX6) (by decide +kernel)) (hts (.methodLink RX11 111 yX6_init) (by decide +kernel)) (hts (.instanceMethod yX6_init) (by decide +kernel)) rfl (by decide +kernel) ⟨Nat.le_of_ble_eq_true rfl, Nat.le_of_ble_eq_true rfl⟩) ⟨gw_fb, fun U hU hW => ⟨rfl, by rw [hU], pw_to hU hW hPc hKc hN, hDc.weaken (fun _ _ _ _ => trivial)⟩⟩ rfl rfl hl.1 rfl (lv_room (Nat.le_of_ble_eq_true rfl)) dX11_paid_95 ⟨Nat.le_of_ble_eq_true rfl, Nat.le_of_ble_eq_true rfl⟩) hS (fun q _ h => hFc q h) hFc (fun u t H1 locs ht hvm hw hB hz1 hk1 hS => ?_)
              obtain ⟨qa_15, qa_16, qa_17, hP1, hD1⟩ := hB
              rw [ht] at hP1
              obtain ⟨hP, hD⟩ := va_join (wr := [(h0, .inr (10, [.ref pg, .ref pl, .ref it, .int 0, .ref ac, .int 0, .ref rv, .int 0, .int 0])), (it, .inl (cT, 80, .inr (.inr (.inr (.inr (fun _ => none)))))), (q_14, .inr (7, [.null, .int p1, .int p2, .int p3, .int p4, .int p5]))]) (w1 := [(q_13, .inr (5, [.int 0, .int 3, .ref qa_15, .int 0, .ref qa_16, .int p0, .int p6, .ref q_14, .ref qa_17]))]) hP hD [2] [0, 1, 3] rfl rfl (by decide) (by decide) hk1 hFc hP1 hD1
              generalize H1 = H at hP hS ⊢
              have hP : va_P (dC, dI) vwCl [(h0, .inr (10, [.ref pg, .ref pl, .ref it, .int 0, .ref ac, .int 0, .ref rv, .int 0, .int 0])), (it, .inl (cT, 80, .inr (.inr (.inr (.inr (fun _ => none)))))), (q_14, .inr (7, [.null, .int p1, .int p2, .int p3, .int p4, .int p5])), (q_13, .inr (5, [.int 0, .int 3, .ref qa_15, .int 0, .ref qa_16, .int p0, .int p6, .ref q_14, .ref qa_17]))] H := hP
              have hD : va_D A [(h0, .inr (10, [.ref pg, .ref pl, .ref it, .int 0, .ref ac, .int 0, .ref rv, .int 0, .int 0])), (it, .inl (cT, 80, .inr (.inr (.inr (.inr (fun _ => none)))))), (q_14, .inr (7, [.null, .int p1, .int p2, .int p3, .int p4, .int p5])), (q_13, .inr (5, [.int 0, .int 3, .ref qa_15, .int 0, .ref qa_16, .int p0, .int p6, .ref q_14, .ref qa_17]))] := hD
              refine W.widen (k := 5) (n := 421) (Nat.le_of_ble_eq_true rfl) (Nat.le_of_ble_eq_true rfl) ?_
              have hPc := hP.sub (ws' := [(h0, .inr (10, [.ref pg, .ref pl, .ref it, .int 0, .ref ac, .int 0, .ref rv, .int 0, .int 0])), (it, .inl (cT, 80, .inr (.inr (.inr (.inr (fun _ => none)))))), (q_13, .inr (5, [.int 0, .int 3, .ref qa_15, .int 0, .ref qa_16, .int p0, .int p6, .ref q_14, .ref qa_17]))]) [0, 1, 3] rfl
              have hKc := hK.sub (tys' := [(cT, .object "PageOne$Item")]) [2] rfl
              have hDc := hD.sub (ws' := [(h0, .inr (10, [.ref pg, .ref pl, .ref it, .int 0, .ref ac, .int 0, .ref rv, .int 0, .int 0])), (it, .inl (cT, 80, .inr (.inr (.inr (.inr (fun _ => none)))))), (q_13, .inr (5, [.int 0, .int 3, .ref qa_15, .int 0, .ref qa_16, .int p0, .int p6, .ref q_14, .ref qa_17]))]) [0, 1, 3] (by decide) rfl
              have hFc := va_free (wc := [(h0, .inr (10, [.ref pg, .ref pl, .ref it, .int 0, .ref ac, .int 0, .ref rv, .int 0, .int 0])), (it, .inl (cT, 80, .inr (.inr (.inr (.inr (fun _ => none)))))), (q_13, .inr (5, [.int 0, .int 3, .ref qa_15, .int 0, .ref qa_16, .int p0, .int p6, .ref q_14, .ref qa_17]))]) hD hS hA [0, 1, 3] rfl
              refine va_calli (va_runV (As := [.ref q_13]) (rest := []) ⟨hx, hb, hml, hown, hts⟩ (x_enter_Paid l dC dI h0 pg pl it ac rv q_13 q_14 qa_15 qa_16 qa_17 cT 0 p0 p6 H.size) (cwV 1 hts gX11_paid_X11_enter rfl rfl rfl (by decide +kernel) ⟨Nat.le_of_ble_eq_true rfl, Nat.le_of_ble_eq_true rfl⟩) ⟨gw_fb, va_recv hKc hPc (ci := 10) (q0 := 0) rfl rfl, fun U hU hW => ⟨rfl, by rw [hU], pw_to hU hW hPc hKc hN, hDc.weaken (fun _ _ _ _ => trivial)⟩⟩ rfl rfl hl.1 rfl (lv_room (Nat.le_of_ble_eq_true rfl)) dX11_paid_98 ⟨Nat.le_of_ble_eq_true rfl, Nat.le_of_ble_eq_true rfl⟩) hS (fun q _ h => hFc q h) hFc (fun r u t H1 locs ht hvm hw hB hz1 hk1 hS => ?_)
              have hP1 : va_P (dC, dI) vwCl [] H1 := fun k q h => by simp at h
              have hD1 : va_D (va_A [(h0, .inr (10, [.ref pg, .ref pl, .ref it, .int 0, .ref ac, .int 0, .ref rv, .int 0, .int 0])), (it, .inl (cT, 80, .inr (.inr (.inr (.inr (fun _ => none)))))), (q_13, .inr (5, [.int 0, .int 3, .ref qa_15, .int 0, .ref qa_16, .int p0, .int p6, .ref q_14, .ref qa_17]))] H.size) [] := ⟨fun i j p q h => by simp at h, fun k q h => by simp at h⟩
              obtain ⟨hP, hD⟩ := va_join (wr := [(q_14, .inr (7, [.null, .int p1, .int p2, .int p3, .int p4, .int p5]))]) (w1 := []) hP hD [0, 1, 3] [2] rfl rfl (by decide) (by decide) hk1 hFc hP1 hD1
              generalize H1 = H at hP hS ⊢
              have hP : va_P (dC, dI) vwCl [(q_14, .inr (7, [.null, .int p1, .int p2, .int p3, .int p4, .int p5]))] H := hP
              have hD : va_D A [(q_14, .inr (7, [.null, .int p1, .int p2, .int p3, .int p4, .int p5]))] := hD
              refine W.widen (k := 5) (n := 421) (Nat.le_of_ble_eq_true rfl) (Nat.le_of_ble_eq_true rfl) ?_
              obtain rfl : r = 0 := hw
              exact W.iret (v := 0) hx hb hr (fun t ht hW => ⟨⟨0, (), rfl, (by simp [bi, b_1, b_3, b_5, b_7, b_9, b_11]), trivial⟩, hS.F ht⟩) hS.2.2 dX11_paid_101
            ·
              obtain rfl : r = 0 := b_f hw b_11
              refine lv_if_ne (tgt := 67) hx hb dX11_paid_62 (by decide) (fun c_18 => absurd (by decide) c_18) (fun c_18 => ?_)
              refine lv_iconst (v := (-1)) hx hb dX11_paid_65 (by decide) ?_
              refine W.widen (k := 5) (n := 421) (Nat.le_of_ble_eq_true rfl) (Nat.le_of_ble_eq_true rfl) ?_
              exact W.iret (v := (-1)) hx hb hr (fun t ht hW => ⟨⟨(-1), (), rfl, (by simp [bi, b_1, b_3, b_5, b_7, b_9, b_11]), trivial⟩, hS.F ht⟩) hS.2.2 dX11_paid_66
          ·
            obtain rfl : r = 0 := b_f hw b_9
            refine lv_if_eq (tgt := 65) hx hb dX11_paid_48 (by decide) (fun c_19 => ?_) (fun c_19 => absurd (by decide) c_19)
            refine lv_iconst (v := (-1)) hx hb dX11_paid_65 (by decide) ?_
            refine W.widen (k := 5) (n := 421) (Nat.le_of_ble_eq_true rfl) (Nat.le_of_ble_eq_true rfl) ?_
            exact W.iret (v := (-1)) hx hb hr (fun t ht hW => ⟨⟨(-1), (), rfl, (by simp [bi, b_1, b_3, b_5, b_7, b_9]), trivial⟩, hS.F ht⟩) hS.2.2 dX11_paid_66
        ·
          obtain rfl : r = 0 := b_f hw b_7
          refine lv_if_ne (tgt := 38) hx hb dX11_paid_33 (by decide) (fun c_20 => absurd (by decide) c_20) (fun c_20 => ?_)
          refine lv_iconst (v := (-1)) hx hb dX11_paid_36 (by decide) ?_
          refine W.widen (k := 5) (n := 421) (Nat.le_of_ble_eq_true rfl) (Nat.le_of_ble_eq_true rfl) ?_
          exact W.iret (v := (-1)) hx hb hr (fun t ht hW => ⟨⟨(-1), (), rfl, (by simp [bi, b_1, b_3, b_5, b_7]), trivial⟩, hS.F ht⟩) hS.2.2 dX11_paid_37
      ·
        obtain rfl : r = 0 := b_f hw b_5
        refine lv_if_eq (tgt := 36) hx hb dX11_paid_21 (by decide) (fun c_21 => ?_) (fun c_21 => absurd (by decide) c_21)
        refine lv_iconst (v := (-1)) hx hb dX11_paid_36 (by decide) ?_
        refine W.widen (k := 5) (n := 421) (Nat.le_of_ble_eq_true rfl) (Nat.le_of_ble_eq_true rfl) ?_
        exact W.iret (v := (-1)) hx hb hr (fun t ht hW => ⟨⟨(-1), (), rfl, (by simp [bi, b_1, b_3, b_5]), trivial⟩, hS.F ht⟩) hS.2.2 dX11_paid_37
    ·
      obtain rfl : r = 0 := b_f hw b_3
      refine lv_if_eq (tgt := 36) hx hb dX11_paid_11 (by decide) (fun c_22 => ?_) (fun c_22 => absurd (by decide) c_22)
      refine lv_iconst (v := (-1)) hx hb dX11_paid_36 (by decide) ?_
      refine W.widen (k := 5) (n := 421) (Nat.le_of_ble_eq_true rfl) (Nat.le_of_ble_eq_true rfl) ?_
      exact W.iret (v := (-1)) hx hb hr (fun t ht hW => ⟨⟨(-1), (), rfl, (by simp [bi, b_1, b_3]), trivial⟩, hS.F ht⟩) hS.2.2 dX11_paid_37
  ·
    obtain rfl : r = 0 := b_f hw b_1
    refine lv_if_eq (tgt := 36) hx hb dX11_paid_4 (by decide) (fun c_23 => ?_) (fun c_23 => absurd (by decide) c_23)
    refine lv_iconst (v := (-1)) hx hb dX11_paid_36 (by decide) ?_
    refine W.widen (k := 5) (n := 421) (Nat.le_of_ble_eq_true rfl) (Nat.le_of_ble_eq_true rfl) ?_
    exact W.iret (v := (-1)) hx hb hr (fun t ht hW => ⟨⟨(-1), (), rfl, (by simp [bi, b_1]), trivial⟩, hS.F ht⟩) hS.2.2 dX11_paid_37
set_option maxHeartbeats 4000000 in
set_option maxRecDepth 100000 in
theorem x_filler (l : Launch) (dC : Nat → ClassId) (dI : Nat → Nat → Nat) (h0 pg pl it ac rv : Nat) (cI cZ cT : ClassId) (p0 p1 : Int32) (sz : Nat) : Met l yX11_filler wsX11_filler ({ frames := 3, cells := 3, slots := 13, locals := 69 }) (va_Pc [.ref h0, .int p0, .int p1] (fun U => U.heap.size = sz ∧ PW dC dI [(h0, .inr (10, [.ref pg, .ref pl, .ref it, .int 0, .ref ac, .int 0, .ref rv, .int 0, .int 0])), (it, .inl (cT, 80, .inr (.inr (.inr (.inr (fun _ => none))))))] [(cI, .int), (cZ, .boolean), (cT, .object "PageOne$Item")] U ∧ va_D (fun _ => True) [(h0, .inr (10, [.ref pg, .ref pl, .ref it, .int 0, .ref ac, .int 0, .ref rv, .int 0, .int 0])), (it, .inl (cT, 80, .inr (.inr (.inr (.inr (fun _ => none))))))])) (va_Qi (fun (r : Int32) (_ : Unit) => r = (if bw p1 1 60 && bw p0 1 p1 then 0 else (-1))) (fun _ _ => True) (va_A [(h0, .inr (10, [.ref pg, .ref pl, .ref it, .int 0, .ref ac, .int 0, .ref rv, .int 0, .int 0])), (it, .inl (cT, 80, .inr (.inr (.inr (.inr (fun _ => none))))))] sz)) 3 13 (va_A [(h0, .inr (10, [.ref pg, .ref pl, .ref it, .int 0, .ref ac, .int 0, .ref rv, .int 0, .int 0])), (it, .inl (cT, 80, .inr (.inr (.inr (.inr (fun _ => none))))))] sz) := by
  refine Met.ofW (cc := cX11_filler) (maxL := 3) (ret := (some .int)) (by decide) rfl ?_
  intro p e s m args below meth c s₁ B hml hv
  obtain ⟨rfl, hsz, ⟨hP, hK, hN⟩, hD0⟩ := hv
  have hx := B.exec
  have hb := B.bytes
  have hr := B.returns
  have hts := atoms_spec (ws := wsX11_filler) B.pre
  have hown : s.vm.findClass RX11 = some m.cls := findClass_of_methodNamed B.named
  have hlocks := B.notSynchronized
  subst hsz
  have hD := hD0.self (sz := s.heap.size)
  generalize hAe : va_A [(h0, .inr (10, [.ref pg, .ref pl, .ref it, .int 0, .ref ac, .int 0, .ref rv, .int 0, .int 0])), (it, .inl (cT, 80, .inr (.inr (.inr (.inr (fun _ => none))))))] s.heap.size = A at hD ⊢
  have hA : ∀ q : Nat, s.heap.size ≤ q → A q := fun q h => by rw [← hAe]; exact Or.inr h
  have hS : va_S A s.heap s.heap [] := va_S.rf
  have hP : va_P (dC, dI) vwCl [(h0, .inr (10, [.ref pg, .ref pl, .ref it, .int 0, .ref ac, .int 0, .ref rv, .int 0, .int 0])), (it, .inl (cT, 80, .inr (.inr (.inr (.inr (fun _ => none))))))] s.heap := hP
  have hl := lv_entry ([.ref h0, .int p0, .int p1]) (n := 3) (Nat.le_of_ble_eq_true rfl)
  rw [lg_entry_eq]
  generalize (lg_sl ([.ref h0, .int p0, .int p1]) ++ List.replicate (3 - (lg_sl ([.ref h0, .int p0, .int p1])).length) Slot.unset).toArray = ls at hl ⊢
  have hl : lv_has ls 3 [(0, .ref h0), (1, .int p0), (2, .int p1)] := hl
  refine lv_iload_n hx hb dX11_filler_0 rfl (lv_at hl 2 rfl) ?_
  refine lv_iconst (v := 1) hx hb dX11_filler_1 (by decide) ?_
  refine lv_bipush (v := 60) hx hb dX11_filler_2 (by decide) ?_
  have hPc := hP.sub (ws' := []) [] rfl
  have hKc := hK.sub (tys' := []) [] rfl
  refine vp_callSi (va_runS (As := [.int p1, .int 1, .int 60]) (rest := []) ⟨hx, hb, hml, hown, hts⟩ (x_isWithin l dC dI p1 1 60) (va_cwS 3 hts gX11_filler_X11_isWithin rfl rfl rfl (by decide +kernel) ⟨Nat.le_of_ble_eq_true rfl, Nat.le_of_ble_eq_true rfl⟩) ⟨pw_fb, fun U hU hW => ⟨rfl, pw_to hU hW hPc hKc hN⟩⟩ rfl rfl hl.1 rfl (lv_room (Nat.le_of_ble_eq_true rfl)) dX11_filler_4 ⟨Nat.le_of_ble_eq_true rfl, Nat.le_of_ble_eq_true rfl⟩).run (fun r hw => ?_)
  rcases Bool.eq_false_or_eq_true (bw p1 1 60) with b_1 | b_1
  ·
    obtain rfl : r = 1 := b_t hw b_1
    refine lv_if_eq (tgt := 19) hx hb dX11_filler_7 (by decide) (fun c_2 => absurd c_2 (by decide)) (fun c_2 => ?_)
    refine lv_iload_n hx hb dX11_filler_10 rfl (lv_at hl 1 rfl) ?_
    refine lv_iconst (v := 1) hx hb dX11_filler_11 (by decide) ?_
    refine lv_iload_n hx hb dX11_filler_12 rfl (lv_at hl 2 rfl) ?_
    have hPc := hP.sub (ws' := []) [] rfl
    have hKc := hK.sub (tys' := []) [] rfl
    refine vp_callSi (va_runS (As := [.int p0, .int 1, .int p1]) (rest := []) ⟨hx, hb, hml, hown, hts⟩ (x_isWithin l dC dI p0 1 p1) (va_cwS 3 hts gX11_filler_X11_isWithin rfl rfl rfl (by decide +kernel) ⟨Nat.le_of_ble_eq_true rfl, Nat.le_of_ble_eq_true rfl⟩) ⟨pw_fb, fun U hU hW => ⟨rfl, pw_to hU hW hPc hKc hN⟩⟩ rfl rfl hl.1 rfl (lv_room (Nat.le_of_ble_eq_true rfl)) dX11_filler_13 ⟨Nat.le_of_ble_eq_true rfl, Nat.le_of_ble_eq_true rfl⟩).run (fun r hw => ?_)
    rcases Bool.eq_false_or_eq_true (bw p0 1 p1) with b_3 | b_3
    ·
      obtain rfl : r = 1 := b_t hw b_3
      refine lv_if_ne (tgt := 21) hx hb dX11_filler_16 (by decide) (fun c_4 => ?_) (fun c_4 => absurd c_4 (by decide))
      refine lv_aload_n hx hb dX11_filler_21 rfl (lv_at hl 0 rfl) ?_
      refine va_new (ci := 2) (fs := [.int 0, .int 0, .null, .int 0, .null, .int 0, .int 0]) (C := RX2) (T := TX2) (N := 7) hx hb hts (by decide +kernel) tyX2 tyX2_ok hown (hts (.classLink RX11 114 RX2) (by decide +kernel)) (hts (.instantiable RX2 7) (by decide +kernel)) (hts (.initialized RX2) (by decide +kernel)) hK hP hD hS hA rfl nwX2 (Nat.le_of_ble_eq_true rfl) (Nat.le_of_ble_eq_true rfl) dX11_filler_22 (fun q_5 H hP hD hS => ?_)
      have hP : va_P (dC, dI) vwCl [(h0, .inr (10, [.ref pg, .ref pl, .ref it, .int 0, .ref ac, .int 0, .ref rv, .int 0, .int 0])), (it, .inl (cT, 80, .inr (.inr (.inr (.inr (fun _ => none)))))), (q_5, .inr (2, [.int 0, .int 0, .null, .int 0, .null, .int 0, .int 0]))] H := hP
      have hD : va_D A [(h0, .inr (10, [.ref pg, .ref pl, .ref it, .int 0, .ref ac, .int 0, .ref rv, .int 0, .int 0])), (it, .inl (cT, 80, .inr (.inr (.inr (.inr (fun _ => none)))))), (q_5, .inr (2, [.int 0, .int 0, .null, .int 0, .null, .int 0, .int 0]))] := hD
      refine W.widen (k := 1) (n := 7) (Nat.le_of_ble_eq_true rfl) (Nat.le_of_ble_eq_true rfl) ?_
      refine lv_dup hx hb dX11_filler_25 rfl ?_
      refine lv_aload_n hx hb dX11_filler_26 rfl (lv_at hl 0 rfl) ?_
      refine va_get (D := (dC, dI)) (ci := 10) (v := .int 0) (C := RX11) (T := TX11) (N := 9) hx hb hts (by decide +kernel) hown hK hP 0 rfl rfl 3 (by decide) (hts (.fieldLink RX11 24 "PageOne" "itemCount" "I") (by decide +kernel)) (fun _ h9 => h9) rfl dX11_filler_27 ?_
      refine lv_iload_n hx hb dX11_filler_30 rfl (lv_at hl 1 rfl) ?_
      refine lv_iload_n hx hb dX11_filler_31 rfl (lv_at hl 2 rfl) ?_
      have hPc := hP.sub (ws' := [(q_5, .inr (2, [.int 0, .int 0, .null, .int 0, .null, .int 0, .int 0]))]) [2] rfl
      have hKc := hK.sub (tys' := [(cI, .int)]) [0] rfl
      have hDc := hD.sub (ws' := [(q_5, .inr (2, [.int 0, .int 0, .null, .int 0, .null, .int 0, .int 0]))]) [2] (by decide) rfl
      have hFc := va_free (wc := [(q_5, .inr (2, [.int 0, .int 0, .null, .int 0, .null, .int 0, .int 0]))]) hD hS hA [2] rfl
      refine va_callv (va_runI (As := [.int 0, .int p0, .int p1]) (rest := [.ref q_5, .ref h0]) ⟨hx, hb, hml, hown, hts⟩ (x_Filler l dC dI q_5 cI 0 p0 p1 H.size) (cwI 3 hts gX11_filler_X2_init rfl rfl rfl (hts (.initialized RX2) (by decide +kernel)) (hts (.methodLink RX11 116 yX2_init) (by decide +kernel)) (hts (.instanceMethod yX2_init) (by decide +kernel)) rfl (by decide +kernel) ⟨Nat.le_of_ble_eq_true rfl, Nat.le_of_ble_eq_true rfl⟩) ⟨gw_fb, fun U hU hW => ⟨rfl, by rw [hU], pw_to hU hW hPc hKc hN, hDc.weaken (fun _ _ _ _ => trivial)⟩⟩ rfl rfl hl.1 rfl (lv_room (Nat.le_of_ble_eq_true rfl)) dX11_filler_32 ⟨Nat.le_of_ble_eq_true rfl, Nat.le_of_ble_eq_true rfl⟩) hS (fun q _ h => hFc q h) hFc (fun u t H1 locs ht hvm hw hB hz1 hk1 hS => ?_)
      obtain ⟨qa_6, qa_7, hP1, hD1⟩ := hB
      rw [ht] at hP1
      obtain ⟨hP, hD⟩ := va_join (wr := [(h0, .inr (10, [.ref pg, .ref pl, .ref it, .int 0, .ref ac, .int 0, .ref rv, .int 0, .int 0])), (it, .inl (cT, 80, .inr (.inr (.inr (.inr (fun _ => none))))))]) (w1 := [(q_5, .inr (2, [.int 0, .int 4, .ref qa_6, .int 0, .ref qa_7, .int p0, .int p1]))]) hP hD [2] [0, 1] rfl rfl (by decide) (by decide) hk1 hFc hP1 hD1
      generalize H1 = H at hP hS ⊢
      have hP : va_P (dC, dI) vwCl [(h0, .inr (10, [.ref pg, .ref pl, .ref it, .int 0, .ref ac, .int 0, .ref rv, .int 0, .int 0])), (it, .inl (cT, 80, .inr (.inr (.inr (.inr (fun _ => none)))))), (q_5, .inr (2, [.int 0, .int 4, .ref qa_6, .int 0, .ref qa_7, .int p0, .int p1]))] H := hP
      have hD : va_D A [(h0, .inr (10, [.ref pg, .ref pl, .ref it, .int 0, .ref ac, .int 0, .ref rv, .int 0, .int 0])), (it, .inl (cT, 80, .inr (.inr (.inr (.inr (fun _ => none)))))), (q_5, .inr (2, [.int 0, .int 4, .ref qa_6, .int 0, .ref qa_7, .int p0, .int p1]))] := hD
      refine W.widen (k := 3) (n := 13) (Nat.le_of_ble_eq_true rfl) (Nat.le_of_ble_eq_true rfl) ?_
      have hPc := hP.sub (ws' := [(h0, .inr (10, [.ref pg, .ref pl, .ref it, .int 0, .ref ac, .int 0, .ref rv, .int 0, .int 0])), (it, .inl (cT, 80, .inr (.inr (.inr (.inr (fun _ => none)))))), (q_5, .inr (2, [.int 0, .int 4, .ref qa_6, .int 0, .ref qa_7, .int p0, .int p1]))]) [0, 1, 2] rfl
      have hKc := hK.sub (tys' := [(cT, .object "PageOne$Item")]) [2] rfl
      have hDc := hD.sub (ws' := [(h0, .inr (10, [.ref pg, .ref pl, .ref it, .int 0, .ref ac, .int 0, .ref rv, .int 0, .int 0])), (it, .inl (cT, 80, .inr (.inr (.inr (.inr (fun _ => none)))))), (q_5, .inr (2, [.int 0, .int 4, .ref qa_6, .int 0, .ref qa_7, .int p0, .int p1]))]) [0, 1, 2] (by decide) rfl
      have hFc := va_free (wc := [(h0, .inr (10, [.ref pg, .ref pl, .ref it, .int 0, .ref ac, .int 0, .ref rv, .int 0, .int 0])), (it, .inl (cT, 80, .inr (.inr (.inr (.inr (fun _ => none)))))), (q_5, .inr (2, [.int 0, .int 4, .ref qa_6, .int 0, .ref qa_7, .int p0, .int p1]))]) hD hS hA [0, 1, 2] rfl
      refine va_calli (va_runV (As := [.ref q_5]) (rest := []) ⟨hx, hb, hml, hown, hts⟩ (x_enter_Filler l dC dI h0 pg pl it ac rv q_5 0 qa_6 qa_7 cT 0 p0 p1 H.size) (cwV 1 hts gX11_filler_X11_enter rfl rfl rfl (by decide +kernel) ⟨Nat.le_of_ble_eq_true rfl, Nat.le_of_ble_eq_true rfl⟩) ⟨gw_fb, va_recv hKc hPc (ci := 10) (q0 := 0) rfl rfl, fun U hU hW => ⟨rfl, by rw [hU], pw_to hU hW hPc hKc hN, hDc.weaken (fun _ _ _ _ => trivial)⟩⟩ rfl rfl hl.1 rfl (lv_room (Nat.le_of_ble_eq_true rfl)) dX11_filler_35 ⟨Nat.le_of_ble_eq_true rfl, Nat.le_of_ble_eq_true rfl⟩) hS (fun q _ h => hFc q h) hFc (fun r u t H1 locs ht hvm hw hB hz1 hk1 hS => ?_)
      have hP1 : va_P (dC, dI) vwCl [] H1 := fun k q h => by simp at h
      have hD1 : va_D (va_A [(h0, .inr (10, [.ref pg, .ref pl, .ref it, .int 0, .ref ac, .int 0, .ref rv, .int 0, .int 0])), (it, .inl (cT, 80, .inr (.inr (.inr (.inr (fun _ => none)))))), (q_5, .inr (2, [.int 0, .int 4, .ref qa_6, .int 0, .ref qa_7, .int p0, .int p1]))] H.size) [] := ⟨fun i j p q h => by simp at h, fun k q h => by simp at h⟩
      obtain ⟨hP, hD⟩ := va_join (wr := []) (w1 := []) hP hD [0, 1, 2] [] rfl rfl (by decide) (by decide) hk1 hFc hP1 hD1
      generalize H1 = H at hP hS ⊢
      have hP : va_P (dC, dI) vwCl [] H := hP
      have hD : va_D A [] := hD
      refine W.widen (k := 3) (n := 13) (Nat.le_of_ble_eq_true rfl) (Nat.le_of_ble_eq_true rfl) ?_
      obtain rfl : r = 0 := hw
      exact W.iret (v := 0) hx hb hr (fun t ht hW => ⟨⟨0, (), rfl, (by simp [bi, b_1, b_3]), trivial⟩, hS.F ht⟩) hS.2.2 dX11_filler_38
    ·
      obtain rfl : r = 0 := b_f hw b_3
      refine lv_if_ne (tgt := 21) hx hb dX11_filler_16 (by decide) (fun c_8 => absurd (by decide) c_8) (fun c_8 => ?_)
      refine lv_iconst (v := (-1)) hx hb dX11_filler_19 (by decide) ?_
      refine W.widen (k := 3) (n := 13) (Nat.le_of_ble_eq_true rfl) (Nat.le_of_ble_eq_true rfl) ?_
      exact W.iret (v := (-1)) hx hb hr (fun t ht hW => ⟨⟨(-1), (), rfl, (by simp [bi, b_1, b_3]), trivial⟩, hS.F ht⟩) hS.2.2 dX11_filler_20
  ·
    obtain rfl : r = 0 := b_f hw b_1
    refine lv_if_eq (tgt := 19) hx hb dX11_filler_7 (by decide) (fun c_9 => ?_) (fun c_9 => absurd (by decide) c_9)
    refine lv_iconst (v := (-1)) hx hb dX11_filler_19 (by decide) ?_
    refine W.widen (k := 3) (n := 13) (Nat.le_of_ble_eq_true rfl) (Nat.le_of_ble_eq_true rfl) ?_
    exact W.iret (v := (-1)) hx hb hr (fun t ht hW => ⟨⟨(-1), (), rfl, (by simp [bi, b_1]), trivial⟩, hS.F ht⟩) hS.2.2 dX11_filler_20
set_option maxHeartbeats 4000000 in
set_option maxRecDepth 100000 in
theorem x_rival (l : Launch) (dC : Nat → ClassId) (dI : Nat → Nat → Nat) (h0 pg pl it ac rv : Nat) (cZ : ClassId) (p0 p1 : Int32) (sz : Nat) : Met l yX11_rival wsX11_rival ({ frames := 2, cells := 0, slots := 0, locals := 42 }) (va_Pc [.ref h0, .int p0, .int p1] (fun U => U.heap.size = sz ∧ PW dC dI [(h0, .inr (10, [.ref pg, .ref pl, .ref it, .int 0, .ref ac, .int 0, .ref rv, .int 0, .int 0])), (rv, .inl (cZ, 100, .inl (fun _ => 0)))] [(cZ, .boolean)] U ∧ va_D (fun _ => True) [(h0, .inr (10, [.ref pg, .ref pl, .ref it, .int 0, .ref ac, .int 0, .ref rv, .int 0, .int 0])), (rv, .inl (cZ, 100, .inl (fun _ => 0)))])) (va_Qi (fun (r : Int32) (_ : Unit) => r = bi (bw p0 0 9 && bw p1 0 9 && !decide (p0 = p1))) (fun _ _ => True) (va_A [(h0, .inr (10, [.ref pg, .ref pl, .ref it, .int 0, .ref ac, .int 0, .ref rv, .int 0, .int 0])), (rv, .inl (cZ, 100, .inl (fun _ => 0)))] sz)) 0 0 (va_A [(h0, .inr (10, [.ref pg, .ref pl, .ref it, .int 0, .ref ac, .int 0, .ref rv, .int 0, .int 0])), (rv, .inl (cZ, 100, .inl (fun _ => 0)))] sz) := by
  refine Met.ofW (cc := cX11_rival) (maxL := 3) (ret := (some .boolean)) (by decide) rfl ?_
  intro p e s m args below meth c s₁ B hml hv
  obtain ⟨rfl, hsz, ⟨hP, hK, hN⟩, hD0⟩ := hv
  have hx := B.exec
  have hb := B.bytes
  have hr := B.returns
  have hts := atoms_spec (ws := wsX11_rival) B.pre
  have hown : s.vm.findClass RX11 = some m.cls := findClass_of_methodNamed B.named
  have hlocks := B.notSynchronized
  subst hsz
  have hD := hD0.self (sz := s.heap.size)
  generalize hAe : va_A [(h0, .inr (10, [.ref pg, .ref pl, .ref it, .int 0, .ref ac, .int 0, .ref rv, .int 0, .int 0])), (rv, .inl (cZ, 100, .inl (fun _ => 0)))] s.heap.size = A at hD ⊢
  have hA : ∀ q : Nat, s.heap.size ≤ q → A q := fun q h => by rw [← hAe]; exact Or.inr h
  have hS : va_S A s.heap s.heap [] := va_S.rf
  have hP : va_P (dC, dI) vwCl [(h0, .inr (10, [.ref pg, .ref pl, .ref it, .int 0, .ref ac, .int 0, .ref rv, .int 0, .int 0])), (rv, .inl (cZ, 100, .inl (fun _ => 0)))] s.heap := hP
  have hl := lv_entry ([.ref h0, .int p0, .int p1]) (n := 3) (Nat.le_of_ble_eq_true rfl)
  rw [lg_entry_eq]
  generalize (lg_sl ([.ref h0, .int p0, .int p1]) ++ List.replicate (3 - (lg_sl ([.ref h0, .int p0, .int p1])).length) Slot.unset).toArray = ls at hl ⊢
  have hl : lv_has ls 3 [(0, .ref h0), (1, .int p0), (2, .int p1)] := hl
  refine lv_iload_n hx hb dX11_rival_0 rfl (lv_at hl 1 rfl) ?_
  have hPc := hP.sub (ws' := []) [] rfl
  have hKc := hK.sub (tys' := []) [] rfl
  refine vp_callSi (va_runS (As := [.int p0]) (rest := []) ⟨hx, hb, hml, hown, hts⟩ (x_isBuyer l dC dI p0) (va_cwS 1 hts gX11_rival_X11_isBuyer rfl rfl rfl (by decide +kernel) ⟨Nat.le_of_ble_eq_true rfl, Nat.le_of_ble_eq_true rfl⟩) ⟨pw_fb, fun U hU hW => ⟨rfl, pw_to hU hW hPc hKc hN⟩⟩ rfl rfl hl.1 rfl (lv_room (Nat.le_of_ble_eq_true rfl)) dX11_rival_1 ⟨Nat.le_of_ble_eq_true rfl, Nat.le_of_ble_eq_true rfl⟩).run (fun r hw => ?_)
  rcases Bool.eq_false_or_eq_true (bw p0 0 9) with b_1 | b_1
  ·
    obtain rfl : r = 1 := b_t hw b_1
    refine lv_if_eq (tgt := 28) hx hb dX11_rival_4 (by decide) (fun c_2 => absurd c_2 (by decide)) (fun c_2 => ?_)
    refine lv_iload_n hx hb dX11_rival_7 rfl (lv_at hl 2 rfl) ?_
    have hPc := hP.sub (ws' := []) [] rfl
    have hKc := hK.sub (tys' := []) [] rfl
    refine vp_callSi (va_runS (As := [.int p1]) (rest := []) ⟨hx, hb, hml, hown, hts⟩ (x_isBuyer l dC dI p1) (va_cwS 1 hts gX11_rival_X11_isBuyer rfl rfl rfl (by decide +kernel) ⟨Nat.le_of_ble_eq_true rfl, Nat.le_of_ble_eq_true rfl⟩) ⟨pw_fb, fun U hU hW => ⟨rfl, pw_to hU hW hPc hKc hN⟩⟩ rfl rfl hl.1 rfl (lv_room (Nat.le_of_ble_eq_true rfl)) dX11_rival_8 ⟨Nat.le_of_ble_eq_true rfl, Nat.le_of_ble_eq_true rfl⟩).run (fun r hw => ?_)
    rcases Bool.eq_false_or_eq_true (bw p1 0 9) with b_3 | b_3
    ·
      obtain rfl : r = 1 := b_t hw b_3
      refine lv_if_eq (tgt := 28) hx hb dX11_rival_11 (by decide) (fun c_4 => absurd c_4 (by decide)) (fun c_4 => ?_)
      refine lv_iload_n hx hb dX11_rival_14 rfl (lv_at hl 1 rfl) ?_
      refine lv_iload_n hx hb dX11_rival_15 rfl (lv_at hl 2 rfl) ?_
      refine lv_icmp_eq (tgt := 28) hx hb dX11_rival_16 (by decide) (fun c_5 => ?_) (fun c_5 => ?_)
      ·
        refine lv_iconst (v := 0) hx hb dX11_rival_28 (by decide) ?_
        exact W.zret (v := 0) hx hb hr (by decide) (fun t ht hW => ⟨⟨0, (), rfl, (by first | (simp [bi, b_1, b_3, c_5]; done) | (simp only [b_1, b_3]; simp [bi, c_5])), trivial⟩, hS.F ht⟩) hS.2.2 dX11_rival_29
      ·
        refine lv_aload_n hx hb dX11_rival_19 rfl (lv_at hl 0 rfl) ?_
        refine lv_iload_n hx hb dX11_rival_20 rfl (lv_at hl 1 rfl) ?_
        refine lv_iload_n hx hb dX11_rival_21 rfl (lv_at hl 2 rfl) ?_
        have hPc := hP.sub (ws' := [(h0, .inr (10, [.ref pg, .ref pl, .ref it, .int 0, .ref ac, .int 0, .ref rv, .int 0, .int 0])), (rv, .inl (cZ, 100, .inl (fun _ => 0)))]) [0, 1] rfl
        have hKc := hK.sub (tys' := [(cZ, .boolean)]) [0] rfl
        refine vp_callSi (va_runV (As := [.int p0, .int p1]) (rest := []) ⟨hx, hb, hml, hown, hts⟩ (x_areRivals0 l dC dI h0 pg pl it ac rv cZ p0 p1 b_1 b_3) (cwV 2 hts gX11_rival_X11_areRivals rfl rfl rfl (by decide +kernel) ⟨Nat.le_of_ble_eq_true rfl, Nat.le_of_ble_eq_true rfl⟩) ⟨pw_fb, va_recv hKc hPc (ci := 10) (q0 := 0) rfl rfl, fun U hU hW => ⟨rfl, pw_to hU hW hPc hKc hN⟩⟩ rfl rfl hl.1 rfl (lv_room (Nat.le_of_ble_eq_true rfl)) dX11_rival_22 ⟨Nat.le_of_ble_eq_true rfl, Nat.le_of_ble_eq_true rfl⟩).run (fun r hw => ?_)
        obtain rfl : r = 0 := hw
        refine lv_if_eq (tgt := 30) hx hb dX11_rival_25 (by decide) (fun c_6 => ?_) (fun c_6 => absurd (by decide) c_6)
        refine lv_aload_n hx hb dX11_rival_30 rfl (lv_at hl 0 rfl) ?_
        refine va_get (D := (dC, dI)) (ci := 10) (v := .ref rv) (C := RX11) (T := TX11) (N := 9) hx hb hts (by decide +kernel) hown hK hP 0 rfl rfl 6 (by decide) (hts (.fieldLink RX11 37 "PageOne" "rivals" "[Z") (by decide +kernel)) (fun _ h9 => h9) rfl dX11_rival_31 ?_
        refine lv_iload_n hx hb dX11_rival_34 rfl (lv_at hl 1 rfl) ?_
        refine lv_bipush (v := 10) hx hb dX11_rival_35 (by decide) ?_
        refine lv_imul hx hb dX11_rival_37 ?_
        refine lv_iload_n hx hb dX11_rival_38 rfl (lv_at hl 2 rfl) ?_
        refine lv_iadd hx hb dX11_rival_39 ?_
        refine lv_iconst (v := 1) hx hb dX11_rival_40 (by decide) ?_
        refine va_zast hx hb hK hP hD hS 1 0 rfl rfl (vin2 b_1 b_3) dX11_rival_41 (fun H locs hP hD hS => ?_)
        have hP : va_P (dC, dI) vwCl [(h0, .inr (10, [.ref pg, .ref pl, .ref it, .int 0, .ref ac, .int 0, .ref rv, .int 0, .int 0])), (rv, .inl (cZ, 100, .inl (upd (fun _ => 0) (((p0 * 10) + p1) : Int32).toNatClampNeg (vp_nar .boolean 1))))] H := hP
        have hD : va_D A [(h0, .inr (10, [.ref pg, .ref pl, .ref it, .int 0, .ref ac, .int 0, .ref rv, .int 0, .int 0])), (rv, .inl (cZ, 100, .inl (upd (fun _ => 0) (((p0 * 10) + p1) : Int32).toNatClampNeg (vp_nar .boolean 1))))] := hD
        refine lv_aload_n hx hb dX11_rival_42 rfl (lv_at hl 0 rfl) ?_
        refine va_get (D := (dC, dI)) (ci := 10) (v := .ref rv) (C := RX11) (T := TX11) (N := 9) hx hb hts (by decide +kernel) hown hK hP 0 rfl rfl 6 (by decide) (hts (.fieldLink RX11 37 "PageOne" "rivals" "[Z") (by decide +kernel)) (fun _ h9 => h9) rfl dX11_rival_43 ?_
        refine lv_iload_n hx hb dX11_rival_46 rfl (lv_at hl 2 rfl) ?_
        refine lv_bipush (v := 10) hx hb dX11_rival_47 (by decide) ?_
        refine lv_imul hx hb dX11_rival_49 ?_
        refine lv_iload_n hx hb dX11_rival_50 rfl (lv_at hl 1 rfl) ?_
        refine lv_iadd hx hb dX11_rival_51 ?_
        refine lv_iconst (v := 1) hx hb dX11_rival_52 (by decide) ?_
        refine va_zast hx hb hK hP hD hS 1 0 rfl rfl (vin2 b_3 b_1) dX11_rival_53 (fun H locs hP hD hS => ?_)
        have hP : va_P (dC, dI) vwCl [(h0, .inr (10, [.ref pg, .ref pl, .ref it, .int 0, .ref ac, .int 0, .ref rv, .int 0, .int 0])), (rv, .inl (cZ, 100, .inl (upd (upd (fun _ => 0) (((p0 * 10) + p1) : Int32).toNatClampNeg (vp_nar .boolean 1)) (((p1 * 10) + p0) : Int32).toNatClampNeg (vp_nar .boolean 1))))] H := hP
        have hD : va_D A [(h0, .inr (10, [.ref pg, .ref pl, .ref it, .int 0, .ref ac, .int 0, .ref rv, .int 0, .int 0])), (rv, .inl (cZ, 100, .inl (upd (upd (fun _ => 0) (((p0 * 10) + p1) : Int32).toNatClampNeg (vp_nar .boolean 1)) (((p1 * 10) + p0) : Int32).toNatClampNeg (vp_nar .boolean 1))))] := hD
        refine lv_iconst (v := 1) hx hb dX11_rival_54 (by decide) ?_
        exact W.zret (v := 1) hx hb hr (by decide) (fun t ht hW => ⟨⟨1, (), rfl, (by first | (simp [bi, b_1, b_3, c_5]; done) | (simp only [b_1, b_3]; simp [bi, c_5])), trivial⟩, hS.F ht⟩) hS.2.2 dX11_rival_55
    ·
      obtain rfl : r = 0 := b_f hw b_3
      refine lv_if_eq (tgt := 28) hx hb dX11_rival_11 (by decide) (fun c_7 => ?_) (fun c_7 => absurd (by decide) c_7)
      refine lv_iconst (v := 0) hx hb dX11_rival_28 (by decide) ?_
      exact W.zret (v := 0) hx hb hr (by decide) (fun t ht hW => ⟨⟨0, (), rfl, (by simp [bi, b_1, b_3]), trivial⟩, hS.F ht⟩) hS.2.2 dX11_rival_29
  ·
    obtain rfl : r = 0 := b_f hw b_1
    refine lv_if_eq (tgt := 28) hx hb dX11_rival_4 (by decide) (fun c_8 => ?_) (fun c_8 => absurd (by decide) c_8)
    refine lv_iconst (v := 0) hx hb dX11_rival_28 (by decide) ?_
    exact W.zret (v := 0) hx hb hr (by decide) (fun t ht hW => ⟨⟨0, (), rfl, (by simp [bi, b_1]), trivial⟩, hS.F ht⟩) hS.2.2 dX11_rival_29
set_option maxHeartbeats 4000000 in
set_option maxRecDepth 100000 in
theorem x_names (l : Launch) (dC : Nat → ClassId) (dI : Nat → Nat → Nat) (h0 pg pl it ac rv : Nat) (p0 p1 : Int32) : Met l yX11_names wsX11_names ({ frames := 2, cells := 0, slots := 0, locals := 43 }) (va_Pc [.ref h0, .int p0, .int p1] (PW dC dI [(h0, .inr (10, [.ref pg, .ref pl, .ref it, .int 0, .ref ac, .int 0, .ref rv, .int 0, .int 0]))] [])) (vp_Si (fun r => r = 0)) 0 0 (fun _ => False) := by
  refine Met.ofW (cc := cX11_names) (maxL := 5) (ret := (some .boolean)) (by decide) rfl ?_
  intro p e s m args below meth c s₁ B hml hv
  obtain ⟨rfl, hP, hK, hN⟩ := hv
  have hx := B.exec
  have hb := B.bytes
  have hr := B.returns
  have hts := atoms_spec (ws := wsX11_names) B.pre
  have hown : s.vm.findClass RX11 = some m.cls := findClass_of_methodNamed B.named
  have hlocks := B.notSynchronized
  have hl := lv_entry ([.ref h0, .int p0, .int p1]) (n := 5) (Nat.le_of_ble_eq_true rfl)
  rw [lg_entry_eq]
  generalize (lg_sl ([.ref h0, .int p0, .int p1]) ++ List.replicate (5 - (lg_sl ([.ref h0, .int p0, .int p1])).length) Slot.unset).toArray = ls at hl ⊢
  have hl : lv_has ls 5 [(0, .ref h0), (1, .int p0), (2, .int p1)] := hl
  refine lv_aload_n hx hb dX11_names_0 rfl (lv_at hl 0 rfl) ?_
  refine lv_iload_n hx hb dX11_names_1 rfl (lv_at hl 1 rfl) ?_
  have hPc := hP.sub (ws' := [(h0, .inr (10, [.ref pg, .ref pl, .ref it, .int 0, .ref ac, .int 0, .ref rv, .int 0, .int 0]))]) [0] rfl
  have hKc := hK.sub (tys' := []) [] rfl
  refine va_csq (va_runV (As := [.int p0]) (rest := []) ⟨hx, hb, hml, hown, hts⟩ (x_itemOf0 l dC dI h0 pg pl it ac rv p0) (cwV 1 hts gX11_names_X11_itemOf rfl rfl rfl (by decide +kernel) ⟨Nat.le_of_ble_eq_true rfl, Nat.le_of_ble_eq_true rfl⟩) ⟨pw_fb, va_recv hKc hPc (ci := 10) (q0 := 0) rfl rfl, fun U hU hW => ⟨rfl, pw_to hU hW hPc hKc hN⟩⟩ rfl rfl hl.1 rfl (lv_room (Nat.le_of_ble_eq_true rfl)) dX11_names_2 ⟨Nat.le_of_ble_eq_true rfl, Nat.le_of_ble_eq_true rfl⟩).run (fun r hw => ?_)
  obtain rfl : r = none := hw
  refine W.eq (g2 := F0 m 5 ls [.null]) rfl ?_
  refine lv_astoreN (lv' := [(4, .null), (0, .ref h0), (1, .int p0), (2, .int p1)]) hx hb dX11_names_5 hl (by decide) rfl (fun ls hl => ?_)
  refine lv_aloadN hx hb dX11_names_7 (lv_at hl 0 rfl) ?_
  refine lv_instN hx hb dX11_names_9 ?_
  refine lv_if_eq (tgt := 37) hx hb dX11_names_12 (by decide) (fun c_1 => ?_) (fun c_1 => absurd (by decide) c_1)
  refine lv_iconst (v := 0) hx hb dX11_names_37 (by decide) ?_
  exact W.zret (v := 0) hx hb hr (by decide) (fun t ht hW => ⟨_, rfl, (by simp [bi]), ht⟩) (fun q h => absurd h List.not_mem_nil) dX11_names_38
set_option maxHeartbeats 4000000 in
set_option maxRecDepth 100000 in
theorem x_put (l : Launch) (dC : Nat → ClassId) (dI : Nat → Nat → Nat) (h0 pg pl it ac rv : Nat) (p0 p1 p2 p3 p4 : Int32) : Met l yX11_put wsX11_put ({ frames := 2, cells := 0, slots := 0, locals := 43 }) (va_Pc [.ref h0, .int p0, .int p1, .int p2, .int p3, .int p4] (PW dC dI [(h0, .inr (10, [.ref pg, .ref pl, .ref it, .int 0, .ref ac, .int 0, .ref rv, .int 0, .int 0]))] [])) (vp_Si (fun r => r = (-1))) 0 0 (fun _ => False) := by
  refine Met.ofW (cc := cX11_put) (maxL := 8) (ret := (some .int)) (by decide) rfl ?_
  intro p e s m args below meth c s₁ B hml hv
  obtain ⟨rfl, hP, hK, hN⟩ := hv
  have hx := B.exec
  have hb := B.bytes
  have hr := B.returns
  have hts := atoms_spec (ws := wsX11_put) B.pre
  have hown : s.vm.findClass RX11 = some m.cls := findClass_of_methodNamed B.named
  have hlocks := B.notSynchronized
  have hl := lv_entry ([.ref h0, .int p0, .int p1, .int p2, .int p3, .int p4]) (n := 8) (Nat.le_of_ble_eq_true rfl)
  rw [lg_entry_eq]
  generalize (lg_sl ([.ref h0, .int p0, .int p1, .int p2, .int p3, .int p4]) ++ List.replicate (8 - (lg_sl ([.ref h0, .int p0, .int p1, .int p2, .int p3, .int p4])).length) Slot.unset).toArray = ls at hl ⊢
  have hl : lv_has ls 8 [(0, .ref h0), (1, .int p0), (2, .int p1), (3, .int p2), (4, .int p3), (5, .int p4)] := hl
  refine lv_aload_n hx hb dX11_put_0 rfl (lv_at hl 0 rfl) ?_
  refine lv_iload_n hx hb dX11_put_1 rfl (lv_at hl 1 rfl) ?_
  have hPc := hP.sub (ws' := [(h0, .inr (10, [.ref pg, .ref pl, .ref it, .int 0, .ref ac, .int 0, .ref rv, .int 0, .int 0]))]) [0] rfl
  have hKc := hK.sub (tys' := []) [] rfl
  refine va_csq (va_runV (As := [.int p0]) (rest := []) ⟨hx, hb, hml, hown, hts⟩ (x_itemOf0 l dC dI h0 pg pl it ac rv p0) (cwV 1 hts gX11_put_X11_itemOf rfl rfl rfl (by decide +kernel) ⟨Nat.le_of_ble_eq_true rfl, Nat.le_of_ble_eq_true rfl⟩) ⟨pw_fb, va_recv hKc hPc (ci := 10) (q0 := 0) rfl rfl, fun U hU hW => ⟨rfl, pw_to hU hW hPc hKc hN⟩⟩ rfl rfl hl.1 rfl (lv_room (Nat.le_of_ble_eq_true rfl)) dX11_put_2 ⟨Nat.le_of_ble_eq_true rfl, Nat.le_of_ble_eq_true rfl⟩).run (fun r hw => ?_)
  obtain rfl : r = none := hw
  refine W.eq (g2 := F0 m 5 ls [.null]) rfl ?_
  refine lv_astoreN (lv' := [(6, .null), (0, .ref h0), (1, .int p0), (2, .int p1), (3, .int p2), (4, .int p3), (5, .int p4)]) hx hb dX11_put_5 hl (by decide) rfl (fun ls hl => ?_)
  refine lv_aloadN hx hb dX11_put_7 (lv_at hl 0 rfl) ?_
  refine lv_ifnullN (tgt := 26) hx hb dX11_put_9 (by decide) ?_
  refine lv_iconst (v := (-1)) hx hb dX11_put_26 (by decide) ?_
  exact W.iret (v := (-1)) hx hb hr (fun t ht hW => ⟨_, rfl, (by simp [bi]), ht⟩) (fun q h => absurd h List.not_mem_nil) dX11_put_27
set_option maxHeartbeats 4000000 in
set_option maxRecDepth 100000 in
theorem x_lift (l : Launch) (dC : Nat → ClassId) (dI : Nat → Nat → Nat) (h0 pg pl it ac rv : Nat) (p0 : Int32) : Met l yX11_lift wsX11_lift ({ frames := 2, cells := 0, slots := 0, locals := 43 }) (va_Pc [.ref h0, .int p0] (PW dC dI [(h0, .inr (10, [.ref pg, .ref pl, .ref it, .int 0, .ref ac, .int 0, .ref rv, .int 0, .int 0]))] [])) (vp_Si (fun r => r = (-1))) 0 0 (fun _ => False) := by
  refine Met.ofW (cc := cX11_lift) (maxL := 4) (ret := (some .int)) (by decide) rfl ?_
  intro p e s m args below meth c s₁ B hml hv
  obtain ⟨rfl, hP, hK, hN⟩ := hv
  have hx := B.exec
  have hb := B.bytes
  have hr := B.returns
  have hts := atoms_spec (ws := wsX11_lift) B.pre
  have hown : s.vm.findClass RX11 = some m.cls := findClass_of_methodNamed B.named
  have hlocks := B.notSynchronized
  have hl := lv_entry ([.ref h0, .int p0]) (n := 4) (Nat.le_of_ble_eq_true rfl)
  rw [lg_entry_eq]
  generalize (lg_sl ([.ref h0, .int p0]) ++ List.replicate (4 - (lg_sl ([.ref h0, .int p0])).length) Slot.unset).toArray = ls at hl ⊢
  have hl : lv_has ls 4 [(0, .ref h0), (1, .int p0)] := hl
  refine lv_aload_n hx hb dX11_lift_0 rfl (lv_at hl 0 rfl) ?_
  refine lv_iload_n hx hb dX11_lift_1 rfl (lv_at hl 1 rfl) ?_
  have hPc := hP.sub (ws' := [(h0, .inr (10, [.ref pg, .ref pl, .ref it, .int 0, .ref ac, .int 0, .ref rv, .int 0, .int 0]))]) [0] rfl
  have hKc := hK.sub (tys' := []) [] rfl
  refine va_csq (va_runV (As := [.int p0]) (rest := []) ⟨hx, hb, hml, hown, hts⟩ (x_itemOf0 l dC dI h0 pg pl it ac rv p0) (cwV 1 hts gX11_lift_X11_itemOf rfl rfl rfl (by decide +kernel) ⟨Nat.le_of_ble_eq_true rfl, Nat.le_of_ble_eq_true rfl⟩) ⟨pw_fb, va_recv hKc hPc (ci := 10) (q0 := 0) rfl rfl, fun U hU hW => ⟨rfl, pw_to hU hW hPc hKc hN⟩⟩ rfl rfl hl.1 rfl (lv_room (Nat.le_of_ble_eq_true rfl)) dX11_lift_2 ⟨Nat.le_of_ble_eq_true rfl, Nat.le_of_ble_eq_true rfl⟩).run (fun r hw => ?_)
  obtain rfl : r = none := hw
  refine W.eq (g2 := F0 m 5 ls [.null]) rfl ?_
  refine lv_astore_nN (lv' := [(2, .null), (0, .ref h0), (1, .int p0)]) hx hb dX11_lift_5 rfl hl (by decide) rfl (fun ls hl => ?_)
  refine lv_aload_nN hx hb dX11_lift_6 rfl (lv_at hl 0 rfl) ?_
  refine lv_ifnullN (tgt := 17) hx hb dX11_lift_7 (by decide) ?_
  refine lv_iconst (v := (-1)) hx hb dX11_lift_17 (by decide) ?_
  exact W.iret (v := (-1)) hx hb hr (fun t ht hW => ⟨_, rfl, (by simp [bi]), ht⟩) (fun q h => absurd h List.not_mem_nil) dX11_lift_18
set_option maxHeartbeats 4000000 in
set_option maxRecDepth 100000 in
theorem x_rule (l : Launch) (dC : Nat → ClassId) (dI : Nat → Nat → Nat) (h0 pg pl it ac rv : Nat) (sa la ca : Nat → Nat) (cI cS : ClassId) (p0 p1 p2 : Int32) (sz : Nat) : Met l yX11_rule wsX11_rule ({ frames := 4, cells := 1, slots := 6, locals := 87 }) (va_Pc [.ref h0, .int p0, .int p1, .int p2] (fun U => U.heap.size = sz ∧ PW dC dI ([(h0, .inr (10, [.ref pg, .ref pl, .ref it, .int 0, .ref ac, .int 0, .ref rv, .int 0, .int 0])), (pg, .inl (cS, 12, .inr (.inr (.inr (.inr (fun j => some (sa j)))))))] ++ shW cI sa la ca) [(cI, .int), (cS, .object "PageOne$Sheet")] U ∧ va_D (fun _ => True) ([(h0, .inr (10, [.ref pg, .ref pl, .ref it, .int 0, .ref ac, .int 0, .ref rv, .int 0, .int 0])), (pg, .inl (cS, 12, .inr (.inr (.inr (.inr (fun j => some (sa j)))))))] ++ shW cI sa la ca))) (va_Qi (fun (r : Int32) (_ : Unit) => r = 0) (fun _ _ => True) (va_A ([(h0, .inr (10, [.ref pg, .ref pl, .ref it, .int 0, .ref ac, .int 0, .ref rv, .int 0, .int 0])), (pg, .inl (cS, 12, .inr (.inr (.inr (.inr (fun j => some (sa j)))))))] ++ shW cI sa la ca) sz)) 1 6 (va_A ([(h0, .inr (10, [.ref pg, .ref pl, .ref it, .int 0, .ref ac, .int 0, .ref rv, .int 0, .int 0])), (pg, .inl (cS, 12, .inr (.inr (.inr (.inr (fun j => some (sa j)))))))] ++ shW cI sa la ca) sz) := by
  refine Met.ofW (cc := cX11_rule) (maxL := 5) (ret := (some .boolean)) (by decide) rfl ?_
  intro p e s m args below meth c s₁ B hml hv
  obtain ⟨rfl, hsz, ⟨hP, hK, hN⟩, hD0⟩ := hv
  have hx := B.exec
  have hb := B.bytes
  have hr := B.returns
  have hts := atoms_spec (ws := wsX11_rule) B.pre
  have hown : s.vm.findClass RX11 = some m.cls := findClass_of_methodNamed B.named
  have hlocks := B.notSynchronized
  subst hsz
  have hD := hD0.self (sz := s.heap.size)
  generalize hAe : va_A ([(h0, .inr (10, [.ref pg, .ref pl, .ref it, .int 0, .ref ac, .int 0, .ref rv, .int 0, .int 0])), (pg, .inl (cS, 12, .inr (.inr (.inr (.inr (fun j => some (sa j)))))))] ++ shW cI sa la ca) s.heap.size = A at hD ⊢
  have hA : ∀ q : Nat, s.heap.size ≤ q → A q := fun q h => by rw [← hAe]; exact Or.inr h
  have hS : va_S A s.heap s.heap [] := va_S.rf
  have hP : va_P (dC, dI) vwCl ([(h0, .inr (10, [.ref pg, .ref pl, .ref it, .int 0, .ref ac, .int 0, .ref rv, .int 0, .int 0])), (pg, .inl (cS, 12, .inr (.inr (.inr (.inr (fun j => some (sa j)))))))] ++ shW cI sa la ca) s.heap := hP
  have hl := lv_entry ([.ref h0, .int p0, .int p1, .int p2]) (n := 5) (Nat.le_of_ble_eq_true rfl)
  rw [lg_entry_eq]
  generalize (lg_sl ([.ref h0, .int p0, .int p1, .int p2]) ++ List.replicate (5 - (lg_sl ([.ref h0, .int p0, .int p1, .int p2])).length) Slot.unset).toArray = ls at hl ⊢
  have hl : lv_has ls 5 [(0, .ref h0), (1, .int p0), (2, .int p1), (3, .int p2)] := hl
  refine lv_iload_n hx hb dX11_rule_0 rfl (lv_at hl 1 rfl) ?_
  have hPc := hP.sub (ws' := []) [] rfl
  have hKc := hK.sub (tys' := []) [] rfl
  refine vp_callSi (va_runS (As := [.int p0]) (rest := []) ⟨hx, hb, hml, hown, hts⟩ (x_isPage l dC dI p0) (va_cwS 1 hts gX11_rule_X11_isPage rfl rfl rfl (by decide +kernel) ⟨Nat.le_of_ble_eq_true rfl, Nat.le_of_ble_eq_true rfl⟩) ⟨pw_fb, fun U hU hW => ⟨rfl, pw_to hU hW hPc hKc hN⟩⟩ rfl rfl hl.1 rfl (lv_room (Nat.le_of_ble_eq_true rfl)) dX11_rule_1 ⟨Nat.le_of_ble_eq_true rfl, Nat.le_of_ble_eq_true rfl⟩).run (fun r hw => ?_)
  rcases Bool.eq_false_or_eq_true (bw p0 0 11) with b_1 | b_1
  ·
    obtain rfl : r = 1 := b_t hw b_1
    have hj := clamp_lt (n := 12) b_1 (by decide)
    have hP := pick2P hP hj
    have hD := pick2D hD hj
    have hP : va_P (dC, dI) vwCl [(h0, .inr (10, [.ref pg, .ref pl, .ref it, .int 0, .ref ac, .int 0, .ref rv, .int 0, .int 0])), (pg, .inl (cS, 12, .inr (.inr (.inr (.inr (fun j => some (sa j))))))), ((sa p0.toNatClampNeg), .inr (8, [.ref (la p0.toNatClampNeg), .ref (ca p0.toNatClampNeg), .int 100, .int (-1), .int (-1)])), ((la p0.toNatClampNeg), .inl (cI, 8, .inl (fun _ => 0))), ((ca p0.toNatClampNeg), .inl (cI, 480, .inl (fun _ => (-2))))] s.heap := hP
    have hD : va_D A [(h0, .inr (10, [.ref pg, .ref pl, .ref it, .int 0, .ref ac, .int 0, .ref rv, .int 0, .int 0])), (pg, .inl (cS, 12, .inr (.inr (.inr (.inr (fun j => some (sa j))))))), ((sa p0.toNatClampNeg), .inr (8, [.ref (la p0.toNatClampNeg), .ref (ca p0.toNatClampNeg), .int 100, .int (-1), .int (-1)])), ((la p0.toNatClampNeg), .inl (cI, 8, .inl (fun _ => 0))), ((ca p0.toNatClampNeg), .inl (cI, 480, .inl (fun _ => (-2))))] := hD
    refine lv_if_eq (tgt := 14) hx hb dX11_rule_4 (by decide) (fun c_2 => absurd c_2 (by decide)) (fun c_2 => ?_)
    refine lv_aload_n hx hb dX11_rule_7 rfl (lv_at hl 0 rfl) ?_
    have hPc := hP.sub (ws' := [(h0, .inr (10, [.ref pg, .ref pl, .ref it, .int 0, .ref ac, .int 0, .ref rv, .int 0, .int 0]))]) [0] rfl
    have hKc := hK.sub (tys' := []) [] rfl
    refine vp_callSi (va_runV (As := []) (rest := []) ⟨hx, hb, hml, hown, hts⟩ (x_canAct0 l dC dI h0 pg pl it ac rv) (cwV 0 hts gX11_rule_X11_canAct rfl rfl rfl (by decide +kernel) ⟨Nat.le_of_ble_eq_true rfl, Nat.le_of_ble_eq_true rfl⟩) ⟨pw_fb, va_recv hKc hPc (ci := 10) (q0 := 0) rfl rfl, fun U hU hW => ⟨rfl, pw_to hU hW hPc hKc hN⟩⟩ rfl rfl hl.1 rfl (lv_room (Nat.le_of_ble_eq_true rfl)) dX11_rule_8 ⟨Nat.le_of_ble_eq_true rfl, Nat.le_of_ble_eq_true rfl⟩).run (fun r hw => ?_)
    obtain rfl : r = 1 := hw
    refine lv_if_ne (tgt := 16) hx hb dX11_rule_11 (by decide) (fun c_3 => ?_) (fun c_3 => absurd c_3 (by decide))
    refine va_new (ci := 7) (fs := [.null, .int 0, .int 0, .int 0, .int 0, .int 0]) (C := RX8) (T := TX8) (N := 6) hx hb hts (by decide +kernel) tyX8 tyX8_ok hown (hts (.classLink RX11 106 RX8) (by decide +kernel)) (hts (.instantiable RX8 6) (by decide +kernel)) (hts (.initialized RX8) (by decide +kernel)) hK hP hD hS hA rfl nwX8 (Nat.le_of_ble_eq_true rfl) (Nat.le_of_ble_eq_true rfl) dX11_rule_16 (fun q_4 H hP hD hS => ?_)
    have hP : va_P (dC, dI) vwCl [(h0, .inr (10, [.ref pg, .ref pl, .ref it, .int 0, .ref ac, .int 0, .ref rv, .int 0, .int 0])), (pg, .inl (cS, 12, .inr (.inr (.inr (.inr (fun j => some (sa j))))))), ((sa p0.toNatClampNeg), .inr (8, [.ref (la p0.toNatClampNeg), .ref (ca p0.toNatClampNeg), .int 100, .int (-1), .int (-1)])), ((la p0.toNatClampNeg), .inl (cI, 8, .inl (fun _ => 0))), ((ca p0.toNatClampNeg), .inl (cI, 480, .inl (fun _ => (-2)))), (q_4, .inr (7, [.null, .int 0, .int 0, .int 0, .int 0, .int 0]))] H := hP
    have hD : va_D A [(h0, .inr (10, [.ref pg, .ref pl, .ref it, .int 0, .ref ac, .int 0, .ref rv, .int 0, .int 0])), (pg, .inl (cS, 12, .inr (.inr (.inr (.inr (fun j => some (sa j))))))), ((sa p0.toNatClampNeg), .inr (8, [.ref (la p0.toNatClampNeg), .ref (ca p0.toNatClampNeg), .int 100, .int (-1), .int (-1)])), ((la p0.toNatClampNeg), .inl (cI, 8, .inl (fun _ => 0))), ((ca p0.toNatClampNeg), .inl (cI, 480, .inl (fun _ => (-2)))), (q_4, .inr (7, [.null, .int 0, .int 0, .int 0, .int 0, .int 0]))] := hD
    refine W.widen (k := 1) (n := 6) (Nat.le_of_ble_eq_true rfl) (Nat.le_of_ble_eq_true rfl) ?_
    refine lv_dup hx hb dX11_rule_19 rfl ?_
    refine lv_null hx hb dX11_rule_20 ?_
    refine lv_iload_n hx hb dX11_rule_21 rfl (lv_at hl 1 rfl) ?_
    refine lv_iload_n hx hb dX11_rule_22 rfl (lv_at hl 2 rfl) ?_
    refine lv_iload_n hx hb dX11_rule_23 rfl (lv_at hl 3 rfl) ?_
    refine lv_iconst (v := 1) hx hb dX11_rule_24 (by decide) ?_
    refine lv_iconst (v := 1) hx hb dX11_rule_25 (by decide) ?_
    have hPc := hP.sub (ws' := [(q_4, .inr (7, [.null, .int 0, .int 0, .int 0, .int 0, .int 0]))]) [5] rfl
    have hKc := hK.sub (tys' := []) [] rfl
    have hDc := hD.sub (ws' := [(q_4, .inr (7, [.null, .int 0, .int 0, .int 0, .int 0, .int 0]))]) [5] (by decide) rfl
    have hFc := va_free (wc := [(q_4, .inr (7, [.null, .int 0, .int 0, .int 0, .int 0, .int 0]))]) hD hS hA [5] rfl
    refine va_callv (va_runI (As := [.null, .int p0, .int p1, .int p2, .int 1, .int 1]) (rest := [.ref q_4]) ⟨hx, hb, hml, hown, hts⟩ (x_Piece l dC dI q_4 p0 p1 p2 1 1 H.size) (cwI 6 hts gX11_rule_X8_init rfl rfl rfl (hts (.initialized RX8) (by decide +kernel)) (hts (.methodLink RX11 108 yX8_init) (by decide +kernel)) (hts (.instanceMethod yX8_init) (by decide +kernel)) rfl (by decide +kernel) ⟨Nat.le_of_ble_eq_true rfl, Nat.le_of_ble_eq_true rfl⟩) ⟨gw_fb, fun U hU hW => ⟨rfl, by rw [hU], pw_to hU hW hPc hKc hN, hDc.weaken (fun _ _ _ _ => trivial)⟩⟩ rfl rfl hl.1 rfl (lv_room (Nat.le_of_ble_eq_true rfl)) dX11_rule_26 ⟨Nat.le_of_ble_eq_true rfl, Nat.le_of_ble_eq_true rfl⟩) hS (fun q _ h => hFc q h) hFc (fun u t H1 locs ht hvm hw hB hz1 hk1 hS => ?_)
    obtain ⟨hP1, hD1⟩ := hB
    rw [ht] at hP1
    obtain ⟨hP, hD⟩ := va_join (wr := [(h0, .inr (10, [.ref pg, .ref pl, .ref it, .int 0, .ref ac, .int 0, .ref rv, .int 0, .int 0])), (pg, .inl (cS, 12, .inr (.inr (.inr (.inr (fun j => some (sa j))))))), ((sa p0.toNatClampNeg), .inr (8, [.ref (la p0.toNatClampNeg), .ref (ca p0.toNatClampNeg), .int 100, .int (-1), .int (-1)])), ((la p0.toNatClampNeg), .inl (cI, 8, .inl (fun _ => 0))), ((ca p0.toNatClampNeg), .inl (cI, 480, .inl (fun _ => (-2))))]) (w1 := [(q_4, .inr (7, [.null, .int p0, .int p1, .int p2, .int 1, .int 1]))]) hP hD [5] [0, 1, 2, 3, 4] rfl rfl (by decide) (by decide) hk1 hFc hP1 hD1
    generalize H1 = H at hP hS ⊢
    have hP : va_P (dC, dI) vwCl [(h0, .inr (10, [.ref pg, .ref pl, .ref it, .int 0, .ref ac, .int 0, .ref rv, .int 0, .int 0])), (pg, .inl (cS, 12, .inr (.inr (.inr (.inr (fun j => some (sa j))))))), ((sa p0.toNatClampNeg), .inr (8, [.ref (la p0.toNatClampNeg), .ref (ca p0.toNatClampNeg), .int 100, .int (-1), .int (-1)])), ((la p0.toNatClampNeg), .inl (cI, 8, .inl (fun _ => 0))), ((ca p0.toNatClampNeg), .inl (cI, 480, .inl (fun _ => (-2)))), (q_4, .inr (7, [.null, .int p0, .int p1, .int p2, .int 1, .int 1]))] H := hP
    have hD : va_D A [(h0, .inr (10, [.ref pg, .ref pl, .ref it, .int 0, .ref ac, .int 0, .ref rv, .int 0, .int 0])), (pg, .inl (cS, 12, .inr (.inr (.inr (.inr (fun j => some (sa j))))))), ((sa p0.toNatClampNeg), .inr (8, [.ref (la p0.toNatClampNeg), .ref (ca p0.toNatClampNeg), .int 100, .int (-1), .int (-1)])), ((la p0.toNatClampNeg), .inl (cI, 8, .inl (fun _ => 0))), ((ca p0.toNatClampNeg), .inl (cI, 480, .inl (fun _ => (-2)))), (q_4, .inr (7, [.null, .int p0, .int p1, .int p2, .int 1, .int 1]))] := hD
    refine W.widen (k := 1) (n := 6) (Nat.le_of_ble_eq_true rfl) (Nat.le_of_ble_eq_true rfl) ?_
    refine lv_astore (lv' := [(4, .ref q_4), (0, .ref h0), (1, .int p0), (2, .int p1), (3, .int p2)]) hx hb dX11_rule_29 hl (by decide) rfl (fun ls hl => ?_)
    refine lv_aload_n hx hb dX11_rule_31 rfl (lv_at hl 1 rfl) ?_
    refine va_get (D := (dC, dI)) (ci := 10) (v := .ref pg) (C := RX11) (T := TX11) (N := 9) hx hb hts (by decide +kernel) hown hK hP 0 rfl rfl 0 (by decide) (hts (.fieldLink RX11 11 "PageOne" "pages" "[LPageOne$Sheet;") (by decide +kernel)) (fun _ h9 => h9) rfl dX11_rule_32 ?_
    refine lv_iload_n hx hb dX11_rule_35 rfl (lv_at hl 2 rfl) ?_
    refine va_aldq hx hb hK hP 1 1 rfl rfl (vin b_1 (by decide)) dX11_rule_36 ?_
    refine W.eq (g2 := F0 m 37 ls [.ref (sa p0.toNatClampNeg)]) rfl ?_
    refine lv_aload hx hb dX11_rule_37 (lv_at hl 0 rfl) ?_
    have hPc := hP.sub (ws' := [((sa p0.toNatClampNeg), .inr (8, [.ref (la p0.toNatClampNeg), .ref (ca p0.toNatClampNeg), .int 100, .int (-1), .int (-1)])), ((la p0.toNatClampNeg), .inl (cI, 8, .inl (fun _ => 0))), (q_4, .inr (7, [.null, .int p0, .int p1, .int p2, .int 1, .int 1]))]) [2, 3, 5] rfl
    have hKc := hK.sub (tys' := [(cI, .int)]) [0] rfl
    refine vp_callSi (va_runV (As := [.ref q_4]) (rest := []) ⟨hx, hb, hml, hown, hts⟩ (x_isFree0 l dC dI (sa p0.toNatClampNeg) (la p0.toNatClampNeg) (ca p0.toNatClampNeg) q_4 cI p0 p1 p2) (cwV 1 hts gX11_rule_X9_isFree rfl rfl rfl (by decide +kernel) ⟨Nat.le_of_ble_eq_true rfl, Nat.le_of_ble_eq_true rfl⟩) ⟨pw_fb, va_recv hKc hPc (ci := 8) (q0 := 0) rfl rfl, fun U hU hW => ⟨rfl, pw_to hU hW hPc hKc hN⟩⟩ rfl rfl hl.1 rfl (lv_room (Nat.le_of_ble_eq_true rfl)) dX11_rule_39 ⟨Nat.le_of_ble_eq_true rfl, Nat.le_of_ble_eq_true rfl⟩).run (fun r hw => ?_)
    obtain rfl : r = 0 := hw
    refine lv_if_ne (tgt := 47) hx hb dX11_rule_42 (by decide) (fun c_5 => absurd (by decide) c_5) (fun c_5 => ?_)
    refine lv_iconst (v := 0) hx hb dX11_rule_45 (by decide) ?_
    exact W.zret (v := 0) hx hb hr (by decide) (fun t ht hW => ⟨⟨0, (), rfl, (by simp [bi, b_1]), trivial⟩, hS.F ht⟩) hS.2.2 dX11_rule_46
  ·
    obtain rfl : r = 0 := b_f hw b_1
    refine lv_if_eq (tgt := 14) hx hb dX11_rule_4 (by decide) (fun c_6 => ?_) (fun c_6 => absurd (by decide) c_6)
    refine lv_iconst (v := 0) hx hb dX11_rule_14 (by decide) ?_
    refine W.widen (k := 1) (n := 6) (Nat.le_of_ble_eq_true rfl) (Nat.le_of_ble_eq_true rfl) ?_
    exact W.zret (v := 0) hx hb hr (by decide) (fun t ht hW => ⟨⟨0, (), rfl, (by simp [bi, b_1]), trivial⟩, hS.F ht⟩) hS.2.2 dX11_rule_15
set_option maxHeartbeats 4000000 in
set_option maxRecDepth 100000 in
theorem x_fillColumn0 (l : Launch) (dC : Nat → ClassId) (dI : Nat → Nat → Nat) (h0 pg pl it ac rv : Nat) (sa la ca : Nat → Nat) (cI cS : ClassId) (p0 p1 : Int32) (hp : bw p0 0 11 = true) (hq : bw p1 0 7 = true) : Met l yX11_fillColumn wsX11_fillColumn ({ frames := 3, cells := 0, slots := 0, locals := 64 }) (va_Pc [.ref h0, .int p0, .int p1, .null] (PW dC dI [(h0, .inr (10, [.ref pg, .ref pl, .ref it, .int 0, .ref ac, .int 0, .ref rv, .int 0, .int 0])), (pg, .inl (cS, 12, .inr (.inr (.inr (.inr (fun j => some (sa j))))))), ((sa p0.toNatClampNeg), .inr (8, [.ref (la p0.toNatClampNeg), .ref (ca p0.toNatClampNeg), .int 100, .int (-1), .int (-1)])), ((la p0.toNatClampNeg), .inl (cI, 8, .inl (fun _ => 0)))] [(cI, .int), (cS, .object "PageOne$Sheet")])) (va_Sq (fun r => r = none)) 0 0 (fun _ => False) := by
  refine Met.ofW (cc := cX11_fillColumn) (maxL := 10) (ret := (some (.object "PageOne$Act"))) (by decide) rfl ?_
  intro p e s m args below meth c s₁ B hml hv
  obtain ⟨rfl, hP, hK, hN⟩ := hv
  have hx := B.exec
  have hb := B.bytes
  have hr := B.returns
  have hts := atoms_spec (ws := wsX11_fillColumn) B.pre
  have hown : s.vm.findClass RX11 = some m.cls := findClass_of_methodNamed B.named
  have hlocks := B.notSynchronized
  have hl := lv_entry ([.ref h0, .int p0, .int p1, .null]) (n := 10) (Nat.le_of_ble_eq_true rfl)
  rw [lg_entry_eq]
  generalize (lg_sl ([.ref h0, .int p0, .int p1, .null]) ++ List.replicate (10 - (lg_sl ([.ref h0, .int p0, .int p1, .null])).length) Slot.unset).toArray = ls at hl ⊢
  have hl : lv_has ls 10 [(0, .ref h0), (1, .int p0), (2, .int p1), (3, .null)] := hl
  refine lv_aload_n hx hb dX11_fillColumn_0 rfl (lv_at hl 0 rfl) ?_
  refine va_get (D := (dC, dI)) (ci := 10) (v := .ref pg) (C := RX11) (T := TX11) (N := 9) hx hb hts (by decide +kernel) hown hK hP 0 rfl rfl 0 (by decide) (hts (.fieldLink RX11 11 "PageOne" "pages" "[LPageOne$Sheet;") (by decide +kernel)) (fun _ h9 => h9) rfl dX11_fillColumn_1 ?_
  refine lv_iload_n hx hb dX11_fillColumn_4 rfl (lv_at hl 1 rfl) ?_
  refine va_aldq hx hb hK hP 1 1 rfl rfl (vin hp (by decide)) dX11_fillColumn_5 ?_
  refine W.eq (g2 := F0 m 6 ls [.ref (sa p0.toNatClampNeg)]) rfl ?_
  refine lv_astore (lv' := [(4, .ref (sa p0.toNatClampNeg)), (0, .ref h0), (1, .int p0), (2, .int p1), (3, .null)]) hx hb dX11_fillColumn_6 hl (by decide) rfl (fun ls hl => ?_)
  refine lv_aload_nN hx hb dX11_fillColumn_8 rfl (lv_at hl 4 rfl) ?_
  refine lv_astoreN (lv' := [(5, .null), (4, .ref (sa p0.toNatClampNeg)), (0, .ref h0), (1, .int p0), (2, .int p1), (3, .null)]) hx hb dX11_fillColumn_9 hl (by decide) rfl (fun ls hl => ?_)
  refine lv_iconst (v := 0) hx hb dX11_fillColumn_11 (by decide) ?_
  refine lv_istore (lv' := [(6, .int 0), (5, .null), (4, .ref (sa p0.toNatClampNeg)), (0, .ref h0), (1, .int p0), (2, .int p1), (3, .null)]) hx hb dX11_fillColumn_12 hl (by decide) rfl (fun ls hl => ?_)
  refine lv_iconst (v := 0) hx hb dX11_fillColumn_14 (by decide) ?_
  refine lv_istore (lv' := [(7, .int 0), (6, .int 0), (5, .null), (4, .ref (sa p0.toNatClampNeg)), (0, .ref h0), (1, .int p0), (2, .int p1), (3, .null)]) hx hb dX11_fillColumn_15 hl (by decide) rfl (fun ls hl => ?_)
  refine lv_iload hx hb dX11_fillColumn_17 (lv_at hl 0 rfl) ?_
  refine lv_aload hx hb dX11_fillColumn_19 (lv_at hl 3 rfl) ?_
  refine va_get (D := (dC, dI)) (ci := 8) (v := .ref (la p0.toNatClampNeg)) (C := RX9) (T := TX9) (N := 5) hx hb hts (by decide +kernel) hown hK hP 2 rfl rfl 0 (by decide) (hts (.fieldLink RX11 59 "PageOne$Sheet" "lines" "[I") (by decide +kernel)) (fun _ h9 => h9) rfl dX11_fillColumn_21 ?_
  refine lv_iload_n hx hb dX11_fillColumn_24 rfl (lv_at hl 6 rfl) ?_
  refine va_iald hx hb hK hP 3 0 rfl rfl (vin hq (by decide)) dX11_fillColumn_25 ?_
  refine lv_topi (fun k_1 ek_1 => ?_)
  obtain rfl : k_1 = 0 := ek_1
  refine lv_icmp_gt (tgt := 120) hx hb dX11_fillColumn_26 (by decide) (fun c_2 => absurd c_2 (by decide)) (fun c_2 => ?_)
  refine lv_aload hx hb dX11_fillColumn_29 (lv_at hl 3 rfl) ?_
  refine lv_iload_n hx hb dX11_fillColumn_31 rfl (lv_at hl 6 rfl) ?_
  refine lv_iload hx hb dX11_fillColumn_32 (lv_at hl 0 rfl) ?_
  have hPc := hP.sub (ws' := [((sa p0.toNatClampNeg), .inr (8, [.ref (la p0.toNatClampNeg), .ref (ca p0.toNatClampNeg), .int 100, .int (-1), .int (-1)])), ((la p0.toNatClampNeg), .inl (cI, 8, .inl (fun _ => 0)))]) [2, 3] rfl
  have hKc := hK.sub (tys' := [(cI, .int)]) [0] rfl
  refine vp_callSi (va_runV (As := [.int p1, .int 0]) (rest := []) ⟨hx, hb, hml, hown, hts⟩ (x_at0 l dC dI (sa p0.toNatClampNeg) (la p0.toNatClampNeg) (ca p0.toNatClampNeg) cI p1 0) (cwV 2 hts gX11_fillColumn_X9_at rfl rfl rfl (by decide +kernel) ⟨Nat.le_of_ble_eq_true rfl, Nat.le_of_ble_eq_true rfl⟩) ⟨pw_fb, va_recv hKc hPc (ci := 8) (q0 := 0) rfl rfl, fun U hU hW => ⟨rfl, pw_to hU hW hPc hKc hN⟩⟩ rfl rfl hl.1 rfl (lv_room (Nat.le_of_ble_eq_true rfl)) dX11_fillColumn_34 ⟨Nat.le_of_ble_eq_true rfl, Nat.le_of_ble_eq_true rfl⟩).run (fun r hw => ?_)
  obtain rfl : r = (-1) := hw
  refine lv_bipush (v := (-2)) hx hb dX11_fillColumn_37 (by decide) ?_
  refine lv_icmp_ne (tgt := 48) hx hb dX11_fillColumn_39 (by decide) (fun c_3 => ?_) (fun c_3 => absurd c_3 (by decide))
  refine lv_iload hx hb dX11_fillColumn_48 (lv_at hl 1 rfl) ?_
  refine lv_if_le (tgt := 62) hx hb dX11_fillColumn_50 (by decide) (fun c_4 => ?_) (fun c_4 => absurd (by decide) c_4)
  refine lv_null hx hb dX11_fillColumn_62 ?_
  refine lv_astoreN (lv' := [(8, .null), (7, .int 0), (6, .int 0), (5, .null), (4, .ref (sa p0.toNatClampNeg)), (0, .ref h0), (1, .int p0), (2, .int p1), (3, .null)]) hx hb dX11_fillColumn_63 hl (by decide) rfl (fun ls hl => ?_)
  refine lv_aloadN hx hb dX11_fillColumn_65 (lv_at hl 0 rfl) ?_
  refine lv_ifnullN (tgt := 111) hx hb dX11_fillColumn_67 (by decide) ?_
  refine lv_iconst (v := 0) hx hb dX11_fillColumn_111 (by decide) ?_
  refine lv_istore (lv' := [(6, .int 0), (8, .null), (7, .int 0), (5, .null), (4, .ref (sa p0.toNatClampNeg)), (0, .ref h0), (1, .int p0), (2, .int p1), (3, .null)]) hx hb dX11_fillColumn_112 hl (by decide) rfl (fun ls hl => ?_)
  refine lv_iinc (v := 1) (lv' := [(7, .int 1), (6, .int 0), (8, .null), (5, .null), (4, .ref (sa p0.toNatClampNeg)), (0, .ref h0), (1, .int p0), (2, .int p1), (3, .null)]) hx hb dX11_fillColumn_114 hl (k := 2) rfl (by decide) (by decide) rfl (fun ls hl => ?_)
  refine lv_goto (tgt := 17) hx hb dX11_fillColumn_117 (by decide) ?_
  refine lv_iload hx hb dX11_fillColumn_17 (lv_at hl 0 rfl) ?_
  refine lv_aload hx hb dX11_fillColumn_19 (lv_at hl 4 rfl) ?_
  refine va_get (D := (dC, dI)) (ci := 8) (v := .ref (la p0.toNatClampNeg)) (C := RX9) (T := TX9) (N := 5) hx hb hts (by decide +kernel) hown hK hP 2 rfl rfl 0 (by decide) (hts (.fieldLink RX11 59 "PageOne$Sheet" "lines" "[I") (by decide +kernel)) (fun _ h9 => h9) rfl dX11_fillColumn_21 ?_
  refine lv_iload_n hx hb dX11_fillColumn_24 rfl (lv_at hl 7 rfl) ?_
  refine va_iald hx hb hK hP 3 0 rfl rfl (vin hq (by decide)) dX11_fillColumn_25 ?_
  refine lv_topi (fun k_5 ek_5 => ?_)
  obtain rfl : k_5 = 0 := ek_5
  refine lv_icmp_gt (tgt := 120) hx hb dX11_fillColumn_26 (by decide) (fun c_6 => ?_) (fun c_6 => absurd (by decide) c_6)
  refine lv_aloadN hx hb dX11_fillColumn_120 (lv_at hl 3 rfl) ?_
  exact W.aret (v := .null) hx hb hr (Or.inl ⟨_, rfl⟩) (Or.inl rfl) (fun t ht hW => ⟨none, rfl, rfl, ht⟩) (fun q h => absurd h List.not_mem_nil) dX11_fillColumn_122
set_option maxHeartbeats 4000000 in
set_option maxRecDepth 100000 in
theorem x_fill (l : Launch) (dC : Nat → ClassId) (dI : Nat → Nat → Nat) (h0 pg pl it ac rv : Nat) (sa la ca : Nat → Nat) (cI cS : ClassId) (p0 : Int32) : Met l yX11_fill wsX11_fill ({ frames := 4, cells := 0, slots := 0, locals := 93 }) (va_Pc [.ref h0, .int p0] (PW dC dI ([(h0, .inr (10, [.ref pg, .ref pl, .ref it, .int 0, .ref ac, .int 0, .ref rv, .int 0, .int 0])), (pg, .inl (cS, 12, .inr (.inr (.inr (.inr (fun j => some (sa j)))))))] ++ shW cI sa la ca) [(cI, .int), (cS, .object "PageOne$Sheet")])) (vp_Si (fun r => r = (if bw p0 0 11 then 0 else (-1)))) 0 0 (fun _ => False) := by
  refine Met.ofW (cc := cX11_fill) (maxL := 4) (ret := (some .int)) (by decide) rfl ?_
  intro p e s m args below meth c s₁ B hml hv
  obtain ⟨rfl, hP, hK, hN⟩ := hv
  have hx := B.exec
  have hb := B.bytes
  have hr := B.returns
  have hts := atoms_spec (ws := wsX11_fill) B.pre
  have hown : s.vm.findClass RX11 = some m.cls := findClass_of_methodNamed B.named
  have hlocks := B.notSynchronized
  have hl := lv_entry ([.ref h0, .int p0]) (n := 4) (Nat.le_of_ble_eq_true rfl)
  rw [lg_entry_eq]
  generalize (lg_sl ([.ref h0, .int p0]) ++ List.replicate (4 - (lg_sl ([.ref h0, .int p0])).length) Slot.unset).toArray = ls at hl ⊢
  have hl : lv_has ls 4 [(0, .ref h0), (1, .int p0)] := hl
  refine lv_iload_n hx hb dX11_fill_0 rfl (lv_at hl 1 rfl) ?_
  have hPc := hP.sub (ws' := []) [] rfl
  have hKc := hK.sub (tys' := []) [] rfl
  refine vp_callSi (va_runS (As := [.int p0]) (rest := []) ⟨hx, hb, hml, hown, hts⟩ (x_isPage l dC dI p0) (va_cwS 1 hts gX11_fill_X11_isPage rfl rfl rfl (by decide +kernel) ⟨Nat.le_of_ble_eq_true rfl, Nat.le_of_ble_eq_true rfl⟩) ⟨pw_fb, fun U hU hW => ⟨rfl, pw_to hU hW hPc hKc hN⟩⟩ rfl rfl hl.1 rfl (lv_room (Nat.le_of_ble_eq_true rfl)) dX11_fill_1 ⟨Nat.le_of_ble_eq_true rfl, Nat.le_of_ble_eq_true rfl⟩).run (fun r hw => ?_)
  rcases Bool.eq_false_or_eq_true (bw p0 0 11) with b_1 | b_1
  ·
    obtain rfl : r = 1 := b_t hw b_1
    have hj := clamp_lt (n := 12) b_1 (by decide)
    have hP := pick2P hP hj
    have hP : va_P (dC, dI) vwCl [(h0, .inr (10, [.ref pg, .ref pl, .ref it, .int 0, .ref ac, .int 0, .ref rv, .int 0, .int 0])), (pg, .inl (cS, 12, .inr (.inr (.inr (.inr (fun j => some (sa j))))))), ((sa p0.toNatClampNeg), .inr (8, [.ref (la p0.toNatClampNeg), .ref (ca p0.toNatClampNeg), .int 100, .int (-1), .int (-1)])), ((la p0.toNatClampNeg), .inl (cI, 8, .inl (fun _ => 0))), ((ca p0.toNatClampNeg), .inl (cI, 480, .inl (fun _ => (-2))))] s.heap := hP
    refine lv_if_eq (tgt := 14) hx hb dX11_fill_4 (by decide) (fun c_2 => absurd c_2 (by decide)) (fun c_2 => ?_)
    refine lv_aload_n hx hb dX11_fill_7 rfl (lv_at hl 0 rfl) ?_
    have hPc := hP.sub (ws' := [(h0, .inr (10, [.ref pg, .ref pl, .ref it, .int 0, .ref ac, .int 0, .ref rv, .int 0, .int 0]))]) [0] rfl
    have hKc := hK.sub (tys' := []) [] rfl
    refine vp_callSi (va_runV (As := []) (rest := []) ⟨hx, hb, hml, hown, hts⟩ (x_canAct0 l dC dI h0 pg pl it ac rv) (cwV 0 hts gX11_fill_X11_canAct rfl rfl rfl (by decide +kernel) ⟨Nat.le_of_ble_eq_true rfl, Nat.le_of_ble_eq_true rfl⟩) ⟨pw_fb, va_recv hKc hPc (ci := 10) (q0 := 0) rfl rfl, fun U hU hW => ⟨rfl, pw_to hU hW hPc hKc hN⟩⟩ rfl rfl hl.1 rfl (lv_room (Nat.le_of_ble_eq_true rfl)) dX11_fill_8 ⟨Nat.le_of_ble_eq_true rfl, Nat.le_of_ble_eq_true rfl⟩).run (fun r hw => ?_)
    obtain rfl : r = 1 := hw
    refine lv_if_ne (tgt := 16) hx hb dX11_fill_11 (by decide) (fun c_3 => ?_) (fun c_3 => absurd c_3 (by decide))
    refine lv_null hx hb dX11_fill_16 ?_
    refine lv_astore_nN (lv' := [(2, .null), (0, .ref h0), (1, .int p0)]) hx hb dX11_fill_17 rfl hl (by decide) rfl (fun ls hl => ?_)
    refine lv_iconst (v := 0) hx hb dX11_fill_18 (by decide) ?_
    refine lv_istore_n (lv' := [(3, .int 0), (2, .null), (0, .ref h0), (1, .int p0)]) hx hb dX11_fill_19 rfl hl (by decide) rfl (fun ls hl => ?_)
    refine lv_iload_n hx hb dX11_fill_20 rfl (lv_at hl 0 rfl) ?_
    refine lv_bipush (v := 8) hx hb dX11_fill_21 (by decide) ?_
    refine lv_icmp_ge (tgt := 40) hx hb dX11_fill_23 (by decide) (fun c_4 => absurd c_4 (by decide)) (fun c_4 => ?_)
    refine lv_aload_n hx hb dX11_fill_26 rfl (lv_at hl 2 rfl) ?_
    refine lv_iload_n hx hb dX11_fill_27 rfl (lv_at hl 3 rfl) ?_
    refine lv_iload_n hx hb dX11_fill_28 rfl (lv_at hl 0 rfl) ?_
    refine lv_aload_nN hx hb dX11_fill_29 rfl (lv_at hl 1 rfl) ?_
    have hPc := hP.sub (ws' := [(h0, .inr (10, [.ref pg, .ref pl, .ref it, .int 0, .ref ac, .int 0, .ref rv, .int 0, .int 0])), (pg, .inl (cS, 12, .inr (.inr (.inr (.inr (fun j => some (sa j))))))), ((sa p0.toNatClampNeg), .inr (8, [.ref (la p0.toNatClampNeg), .ref (ca p0.toNatClampNeg), .int 100, .int (-1), .int (-1)])), ((la p0.toNatClampNeg), .inl (cI, 8, .inl (fun _ => 0)))]) [0, 1, 2, 3] rfl
    have hKc := hK.sub (tys' := [(cI, .int), (cS, .object "PageOne$Sheet")]) [0, 1] rfl
    refine va_csq (va_runV (As := [.int p0, .int 0, .null]) (rest := []) ⟨hx, hb, hml, hown, hts⟩ (x_fillColumn0 l dC dI h0 pg pl it ac rv sa la ca cI cS p0 0 b_1 (by decide)) (cwV 3 hts gX11_fill_X11_fillColumn rfl rfl rfl (by decide +kernel) ⟨Nat.le_of_ble_eq_true rfl, Nat.le_of_ble_eq_true rfl⟩) ⟨pw_fb, va_recv hKc hPc (ci := 10) (q0 := 0) rfl rfl, fun U hU hW => ⟨rfl, pw_to hU hW hPc hKc hN⟩⟩ rfl rfl hl.1 rfl (lv_room (Nat.le_of_ble_eq_true rfl)) dX11_fill_30 ⟨Nat.le_of_ble_eq_true rfl, Nat.le_of_ble_eq_true rfl⟩).run (fun r hw => ?_)
    obtain rfl : r = none := hw
    refine W.eq (g2 := F0 m 33 ls [.null]) rfl ?_
    refine lv_astore_nN (lv' := [(2, .null), (3, .int 0), (0, .ref h0), (1, .int p0)]) hx hb dX11_fill_33 rfl hl (by decide) rfl (fun ls hl => ?_)
    refine lv_iinc (v := 1) (lv' := [(3, .int 1), (2, .null), (0, .ref h0), (1, .int p0)]) hx hb dX11_fill_34 hl (k := 1) rfl (by decide) (by decide) rfl (fun ls hl => ?_)
    refine lv_goto (tgt := 20) hx hb dX11_fill_37 (by decide) ?_
    refine lv_iload_n hx hb dX11_fill_20 rfl (lv_at hl 0 rfl) ?_
    refine lv_bipush (v := 8) hx hb dX11_fill_21 (by decide) ?_
    refine lv_icmp_ge (tgt := 40) hx hb dX11_fill_23 (by decide) (fun c_5 => absurd c_5 (by decide)) (fun c_5 => ?_)
    refine lv_aload_n hx hb dX11_fill_26 rfl (lv_at hl 2 rfl) ?_
    refine lv_iload_n hx hb dX11_fill_27 rfl (lv_at hl 3 rfl) ?_
    refine lv_iload_n hx hb dX11_fill_28 rfl (lv_at hl 0 rfl) ?_
    refine lv_aload_nN hx hb dX11_fill_29 rfl (lv_at hl 1 rfl) ?_
    have hPc := hP.sub (ws' := [(h0, .inr (10, [.ref pg, .ref pl, .ref it, .int 0, .ref ac, .int 0, .ref rv, .int 0, .int 0])), (pg, .inl (cS, 12, .inr (.inr (.inr (.inr (fun j => some (sa j))))))), ((sa p0.toNatClampNeg), .inr (8, [.ref (la p0.toNatClampNeg), .ref (ca p0.toNatClampNeg), .int 100, .int (-1), .int (-1)])), ((la p0.toNatClampNeg), .inl (cI, 8, .inl (fun _ => 0)))]) [0, 1, 2, 3] rfl
    have hKc := hK.sub (tys' := [(cI, .int), (cS, .object "PageOne$Sheet")]) [0, 1] rfl
    refine va_csq (va_runV (As := [.int p0, .int 1, .null]) (rest := []) ⟨hx, hb, hml, hown, hts⟩ (x_fillColumn0 l dC dI h0 pg pl it ac rv sa la ca cI cS p0 1 b_1 (by decide)) (cwV 3 hts gX11_fill_X11_fillColumn rfl rfl rfl (by decide +kernel) ⟨Nat.le_of_ble_eq_true rfl, Nat.le_of_ble_eq_true rfl⟩) ⟨pw_fb, va_recv hKc hPc (ci := 10) (q0 := 0) rfl rfl, fun U hU hW => ⟨rfl, pw_to hU hW hPc hKc hN⟩⟩ rfl rfl hl.1 rfl (lv_room (Nat.le_of_ble_eq_true rfl)) dX11_fill_30 ⟨Nat.le_of_ble_eq_true rfl, Nat.le_of_ble_eq_true rfl⟩).run (fun r hw => ?_)
    obtain rfl : r = none := hw
    refine W.eq (g2 := F0 m 33 ls [.null]) rfl ?_
    refine lv_astore_nN (lv' := [(2, .null), (3, .int 1), (0, .ref h0), (1, .int p0)]) hx hb dX11_fill_33 rfl hl (by decide) rfl (fun ls hl => ?_)
    refine lv_iinc (v := 2) (lv' := [(3, .int 2), (2, .null), (0, .ref h0), (1, .int p0)]) hx hb dX11_fill_34 hl (k := 1) rfl (by decide) (by decide) rfl (fun ls hl => ?_)
    refine lv_goto (tgt := 20) hx hb dX11_fill_37 (by decide) ?_
    refine lv_iload_n hx hb dX11_fill_20 rfl (lv_at hl 0 rfl) ?_
    refine lv_bipush (v := 8) hx hb dX11_fill_21 (by decide) ?_
    refine lv_icmp_ge (tgt := 40) hx hb dX11_fill_23 (by decide) (fun c_6 => absurd c_6 (by decide)) (fun c_6 => ?_)
    refine lv_aload_n hx hb dX11_fill_26 rfl (lv_at hl 2 rfl) ?_
    refine lv_iload_n hx hb dX11_fill_27 rfl (lv_at hl 3 rfl) ?_
    refine lv_iload_n hx hb dX11_fill_28 rfl (lv_at hl 0 rfl) ?_
    refine lv_aload_nN hx hb dX11_fill_29 rfl (lv_at hl 1 rfl) ?_
    have hPc := hP.sub (ws' := [(h0, .inr (10, [.ref pg, .ref pl, .ref it, .int 0, .ref ac, .int 0, .ref rv, .int 0, .int 0])), (pg, .inl (cS, 12, .inr (.inr (.inr (.inr (fun j => some (sa j))))))), ((sa p0.toNatClampNeg), .inr (8, [.ref (la p0.toNatClampNeg), .ref (ca p0.toNatClampNeg), .int 100, .int (-1), .int (-1)])), ((la p0.toNatClampNeg), .inl (cI, 8, .inl (fun _ => 0)))]) [0, 1, 2, 3] rfl
    have hKc := hK.sub (tys' := [(cI, .int), (cS, .object "PageOne$Sheet")]) [0, 1] rfl
    refine va_csq (va_runV (As := [.int p0, .int 2, .null]) (rest := []) ⟨hx, hb, hml, hown, hts⟩ (x_fillColumn0 l dC dI h0 pg pl it ac rv sa la ca cI cS p0 2 b_1 (by decide)) (cwV 3 hts gX11_fill_X11_fillColumn rfl rfl rfl (by decide +kernel) ⟨Nat.le_of_ble_eq_true rfl, Nat.le_of_ble_eq_true rfl⟩) ⟨pw_fb, va_recv hKc hPc (ci := 10) (q0 := 0) rfl rfl, fun U hU hW => ⟨rfl, pw_to hU hW hPc hKc hN⟩⟩ rfl rfl hl.1 rfl (lv_room (Nat.le_of_ble_eq_true rfl)) dX11_fill_30 ⟨Nat.le_of_ble_eq_true rfl, Nat.le_of_ble_eq_true rfl⟩).run (fun r hw => ?_)
    obtain rfl : r = none := hw
    refine W.eq (g2 := F0 m 33 ls [.null]) rfl ?_
    refine lv_astore_nN (lv' := [(2, .null), (3, .int 2), (0, .ref h0), (1, .int p0)]) hx hb dX11_fill_33 rfl hl (by decide) rfl (fun ls hl => ?_)
    refine lv_iinc (v := 3) (lv' := [(3, .int 3), (2, .null), (0, .ref h0), (1, .int p0)]) hx hb dX11_fill_34 hl (k := 1) rfl (by decide) (by decide) rfl (fun ls hl => ?_)
    refine lv_goto (tgt := 20) hx hb dX11_fill_37 (by decide) ?_
    refine lv_iload_n hx hb dX11_fill_20 rfl (lv_at hl 0 rfl) ?_
    refine lv_bipush (v := 8) hx hb dX11_fill_21 (by decide) ?_
    refine lv_icmp_ge (tgt := 40) hx hb dX11_fill_23 (by decide) (fun c_7 => absurd c_7 (by decide)) (fun c_7 => ?_)
    refine lv_aload_n hx hb dX11_fill_26 rfl (lv_at hl 2 rfl) ?_
    refine lv_iload_n hx hb dX11_fill_27 rfl (lv_at hl 3 rfl) ?_
    refine lv_iload_n hx hb dX11_fill_28 rfl (lv_at hl 0 rfl) ?_
    refine lv_aload_nN hx hb dX11_fill_29 rfl (lv_at hl 1 rfl) ?_
    have hPc := hP.sub (ws' := [(h0, .inr (10, [.ref pg, .ref pl, .ref it, .int 0, .ref ac, .int 0, .ref rv, .int 0, .int 0])), (pg, .inl (cS, 12, .inr (.inr (.inr (.inr (fun j => some (sa j))))))), ((sa p0.toNatClampNeg), .inr (8, [.ref (la p0.toNatClampNeg), .ref (ca p0.toNatClampNeg), .int 100, .int (-1), .int (-1)])), ((la p0.toNatClampNeg), .inl (cI, 8, .inl (fun _ => 0)))]) [0, 1, 2, 3] rfl
    have hKc := hK.sub (tys' := [(cI, .int), (cS, .object "PageOne$Sheet")]) [0, 1] rfl
    refine va_csq (va_runV (As := [.int p0, .int 3, .null]) (rest := []) ⟨hx, hb, hml, hown, hts⟩ (x_fillColumn0 l dC dI h0 pg pl it ac rv sa la ca cI cS p0 3 b_1 (by decide)) (cwV 3 hts gX11_fill_X11_fillColumn rfl rfl rfl (by decide +kernel) ⟨Nat.le_of_ble_eq_true rfl, Nat.le_of_ble_eq_true rfl⟩) ⟨pw_fb, va_recv hKc hPc (ci := 10) (q0 := 0) rfl rfl, fun U hU hW => ⟨rfl, pw_to hU hW hPc hKc hN⟩⟩ rfl rfl hl.1 rfl (lv_room (Nat.le_of_ble_eq_true rfl)) dX11_fill_30 ⟨Nat.le_of_ble_eq_true rfl, Nat.le_of_ble_eq_true rfl⟩).run (fun r hw => ?_)
    obtain rfl : r = none := hw
    refine W.eq (g2 := F0 m 33 ls [.null]) rfl ?_
    refine lv_astore_nN (lv' := [(2, .null), (3, .int 3), (0, .ref h0), (1, .int p0)]) hx hb dX11_fill_33 rfl hl (by decide) rfl (fun ls hl => ?_)
    refine lv_iinc (v := 4) (lv' := [(3, .int 4), (2, .null), (0, .ref h0), (1, .int p0)]) hx hb dX11_fill_34 hl (k := 1) rfl (by decide) (by decide) rfl (fun ls hl => ?_)
    refine lv_goto (tgt := 20) hx hb dX11_fill_37 (by decide) ?_
    refine lv_iload_n hx hb dX11_fill_20 rfl (lv_at hl 0 rfl) ?_
    refine lv_bipush (v := 8) hx hb dX11_fill_21 (by decide) ?_
    refine lv_icmp_ge (tgt := 40) hx hb dX11_fill_23 (by decide) (fun c_8 => absurd c_8 (by decide)) (fun c_8 => ?_)
    refine lv_aload_n hx hb dX11_fill_26 rfl (lv_at hl 2 rfl) ?_
    refine lv_iload_n hx hb dX11_fill_27 rfl (lv_at hl 3 rfl) ?_
    refine lv_iload_n hx hb dX11_fill_28 rfl (lv_at hl 0 rfl) ?_
    refine lv_aload_nN hx hb dX11_fill_29 rfl (lv_at hl 1 rfl) ?_
    have hPc := hP.sub (ws' := [(h0, .inr (10, [.ref pg, .ref pl, .ref it, .int 0, .ref ac, .int 0, .ref rv, .int 0, .int 0])), (pg, .inl (cS, 12, .inr (.inr (.inr (.inr (fun j => some (sa j))))))), ((sa p0.toNatClampNeg), .inr (8, [.ref (la p0.toNatClampNeg), .ref (ca p0.toNatClampNeg), .int 100, .int (-1), .int (-1)])), ((la p0.toNatClampNeg), .inl (cI, 8, .inl (fun _ => 0)))]) [0, 1, 2, 3] rfl
    have hKc := hK.sub (tys' := [(cI, .int), (cS, .object "PageOne$Sheet")]) [0, 1] rfl
    refine va_csq (va_runV (As := [.int p0, .int 4, .null]) (rest := []) ⟨hx, hb, hml, hown, hts⟩ (x_fillColumn0 l dC dI h0 pg pl it ac rv sa la ca cI cS p0 4 b_1 (by decide)) (cwV 3 hts gX11_fill_X11_fillColumn rfl rfl rfl (by decide +kernel) ⟨Nat.le_of_ble_eq_true rfl, Nat.le_of_ble_eq_true rfl⟩) ⟨pw_fb, va_recv hKc hPc (ci := 10) (q0 := 0) rfl rfl, fun U hU hW => ⟨rfl, pw_to hU hW hPc hKc hN⟩⟩ rfl rfl hl.1 rfl (lv_room (Nat.le_of_ble_eq_true rfl)) dX11_fill_30 ⟨Nat.le_of_ble_eq_true rfl, Nat.le_of_ble_eq_true rfl⟩).run (fun r hw => ?_)
    obtain rfl : r = none := hw
    refine W.eq (g2 := F0 m 33 ls [.null]) rfl ?_
    refine lv_astore_nN (lv' := [(2, .null), (3, .int 4), (0, .ref h0), (1, .int p0)]) hx hb dX11_fill_33 rfl hl (by decide) rfl (fun ls hl => ?_)
    refine lv_iinc (v := 5) (lv' := [(3, .int 5), (2, .null), (0, .ref h0), (1, .int p0)]) hx hb dX11_fill_34 hl (k := 1) rfl (by decide) (by decide) rfl (fun ls hl => ?_)
    refine lv_goto (tgt := 20) hx hb dX11_fill_37 (by decide) ?_
    refine lv_iload_n hx hb dX11_fill_20 rfl (lv_at hl 0 rfl) ?_
    refine lv_bipush (v := 8) hx hb dX11_fill_21 (by decide) ?_
    refine lv_icmp_ge (tgt := 40) hx hb dX11_fill_23 (by decide) (fun c_9 => absurd c_9 (by decide)) (fun c_9 => ?_)
    refine lv_aload_n hx hb dX11_fill_26 rfl (lv_at hl 2 rfl) ?_
    refine lv_iload_n hx hb dX11_fill_27 rfl (lv_at hl 3 rfl) ?_
    refine lv_iload_n hx hb dX11_fill_28 rfl (lv_at hl 0 rfl) ?_
    refine lv_aload_nN hx hb dX11_fill_29 rfl (lv_at hl 1 rfl) ?_
    have hPc := hP.sub (ws' := [(h0, .inr (10, [.ref pg, .ref pl, .ref it, .int 0, .ref ac, .int 0, .ref rv, .int 0, .int 0])), (pg, .inl (cS, 12, .inr (.inr (.inr (.inr (fun j => some (sa j))))))), ((sa p0.toNatClampNeg), .inr (8, [.ref (la p0.toNatClampNeg), .ref (ca p0.toNatClampNeg), .int 100, .int (-1), .int (-1)])), ((la p0.toNatClampNeg), .inl (cI, 8, .inl (fun _ => 0)))]) [0, 1, 2, 3] rfl
    have hKc := hK.sub (tys' := [(cI, .int), (cS, .object "PageOne$Sheet")]) [0, 1] rfl
    refine va_csq (va_runV (As := [.int p0, .int 5, .null]) (rest := []) ⟨hx, hb, hml, hown, hts⟩ (x_fillColumn0 l dC dI h0 pg pl it ac rv sa la ca cI cS p0 5 b_1 (by decide)) (cwV 3 hts gX11_fill_X11_fillColumn rfl rfl rfl (by decide +kernel) ⟨Nat.le_of_ble_eq_true rfl, Nat.le_of_ble_eq_true rfl⟩) ⟨pw_fb, va_recv hKc hPc (ci := 10) (q0 := 0) rfl rfl, fun U hU hW => ⟨rfl, pw_to hU hW hPc hKc hN⟩⟩ rfl rfl hl.1 rfl (lv_room (Nat.le_of_ble_eq_true rfl)) dX11_fill_30 ⟨Nat.le_of_ble_eq_true rfl, Nat.le_of_ble_eq_true rfl⟩).run (fun r hw => ?_)
    obtain rfl : r = none := hw
    refine W.eq (g2 := F0 m 33 ls [.null]) rfl ?_
    refine lv_astore_nN (lv' := [(2, .null), (3, .int 5), (0, .ref h0), (1, .int p0)]) hx hb dX11_fill_33 rfl hl (by decide) rfl (fun ls hl => ?_)
    refine lv_iinc (v := 6) (lv' := [(3, .int 6), (2, .null), (0, .ref h0), (1, .int p0)]) hx hb dX11_fill_34 hl (k := 1) rfl (by decide) (by decide) rfl (fun ls hl => ?_)
    refine lv_goto (tgt := 20) hx hb dX11_fill_37 (by decide) ?_
    refine lv_iload_n hx hb dX11_fill_20 rfl (lv_at hl 0 rfl) ?_
    refine lv_bipush (v := 8) hx hb dX11_fill_21 (by decide) ?_
    refine lv_icmp_ge (tgt := 40) hx hb dX11_fill_23 (by decide) (fun c_10 => absurd c_10 (by decide)) (fun c_10 => ?_)
    refine lv_aload_n hx hb dX11_fill_26 rfl (lv_at hl 2 rfl) ?_
    refine lv_iload_n hx hb dX11_fill_27 rfl (lv_at hl 3 rfl) ?_
    refine lv_iload_n hx hb dX11_fill_28 rfl (lv_at hl 0 rfl) ?_
    refine lv_aload_nN hx hb dX11_fill_29 rfl (lv_at hl 1 rfl) ?_
    have hPc := hP.sub (ws' := [(h0, .inr (10, [.ref pg, .ref pl, .ref it, .int 0, .ref ac, .int 0, .ref rv, .int 0, .int 0])), (pg, .inl (cS, 12, .inr (.inr (.inr (.inr (fun j => some (sa j))))))), ((sa p0.toNatClampNeg), .inr (8, [.ref (la p0.toNatClampNeg), .ref (ca p0.toNatClampNeg), .int 100, .int (-1), .int (-1)])), ((la p0.toNatClampNeg), .inl (cI, 8, .inl (fun _ => 0)))]) [0, 1, 2, 3] rfl
    have hKc := hK.sub (tys' := [(cI, .int), (cS, .object "PageOne$Sheet")]) [0, 1] rfl
    refine va_csq (va_runV (As := [.int p0, .int 6, .null]) (rest := []) ⟨hx, hb, hml, hown, hts⟩ (x_fillColumn0 l dC dI h0 pg pl it ac rv sa la ca cI cS p0 6 b_1 (by decide)) (cwV 3 hts gX11_fill_X11_fillColumn rfl rfl rfl (by decide +kernel) ⟨Nat.le_of_ble_eq_true rfl, Nat.le_of_ble_eq_true rfl⟩) ⟨pw_fb, va_recv hKc hPc (ci := 10) (q0 := 0) rfl rfl, fun U hU hW => ⟨rfl, pw_to hU hW hPc hKc hN⟩⟩ rfl rfl hl.1 rfl (lv_room (Nat.le_of_ble_eq_true rfl)) dX11_fill_30 ⟨Nat.le_of_ble_eq_true rfl, Nat.le_of_ble_eq_true rfl⟩).run (fun r hw => ?_)
    obtain rfl : r = none := hw
    refine W.eq (g2 := F0 m 33 ls [.null]) rfl ?_
    refine lv_astore_nN (lv' := [(2, .null), (3, .int 6), (0, .ref h0), (1, .int p0)]) hx hb dX11_fill_33 rfl hl (by decide) rfl (fun ls hl => ?_)
    refine lv_iinc (v := 7) (lv' := [(3, .int 7), (2, .null), (0, .ref h0), (1, .int p0)]) hx hb dX11_fill_34 hl (k := 1) rfl (by decide) (by decide) rfl (fun ls hl => ?_)
    refine lv_goto (tgt := 20) hx hb dX11_fill_37 (by decide) ?_
    refine lv_iload_n hx hb dX11_fill_20 rfl (lv_at hl 0 rfl) ?_
    refine lv_bipush (v := 8) hx hb dX11_fill_21 (by decide) ?_
    refine lv_icmp_ge (tgt := 40) hx hb dX11_fill_23 (by decide) (fun c_11 => absurd c_11 (by decide)) (fun c_11 => ?_)
    refine lv_aload_n hx hb dX11_fill_26 rfl (lv_at hl 2 rfl) ?_
    refine lv_iload_n hx hb dX11_fill_27 rfl (lv_at hl 3 rfl) ?_
    refine lv_iload_n hx hb dX11_fill_28 rfl (lv_at hl 0 rfl) ?_
    refine lv_aload_nN hx hb dX11_fill_29 rfl (lv_at hl 1 rfl) ?_
    have hPc := hP.sub (ws' := [(h0, .inr (10, [.ref pg, .ref pl, .ref it, .int 0, .ref ac, .int 0, .ref rv, .int 0, .int 0])), (pg, .inl (cS, 12, .inr (.inr (.inr (.inr (fun j => some (sa j))))))), ((sa p0.toNatClampNeg), .inr (8, [.ref (la p0.toNatClampNeg), .ref (ca p0.toNatClampNeg), .int 100, .int (-1), .int (-1)])), ((la p0.toNatClampNeg), .inl (cI, 8, .inl (fun _ => 0)))]) [0, 1, 2, 3] rfl
    have hKc := hK.sub (tys' := [(cI, .int), (cS, .object "PageOne$Sheet")]) [0, 1] rfl
    refine va_csq (va_runV (As := [.int p0, .int 7, .null]) (rest := []) ⟨hx, hb, hml, hown, hts⟩ (x_fillColumn0 l dC dI h0 pg pl it ac rv sa la ca cI cS p0 7 b_1 (by decide)) (cwV 3 hts gX11_fill_X11_fillColumn rfl rfl rfl (by decide +kernel) ⟨Nat.le_of_ble_eq_true rfl, Nat.le_of_ble_eq_true rfl⟩) ⟨pw_fb, va_recv hKc hPc (ci := 10) (q0 := 0) rfl rfl, fun U hU hW => ⟨rfl, pw_to hU hW hPc hKc hN⟩⟩ rfl rfl hl.1 rfl (lv_room (Nat.le_of_ble_eq_true rfl)) dX11_fill_30 ⟨Nat.le_of_ble_eq_true rfl, Nat.le_of_ble_eq_true rfl⟩).run (fun r hw => ?_)
    obtain rfl : r = none := hw
    refine W.eq (g2 := F0 m 33 ls [.null]) rfl ?_
    refine lv_astore_nN (lv' := [(2, .null), (3, .int 7), (0, .ref h0), (1, .int p0)]) hx hb dX11_fill_33 rfl hl (by decide) rfl (fun ls hl => ?_)
    refine lv_iinc (v := 8) (lv' := [(3, .int 8), (2, .null), (0, .ref h0), (1, .int p0)]) hx hb dX11_fill_34 hl (k := 1) rfl (by decide) (by decide) rfl (fun ls hl => ?_)
    refine lv_goto (tgt := 20) hx hb dX11_fill_37 (by decide) ?_
    refine lv_iload_n hx hb dX11_fill_20 rfl (lv_at hl 0 rfl) ?_
    refine lv_bipush (v := 8) hx hb dX11_fill_21 (by decide) ?_
    refine lv_icmp_ge (tgt := 40) hx hb dX11_fill_23 (by decide) (fun c_12 => ?_) (fun c_12 => absurd (by decide) c_12)
    refine lv_aload_nN hx hb dX11_fill_40 rfl (lv_at hl 1 rfl) ?_
    refine lv_ifnonnullN hx hb dX11_fill_41 ?_
    refine lv_iconst (v := 0) hx hb dX11_fill_44 (by decide) ?_
    exact W.iret (v := 0) hx hb hr (fun t ht hW => ⟨_, rfl, (by simp [bi, b_1]), ht⟩) (fun q h => absurd h List.not_mem_nil) dX11_fill_45
  ·
    obtain rfl : r = 0 := b_f hw b_1
    refine lv_if_eq (tgt := 14) hx hb dX11_fill_4 (by decide) (fun c_13 => ?_) (fun c_13 => absurd (by decide) c_13)
    refine lv_iconst (v := (-1)) hx hb dX11_fill_14 (by decide) ?_
    exact W.iret (v := (-1)) hx hb hr (fun t ht hW => ⟨_, rfl, (by simp [bi, b_1]), ht⟩) (fun q h => absurd h List.not_mem_nil) dX11_fill_15
set_option maxHeartbeats 4000000 in
set_option maxRecDepth 100000 in
theorem x_undo (l : Launch) (dC : Nat → ClassId) (dI : Nat → Nat → Nat) (h0 pg pl it ac rv : Nat) : Met l yX11_undo wsX11_undo ({ frames := 0, cells := 0, slots := 0, locals := 0 }) (va_Pc [.ref h0] (PW dC dI [(h0, .inr (10, [.ref pg, .ref pl, .ref it, .int 0, .ref ac, .int 0, .ref rv, .int 0, .int 0]))] [])) (vp_Si (fun r => r = (-1))) 0 0 (fun _ => False) := by
  refine Met.ofW (cc := cX11_undo) (maxL := 1) (ret := (some .int)) (by decide) rfl ?_
  intro p e s m args below meth c s₁ B hml hv
  obtain ⟨rfl, hP, hK, hN⟩ := hv
  have hx := B.exec
  have hb := B.bytes
  have hr := B.returns
  have hts := atoms_spec (ws := wsX11_undo) B.pre
  have hown : s.vm.findClass RX11 = some m.cls := findClass_of_methodNamed B.named
  have hlocks := B.notSynchronized
  have hl := lv_entry ([.ref h0]) (n := 1) (Nat.le_of_ble_eq_true rfl)
  rw [lg_entry_eq]
  generalize (lg_sl ([.ref h0]) ++ List.replicate (1 - (lg_sl ([.ref h0])).length) Slot.unset).toArray = ls at hl ⊢
  have hl : lv_has ls 1 [(0, .ref h0)] := hl
  refine lv_aload_n hx hb dX11_undo_0 rfl (lv_at hl 0 rfl) ?_
  refine va_get (D := (dC, dI)) (ci := 10) (v := .int 0) (C := RX11) (T := TX11) (N := 9) hx hb hts (by decide +kernel) hown hK hP 0 rfl rfl 5 (by decide) (hts (.fieldLink RX11 34 "PageOne" "actCount" "I") (by decide +kernel)) (fun _ h9 => h9) rfl dX11_undo_1 ?_
  refine lv_if_ne (tgt := 9) hx hb dX11_undo_4 (by decide) (fun c_1 => absurd (by decide) c_1) (fun c_1 => ?_)
  refine lv_iconst (v := (-1)) hx hb dX11_undo_7 (by decide) ?_
  exact W.iret (v := (-1)) hx hb hr (fun t ht hW => ⟨_, rfl, (by simp [bi]), ht⟩) (fun q h => absurd h List.not_mem_nil) dX11_undo_8
set_option maxHeartbeats 4000000 in
set_option maxRecDepth 100000 in
theorem x_plate (l : Launch) (dC : Nat → ClassId) (dI : Nat → Nat → Nat) (h0 pg pl it ac rv : Nat) (sa la ca : Nat → Nat) (cI cS : ClassId) (p0 : Int32) : Met l yX11_plate wsX11_plate ({ frames := 2, cells := 0, slots := 0, locals := 42 }) (va_Pc [.ref h0, .int p0] (PW dC dI ([(h0, .inr (10, [.ref pg, .ref pl, .ref it, .int 0, .ref ac, .int 0, .ref rv, .int 0, .int 0])), (pg, .inl (cS, 12, .inr (.inr (.inr (.inr (fun j => some (sa j)))))))] ++ shW cI sa la ca) [(cI, .int), (cS, .object "PageOne$Sheet")])) (vp_Si (fun r => r = (-1))) 0 0 (fun _ => False) := by
  refine Met.ofW (cc := cX11_plate) (maxL := 4) (ret := (some .int)) (by decide) rfl ?_
  intro p e s m args below meth c s₁ B hml hv
  obtain ⟨rfl, hP, hK, hN⟩ := hv
  have hx := B.exec
  have hb := B.bytes
  have hr := B.returns
  have hts := atoms_spec (ws := wsX11_plate) B.pre
  have hown : s.vm.findClass RX11 = some m.cls := findClass_of_methodNamed B.named
  have hlocks := B.notSynchronized
  have hl := lv_entry ([.ref h0, .int p0]) (n := 4) (Nat.le_of_ble_eq_true rfl)
  rw [lg_entry_eq]
  generalize (lg_sl ([.ref h0, .int p0]) ++ List.replicate (4 - (lg_sl ([.ref h0, .int p0])).length) Slot.unset).toArray = ls at hl ⊢
  have hl : lv_has ls 4 [(0, .ref h0), (1, .int p0)] := hl
  refine lv_iload_n hx hb dX11_plate_0 rfl (lv_at hl 1 rfl) ?_
  have hPc := hP.sub (ws' := []) [] rfl
  have hKc := hK.sub (tys' := []) [] rfl
  refine vp_callSi (va_runS (As := [.int p0]) (rest := []) ⟨hx, hb, hml, hown, hts⟩ (x_isPage l dC dI p0) (va_cwS 1 hts gX11_plate_X11_isPage rfl rfl rfl (by decide +kernel) ⟨Nat.le_of_ble_eq_true rfl, Nat.le_of_ble_eq_true rfl⟩) ⟨pw_fb, fun U hU hW => ⟨rfl, pw_to hU hW hPc hKc hN⟩⟩ rfl rfl hl.1 rfl (lv_room (Nat.le_of_ble_eq_true rfl)) dX11_plate_1 ⟨Nat.le_of_ble_eq_true rfl, Nat.le_of_ble_eq_true rfl⟩).run (fun r hw => ?_)
  rcases Bool.eq_false_or_eq_true (bw p0 0 11) with b_1 | b_1
  ·
    obtain rfl : r = 1 := b_t hw b_1
    have hj := clamp_lt (n := 12) b_1 (by decide)
    have hP := pick2P hP hj
    have hP : va_P (dC, dI) vwCl [(h0, .inr (10, [.ref pg, .ref pl, .ref it, .int 0, .ref ac, .int 0, .ref rv, .int 0, .int 0])), (pg, .inl (cS, 12, .inr (.inr (.inr (.inr (fun j => some (sa j))))))), ((sa p0.toNatClampNeg), .inr (8, [.ref (la p0.toNatClampNeg), .ref (ca p0.toNatClampNeg), .int 100, .int (-1), .int (-1)])), ((la p0.toNatClampNeg), .inl (cI, 8, .inl (fun _ => 0))), ((ca p0.toNatClampNeg), .inl (cI, 480, .inl (fun _ => (-2))))] s.heap := hP
    refine lv_if_ne (tgt := 9) hx hb dX11_plate_4 (by decide) (fun c_2 => ?_) (fun c_2 => absurd c_2 (by decide))
    refine lv_aload_n hx hb dX11_plate_9 rfl (lv_at hl 0 rfl) ?_
    refine va_get (D := (dC, dI)) (ci := 10) (v := .ref pg) (C := RX11) (T := TX11) (N := 9) hx hb hts (by decide +kernel) hown hK hP 0 rfl rfl 0 (by decide) (hts (.fieldLink RX11 11 "PageOne" "pages" "[LPageOne$Sheet;") (by decide +kernel)) (fun _ h9 => h9) rfl dX11_plate_10 ?_
    refine lv_iload_n hx hb dX11_plate_13 rfl (lv_at hl 1 rfl) ?_
    refine va_aldq hx hb hK hP 1 1 rfl rfl (vin b_1 (by decide)) dX11_plate_14 ?_
    refine W.eq (g2 := F0 m 15 ls [.ref (sa p0.toNatClampNeg)]) rfl ?_
    refine lv_astore_n (lv' := [(2, .ref (sa p0.toNatClampNeg)), (0, .ref h0), (1, .int p0)]) hx hb dX11_plate_15 rfl hl (by decide) rfl (fun ls hl => ?_)
    refine lv_aload_n hx hb dX11_plate_16 rfl (lv_at hl 0 rfl) ?_
    have hPc := hP.sub (ws' := [((sa p0.toNatClampNeg), .inr (8, [.ref (la p0.toNatClampNeg), .ref (ca p0.toNatClampNeg), .int 100, .int (-1), .int (-1)])), ((la p0.toNatClampNeg), .inl (cI, 8, .inl (fun _ => 0)))]) [2, 3] rfl
    have hKc := hK.sub (tys' := [(cI, .int)]) [0] rfl
    refine vp_callSi (va_runV (As := []) (rest := []) ⟨hx, hb, hml, hown, hts⟩ (x_cellCount0 l dC dI (sa p0.toNatClampNeg) (la p0.toNatClampNeg) (ca p0.toNatClampNeg) cI) (cwV 0 hts gX11_plate_X9_cellCount rfl rfl rfl (by decide +kernel) ⟨Nat.le_of_ble_eq_true rfl, Nat.le_of_ble_eq_true rfl⟩) ⟨pw_fb, va_recv hKc hPc (ci := 8) (q0 := 0) rfl rfl, fun U hU hW => ⟨rfl, pw_to hU hW hPc hKc hN⟩⟩ rfl rfl hl.1 rfl (lv_room (Nat.le_of_ble_eq_true rfl)) dX11_plate_17 ⟨Nat.le_of_ble_eq_true rfl, Nat.le_of_ble_eq_true rfl⟩).run (fun r hw => ?_)
    obtain rfl : r = 0 := hw
    refine lv_istore_n (lv' := [(3, .int 0), (2, .ref (sa p0.toNatClampNeg)), (0, .ref h0), (1, .int p0)]) hx hb dX11_plate_20 rfl hl (by decide) rfl (fun ls hl => ?_)
    refine lv_iload_n hx hb dX11_plate_21 rfl (lv_at hl 0 rfl) ?_
    refine lv_if_eq (tgt := 43) hx hb dX11_plate_22 (by decide) (fun c_3 => ?_) (fun c_3 => absurd (by decide) c_3)
    refine lv_iconst (v := (-1)) hx hb dX11_plate_43 (by decide) ?_
    exact W.iret (v := (-1)) hx hb hr (fun t ht hW => ⟨_, rfl, (by simp [bi, b_1]), ht⟩) (fun q h => absurd h List.not_mem_nil) dX11_plate_44
  ·
    obtain rfl : r = 0 := b_f hw b_1
    refine lv_if_ne (tgt := 9) hx hb dX11_plate_4 (by decide) (fun c_4 => absurd (by decide) c_4) (fun c_4 => ?_)
    refine lv_iconst (v := (-1)) hx hb dX11_plate_7 (by decide) ?_
    exact W.iret (v := (-1)) hx hb hr (fun t ht hW => ⟨_, rfl, (by simp [bi, b_1]), ht⟩) (fun q h => absurd h List.not_mem_nil) dX11_plate_8
set_option maxHeartbeats 4000000 in
set_option maxRecDepth 100000 in
theorem x_edition (l : Launch) (dC : Nat → ClassId) (dI : Nat → Nat → Nat) (h0 pg pl it ac rv : Nat) (cS : ClassId) (sz : Nat) : Met l yX11_edition wsX11_edition ({ frames := 5, cells := 0, slots := 0, locals := 105 }) (va_Pc [.ref h0] (fun U => U.heap.size = sz ∧ PW dC dI [(h0, .inr (10, [.ref pg, .ref pl, .ref it, .int 0, .ref ac, .int 0, .ref rv, .int 0, .int 0])), (pl, .inl (cS, 12, .inr (.inr (.inr (.inr (fun _ => none))))))] [(cS, .object "PageOne$Sheet")] U ∧ va_D (fun _ => True) [(h0, .inr (10, [.ref pg, .ref pl, .ref it, .int 0, .ref ac, .int 0, .ref rv, .int 0, .int 0])), (pl, .inl (cS, 12, .inr (.inr (.inr (.inr (fun _ => none))))))])) (va_Qi (fun (r : Int32) (_ : Unit) => r = 1) (fun _ _ => True) (va_A [(h0, .inr (10, [.ref pg, .ref pl, .ref it, .int 0, .ref ac, .int 0, .ref rv, .int 0, .int 0])), (pl, .inl (cS, 12, .inr (.inr (.inr (.inr (fun _ => none))))))] sz)) 0 0 (va_A [(h0, .inr (10, [.ref pg, .ref pl, .ref it, .int 0, .ref ac, .int 0, .ref rv, .int 0, .int 0])), (pl, .inl (cS, 12, .inr (.inr (.inr (.inr (fun _ => none))))))] sz) := by
  refine Met.ofW (cc := cX11_edition) (maxL := 1) (ret := (some .int)) (by decide) rfl ?_
  intro p e s m args below meth c s₁ B hml hv
  obtain ⟨rfl, hsz, ⟨hP, hK, hN⟩, hD0⟩ := hv
  have hx := B.exec
  have hb := B.bytes
  have hr := B.returns
  have hts := atoms_spec (ws := wsX11_edition) B.pre
  have hown : s.vm.findClass RX11 = some m.cls := findClass_of_methodNamed B.named
  have hlocks := B.notSynchronized
  subst hsz
  have hD := hD0.self (sz := s.heap.size)
  generalize hAe : va_A [(h0, .inr (10, [.ref pg, .ref pl, .ref it, .int 0, .ref ac, .int 0, .ref rv, .int 0, .int 0])), (pl, .inl (cS, 12, .inr (.inr (.inr (.inr (fun _ => none))))))] s.heap.size = A at hD ⊢
  have hA : ∀ q : Nat, s.heap.size ≤ q → A q := fun q h => by rw [← hAe]; exact Or.inr h
  have hS : va_S A s.heap s.heap [] := va_S.rf
  have hP : va_P (dC, dI) vwCl [(h0, .inr (10, [.ref pg, .ref pl, .ref it, .int 0, .ref ac, .int 0, .ref rv, .int 0, .int 0])), (pl, .inl (cS, 12, .inr (.inr (.inr (.inr (fun _ => none))))))] s.heap := hP
  have hl := lv_entry ([.ref h0]) (n := 1) (Nat.le_of_ble_eq_true rfl)
  rw [lg_entry_eq]
  generalize (lg_sl ([.ref h0]) ++ List.replicate (1 - (lg_sl ([.ref h0])).length) Slot.unset).toArray = ls at hl ⊢
  have hl : lv_has ls 1 [(0, .ref h0)] := hl
  refine lv_aload_n hx hb dX11_edition_0 rfl (lv_at hl 0 rfl) ?_
  refine va_get (D := (dC, dI)) (ci := 10) (v := .int 0) (C := RX11) (T := TX11) (N := 9) hx hb hts (by decide +kernel) hown hK hP 0 rfl rfl 8 (by decide) (hts (.fieldLink RX11 44 "PageOne" "editionNow" "I") (by decide +kernel)) (fun _ h9 => h9) rfl dX11_edition_1 ?_
  refine lv_bipush (v := 7) hx hb dX11_edition_4 (by decide) ?_
  refine lv_icmp_lt (tgt := 11) hx hb dX11_edition_6 (by decide) (fun c_1 => ?_) (fun c_1 => absurd (by decide) c_1)
  refine lv_aload_n hx hb dX11_edition_11 rfl (lv_at hl 0 rfl) ?_
  have hPc := hP.sub (ws' := [(h0, .inr (10, [.ref pg, .ref pl, .ref it, .int 0, .ref ac, .int 0, .ref rv, .int 0, .int 0])), (pl, .inl (cS, 12, .inr (.inr (.inr (.inr (fun _ => none))))))]) [0, 1] rfl
  have hKc := hK.sub (tys' := [(cS, .object "PageOne$Sheet")]) [0] rfl
  refine va_csv (va_runV (As := []) (rest := []) ⟨hx, hb, hml, hown, hts⟩ (x_closeEdition0 l dC dI h0 pg pl it ac rv cS) (cwV 0 hts gX11_edition_X11_closeEdition rfl rfl rfl (by decide +kernel) ⟨Nat.le_of_ble_eq_true rfl, Nat.le_of_ble_eq_true rfl⟩) ⟨pw_fb, va_recv hKc hPc (ci := 10) (q0 := 0) rfl rfl, fun U hU hW => ⟨rfl, pw_to hU hW hPc hKc hN⟩⟩ rfl rfl hl.1 rfl (lv_room (Nat.le_of_ble_eq_true rfl)) dX11_edition_12 ⟨Nat.le_of_ble_eq_true rfl, Nat.le_of_ble_eq_true rfl⟩).run (fun _ => ?_)
  refine lv_aload_n hx hb dX11_edition_15 rfl (lv_at hl 0 rfl) ?_
  refine lv_dup hx hb dX11_edition_16 rfl ?_
  refine va_get (D := (dC, dI)) (ci := 10) (v := .int 0) (C := RX11) (T := TX11) (N := 9) hx hb hts (by decide +kernel) hown hK hP 0 rfl rfl 8 (by decide) (hts (.fieldLink RX11 44 "PageOne" "editionNow" "I") (by decide +kernel)) (fun _ h9 => h9) rfl dX11_edition_17 ?_
  refine lv_iconst (v := 1) hx hb dX11_edition_20 (by decide) ?_
  refine lv_iadd hx hb dX11_edition_21 ?_
  refine lv_topi (fun k_2 ek_2 => ?_)
  obtain rfl : k_2 = 1 := ek_2.trans (by decide)
  refine va_put (D := (dC, dI)) (ci := 10) (v := .int 1) (ty := .int) (C := RX11) (T := TX11) (N := 9) hx hb hts (by decide +kernel) tyX11 tyX11_ok nmX11 hown hK hP hD hS 0 rfl rfl 8 (by decide) (hts (.fieldLink RX11 44 "PageOne" "editionNow" "I") (by decide +kernel)) (fun _ h9 => h9) rfl (by decide +kernel) rfl rfl (Nat.le_of_ble_eq_true rfl) dX11_edition_22 (fun H locs hP hD hS => ?_)
  have hP : va_P (dC, dI) vwCl [(h0, .inr (10, [.ref pg, .ref pl, .ref it, .int 0, .ref ac, .int 0, .ref rv, .int 0, .int 1])), (pl, .inl (cS, 12, .inr (.inr (.inr (.inr (fun _ => none))))))] H := hP
  have hD : va_D A [(h0, .inr (10, [.ref pg, .ref pl, .ref it, .int 0, .ref ac, .int 0, .ref rv, .int 0, .int 1])), (pl, .inl (cS, 12, .inr (.inr (.inr (.inr (fun _ => none))))))] := hD
  refine lv_aload_n hx hb dX11_edition_25 rfl (lv_at hl 0 rfl) ?_
  refine va_get (D := (dC, dI)) (ci := 10) (v := .int 1) (C := RX11) (T := TX11) (N := 9) hx hb hts (by decide +kernel) hown hK hP 0 rfl rfl 8 (by decide) (hts (.fieldLink RX11 44 "PageOne" "editionNow" "I") (by decide +kernel)) (fun _ h9 => h9) rfl dX11_edition_26 ?_
  exact W.iret (v := 1) hx hb hr (fun t ht hW => ⟨⟨1, (), rfl, (by simp [bi]), trivial⟩, hS.F ht⟩) hS.2.2 dX11_edition_29
set_option maxHeartbeats 4000000 in
set_option maxRecDepth 100000 in
theorem x_clear (l : Launch) (dC : Nat → ClassId) (dI : Nat → Nat → Nat) (h0 ln ce : Nat) (cI : ClassId) (sz : Nat) : Met l yX9_clear wsX9_clear ({ frames := 1, cells := 0, slots := 0, locals := 23 }) (va_Pc [.ref h0] (fun U => U.heap.size = sz ∧ PW dC dI [(h0, .inr (8, [.ref ln, .ref ce, .int 100, .int (-1), .int (-1)])), (ce, .inl (cI, 480, .inl (fun _ => (-2))))] [(cI, .int)] U ∧ va_D (fun _ => True) [(h0, .inr (8, [.ref ln, .ref ce, .int 100, .int (-1), .int (-1)])), (ce, .inl (cI, 480, .inl (fun _ => (-2))))])) (va_Qv (fun _ : Unit => True) (fun _ _ => True) (va_A [(h0, .inr (8, [.ref ln, .ref ce, .int 100, .int (-1), .int (-1)])), (ce, .inl (cI, 480, .inl (fun _ => (-2))))] sz)) 0 0 (va_A [(h0, .inr (8, [.ref ln, .ref ce, .int 100, .int (-1), .int (-1)])), (ce, .inl (cI, 480, .inl (fun _ => (-2))))] sz) := by
  refine Met.ofW (cc := cX9_clear) (maxL := 1) (ret := none) (by decide) rfl ?_
  intro p e s m args below meth c s₁ B hml hv
  obtain ⟨rfl, hsz, ⟨hP, hK, hN⟩, hD0⟩ := hv
  have hx := B.exec
  have hb := B.bytes
  have hr := B.returns
  have hts := atoms_spec (ws := wsX9_clear) B.pre
  have hown : s.vm.findClass RX9 = some m.cls := findClass_of_methodNamed B.named
  have hlocks := B.notSynchronized
  subst hsz
  have hD := hD0.self (sz := s.heap.size)
  generalize hAe : va_A [(h0, .inr (8, [.ref ln, .ref ce, .int 100, .int (-1), .int (-1)])), (ce, .inl (cI, 480, .inl (fun _ => (-2))))] s.heap.size = A at hD ⊢
  have hA : ∀ q : Nat, s.heap.size ≤ q → A q := fun q h => by rw [← hAe]; exact Or.inr h
  have hS : va_S A s.heap s.heap [] := va_S.rf
  have hP : va_P (dC, dI) vwCl [(h0, .inr (8, [.ref ln, .ref ce, .int 100, .int (-1), .int (-1)])), (ce, .inl (cI, 480, .inl (fun _ => (-2))))] s.heap := hP
  have hl := lv_entry ([.ref h0]) (n := 1) (Nat.le_of_ble_eq_true rfl)
  rw [lg_entry_eq]
  generalize (lg_sl ([.ref h0]) ++ List.replicate (1 - (lg_sl ([.ref h0])).length) Slot.unset).toArray = ls at hl ⊢
  have hl : lv_has ls 1 [(0, .ref h0)] := hl
  refine lv_aload_n hx hb dX9_clear_0 rfl (lv_at hl 0 rfl) ?_
  refine va_get (D := (dC, dI)) (ci := 8) (v := .ref ce) (C := RX9) (T := TX9) (N := 5) hx hb hts (by decide +kernel) hown hK hP 0 rfl rfl 1 (by decide) (hts (.fieldLink RX9 15 "PageOne$Sheet" "cells" "[I") (by decide +kernel)) (fun _ h9 => h9) rfl dX9_clear_1 ?_
  refine lv_bipush (v := (-2)) hx hb dX9_clear_4 (by decide) ?_
  have hPc := hP.sub (ws' := [(ce, .inl (cI, 480, .inl (fun _ => (-2))))]) [1] rfl
  have hKc := hK.sub (tys' := [(cI, .int)]) [0] rfl
  have hDc := hD.sub (ws' := [(ce, .inl (cI, 480, .inl (fun _ => (-2))))]) [1] (by decide) rfl
  have hFc := va_free (wc := [(ce, .inl (cI, 480, .inl (fun _ => (-2))))]) hD hS hA [1] rfl
  refine va_callv (va_runS (As := [.ref ce, .int (-2)]) (rest := []) ⟨hx, hb, hml, hown, hts⟩ (j_fill l dC dI ce cI 480 (fun _ => (-2)) (-2) (by decide) s.heap.size) (va_cwS 2 hts gX9_clear_J7_fill_53178 rfl rfl rfl (by decide +kernel) ⟨Nat.le_of_ble_eq_true rfl, Nat.le_of_ble_eq_true rfl⟩) ⟨gw_fb, fun U hU hW => ⟨rfl, by rw [hU], pw_to hU hW hPc hKc hN, hDc.weaken (fun _ _ _ _ => trivial)⟩⟩ rfl rfl hl.1 rfl (lv_room (Nat.le_of_ble_eq_true rfl)) dX9_clear_6 ⟨Nat.le_of_ble_eq_true rfl, Nat.le_of_ble_eq_true rfl⟩) hS (fun q _ h => hFc q h) hFc (fun u t H1 locs ht hvm hw hB hz1 hk1 hS => ?_)
  obtain ⟨hP1, hD1⟩ := hB
  rw [ht] at hP1
  obtain ⟨hP, hD⟩ := va_join (wr := [(h0, .inr (8, [.ref ln, .ref ce, .int 100, .int (-1), .int (-1)]))]) (w1 := [(ce, .inl (cI, 480, .inl (fun _ => (-2))))]) hP hD [1] [0] rfl rfl (by decide) (by decide) hk1 hFc hP1 hD1
  generalize H1 = H at hP hS ⊢
  have hP : va_P (dC, dI) vwCl [(h0, .inr (8, [.ref ln, .ref ce, .int 100, .int (-1), .int (-1)])), (ce, .inl (cI, 480, .inl (fun _ => (-2))))] H := hP
  have hD : va_D A [(h0, .inr (8, [.ref ln, .ref ce, .int 100, .int (-1), .int (-1)])), (ce, .inl (cI, 480, .inl (fun _ => (-2))))] := hD
  refine W.widen (k := 0) (n := 0) (Nat.le_of_ble_eq_true rfl) (Nat.le_of_ble_eq_true rfl) ?_
  exact W.vret hx hb hr (fun t ht hW => ⟨⟨(), rfl, trivial, trivial⟩, hS.F ht⟩) hS.2.2 dX9_clear_9
set_option maxHeartbeats 4000000 in
set_option maxRecDepth 100000 in
theorem x_clearDesk0 (l : Launch) (dC : Nat → ClassId) (dI : Nat → Nat → Nat) (h0 pg pl it ac rv : Nat) (sa la ca : Nat → Nat) (cI cS : ClassId) (sz : Nat) : Met l yX11_clearDesk wsX11_clearDesk ({ frames := 2, cells := 0, slots := 0, locals := 43 }) (va_Pc [.ref h0] (fun U => U.heap.size = sz ∧ PW dC dI [(h0, .inr (10, [.ref pg, .ref pl, .ref it, .int 0, .ref ac, .int 0, .ref rv, .int 0, .int 0])), (pg, .inl (cS, 12, .inr (.inr (.inr (.inr (fun j => some (sa j))))))), ((sa 0), .inr (8, [.ref (la 0), .ref (ca 0), .int 100, .int (-1), .int (-1)])), ((ca 0), .inl (cI, 480, .inl (fun _ => (-2)))), ((sa 1), .inr (8, [.ref (la 1), .ref (ca 1), .int 100, .int (-1), .int (-1)])), ((ca 1), .inl (cI, 480, .inl (fun _ => (-2)))), ((sa 2), .inr (8, [.ref (la 2), .ref (ca 2), .int 100, .int (-1), .int (-1)])), ((ca 2), .inl (cI, 480, .inl (fun _ => (-2)))), ((sa 3), .inr (8, [.ref (la 3), .ref (ca 3), .int 100, .int (-1), .int (-1)])), ((ca 3), .inl (cI, 480, .inl (fun _ => (-2)))), ((sa 4), .inr (8, [.ref (la 4), .ref (ca 4), .int 100, .int (-1), .int (-1)])), ((ca 4), .inl (cI, 480, .inl (fun _ => (-2)))), ((sa 5), .inr (8, [.ref (la 5), .ref (ca 5), .int 100, .int (-1), .int (-1)])), ((ca 5), .inl (cI, 480, .inl (fun _ => (-2)))), ((sa 6), .inr (8, [.ref (la 6), .ref (ca 6), .int 100, .int (-1), .int (-1)])), ((ca 6), .inl (cI, 480, .inl (fun _ => (-2)))), ((sa 7), .inr (8, [.ref (la 7), .ref (ca 7), .int 100, .int (-1), .int (-1)])), ((ca 7), .inl (cI, 480, .inl (fun _ => (-2)))), ((sa 8), .inr (8, [.ref (la 8), .ref (ca 8), .int 100, .int (-1), .int (-1)])), ((ca 8), .inl (cI, 480, .inl (fun _ => (-2)))), ((sa 9), .inr (8, [.ref (la 9), .ref (ca 9), .int 100, .int (-1), .int (-1)])), ((ca 9), .inl (cI, 480, .inl (fun _ => (-2)))), ((sa 10), .inr (8, [.ref (la 10), .ref (ca 10), .int 100, .int (-1), .int (-1)])), ((ca 10), .inl (cI, 480, .inl (fun _ => (-2)))), ((sa 11), .inr (8, [.ref (la 11), .ref (ca 11), .int 100, .int (-1), .int (-1)])), ((ca 11), .inl (cI, 480, .inl (fun _ => (-2))))] [(cI, .int), (cS, .object "PageOne$Sheet")] U ∧ va_D (fun _ => True) [(h0, .inr (10, [.ref pg, .ref pl, .ref it, .int 0, .ref ac, .int 0, .ref rv, .int 0, .int 0])), (pg, .inl (cS, 12, .inr (.inr (.inr (.inr (fun j => some (sa j))))))), ((sa 0), .inr (8, [.ref (la 0), .ref (ca 0), .int 100, .int (-1), .int (-1)])), ((ca 0), .inl (cI, 480, .inl (fun _ => (-2)))), ((sa 1), .inr (8, [.ref (la 1), .ref (ca 1), .int 100, .int (-1), .int (-1)])), ((ca 1), .inl (cI, 480, .inl (fun _ => (-2)))), ((sa 2), .inr (8, [.ref (la 2), .ref (ca 2), .int 100, .int (-1), .int (-1)])), ((ca 2), .inl (cI, 480, .inl (fun _ => (-2)))), ((sa 3), .inr (8, [.ref (la 3), .ref (ca 3), .int 100, .int (-1), .int (-1)])), ((ca 3), .inl (cI, 480, .inl (fun _ => (-2)))), ((sa 4), .inr (8, [.ref (la 4), .ref (ca 4), .int 100, .int (-1), .int (-1)])), ((ca 4), .inl (cI, 480, .inl (fun _ => (-2)))), ((sa 5), .inr (8, [.ref (la 5), .ref (ca 5), .int 100, .int (-1), .int (-1)])), ((ca 5), .inl (cI, 480, .inl (fun _ => (-2)))), ((sa 6), .inr (8, [.ref (la 6), .ref (ca 6), .int 100, .int (-1), .int (-1)])), ((ca 6), .inl (cI, 480, .inl (fun _ => (-2)))), ((sa 7), .inr (8, [.ref (la 7), .ref (ca 7), .int 100, .int (-1), .int (-1)])), ((ca 7), .inl (cI, 480, .inl (fun _ => (-2)))), ((sa 8), .inr (8, [.ref (la 8), .ref (ca 8), .int 100, .int (-1), .int (-1)])), ((ca 8), .inl (cI, 480, .inl (fun _ => (-2)))), ((sa 9), .inr (8, [.ref (la 9), .ref (ca 9), .int 100, .int (-1), .int (-1)])), ((ca 9), .inl (cI, 480, .inl (fun _ => (-2)))), ((sa 10), .inr (8, [.ref (la 10), .ref (ca 10), .int 100, .int (-1), .int (-1)])), ((ca 10), .inl (cI, 480, .inl (fun _ => (-2)))), ((sa 11), .inr (8, [.ref (la 11), .ref (ca 11), .int 100, .int (-1), .int (-1)])), ((ca 11), .inl (cI, 480, .inl (fun _ => (-2))))])) (va_Qv (fun _ : Unit => True) (fun _ t => va_P (dC, dI) vwCl [(h0, .inr (10, [.ref pg, .ref pl, .ref it, .int 0, .ref ac, .int 0, .ref rv, .int 0, .int 0]))] t.heap ∧ va_D (va_A [(h0, .inr (10, [.ref pg, .ref pl, .ref it, .int 0, .ref ac, .int 0, .ref rv, .int 0, .int 0])), (pg, .inl (cS, 12, .inr (.inr (.inr (.inr (fun j => some (sa j))))))), ((sa 0), .inr (8, [.ref (la 0), .ref (ca 0), .int 100, .int (-1), .int (-1)])), ((ca 0), .inl (cI, 480, .inl (fun _ => (-2)))), ((sa 1), .inr (8, [.ref (la 1), .ref (ca 1), .int 100, .int (-1), .int (-1)])), ((ca 1), .inl (cI, 480, .inl (fun _ => (-2)))), ((sa 2), .inr (8, [.ref (la 2), .ref (ca 2), .int 100, .int (-1), .int (-1)])), ((ca 2), .inl (cI, 480, .inl (fun _ => (-2)))), ((sa 3), .inr (8, [.ref (la 3), .ref (ca 3), .int 100, .int (-1), .int (-1)])), ((ca 3), .inl (cI, 480, .inl (fun _ => (-2)))), ((sa 4), .inr (8, [.ref (la 4), .ref (ca 4), .int 100, .int (-1), .int (-1)])), ((ca 4), .inl (cI, 480, .inl (fun _ => (-2)))), ((sa 5), .inr (8, [.ref (la 5), .ref (ca 5), .int 100, .int (-1), .int (-1)])), ((ca 5), .inl (cI, 480, .inl (fun _ => (-2)))), ((sa 6), .inr (8, [.ref (la 6), .ref (ca 6), .int 100, .int (-1), .int (-1)])), ((ca 6), .inl (cI, 480, .inl (fun _ => (-2)))), ((sa 7), .inr (8, [.ref (la 7), .ref (ca 7), .int 100, .int (-1), .int (-1)])), ((ca 7), .inl (cI, 480, .inl (fun _ => (-2)))), ((sa 8), .inr (8, [.ref (la 8), .ref (ca 8), .int 100, .int (-1), .int (-1)])), ((ca 8), .inl (cI, 480, .inl (fun _ => (-2)))), ((sa 9), .inr (8, [.ref (la 9), .ref (ca 9), .int 100, .int (-1), .int (-1)])), ((ca 9), .inl (cI, 480, .inl (fun _ => (-2)))), ((sa 10), .inr (8, [.ref (la 10), .ref (ca 10), .int 100, .int (-1), .int (-1)])), ((ca 10), .inl (cI, 480, .inl (fun _ => (-2)))), ((sa 11), .inr (8, [.ref (la 11), .ref (ca 11), .int 100, .int (-1), .int (-1)])), ((ca 11), .inl (cI, 480, .inl (fun _ => (-2))))] sz) [(h0, .inr (10, [.ref pg, .ref pl, .ref it, .int 0, .ref ac, .int 0, .ref rv, .int 0, .int 0]))]) (va_A [(h0, .inr (10, [.ref pg, .ref pl, .ref it, .int 0, .ref ac, .int 0, .ref rv, .int 0, .int 0])), (pg, .inl (cS, 12, .inr (.inr (.inr (.inr (fun j => some (sa j))))))), ((sa 0), .inr (8, [.ref (la 0), .ref (ca 0), .int 100, .int (-1), .int (-1)])), ((ca 0), .inl (cI, 480, .inl (fun _ => (-2)))), ((sa 1), .inr (8, [.ref (la 1), .ref (ca 1), .int 100, .int (-1), .int (-1)])), ((ca 1), .inl (cI, 480, .inl (fun _ => (-2)))), ((sa 2), .inr (8, [.ref (la 2), .ref (ca 2), .int 100, .int (-1), .int (-1)])), ((ca 2), .inl (cI, 480, .inl (fun _ => (-2)))), ((sa 3), .inr (8, [.ref (la 3), .ref (ca 3), .int 100, .int (-1), .int (-1)])), ((ca 3), .inl (cI, 480, .inl (fun _ => (-2)))), ((sa 4), .inr (8, [.ref (la 4), .ref (ca 4), .int 100, .int (-1), .int (-1)])), ((ca 4), .inl (cI, 480, .inl (fun _ => (-2)))), ((sa 5), .inr (8, [.ref (la 5), .ref (ca 5), .int 100, .int (-1), .int (-1)])), ((ca 5), .inl (cI, 480, .inl (fun _ => (-2)))), ((sa 6), .inr (8, [.ref (la 6), .ref (ca 6), .int 100, .int (-1), .int (-1)])), ((ca 6), .inl (cI, 480, .inl (fun _ => (-2)))), ((sa 7), .inr (8, [.ref (la 7), .ref (ca 7), .int 100, .int (-1), .int (-1)])), ((ca 7), .inl (cI, 480, .inl (fun _ => (-2)))), ((sa 8), .inr (8, [.ref (la 8), .ref (ca 8), .int 100, .int (-1), .int (-1)])), ((ca 8), .inl (cI, 480, .inl (fun _ => (-2)))), ((sa 9), .inr (8, [.ref (la 9), .ref (ca 9), .int 100, .int (-1), .int (-1)])), ((ca 9), .inl (cI, 480, .inl (fun _ => (-2)))), ((sa 10), .inr (8, [.ref (la 10), .ref (ca 10), .int 100, .int (-1), .int (-1)])), ((ca 10), .inl (cI, 480, .inl (fun _ => (-2)))), ((sa 11), .inr (8, [.ref (la 11), .ref (ca 11), .int 100, .int (-1), .int (-1)])), ((ca 11), .inl (cI, 480, .inl (fun _ => (-2))))] sz)) 0 0 (va_A [(h0, .inr (10, [.ref pg, .ref pl, .ref it, .int 0, .ref ac, .int 0, .ref rv, .int 0, .int 0])), (pg, .inl (cS, 12, .inr (.inr (.inr (.inr (fun j => some (sa j))))))), ((sa 0), .inr (8, [.ref (la 0), .ref (ca 0), .int 100, .int (-1), .int (-1)])), ((ca 0), .inl (cI, 480, .inl (fun _ => (-2)))), ((sa 1), .inr (8, [.ref (la 1), .ref (ca 1), .int 100, .int (-1), .int (-1)])), ((ca 1), .inl (cI, 480, .inl (fun _ => (-2)))), ((sa 2), .inr (8, [.ref (la 2), .ref (ca 2), .int 100, .int (-1), .int (-1)])), ((ca 2), .inl (cI, 480, .inl (fun _ => (-2)))), ((sa 3), .inr (8, [.ref (la 3), .ref (ca 3), .int 100, .int (-1), .int (-1)])), ((ca 3), .inl (cI, 480, .inl (fun _ => (-2)))), ((sa 4), .inr (8, [.ref (la 4), .ref (ca 4), .int 100, .int (-1), .int (-1)])), ((ca 4), .inl (cI, 480, .inl (fun _ => (-2)))), ((sa 5), .inr (8, [.ref (la 5), .ref (ca 5), .int 100, .int (-1), .int (-1)])), ((ca 5), .inl (cI, 480, .inl (fun _ => (-2)))), ((sa 6), .inr (8, [.ref (la 6), .ref (ca 6), .int 100, .int (-1), .int (-1)])), ((ca 6), .inl (cI, 480, .inl (fun _ => (-2)))), ((sa 7), .inr (8, [.ref (la 7), .ref (ca 7), .int 100, .int (-1), .int (-1)])), ((ca 7), .inl (cI, 480, .inl (fun _ => (-2)))), ((sa 8), .inr (8, [.ref (la 8), .ref (ca 8), .int 100, .int (-1), .int (-1)])), ((ca 8), .inl (cI, 480, .inl (fun _ => (-2)))), ((sa 9), .inr (8, [.ref (la 9), .ref (ca 9), .int 100, .int (-1), .int (-1)])), ((ca 9), .inl (cI, 480, .inl (fun _ => (-2)))), ((sa 10), .inr (8, [.ref (la 10), .ref (ca 10), .int 100, .int (-1), .int (-1)])), ((ca 10), .inl (cI, 480, .inl (fun _ => (-2)))), ((sa 11), .inr (8, [.ref (la 11), .ref (ca 11), .int 100, .int (-1), .int (-1)])), ((ca 11), .inl (cI, 480, .inl (fun _ => (-2))))] sz) := by
  refine Met.ofW (cc := cX11_clearDesk) (maxL := 2) (ret := none) (by decide) rfl ?_
  intro p e s m args below meth c s₁ B hml hv
  obtain ⟨rfl, hsz, ⟨hP, hK, hN⟩, hD0⟩ := hv
  have hx := B.exec
  have hb := B.bytes
  have hr := B.returns
  have hts := atoms_spec (ws := wsX11_clearDesk) B.pre
  have hown : s.vm.findClass RX11 = some m.cls := findClass_of_methodNamed B.named
  have hlocks := B.notSynchronized
  subst hsz
  have hD := hD0.self (sz := s.heap.size)
  generalize hAe : va_A [(h0, .inr (10, [.ref pg, .ref pl, .ref it, .int 0, .ref ac, .int 0, .ref rv, .int 0, .int 0])), (pg, .inl (cS, 12, .inr (.inr (.inr (.inr (fun j => some (sa j))))))), ((sa 0), .inr (8, [.ref (la 0), .ref (ca 0), .int 100, .int (-1), .int (-1)])), ((ca 0), .inl (cI, 480, .inl (fun _ => (-2)))), ((sa 1), .inr (8, [.ref (la 1), .ref (ca 1), .int 100, .int (-1), .int (-1)])), ((ca 1), .inl (cI, 480, .inl (fun _ => (-2)))), ((sa 2), .inr (8, [.ref (la 2), .ref (ca 2), .int 100, .int (-1), .int (-1)])), ((ca 2), .inl (cI, 480, .inl (fun _ => (-2)))), ((sa 3), .inr (8, [.ref (la 3), .ref (ca 3), .int 100, .int (-1), .int (-1)])), ((ca 3), .inl (cI, 480, .inl (fun _ => (-2)))), ((sa 4), .inr (8, [.ref (la 4), .ref (ca 4), .int 100, .int (-1), .int (-1)])), ((ca 4), .inl (cI, 480, .inl (fun _ => (-2)))), ((sa 5), .inr (8, [.ref (la 5), .ref (ca 5), .int 100, .int (-1), .int (-1)])), ((ca 5), .inl (cI, 480, .inl (fun _ => (-2)))), ((sa 6), .inr (8, [.ref (la 6), .ref (ca 6), .int 100, .int (-1), .int (-1)])), ((ca 6), .inl (cI, 480, .inl (fun _ => (-2)))), ((sa 7), .inr (8, [.ref (la 7), .ref (ca 7), .int 100, .int (-1), .int (-1)])), ((ca 7), .inl (cI, 480, .inl (fun _ => (-2)))), ((sa 8), .inr (8, [.ref (la 8), .ref (ca 8), .int 100, .int (-1), .int (-1)])), ((ca 8), .inl (cI, 480, .inl (fun _ => (-2)))), ((sa 9), .inr (8, [.ref (la 9), .ref (ca 9), .int 100, .int (-1), .int (-1)])), ((ca 9), .inl (cI, 480, .inl (fun _ => (-2)))), ((sa 10), .inr (8, [.ref (la 10), .ref (ca 10), .int 100, .int (-1), .int (-1)])), ((ca 10), .inl (cI, 480, .inl (fun _ => (-2)))), ((sa 11), .inr (8, [.ref (la 11), .ref (ca 11), .int 100, .int (-1), .int (-1)])), ((ca 11), .inl (cI, 480, .inl (fun _ => (-2))))] s.heap.size = A at hD ⊢
  have hA : ∀ q : Nat, s.heap.size ≤ q → A q := fun q h => by rw [← hAe]; exact Or.inr h
  have hS : va_S A s.heap s.heap [] := va_S.rf
  have hP : va_P (dC, dI) vwCl [(h0, .inr (10, [.ref pg, .ref pl, .ref it, .int 0, .ref ac, .int 0, .ref rv, .int 0, .int 0])), (pg, .inl (cS, 12, .inr (.inr (.inr (.inr (fun j => some (sa j))))))), ((sa 0), .inr (8, [.ref (la 0), .ref (ca 0), .int 100, .int (-1), .int (-1)])), ((ca 0), .inl (cI, 480, .inl (fun _ => (-2)))), ((sa 1), .inr (8, [.ref (la 1), .ref (ca 1), .int 100, .int (-1), .int (-1)])), ((ca 1), .inl (cI, 480, .inl (fun _ => (-2)))), ((sa 2), .inr (8, [.ref (la 2), .ref (ca 2), .int 100, .int (-1), .int (-1)])), ((ca 2), .inl (cI, 480, .inl (fun _ => (-2)))), ((sa 3), .inr (8, [.ref (la 3), .ref (ca 3), .int 100, .int (-1), .int (-1)])), ((ca 3), .inl (cI, 480, .inl (fun _ => (-2)))), ((sa 4), .inr (8, [.ref (la 4), .ref (ca 4), .int 100, .int (-1), .int (-1)])), ((ca 4), .inl (cI, 480, .inl (fun _ => (-2)))), ((sa 5), .inr (8, [.ref (la 5), .ref (ca 5), .int 100, .int (-1), .int (-1)])), ((ca 5), .inl (cI, 480, .inl (fun _ => (-2)))), ((sa 6), .inr (8, [.ref (la 6), .ref (ca 6), .int 100, .int (-1), .int (-1)])), ((ca 6), .inl (cI, 480, .inl (fun _ => (-2)))), ((sa 7), .inr (8, [.ref (la 7), .ref (ca 7), .int 100, .int (-1), .int (-1)])), ((ca 7), .inl (cI, 480, .inl (fun _ => (-2)))), ((sa 8), .inr (8, [.ref (la 8), .ref (ca 8), .int 100, .int (-1), .int (-1)])), ((ca 8), .inl (cI, 480, .inl (fun _ => (-2)))), ((sa 9), .inr (8, [.ref (la 9), .ref (ca 9), .int 100, .int (-1), .int (-1)])), ((ca 9), .inl (cI, 480, .inl (fun _ => (-2)))), ((sa 10), .inr (8, [.ref (la 10), .ref (ca 10), .int 100, .int (-1), .int (-1)])), ((ca 10), .inl (cI, 480, .inl (fun _ => (-2)))), ((sa 11), .inr (8, [.ref (la 11), .ref (ca 11), .int 100, .int (-1), .int (-1)])), ((ca 11), .inl (cI, 480, .inl (fun _ => (-2))))] s.heap := hP
  have hl := lv_entry ([.ref h0]) (n := 2) (Nat.le_of_ble_eq_true rfl)
  rw [lg_entry_eq]
  generalize (lg_sl ([.ref h0]) ++ List.replicate (2 - (lg_sl ([.ref h0])).length) Slot.unset).toArray = ls at hl ⊢
  have hl : lv_has ls 2 [(0, .ref h0)] := hl
  refine lv_iconst (v := 0) hx hb dX11_clearDesk_0 (by decide) ?_
  refine lv_istore_n (lv' := [(1, .int 0), (0, .ref h0)]) hx hb dX11_clearDesk_1 rfl hl (by decide) rfl (fun ls hl => ?_)
  refine lv_iload_n hx hb dX11_clearDesk_2 rfl (lv_at hl 0 rfl) ?_
  refine lv_aload_n hx hb dX11_clearDesk_3 rfl (lv_at hl 1 rfl) ?_
  refine va_get (D := (dC, dI)) (ci := 10) (v := .int 0) (C := RX11) (T := TX11) (N := 9) hx hb hts (by decide +kernel) hown hK hP 0 rfl rfl 3 (by decide) (hts (.fieldLink RX11 24 "PageOne" "itemCount" "I") (by decide +kernel)) (fun _ h9 => h9) rfl dX11_clearDesk_4 ?_
  refine lv_icmp_ge (tgt := 25) hx hb dX11_clearDesk_7 (by decide) (fun c_1 => ?_) (fun c_1 => absurd (by decide) c_1)
  refine lv_iconst (v := 0) hx hb dX11_clearDesk_25 (by decide) ?_
  refine lv_istore_n (lv' := [(1, .int 0), (0, .ref h0)]) hx hb dX11_clearDesk_26 rfl hl (by decide) rfl (fun ls hl => ?_)
  refine lv_iload_n hx hb dX11_clearDesk_27 rfl (lv_at hl 0 rfl) ?_
  refine lv_bipush (v := 12) hx hb dX11_clearDesk_28 (by decide) ?_
  refine lv_icmp_ge (tgt := 48) hx hb dX11_clearDesk_30 (by decide) (fun c_2 => absurd c_2 (by decide)) (fun c_2 => ?_)
  refine lv_aload_n hx hb dX11_clearDesk_33 rfl (lv_at hl 1 rfl) ?_
  refine va_get (D := (dC, dI)) (ci := 10) (v := .ref pg) (C := RX11) (T := TX11) (N := 9) hx hb hts (by decide +kernel) hown hK hP 0 rfl rfl 0 (by decide) (hts (.fieldLink RX11 11 "PageOne" "pages" "[LPageOne$Sheet;") (by decide +kernel)) (fun _ h9 => h9) rfl dX11_clearDesk_34 ?_
  refine lv_iload_n hx hb dX11_clearDesk_37 rfl (lv_at hl 0 rfl) ?_
  refine va_aldq hx hb hK hP 1 1 rfl rfl (by unfold vp_in; decide) dX11_clearDesk_38 ?_
  refine W.eq (g2 := F0 m 39 ls [.ref (sa 0)]) rfl ?_
  have hPc := hP.sub (ws' := [((sa 0), .inr (8, [.ref (la 0), .ref (ca 0), .int 100, .int (-1), .int (-1)])), ((ca 0), .inl (cI, 480, .inl (fun _ => (-2))))]) [2, 3] rfl
  have hKc := hK.sub (tys' := [(cI, .int)]) [0] rfl
  have hDc := hD.sub (ws' := [((sa 0), .inr (8, [.ref (la 0), .ref (ca 0), .int 100, .int (-1), .int (-1)])), ((ca 0), .inl (cI, 480, .inl (fun _ => (-2))))]) [2, 3] (by decide) rfl
  have hFc := va_free (wc := [((sa 0), .inr (8, [.ref (la 0), .ref (ca 0), .int 100, .int (-1), .int (-1)])), ((ca 0), .inl (cI, 480, .inl (fun _ => (-2))))]) hD hS hA [2, 3] rfl
  refine va_callv (va_runV (As := []) (rest := []) ⟨hx, hb, hml, hown, hts⟩ (x_clear l dC dI (sa 0) (la 0) (ca 0) cI s.heap.size) (cwV 0 hts gX11_clearDesk_X9_clear rfl rfl rfl (by decide +kernel) ⟨Nat.le_of_ble_eq_true rfl, Nat.le_of_ble_eq_true rfl⟩) ⟨gw_fb, va_recv hKc hPc (ci := 8) (q0 := 0) rfl rfl, fun U hU hW => ⟨rfl, by rw [hU], pw_to hU hW hPc hKc hN, hDc.weaken (fun _ _ _ _ => trivial)⟩⟩ rfl rfl hl.1 rfl (lv_room (Nat.le_of_ble_eq_true rfl)) dX11_clearDesk_39 ⟨Nat.le_of_ble_eq_true rfl, Nat.le_of_ble_eq_true rfl⟩) hS (fun q _ h => hFc q h) hFc (fun u t H1 locs ht hvm hw hB hz1 hk1 hS => ?_)
  have hP1 : va_P (dC, dI) vwCl [] H1 := fun k q h => by simp at h
  have hD1 : va_D (va_A [((sa 0), .inr (8, [.ref (la 0), .ref (ca 0), .int 100, .int (-1), .int (-1)])), ((ca 0), .inl (cI, 480, .inl (fun _ => (-2))))] s.heap.size) [] := ⟨fun i j p q h => by simp at h, fun k q h => by simp at h⟩
  obtain ⟨hP, hD⟩ := va_join (wr := [(h0, .inr (10, [.ref pg, .ref pl, .ref it, .int 0, .ref ac, .int 0, .ref rv, .int 0, .int 0])), (pg, .inl (cS, 12, .inr (.inr (.inr (.inr (fun j => some (sa j))))))), ((sa 1), .inr (8, [.ref (la 1), .ref (ca 1), .int 100, .int (-1), .int (-1)])), ((ca 1), .inl (cI, 480, .inl (fun _ => (-2)))), ((sa 2), .inr (8, [.ref (la 2), .ref (ca 2), .int 100, .int (-1), .int (-1)])), ((ca 2), .inl (cI, 480, .inl (fun _ => (-2)))), ((sa 3), .inr (8, [.ref (la 3), .ref (ca 3), .int 100, .int (-1), .int (-1)])), ((ca 3), .inl (cI, 480, .inl (fun _ => (-2)))), ((sa 4), .inr (8, [.ref (la 4), .ref (ca 4), .int 100, .int (-1), .int (-1)])), ((ca 4), .inl (cI, 480, .inl (fun _ => (-2)))), ((sa 5), .inr (8, [.ref (la 5), .ref (ca 5), .int 100, .int (-1), .int (-1)])), ((ca 5), .inl (cI, 480, .inl (fun _ => (-2)))), ((sa 6), .inr (8, [.ref (la 6), .ref (ca 6), .int 100, .int (-1), .int (-1)])), ((ca 6), .inl (cI, 480, .inl (fun _ => (-2)))), ((sa 7), .inr (8, [.ref (la 7), .ref (ca 7), .int 100, .int (-1), .int (-1)])), ((ca 7), .inl (cI, 480, .inl (fun _ => (-2)))), ((sa 8), .inr (8, [.ref (la 8), .ref (ca 8), .int 100, .int (-1), .int (-1)])), ((ca 8), .inl (cI, 480, .inl (fun _ => (-2)))), ((sa 9), .inr (8, [.ref (la 9), .ref (ca 9), .int 100, .int (-1), .int (-1)])), ((ca 9), .inl (cI, 480, .inl (fun _ => (-2)))), ((sa 10), .inr (8, [.ref (la 10), .ref (ca 10), .int 100, .int (-1), .int (-1)])), ((ca 10), .inl (cI, 480, .inl (fun _ => (-2)))), ((sa 11), .inr (8, [.ref (la 11), .ref (ca 11), .int 100, .int (-1), .int (-1)])), ((ca 11), .inl (cI, 480, .inl (fun _ => (-2))))]) (w1 := []) hP hD [2, 3] [0, 1, 4, 5, 6, 7, 8, 9, 10, 11, 12, 13, 14, 15, 16, 17, 18, 19, 20, 21, 22, 23, 24, 25] rfl rfl (by decide) (by decide) hk1 hFc hP1 hD1
  generalize H1 = H at hP hS ⊢
  have hP : va_P (dC, dI) vwCl [(h0, .inr (10, [.ref pg, .ref pl, .ref it, .int 0, .ref ac, .int 0, .ref rv, .int 0, .int 0])), (pg, .inl (cS, 12, .inr (.inr (.inr (.inr (fun j => some (sa j))))))), ((sa 1), .inr (8, [.ref (la 1), .ref (ca 1), .int 100, .int (-1), .int (-1)])), ((ca 1), .inl (cI, 480, .inl (fun _ => (-2)))), ((sa 2), .inr (8, [.ref (la 2), .ref (ca 2), .int 100, .int (-1), .int (-1)])), ((ca 2), .inl (cI, 480, .inl (fun _ => (-2)))), ((sa 3), .inr (8, [.ref (la 3), .ref (ca 3), .int 100, .int (-1), .int (-1)])), ((ca 3), .inl (cI, 480, .inl (fun _ => (-2)))), ((sa 4), .inr (8, [.ref (la 4), .ref (ca 4), .int 100, .int (-1), .int (-1)])), ((ca 4), .inl (cI, 480, .inl (fun _ => (-2)))), ((sa 5), .inr (8, [.ref (la 5), .ref (ca 5), .int 100, .int (-1), .int (-1)])), ((ca 5), .inl (cI, 480, .inl (fun _ => (-2)))), ((sa 6), .inr (8, [.ref (la 6), .ref (ca 6), .int 100, .int (-1), .int (-1)])), ((ca 6), .inl (cI, 480, .inl (fun _ => (-2)))), ((sa 7), .inr (8, [.ref (la 7), .ref (ca 7), .int 100, .int (-1), .int (-1)])), ((ca 7), .inl (cI, 480, .inl (fun _ => (-2)))), ((sa 8), .inr (8, [.ref (la 8), .ref (ca 8), .int 100, .int (-1), .int (-1)])), ((ca 8), .inl (cI, 480, .inl (fun _ => (-2)))), ((sa 9), .inr (8, [.ref (la 9), .ref (ca 9), .int 100, .int (-1), .int (-1)])), ((ca 9), .inl (cI, 480, .inl (fun _ => (-2)))), ((sa 10), .inr (8, [.ref (la 10), .ref (ca 10), .int 100, .int (-1), .int (-1)])), ((ca 10), .inl (cI, 480, .inl (fun _ => (-2)))), ((sa 11), .inr (8, [.ref (la 11), .ref (ca 11), .int 100, .int (-1), .int (-1)])), ((ca 11), .inl (cI, 480, .inl (fun _ => (-2))))] H := hP
  have hD : va_D A [(h0, .inr (10, [.ref pg, .ref pl, .ref it, .int 0, .ref ac, .int 0, .ref rv, .int 0, .int 0])), (pg, .inl (cS, 12, .inr (.inr (.inr (.inr (fun j => some (sa j))))))), ((sa 1), .inr (8, [.ref (la 1), .ref (ca 1), .int 100, .int (-1), .int (-1)])), ((ca 1), .inl (cI, 480, .inl (fun _ => (-2)))), ((sa 2), .inr (8, [.ref (la 2), .ref (ca 2), .int 100, .int (-1), .int (-1)])), ((ca 2), .inl (cI, 480, .inl (fun _ => (-2)))), ((sa 3), .inr (8, [.ref (la 3), .ref (ca 3), .int 100, .int (-1), .int (-1)])), ((ca 3), .inl (cI, 480, .inl (fun _ => (-2)))), ((sa 4), .inr (8, [.ref (la 4), .ref (ca 4), .int 100, .int (-1), .int (-1)])), ((ca 4), .inl (cI, 480, .inl (fun _ => (-2)))), ((sa 5), .inr (8, [.ref (la 5), .ref (ca 5), .int 100, .int (-1), .int (-1)])), ((ca 5), .inl (cI, 480, .inl (fun _ => (-2)))), ((sa 6), .inr (8, [.ref (la 6), .ref (ca 6), .int 100, .int (-1), .int (-1)])), ((ca 6), .inl (cI, 480, .inl (fun _ => (-2)))), ((sa 7), .inr (8, [.ref (la 7), .ref (ca 7), .int 100, .int (-1), .int (-1)])), ((ca 7), .inl (cI, 480, .inl (fun _ => (-2)))), ((sa 8), .inr (8, [.ref (la 8), .ref (ca 8), .int 100, .int (-1), .int (-1)])), ((ca 8), .inl (cI, 480, .inl (fun _ => (-2)))), ((sa 9), .inr (8, [.ref (la 9), .ref (ca 9), .int 100, .int (-1), .int (-1)])), ((ca 9), .inl (cI, 480, .inl (fun _ => (-2)))), ((sa 10), .inr (8, [.ref (la 10), .ref (ca 10), .int 100, .int (-1), .int (-1)])), ((ca 10), .inl (cI, 480, .inl (fun _ => (-2)))), ((sa 11), .inr (8, [.ref (la 11), .ref (ca 11), .int 100, .int (-1), .int (-1)])), ((ca 11), .inl (cI, 480, .inl (fun _ => (-2))))] := hD
  refine W.widen (k := 0) (n := 0) (Nat.le_of_ble_eq_true rfl) (Nat.le_of_ble_eq_true rfl) ?_
  refine lv_iinc (v := 1) (lv' := [(1, .int 1), (0, .ref h0)]) hx hb dX11_clearDesk_42 hl (k := 0) rfl (by decide) (by decide) rfl (fun ls hl => ?_)
  refine lv_goto (tgt := 27) hx hb dX11_clearDesk_45 (by decide) ?_
  refine lv_iload_n hx hb dX11_clearDesk_27 rfl (lv_at hl 0 rfl) ?_
  refine lv_bipush (v := 12) hx hb dX11_clearDesk_28 (by decide) ?_
  refine lv_icmp_ge (tgt := 48) hx hb dX11_clearDesk_30 (by decide) (fun c_3 => absurd c_3 (by decide)) (fun c_3 => ?_)
  refine lv_aload_n hx hb dX11_clearDesk_33 rfl (lv_at hl 1 rfl) ?_
  refine va_get (D := (dC, dI)) (ci := 10) (v := .ref pg) (C := RX11) (T := TX11) (N := 9) hx hb hts (by decide +kernel) hown hK hP 0 rfl rfl 0 (by decide) (hts (.fieldLink RX11 11 "PageOne" "pages" "[LPageOne$Sheet;") (by decide +kernel)) (fun _ h9 => h9) rfl dX11_clearDesk_34 ?_
  refine lv_iload_n hx hb dX11_clearDesk_37 rfl (lv_at hl 0 rfl) ?_
  refine va_aldq hx hb hK hP 1 1 rfl rfl (by unfold vp_in; decide) dX11_clearDesk_38 ?_
  refine W.eq (g2 := F0 m 39 ls [.ref (sa 1)]) rfl ?_
  have hPc := hP.sub (ws' := [((sa 1), .inr (8, [.ref (la 1), .ref (ca 1), .int 100, .int (-1), .int (-1)])), ((ca 1), .inl (cI, 480, .inl (fun _ => (-2))))]) [2, 3] rfl
  have hKc := hK.sub (tys' := [(cI, .int)]) [0] rfl
  have hDc := hD.sub (ws' := [((sa 1), .inr (8, [.ref (la 1), .ref (ca 1), .int 100, .int (-1), .int (-1)])), ((ca 1), .inl (cI, 480, .inl (fun _ => (-2))))]) [2, 3] (by decide) rfl
  have hFc := va_free (wc := [((sa 1), .inr (8, [.ref (la 1), .ref (ca 1), .int 100, .int (-1), .int (-1)])), ((ca 1), .inl (cI, 480, .inl (fun _ => (-2))))]) hD hS hA [2, 3] rfl
  refine va_callv (va_runV (As := []) (rest := []) ⟨hx, hb, hml, hown, hts⟩ (x_clear l dC dI (sa 1) (la 1) (ca 1) cI H.size) (cwV 0 hts gX11_clearDesk_X9_clear rfl rfl rfl (by decide +kernel) ⟨Nat.le_of_ble_eq_true rfl, Nat.le_of_ble_eq_true rfl⟩) ⟨gw_fb, va_recv hKc hPc (ci := 8) (q0 := 0) rfl rfl, fun U hU hW => ⟨rfl, by rw [hU], pw_to hU hW hPc hKc hN, hDc.weaken (fun _ _ _ _ => trivial)⟩⟩ rfl rfl hl.1 rfl (lv_room (Nat.le_of_ble_eq_true rfl)) dX11_clearDesk_39 ⟨Nat.le_of_ble_eq_true rfl, Nat.le_of_ble_eq_true rfl⟩) hS (fun q _ h => hFc q h) hFc (fun u t H1 locs ht hvm hw hB hz1 hk1 hS => ?_)
  have hP1 : va_P (dC, dI) vwCl [] H1 := fun k q h => by simp at h
  have hD1 : va_D (va_A [((sa 1), .inr (8, [.ref (la 1), .ref (ca 1), .int 100, .int (-1), .int (-1)])), ((ca 1), .inl (cI, 480, .inl (fun _ => (-2))))] H.size) [] := ⟨fun i j p q h => by simp at h, fun k q h => by simp at h⟩
  obtain ⟨hP, hD⟩ := va_join (wr := [(h0, .inr (10, [.ref pg, .ref pl, .ref it, .int 0, .ref ac, .int 0, .ref rv, .int 0, .int 0])), (pg, .inl (cS, 12, .inr (.inr (.inr (.inr (fun j => some (sa j))))))), ((sa 2), .inr (8, [.ref (la 2), .ref (ca 2), .int 100, .int (-1), .int (-1)])), ((ca 2), .inl (cI, 480, .inl (fun _ => (-2)))), ((sa 3), .inr (8, [.ref (la 3), .ref (ca 3), .int 100, .int (-1), .int (-1)])), ((ca 3), .inl (cI, 480, .inl (fun _ => (-2)))), ((sa 4), .inr (8, [.ref (la 4), .ref (ca 4), .int 100, .int (-1), .int (-1)])), ((ca 4), .inl (cI, 480, .inl (fun _ => (-2)))), ((sa 5), .inr (8, [.ref (la 5), .ref (ca 5), .int 100, .int (-1), .int (-1)])), ((ca 5), .inl (cI, 480, .inl (fun _ => (-2)))), ((sa 6), .inr (8, [.ref (la 6), .ref (ca 6), .int 100, .int (-1), .int (-1)])), ((ca 6), .inl (cI, 480, .inl (fun _ => (-2)))), ((sa 7), .inr (8, [.ref (la 7), .ref (ca 7), .int 100, .int (-1), .int (-1)])), ((ca 7), .inl (cI, 480, .inl (fun _ => (-2)))), ((sa 8), .inr (8, [.ref (la 8), .ref (ca 8), .int 100, .int (-1), .int (-1)])), ((ca 8), .inl (cI, 480, .inl (fun _ => (-2)))), ((sa 9), .inr (8, [.ref (la 9), .ref (ca 9), .int 100, .int (-1), .int (-1)])), ((ca 9), .inl (cI, 480, .inl (fun _ => (-2)))), ((sa 10), .inr (8, [.ref (la 10), .ref (ca 10), .int 100, .int (-1), .int (-1)])), ((ca 10), .inl (cI, 480, .inl (fun _ => (-2)))), ((sa 11), .inr (8, [.ref (la 11), .ref (ca 11), .int 100, .int (-1), .int (-1)])), ((ca 11), .inl (cI, 480, .inl (fun _ => (-2))))]) (w1 := []) hP hD [2, 3] [0, 1, 4, 5, 6, 7, 8, 9, 10, 11, 12, 13, 14, 15, 16, 17, 18, 19, 20, 21, 22, 23] rfl rfl (by decide) (by decide) hk1 hFc hP1 hD1
  generalize H1 = H at hP hS ⊢
  have hP : va_P (dC, dI) vwCl [(h0, .inr (10, [.ref pg, .ref pl, .ref it, .int 0, .ref ac, .int 0, .ref rv, .int 0, .int 0])), (pg, .inl (cS, 12, .inr (.inr (.inr (.inr (fun j => some (sa j))))))), ((sa 2), .inr (8, [.ref (la 2), .ref (ca 2), .int 100, .int (-1), .int (-1)])), ((ca 2), .inl (cI, 480, .inl (fun _ => (-2)))), ((sa 3), .inr (8, [.ref (la 3), .ref (ca 3), .int 100, .int (-1), .int (-1)])), ((ca 3), .inl (cI, 480, .inl (fun _ => (-2)))), ((sa 4), .inr (8, [.ref (la 4), .ref (ca 4), .int 100, .int (-1), .int (-1)])), ((ca 4), .inl (cI, 480, .inl (fun _ => (-2)))), ((sa 5), .inr (8, [.ref (la 5), .ref (ca 5), .int 100, .int (-1), .int (-1)])), ((ca 5), .inl (cI, 480, .inl (fun _ => (-2)))), ((sa 6), .inr (8, [.ref (la 6), .ref (ca 6), .int 100, .int (-1), .int (-1)])), ((ca 6), .inl (cI, 480, .inl (fun _ => (-2)))), ((sa 7), .inr (8, [.ref (la 7), .ref (ca 7), .int 100, .int (-1), .int (-1)])), ((ca 7), .inl (cI, 480, .inl (fun _ => (-2)))), ((sa 8), .inr (8, [.ref (la 8), .ref (ca 8), .int 100, .int (-1), .int (-1)])), ((ca 8), .inl (cI, 480, .inl (fun _ => (-2)))), ((sa 9), .inr (8, [.ref (la 9), .ref (ca 9), .int 100, .int (-1), .int (-1)])), ((ca 9), .inl (cI, 480, .inl (fun _ => (-2)))), ((sa 10), .inr (8, [.ref (la 10), .ref (ca 10), .int 100, .int (-1), .int (-1)])), ((ca 10), .inl (cI, 480, .inl (fun _ => (-2)))), ((sa 11), .inr (8, [.ref (la 11), .ref (ca 11), .int 100, .int (-1), .int (-1)])), ((ca 11), .inl (cI, 480, .inl (fun _ => (-2))))] H := hP
  have hD : va_D A [(h0, .inr (10, [.ref pg, .ref pl, .ref it, .int 0, .ref ac, .int 0, .ref rv, .int 0, .int 0])), (pg, .inl (cS, 12, .inr (.inr (.inr (.inr (fun j => some (sa j))))))), ((sa 2), .inr (8, [.ref (la 2), .ref (ca 2), .int 100, .int (-1), .int (-1)])), ((ca 2), .inl (cI, 480, .inl (fun _ => (-2)))), ((sa 3), .inr (8, [.ref (la 3), .ref (ca 3), .int 100, .int (-1), .int (-1)])), ((ca 3), .inl (cI, 480, .inl (fun _ => (-2)))), ((sa 4), .inr (8, [.ref (la 4), .ref (ca 4), .int 100, .int (-1), .int (-1)])), ((ca 4), .inl (cI, 480, .inl (fun _ => (-2)))), ((sa 5), .inr (8, [.ref (la 5), .ref (ca 5), .int 100, .int (-1), .int (-1)])), ((ca 5), .inl (cI, 480, .inl (fun _ => (-2)))), ((sa 6), .inr (8, [.ref (la 6), .ref (ca 6), .int 100, .int (-1), .int (-1)])), ((ca 6), .inl (cI, 480, .inl (fun _ => (-2)))), ((sa 7), .inr (8, [.ref (la 7), .ref (ca 7), .int 100, .int (-1), .int (-1)])), ((ca 7), .inl (cI, 480, .inl (fun _ => (-2)))), ((sa 8), .inr (8, [.ref (la 8), .ref (ca 8), .int 100, .int (-1), .int (-1)])), ((ca 8), .inl (cI, 480, .inl (fun _ => (-2)))), ((sa 9), .inr (8, [.ref (la 9), .ref (ca 9), .int 100, .int (-1), .int (-1)])), ((ca 9), .inl (cI, 480, .inl (fun _ => (-2)))), ((sa 10), .inr (8, [.ref (la 10), .ref (ca 10), .int 100, .int (-1), .int (-1)])), ((ca 10), .inl (cI, 480, .inl (fun _ => (-2)))), ((sa 11), .inr (8, [.ref (la 11), .ref (ca 11), .int 100, .int (-1), .int (-1)])), ((ca 11), .inl (cI, 480, .inl (fun _ => (-2))))] := hD
  refine W.widen (k := 0) (n := 0) (Nat.le_of_ble_eq_true rfl) (Nat.le_of_ble_eq_true rfl) ?_
  refine lv_iinc (v := 2) (lv' := [(1, .int 2), (0, .ref h0)]) hx hb dX11_clearDesk_42 hl (k := 0) rfl (by decide) (by decide) rfl (fun ls hl => ?_)
  refine lv_goto (tgt := 27) hx hb dX11_clearDesk_45 (by decide) ?_
  refine lv_iload_n hx hb dX11_clearDesk_27 rfl (lv_at hl 0 rfl) ?_
  refine lv_bipush (v := 12) hx hb dX11_clearDesk_28 (by decide) ?_
  refine lv_icmp_ge (tgt := 48) hx hb dX11_clearDesk_30 (by decide) (fun c_4 => absurd c_4 (by decide)) (fun c_4 => ?_)
  refine lv_aload_n hx hb dX11_clearDesk_33 rfl (lv_at hl 1 rfl) ?_
  refine va_get (D := (dC, dI)) (ci := 10) (v := .ref pg) (C := RX11) (T := TX11) (N := 9) hx hb hts (by decide +kernel) hown hK hP 0 rfl rfl 0 (by decide) (hts (.fieldLink RX11 11 "PageOne" "pages" "[LPageOne$Sheet;") (by decide +kernel)) (fun _ h9 => h9) rfl dX11_clearDesk_34 ?_
  refine lv_iload_n hx hb dX11_clearDesk_37 rfl (lv_at hl 0 rfl) ?_
  refine va_aldq hx hb hK hP 1 1 rfl rfl (by unfold vp_in; decide) dX11_clearDesk_38 ?_
  refine W.eq (g2 := F0 m 39 ls [.ref (sa 2)]) rfl ?_
  have hPc := hP.sub (ws' := [((sa 2), .inr (8, [.ref (la 2), .ref (ca 2), .int 100, .int (-1), .int (-1)])), ((ca 2), .inl (cI, 480, .inl (fun _ => (-2))))]) [2, 3] rfl
  have hKc := hK.sub (tys' := [(cI, .int)]) [0] rfl
  have hDc := hD.sub (ws' := [((sa 2), .inr (8, [.ref (la 2), .ref (ca 2), .int 100, .int (-1), .int (-1)])), ((ca 2), .inl (cI, 480, .inl (fun _ => (-2))))]) [2, 3] (by decide) rfl
  have hFc := va_free (wc := [((sa 2), .inr (8, [.ref (la 2), .ref (ca 2), .int 100, .int (-1), .int (-1)])), ((ca 2), .inl (cI, 480, .inl (fun _ => (-2))))]) hD hS hA [2, 3] rfl
  refine va_callv (va_runV (As := []) (rest := []) ⟨hx, hb, hml, hown, hts⟩ (x_clear l dC dI (sa 2) (la 2) (ca 2) cI H.size) (cwV 0 hts gX11_clearDesk_X9_clear rfl rfl rfl (by decide +kernel) ⟨Nat.le_of_ble_eq_true rfl, Nat.le_of_ble_eq_true rfl⟩) ⟨gw_fb, va_recv hKc hPc (ci := 8) (q0 := 0) rfl rfl, fun U hU hW => ⟨rfl, by rw [hU], pw_to hU hW hPc hKc hN, hDc.weaken (fun _ _ _ _ => trivial)⟩⟩ rfl rfl hl.1 rfl (lv_room (Nat.le_of_ble_eq_true rfl)) dX11_clearDesk_39 ⟨Nat.le_of_ble_eq_true rfl, Nat.le_of_ble_eq_true rfl⟩) hS (fun q _ h => hFc q h) hFc (fun u t H1 locs ht hvm hw hB hz1 hk1 hS => ?_)
  have hP1 : va_P (dC, dI) vwCl [] H1 := fun k q h => by simp at h
  have hD1 : va_D (va_A [((sa 2), .inr (8, [.ref (la 2), .ref (ca 2), .int 100, .int (-1), .int (-1)])), ((ca 2), .inl (cI, 480, .inl (fun _ => (-2))))] H.size) [] := ⟨fun i j p q h => by simp at h, fun k q h => by simp at h⟩
  obtain ⟨hP, hD⟩ := va_join (wr := [(h0, .inr (10, [.ref pg, .ref pl, .ref it, .int 0, .ref ac, .int 0, .ref rv, .int 0, .int 0])), (pg, .inl (cS, 12, .inr (.inr (.inr (.inr (fun j => some (sa j))))))), ((sa 3), .inr (8, [.ref (la 3), .ref (ca 3), .int 100, .int (-1), .int (-1)])), ((ca 3), .inl (cI, 480, .inl (fun _ => (-2)))), ((sa 4), .inr (8, [.ref (la 4), .ref (ca 4), .int 100, .int (-1), .int (-1)])), ((ca 4), .inl (cI, 480, .inl (fun _ => (-2)))), ((sa 5), .inr (8, [.ref (la 5), .ref (ca 5), .int 100, .int (-1), .int (-1)])), ((ca 5), .inl (cI, 480, .inl (fun _ => (-2)))), ((sa 6), .inr (8, [.ref (la 6), .ref (ca 6), .int 100, .int (-1), .int (-1)])), ((ca 6), .inl (cI, 480, .inl (fun _ => (-2)))), ((sa 7), .inr (8, [.ref (la 7), .ref (ca 7), .int 100, .int (-1), .int (-1)])), ((ca 7), .inl (cI, 480, .inl (fun _ => (-2)))), ((sa 8), .inr (8, [.ref (la 8), .ref (ca 8), .int 100, .int (-1), .int (-1)])), ((ca 8), .inl (cI, 480, .inl (fun _ => (-2)))), ((sa 9), .inr (8, [.ref (la 9), .ref (ca 9), .int 100, .int (-1), .int (-1)])), ((ca 9), .inl (cI, 480, .inl (fun _ => (-2)))), ((sa 10), .inr (8, [.ref (la 10), .ref (ca 10), .int 100, .int (-1), .int (-1)])), ((ca 10), .inl (cI, 480, .inl (fun _ => (-2)))), ((sa 11), .inr (8, [.ref (la 11), .ref (ca 11), .int 100, .int (-1), .int (-1)])), ((ca 11), .inl (cI, 480, .inl (fun _ => (-2))))]) (w1 := []) hP hD [2, 3] [0, 1, 4, 5, 6, 7, 8, 9, 10, 11, 12, 13, 14, 15, 16, 17, 18, 19, 20, 21] rfl rfl (by decide) (by decide) hk1 hFc hP1 hD1
  generalize H1 = H at hP hS ⊢
  have hP : va_P (dC, dI) vwCl [(h0, .inr (10, [.ref pg, .ref pl, .ref it, .int 0, .ref ac, .int 0, .ref rv, .int 0, .int 0])), (pg, .inl (cS, 12, .inr (.inr (.inr (.inr (fun j => some (sa j))))))), ((sa 3), .inr (8, [.ref (la 3), .ref (ca 3), .int 100, .int (-1), .int (-1)])), ((ca 3), .inl (cI, 480, .inl (fun _ => (-2)))), ((sa 4), .inr (8, [.ref (la 4), .ref (ca 4), .int 100, .int (-1), .int (-1)])), ((ca 4), .inl (cI, 480, .inl (fun _ => (-2)))), ((sa 5), .inr (8, [.ref (la 5), .ref (ca 5), .int 100, .int (-1), .int (-1)])), ((ca 5), .inl (cI, 480, .inl (fun _ => (-2)))), ((sa 6), .inr (8, [.ref (la 6), .ref (ca 6), .int 100, .int (-1), .int (-1)])), ((ca 6), .inl (cI, 480, .inl (fun _ => (-2)))), ((sa 7), .inr (8, [.ref (la 7), .ref (ca 7), .int 100, .int (-1), .int (-1)])), ((ca 7), .inl (cI, 480, .inl (fun _ => (-2)))), ((sa 8), .inr (8, [.ref (la 8), .ref (ca 8), .int 100, .int (-1), .int (-1)])), ((ca 8), .inl (cI, 480, .inl (fun _ => (-2)))), ((sa 9), .inr (8, [.ref (la 9), .ref (ca 9), .int 100, .int (-1), .int (-1)])), ((ca 9), .inl (cI, 480, .inl (fun _ => (-2)))), ((sa 10), .inr (8, [.ref (la 10), .ref (ca 10), .int 100, .int (-1), .int (-1)])), ((ca 10), .inl (cI, 480, .inl (fun _ => (-2)))), ((sa 11), .inr (8, [.ref (la 11), .ref (ca 11), .int 100, .int (-1), .int (-1)])), ((ca 11), .inl (cI, 480, .inl (fun _ => (-2))))] H := hP
  have hD : va_D A [(h0, .inr (10, [.ref pg, .ref pl, .ref it, .int 0, .ref ac, .int 0, .ref rv, .int 0, .int 0])), (pg, .inl (cS, 12, .inr (.inr (.inr (.inr (fun j => some (sa j))))))), ((sa 3), .inr (8, [.ref (la 3), .ref (ca 3), .int 100, .int (-1), .int (-1)])), ((ca 3), .inl (cI, 480, .inl (fun _ => (-2)))), ((sa 4), .inr (8, [.ref (la 4), .ref (ca 4), .int 100, .int (-1), .int (-1)])), ((ca 4), .inl (cI, 480, .inl (fun _ => (-2)))), ((sa 5), .inr (8, [.ref (la 5), .ref (ca 5), .int 100, .int (-1), .int (-1)])), ((ca 5), .inl (cI, 480, .inl (fun _ => (-2)))), ((sa 6), .inr (8, [.ref (la 6), .ref (ca 6), .int 100, .int (-1), .int (-1)])), ((ca 6), .inl (cI, 480, .inl (fun _ => (-2)))), ((sa 7), .inr (8, [.ref (la 7), .ref (ca 7), .int 100, .int (-1), .int (-1)])), ((ca 7), .inl (cI, 480, .inl (fun _ => (-2)))), ((sa 8), .inr (8, [.ref (la 8), .ref (ca 8), .int 100, .int (-1), .int (-1)])), ((ca 8), .inl (cI, 480, .inl (fun _ => (-2)))), ((sa 9), .inr (8, [.ref (la 9), .ref (ca 9), .int 100, .int (-1), .int (-1)])), ((ca 9), .inl (cI, 480, .inl (fun _ => (-2)))), ((sa 10), .inr (8, [.ref (la 10), .ref (ca 10), .int 100, .int (-1), .int (-1)])), ((ca 10), .inl (cI, 480, .inl (fun _ => (-2)))), ((sa 11), .inr (8, [.ref (la 11), .ref (ca 11), .int 100, .int (-1), .int (-1)])), ((ca 11), .inl (cI, 480, .inl (fun _ => (-2))))] := hD
  refine W.widen (k := 0) (n := 0) (Nat.le_of_ble_eq_true rfl) (Nat.le_of_ble_eq_true rfl) ?_
  refine lv_iinc (v := 3) (lv' := [(1, .int 3), (0, .ref h0)]) hx hb dX11_clearDesk_42 hl (k := 0) rfl (by decide) (by decide) rfl (fun ls hl => ?_)
  refine lv_goto (tgt := 27) hx hb dX11_clearDesk_45 (by decide) ?_
  refine lv_iload_n hx hb dX11_clearDesk_27 rfl (lv_at hl 0 rfl) ?_
  refine lv_bipush (v := 12) hx hb dX11_clearDesk_28 (by decide) ?_
  refine lv_icmp_ge (tgt := 48) hx hb dX11_clearDesk_30 (by decide) (fun c_5 => absurd c_5 (by decide)) (fun c_5 => ?_)
  refine lv_aload_n hx hb dX11_clearDesk_33 rfl (lv_at hl 1 rfl) ?_
  refine va_get (D := (dC, dI)) (ci := 10) (v := .ref pg) (C := RX11) (T := TX11) (N := 9) hx hb hts (by decide +kernel) hown hK hP 0 rfl rfl 0 (by decide) (hts (.fieldLink RX11 11 "PageOne" "pages" "[LPageOne$Sheet;") (by decide +kernel)) (fun _ h9 => h9) rfl dX11_clearDesk_34 ?_
  refine lv_iload_n hx hb dX11_clearDesk_37 rfl (lv_at hl 0 rfl) ?_
  refine va_aldq hx hb hK hP 1 1 rfl rfl (by unfold vp_in; decide) dX11_clearDesk_38 ?_
  refine W.eq (g2 := F0 m 39 ls [.ref (sa 3)]) rfl ?_
  have hPc := hP.sub (ws' := [((sa 3), .inr (8, [.ref (la 3), .ref (ca 3), .int 100, .int (-1), .int (-1)])), ((ca 3), .inl (cI, 480, .inl (fun _ => (-2))))]) [2, 3] rfl
  have hKc := hK.sub (tys' := [(cI, .int)]) [0] rfl
  have hDc := hD.sub (ws' := [((sa 3), .inr (8, [.ref (la 3), .ref (ca 3), .int 100, .int (-1), .int (-1)])), ((ca 3), .inl (cI, 480, .inl (fun _ => (-2))))]) [2, 3] (by decide) rfl
  have hFc := va_free (wc := [((sa 3), .inr (8, [.ref (la 3), .ref (ca 3), .int 100, .int (-1), .int (-1)])), ((ca 3), .inl (cI, 480, .inl (fun _ => (-2))))]) hD hS hA [2, 3] rfl
  refine va_callv (va_runV (As := []) (rest := []) ⟨hx, hb, hml, hown, hts⟩ (x_clear l dC dI (sa 3) (la 3) (ca 3) cI H.size) (cwV 0 hts gX11_clearDesk_X9_clear rfl rfl rfl (by decide +kernel) ⟨Nat.le_of_ble_eq_true rfl, Nat.le_of_ble_eq_true rfl⟩) ⟨gw_fb, va_recv hKc hPc (ci := 8) (q0 := 0) rfl rfl, fun U hU hW => ⟨rfl, by rw [hU], pw_to hU hW hPc hKc hN, hDc.weaken (fun _ _ _ _ => trivial)⟩⟩ rfl rfl hl.1 rfl (lv_room (Nat.le_of_ble_eq_true rfl)) dX11_clearDesk_39 ⟨Nat.le_of_ble_eq_true rfl, Nat.le_of_ble_eq_true rfl⟩) hS (fun q _ h => hFc q h) hFc (fun u t H1 locs ht hvm hw hB hz1 hk1 hS => ?_)
  have hP1 : va_P (dC, dI) vwCl [] H1 := fun k q h => by simp at h
  have hD1 : va_D (va_A [((sa 3), .inr (8, [.ref (la 3), .ref (ca 3), .int 100, .int (-1), .int (-1)])), ((ca 3), .inl (cI, 480, .inl (fun _ => (-2))))] H.size) [] := ⟨fun i j p q h => by simp at h, fun k q h => by simp at h⟩
  obtain ⟨hP, hD⟩ := va_join (wr := [(h0, .inr (10, [.ref pg, .ref pl, .ref it, .int 0, .ref ac, .int 0, .ref rv, .int 0, .int 0])), (pg, .inl (cS, 12, .inr (.inr (.inr (.inr (fun j => some (sa j))))))), ((sa 4), .inr (8, [.ref (la 4), .ref (ca 4), .int 100, .int (-1), .int (-1)])), ((ca 4), .inl (cI, 480, .inl (fun _ => (-2)))), ((sa 5), .inr (8, [.ref (la 5), .ref (ca 5), .int 100, .int (-1), .int (-1)])), ((ca 5), .inl (cI, 480, .inl (fun _ => (-2)))), ((sa 6), .inr (8, [.ref (la 6), .ref (ca 6), .int 100, .int (-1), .int (-1)])), ((ca 6), .inl (cI, 480, .inl (fun _ => (-2)))), ((sa 7), .inr (8, [.ref (la 7), .ref (ca 7), .int 100, .int (-1), .int (-1)])), ((ca 7), .inl (cI, 480, .inl (fun _ => (-2)))), ((sa 8), .inr (8, [.ref (la 8), .ref (ca 8), .int 100, .int (-1), .int (-1)])), ((ca 8), .inl (cI, 480, .inl (fun _ => (-2)))), ((sa 9), .inr (8, [.ref (la 9), .ref (ca 9), .int 100, .int (-1), .int (-1)])), ((ca 9), .inl (cI, 480, .inl (fun _ => (-2)))), ((sa 10), .inr (8, [.ref (la 10), .ref (ca 10), .int 100, .int (-1), .int (-1)])), ((ca 10), .inl (cI, 480, .inl (fun _ => (-2)))), ((sa 11), .inr (8, [.ref (la 11), .ref (ca 11), .int 100, .int (-1), .int (-1)])), ((ca 11), .inl (cI, 480, .inl (fun _ => (-2))))]) (w1 := []) hP hD [2, 3] [0, 1, 4, 5, 6, 7, 8, 9, 10, 11, 12, 13, 14, 15, 16, 17, 18, 19] rfl rfl (by decide) (by decide) hk1 hFc hP1 hD1
  generalize H1 = H at hP hS ⊢
  have hP : va_P (dC, dI) vwCl [(h0, .inr (10, [.ref pg, .ref pl, .ref it, .int 0, .ref ac, .int 0, .ref rv, .int 0, .int 0])), (pg, .inl (cS, 12, .inr (.inr (.inr (.inr (fun j => some (sa j))))))), ((sa 4), .inr (8, [.ref (la 4), .ref (ca 4), .int 100, .int (-1), .int (-1)])), ((ca 4), .inl (cI, 480, .inl (fun _ => (-2)))), ((sa 5), .inr (8, [.ref (la 5), .ref (ca 5), .int 100, .int (-1), .int (-1)])), ((ca 5), .inl (cI, 480, .inl (fun _ => (-2)))), ((sa 6), .inr (8, [.ref (la 6), .ref (ca 6), .int 100, .int (-1), .int (-1)])), ((ca 6), .inl (cI, 480, .inl (fun _ => (-2)))), ((sa 7), .inr (8, [.ref (la 7), .ref (ca 7), .int 100, .int (-1), .int (-1)])), ((ca 7), .inl (cI, 480, .inl (fun _ => (-2)))), ((sa 8), .inr (8, [.ref (la 8), .ref (ca 8), .int 100, .int (-1), .int (-1)])), ((ca 8), .inl (cI, 480, .inl (fun _ => (-2)))), ((sa 9), .inr (8, [.ref (la 9), .ref (ca 9), .int 100, .int (-1), .int (-1)])), ((ca 9), .inl (cI, 480, .inl (fun _ => (-2)))), ((sa 10), .inr (8, [.ref (la 10), .ref (ca 10), .int 100, .int (-1), .int (-1)])), ((ca 10), .inl (cI, 480, .inl (fun _ => (-2)))), ((sa 11), .inr (8, [.ref (la 11), .ref (ca 11), .int 100, .int (-1), .int (-1)])), ((ca 11), .inl (cI, 480, .inl (fun _ => (-2))))] H := hP
  have hD : va_D A [(h0, .inr (10, [.ref pg, .ref pl, .ref it, .int 0, .ref ac, .int 0, .ref rv, .int 0, .int 0])), (pg, .inl (cS, 12, .inr (.inr (.inr (.inr (fun j => some (sa j))))))), ((sa 4), .inr (8, [.ref (la 4), .ref (ca 4), .int 100, .int (-1), .int (-1)])), ((ca 4), .inl (cI, 480, .inl (fun _ => (-2)))), ((sa 5), .inr (8, [.ref (la 5), .ref (ca 5), .int 100, .int (-1), .int (-1)])), ((ca 5), .inl (cI, 480, .inl (fun _ => (-2)))), ((sa 6), .inr (8, [.ref (la 6), .ref (ca 6), .int 100, .int (-1), .int (-1)])), ((ca 6), .inl (cI, 480, .inl (fun _ => (-2)))), ((sa 7), .inr (8, [.ref (la 7), .ref (ca 7), .int 100, .int (-1), .int (-1)])), ((ca 7), .inl (cI, 480, .inl (fun _ => (-2)))), ((sa 8), .inr (8, [.ref (la 8), .ref (ca 8), .int 100, .int (-1), .int (-1)])), ((ca 8), .inl (cI, 480, .inl (fun _ => (-2)))), ((sa 9), .inr (8, [.ref (la 9), .ref (ca 9), .int 100, .int (-1), .int (-1)])), ((ca 9), .inl (cI, 480, .inl (fun _ => (-2)))), ((sa 10), .inr (8, [.ref (la 10), .ref (ca 10), .int 100, .int (-1), .int (-1)])), ((ca 10), .inl (cI, 480, .inl (fun _ => (-2)))), ((sa 11), .inr (8, [.ref (la 11), .ref (ca 11), .int 100, .int (-1), .int (-1)])), ((ca 11), .inl (cI, 480, .inl (fun _ => (-2))))] := hD
  refine W.widen (k := 0) (n := 0) (Nat.le_of_ble_eq_true rfl) (Nat.le_of_ble_eq_true rfl) ?_
  refine lv_iinc (v := 4) (lv' := [(1, .int 4), (0, .ref h0)]) hx hb dX11_clearDesk_42 hl (k := 0) rfl (by decide) (by decide) rfl (fun ls hl => ?_)
  refine lv_goto (tgt := 27) hx hb dX11_clearDesk_45 (by decide) ?_
  refine lv_iload_n hx hb dX11_clearDesk_27 rfl (lv_at hl 0 rfl) ?_
  refine lv_bipush (v := 12) hx hb dX11_clearDesk_28 (by decide) ?_
  refine lv_icmp_ge (tgt := 48) hx hb dX11_clearDesk_30 (by decide) (fun c_6 => absurd c_6 (by decide)) (fun c_6 => ?_)
  refine lv_aload_n hx hb dX11_clearDesk_33 rfl (lv_at hl 1 rfl) ?_
  refine va_get (D := (dC, dI)) (ci := 10) (v := .ref pg) (C := RX11) (T := TX11) (N := 9) hx hb hts (by decide +kernel) hown hK hP 0 rfl rfl 0 (by decide) (hts (.fieldLink RX11 11 "PageOne" "pages" "[LPageOne$Sheet;") (by decide +kernel)) (fun _ h9 => h9) rfl dX11_clearDesk_34 ?_
  refine lv_iload_n hx hb dX11_clearDesk_37 rfl (lv_at hl 0 rfl) ?_
  refine va_aldq hx hb hK hP 1 1 rfl rfl (by unfold vp_in; decide) dX11_clearDesk_38 ?_
  refine W.eq (g2 := F0 m 39 ls [.ref (sa 4)]) rfl ?_
  have hPc := hP.sub (ws' := [((sa 4), .inr (8, [.ref (la 4), .ref (ca 4), .int 100, .int (-1), .int (-1)])), ((ca 4), .inl (cI, 480, .inl (fun _ => (-2))))]) [2, 3] rfl
  have hKc := hK.sub (tys' := [(cI, .int)]) [0] rfl
  have hDc := hD.sub (ws' := [((sa 4), .inr (8, [.ref (la 4), .ref (ca 4), .int 100, .int (-1), .int (-1)])), ((ca 4), .inl (cI, 480, .inl (fun _ => (-2))))]) [2, 3] (by decide) rfl
  have hFc := va_free (wc := [((sa 4), .inr (8, [.ref (la 4), .ref (ca 4), .int 100, .int (-1), .int (-1)])), ((ca 4), .inl (cI, 480, .inl (fun _ => (-2))))]) hD hS hA [2, 3] rfl
  refine va_callv (va_runV (As := []) (rest := []) ⟨hx, hb, hml, hown, hts⟩ (x_clear l dC dI (sa 4) (la 4) (ca 4) cI H.size) (cwV 0 hts gX11_clearDesk_X9_clear rfl rfl rfl (by decide +kernel) ⟨Nat.le_of_ble_eq_true rfl, Nat.le_of_ble_eq_true rfl⟩) ⟨gw_fb, va_recv hKc hPc (ci := 8) (q0 := 0) rfl rfl, fun U hU hW => ⟨rfl, by rw [hU], pw_to hU hW hPc hKc hN, hDc.weaken (fun _ _ _ _ => trivial)⟩⟩ rfl rfl hl.1 rfl (lv_room (Nat.le_of_ble_eq_true rfl)) dX11_clearDesk_39 ⟨Nat.le_of_ble_eq_true rfl, Nat.le_of_ble_eq_true rfl⟩) hS (fun q _ h => hFc q h) hFc (fun u t H1 locs ht hvm hw hB hz1 hk1 hS => ?_)
  have hP1 : va_P (dC, dI) vwCl [] H1 := fun k q h => by simp at h
  have hD1 : va_D (va_A [((sa 4), .inr (8, [.ref (la 4), .ref (ca 4), .int 100, .int (-1), .int (-1)])), ((ca 4), .inl (cI, 480, .inl (fun _ => (-2))))] H.size) [] := ⟨fun i j p q h => by simp at h, fun k q h => by simp at h⟩
  obtain ⟨hP, hD⟩ := va_join (wr := [(h0, .inr (10, [.ref pg, .ref pl, .ref it, .int 0, .ref ac, .int 0, .ref rv, .int 0, .int 0])), (pg, .inl (cS, 12, .inr (.inr (.inr (.inr (fun j => some (sa j))))))), ((sa 5), .inr (8, [.ref (la 5), .ref (ca 5), .int 100, .int (-1), .int (-1)])), ((ca 5), .inl (cI, 480, .inl (fun _ => (-2)))), ((sa 6), .inr (8, [.ref (la 6), .ref (ca 6), .int 100, .int (-1), .int (-1)])), ((ca 6), .inl (cI, 480, .inl (fun _ => (-2)))), ((sa 7), .inr (8, [.ref (la 7), .ref (ca 7), .int 100, .int (-1), .int (-1)])), ((ca 7), .inl (cI, 480, .inl (fun _ => (-2)))), ((sa 8), .inr (8, [.ref (la 8), .ref (ca 8), .int 100, .int (-1), .int (-1)])), ((ca 8), .inl (cI, 480, .inl (fun _ => (-2)))), ((sa 9), .inr (8, [.ref (la 9), .ref (ca 9), .int 100, .int (-1), .int (-1)])), ((ca 9), .inl (cI, 480, .inl (fun _ => (-2)))), ((sa 10), .inr (8, [.ref (la 10), .ref (ca 10), .int 100, .int (-1), .int (-1)])), ((ca 10), .inl (cI, 480, .inl (fun _ => (-2)))), ((sa 11), .inr (8, [.ref (la 11), .ref (ca 11), .int 100, .int (-1), .int (-1)])), ((ca 11), .inl (cI, 480, .inl (fun _ => (-2))))]) (w1 := []) hP hD [2, 3] [0, 1, 4, 5, 6, 7, 8, 9, 10, 11, 12, 13, 14, 15, 16, 17] rfl rfl (by decide) (by decide) hk1 hFc hP1 hD1
  generalize H1 = H at hP hS ⊢
  have hP : va_P (dC, dI) vwCl [(h0, .inr (10, [.ref pg, .ref pl, .ref it, .int 0, .ref ac, .int 0, .ref rv, .int 0, .int 0])), (pg, .inl (cS, 12, .inr (.inr (.inr (.inr (fun j => some (sa j))))))), ((sa 5), .inr (8, [.ref (la 5), .ref (ca 5), .int 100, .int (-1), .int (-1)])), ((ca 5), .inl (cI, 480, .inl (fun _ => (-2)))), ((sa 6), .inr (8, [.ref (la 6), .ref (ca 6), .int 100, .int (-1), .int (-1)])), ((ca 6), .inl (cI, 480, .inl (fun _ => (-2)))), ((sa 7), .inr (8, [.ref (la 7), .ref (ca 7), .int 100, .int (-1), .int (-1)])), ((ca 7), .inl (cI, 480, .inl (fun _ => (-2)))), ((sa 8), .inr (8, [.ref (la 8), .ref (ca 8), .int 100, .int (-1), .int (-1)])), ((ca 8), .inl (cI, 480, .inl (fun _ => (-2)))), ((sa 9), .inr (8, [.ref (la 9), .ref (ca 9), .int 100, .int (-1), .int (-1)])), ((ca 9), .inl (cI, 480, .inl (fun _ => (-2)))), ((sa 10), .inr (8, [.ref (la 10), .ref (ca 10), .int 100, .int (-1), .int (-1)])), ((ca 10), .inl (cI, 480, .inl (fun _ => (-2)))), ((sa 11), .inr (8, [.ref (la 11), .ref (ca 11), .int 100, .int (-1), .int (-1)])), ((ca 11), .inl (cI, 480, .inl (fun _ => (-2))))] H := hP
  have hD : va_D A [(h0, .inr (10, [.ref pg, .ref pl, .ref it, .int 0, .ref ac, .int 0, .ref rv, .int 0, .int 0])), (pg, .inl (cS, 12, .inr (.inr (.inr (.inr (fun j => some (sa j))))))), ((sa 5), .inr (8, [.ref (la 5), .ref (ca 5), .int 100, .int (-1), .int (-1)])), ((ca 5), .inl (cI, 480, .inl (fun _ => (-2)))), ((sa 6), .inr (8, [.ref (la 6), .ref (ca 6), .int 100, .int (-1), .int (-1)])), ((ca 6), .inl (cI, 480, .inl (fun _ => (-2)))), ((sa 7), .inr (8, [.ref (la 7), .ref (ca 7), .int 100, .int (-1), .int (-1)])), ((ca 7), .inl (cI, 480, .inl (fun _ => (-2)))), ((sa 8), .inr (8, [.ref (la 8), .ref (ca 8), .int 100, .int (-1), .int (-1)])), ((ca 8), .inl (cI, 480, .inl (fun _ => (-2)))), ((sa 9), .inr (8, [.ref (la 9), .ref (ca 9), .int 100, .int (-1), .int (-1)])), ((ca 9), .inl (cI, 480, .inl (fun _ => (-2)))), ((sa 10), .inr (8, [.ref (la 10), .ref (ca 10), .int 100, .int (-1), .int (-1)])), ((ca 10), .inl (cI, 480, .inl (fun _ => (-2)))), ((sa 11), .inr (8, [.ref (la 11), .ref (ca 11), .int 100, .int (-1), .int (-1)])), ((ca 11), .inl (cI, 480, .inl (fun _ => (-2))))] := hD
  refine W.widen (k := 0) (n := 0) (Nat.le_of_ble_eq_true rfl) (Nat.le_of_ble_eq_true rfl) ?_
  refine lv_iinc (v := 5) (lv' := [(1, .int 5), (0, .ref h0)]) hx hb dX11_clearDesk_42 hl (k := 0) rfl (by decide) (by decide) rfl (fun ls hl => ?_)
  refine lv_goto (tgt := 27) hx hb dX11_clearDesk_45 (by decide) ?_
  refine lv_iload_n hx hb dX11_clearDesk_27 rfl (lv_at hl 0 rfl) ?_
  refine lv_bipush (v := 12) hx hb dX11_clearDesk_28 (by decide) ?_
  refine lv_icmp_ge (tgt := 48) hx hb dX11_clearDesk_30 (by decide) (fun c_7 => absurd c_7 (by decide)) (fun c_7 => ?_)
  refine lv_aload_n hx hb dX11_clearDesk_33 rfl (lv_at hl 1 rfl) ?_
  refine va_get (D := (dC, dI)) (ci := 10) (v := .ref pg) (C := RX11) (T := TX11) (N := 9) hx hb hts (by decide +kernel) hown hK hP 0 rfl rfl 0 (by decide) (hts (.fieldLink RX11 11 "PageOne" "pages" "[LPageOne$Sheet;") (by decide +kernel)) (fun _ h9 => h9) rfl dX11_clearDesk_34 ?_
  refine lv_iload_n hx hb dX11_clearDesk_37 rfl (lv_at hl 0 rfl) ?_
  refine va_aldq hx hb hK hP 1 1 rfl rfl (by unfold vp_in; decide) dX11_clearDesk_38 ?_
  refine W.eq (g2 := F0 m 39 ls [.ref (sa 5)]) rfl ?_
  have hPc := hP.sub (ws' := [((sa 5), .inr (8, [.ref (la 5), .ref (ca 5), .int 100, .int (-1), .int (-1)])), ((ca 5), .inl (cI, 480, .inl (fun _ => (-2))))]) [2, 3] rfl
  have hKc := hK.sub (tys' := [(cI, .int)]) [0] rfl
  have hDc := hD.sub (ws' := [((sa 5), .inr (8, [.ref (la 5), .ref (ca 5), .int 100, .int (-1), .int (-1)])), ((ca 5), .inl (cI, 480, .inl (fun _ => (-2))))]) [2, 3] (by decide) rfl
  have hFc := va_free (wc := [((sa 5), .inr (8, [.ref (la 5), .ref (ca 5), .int 100, .int (-1), .int (-1)])), ((ca 5), .inl (cI, 480, .inl (fun _ => (-2))))]) hD hS hA [2, 3] rfl
  refine va_callv (va_runV (As := []) (rest := []) ⟨hx, hb, hml, hown, hts⟩ (x_clear l dC dI (sa 5) (la 5) (ca 5) cI H.size) (cwV 0 hts gX11_clearDesk_X9_clear rfl rfl rfl (by decide +kernel) ⟨Nat.le_of_ble_eq_true rfl, Nat.le_of_ble_eq_true rfl⟩) ⟨gw_fb, va_recv hKc hPc (ci := 8) (q0 := 0) rfl rfl, fun U hU hW => ⟨rfl, by rw [hU], pw_to hU hW hPc hKc hN, hDc.weaken (fun _ _ _ _ => trivial)⟩⟩ rfl rfl hl.1 rfl (lv_room (Nat.le_of_ble_eq_true rfl)) dX11_clearDesk_39 ⟨Nat.le_of_ble_eq_true rfl, Nat.le_of_ble_eq_true rfl⟩) hS (fun q _ h => hFc q h) hFc (fun u t H1 locs ht hvm hw hB hz1 hk1 hS => ?_)
  have hP1 : va_P (dC, dI) vwCl [] H1 := fun k q h => by simp at h
  have hD1 : va_D (va_A [((sa 5), .inr (8, [.ref (la 5), .ref (ca 5), .int 100, .int (-1), .int (-1)])), ((ca 5), .inl (cI, 480, .inl (fun _ => (-2))))] H.size) [] := ⟨fun i j p q h => by simp at h, fun k q h => by simp at h⟩
  obtain ⟨hP, hD⟩ := va_join (wr := [(h0, .inr (10, [.ref pg, .ref pl, .ref it, .int 0, .ref ac, .int 0, .ref rv, .int 0, .int 0])), (pg, .inl (cS, 12, .inr (.inr (.inr (.inr (fun j => some (sa j))))))), ((sa 6), .inr (8, [.ref (la 6), .ref (ca 6), .int 100, .int (-1), .int (-1)])), ((ca 6), .inl (cI, 480, .inl (fun _ => (-2)))), ((sa 7), .inr (8, [.ref (la 7), .ref (ca 7), .int 100, .int (-1), .int (-1)])), ((ca 7), .inl (cI, 480, .inl (fun _ => (-2)))), ((sa 8), .inr (8, [.ref (la 8), .ref (ca 8), .int 100, .int (-1), .int (-1)])), ((ca 8), .inl (cI, 480, .inl (fun _ => (-2)))), ((sa 9), .inr (8, [.ref (la 9), .ref (ca 9), .int 100, .int (-1), .int (-1)])), ((ca 9), .inl (cI, 480, .inl (fun _ => (-2)))), ((sa 10), .inr (8, [.ref (la 10), .ref (ca 10), .int 100, .int (-1), .int (-1)])), ((ca 10), .inl (cI, 480, .inl (fun _ => (-2)))), ((sa 11), .inr (8, [.ref (la 11), .ref (ca 11), .int 100, .int (-1), .int (-1)])), ((ca 11), .inl (cI, 480, .inl (fun _ => (-2))))]) (w1 := []) hP hD [2, 3] [0, 1, 4, 5, 6, 7, 8, 9, 10, 11, 12, 13, 14, 15] rfl rfl (by decide) (by decide) hk1 hFc hP1 hD1
  generalize H1 = H at hP hS ⊢
  have hP : va_P (dC, dI) vwCl [(h0, .inr (10, [.ref pg, .ref pl, .ref it, .int 0, .ref ac, .int 0, .ref rv, .int 0, .int 0])), (pg, .inl (cS, 12, .inr (.inr (.inr (.inr (fun j => some (sa j))))))), ((sa 6), .inr (8, [.ref (la 6), .ref (ca 6), .int 100, .int (-1), .int (-1)])), ((ca 6), .inl (cI, 480, .inl (fun _ => (-2)))), ((sa 7), .inr (8, [.ref (la 7), .ref (ca 7), .int 100, .int (-1), .int (-1)])), ((ca 7), .inl (cI, 480, .inl (fun _ => (-2)))), ((sa 8), .inr (8, [.ref (la 8), .ref (ca 8), .int 100, .int (-1), .int (-1)])), ((ca 8), .inl (cI, 480, .inl (fun _ => (-2)))), ((sa 9), .inr (8, [.ref (la 9), .ref (ca 9), .int 100, .int (-1), .int (-1)])), ((ca 9), .inl (cI, 480, .inl (fun _ => (-2)))), ((sa 10), .inr (8, [.ref (la 10), .ref (ca 10), .int 100, .int (-1), .int (-1)])), ((ca 10), .inl (cI, 480, .inl (fun _ => (-2)))), ((sa 11), .inr (8, [.ref (la 11), .ref (ca 11), .int 100, .int (-1), .int (-1)])), ((ca 11), .inl (cI, 480, .inl (fun _ => (-2))))] H := hP
  have hD : va_D A [(h0, .inr (10, [.ref pg, .ref pl, .ref it, .int 0, .ref ac, .int 0, .ref rv, .int 0, .int 0])), (pg, .inl (cS, 12, .inr (.inr (.inr (.inr (fun j => some (sa j))))))), ((sa 6), .inr (8, [.ref (la 6), .ref (ca 6), .int 100, .int (-1), .int (-1)])), ((ca 6), .inl (cI, 480, .inl (fun _ => (-2)))), ((sa 7), .inr (8, [.ref (la 7), .ref (ca 7), .int 100, .int (-1), .int (-1)])), ((ca 7), .inl (cI, 480, .inl (fun _ => (-2)))), ((sa 8), .inr (8, [.ref (la 8), .ref (ca 8), .int 100, .int (-1), .int (-1)])), ((ca 8), .inl (cI, 480, .inl (fun _ => (-2)))), ((sa 9), .inr (8, [.ref (la 9), .ref (ca 9), .int 100, .int (-1), .int (-1)])), ((ca 9), .inl (cI, 480, .inl (fun _ => (-2)))), ((sa 10), .inr (8, [.ref (la 10), .ref (ca 10), .int 100, .int (-1), .int (-1)])), ((ca 10), .inl (cI, 480, .inl (fun _ => (-2)))), ((sa 11), .inr (8, [.ref (la 11), .ref (ca 11), .int 100, .int (-1), .int (-1)])), ((ca 11), .inl (cI, 480, .inl (fun _ => (-2))))] := hD
  refine W.widen (k := 0) (n := 0) (Nat.le_of_ble_eq_true rfl) (Nat.le_of_ble_eq_true rfl) ?_
  refine lv_iinc (v := 6) (lv' := [(1, .int 6), (0, .ref h0)]) hx hb dX11_clearDesk_42 hl (k := 0) rfl (by decide) (by decide) rfl (fun ls hl => ?_)
  refine lv_goto (tgt := 27) hx hb dX11_clearDesk_45 (by decide) ?_
  refine lv_iload_n hx hb dX11_clearDesk_27 rfl (lv_at hl 0 rfl) ?_
  refine lv_bipush (v := 12) hx hb dX11_clearDesk_28 (by decide) ?_
  refine lv_icmp_ge (tgt := 48) hx hb dX11_clearDesk_30 (by decide) (fun c_8 => absurd c_8 (by decide)) (fun c_8 => ?_)
  refine lv_aload_n hx hb dX11_clearDesk_33 rfl (lv_at hl 1 rfl) ?_
  refine va_get (D := (dC, dI)) (ci := 10) (v := .ref pg) (C := RX11) (T := TX11) (N := 9) hx hb hts (by decide +kernel) hown hK hP 0 rfl rfl 0 (by decide) (hts (.fieldLink RX11 11 "PageOne" "pages" "[LPageOne$Sheet;") (by decide +kernel)) (fun _ h9 => h9) rfl dX11_clearDesk_34 ?_
  refine lv_iload_n hx hb dX11_clearDesk_37 rfl (lv_at hl 0 rfl) ?_
  refine va_aldq hx hb hK hP 1 1 rfl rfl (by unfold vp_in; decide) dX11_clearDesk_38 ?_
  refine W.eq (g2 := F0 m 39 ls [.ref (sa 6)]) rfl ?_
  have hPc := hP.sub (ws' := [((sa 6), .inr (8, [.ref (la 6), .ref (ca 6), .int 100, .int (-1), .int (-1)])), ((ca 6), .inl (cI, 480, .inl (fun _ => (-2))))]) [2, 3] rfl
  have hKc := hK.sub (tys' := [(cI, .int)]) [0] rfl
  have hDc := hD.sub (ws' := [((sa 6), .inr (8, [.ref (la 6), .ref (ca 6), .int 100, .int (-1), .int (-1)])), ((ca 6), .inl (cI, 480, .inl (fun _ => (-2))))]) [2, 3] (by decide) rfl
  have hFc := va_free (wc := [((sa 6), .inr (8, [.ref (la 6), .ref (ca 6), .int 100, .int (-1), .int (-1)])), ((ca 6), .inl (cI, 480, .inl (fun _ => (-2))))]) hD hS hA [2, 3] rfl
  refine va_callv (va_runV (As := []) (rest := []) ⟨hx, hb, hml, hown, hts⟩ (x_clear l dC dI (sa 6) (la 6) (ca 6) cI H.size) (cwV 0 hts gX11_clearDesk_X9_clear rfl rfl rfl (by decide +kernel) ⟨Nat.le_of_ble_eq_true rfl, Nat.le_of_ble_eq_true rfl⟩) ⟨gw_fb, va_recv hKc hPc (ci := 8) (q0 := 0) rfl rfl, fun U hU hW => ⟨rfl, by rw [hU], pw_to hU hW hPc hKc hN, hDc.weaken (fun _ _ _ _ => trivial)⟩⟩ rfl rfl hl.1 rfl (lv_room (Nat.le_of_ble_eq_true rfl)) dX11_clearDesk_39 ⟨Nat.le_of_ble_eq_true rfl, Nat.le_of_ble_eq_true rfl⟩) hS (fun q _ h => hFc q h) hFc (fun u t H1 locs ht hvm hw hB hz1 hk1 hS => ?_)
  have hP1 : va_P (dC, dI) vwCl [] H1 := fun k q h => by simp at h
  have hD1 : va_D (va_A [((sa 6), .inr (8, [.ref (la 6), .ref (ca 6), .int 100, .int (-1), .int (-1)])), ((ca 6), .inl (cI, 480, .inl (fun _ => (-2))))] H.size) [] := ⟨fun i j p q h => by simp at h, fun k q h => by simp at h⟩
  obtain ⟨hP, hD⟩ := va_join (wr := [(h0, .inr (10, [.ref pg, .ref pl, .ref it, .int 0, .ref ac, .int 0, .ref rv, .int 0, .int 0])), (pg, .inl (cS, 12, .inr (.inr (.inr (.inr (fun j => some (sa j))))))), ((sa 7), .inr (8, [.ref (la 7), .ref (ca 7), .int 100, .int (-1), .int (-1)])), ((ca 7), .inl (cI, 480, .inl (fun _ => (-2)))), ((sa 8), .inr (8, [.ref (la 8), .ref (ca 8), .int 100, .int (-1), .int (-1)])), ((ca 8), .inl (cI, 480, .inl (fun _ => (-2)))), ((sa 9), .inr (8, [.ref (la 9), .ref (ca 9), .int 100, .int (-1), .int (-1)])), ((ca 9), .inl (cI, 480, .inl (fun _ => (-2)))), ((sa 10), .inr (8, [.ref (la 10), .ref (ca 10), .int 100, .int (-1), .int (-1)])), ((ca 10), .inl (cI, 480, .inl (fun _ => (-2)))), ((sa 11), .inr (8, [.ref (la 11), .ref (ca 11), .int 100, .int (-1), .int (-1)])), ((ca 11), .inl (cI, 480, .inl (fun _ => (-2))))]) (w1 := []) hP hD [2, 3] [0, 1, 4, 5, 6, 7, 8, 9, 10, 11, 12, 13] rfl rfl (by decide) (by decide) hk1 hFc hP1 hD1
  generalize H1 = H at hP hS ⊢
  have hP : va_P (dC, dI) vwCl [(h0, .inr (10, [.ref pg, .ref pl, .ref it, .int 0, .ref ac, .int 0, .ref rv, .int 0, .int 0])), (pg, .inl (cS, 12, .inr (.inr (.inr (.inr (fun j => some (sa j))))))), ((sa 7), .inr (8, [.ref (la 7), .ref (ca 7), .int 100, .int (-1), .int (-1)])), ((ca 7), .inl (cI, 480, .inl (fun _ => (-2)))), ((sa 8), .inr (8, [.ref (la 8), .ref (ca 8), .int 100, .int (-1), .int (-1)])), ((ca 8), .inl (cI, 480, .inl (fun _ => (-2)))), ((sa 9), .inr (8, [.ref (la 9), .ref (ca 9), .int 100, .int (-1), .int (-1)])), ((ca 9), .inl (cI, 480, .inl (fun _ => (-2)))), ((sa 10), .inr (8, [.ref (la 10), .ref (ca 10), .int 100, .int (-1), .int (-1)])), ((ca 10), .inl (cI, 480, .inl (fun _ => (-2)))), ((sa 11), .inr (8, [.ref (la 11), .ref (ca 11), .int 100, .int (-1), .int (-1)])), ((ca 11), .inl (cI, 480, .inl (fun _ => (-2))))] H := hP
  have hD : va_D A [(h0, .inr (10, [.ref pg, .ref pl, .ref it, .int 0, .ref ac, .int 0, .ref rv, .int 0, .int 0])), (pg, .inl (cS, 12, .inr (.inr (.inr (.inr (fun j => some (sa j))))))), ((sa 7), .inr (8, [.ref (la 7), .ref (ca 7), .int 100, .int (-1), .int (-1)])), ((ca 7), .inl (cI, 480, .inl (fun _ => (-2)))), ((sa 8), .inr (8, [.ref (la 8), .ref (ca 8), .int 100, .int (-1), .int (-1)])), ((ca 8), .inl (cI, 480, .inl (fun _ => (-2)))), ((sa 9), .inr (8, [.ref (la 9), .ref (ca 9), .int 100, .int (-1), .int (-1)])), ((ca 9), .inl (cI, 480, .inl (fun _ => (-2)))), ((sa 10), .inr (8, [.ref (la 10), .ref (ca 10), .int 100, .int (-1), .int (-1)])), ((ca 10), .inl (cI, 480, .inl (fun _ => (-2)))), ((sa 11), .inr (8, [.ref (la 11), .ref (ca 11), .int 100, .int (-1), .int (-1)])), ((ca 11), .inl (cI, 480, .inl (fun _ => (-2))))] := hD
  refine W.widen (k := 0) (n := 0) (Nat.le_of_ble_eq_true rfl) (Nat.le_of_ble_eq_true rfl) ?_
  refine lv_iinc (v := 7) (lv' := [(1, .int 7), (0, .ref h0)]) hx hb dX11_clearDesk_42 hl (k := 0) rfl (by decide) (by decide) rfl (fun ls hl => ?_)
  refine lv_goto (tgt := 27) hx hb dX11_clearDesk_45 (by decide) ?_
  refine lv_iload_n hx hb dX11_clearDesk_27 rfl (lv_at hl 0 rfl) ?_
  refine lv_bipush (v := 12) hx hb dX11_clearDesk_28 (by decide) ?_
  refine lv_icmp_ge (tgt := 48) hx hb dX11_clearDesk_30 (by decide) (fun c_9 => absurd c_9 (by decide)) (fun c_9 => ?_)
  refine lv_aload_n hx hb dX11_clearDesk_33 rfl (lv_at hl 1 rfl) ?_
  refine va_get (D := (dC, dI)) (ci := 10) (v := .ref pg) (C := RX11) (T := TX11) (N := 9) hx hb hts (by decide +kernel) hown hK hP 0 rfl rfl 0 (by decide) (hts (.fieldLink RX11 11 "PageOne" "pages" "[LPageOne$Sheet;") (by decide +kernel)) (fun _ h9 => h9) rfl dX11_clearDesk_34 ?_
  refine lv_iload_n hx hb dX11_clearDesk_37 rfl (lv_at hl 0 rfl) ?_
  refine va_aldq hx hb hK hP 1 1 rfl rfl (by unfold vp_in; decide) dX11_clearDesk_38 ?_
  refine W.eq (g2 := F0 m 39 ls [.ref (sa 7)]) rfl ?_
  have hPc := hP.sub (ws' := [((sa 7), .inr (8, [.ref (la 7), .ref (ca 7), .int 100, .int (-1), .int (-1)])), ((ca 7), .inl (cI, 480, .inl (fun _ => (-2))))]) [2, 3] rfl
  have hKc := hK.sub (tys' := [(cI, .int)]) [0] rfl
  have hDc := hD.sub (ws' := [((sa 7), .inr (8, [.ref (la 7), .ref (ca 7), .int 100, .int (-1), .int (-1)])), ((ca 7), .inl (cI, 480, .inl (fun _ => (-2))))]) [2, 3] (by decide) rfl
  have hFc := va_free (wc := [((sa 7), .inr (8, [.ref (la 7), .ref (ca 7), .int 100, .int (-1), .int (-1)])), ((ca 7), .inl (cI, 480, .inl (fun _ => (-2))))]) hD hS hA [2, 3] rfl
  refine va_callv (va_runV (As := []) (rest := []) ⟨hx, hb, hml, hown, hts⟩ (x_clear l dC dI (sa 7) (la 7) (ca 7) cI H.size) (cwV 0 hts gX11_clearDesk_X9_clear rfl rfl rfl (by decide +kernel) ⟨Nat.le_of_ble_eq_true rfl, Nat.le_of_ble_eq_true rfl⟩) ⟨gw_fb, va_recv hKc hPc (ci := 8) (q0 := 0) rfl rfl, fun U hU hW => ⟨rfl, by rw [hU], pw_to hU hW hPc hKc hN, hDc.weaken (fun _ _ _ _ => trivial)⟩⟩ rfl rfl hl.1 rfl (lv_room (Nat.le_of_ble_eq_true rfl)) dX11_clearDesk_39 ⟨Nat.le_of_ble_eq_true rfl, Nat.le_of_ble_eq_true rfl⟩) hS (fun q _ h => hFc q h) hFc (fun u t H1 locs ht hvm hw hB hz1 hk1 hS => ?_)
  have hP1 : va_P (dC, dI) vwCl [] H1 := fun k q h => by simp at h
  have hD1 : va_D (va_A [((sa 7), .inr (8, [.ref (la 7), .ref (ca 7), .int 100, .int (-1), .int (-1)])), ((ca 7), .inl (cI, 480, .inl (fun _ => (-2))))] H.size) [] := ⟨fun i j p q h => by simp at h, fun k q h => by simp at h⟩
  obtain ⟨hP, hD⟩ := va_join (wr := [(h0, .inr (10, [.ref pg, .ref pl, .ref it, .int 0, .ref ac, .int 0, .ref rv, .int 0, .int 0])), (pg, .inl (cS, 12, .inr (.inr (.inr (.inr (fun j => some (sa j))))))), ((sa 8), .inr (8, [.ref (la 8), .ref (ca 8), .int 100, .int (-1), .int (-1)])), ((ca 8), .inl (cI, 480, .inl (fun _ => (-2)))), ((sa 9), .inr (8, [.ref (la 9), .ref (ca 9), .int 100, .int (-1), .int (-1)])), ((ca 9), .inl (cI, 480, .inl (fun _ => (-2)))), ((sa 10), .inr (8, [.ref (la 10), .ref (ca 10), .int 100, .int (-1), .int (-1)])), ((ca 10), .inl (cI, 480, .inl (fun _ => (-2)))), ((sa 11), .inr (8, [.ref (la 11), .ref (ca 11), .int 100, .int (-1), .int (-1)])), ((ca 11), .inl (cI, 480, .inl (fun _ => (-2))))]) (w1 := []) hP hD [2, 3] [0, 1, 4, 5, 6, 7, 8, 9, 10, 11] rfl rfl (by decide) (by decide) hk1 hFc hP1 hD1
  generalize H1 = H at hP hS ⊢
  have hP : va_P (dC, dI) vwCl [(h0, .inr (10, [.ref pg, .ref pl, .ref it, .int 0, .ref ac, .int 0, .ref rv, .int 0, .int 0])), (pg, .inl (cS, 12, .inr (.inr (.inr (.inr (fun j => some (sa j))))))), ((sa 8), .inr (8, [.ref (la 8), .ref (ca 8), .int 100, .int (-1), .int (-1)])), ((ca 8), .inl (cI, 480, .inl (fun _ => (-2)))), ((sa 9), .inr (8, [.ref (la 9), .ref (ca 9), .int 100, .int (-1), .int (-1)])), ((ca 9), .inl (cI, 480, .inl (fun _ => (-2)))), ((sa 10), .inr (8, [.ref (la 10), .ref (ca 10), .int 100, .int (-1), .int (-1)])), ((ca 10), .inl (cI, 480, .inl (fun _ => (-2)))), ((sa 11), .inr (8, [.ref (la 11), .ref (ca 11), .int 100, .int (-1), .int (-1)])), ((ca 11), .inl (cI, 480, .inl (fun _ => (-2))))] H := hP
  have hD : va_D A [(h0, .inr (10, [.ref pg, .ref pl, .ref it, .int 0, .ref ac, .int 0, .ref rv, .int 0, .int 0])), (pg, .inl (cS, 12, .inr (.inr (.inr (.inr (fun j => some (sa j))))))), ((sa 8), .inr (8, [.ref (la 8), .ref (ca 8), .int 100, .int (-1), .int (-1)])), ((ca 8), .inl (cI, 480, .inl (fun _ => (-2)))), ((sa 9), .inr (8, [.ref (la 9), .ref (ca 9), .int 100, .int (-1), .int (-1)])), ((ca 9), .inl (cI, 480, .inl (fun _ => (-2)))), ((sa 10), .inr (8, [.ref (la 10), .ref (ca 10), .int 100, .int (-1), .int (-1)])), ((ca 10), .inl (cI, 480, .inl (fun _ => (-2)))), ((sa 11), .inr (8, [.ref (la 11), .ref (ca 11), .int 100, .int (-1), .int (-1)])), ((ca 11), .inl (cI, 480, .inl (fun _ => (-2))))] := hD
  refine W.widen (k := 0) (n := 0) (Nat.le_of_ble_eq_true rfl) (Nat.le_of_ble_eq_true rfl) ?_
  refine lv_iinc (v := 8) (lv' := [(1, .int 8), (0, .ref h0)]) hx hb dX11_clearDesk_42 hl (k := 0) rfl (by decide) (by decide) rfl (fun ls hl => ?_)
  refine lv_goto (tgt := 27) hx hb dX11_clearDesk_45 (by decide) ?_
  refine lv_iload_n hx hb dX11_clearDesk_27 rfl (lv_at hl 0 rfl) ?_
  refine lv_bipush (v := 12) hx hb dX11_clearDesk_28 (by decide) ?_
  refine lv_icmp_ge (tgt := 48) hx hb dX11_clearDesk_30 (by decide) (fun c_10 => absurd c_10 (by decide)) (fun c_10 => ?_)
  refine lv_aload_n hx hb dX11_clearDesk_33 rfl (lv_at hl 1 rfl) ?_
  refine va_get (D := (dC, dI)) (ci := 10) (v := .ref pg) (C := RX11) (T := TX11) (N := 9) hx hb hts (by decide +kernel) hown hK hP 0 rfl rfl 0 (by decide) (hts (.fieldLink RX11 11 "PageOne" "pages" "[LPageOne$Sheet;") (by decide +kernel)) (fun _ h9 => h9) rfl dX11_clearDesk_34 ?_
  refine lv_iload_n hx hb dX11_clearDesk_37 rfl (lv_at hl 0 rfl) ?_
  refine va_aldq hx hb hK hP 1 1 rfl rfl (by unfold vp_in; decide) dX11_clearDesk_38 ?_
  refine W.eq (g2 := F0 m 39 ls [.ref (sa 8)]) rfl ?_
  have hPc := hP.sub (ws' := [((sa 8), .inr (8, [.ref (la 8), .ref (ca 8), .int 100, .int (-1), .int (-1)])), ((ca 8), .inl (cI, 480, .inl (fun _ => (-2))))]) [2, 3] rfl
  have hKc := hK.sub (tys' := [(cI, .int)]) [0] rfl
  have hDc := hD.sub (ws' := [((sa 8), .inr (8, [.ref (la 8), .ref (ca 8), .int 100, .int (-1), .int (-1)])), ((ca 8), .inl (cI, 480, .inl (fun _ => (-2))))]) [2, 3] (by decide) rfl
  have hFc := va_free (wc := [((sa 8), .inr (8, [.ref (la 8), .ref (ca 8), .int 100, .int (-1), .int (-1)])), ((ca 8), .inl (cI, 480, .inl (fun _ => (-2))))]) hD hS hA [2, 3] rfl
  refine va_callv (va_runV (As := []) (rest := []) ⟨hx, hb, hml, hown, hts⟩ (x_clear l dC dI (sa 8) (la 8) (ca 8) cI H.size) (cwV 0 hts gX11_clearDesk_X9_clear rfl rfl rfl (by decide +kernel) ⟨Nat.le_of_ble_eq_true rfl, Nat.le_of_ble_eq_true rfl⟩) ⟨gw_fb, va_recv hKc hPc (ci := 8) (q0 := 0) rfl rfl, fun U hU hW => ⟨rfl, by rw [hU], pw_to hU hW hPc hKc hN, hDc.weaken (fun _ _ _ _ => trivial)⟩⟩ rfl rfl hl.1 rfl (lv_room (Nat.le_of_ble_eq_true rfl)) dX11_clearDesk_39 ⟨Nat.le_of_ble_eq_true rfl, Nat.le_of_ble_eq_true rfl⟩) hS (fun q _ h => hFc q h) hFc (fun u t H1 locs ht hvm hw hB hz1 hk1 hS => ?_)
  have hP1 : va_P (dC, dI) vwCl [] H1 := fun k q h => by simp at h
  have hD1 : va_D (va_A [((sa 8), .inr (8, [.ref (la 8), .ref (ca 8), .int 100, .int (-1), .int (-1)])), ((ca 8), .inl (cI, 480, .inl (fun _ => (-2))))] H.size) [] := ⟨fun i j p q h => by simp at h, fun k q h => by simp at h⟩
  obtain ⟨hP, hD⟩ := va_join (wr := [(h0, .inr (10, [.ref pg, .ref pl, .ref it, .int 0, .ref ac, .int 0, .ref rv, .int 0, .int 0])), (pg, .inl (cS, 12, .inr (.inr (.inr (.inr (fun j => some (sa j))))))), ((sa 9), .inr (8, [.ref (la 9), .ref (ca 9), .int 100, .int (-1), .int (-1)])), ((ca 9), .inl (cI, 480, .inl (fun _ => (-2)))), ((sa 10), .inr (8, [.ref (la 10), .ref (ca 10), .int 100, .int (-1), .int (-1)])), ((ca 10), .inl (cI, 480, .inl (fun _ => (-2)))), ((sa 11), .inr (8, [.ref (la 11), .ref (ca 11), .int 100, .int (-1), .int (-1)])), ((ca 11), .inl (cI, 480, .inl (fun _ => (-2))))]) (w1 := []) hP hD [2, 3] [0, 1, 4, 5, 6, 7, 8, 9] rfl rfl (by decide) (by decide) hk1 hFc hP1 hD1
  generalize H1 = H at hP hS ⊢
  have hP : va_P (dC, dI) vwCl [(h0, .inr (10, [.ref pg, .ref pl, .ref it, .int 0, .ref ac, .int 0, .ref rv, .int 0, .int 0])), (pg, .inl (cS, 12, .inr (.inr (.inr (.inr (fun j => some (sa j))))))), ((sa 9), .inr (8, [.ref (la 9), .ref (ca 9), .int 100, .int (-1), .int (-1)])), ((ca 9), .inl (cI, 480, .inl (fun _ => (-2)))), ((sa 10), .inr (8, [.ref (la 10), .ref (ca 10), .int 100, .int (-1), .int (-1)])), ((ca 10), .inl (cI, 480, .inl (fun _ => (-2)))), ((sa 11), .inr (8, [.ref (la 11), .ref (ca 11), .int 100, .int (-1), .int (-1)])), ((ca 11), .inl (cI, 480, .inl (fun _ => (-2))))] H := hP
  have hD : va_D A [(h0, .inr (10, [.ref pg, .ref pl, .ref it, .int 0, .ref ac, .int 0, .ref rv, .int 0, .int 0])), (pg, .inl (cS, 12, .inr (.inr (.inr (.inr (fun j => some (sa j))))))), ((sa 9), .inr (8, [.ref (la 9), .ref (ca 9), .int 100, .int (-1), .int (-1)])), ((ca 9), .inl (cI, 480, .inl (fun _ => (-2)))), ((sa 10), .inr (8, [.ref (la 10), .ref (ca 10), .int 100, .int (-1), .int (-1)])), ((ca 10), .inl (cI, 480, .inl (fun _ => (-2)))), ((sa 11), .inr (8, [.ref (la 11), .ref (ca 11), .int 100, .int (-1), .int (-1)])), ((ca 11), .inl (cI, 480, .inl (fun _ => (-2))))] := hD
  refine W.widen (k := 0) (n := 0) (Nat.le_of_ble_eq_true rfl) (Nat.le_of_ble_eq_true rfl) ?_
  refine lv_iinc (v := 9) (lv' := [(1, .int 9), (0, .ref h0)]) hx hb dX11_clearDesk_42 hl (k := 0) rfl (by decide) (by decide) rfl (fun ls hl => ?_)
  refine lv_goto (tgt := 27) hx hb dX11_clearDesk_45 (by decide) ?_
  refine lv_iload_n hx hb dX11_clearDesk_27 rfl (lv_at hl 0 rfl) ?_
  refine lv_bipush (v := 12) hx hb dX11_clearDesk_28 (by decide) ?_
  refine lv_icmp_ge (tgt := 48) hx hb dX11_clearDesk_30 (by decide) (fun c_11 => absurd c_11 (by decide)) (fun c_11 => ?_)
  refine lv_aload_n hx hb dX11_clearDesk_33 rfl (lv_at hl 1 rfl) ?_
  refine va_get (D := (dC, dI)) (ci := 10) (v := .ref pg) (C := RX11) (T := TX11) (N := 9) hx hb hts (by decide +kernel) hown hK hP 0 rfl rfl 0 (by decide) (hts (.fieldLink RX11 11 "PageOne" "pages" "[LPageOne$Sheet;") (by decide +kernel)) (fun _ h9 => h9) rfl dX11_clearDesk_34 ?_
  refine lv_iload_n hx hb dX11_clearDesk_37 rfl (lv_at hl 0 rfl) ?_
  refine va_aldq hx hb hK hP 1 1 rfl rfl (by unfold vp_in; decide) dX11_clearDesk_38 ?_
  refine W.eq (g2 := F0 m 39 ls [.ref (sa 9)]) rfl ?_
  have hPc := hP.sub (ws' := [((sa 9), .inr (8, [.ref (la 9), .ref (ca 9), .int 100, .int (-1), .int (-1)])), ((ca 9), .inl (cI, 480, .inl (fun _ => (-2))))]) [2, 3] rfl
  have hKc := hK.sub (tys' := [(cI, .int)]) [0] rfl
  have hDc := hD.sub (ws' := [((sa 9), .inr (8, [.ref (la 9), .ref (ca 9), .int 100, .int (-1), .int (-1)])), ((ca 9), .inl (cI, 480, .inl (fun _ => (-2))))]) [2, 3] (by decide) rfl
  have hFc := va_free (wc := [((sa 9), .inr (8, [.ref (la 9), .ref (ca 9), .int 100, .int (-1), .int (-1)])), ((ca 9), .inl (cI, 480, .inl (fun _ => (-2))))]) hD hS hA [2, 3] rfl
  refine va_callv (va_runV (As := []) (rest := []) ⟨hx, hb, hml, hown, hts⟩ (x_clear l dC dI (sa 9) (la 9) (ca 9) cI H.size) (cwV 0 hts gX11_clearDesk_X9_clear rfl rfl rfl (by decide +kernel) ⟨Nat.le_of_ble_eq_true rfl, Nat.le_of_ble_eq_true rfl⟩) ⟨gw_fb, va_recv hKc hPc (ci := 8) (q0 := 0) rfl rfl, fun U hU hW => ⟨rfl, by rw [hU], pw_to hU hW hPc hKc hN, hDc.weaken (fun _ _ _ _ => trivial)⟩⟩ rfl rfl hl.1 rfl (lv_room (Nat.le_of_ble_eq_true rfl)) dX11_clearDesk_39 ⟨Nat.le_of_ble_eq_true rfl, Nat.le_of_ble_eq_true rfl⟩) hS (fun q _ h => hFc q h) hFc (fun u t H1 locs ht hvm hw hB hz1 hk1 hS => ?_)
  have hP1 : va_P (dC, dI) vwCl [] H1 := fun k q h => by simp at h
  have hD1 : va_D (va_A [((sa 9), .inr (8, [.ref (la 9), .ref (ca 9), .int 100, .int (-1), .int (-1)])), ((ca 9), .inl (cI, 480, .inl (fun _ => (-2))))] H.size) [] := ⟨fun i j p q h => by simp at h, fun k q h => by simp at h⟩
  obtain ⟨hP, hD⟩ := va_join (wr := [(h0, .inr (10, [.ref pg, .ref pl, .ref it, .int 0, .ref ac, .int 0, .ref rv, .int 0, .int 0])), (pg, .inl (cS, 12, .inr (.inr (.inr (.inr (fun j => some (sa j))))))), ((sa 10), .inr (8, [.ref (la 10), .ref (ca 10), .int 100, .int (-1), .int (-1)])), ((ca 10), .inl (cI, 480, .inl (fun _ => (-2)))), ((sa 11), .inr (8, [.ref (la 11), .ref (ca 11), .int 100, .int (-1), .int (-1)])), ((ca 11), .inl (cI, 480, .inl (fun _ => (-2))))]) (w1 := []) hP hD [2, 3] [0, 1, 4, 5, 6, 7] rfl rfl (by decide) (by decide) hk1 hFc hP1 hD1
  generalize H1 = H at hP hS ⊢
  have hP : va_P (dC, dI) vwCl [(h0, .inr (10, [.ref pg, .ref pl, .ref it, .int 0, .ref ac, .int 0, .ref rv, .int 0, .int 0])), (pg, .inl (cS, 12, .inr (.inr (.inr (.inr (fun j => some (sa j))))))), ((sa 10), .inr (8, [.ref (la 10), .ref (ca 10), .int 100, .int (-1), .int (-1)])), ((ca 10), .inl (cI, 480, .inl (fun _ => (-2)))), ((sa 11), .inr (8, [.ref (la 11), .ref (ca 11), .int 100, .int (-1), .int (-1)])), ((ca 11), .inl (cI, 480, .inl (fun _ => (-2))))] H := hP
  have hD : va_D A [(h0, .inr (10, [.ref pg, .ref pl, .ref it, .int 0, .ref ac, .int 0, .ref rv, .int 0, .int 0])), (pg, .inl (cS, 12, .inr (.inr (.inr (.inr (fun j => some (sa j))))))), ((sa 10), .inr (8, [.ref (la 10), .ref (ca 10), .int 100, .int (-1), .int (-1)])), ((ca 10), .inl (cI, 480, .inl (fun _ => (-2)))), ((sa 11), .inr (8, [.ref (la 11), .ref (ca 11), .int 100, .int (-1), .int (-1)])), ((ca 11), .inl (cI, 480, .inl (fun _ => (-2))))] := hD
  refine W.widen (k := 0) (n := 0) (Nat.le_of_ble_eq_true rfl) (Nat.le_of_ble_eq_true rfl) ?_
  refine lv_iinc (v := 10) (lv' := [(1, .int 10), (0, .ref h0)]) hx hb dX11_clearDesk_42 hl (k := 0) rfl (by decide) (by decide) rfl (fun ls hl => ?_)
  refine lv_goto (tgt := 27) hx hb dX11_clearDesk_45 (by decide) ?_
  refine lv_iload_n hx hb dX11_clearDesk_27 rfl (lv_at hl 0 rfl) ?_
  refine lv_bipush (v := 12) hx hb dX11_clearDesk_28 (by decide) ?_
  refine lv_icmp_ge (tgt := 48) hx hb dX11_clearDesk_30 (by decide) (fun c_12 => absurd c_12 (by decide)) (fun c_12 => ?_)
  refine lv_aload_n hx hb dX11_clearDesk_33 rfl (lv_at hl 1 rfl) ?_
  refine va_get (D := (dC, dI)) (ci := 10) (v := .ref pg) (C := RX11) (T := TX11) (N := 9) hx hb hts (by decide +kernel) hown hK hP 0 rfl rfl 0 (by decide) (hts (.fieldLink RX11 11 "PageOne" "pages" "[LPageOne$Sheet;") (by decide +kernel)) (fun _ h9 => h9) rfl dX11_clearDesk_34 ?_
  refine lv_iload_n hx hb dX11_clearDesk_37 rfl (lv_at hl 0 rfl) ?_
  refine va_aldq hx hb hK hP 1 1 rfl rfl (by unfold vp_in; decide) dX11_clearDesk_38 ?_
  refine W.eq (g2 := F0 m 39 ls [.ref (sa 10)]) rfl ?_
  have hPc := hP.sub (ws' := [((sa 10), .inr (8, [.ref (la 10), .ref (ca 10), .int 100, .int (-1), .int (-1)])), ((ca 10), .inl (cI, 480, .inl (fun _ => (-2))))]) [2, 3] rfl
  have hKc := hK.sub (tys' := [(cI, .int)]) [0] rfl
  have hDc := hD.sub (ws' := [((sa 10), .inr (8, [.ref (la 10), .ref (ca 10), .int 100, .int (-1), .int (-1)])), ((ca 10), .inl (cI, 480, .inl (fun _ => (-2))))]) [2, 3] (by decide) rfl
  have hFc := va_free (wc := [((sa 10), .inr (8, [.ref (la 10), .ref (ca 10), .int 100, .int (-1), .int (-1)])), ((ca 10), .inl (cI, 480, .inl (fun _ => (-2))))]) hD hS hA [2, 3] rfl
  refine va_callv (va_runV (As := []) (rest := []) ⟨hx, hb, hml, hown, hts⟩ (x_clear l dC dI (sa 10) (la 10) (ca 10) cI H.size) (cwV 0 hts gX11_clearDesk_X9_clear rfl rfl rfl (by decide +kernel) ⟨Nat.le_of_ble_eq_true rfl, Nat.le_of_ble_eq_true rfl⟩) ⟨gw_fb, va_recv hKc hPc (ci := 8) (q0 := 0) rfl rfl, fun U hU hW => ⟨rfl, by rw [hU], pw_to hU hW hPc hKc hN, hDc.weaken (fun _ _ _ _ => trivial)⟩⟩ rfl rfl hl.1 rfl (lv_room (Nat.le_of_ble_eq_true rfl)) dX11_clearDesk_39 ⟨Nat.le_of_ble_eq_true rfl, Nat.le_of_ble_eq_true rfl⟩) hS (fun q _ h => hFc q h) hFc (fun u t H1 locs ht hvm hw hB hz1 hk1 hS => ?_)
  have hP1 : va_P (dC, dI) vwCl [] H1 := fun k q h => by simp at h
  have hD1 : va_D (va_A [((sa 10), .inr (8, [.ref (la 10), .ref (ca 10), .int 100, .int (-1), .int (-1)])), ((ca 10), .inl (cI, 480, .inl (fun _ => (-2))))] H.size) [] := ⟨fun i j p q h => by simp at h, fun k q h => by simp at h⟩
  obtain ⟨hP, hD⟩ := va_join (wr := [(h0, .inr (10, [.ref pg, .ref pl, .ref it, .int 0, .ref ac, .int 0, .ref rv, .int 0, .int 0])), (pg, .inl (cS, 12, .inr (.inr (.inr (.inr (fun j => some (sa j))))))), ((sa 11), .inr (8, [.ref (la 11), .ref (ca 11), .int 100, .int (-1), .int (-1)])), ((ca 11), .inl (cI, 480, .inl (fun _ => (-2))))]) (w1 := []) hP hD [2, 3] [0, 1, 4, 5] rfl rfl (by decide) (by decide) hk1 hFc hP1 hD1
  generalize H1 = H at hP hS ⊢
  have hP : va_P (dC, dI) vwCl [(h0, .inr (10, [.ref pg, .ref pl, .ref it, .int 0, .ref ac, .int 0, .ref rv, .int 0, .int 0])), (pg, .inl (cS, 12, .inr (.inr (.inr (.inr (fun j => some (sa j))))))), ((sa 11), .inr (8, [.ref (la 11), .ref (ca 11), .int 100, .int (-1), .int (-1)])), ((ca 11), .inl (cI, 480, .inl (fun _ => (-2))))] H := hP
  have hD : va_D A [(h0, .inr (10, [.ref pg, .ref pl, .ref it, .int 0, .ref ac, .int 0, .ref rv, .int 0, .int 0])), (pg, .inl (cS, 12, .inr (.inr (.inr (.inr (fun j => some (sa j))))))), ((sa 11), .inr (8, [.ref (la 11), .ref (ca 11), .int 100, .int (-1), .int (-1)])), ((ca 11), .inl (cI, 480, .inl (fun _ => (-2))))] := hD
  refine W.widen (k := 0) (n := 0) (Nat.le_of_ble_eq_true rfl) (Nat.le_of_ble_eq_true rfl) ?_
  refine lv_iinc (v := 11) (lv' := [(1, .int 11), (0, .ref h0)]) hx hb dX11_clearDesk_42 hl (k := 0) rfl (by decide) (by decide) rfl (fun ls hl => ?_)
  refine lv_goto (tgt := 27) hx hb dX11_clearDesk_45 (by decide) ?_
  refine lv_iload_n hx hb dX11_clearDesk_27 rfl (lv_at hl 0 rfl) ?_
  refine lv_bipush (v := 12) hx hb dX11_clearDesk_28 (by decide) ?_
  refine lv_icmp_ge (tgt := 48) hx hb dX11_clearDesk_30 (by decide) (fun c_13 => absurd c_13 (by decide)) (fun c_13 => ?_)
  refine lv_aload_n hx hb dX11_clearDesk_33 rfl (lv_at hl 1 rfl) ?_
  refine va_get (D := (dC, dI)) (ci := 10) (v := .ref pg) (C := RX11) (T := TX11) (N := 9) hx hb hts (by decide +kernel) hown hK hP 0 rfl rfl 0 (by decide) (hts (.fieldLink RX11 11 "PageOne" "pages" "[LPageOne$Sheet;") (by decide +kernel)) (fun _ h9 => h9) rfl dX11_clearDesk_34 ?_
  refine lv_iload_n hx hb dX11_clearDesk_37 rfl (lv_at hl 0 rfl) ?_
  refine va_aldq hx hb hK hP 1 1 rfl rfl (by unfold vp_in; decide) dX11_clearDesk_38 ?_
  refine W.eq (g2 := F0 m 39 ls [.ref (sa 11)]) rfl ?_
  have hPc := hP.sub (ws' := [((sa 11), .inr (8, [.ref (la 11), .ref (ca 11), .int 100, .int (-1), .int (-1)])), ((ca 11), .inl (cI, 480, .inl (fun _ => (-2))))]) [2, 3] rfl
  have hKc := hK.sub (tys' := [(cI, .int)]) [0] rfl
  have hDc := hD.sub (ws' := [((sa 11), .inr (8, [.ref (la 11), .ref (ca 11), .int 100, .int (-1), .int (-1)])), ((ca 11), .inl (cI, 480, .inl (fun _ => (-2))))]) [2, 3] (by decide) rfl
  have hFc := va_free (wc := [((sa 11), .inr (8, [.ref (la 11), .ref (ca 11), .int 100, .int (-1), .int (-1)])), ((ca 11), .inl (cI, 480, .inl (fun _ => (-2))))]) hD hS hA [2, 3] rfl
  refine va_callv (va_runV (As := []) (rest := []) ⟨hx, hb, hml, hown, hts⟩ (x_clear l dC dI (sa 11) (la 11) (ca 11) cI H.size) (cwV 0 hts gX11_clearDesk_X9_clear rfl rfl rfl (by decide +kernel) ⟨Nat.le_of_ble_eq_true rfl, Nat.le_of_ble_eq_true rfl⟩) ⟨gw_fb, va_recv hKc hPc (ci := 8) (q0 := 0) rfl rfl, fun U hU hW => ⟨rfl, by rw [hU], pw_to hU hW hPc hKc hN, hDc.weaken (fun _ _ _ _ => trivial)⟩⟩ rfl rfl hl.1 rfl (lv_room (Nat.le_of_ble_eq_true rfl)) dX11_clearDesk_39 ⟨Nat.le_of_ble_eq_true rfl, Nat.le_of_ble_eq_true rfl⟩) hS (fun q _ h => hFc q h) hFc (fun u t H1 locs ht hvm hw hB hz1 hk1 hS => ?_)
  have hP1 : va_P (dC, dI) vwCl [] H1 := fun k q h => by simp at h
  have hD1 : va_D (va_A [((sa 11), .inr (8, [.ref (la 11), .ref (ca 11), .int 100, .int (-1), .int (-1)])), ((ca 11), .inl (cI, 480, .inl (fun _ => (-2))))] H.size) [] := ⟨fun i j p q h => by simp at h, fun k q h => by simp at h⟩
  obtain ⟨hP, hD⟩ := va_join (wr := [(h0, .inr (10, [.ref pg, .ref pl, .ref it, .int 0, .ref ac, .int 0, .ref rv, .int 0, .int 0])), (pg, .inl (cS, 12, .inr (.inr (.inr (.inr (fun j => some (sa j)))))))]) (w1 := []) hP hD [2, 3] [0, 1] rfl rfl (by decide) (by decide) hk1 hFc hP1 hD1
  generalize H1 = H at hP hS ⊢
  have hP : va_P (dC, dI) vwCl [(h0, .inr (10, [.ref pg, .ref pl, .ref it, .int 0, .ref ac, .int 0, .ref rv, .int 0, .int 0])), (pg, .inl (cS, 12, .inr (.inr (.inr (.inr (fun j => some (sa j)))))))] H := hP
  have hD : va_D A [(h0, .inr (10, [.ref pg, .ref pl, .ref it, .int 0, .ref ac, .int 0, .ref rv, .int 0, .int 0])), (pg, .inl (cS, 12, .inr (.inr (.inr (.inr (fun j => some (sa j)))))))] := hD
  refine W.widen (k := 0) (n := 0) (Nat.le_of_ble_eq_true rfl) (Nat.le_of_ble_eq_true rfl) ?_
  refine lv_iinc (v := 12) (lv' := [(1, .int 12), (0, .ref h0)]) hx hb dX11_clearDesk_42 hl (k := 0) rfl (by decide) (by decide) rfl (fun ls hl => ?_)
  refine lv_goto (tgt := 27) hx hb dX11_clearDesk_45 (by decide) ?_
  refine lv_iload_n hx hb dX11_clearDesk_27 rfl (lv_at hl 0 rfl) ?_
  refine lv_bipush (v := 12) hx hb dX11_clearDesk_28 (by decide) ?_
  refine lv_icmp_ge (tgt := 48) hx hb dX11_clearDesk_30 (by decide) (fun c_14 => ?_) (fun c_14 => absurd (by decide) c_14)
  refine lv_iconst (v := 0) hx hb dX11_clearDesk_48 (by decide) ?_
  refine lv_istore_n (lv' := [(1, .int 0), (0, .ref h0)]) hx hb dX11_clearDesk_49 rfl hl (by decide) rfl (fun ls hl => ?_)
  refine lv_iload_n hx hb dX11_clearDesk_50 rfl (lv_at hl 0 rfl) ?_
  refine lv_aload_n hx hb dX11_clearDesk_51 rfl (lv_at hl 1 rfl) ?_
  refine va_get (D := (dC, dI)) (ci := 10) (v := .int 0) (C := RX11) (T := TX11) (N := 9) hx hb hts (by decide +kernel) hown hK hP 0 rfl rfl 5 (by decide) (hts (.fieldLink RX11 34 "PageOne" "actCount" "I") (by decide +kernel)) (fun _ h9 => h9) rfl dX11_clearDesk_52 ?_
  refine lv_icmp_ge (tgt := 71) hx hb dX11_clearDesk_55 (by decide) (fun c_15 => ?_) (fun c_15 => absurd (by decide) c_15)
  refine lv_aload_n hx hb dX11_clearDesk_71 rfl (lv_at hl 1 rfl) ?_
  refine lv_iconst (v := 0) hx hb dX11_clearDesk_72 (by decide) ?_
  refine va_put (D := (dC, dI)) (ci := 10) (v := .int 0) (ty := .int) (C := RX11) (T := TX11) (N := 9) hx hb hts (by decide +kernel) tyX11 tyX11_ok nmX11 hown hK hP hD hS 0 rfl rfl 5 (by decide) (hts (.fieldLink RX11 34 "PageOne" "actCount" "I") (by decide +kernel)) (fun _ h9 => h9) rfl (by decide +kernel) rfl rfl (Nat.le_of_ble_eq_true rfl) dX11_clearDesk_73 (fun H locs hP hD hS => ?_)
  have hP : va_P (dC, dI) vwCl [(h0, .inr (10, [.ref pg, .ref pl, .ref it, .int 0, .ref ac, .int 0, .ref rv, .int 0, .int 0])), (pg, .inl (cS, 12, .inr (.inr (.inr (.inr (fun j => some (sa j)))))))] H := hP
  have hD : va_D A [(h0, .inr (10, [.ref pg, .ref pl, .ref it, .int 0, .ref ac, .int 0, .ref rv, .int 0, .int 0])), (pg, .inl (cS, 12, .inr (.inr (.inr (.inr (fun j => some (sa j)))))))] := hD
  exact W.vret hx hb hr (fun t ht hW => ⟨⟨(), rfl, trivial, ⟨by rw [ht]; exact hP.sub [0] rfl, hD.sub [0] (by decide) rfl⟩⟩, hS.F ht⟩) hS.2.2 dX11_clearDesk_76
set_option maxHeartbeats 4000000 in
set_option maxRecDepth 100000 in
theorem x_day (l : Launch) (dC : Nat → ClassId) (dI : Nat → Nat → Nat) (h0 pg pl it ac rv : Nat) (sa la ca : Nat → Nat) (cI cS : ClassId) (sz : Nat) : Met l yX11_day wsX11_day ({ frames := 5, cells := 0, slots := 0, locals := 105 }) (va_Pc [.ref h0] (fun U => U.heap.size = sz ∧ PW dC dI [(h0, .inr (10, [.ref pg, .ref pl, .ref it, .int 0, .ref ac, .int 0, .ref rv, .int 0, .int 0])), (pl, .inl (cS, 12, .inr (.inr (.inr (.inr (fun _ => none)))))), (pg, .inl (cS, 12, .inr (.inr (.inr (.inr (fun j => some (sa j))))))), ((sa 0), .inr (8, [.ref (la 0), .ref (ca 0), .int 100, .int (-1), .int (-1)])), ((ca 0), .inl (cI, 480, .inl (fun _ => (-2)))), ((sa 1), .inr (8, [.ref (la 1), .ref (ca 1), .int 100, .int (-1), .int (-1)])), ((ca 1), .inl (cI, 480, .inl (fun _ => (-2)))), ((sa 2), .inr (8, [.ref (la 2), .ref (ca 2), .int 100, .int (-1), .int (-1)])), ((ca 2), .inl (cI, 480, .inl (fun _ => (-2)))), ((sa 3), .inr (8, [.ref (la 3), .ref (ca 3), .int 100, .int (-1), .int (-1)])), ((ca 3), .inl (cI, 480, .inl (fun _ => (-2)))), ((sa 4), .inr (8, [.ref (la 4), .ref (ca 4), .int 100, .int (-1), .int (-1)])), ((ca 4), .inl (cI, 480, .inl (fun _ => (-2)))), ((sa 5), .inr (8, [.ref (la 5), .ref (ca 5), .int 100, .int (-1), .int (-1)])), ((ca 5), .inl (cI, 480, .inl (fun _ => (-2)))), ((sa 6), .inr (8, [.ref (la 6), .ref (ca 6), .int 100, .int (-1), .int (-1)])), ((ca 6), .inl (cI, 480, .inl (fun _ => (-2)))), ((sa 7), .inr (8, [.ref (la 7), .ref (ca 7), .int 100, .int (-1), .int (-1)])), ((ca 7), .inl (cI, 480, .inl (fun _ => (-2)))), ((sa 8), .inr (8, [.ref (la 8), .ref (ca 8), .int 100, .int (-1), .int (-1)])), ((ca 8), .inl (cI, 480, .inl (fun _ => (-2)))), ((sa 9), .inr (8, [.ref (la 9), .ref (ca 9), .int 100, .int (-1), .int (-1)])), ((ca 9), .inl (cI, 480, .inl (fun _ => (-2)))), ((sa 10), .inr (8, [.ref (la 10), .ref (ca 10), .int 100, .int (-1), .int (-1)])), ((ca 10), .inl (cI, 480, .inl (fun _ => (-2)))), ((sa 11), .inr (8, [.ref (la 11), .ref (ca 11), .int 100, .int (-1), .int (-1)])), ((ca 11), .inl (cI, 480, .inl (fun _ => (-2))))] [(cI, .int), (cS, .object "PageOne$Sheet")] U ∧ va_D (fun _ => True) [(h0, .inr (10, [.ref pg, .ref pl, .ref it, .int 0, .ref ac, .int 0, .ref rv, .int 0, .int 0])), (pl, .inl (cS, 12, .inr (.inr (.inr (.inr (fun _ => none)))))), (pg, .inl (cS, 12, .inr (.inr (.inr (.inr (fun j => some (sa j))))))), ((sa 0), .inr (8, [.ref (la 0), .ref (ca 0), .int 100, .int (-1), .int (-1)])), ((ca 0), .inl (cI, 480, .inl (fun _ => (-2)))), ((sa 1), .inr (8, [.ref (la 1), .ref (ca 1), .int 100, .int (-1), .int (-1)])), ((ca 1), .inl (cI, 480, .inl (fun _ => (-2)))), ((sa 2), .inr (8, [.ref (la 2), .ref (ca 2), .int 100, .int (-1), .int (-1)])), ((ca 2), .inl (cI, 480, .inl (fun _ => (-2)))), ((sa 3), .inr (8, [.ref (la 3), .ref (ca 3), .int 100, .int (-1), .int (-1)])), ((ca 3), .inl (cI, 480, .inl (fun _ => (-2)))), ((sa 4), .inr (8, [.ref (la 4), .ref (ca 4), .int 100, .int (-1), .int (-1)])), ((ca 4), .inl (cI, 480, .inl (fun _ => (-2)))), ((sa 5), .inr (8, [.ref (la 5), .ref (ca 5), .int 100, .int (-1), .int (-1)])), ((ca 5), .inl (cI, 480, .inl (fun _ => (-2)))), ((sa 6), .inr (8, [.ref (la 6), .ref (ca 6), .int 100, .int (-1), .int (-1)])), ((ca 6), .inl (cI, 480, .inl (fun _ => (-2)))), ((sa 7), .inr (8, [.ref (la 7), .ref (ca 7), .int 100, .int (-1), .int (-1)])), ((ca 7), .inl (cI, 480, .inl (fun _ => (-2)))), ((sa 8), .inr (8, [.ref (la 8), .ref (ca 8), .int 100, .int (-1), .int (-1)])), ((ca 8), .inl (cI, 480, .inl (fun _ => (-2)))), ((sa 9), .inr (8, [.ref (la 9), .ref (ca 9), .int 100, .int (-1), .int (-1)])), ((ca 9), .inl (cI, 480, .inl (fun _ => (-2)))), ((sa 10), .inr (8, [.ref (la 10), .ref (ca 10), .int 100, .int (-1), .int (-1)])), ((ca 10), .inl (cI, 480, .inl (fun _ => (-2)))), ((sa 11), .inr (8, [.ref (la 11), .ref (ca 11), .int 100, .int (-1), .int (-1)])), ((ca 11), .inl (cI, 480, .inl (fun _ => (-2))))])) (va_Qi (fun (r : Int32) (_ : Unit) => r = 1) (fun _ _ => True) (va_A [(h0, .inr (10, [.ref pg, .ref pl, .ref it, .int 0, .ref ac, .int 0, .ref rv, .int 0, .int 0])), (pl, .inl (cS, 12, .inr (.inr (.inr (.inr (fun _ => none)))))), (pg, .inl (cS, 12, .inr (.inr (.inr (.inr (fun j => some (sa j))))))), ((sa 0), .inr (8, [.ref (la 0), .ref (ca 0), .int 100, .int (-1), .int (-1)])), ((ca 0), .inl (cI, 480, .inl (fun _ => (-2)))), ((sa 1), .inr (8, [.ref (la 1), .ref (ca 1), .int 100, .int (-1), .int (-1)])), ((ca 1), .inl (cI, 480, .inl (fun _ => (-2)))), ((sa 2), .inr (8, [.ref (la 2), .ref (ca 2), .int 100, .int (-1), .int (-1)])), ((ca 2), .inl (cI, 480, .inl (fun _ => (-2)))), ((sa 3), .inr (8, [.ref (la 3), .ref (ca 3), .int 100, .int (-1), .int (-1)])), ((ca 3), .inl (cI, 480, .inl (fun _ => (-2)))), ((sa 4), .inr (8, [.ref (la 4), .ref (ca 4), .int 100, .int (-1), .int (-1)])), ((ca 4), .inl (cI, 480, .inl (fun _ => (-2)))), ((sa 5), .inr (8, [.ref (la 5), .ref (ca 5), .int 100, .int (-1), .int (-1)])), ((ca 5), .inl (cI, 480, .inl (fun _ => (-2)))), ((sa 6), .inr (8, [.ref (la 6), .ref (ca 6), .int 100, .int (-1), .int (-1)])), ((ca 6), .inl (cI, 480, .inl (fun _ => (-2)))), ((sa 7), .inr (8, [.ref (la 7), .ref (ca 7), .int 100, .int (-1), .int (-1)])), ((ca 7), .inl (cI, 480, .inl (fun _ => (-2)))), ((sa 8), .inr (8, [.ref (la 8), .ref (ca 8), .int 100, .int (-1), .int (-1)])), ((ca 8), .inl (cI, 480, .inl (fun _ => (-2)))), ((sa 9), .inr (8, [.ref (la 9), .ref (ca 9), .int 100, .int (-1), .int (-1)])), ((ca 9), .inl (cI, 480, .inl (fun _ => (-2)))), ((sa 10), .inr (8, [.ref (la 10), .ref (ca 10), .int 100, .int (-1), .int (-1)])), ((ca 10), .inl (cI, 480, .inl (fun _ => (-2)))), ((sa 11), .inr (8, [.ref (la 11), .ref (ca 11), .int 100, .int (-1), .int (-1)])), ((ca 11), .inl (cI, 480, .inl (fun _ => (-2))))] sz)) 0 0 (va_A [(h0, .inr (10, [.ref pg, .ref pl, .ref it, .int 0, .ref ac, .int 0, .ref rv, .int 0, .int 0])), (pl, .inl (cS, 12, .inr (.inr (.inr (.inr (fun _ => none)))))), (pg, .inl (cS, 12, .inr (.inr (.inr (.inr (fun j => some (sa j))))))), ((sa 0), .inr (8, [.ref (la 0), .ref (ca 0), .int 100, .int (-1), .int (-1)])), ((ca 0), .inl (cI, 480, .inl (fun _ => (-2)))), ((sa 1), .inr (8, [.ref (la 1), .ref (ca 1), .int 100, .int (-1), .int (-1)])), ((ca 1), .inl (cI, 480, .inl (fun _ => (-2)))), ((sa 2), .inr (8, [.ref (la 2), .ref (ca 2), .int 100, .int (-1), .int (-1)])), ((ca 2), .inl (cI, 480, .inl (fun _ => (-2)))), ((sa 3), .inr (8, [.ref (la 3), .ref (ca 3), .int 100, .int (-1), .int (-1)])), ((ca 3), .inl (cI, 480, .inl (fun _ => (-2)))), ((sa 4), .inr (8, [.ref (la 4), .ref (ca 4), .int 100, .int (-1), .int (-1)])), ((ca 4), .inl (cI, 480, .inl (fun _ => (-2)))), ((sa 5), .inr (8, [.ref (la 5), .ref (ca 5), .int 100, .int (-1), .int (-1)])), ((ca 5), .inl (cI, 480, .inl (fun _ => (-2)))), ((sa 6), .inr (8, [.ref (la 6), .ref (ca 6), .int 100, .int (-1), .int (-1)])), ((ca 6), .inl (cI, 480, .inl (fun _ => (-2)))), ((sa 7), .inr (8, [.ref (la 7), .ref (ca 7), .int 100, .int (-1), .int (-1)])), ((ca 7), .inl (cI, 480, .inl (fun _ => (-2)))), ((sa 8), .inr (8, [.ref (la 8), .ref (ca 8), .int 100, .int (-1), .int (-1)])), ((ca 8), .inl (cI, 480, .inl (fun _ => (-2)))), ((sa 9), .inr (8, [.ref (la 9), .ref (ca 9), .int 100, .int (-1), .int (-1)])), ((ca 9), .inl (cI, 480, .inl (fun _ => (-2)))), ((sa 10), .inr (8, [.ref (la 10), .ref (ca 10), .int 100, .int (-1), .int (-1)])), ((ca 10), .inl (cI, 480, .inl (fun _ => (-2)))), ((sa 11), .inr (8, [.ref (la 11), .ref (ca 11), .int 100, .int (-1), .int (-1)])), ((ca 11), .inl (cI, 480, .inl (fun _ => (-2))))] sz) := by
  refine Met.ofW (cc := cX11_day) (maxL := 1) (ret := (some .int)) (by decide) rfl ?_
  intro p e s m args below meth c s₁ B hml hv
  obtain ⟨rfl, hsz, ⟨hP, hK, hN⟩, hD0⟩ := hv
  have hx := B.exec
  have hb := B.bytes
  have hr := B.returns
  have hts := atoms_spec (ws := wsX11_day) B.pre
  have hown : s.vm.findClass RX11 = some m.cls := findClass_of_methodNamed B.named
  have hlocks := B.notSynchronized
  subst hsz
  have hD := hD0.self (sz := s.heap.size)
  generalize hAe : va_A [(h0, .inr (10, [.ref pg, .ref pl, .ref it, .int 0, .ref ac, .int 0, .ref rv, .int 0, .int 0])), (pl, .inl (cS, 12, .inr (.inr (.inr (.inr (fun _ => none)))))), (pg, .inl (cS, 12, .inr (.inr (.inr (.inr (fun j => some (sa j))))))), ((sa 0), .inr (8, [.ref (la 0), .ref (ca 0), .int 100, .int (-1), .int (-1)])), ((ca 0), .inl (cI, 480, .inl (fun _ => (-2)))), ((sa 1), .inr (8, [.ref (la 1), .ref (ca 1), .int 100, .int (-1), .int (-1)])), ((ca 1), .inl (cI, 480, .inl (fun _ => (-2)))), ((sa 2), .inr (8, [.ref (la 2), .ref (ca 2), .int 100, .int (-1), .int (-1)])), ((ca 2), .inl (cI, 480, .inl (fun _ => (-2)))), ((sa 3), .inr (8, [.ref (la 3), .ref (ca 3), .int 100, .int (-1), .int (-1)])), ((ca 3), .inl (cI, 480, .inl (fun _ => (-2)))), ((sa 4), .inr (8, [.ref (la 4), .ref (ca 4), .int 100, .int (-1), .int (-1)])), ((ca 4), .inl (cI, 480, .inl (fun _ => (-2)))), ((sa 5), .inr (8, [.ref (la 5), .ref (ca 5), .int 100, .int (-1), .int (-1)])), ((ca 5), .inl (cI, 480, .inl (fun _ => (-2)))), ((sa 6), .inr (8, [.ref (la 6), .ref (ca 6), .int 100, .int (-1), .int (-1)])), ((ca 6), .inl (cI, 480, .inl (fun _ => (-2)))), ((sa 7), .inr (8, [.ref (la 7), .ref (ca 7), .int 100, .int (-1), .int (-1)])), ((ca 7), .inl (cI, 480, .inl (fun _ => (-2)))), ((sa 8), .inr (8, [.ref (la 8), .ref (ca 8), .int 100, .int (-1), .int (-1)])), ((ca 8), .inl (cI, 480, .inl (fun _ => (-2)))), ((sa 9), .inr (8, [.ref (la 9), .ref (ca 9), .int 100, .int (-1), .int (-1)])), ((ca 9), .inl (cI, 480, .inl (fun _ => (-2)))), ((sa 10), .inr (8, [.ref (la 10), .ref (ca 10), .int 100, .int (-1), .int (-1)])), ((ca 10), .inl (cI, 480, .inl (fun _ => (-2)))), ((sa 11), .inr (8, [.ref (la 11), .ref (ca 11), .int 100, .int (-1), .int (-1)])), ((ca 11), .inl (cI, 480, .inl (fun _ => (-2))))] s.heap.size = A at hD ⊢
  have hA : ∀ q : Nat, s.heap.size ≤ q → A q := fun q h => by rw [← hAe]; exact Or.inr h
  have hS : va_S A s.heap s.heap [] := va_S.rf
  have hP : va_P (dC, dI) vwCl [(h0, .inr (10, [.ref pg, .ref pl, .ref it, .int 0, .ref ac, .int 0, .ref rv, .int 0, .int 0])), (pl, .inl (cS, 12, .inr (.inr (.inr (.inr (fun _ => none)))))), (pg, .inl (cS, 12, .inr (.inr (.inr (.inr (fun j => some (sa j))))))), ((sa 0), .inr (8, [.ref (la 0), .ref (ca 0), .int 100, .int (-1), .int (-1)])), ((ca 0), .inl (cI, 480, .inl (fun _ => (-2)))), ((sa 1), .inr (8, [.ref (la 1), .ref (ca 1), .int 100, .int (-1), .int (-1)])), ((ca 1), .inl (cI, 480, .inl (fun _ => (-2)))), ((sa 2), .inr (8, [.ref (la 2), .ref (ca 2), .int 100, .int (-1), .int (-1)])), ((ca 2), .inl (cI, 480, .inl (fun _ => (-2)))), ((sa 3), .inr (8, [.ref (la 3), .ref (ca 3), .int 100, .int (-1), .int (-1)])), ((ca 3), .inl (cI, 480, .inl (fun _ => (-2)))), ((sa 4), .inr (8, [.ref (la 4), .ref (ca 4), .int 100, .int (-1), .int (-1)])), ((ca 4), .inl (cI, 480, .inl (fun _ => (-2)))), ((sa 5), .inr (8, [.ref (la 5), .ref (ca 5), .int 100, .int (-1), .int (-1)])), ((ca 5), .inl (cI, 480, .inl (fun _ => (-2)))), ((sa 6), .inr (8, [.ref (la 6), .ref (ca 6), .int 100, .int (-1), .int (-1)])), ((ca 6), .inl (cI, 480, .inl (fun _ => (-2)))), ((sa 7), .inr (8, [.ref (la 7), .ref (ca 7), .int 100, .int (-1), .int (-1)])), ((ca 7), .inl (cI, 480, .inl (fun _ => (-2)))), ((sa 8), .inr (8, [.ref (la 8), .ref (ca 8), .int 100, .int (-1), .int (-1)])), ((ca 8), .inl (cI, 480, .inl (fun _ => (-2)))), ((sa 9), .inr (8, [.ref (la 9), .ref (ca 9), .int 100, .int (-1), .int (-1)])), ((ca 9), .inl (cI, 480, .inl (fun _ => (-2)))), ((sa 10), .inr (8, [.ref (la 10), .ref (ca 10), .int 100, .int (-1), .int (-1)])), ((ca 10), .inl (cI, 480, .inl (fun _ => (-2)))), ((sa 11), .inr (8, [.ref (la 11), .ref (ca 11), .int 100, .int (-1), .int (-1)])), ((ca 11), .inl (cI, 480, .inl (fun _ => (-2))))] s.heap := hP
  have hl := lv_entry ([.ref h0]) (n := 1) (Nat.le_of_ble_eq_true rfl)
  rw [lg_entry_eq]
  generalize (lg_sl ([.ref h0]) ++ List.replicate (1 - (lg_sl ([.ref h0])).length) Slot.unset).toArray = ls at hl ⊢
  have hl : lv_has ls 1 [(0, .ref h0)] := hl
  refine lv_aload_n hx hb dX11_day_0 rfl (lv_at hl 0 rfl) ?_
  refine va_get (D := (dC, dI)) (ci := 10) (v := .int 0) (C := RX11) (T := TX11) (N := 9) hx hb hts (by decide +kernel) hown hK hP 0 rfl rfl 7 (by decide) (hts (.fieldLink RX11 41 "PageOne" "today" "I") (by decide +kernel)) (fun _ h9 => h9) rfl dX11_day_1 ?_
  refine lv_sipush (v := 399) hx hb dX11_day_4 (by decide) ?_
  refine lv_icmp_lt (tgt := 12) hx hb dX11_day_7 (by decide) (fun c_1 => ?_) (fun c_1 => absurd (by decide) c_1)
  refine lv_aload_n hx hb dX11_day_12 rfl (lv_at hl 0 rfl) ?_
  have hPc := hP.sub (ws' := [(h0, .inr (10, [.ref pg, .ref pl, .ref it, .int 0, .ref ac, .int 0, .ref rv, .int 0, .int 0])), (pl, .inl (cS, 12, .inr (.inr (.inr (.inr (fun _ => none))))))]) [0, 1] rfl
  have hKc := hK.sub (tys' := [(cS, .object "PageOne$Sheet")]) [1] rfl
  refine va_csv (va_runV (As := []) (rest := []) ⟨hx, hb, hml, hown, hts⟩ (x_closeEdition0 l dC dI h0 pg pl it ac rv cS) (cwV 0 hts gX11_day_X11_closeEdition rfl rfl rfl (by decide +kernel) ⟨Nat.le_of_ble_eq_true rfl, Nat.le_of_ble_eq_true rfl⟩) ⟨pw_fb, va_recv hKc hPc (ci := 10) (q0 := 0) rfl rfl, fun U hU hW => ⟨rfl, pw_to hU hW hPc hKc hN⟩⟩ rfl rfl hl.1 rfl (lv_room (Nat.le_of_ble_eq_true rfl)) dX11_day_13 ⟨Nat.le_of_ble_eq_true rfl, Nat.le_of_ble_eq_true rfl⟩).run (fun _ => ?_)
  refine lv_aload_n hx hb dX11_day_16 rfl (lv_at hl 0 rfl) ?_
  have hPc := hP.sub (ws' := [(h0, .inr (10, [.ref pg, .ref pl, .ref it, .int 0, .ref ac, .int 0, .ref rv, .int 0, .int 0])), (pg, .inl (cS, 12, .inr (.inr (.inr (.inr (fun j => some (sa j))))))), ((sa 0), .inr (8, [.ref (la 0), .ref (ca 0), .int 100, .int (-1), .int (-1)])), ((ca 0), .inl (cI, 480, .inl (fun _ => (-2)))), ((sa 1), .inr (8, [.ref (la 1), .ref (ca 1), .int 100, .int (-1), .int (-1)])), ((ca 1), .inl (cI, 480, .inl (fun _ => (-2)))), ((sa 2), .inr (8, [.ref (la 2), .ref (ca 2), .int 100, .int (-1), .int (-1)])), ((ca 2), .inl (cI, 480, .inl (fun _ => (-2)))), ((sa 3), .inr (8, [.ref (la 3), .ref (ca 3), .int 100, .int (-1), .int (-1)])), ((ca 3), .inl (cI, 480, .inl (fun _ => (-2)))), ((sa 4), .inr (8, [.ref (la 4), .ref (ca 4), .int 100, .int (-1), .int (-1)])), ((ca 4), .inl (cI, 480, .inl (fun _ => (-2)))), ((sa 5), .inr (8, [.ref (la 5), .ref (ca 5), .int 100, .int (-1), .int (-1)])), ((ca 5), .inl (cI, 480, .inl (fun _ => (-2)))), ((sa 6), .inr (8, [.ref (la 6), .ref (ca 6), .int 100, .int (-1), .int (-1)])), ((ca 6), .inl (cI, 480, .inl (fun _ => (-2)))), ((sa 7), .inr (8, [.ref (la 7), .ref (ca 7), .int 100, .int (-1), .int (-1)])), ((ca 7), .inl (cI, 480, .inl (fun _ => (-2)))), ((sa 8), .inr (8, [.ref (la 8), .ref (ca 8), .int 100, .int (-1), .int (-1)])), ((ca 8), .inl (cI, 480, .inl (fun _ => (-2)))), ((sa 9), .inr (8, [.ref (la 9), .ref (ca 9), .int 100, .int (-1), .int (-1)])), ((ca 9), .inl (cI, 480, .inl (fun _ => (-2)))), ((sa 10), .inr (8, [.ref (la 10), .ref (ca 10), .int 100, .int (-1), .int (-1)])), ((ca 10), .inl (cI, 480, .inl (fun _ => (-2)))), ((sa 11), .inr (8, [.ref (la 11), .ref (ca 11), .int 100, .int (-1), .int (-1)])), ((ca 11), .inl (cI, 480, .inl (fun _ => (-2))))]) [0, 2, 3, 4, 5, 6, 7, 8, 9, 10, 11, 12, 13, 14, 15, 16, 17, 18, 19, 20, 21, 22, 23, 24, 25, 26] rfl
  have hKc := hK.sub (tys' := [(cI, .int), (cS, .object "PageOne$Sheet")]) [0, 1] rfl
  have hDc := hD.sub (ws' := [(h0, .inr (10, [.ref pg, .ref pl, .ref it, .int 0, .ref ac, .int 0, .ref rv, .int 0, .int 0])), (pg, .inl (cS, 12, .inr (.inr (.inr (.inr (fun j => some (sa j))))))), ((sa 0), .inr (8, [.ref (la 0), .ref (ca 0), .int 100, .int (-1), .int (-1)])), ((ca 0), .inl (cI, 480, .inl (fun _ => (-2)))), ((sa 1), .inr (8, [.ref (la 1), .ref (ca 1), .int 100, .int (-1), .int (-1)])), ((ca 1), .inl (cI, 480, .inl (fun _ => (-2)))), ((sa 2), .inr (8, [.ref (la 2), .ref (ca 2), .int 100, .int (-1), .int (-1)])), ((ca 2), .inl (cI, 480, .inl (fun _ => (-2)))), ((sa 3), .inr (8, [.ref (la 3), .ref (ca 3), .int 100, .int (-1), .int (-1)])), ((ca 3), .inl (cI, 480, .inl (fun _ => (-2)))), ((sa 4), .inr (8, [.ref (la 4), .ref (ca 4), .int 100, .int (-1), .int (-1)])), ((ca 4), .inl (cI, 480, .inl (fun _ => (-2)))), ((sa 5), .inr (8, [.ref (la 5), .ref (ca 5), .int 100, .int (-1), .int (-1)])), ((ca 5), .inl (cI, 480, .inl (fun _ => (-2)))), ((sa 6), .inr (8, [.ref (la 6), .ref (ca 6), .int 100, .int (-1), .int (-1)])), ((ca 6), .inl (cI, 480, .inl (fun _ => (-2)))), ((sa 7), .inr (8, [.ref (la 7), .ref (ca 7), .int 100, .int (-1), .int (-1)])), ((ca 7), .inl (cI, 480, .inl (fun _ => (-2)))), ((sa 8), .inr (8, [.ref (la 8), .ref (ca 8), .int 100, .int (-1), .int (-1)])), ((ca 8), .inl (cI, 480, .inl (fun _ => (-2)))), ((sa 9), .inr (8, [.ref (la 9), .ref (ca 9), .int 100, .int (-1), .int (-1)])), ((ca 9), .inl (cI, 480, .inl (fun _ => (-2)))), ((sa 10), .inr (8, [.ref (la 10), .ref (ca 10), .int 100, .int (-1), .int (-1)])), ((ca 10), .inl (cI, 480, .inl (fun _ => (-2)))), ((sa 11), .inr (8, [.ref (la 11), .ref (ca 11), .int 100, .int (-1), .int (-1)])), ((ca 11), .inl (cI, 480, .inl (fun _ => (-2))))]) [0, 2, 3, 4, 5, 6, 7, 8, 9, 10, 11, 12, 13, 14, 15, 16, 17, 18, 19, 20, 21, 22, 23, 24, 25, 26] (by decide) rfl
  have hFc := va_free (wc := [(h0, .inr (10, [.ref pg, .ref pl, .ref it, .int 0, .ref ac, .int 0, .ref rv, .int 0, .int 0])), (pg, .inl (cS, 12, .inr (.inr (.inr (.inr (fun j => some (sa j))))))), ((sa 0), .inr (8, [.ref (la 0), .ref (ca 0), .int 100, .int (-1), .int (-1)])), ((ca 0), .inl (cI, 480, .inl (fun _ => (-2)))), ((sa 1), .inr (8, [.ref (la 1), .ref (ca 1), .int 100, .int (-1), .int (-1)])), ((ca 1), .inl (cI, 480, .inl (fun _ => (-2)))), ((sa 2), .inr (8, [.ref (la 2), .ref (ca 2), .int 100, .int (-1), .int (-1)])), ((ca 2), .inl (cI, 480, .inl (fun _ => (-2)))), ((sa 3), .inr (8, [.ref (la 3), .ref (ca 3), .int 100, .int (-1), .int (-1)])), ((ca 3), .inl (cI, 480, .inl (fun _ => (-2)))), ((sa 4), .inr (8, [.ref (la 4), .ref (ca 4), .int 100, .int (-1), .int (-1)])), ((ca 4), .inl (cI, 480, .inl (fun _ => (-2)))), ((sa 5), .inr (8, [.ref (la 5), .ref (ca 5), .int 100, .int (-1), .int (-1)])), ((ca 5), .inl (cI, 480, .inl (fun _ => (-2)))), ((sa 6), .inr (8, [.ref (la 6), .ref (ca 6), .int 100, .int (-1), .int (-1)])), ((ca 6), .inl (cI, 480, .inl (fun _ => (-2)))), ((sa 7), .inr (8, [.ref (la 7), .ref (ca 7), .int 100, .int (-1), .int (-1)])), ((ca 7), .inl (cI, 480, .inl (fun _ => (-2)))), ((sa 8), .inr (8, [.ref (la 8), .ref (ca 8), .int 100, .int (-1), .int (-1)])), ((ca 8), .inl (cI, 480, .inl (fun _ => (-2)))), ((sa 9), .inr (8, [.ref (la 9), .ref (ca 9), .int 100, .int (-1), .int (-1)])), ((ca 9), .inl (cI, 480, .inl (fun _ => (-2)))), ((sa 10), .inr (8, [.ref (la 10), .ref (ca 10), .int 100, .int (-1), .int (-1)])), ((ca 10), .inl (cI, 480, .inl (fun _ => (-2)))), ((sa 11), .inr (8, [.ref (la 11), .ref (ca 11), .int 100, .int (-1), .int (-1)])), ((ca 11), .inl (cI, 480, .inl (fun _ => (-2))))]) hD hS hA [0, 2, 3, 4, 5, 6, 7, 8, 9, 10, 11, 12, 13, 14, 15, 16, 17, 18, 19, 20, 21, 22, 23, 24, 25, 26] rfl
  refine va_callv (va_runV (As := []) (rest := []) ⟨hx, hb, hml, hown, hts⟩ (x_clearDesk0 l dC dI h0 pg pl it ac rv sa la ca cI cS s.heap.size) (cwV 0 hts gX11_day_X11_clearDesk rfl rfl rfl (by decide +kernel) ⟨Nat.le_of_ble_eq_true rfl, Nat.le_of_ble_eq_true rfl⟩) ⟨gw_fb, va_recv hKc hPc (ci := 10) (q0 := 0) rfl rfl, fun U hU hW => ⟨rfl, by rw [hU], pw_to hU hW hPc hKc hN, hDc.weaken (fun _ _ _ _ => trivial)⟩⟩ rfl rfl hl.1 rfl (lv_room (Nat.le_of_ble_eq_true rfl)) dX11_day_17 ⟨Nat.le_of_ble_eq_true rfl, Nat.le_of_ble_eq_true rfl⟩) hS (fun q _ h => hFc q h) hFc (fun u t H1 locs ht hvm hw hB hz1 hk1 hS => ?_)
  obtain ⟨hP1, hD1⟩ := hB
  rw [ht] at hP1
  obtain ⟨hP, hD⟩ := va_join (wr := [(pl, .inl (cS, 12, .inr (.inr (.inr (.inr (fun _ => none))))))]) (w1 := [(h0, .inr (10, [.ref pg, .ref pl, .ref it, .int 0, .ref ac, .int 0, .ref rv, .int 0, .int 0]))]) hP hD [0, 2, 3, 4, 5, 6, 7, 8, 9, 10, 11, 12, 13, 14, 15, 16, 17, 18, 19, 20, 21, 22, 23, 24, 25, 26] [1] rfl rfl (by decide) (by decide) hk1 hFc hP1 hD1
  generalize H1 = H at hP hS ⊢
  have hP : va_P (dC, dI) vwCl [(pl, .inl (cS, 12, .inr (.inr (.inr (.inr (fun _ => none)))))), (h0, .inr (10, [.ref pg, .ref pl, .ref it, .int 0, .ref ac, .int 0, .ref rv, .int 0, .int 0]))] H := hP
  have hD : va_D A [(pl, .inl (cS, 12, .inr (.inr (.inr (.inr (fun _ => none)))))), (h0, .inr (10, [.ref pg, .ref pl, .ref it, .int 0, .ref ac, .int 0, .ref rv, .int 0, .int 0]))] := hD
  refine W.widen (k := 0) (n := 0) (Nat.le_of_ble_eq_true rfl) (Nat.le_of_ble_eq_true rfl) ?_
  refine lv_aload_n hx hb dX11_day_20 rfl (lv_at hl 0 rfl) ?_
  refine lv_iconst (v := 0) hx hb dX11_day_21 (by decide) ?_
  refine va_put (D := (dC, dI)) (ci := 10) (v := .int 0) (ty := .int) (C := RX11) (T := TX11) (N := 9) hx hb hts (by decide +kernel) tyX11 tyX11_ok nmX11 hown hK hP hD hS 1 rfl rfl 8 (by decide) (hts (.fieldLink RX11 44 "PageOne" "editionNow" "I") (by decide +kernel)) (fun _ h9 => h9) rfl (by decide +kernel) rfl rfl (Nat.le_of_ble_eq_true rfl) dX11_day_22 (fun H locs hP hD hS => ?_)
  have hP : va_P (dC, dI) vwCl [(pl, .inl (cS, 12, .inr (.inr (.inr (.inr (fun _ => none)))))), (h0, .inr (10, [.ref pg, .ref pl, .ref it, .int 0, .ref ac, .int 0, .ref rv, .int 0, .int 0]))] H := hP
  have hD : va_D A [(pl, .inl (cS, 12, .inr (.inr (.inr (.inr (fun _ => none)))))), (h0, .inr (10, [.ref pg, .ref pl, .ref it, .int 0, .ref ac, .int 0, .ref rv, .int 0, .int 0]))] := hD
  refine lv_aload_n hx hb dX11_day_25 rfl (lv_at hl 0 rfl) ?_
  refine lv_dup hx hb dX11_day_26 rfl ?_
  refine va_get (D := (dC, dI)) (ci := 10) (v := .int 0) (C := RX11) (T := TX11) (N := 9) hx hb hts (by decide +kernel) hown hK hP 1 rfl rfl 7 (by decide) (hts (.fieldLink RX11 41 "PageOne" "today" "I") (by decide +kernel)) (fun _ h9 => h9) rfl dX11_day_27 ?_
  refine lv_iconst (v := 1) hx hb dX11_day_30 (by decide) ?_
  refine lv_iadd hx hb dX11_day_31 ?_
  refine lv_topi (fun k_2 ek_2 => ?_)
  obtain rfl : k_2 = 1 := ek_2.trans (by decide)
  refine va_put (D := (dC, dI)) (ci := 10) (v := .int 1) (ty := .int) (C := RX11) (T := TX11) (N := 9) hx hb hts (by decide +kernel) tyX11 tyX11_ok nmX11 hown hK hP hD hS 1 rfl rfl 7 (by decide) (hts (.fieldLink RX11 41 "PageOne" "today" "I") (by decide +kernel)) (fun _ h9 => h9) rfl (by decide +kernel) rfl rfl (Nat.le_of_ble_eq_true rfl) dX11_day_32 (fun H locs hP hD hS => ?_)
  have hP : va_P (dC, dI) vwCl [(pl, .inl (cS, 12, .inr (.inr (.inr (.inr (fun _ => none)))))), (h0, .inr (10, [.ref pg, .ref pl, .ref it, .int 0, .ref ac, .int 0, .ref rv, .int 1, .int 0]))] H := hP
  have hD : va_D A [(pl, .inl (cS, 12, .inr (.inr (.inr (.inr (fun _ => none)))))), (h0, .inr (10, [.ref pg, .ref pl, .ref it, .int 0, .ref ac, .int 0, .ref rv, .int 1, .int 0]))] := hD
  refine lv_aload_n hx hb dX11_day_35 rfl (lv_at hl 0 rfl) ?_
  refine va_get (D := (dC, dI)) (ci := 10) (v := .int 1) (C := RX11) (T := TX11) (N := 9) hx hb hts (by decide +kernel) hown hK hP 1 rfl rfl 7 (by decide) (hts (.fieldLink RX11 41 "PageOne" "today" "I") (by decide +kernel)) (fun _ h9 => h9) rfl dX11_day_36 ?_
  exact W.iret (v := 1) hx hb hr (fun t ht hW => ⟨⟨1, (), rfl, (by simp [bi]), trivial⟩, hS.F ht⟩) hS.2.2 dX11_day_39
set_option maxHeartbeats 4000000 in
set_option maxRecDepth 100000 in
theorem x_cell (l : Launch) (dC : Nat → ClassId) (dI : Nat → Nat → Nat) (h0 pg pl it ac rv : Nat) (sa la ca : Nat → Nat) (cI cS : ClassId) (p0 p1 p2 : Int32) : Met l yX11_cell wsX11_cell ({ frames := 3, cells := 0, slots := 0, locals := 64 }) (va_Pc [.ref h0, .int p0, .int p1, .int p2] (PW dC dI ([(h0, .inr (10, [.ref pg, .ref pl, .ref it, .int 0, .ref ac, .int 0, .ref rv, .int 0, .int 0])), (pg, .inl (cS, 12, .inr (.inr (.inr (.inr (fun j => some (sa j)))))))] ++ shW cI sa la ca) [(cI, .int), (cS, .object "PageOne$Sheet")])) (vp_Si (fun r => r = (-1))) 0 0 (fun _ => False) := by
  refine Met.ofW (cc := cX11_cell) (maxL := 4) (ret := (some .int)) (by decide) rfl ?_
  intro p e s m args below meth c s₁ B hml hv
  obtain ⟨rfl, hP, hK, hN⟩ := hv
  have hx := B.exec
  have hb := B.bytes
  have hr := B.returns
  have hts := atoms_spec (ws := wsX11_cell) B.pre
  have hown : s.vm.findClass RX11 = some m.cls := findClass_of_methodNamed B.named
  have hlocks := B.notSynchronized
  have hl := lv_entry ([.ref h0, .int p0, .int p1, .int p2]) (n := 4) (Nat.le_of_ble_eq_true rfl)
  rw [lg_entry_eq]
  generalize (lg_sl ([.ref h0, .int p0, .int p1, .int p2]) ++ List.replicate (4 - (lg_sl ([.ref h0, .int p0, .int p1, .int p2])).length) Slot.unset).toArray = ls at hl ⊢
  have hl : lv_has ls 4 [(0, .ref h0), (1, .int p0), (2, .int p1), (3, .int p2)] := hl
  refine lv_iload_n hx hb dX11_cell_0 rfl (lv_at hl 1 rfl) ?_
  have hPc := hP.sub (ws' := []) [] rfl
  have hKc := hK.sub (tys' := []) [] rfl
  refine vp_callSi (va_runS (As := [.int p0]) (rest := []) ⟨hx, hb, hml, hown, hts⟩ (x_isPage l dC dI p0) (va_cwS 1 hts gX11_cell_X11_isPage rfl rfl rfl (by decide +kernel) ⟨Nat.le_of_ble_eq_true rfl, Nat.le_of_ble_eq_true rfl⟩) ⟨pw_fb, fun U hU hW => ⟨rfl, pw_to hU hW hPc hKc hN⟩⟩ rfl rfl hl.1 rfl (lv_room (Nat.le_of_ble_eq_true rfl)) dX11_cell_1 ⟨Nat.le_of_ble_eq_true rfl, Nat.le_of_ble_eq_true rfl⟩).run (fun r hw => ?_)
  rcases Bool.eq_false_or_eq_true (bw p0 0 11) with b_1 | b_1
  ·
    obtain rfl : r = 1 := b_t hw b_1
    have hj := clamp_lt (n := 12) b_1 (by decide)
    have hP := pick2P hP hj
    have hP : va_P (dC, dI) vwCl [(h0, .inr (10, [.ref pg, .ref pl, .ref it, .int 0, .ref ac, .int 0, .ref rv, .int 0, .int 0])), (pg, .inl (cS, 12, .inr (.inr (.inr (.inr (fun j => some (sa j))))))), ((sa p0.toNatClampNeg), .inr (8, [.ref (la p0.toNatClampNeg), .ref (ca p0.toNatClampNeg), .int 100, .int (-1), .int (-1)])), ((la p0.toNatClampNeg), .inl (cI, 8, .inl (fun _ => 0))), ((ca p0.toNatClampNeg), .inl (cI, 480, .inl (fun _ => (-2))))] s.heap := hP
    refine lv_if_eq (tgt := 21) hx hb dX11_cell_4 (by decide) (fun c_2 => absurd c_2 (by decide)) (fun c_2 => ?_)
    refine lv_aload_n hx hb dX11_cell_7 rfl (lv_at hl 0 rfl) ?_
    refine va_get (D := (dC, dI)) (ci := 10) (v := .ref pg) (C := RX11) (T := TX11) (N := 9) hx hb hts (by decide +kernel) hown hK hP 0 rfl rfl 0 (by decide) (hts (.fieldLink RX11 11 "PageOne" "pages" "[LPageOne$Sheet;") (by decide +kernel)) (fun _ h9 => h9) rfl dX11_cell_8 ?_
    refine lv_iload_n hx hb dX11_cell_11 rfl (lv_at hl 1 rfl) ?_
    refine va_aldq hx hb hK hP 1 1 rfl rfl (vin b_1 (by decide)) dX11_cell_12 ?_
    refine W.eq (g2 := F0 m 13 ls [.ref (sa p0.toNatClampNeg)]) rfl ?_
    refine lv_iload_n hx hb dX11_cell_13 rfl (lv_at hl 2 rfl) ?_
    refine lv_iload_n hx hb dX11_cell_14 rfl (lv_at hl 3 rfl) ?_
    have hPc := hP.sub (ws' := [((sa p0.toNatClampNeg), .inr (8, [.ref (la p0.toNatClampNeg), .ref (ca p0.toNatClampNeg), .int 100, .int (-1), .int (-1)])), ((la p0.toNatClampNeg), .inl (cI, 8, .inl (fun _ => 0)))]) [2, 3] rfl
    have hKc := hK.sub (tys' := [(cI, .int)]) [0] rfl
    refine vp_callSi (va_runV (As := [.int p1, .int p2]) (rest := []) ⟨hx, hb, hml, hown, hts⟩ (x_at0 l dC dI (sa p0.toNatClampNeg) (la p0.toNatClampNeg) (ca p0.toNatClampNeg) cI p1 p2) (cwV 2 hts gX11_cell_X9_at rfl rfl rfl (by decide +kernel) ⟨Nat.le_of_ble_eq_true rfl, Nat.le_of_ble_eq_true rfl⟩) ⟨pw_fb, va_recv hKc hPc (ci := 8) (q0 := 0) rfl rfl, fun U hU hW => ⟨rfl, pw_to hU hW hPc hKc hN⟩⟩ rfl rfl hl.1 rfl (lv_room (Nat.le_of_ble_eq_true rfl)) dX11_cell_15 ⟨Nat.le_of_ble_eq_true rfl, Nat.le_of_ble_eq_true rfl⟩).run (fun r hw => ?_)
    obtain rfl : r = (-1) := hw
    refine lv_goto (tgt := 22) hx hb dX11_cell_18 (by decide) ?_
    exact W.iret (v := (-1)) hx hb hr (fun t ht hW => ⟨_, rfl, (by simp [bi, b_1]), ht⟩) (fun q h => absurd h List.not_mem_nil) dX11_cell_22
  ·
    obtain rfl : r = 0 := b_f hw b_1
    refine lv_if_eq (tgt := 21) hx hb dX11_cell_4 (by decide) (fun c_3 => ?_) (fun c_3 => absurd (by decide) c_3)
    refine lv_iconst (v := (-1)) hx hb dX11_cell_21 (by decide) ?_
    exact W.iret (v := (-1)) hx hb hr (fun t ht hW => ⟨_, rfl, (by simp [bi, b_1]), ht⟩) (fun q h => absurd h List.not_mem_nil) dX11_cell_22
set_option maxHeartbeats 4000000 in
set_option maxRecDepth 100000 in
theorem x_piece (l : Launch) (dC : Nat → ClassId) (dI : Nat → Nat → Nat) (h0 pg pl it ac rv : Nat) (p0 p1 p2 : Int32) : Met l yX11_piece wsX11_piece ({ frames := 2, cells := 0, slots := 0, locals := 43 }) (va_Pc [.ref h0, .int p0, .int p1, .int p2] (PW dC dI [(h0, .inr (10, [.ref pg, .ref pl, .ref it, .int 0, .ref ac, .int 0, .ref rv, .int 0, .int 0]))] [])) (vp_Si (fun r => r = (-1))) 0 0 (fun _ => False) := by
  refine Met.ofW (cc := cX11_piece) (maxL := 7) (ret := (some .int)) (by decide) rfl ?_
  intro p e s m args below meth c s₁ B hml hv
  obtain ⟨rfl, hP, hK, hN⟩ := hv
  have hx := B.exec
  have hb := B.bytes
  have hr := B.returns
  have hts := atoms_spec (ws := wsX11_piece) B.pre
  have hown : s.vm.findClass RX11 = some m.cls := findClass_of_methodNamed B.named
  have hlocks := B.notSynchronized
  have hl := lv_entry ([.ref h0, .int p0, .int p1, .int p2]) (n := 7) (Nat.le_of_ble_eq_true rfl)
  rw [lg_entry_eq]
  generalize (lg_sl ([.ref h0, .int p0, .int p1, .int p2]) ++ List.replicate (7 - (lg_sl ([.ref h0, .int p0, .int p1, .int p2])).length) Slot.unset).toArray = ls at hl ⊢
  have hl : lv_has ls 7 [(0, .ref h0), (1, .int p0), (2, .int p1), (3, .int p2)] := hl
  refine lv_aload_n hx hb dX11_piece_0 rfl (lv_at hl 0 rfl) ?_
  refine lv_iload_n hx hb dX11_piece_1 rfl (lv_at hl 1 rfl) ?_
  have hPc := hP.sub (ws' := [(h0, .inr (10, [.ref pg, .ref pl, .ref it, .int 0, .ref ac, .int 0, .ref rv, .int 0, .int 0]))]) [0] rfl
  have hKc := hK.sub (tys' := []) [] rfl
  refine va_csq (va_runV (As := [.int p0]) (rest := []) ⟨hx, hb, hml, hown, hts⟩ (x_itemOf0 l dC dI h0 pg pl it ac rv p0) (cwV 1 hts gX11_piece_X11_itemOf rfl rfl rfl (by decide +kernel) ⟨Nat.le_of_ble_eq_true rfl, Nat.le_of_ble_eq_true rfl⟩) ⟨pw_fb, va_recv hKc hPc (ci := 10) (q0 := 0) rfl rfl, fun U hU hW => ⟨rfl, pw_to hU hW hPc hKc hN⟩⟩ rfl rfl hl.1 rfl (lv_room (Nat.le_of_ble_eq_true rfl)) dX11_piece_2 ⟨Nat.le_of_ble_eq_true rfl, Nat.le_of_ble_eq_true rfl⟩).run (fun r hw => ?_)
  obtain rfl : r = none := hw
  refine W.eq (g2 := F0 m 5 ls [.null]) rfl ?_
  refine lv_astoreN (lv' := [(4, .null), (0, .ref h0), (1, .int p0), (2, .int p1), (3, .int p2)]) hx hb dX11_piece_5 hl (by decide) rfl (fun ls hl => ?_)
  refine lv_aloadN hx hb dX11_piece_7 (lv_at hl 0 rfl) ?_
  refine lv_ifnullN (tgt := 27) hx hb dX11_piece_9 (by decide) ?_
  refine lv_iconst (v := (-1)) hx hb dX11_piece_27 (by decide) ?_
  exact W.iret (v := (-1)) hx hb hr (fun t ht hW => ⟨_, rfl, (by simp [bi]), ht⟩) (fun q h => absurd h List.not_mem_nil) dX11_piece_28
set_option maxHeartbeats 4000000 in
set_option maxRecDepth 100000 in
theorem x_item (l : Launch) (dC : Nat → ClassId) (dI : Nat → Nat → Nat) (h0 pg pl it ac rv : Nat) (p0 p1 : Int32) : Met l yX11_item wsX11_item ({ frames := 2, cells := 0, slots := 0, locals := 43 }) (va_Pc [.ref h0, .int p0, .int p1] (PW dC dI [(h0, .inr (10, [.ref pg, .ref pl, .ref it, .int 0, .ref ac, .int 0, .ref rv, .int 0, .int 0]))] [])) (vp_Si (fun r => r = (-1))) 0 0 (fun _ => False) := by
  refine Met.ofW (cc := cX11_item) (maxL := 5) (ret := (some .int)) (by decide) rfl ?_
  intro p e s m args below meth c s₁ B hml hv
  obtain ⟨rfl, hP, hK, hN⟩ := hv
  have hx := B.exec
  have hb := B.bytes
  have hr := B.returns
  have hts := atoms_spec (ws := wsX11_item) B.pre
  have hown : s.vm.findClass RX11 = some m.cls := findClass_of_methodNamed B.named
  have hlocks := B.notSynchronized
  have hl := lv_entry ([.ref h0, .int p0, .int p1]) (n := 5) (Nat.le_of_ble_eq_true rfl)
  rw [lg_entry_eq]
  generalize (lg_sl ([.ref h0, .int p0, .int p1]) ++ List.replicate (5 - (lg_sl ([.ref h0, .int p0, .int p1])).length) Slot.unset).toArray = ls at hl ⊢
  have hl : lv_has ls 5 [(0, .ref h0), (1, .int p0), (2, .int p1)] := hl
  refine lv_aload_n hx hb dX11_item_0 rfl (lv_at hl 0 rfl) ?_
  refine lv_iload_n hx hb dX11_item_1 rfl (lv_at hl 1 rfl) ?_
  have hPc := hP.sub (ws' := [(h0, .inr (10, [.ref pg, .ref pl, .ref it, .int 0, .ref ac, .int 0, .ref rv, .int 0, .int 0]))]) [0] rfl
  have hKc := hK.sub (tys' := []) [] rfl
  refine va_csq (va_runV (As := [.int p0]) (rest := []) ⟨hx, hb, hml, hown, hts⟩ (x_itemOf0 l dC dI h0 pg pl it ac rv p0) (cwV 1 hts gX11_item_X11_itemOf rfl rfl rfl (by decide +kernel) ⟨Nat.le_of_ble_eq_true rfl, Nat.le_of_ble_eq_true rfl⟩) ⟨pw_fb, va_recv hKc hPc (ci := 10) (q0 := 0) rfl rfl, fun U hU hW => ⟨rfl, pw_to hU hW hPc hKc hN⟩⟩ rfl rfl hl.1 rfl (lv_room (Nat.le_of_ble_eq_true rfl)) dX11_item_2 ⟨Nat.le_of_ble_eq_true rfl, Nat.le_of_ble_eq_true rfl⟩).run (fun r hw => ?_)
  obtain rfl : r = none := hw
  refine W.eq (g2 := F0 m 5 ls [.null]) rfl ?_
  refine lv_astore_nN (lv' := [(3, .null), (0, .ref h0), (1, .int p0), (2, .int p1)]) hx hb dX11_item_5 rfl hl (by decide) rfl (fun ls hl => ?_)
  refine lv_aload_nN hx hb dX11_item_6 rfl (lv_at hl 0 rfl) ?_
  refine lv_ifnonnullN hx hb dX11_item_7 ?_
  refine lv_iconst (v := (-1)) hx hb dX11_item_10 (by decide) ?_
  exact W.iret (v := (-1)) hx hb hr (fun t ht hW => ⟨_, rfl, (by simp [bi]), ht⟩) (fun q h => absurd h List.not_mem_nil) dX11_item_11
set_option maxHeartbeats 4000000 in
set_option maxRecDepth 100000 in
theorem x_shortOf (l : Launch) (dC : Nat → ClassId) (dI : Nat → Nat → Nat) (h0 pg pl it ac rv : Nat) (sa la ca : Nat → Nat) (cI cS : ClassId) (p0 p1 : Int32) : Met l yX11_shortOf wsX11_shortOf ({ frames := 2, cells := 0, slots := 0, locals := 42 }) (va_Pc [.ref h0, .int p0, .int p1] (PW dC dI ([(h0, .inr (10, [.ref pg, .ref pl, .ref it, .int 0, .ref ac, .int 0, .ref rv, .int 0, .int 0])), (pg, .inl (cS, 12, .inr (.inr (.inr (.inr (fun j => some (sa j)))))))] ++ shW cI sa la ca) [(cI, .int), (cS, .object "PageOne$Sheet")])) (vp_Si (fun r => r = (if bw p0 0 11 && bw p1 0 7 then 0 else (-1)))) 0 0 (fun _ => False) := by
  refine Met.ofW (cc := cX11_shortOf) (maxL := 3) (ret := (some .int)) (by decide) rfl ?_
  intro p e s m args below meth c s₁ B hml hv
  obtain ⟨rfl, hP, hK, hN⟩ := hv
  have hx := B.exec
  have hb := B.bytes
  have hr := B.returns
  have hts := atoms_spec (ws := wsX11_shortOf) B.pre
  have hown : s.vm.findClass RX11 = some m.cls := findClass_of_methodNamed B.named
  have hlocks := B.notSynchronized
  have hl := lv_entry ([.ref h0, .int p0, .int p1]) (n := 3) (Nat.le_of_ble_eq_true rfl)
  rw [lg_entry_eq]
  generalize (lg_sl ([.ref h0, .int p0, .int p1]) ++ List.replicate (3 - (lg_sl ([.ref h0, .int p0, .int p1])).length) Slot.unset).toArray = ls at hl ⊢
  have hl : lv_has ls 3 [(0, .ref h0), (1, .int p0), (2, .int p1)] := hl
  refine lv_iload_n hx hb dX11_shortOf_0 rfl (lv_at hl 1 rfl) ?_
  have hPc := hP.sub (ws' := []) [] rfl
  have hKc := hK.sub (tys' := []) [] rfl
  refine vp_callSi (va_runS (As := [.int p0]) (rest := []) ⟨hx, hb, hml, hown, hts⟩ (x_isPage l dC dI p0) (va_cwS 1 hts gX11_shortOf_X11_isPage rfl rfl rfl (by decide +kernel) ⟨Nat.le_of_ble_eq_true rfl, Nat.le_of_ble_eq_true rfl⟩) ⟨pw_fb, fun U hU hW => ⟨rfl, pw_to hU hW hPc hKc hN⟩⟩ rfl rfl hl.1 rfl (lv_room (Nat.le_of_ble_eq_true rfl)) dX11_shortOf_1 ⟨Nat.le_of_ble_eq_true rfl, Nat.le_of_ble_eq_true rfl⟩).run (fun r hw => ?_)
  rcases Bool.eq_false_or_eq_true (bw p0 0 11) with b_1 | b_1
  ·
    obtain rfl : r = 1 := b_t hw b_1
    have hj := clamp_lt (n := 12) b_1 (by decide)
    have hP := pick2P hP hj
    have hP : va_P (dC, dI) vwCl [(h0, .inr (10, [.ref pg, .ref pl, .ref it, .int 0, .ref ac, .int 0, .ref rv, .int 0, .int 0])), (pg, .inl (cS, 12, .inr (.inr (.inr (.inr (fun j => some (sa j))))))), ((sa p0.toNatClampNeg), .inr (8, [.ref (la p0.toNatClampNeg), .ref (ca p0.toNatClampNeg), .int 100, .int (-1), .int (-1)])), ((la p0.toNatClampNeg), .inl (cI, 8, .inl (fun _ => 0))), ((ca p0.toNatClampNeg), .inl (cI, 480, .inl (fun _ => (-2))))] s.heap := hP
    refine lv_if_eq (tgt := 27) hx hb dX11_shortOf_4 (by decide) (fun c_2 => absurd c_2 (by decide)) (fun c_2 => ?_)
    refine lv_iload_n hx hb dX11_shortOf_7 rfl (lv_at hl 2 rfl) ?_
    have hPc := hP.sub (ws' := []) [] rfl
    have hKc := hK.sub (tys' := []) [] rfl
    refine vp_callSi (va_runS (As := [.int p1]) (rest := []) ⟨hx, hb, hml, hown, hts⟩ (x_isColumn l dC dI p1) (va_cwS 1 hts gX11_shortOf_X11_isColumn rfl rfl rfl (by decide +kernel) ⟨Nat.le_of_ble_eq_true rfl, Nat.le_of_ble_eq_true rfl⟩) ⟨pw_fb, fun U hU hW => ⟨rfl, pw_to hU hW hPc hKc hN⟩⟩ rfl rfl hl.1 rfl (lv_room (Nat.le_of_ble_eq_true rfl)) dX11_shortOf_8 ⟨Nat.le_of_ble_eq_true rfl, Nat.le_of_ble_eq_true rfl⟩).run (fun r hw => ?_)
    rcases Bool.eq_false_or_eq_true (bw p1 0 7) with b_3 | b_3
    ·
      obtain rfl : r = 1 := b_t hw b_3
      refine lv_if_eq (tgt := 27) hx hb dX11_shortOf_11 (by decide) (fun c_4 => absurd c_4 (by decide)) (fun c_4 => ?_)
      refine lv_aload_n hx hb dX11_shortOf_14 rfl (lv_at hl 0 rfl) ?_
      refine va_get (D := (dC, dI)) (ci := 10) (v := .ref pg) (C := RX11) (T := TX11) (N := 9) hx hb hts (by decide +kernel) hown hK hP 0 rfl rfl 0 (by decide) (hts (.fieldLink RX11 11 "PageOne" "pages" "[LPageOne$Sheet;") (by decide +kernel)) (fun _ h9 => h9) rfl dX11_shortOf_15 ?_
      refine lv_iload_n hx hb dX11_shortOf_18 rfl (lv_at hl 1 rfl) ?_
      refine va_aldq hx hb hK hP 1 1 rfl rfl (vin b_1 (by decide)) dX11_shortOf_19 ?_
      refine W.eq (g2 := F0 m 20 ls [.ref (sa p0.toNatClampNeg)]) rfl ?_
      refine lv_iload_n hx hb dX11_shortOf_20 rfl (lv_at hl 2 rfl) ?_
      have hPc := hP.sub (ws' := [((sa p0.toNatClampNeg), .inr (8, [.ref (la p0.toNatClampNeg), .ref (ca p0.toNatClampNeg), .int 100, .int (-1), .int (-1)])), ((la p0.toNatClampNeg), .inl (cI, 8, .inl (fun _ => 0)))]) [2, 3] rfl
      have hKc := hK.sub (tys' := [(cI, .int)]) [0] rfl
      refine vp_callSi (va_runV (As := [.int p1]) (rest := []) ⟨hx, hb, hml, hown, hts⟩ (x_emptyIn0 l dC dI (sa p0.toNatClampNeg) (la p0.toNatClampNeg) (ca p0.toNatClampNeg) cI p1 b_3) (cwV 1 hts gX11_shortOf_X9_emptyIn rfl rfl rfl (by decide +kernel) ⟨Nat.le_of_ble_eq_true rfl, Nat.le_of_ble_eq_true rfl⟩) ⟨pw_fb, va_recv hKc hPc (ci := 8) (q0 := 0) rfl rfl, fun U hU hW => ⟨rfl, pw_to hU hW hPc hKc hN⟩⟩ rfl rfl hl.1 rfl (lv_room (Nat.le_of_ble_eq_true rfl)) dX11_shortOf_21 ⟨Nat.le_of_ble_eq_true rfl, Nat.le_of_ble_eq_true rfl⟩).run (fun r hw => ?_)
      obtain rfl : r = 0 := hw
      refine lv_goto (tgt := 28) hx hb dX11_shortOf_24 (by decide) ?_
      exact W.iret (v := 0) hx hb hr (fun t ht hW => ⟨_, rfl, (by simp [bi, b_1, b_3]), ht⟩) (fun q h => absurd h List.not_mem_nil) dX11_shortOf_28
    ·
      obtain rfl : r = 0 := b_f hw b_3
      refine lv_if_eq (tgt := 27) hx hb dX11_shortOf_11 (by decide) (fun c_5 => ?_) (fun c_5 => absurd (by decide) c_5)
      refine lv_iconst (v := (-1)) hx hb dX11_shortOf_27 (by decide) ?_
      exact W.iret (v := (-1)) hx hb hr (fun t ht hW => ⟨_, rfl, (by simp [bi, b_1, b_3]), ht⟩) (fun q h => absurd h List.not_mem_nil) dX11_shortOf_28
  ·
    obtain rfl : r = 0 := b_f hw b_1
    refine lv_if_eq (tgt := 27) hx hb dX11_shortOf_4 (by decide) (fun c_6 => ?_) (fun c_6 => absurd (by decide) c_6)
    refine lv_iconst (v := (-1)) hx hb dX11_shortOf_27 (by decide) ?_
    exact W.iret (v := (-1)) hx hb hr (fun t ht hW => ⟨_, rfl, (by simp [bi, b_1]), ht⟩) (fun q h => absurd h List.not_mem_nil) dX11_shortOf_28
set_option maxHeartbeats 4000000 in
set_option maxRecDepth 100000 in
theorem x_breachOn0 (l : Launch) (dC : Nat → ClassId) (dI : Nat → Nat → Nat) (h0 pg pl it ac rv : Nat) (p0 : Int32) (sz : Nat) : Met l yX11_breachOn wsX11_breachOn ({ frames := 2, cells := 1, slots := 3, locals := 35 }) (va_Pc [.ref h0, .int p0] (fun U => U.heap.size = sz ∧ PW dC dI [(h0, .inr (10, [.ref pg, .ref pl, .ref it, .int 0, .ref ac, .int 0, .ref rv, .int 0, .int 0]))] [] U ∧ va_D (fun _ => True) [(h0, .inr (10, [.ref pg, .ref pl, .ref it, .int 0, .ref ac, .int 0, .ref rv, .int 0, .int 0]))])) (va_Qr (fun _ : Unit => True) (fun _ a t => va_P (dC, dI) vwCl [(a, .inr (1, [.int 0, .int (-1), .int (-1)]))] t.heap ∧ va_D (va_A [(h0, .inr (10, [.ref pg, .ref pl, .ref it, .int 0, .ref ac, .int 0, .ref rv, .int 0, .int 0]))] sz) [(a, .inr (1, [.int 0, .int (-1), .int (-1)]))]) (va_A [(h0, .inr (10, [.ref pg, .ref pl, .ref it, .int 0, .ref ac, .int 0, .ref rv, .int 0, .int 0]))] sz)) 1 3 (va_A [(h0, .inr (10, [.ref pg, .ref pl, .ref it, .int 0, .ref ac, .int 0, .ref rv, .int 0, .int 0]))] sz) := by
  refine Met.ofW (cc := cX11_breachOn) (maxL := 4) (ret := (some (.object "PageOne$Breach"))) (by decide) rfl ?_
  intro p e s m args below meth c s₁ B hml hv
  obtain ⟨rfl, hsz, ⟨hP, hK, hN⟩, hD0⟩ := hv
  have hx := B.exec
  have hb := B.bytes
  have hr := B.returns
  have hts := atoms_spec (ws := wsX11_breachOn) B.pre
  have hown : s.vm.findClass RX11 = some m.cls := findClass_of_methodNamed B.named
  have hlocks := B.notSynchronized
  subst hsz
  have hD := hD0.self (sz := s.heap.size)
  generalize hAe : va_A [(h0, .inr (10, [.ref pg, .ref pl, .ref it, .int 0, .ref ac, .int 0, .ref rv, .int 0, .int 0]))] s.heap.size = A at hD ⊢
  have hA : ∀ q : Nat, s.heap.size ≤ q → A q := fun q h => by rw [← hAe]; exact Or.inr h
  have hS : va_S A s.heap s.heap [] := va_S.rf
  have hP : va_P (dC, dI) vwCl [(h0, .inr (10, [.ref pg, .ref pl, .ref it, .int 0, .ref ac, .int 0, .ref rv, .int 0, .int 0]))] s.heap := hP
  have hl := lv_entry ([.ref h0, .int p0]) (n := 4) (Nat.le_of_ble_eq_true rfl)
  rw [lg_entry_eq]
  generalize (lg_sl ([.ref h0, .int p0]) ++ List.replicate (4 - (lg_sl ([.ref h0, .int p0])).length) Slot.unset).toArray = ls at hl ⊢
  have hl : lv_has ls 4 [(0, .ref h0), (1, .int p0)] := hl
  refine lv_iconst (v := 1) hx hb dX11_breachOn_0 (by decide) ?_
  refine lv_istore_n (lv' := [(2, .int 1), (0, .ref h0), (1, .int p0)]) hx hb dX11_breachOn_1 rfl hl (by decide) rfl (fun ls hl => ?_)
  refine lv_iload_n hx hb dX11_breachOn_2 rfl (lv_at hl 0 rfl) ?_
  refine lv_iconst (v := 3) hx hb dX11_breachOn_3 (by decide) ?_
  refine lv_icmp_gt (tgt := 26) hx hb dX11_breachOn_4 (by decide) (fun c_1 => absurd c_1 (by decide)) (fun c_1 => ?_)
  refine lv_aload_n hx hb dX11_breachOn_7 rfl (lv_at hl 1 rfl) ?_
  refine lv_iload_n hx hb dX11_breachOn_8 rfl (lv_at hl 2 rfl) ?_
  refine lv_iload_n hx hb dX11_breachOn_9 rfl (lv_at hl 0 rfl) ?_
  have hPc := hP.sub (ws' := [(h0, .inr (10, [.ref pg, .ref pl, .ref it, .int 0, .ref ac, .int 0, .ref rv, .int 0, .int 0]))]) [0] rfl
  have hKc := hK.sub (tys' := []) [] rfl
  refine va_csq (va_runV (As := [.int p0, .int 1]) (rest := []) ⟨hx, hb, hml, hown, hts⟩ (x_leastPair0 l dC dI h0 pg pl it ac rv p0 1) (cwV 2 hts gX11_breachOn_X11_leastPair rfl rfl rfl (by decide +kernel) ⟨Nat.le_of_ble_eq_true rfl, Nat.le_of_ble_eq_true rfl⟩) ⟨pw_fb, va_recv hKc hPc (ci := 10) (q0 := 0) rfl rfl, fun U hU hW => ⟨rfl, pw_to hU hW hPc hKc hN⟩⟩ rfl rfl hl.1 rfl (lv_room (Nat.le_of_ble_eq_true rfl)) dX11_breachOn_10 ⟨Nat.le_of_ble_eq_true rfl, Nat.le_of_ble_eq_true rfl⟩).run (fun r hw => ?_)
  obtain rfl : r = none := hw
  refine W.eq (g2 := F0 m 13 ls [.null]) rfl ?_
  refine lv_astore_nN (lv' := [(3, .null), (2, .int 1), (0, .ref h0), (1, .int p0)]) hx hb dX11_breachOn_13 rfl hl (by decide) rfl (fun ls hl => ?_)
  refine lv_aload_nN hx hb dX11_breachOn_14 rfl (lv_at hl 0 rfl) ?_
  refine lv_ifnullN (tgt := 20) hx hb dX11_breachOn_15 (by decide) ?_
  refine lv_iinc (v := 2) (lv' := [(2, .int 2), (3, .null), (0, .ref h0), (1, .int p0)]) hx hb dX11_breachOn_20 hl (k := 1) rfl (by decide) (by decide) rfl (fun ls hl => ?_)
  refine lv_goto (tgt := 2) hx hb dX11_breachOn_23 (by decide) ?_
  refine lv_iload_n hx hb dX11_breachOn_2 rfl (lv_at hl 0 rfl) ?_
  refine lv_iconst (v := 3) hx hb dX11_breachOn_3 (by decide) ?_
  refine lv_icmp_gt (tgt := 26) hx hb dX11_breachOn_4 (by decide) (fun c_2 => absurd c_2 (by decide)) (fun c_2 => ?_)
  refine lv_aload_n hx hb dX11_breachOn_7 rfl (lv_at hl 2 rfl) ?_
  refine lv_iload_n hx hb dX11_breachOn_8 rfl (lv_at hl 3 rfl) ?_
  refine lv_iload_n hx hb dX11_breachOn_9 rfl (lv_at hl 0 rfl) ?_
  have hPc := hP.sub (ws' := [(h0, .inr (10, [.ref pg, .ref pl, .ref it, .int 0, .ref ac, .int 0, .ref rv, .int 0, .int 0]))]) [0] rfl
  have hKc := hK.sub (tys' := []) [] rfl
  refine va_csq (va_runV (As := [.int p0, .int 2]) (rest := []) ⟨hx, hb, hml, hown, hts⟩ (x_leastPair0 l dC dI h0 pg pl it ac rv p0 2) (cwV 2 hts gX11_breachOn_X11_leastPair rfl rfl rfl (by decide +kernel) ⟨Nat.le_of_ble_eq_true rfl, Nat.le_of_ble_eq_true rfl⟩) ⟨pw_fb, va_recv hKc hPc (ci := 10) (q0 := 0) rfl rfl, fun U hU hW => ⟨rfl, pw_to hU hW hPc hKc hN⟩⟩ rfl rfl hl.1 rfl (lv_room (Nat.le_of_ble_eq_true rfl)) dX11_breachOn_10 ⟨Nat.le_of_ble_eq_true rfl, Nat.le_of_ble_eq_true rfl⟩).run (fun r hw => ?_)
  obtain rfl : r = none := hw
  refine W.eq (g2 := F0 m 13 ls [.null]) rfl ?_
  refine lv_astore_nN (lv' := [(3, .null), (2, .int 2), (0, .ref h0), (1, .int p0)]) hx hb dX11_breachOn_13 rfl hl (by decide) rfl (fun ls hl => ?_)
  refine lv_aload_nN hx hb dX11_breachOn_14 rfl (lv_at hl 0 rfl) ?_
  refine lv_ifnullN (tgt := 20) hx hb dX11_breachOn_15 (by decide) ?_
  refine lv_iinc (v := 3) (lv' := [(2, .int 3), (3, .null), (0, .ref h0), (1, .int p0)]) hx hb dX11_breachOn_20 hl (k := 1) rfl (by decide) (by decide) rfl (fun ls hl => ?_)
  refine lv_goto (tgt := 2) hx hb dX11_breachOn_23 (by decide) ?_
  refine lv_iload_n hx hb dX11_breachOn_2 rfl (lv_at hl 0 rfl) ?_
  refine lv_iconst (v := 3) hx hb dX11_breachOn_3 (by decide) ?_
  refine lv_icmp_gt (tgt := 26) hx hb dX11_breachOn_4 (by decide) (fun c_3 => absurd c_3 (by decide)) (fun c_3 => ?_)
  refine lv_aload_n hx hb dX11_breachOn_7 rfl (lv_at hl 2 rfl) ?_
  refine lv_iload_n hx hb dX11_breachOn_8 rfl (lv_at hl 3 rfl) ?_
  refine lv_iload_n hx hb dX11_breachOn_9 rfl (lv_at hl 0 rfl) ?_
  have hPc := hP.sub (ws' := [(h0, .inr (10, [.ref pg, .ref pl, .ref it, .int 0, .ref ac, .int 0, .ref rv, .int 0, .int 0]))]) [0] rfl
  have hKc := hK.sub (tys' := []) [] rfl
  refine va_csq (va_runV (As := [.int p0, .int 3]) (rest := []) ⟨hx, hb, hml, hown, hts⟩ (x_leastPair0 l dC dI h0 pg pl it ac rv p0 3) (cwV 2 hts gX11_breachOn_X11_leastPair rfl rfl rfl (by decide +kernel) ⟨Nat.le_of_ble_eq_true rfl, Nat.le_of_ble_eq_true rfl⟩) ⟨pw_fb, va_recv hKc hPc (ci := 10) (q0 := 0) rfl rfl, fun U hU hW => ⟨rfl, pw_to hU hW hPc hKc hN⟩⟩ rfl rfl hl.1 rfl (lv_room (Nat.le_of_ble_eq_true rfl)) dX11_breachOn_10 ⟨Nat.le_of_ble_eq_true rfl, Nat.le_of_ble_eq_true rfl⟩).run (fun r hw => ?_)
  obtain rfl : r = none := hw
  refine W.eq (g2 := F0 m 13 ls [.null]) rfl ?_
  refine lv_astore_nN (lv' := [(3, .null), (2, .int 3), (0, .ref h0), (1, .int p0)]) hx hb dX11_breachOn_13 rfl hl (by decide) rfl (fun ls hl => ?_)
  refine lv_aload_nN hx hb dX11_breachOn_14 rfl (lv_at hl 0 rfl) ?_
  refine lv_ifnullN (tgt := 20) hx hb dX11_breachOn_15 (by decide) ?_
  refine lv_iinc (v := 4) (lv' := [(2, .int 4), (3, .null), (0, .ref h0), (1, .int p0)]) hx hb dX11_breachOn_20 hl (k := 1) rfl (by decide) (by decide) rfl (fun ls hl => ?_)
  refine lv_goto (tgt := 2) hx hb dX11_breachOn_23 (by decide) ?_
  refine lv_iload_n hx hb dX11_breachOn_2 rfl (lv_at hl 0 rfl) ?_
  refine lv_iconst (v := 3) hx hb dX11_breachOn_3 (by decide) ?_
  refine lv_icmp_gt (tgt := 26) hx hb dX11_breachOn_4 (by decide) (fun c_4 => ?_) (fun c_4 => absurd (by decide) c_4)
  refine lv_iconst (v := 4) hx hb dX11_breachOn_26 (by decide) ?_
  refine lv_istore_n (lv' := [(2, .int 4), (3, .null), (0, .ref h0), (1, .int p0)]) hx hb dX11_breachOn_27 rfl hl (by decide) rfl (fun ls hl => ?_)
  refine lv_iload_n hx hb dX11_breachOn_28 rfl (lv_at hl 0 rfl) ?_
  refine lv_iconst (v := 5) hx hb dX11_breachOn_29 (by decide) ?_
  refine lv_icmp_gt (tgt := 93) hx hb dX11_breachOn_30 (by decide) (fun c_5 => absurd c_5 (by decide)) (fun c_5 => ?_)
  refine lv_iconst (v := 0) hx hb dX11_breachOn_33 (by decide) ?_
  refine lv_istore_n (lv' := [(3, .int 0), (2, .int 4), (0, .ref h0), (1, .int p0)]) hx hb dX11_breachOn_34 rfl hl (by decide) rfl (fun ls hl => ?_)
  refine lv_iload_n hx hb dX11_breachOn_35 rfl (lv_at hl 0 rfl) ?_
  refine lv_aload_n hx hb dX11_breachOn_36 rfl (lv_at hl 2 rfl) ?_
  refine va_get (D := (dC, dI)) (ci := 10) (v := .int 0) (C := RX11) (T := TX11) (N := 9) hx hb hts (by decide +kernel) hown hK hP 0 rfl rfl 3 (by decide) (hts (.fieldLink RX11 24 "PageOne" "itemCount" "I") (by decide +kernel)) (fun _ h9 => h9) rfl dX11_breachOn_37 ?_
  refine lv_icmp_ge (tgt := 87) hx hb dX11_breachOn_40 (by decide) (fun c_6 => ?_) (fun c_6 => absurd (by decide) c_6)
  refine lv_iinc (v := 5) (lv' := [(2, .int 5), (3, .int 0), (0, .ref h0), (1, .int p0)]) hx hb dX11_breachOn_87 hl (k := 1) rfl (by decide) (by decide) rfl (fun ls hl => ?_)
  refine lv_goto (tgt := 28) hx hb dX11_breachOn_90 (by decide) ?_
  refine lv_iload_n hx hb dX11_breachOn_28 rfl (lv_at hl 0 rfl) ?_
  refine lv_iconst (v := 5) hx hb dX11_breachOn_29 (by decide) ?_
  refine lv_icmp_gt (tgt := 93) hx hb dX11_breachOn_30 (by decide) (fun c_7 => absurd c_7 (by decide)) (fun c_7 => ?_)
  refine lv_iconst (v := 0) hx hb dX11_breachOn_33 (by decide) ?_
  refine lv_istore_n (lv' := [(3, .int 0), (2, .int 5), (0, .ref h0), (1, .int p0)]) hx hb dX11_breachOn_34 rfl hl (by decide) rfl (fun ls hl => ?_)
  refine lv_iload_n hx hb dX11_breachOn_35 rfl (lv_at hl 0 rfl) ?_
  refine lv_aload_n hx hb dX11_breachOn_36 rfl (lv_at hl 2 rfl) ?_
  refine va_get (D := (dC, dI)) (ci := 10) (v := .int 0) (C := RX11) (T := TX11) (N := 9) hx hb hts (by decide +kernel) hown hK hP 0 rfl rfl 3 (by decide) (hts (.fieldLink RX11 24 "PageOne" "itemCount" "I") (by decide +kernel)) (fun _ h9 => h9) rfl dX11_breachOn_37 ?_
  refine lv_icmp_ge (tgt := 87) hx hb dX11_breachOn_40 (by decide) (fun c_8 => ?_) (fun c_8 => absurd (by decide) c_8)
  refine lv_iinc (v := 6) (lv' := [(2, .int 6), (3, .int 0), (0, .ref h0), (1, .int p0)]) hx hb dX11_breachOn_87 hl (k := 1) rfl (by decide) (by decide) rfl (fun ls hl => ?_)
  refine lv_goto (tgt := 28) hx hb dX11_breachOn_90 (by decide) ?_
  refine lv_iload_n hx hb dX11_breachOn_28 rfl (lv_at hl 0 rfl) ?_
  refine lv_iconst (v := 5) hx hb dX11_breachOn_29 (by decide) ?_
  refine lv_icmp_gt (tgt := 93) hx hb dX11_breachOn_30 (by decide) (fun c_9 => ?_) (fun c_9 => absurd (by decide) c_9)
  refine va_new (ci := 1) (fs := [.int 0, .int 0, .int 0]) (C := RX1) (T := TX1) (N := 3) hx hb hts (by decide +kernel) tyX1 tyX1_ok hown (hts (.classLink RX11 202 RX1) (by decide +kernel)) (hts (.instantiable RX1 3) (by decide +kernel)) (hts (.initialized RX1) (by decide +kernel)) hK hP hD hS hA rfl nwX1 (Nat.le_of_ble_eq_true rfl) (Nat.le_of_ble_eq_true rfl) dX11_breachOn_93 (fun q_10 H hP hD hS => ?_)
  have hP : va_P (dC, dI) vwCl [(h0, .inr (10, [.ref pg, .ref pl, .ref it, .int 0, .ref ac, .int 0, .ref rv, .int 0, .int 0])), (q_10, .inr (1, [.int 0, .int 0, .int 0]))] H := hP
  have hD : va_D A [(h0, .inr (10, [.ref pg, .ref pl, .ref it, .int 0, .ref ac, .int 0, .ref rv, .int 0, .int 0])), (q_10, .inr (1, [.int 0, .int 0, .int 0]))] := hD
  refine W.widen (k := 1) (n := 3) (Nat.le_of_ble_eq_true rfl) (Nat.le_of_ble_eq_true rfl) ?_
  refine lv_dup hx hb dX11_breachOn_96 rfl ?_
  refine lv_iconst (v := 0) hx hb dX11_breachOn_97 (by decide) ?_
  refine lv_iconst (v := (-1)) hx hb dX11_breachOn_98 (by decide) ?_
  refine lv_iconst (v := (-1)) hx hb dX11_breachOn_99 (by decide) ?_
  have hPc := hP.sub (ws' := [(q_10, .inr (1, [.int 0, .int 0, .int 0]))]) [1] rfl
  have hKc := hK.sub (tys' := []) [] rfl
  have hDc := hD.sub (ws' := [(q_10, .inr (1, [.int 0, .int 0, .int 0]))]) [1] (by decide) rfl
  have hFc := va_free (wc := [(q_10, .inr (1, [.int 0, .int 0, .int 0]))]) hD hS hA [1] rfl
  refine va_callv (va_runI (As := [.int 0, .int (-1), .int (-1)]) (rest := [.ref q_10]) ⟨hx, hb, hml, hown, hts⟩ (x_Breach l dC dI q_10 0 (-1) (-1) H.size) (cwI 3 hts gX11_breachOn_X1_init rfl rfl rfl (hts (.initialized RX1) (by decide +kernel)) (hts (.methodLink RX11 353 yX1_init) (by decide +kernel)) (hts (.instanceMethod yX1_init) (by decide +kernel)) rfl (by decide +kernel) ⟨Nat.le_of_ble_eq_true rfl, Nat.le_of_ble_eq_true rfl⟩) ⟨gw_fb, fun U hU hW => ⟨rfl, by rw [hU], pw_to hU hW hPc hKc hN, hDc.weaken (fun _ _ _ _ => trivial)⟩⟩ rfl rfl hl.1 rfl (lv_room (Nat.le_of_ble_eq_true rfl)) dX11_breachOn_100 ⟨Nat.le_of_ble_eq_true rfl, Nat.le_of_ble_eq_true rfl⟩) hS (fun q _ h => hFc q h) hFc (fun u t H1 locs ht hvm hw hB hz1 hk1 hS => ?_)
  obtain ⟨hP1, hD1⟩ := hB
  rw [ht] at hP1
  obtain ⟨hP, hD⟩ := va_join (wr := [(h0, .inr (10, [.ref pg, .ref pl, .ref it, .int 0, .ref ac, .int 0, .ref rv, .int 0, .int 0]))]) (w1 := [(q_10, .inr (1, [.int 0, .int (-1), .int (-1)]))]) hP hD [1] [0] rfl rfl (by decide) (by decide) hk1 hFc hP1 hD1
  generalize H1 = H at hP hS ⊢
  have hP : va_P (dC, dI) vwCl [(h0, .inr (10, [.ref pg, .ref pl, .ref it, .int 0, .ref ac, .int 0, .ref rv, .int 0, .int 0])), (q_10, .inr (1, [.int 0, .int (-1), .int (-1)]))] H := hP
  have hD : va_D A [(h0, .inr (10, [.ref pg, .ref pl, .ref it, .int 0, .ref ac, .int 0, .ref rv, .int 0, .int 0])), (q_10, .inr (1, [.int 0, .int (-1), .int (-1)]))] := hD
  refine W.widen (k := 1) (n := 3) (Nat.le_of_ble_eq_true rfl) (Nat.le_of_ble_eq_true rfl) ?_
  exact W.aret (v := .ref q_10) hx hb hr (Or.inl ⟨_, rfl⟩) (Or.inr ⟨_, rfl⟩) (fun t ht hW => ⟨⟨(), q_10, rfl, trivial, ⟨by rw [ht]; exact hP.sub [1] rfl, hD.sub [1] (by decide) rfl⟩⟩, hS.F ht⟩) hS.2.2 dX11_breachOn_103
set_option maxHeartbeats 4000000 in
set_option maxRecDepth 100000 in
theorem x_broken (l : Launch) (dC : Nat → ClassId) (dI : Nat → Nat → Nat) (h0 pg pl it ac rv : Nat) (p0 p1 : Int32) (sz : Nat) : Met l yX11_broken wsX11_broken ({ frames := 3, cells := 1, slots := 3, locals := 58 }) (va_Pc [.ref h0, .int p0, .int p1] (fun U => U.heap.size = sz ∧ PW dC dI [(h0, .inr (10, [.ref pg, .ref pl, .ref it, .int 0, .ref ac, .int 0, .ref rv, .int 0, .int 0]))] [] U ∧ va_D (fun _ => True) [(h0, .inr (10, [.ref pg, .ref pl, .ref it, .int 0, .ref ac, .int 0, .ref rv, .int 0, .int 0]))])) (va_Qi (fun (r : Int32) (_ : Unit) => r = (if bw p0 0 11 && bw p1 0 2 then (if p1 = 0 then 0 else (-1)) else (-1))) (fun _ _ => True) (va_A [(h0, .inr (10, [.ref pg, .ref pl, .ref it, .int 0, .ref ac, .int 0, .ref rv, .int 0, .int 0]))] sz)) 1 3 (va_A [(h0, .inr (10, [.ref pg, .ref pl, .ref it, .int 0, .ref ac, .int 0, .ref rv, .int 0, .int 0]))] sz) := by
  refine Met.ofW (cc := cX11_broken) (maxL := 4) (ret := (some .int)) (by decide) rfl ?_
  intro p e s m args below meth c s₁ B hml hv
  obtain ⟨rfl, hsz, ⟨hP, hK, hN⟩, hD0⟩ := hv
  have hx := B.exec
  have hb := B.bytes
  have hr := B.returns
  have hts := atoms_spec (ws := wsX11_broken) B.pre
  have hown : s.vm.findClass RX11 = some m.cls := findClass_of_methodNamed B.named
  have hlocks := B.notSynchronized
  subst hsz
  have hD := hD0.self (sz := s.heap.size)
  generalize hAe : va_A [(h0, .inr (10, [.ref pg, .ref pl, .ref it, .int 0, .ref ac, .int 0, .ref rv, .int 0, .int 0]))] s.heap.size = A at hD ⊢
  have hA : ∀ q : Nat, s.heap.size ≤ q → A q := fun q h => by rw [← hAe]; exact Or.inr h
  have hS : va_S A s.heap s.heap [] := va_S.rf
  have hP : va_P (dC, dI) vwCl [(h0, .inr (10, [.ref pg, .ref pl, .ref it, .int 0, .ref ac, .int 0, .ref rv, .int 0, .int 0]))] s.heap := hP
  have hl := lv_entry ([.ref h0, .int p0, .int p1]) (n := 4) (Nat.le_of_ble_eq_true rfl)
  rw [lg_entry_eq]
  generalize (lg_sl ([.ref h0, .int p0, .int p1]) ++ List.replicate (4 - (lg_sl ([.ref h0, .int p0, .int p1])).length) Slot.unset).toArray = ls at hl ⊢
  have hl : lv_has ls 4 [(0, .ref h0), (1, .int p0), (2, .int p1)] := hl
  refine lv_iload_n hx hb dX11_broken_0 rfl (lv_at hl 1 rfl) ?_
  have hPc := hP.sub (ws' := []) [] rfl
  have hKc := hK.sub (tys' := []) [] rfl
  refine vp_callSi (va_runS (As := [.int p0]) (rest := []) ⟨hx, hb, hml, hown, hts⟩ (x_isPage l dC dI p0) (va_cwS 1 hts gX11_broken_X11_isPage rfl rfl rfl (by decide +kernel) ⟨Nat.le_of_ble_eq_true rfl, Nat.le_of_ble_eq_true rfl⟩) ⟨pw_fb, fun U hU hW => ⟨rfl, pw_to hU hW hPc hKc hN⟩⟩ rfl rfl hl.1 rfl (lv_room (Nat.le_of_ble_eq_true rfl)) dX11_broken_1 ⟨Nat.le_of_ble_eq_true rfl, Nat.le_of_ble_eq_true rfl⟩).run (fun r hw => ?_)
  rcases Bool.eq_false_or_eq_true (bw p0 0 11) with b_1 | b_1
  ·
    obtain rfl : r = 1 := b_t hw b_1
    refine lv_if_eq (tgt := 16) hx hb dX11_broken_4 (by decide) (fun c_2 => absurd c_2 (by decide)) (fun c_2 => ?_)
    refine lv_iload_n hx hb dX11_broken_7 rfl (lv_at hl 2 rfl) ?_
    refine lv_iconst (v := 0) hx hb dX11_broken_8 (by decide) ?_
    refine lv_iconst (v := 2) hx hb dX11_broken_9 (by decide) ?_
    have hPc := hP.sub (ws' := []) [] rfl
    have hKc := hK.sub (tys' := []) [] rfl
    refine vp_callSi (va_runS (As := [.int p1, .int 0, .int 2]) (rest := []) ⟨hx, hb, hml, hown, hts⟩ (x_isWithin l dC dI p1 0 2) (va_cwS 3 hts gX11_broken_X11_isWithin rfl rfl rfl (by decide +kernel) ⟨Nat.le_of_ble_eq_true rfl, Nat.le_of_ble_eq_true rfl⟩) ⟨pw_fb, fun U hU hW => ⟨rfl, pw_to hU hW hPc hKc hN⟩⟩ rfl rfl hl.1 rfl (lv_room (Nat.le_of_ble_eq_true rfl)) dX11_broken_10 ⟨Nat.le_of_ble_eq_true rfl, Nat.le_of_ble_eq_true rfl⟩).run (fun r hw => ?_)
    rcases Bool.eq_false_or_eq_true (bw p1 0 2) with b_3 | b_3
    ·
      obtain rfl : r = 1 := b_t hw b_3
      refine lv_if_ne (tgt := 18) hx hb dX11_broken_13 (by decide) (fun c_4 => ?_) (fun c_4 => absurd c_4 (by decide))
      refine lv_aload_n hx hb dX11_broken_18 rfl (lv_at hl 0 rfl) ?_
      refine lv_iload_n hx hb dX11_broken_19 rfl (lv_at hl 1 rfl) ?_
      have hPc := hP.sub (ws' := [(h0, .inr (10, [.ref pg, .ref pl, .ref it, .int 0, .ref ac, .int 0, .ref rv, .int 0, .int 0]))]) [0] rfl
      have hKc := hK.sub (tys' := []) [] rfl
      have hDc := hD.sub (ws' := [(h0, .inr (10, [.ref pg, .ref pl, .ref it, .int 0, .ref ac, .int 0, .ref rv, .int 0, .int 0]))]) [0] (by decide) rfl
      have hFc := va_free (wc := [(h0, .inr (10, [.ref pg, .ref pl, .ref it, .int 0, .ref ac, .int 0, .ref rv, .int 0, .int 0]))]) hD hS hA [0] rfl
      refine va_callr (va_runV (As := [.int p0]) (rest := []) ⟨hx, hb, hml, hown, hts⟩ (x_breachOn0 l dC dI h0 pg pl it ac rv p0 s.heap.size) (cwV 1 hts gX11_broken_X11_breachOn rfl rfl rfl (by decide +kernel) ⟨Nat.le_of_ble_eq_true rfl, Nat.le_of_ble_eq_true rfl⟩) ⟨gw_fb, va_recv hKc hPc (ci := 10) (q0 := 0) rfl rfl, fun U hU hW => ⟨rfl, by rw [hU], pw_to hU hW hPc hKc hN, hDc.weaken (fun _ _ _ _ => trivial)⟩⟩ rfl rfl hl.1 rfl (lv_room (Nat.le_of_ble_eq_true rfl)) dX11_broken_20 ⟨Nat.le_of_ble_eq_true rfl, Nat.le_of_ble_eq_true rfl⟩) hS (fun q _ h => hFc q h) hFc (fun u ra t H1 locs ht hvm hw hB hz1 hk1 hS => ?_)
      obtain ⟨hP1, hD1⟩ := hB
      rw [ht] at hP1
      obtain ⟨hP, hD⟩ := va_join (wr := []) (w1 := [(ra, .inr (1, [.int 0, .int (-1), .int (-1)]))]) hP hD [0] [] rfl rfl (by decide) (by decide) hk1 hFc hP1 hD1
      generalize H1 = H at hP hS ⊢
      have hP : va_P (dC, dI) vwCl [(ra, .inr (1, [.int 0, .int (-1), .int (-1)]))] H := hP
      have hD : va_D A [(ra, .inr (1, [.int 0, .int (-1), .int (-1)]))] := hD
      refine W.widen (k := 1) (n := 3) (Nat.le_of_ble_eq_true rfl) (Nat.le_of_ble_eq_true rfl) ?_
      refine lv_astore_n (lv' := [(3, .ref ra), (0, .ref h0), (1, .int p0), (2, .int p1)]) hx hb dX11_broken_23 rfl hl (by decide) rfl (fun ls hl => ?_)
      refine lv_iload_n hx hb dX11_broken_24 rfl (lv_at hl 3 rfl) ?_
      refine lv_if_ne (tgt := 33) hx hb dX11_broken_25 (by decide) (fun c_5 => ?_) (fun c_5 => ?_)
      ·
        refine lv_iload_n hx hb dX11_broken_33 rfl (lv_at hl 3 rfl) ?_
        refine lv_iconst (v := 1) hx hb dX11_broken_34 (by decide) ?_
        refine lv_icmp_ne (tgt := 45) hx hb dX11_broken_35 (by decide) (fun c_6 => ?_) (fun c_6 => ?_)
        ·
          refine lv_aload_n hx hb dX11_broken_45 rfl (lv_at hl 0 rfl) ?_
          refine va_get (D := (dC, dI)) (ci := 1) (v := .int (-1)) (C := RX1) (T := TX1) (N := 3) hx hb hts (by decide +kernel) hown hK hP 0 rfl rfl 2 (by decide) (hts (.fieldLink RX11 269 "PageOne$Breach" "other" "I") (by decide +kernel)) (fun _ h9 => h9) rfl dX11_broken_46 ?_
          exact W.iret (v := (-1)) hx hb hr (fun t ht hW => ⟨⟨(-1), (), rfl, (by first | (simp [bi, b_1, b_3, c_5, c_6]; done) | (simp only [b_1, b_3]; simp [bi, c_5, c_6])), trivial⟩, hS.F ht⟩) hS.2.2 dX11_broken_49
        ·
          refine lv_aload_n hx hb dX11_broken_38 rfl (lv_at hl 0 rfl) ?_
          refine va_get (D := (dC, dI)) (ci := 1) (v := .int (-1)) (C := RX1) (T := TX1) (N := 3) hx hb hts (by decide +kernel) hown hK hP 0 rfl rfl 1 (by decide) (hts (.fieldLink RX11 266 "PageOne$Breach" "first" "I") (by decide +kernel)) (fun _ h9 => h9) rfl dX11_broken_39 ?_
          refine lv_goto (tgt := 49) hx hb dX11_broken_42 (by decide) ?_
          exact W.iret (v := (-1)) hx hb hr (fun t ht hW => ⟨⟨(-1), (), rfl, (by first | (simp [bi, b_1, b_3, c_5, c_6]; done) | (simp only [b_1, b_3]; simp [bi, c_5, c_6])), trivial⟩, hS.F ht⟩) hS.2.2 dX11_broken_49
      ·
        refine lv_aload_n hx hb dX11_broken_28 rfl (lv_at hl 0 rfl) ?_
        refine va_get (D := (dC, dI)) (ci := 1) (v := .int 0) (C := RX1) (T := TX1) (N := 3) hx hb hts (by decide +kernel) hown hK hP 0 rfl rfl 0 (by decide) (hts (.fieldLink RX11 201 "PageOne$Breach" "kind" "I") (by decide +kernel)) (fun _ h9 => h9) rfl dX11_broken_29 ?_
        exact W.iret (v := 0) hx hb hr (fun t ht hW => ⟨⟨0, (), rfl, (by first | (simp [bi, b_1, b_3, c_5]; done) | (simp only [b_1, b_3]; simp [bi, c_5])), trivial⟩, hS.F ht⟩) hS.2.2 dX11_broken_32
    ·
      obtain rfl : r = 0 := b_f hw b_3
      refine lv_if_ne (tgt := 18) hx hb dX11_broken_13 (by decide) (fun c_7 => absurd (by decide) c_7) (fun c_7 => ?_)
      refine lv_iconst (v := (-1)) hx hb dX11_broken_16 (by decide) ?_
      refine W.widen (k := 1) (n := 3) (Nat.le_of_ble_eq_true rfl) (Nat.le_of_ble_eq_true rfl) ?_
      exact W.iret (v := (-1)) hx hb hr (fun t ht hW => ⟨⟨(-1), (), rfl, (by simp [bi, b_1, b_3]), trivial⟩, hS.F ht⟩) hS.2.2 dX11_broken_17
  ·
    obtain rfl : r = 0 := b_f hw b_1
    refine lv_if_eq (tgt := 16) hx hb dX11_broken_4 (by decide) (fun c_8 => ?_) (fun c_8 => absurd (by decide) c_8)
    refine lv_iconst (v := (-1)) hx hb dX11_broken_16 (by decide) ?_
    refine W.widen (k := 1) (n := 3) (Nat.le_of_ble_eq_true rfl) (Nat.le_of_ble_eq_true rfl) ?_
    exact W.iret (v := (-1)) hx hb hr (fun t ht hW => ⟨⟨(-1), (), rfl, (by simp [bi, b_1]), trivial⟩, hS.F ht⟩) hS.2.2 dX11_broken_17
set_option maxHeartbeats 4000000 in
set_option maxRecDepth 100000 in
theorem x_printed (l : Launch) (dC : Nat → ClassId) (dI : Nat → Nat → Nat) (h0 pg pl it ac rv : Nat) (p0 p1 : Int32) : Met l yX11_printed wsX11_printed ({ frames := 2, cells := 0, slots := 0, locals := 43 }) (va_Pc [.ref h0, .int p0, .int p1] (PW dC dI [(h0, .inr (10, [.ref pg, .ref pl, .ref it, .int 0, .ref ac, .int 0, .ref rv, .int 0, .int 0]))] [])) (vp_Si (fun r => r = (-1))) 0 0 (fun _ => False) := by
  refine Met.ofW (cc := cX11_printed) (maxL := 4) (ret := (some .int)) (by decide) rfl ?_
  intro p e s m args below meth c s₁ B hml hv
  obtain ⟨rfl, hP, hK, hN⟩ := hv
  have hx := B.exec
  have hb := B.bytes
  have hr := B.returns
  have hts := atoms_spec (ws := wsX11_printed) B.pre
  have hown : s.vm.findClass RX11 = some m.cls := findClass_of_methodNamed B.named
  have hlocks := B.notSynchronized
  have hl := lv_entry ([.ref h0, .int p0, .int p1]) (n := 4) (Nat.le_of_ble_eq_true rfl)
  rw [lg_entry_eq]
  generalize (lg_sl ([.ref h0, .int p0, .int p1]) ++ List.replicate (4 - (lg_sl ([.ref h0, .int p0, .int p1])).length) Slot.unset).toArray = ls at hl ⊢
  have hl : lv_has ls 4 [(0, .ref h0), (1, .int p0), (2, .int p1)] := hl
  refine lv_aload_n hx hb dX11_printed_0 rfl (lv_at hl 0 rfl) ?_
  refine lv_iload_n hx hb dX11_printed_1 rfl (lv_at hl 1 rfl) ?_
  have hPc := hP.sub (ws' := [(h0, .inr (10, [.ref pg, .ref pl, .ref it, .int 0, .ref ac, .int 0, .ref rv, .int 0, .int 0]))]) [0] rfl
  have hKc := hK.sub (tys' := []) [] rfl
  refine va_csq (va_runV (As := [.int p0]) (rest := []) ⟨hx, hb, hml, hown, hts⟩ (x_itemOf0 l dC dI h0 pg pl it ac rv p0) (cwV 1 hts gX11_printed_X11_itemOf rfl rfl rfl (by decide +kernel) ⟨Nat.le_of_ble_eq_true rfl, Nat.le_of_ble_eq_true rfl⟩) ⟨pw_fb, va_recv hKc hPc (ci := 10) (q0 := 0) rfl rfl, fun U hU hW => ⟨rfl, pw_to hU hW hPc hKc hN⟩⟩ rfl rfl hl.1 rfl (lv_room (Nat.le_of_ble_eq_true rfl)) dX11_printed_2 ⟨Nat.le_of_ble_eq_true rfl, Nat.le_of_ble_eq_true rfl⟩).run (fun r hw => ?_)
  obtain rfl : r = none := hw
  refine W.eq (g2 := F0 m 5 ls [.null]) rfl ?_
  refine lv_astore_nN (lv' := [(3, .null), (0, .ref h0), (1, .int p0), (2, .int p1)]) hx hb dX11_printed_5 rfl hl (by decide) rfl (fun ls hl => ?_)
  refine lv_aload_nN hx hb dX11_printed_6 rfl (lv_at hl 0 rfl) ?_
  refine lv_ifnonnullN hx hb dX11_printed_7 ?_
  refine lv_iconst (v := (-1)) hx hb dX11_printed_10 (by decide) ?_
  refine lv_goto (tgt := 20) hx hb dX11_printed_11 (by decide) ?_
  exact W.iret (v := (-1)) hx hb hr (fun t ht hW => ⟨_, rfl, (by simp [bi]), ht⟩) (fun q h => absurd h List.not_mem_nil) dX11_printed_20
set_option maxHeartbeats 4000000 in
set_option maxRecDepth 100000 in
theorem x_plated (l : Launch) (dC : Nat → ClassId) (dI : Nat → Nat → Nat) (h0 pg pl it ac rv : Nat) (cS : ClassId) (p0 p1 p2 : Int32) : Met l yX11_plated wsX11_plated ({ frames := 3, cells := 0, slots := 0, locals := 63 }) (va_Pc [.ref h0, .int p0, .int p1, .int p2] (PW dC dI [(h0, .inr (10, [.ref pg, .ref pl, .ref it, .int 0, .ref ac, .int 0, .ref rv, .int 0, .int 0])), (pl, .inl (cS, 12, .inr (.inr (.inr (.inr (fun _ => none))))))] [(cS, .object "PageOne$Sheet")])) (vp_Si (fun r => r = (-1))) 0 0 (fun _ => False) := by
  refine Met.ofW (cc := cX11_plated) (maxL := 4) (ret := (some .int)) (by decide) rfl ?_
  intro p e s m args below meth c s₁ B hml hv
  obtain ⟨rfl, hP, hK, hN⟩ := hv
  have hx := B.exec
  have hb := B.bytes
  have hr := B.returns
  have hts := atoms_spec (ws := wsX11_plated) B.pre
  have hown : s.vm.findClass RX11 = some m.cls := findClass_of_methodNamed B.named
  have hlocks := B.notSynchronized
  have hl := lv_entry ([.ref h0, .int p0, .int p1, .int p2]) (n := 4) (Nat.le_of_ble_eq_true rfl)
  rw [lg_entry_eq]
  generalize (lg_sl ([.ref h0, .int p0, .int p1, .int p2]) ++ List.replicate (4 - (lg_sl ([.ref h0, .int p0, .int p1, .int p2])).length) Slot.unset).toArray = ls at hl ⊢
  have hl : lv_has ls 4 [(0, .ref h0), (1, .int p0), (2, .int p1), (3, .int p2)] := hl
  refine lv_aload_n hx hb dX11_plated_0 rfl (lv_at hl 0 rfl) ?_
  refine lv_iload_n hx hb dX11_plated_1 rfl (lv_at hl 1 rfl) ?_
  have hPc := hP.sub (ws' := [(h0, .inr (10, [.ref pg, .ref pl, .ref it, .int 0, .ref ac, .int 0, .ref rv, .int 0, .int 0])), (pl, .inl (cS, 12, .inr (.inr (.inr (.inr (fun _ => none))))))]) [0, 1] rfl
  have hKc := hK.sub (tys' := [(cS, .object "PageOne$Sheet")]) [0] rfl
  refine vp_callSi (va_runV (As := [.int p0]) (rest := []) ⟨hx, hb, hml, hown, hts⟩ (x_hasPlate0 l dC dI h0 pg pl it ac rv cS p0) (cwV 1 hts gX11_plated_X11_hasPlate rfl rfl rfl (by decide +kernel) ⟨Nat.le_of_ble_eq_true rfl, Nat.le_of_ble_eq_true rfl⟩) ⟨pw_fb, va_recv hKc hPc (ci := 10) (q0 := 0) rfl rfl, fun U hU hW => ⟨rfl, pw_to hU hW hPc hKc hN⟩⟩ rfl rfl hl.1 rfl (lv_room (Nat.le_of_ble_eq_true rfl)) dX11_plated_2 ⟨Nat.le_of_ble_eq_true rfl, Nat.le_of_ble_eq_true rfl⟩).run (fun r hw => ?_)
  obtain rfl : r = 0 := hw
  refine lv_if_eq (tgt := 22) hx hb dX11_plated_5 (by decide) (fun c_1 => ?_) (fun c_1 => absurd (by decide) c_1)
  refine lv_iconst (v := (-1)) hx hb dX11_plated_22 (by decide) ?_
  exact W.iret (v := (-1)) hx hb hr (fun t ht hW => ⟨_, rfl, (by simp [bi]), ht⟩) (fun q h => absurd h List.not_mem_nil) dX11_plated_23
set_option maxHeartbeats 4000000 in
set_option maxRecDepth 100000 in
theorem x_plateOf (l : Launch) (dC : Nat → ClassId) (dI : Nat → Nat → Nat) (h0 pg pl it ac rv : Nat) (cS : ClassId) (p0 p1 : Int32) : Met l yX11_plateOf wsX11_plateOf ({ frames := 3, cells := 0, slots := 0, locals := 63 }) (va_Pc [.ref h0, .int p0, .int p1] (PW dC dI [(h0, .inr (10, [.ref pg, .ref pl, .ref it, .int 0, .ref ac, .int 0, .ref rv, .int 0, .int 0])), (pl, .inl (cS, 12, .inr (.inr (.inr (.inr (fun _ => none))))))] [(cS, .object "PageOne$Sheet")])) (vp_Si (fun r => r = (-1))) 0 0 (fun _ => False) := by
  refine Met.ofW (cc := cX11_plateOf) (maxL := 3) (ret := (some .int)) (by decide) rfl ?_
  intro p e s m args below meth c s₁ B hml hv
  obtain ⟨rfl, hP, hK, hN⟩ := hv
  have hx := B.exec
  have hb := B.bytes
  have hr := B.returns
  have hts := atoms_spec (ws := wsX11_plateOf) B.pre
  have hown : s.vm.findClass RX11 = some m.cls := findClass_of_methodNamed B.named
  have hlocks := B.notSynchronized
  have hl := lv_entry ([.ref h0, .int p0, .int p1]) (n := 3) (Nat.le_of_ble_eq_true rfl)
  rw [lg_entry_eq]
  generalize (lg_sl ([.ref h0, .int p0, .int p1]) ++ List.replicate (3 - (lg_sl ([.ref h0, .int p0, .int p1])).length) Slot.unset).toArray = ls at hl ⊢
  have hl : lv_has ls 3 [(0, .ref h0), (1, .int p0), (2, .int p1)] := hl
  refine lv_aload_n hx hb dX11_plateOf_0 rfl (lv_at hl 0 rfl) ?_
  refine lv_iload_n hx hb dX11_plateOf_1 rfl (lv_at hl 1 rfl) ?_
  have hPc := hP.sub (ws' := [(h0, .inr (10, [.ref pg, .ref pl, .ref it, .int 0, .ref ac, .int 0, .ref rv, .int 0, .int 0])), (pl, .inl (cS, 12, .inr (.inr (.inr (.inr (fun _ => none))))))]) [0, 1] rfl
  have hKc := hK.sub (tys' := [(cS, .object "PageOne$Sheet")]) [0] rfl
  refine vp_callSi (va_runV (As := [.int p0]) (rest := []) ⟨hx, hb, hml, hown, hts⟩ (x_hasPlate0 l dC dI h0 pg pl it ac rv cS p0) (cwV 1 hts gX11_plateOf_X11_hasPlate rfl rfl rfl (by decide +kernel) ⟨Nat.le_of_ble_eq_true rfl, Nat.le_of_ble_eq_true rfl⟩) ⟨pw_fb, va_recv hKc hPc (ci := 10) (q0 := 0) rfl rfl, fun U hU hW => ⟨rfl, pw_to hU hW hPc hKc hN⟩⟩ rfl rfl hl.1 rfl (lv_room (Nat.le_of_ble_eq_true rfl)) dX11_plateOf_2 ⟨Nat.le_of_ble_eq_true rfl, Nat.le_of_ble_eq_true rfl⟩).run (fun r hw => ?_)
  obtain rfl : r = 0 := hw
  refine lv_if_ne (tgt := 10) hx hb dX11_plateOf_5 (by decide) (fun c_1 => absurd (by decide) c_1) (fun c_1 => ?_)
  refine lv_iconst (v := (-1)) hx hb dX11_plateOf_8 (by decide) ?_
  exact W.iret (v := (-1)) hx hb hr (fun t ht hW => ⟨_, rfl, (by simp [bi]), ht⟩) (fun q h => absurd h List.not_mem_nil) dX11_plateOf_9
set_option maxHeartbeats 4000000 in
set_option maxRecDepth 100000 in
theorem x_bill (l : Launch) (dC : Nat → ClassId) (dI : Nat → Nat → Nat) (h0 pg pl it ac rv : Nat) (p0 p1 : Int32) : Met l yX11_bill wsX11_bill ({ frames := 2, cells := 0, slots := 0, locals := 42 }) (va_Pc [.ref h0, .int p0, .int p1] (PW dC dI [(h0, .inr (10, [.ref pg, .ref pl, .ref it, .int 0, .ref ac, .int 0, .ref rv, .int 0, .int 0]))] [])) (vp_Si (fun r => r = (if bw p0 0 9 && bw p1 0 0 then 0 else (-1)))) 0 0 (fun _ => False) := by
  refine Met.ofW (cc := cX11_bill) (maxL := 7) (ret := (some .int)) (by decide) rfl ?_
  intro p e s m args below meth c s₁ B hml hv
  obtain ⟨rfl, hP, hK, hN⟩ := hv
  have hx := B.exec
  have hb := B.bytes
  have hr := B.returns
  have hts := atoms_spec (ws := wsX11_bill) B.pre
  have hown : s.vm.findClass RX11 = some m.cls := findClass_of_methodNamed B.named
  have hlocks := B.notSynchronized
  have hl := lv_entry ([.ref h0, .int p0, .int p1]) (n := 7) (Nat.le_of_ble_eq_true rfl)
  rw [lg_entry_eq]
  generalize (lg_sl ([.ref h0, .int p0, .int p1]) ++ List.replicate (7 - (lg_sl ([.ref h0, .int p0, .int p1])).length) Slot.unset).toArray = ls at hl ⊢
  have hl : lv_has ls 7 [(0, .ref h0), (1, .int p0), (2, .int p1)] := hl
  refine lv_iload_n hx hb dX11_bill_0 rfl (lv_at hl 1 rfl) ?_
  have hPc := hP.sub (ws' := []) [] rfl
  have hKc := hK.sub (tys' := []) [] rfl
  refine vp_callSi (va_runS (As := [.int p0]) (rest := []) ⟨hx, hb, hml, hown, hts⟩ (x_isBuyer l dC dI p0) (va_cwS 1 hts gX11_bill_X11_isBuyer rfl rfl rfl (by decide +kernel) ⟨Nat.le_of_ble_eq_true rfl, Nat.le_of_ble_eq_true rfl⟩) ⟨pw_fb, fun U hU hW => ⟨rfl, pw_to hU hW hPc hKc hN⟩⟩ rfl rfl hl.1 rfl (lv_room (Nat.le_of_ble_eq_true rfl)) dX11_bill_1 ⟨Nat.le_of_ble_eq_true rfl, Nat.le_of_ble_eq_true rfl⟩).run (fun r hw => ?_)
  rcases Bool.eq_false_or_eq_true (bw p0 0 9) with b_1 | b_1
  ·
    obtain rfl : r = 1 := b_t hw b_1
    refine lv_if_eq (tgt := 19) hx hb dX11_bill_4 (by decide) (fun c_2 => absurd c_2 (by decide)) (fun c_2 => ?_)
    refine lv_iload_n hx hb dX11_bill_7 rfl (lv_at hl 2 rfl) ?_
    refine lv_iconst (v := 0) hx hb dX11_bill_8 (by decide) ?_
    refine lv_aload_n hx hb dX11_bill_9 rfl (lv_at hl 0 rfl) ?_
    refine va_get (D := (dC, dI)) (ci := 10) (v := .int 0) (C := RX11) (T := TX11) (N := 9) hx hb hts (by decide +kernel) hown hK hP 0 rfl rfl 7 (by decide) (hts (.fieldLink RX11 41 "PageOne" "today" "I") (by decide +kernel)) (fun _ h9 => h9) rfl dX11_bill_10 ?_
    have hPc := hP.sub (ws' := []) [] rfl
    have hKc := hK.sub (tys' := []) [] rfl
    refine vp_callSi (va_runS (As := [.int p1, .int 0, .int 0]) (rest := []) ⟨hx, hb, hml, hown, hts⟩ (x_isWithin l dC dI p1 0 0) (va_cwS 3 hts gX11_bill_X11_isWithin rfl rfl rfl (by decide +kernel) ⟨Nat.le_of_ble_eq_true rfl, Nat.le_of_ble_eq_true rfl⟩) ⟨pw_fb, fun U hU hW => ⟨rfl, pw_to hU hW hPc hKc hN⟩⟩ rfl rfl hl.1 rfl (lv_room (Nat.le_of_ble_eq_true rfl)) dX11_bill_13 ⟨Nat.le_of_ble_eq_true rfl, Nat.le_of_ble_eq_true rfl⟩).run (fun r hw => ?_)
    rcases Bool.eq_false_or_eq_true (bw p1 0 0) with b_3 | b_3
    ·
      obtain rfl : r = 1 := b_t hw b_3
      refine lv_if_ne (tgt := 21) hx hb dX11_bill_16 (by decide) (fun c_4 => ?_) (fun c_4 => absurd c_4 (by decide))
      refine lv_iconst (v := 0) hx hb dX11_bill_21 (by decide) ?_
      refine lv_istore_n (lv' := [(3, .int 0), (0, .ref h0), (1, .int p0), (2, .int p1)]) hx hb dX11_bill_22 rfl hl (by decide) rfl (fun ls hl => ?_)
      refine lv_iconst (v := 0) hx hb dX11_bill_23 (by decide) ?_
      refine lv_istore (lv' := [(4, .int 0), (3, .int 0), (0, .ref h0), (1, .int p0), (2, .int p1)]) hx hb dX11_bill_24 hl (by decide) rfl (fun ls hl => ?_)
      refine lv_iload hx hb dX11_bill_26 (lv_at hl 0 rfl) ?_
      refine lv_aload_n hx hb dX11_bill_28 rfl (lv_at hl 2 rfl) ?_
      refine va_get (D := (dC, dI)) (ci := 10) (v := .int 0) (C := RX11) (T := TX11) (N := 9) hx hb hts (by decide +kernel) hown hK hP 0 rfl rfl 3 (by decide) (hts (.fieldLink RX11 24 "PageOne" "itemCount" "I") (by decide +kernel)) (fun _ h9 => h9) rfl dX11_bill_29 ?_
      refine lv_icmp_ge (tgt := 92) hx hb dX11_bill_32 (by decide) (fun c_5 => ?_) (fun c_5 => absurd (by decide) c_5)
      refine lv_iload_n hx hb dX11_bill_92 rfl (lv_at hl 1 rfl) ?_
      exact W.iret (v := 0) hx hb hr (fun t ht hW => ⟨_, rfl, (by simp [bi, b_1, b_3]), ht⟩) (fun q h => absurd h List.not_mem_nil) dX11_bill_93
    ·
      obtain rfl : r = 0 := b_f hw b_3
      refine lv_if_ne (tgt := 21) hx hb dX11_bill_16 (by decide) (fun c_6 => absurd (by decide) c_6) (fun c_6 => ?_)
      refine lv_iconst (v := (-1)) hx hb dX11_bill_19 (by decide) ?_
      exact W.iret (v := (-1)) hx hb hr (fun t ht hW => ⟨_, rfl, (by simp [bi, b_1, b_3]), ht⟩) (fun q h => absurd h List.not_mem_nil) dX11_bill_20
  ·
    obtain rfl : r = 0 := b_f hw b_1
    refine lv_if_eq (tgt := 19) hx hb dX11_bill_4 (by decide) (fun c_7 => ?_) (fun c_7 => absurd (by decide) c_7)
    refine lv_iconst (v := (-1)) hx hb dX11_bill_19 (by decide) ?_
    exact W.iret (v := (-1)) hx hb hr (fun t ht hW => ⟨_, rfl, (by simp [bi, b_1]), ht⟩) (fun q h => absurd h List.not_mem_nil) dX11_bill_20
set_option maxHeartbeats 4000000 in
set_option maxRecDepth 100000 in
theorem x_about (l : Launch) (dC : Nat → ClassId) (dI : Nat → Nat → Nat) (h0 pg pl it ac rv : Nat) (cS : ClassId) (p0 : Int32) : Met l yX11_about wsX11_about ({ frames := 5, cells := 0, slots := 0, locals := 106 }) (va_Pc [.ref h0, .int p0] (PW dC dI [(h0, .inr (10, [.ref pg, .ref pl, .ref it, .int 0, .ref ac, .int 0, .ref rv, .int 0, .int 0])), (pl, .inl (cS, 12, .inr (.inr (.inr (.inr (fun _ => none))))))] [(cS, .object "PageOne$Sheet")])) (vp_Si (fun r => r = (if bw p0 0 4 = true then 0 else (-1)))) 0 0 (fun _ => False) := by
  refine Met.ofW (cc := cX11_about) (maxL := 2) (ret := (some .int)) (by decide) rfl ?_
  intro p e s m args below meth c s₁ B hml hv
  obtain ⟨rfl, hP, hK, hN⟩ := hv
  have hx := B.exec
  have hb := B.bytes
  have hr := B.returns
  have hts := atoms_spec (ws := wsX11_about) B.pre
  have hown : s.vm.findClass RX11 = some m.cls := findClass_of_methodNamed B.named
  have hlocks := B.notSynchronized
  have hl := lv_entry ([.ref h0, .int p0]) (n := 2) (Nat.le_of_ble_eq_true rfl)
  rw [lg_entry_eq]
  generalize (lg_sl ([.ref h0, .int p0]) ++ List.replicate (2 - (lg_sl ([.ref h0, .int p0])).length) Slot.unset).toArray = ls at hl ⊢
  have hl : lv_has ls 2 [(0, .ref h0), (1, .int p0)] := hl
  refine lv_iload_n hx hb dX11_about_0 rfl (lv_at hl 1 rfl) ?_
  rcases Classical.em (p0 = 0) with s_1 | s_1
  ·
    subst s_1
    refine lv_tableIn (tgt := 36) (off := 35) hx hb dX11_about_1 (by decide) (by decide) (by decide) (by decide) ?_
    refine lv_aload_n hx hb dX11_about_36 rfl (lv_at hl 0 rfl) ?_
    refine va_get (D := (dC, dI)) (ci := 10) (v := .int 0) (C := RX11) (T := TX11) (N := 9) hx hb hts (by decide +kernel) hown hK hP 0 rfl rfl 7 (by decide) (hts (.fieldLink RX11 41 "PageOne" "today" "I") (by decide +kernel)) (fun _ h9 => h9) rfl dX11_about_37 ?_
    exact W.iret (v := 0) hx hb hr (fun t ht hW => ⟨_, rfl, (by decide), ht⟩) (fun q h => absurd h List.not_mem_nil) dX11_about_40
  ·
    rcases Classical.em (p0 = 1) with s_2 | s_2
    ·
      subst s_2
      refine lv_tableIn (tgt := 41) (off := 40) hx hb dX11_about_1 (by decide) (by decide) (by decide) (by decide) ?_
      refine lv_aload_n hx hb dX11_about_41 rfl (lv_at hl 0 rfl) ?_
      refine va_get (D := (dC, dI)) (ci := 10) (v := .int 0) (C := RX11) (T := TX11) (N := 9) hx hb hts (by decide +kernel) hown hK hP 0 rfl rfl 8 (by decide) (hts (.fieldLink RX11 44 "PageOne" "editionNow" "I") (by decide +kernel)) (fun _ h9 => h9) rfl dX11_about_42 ?_
      exact W.iret (v := 0) hx hb hr (fun t ht hW => ⟨_, rfl, (by decide), ht⟩) (fun q h => absurd h List.not_mem_nil) dX11_about_45
    ·
      rcases Classical.em (p0 = 2) with s_3 | s_3
      ·
        subst s_3
        refine lv_tableIn (tgt := 46) (off := 45) hx hb dX11_about_1 (by decide) (by decide) (by decide) (by decide) ?_
        refine lv_aload_n hx hb dX11_about_46 rfl (lv_at hl 0 rfl) ?_
        refine va_get (D := (dC, dI)) (ci := 10) (v := .int 0) (C := RX11) (T := TX11) (N := 9) hx hb hts (by decide +kernel) hown hK hP 0 rfl rfl 3 (by decide) (hts (.fieldLink RX11 24 "PageOne" "itemCount" "I") (by decide +kernel)) (fun _ h9 => h9) rfl dX11_about_47 ?_
        exact W.iret (v := 0) hx hb hr (fun t ht hW => ⟨_, rfl, (by decide), ht⟩) (fun q h => absurd h List.not_mem_nil) dX11_about_50
      ·
        rcases Classical.em (p0 = 3) with s_4 | s_4
        ·
          subst s_4
          refine lv_tableIn (tgt := 51) (off := 50) hx hb dX11_about_1 (by decide) (by decide) (by decide) (by decide) ?_
          refine lv_aload_n hx hb dX11_about_51 rfl (lv_at hl 0 rfl) ?_
          refine va_get (D := (dC, dI)) (ci := 10) (v := .int 0) (C := RX11) (T := TX11) (N := 9) hx hb hts (by decide +kernel) hown hK hP 0 rfl rfl 5 (by decide) (hts (.fieldLink RX11 34 "PageOne" "actCount" "I") (by decide +kernel)) (fun _ h9 => h9) rfl dX11_about_52 ?_
          exact W.iret (v := 0) hx hb hr (fun t ht hW => ⟨_, rfl, (by decide), ht⟩) (fun q h => absurd h List.not_mem_nil) dX11_about_55
        ·
          rcases Classical.em (p0 = 4) with s_5 | s_5
          ·
            subst s_5
            refine lv_tableIn (tgt := 56) (off := 55) hx hb dX11_about_1 (by decide) (by decide) (by decide) (by decide) ?_
            refine lv_aload_n hx hb dX11_about_56 rfl (lv_at hl 0 rfl) ?_
            have hPc := hP.sub (ws' := [(h0, .inr (10, [.ref pg, .ref pl, .ref it, .int 0, .ref ac, .int 0, .ref rv, .int 0, .int 0])), (pl, .inl (cS, 12, .inr (.inr (.inr (.inr (fun _ => none))))))]) [0, 1] rfl
            have hKc := hK.sub (tys' := [(cS, .object "PageOne$Sheet")]) [0] rfl
            refine vp_callSi (va_runV (As := []) (rest := []) ⟨hx, hb, hml, hown, hts⟩ (x_freshPlates0 l dC dI h0 pg pl it ac rv cS) (cwV 0 hts gX11_about_X11_freshPlates rfl rfl rfl (by decide +kernel) ⟨Nat.le_of_ble_eq_true rfl, Nat.le_of_ble_eq_true rfl⟩) ⟨pw_fb, va_recv hKc hPc (ci := 10) (q0 := 0) rfl rfl, fun U hU hW => ⟨rfl, pw_to hU hW hPc hKc hN⟩⟩ rfl rfl hl.1 rfl (lv_room (Nat.le_of_ble_eq_true rfl)) dX11_about_57 ⟨Nat.le_of_ble_eq_true rfl, Nat.le_of_ble_eq_true rfl⟩).run (fun r hw => ?_)
            obtain rfl : r = 0 := hw
            exact W.iret (v := 0) hx hb hr (fun t ht hW => ⟨_, rfl, (by decide), ht⟩) (fun q h => absurd h List.not_mem_nil) dX11_about_60
          ·
            refine lv_tableOut (tgt := 61) hx hb dX11_about_1 (sw_out4 s_1 s_2 s_3 s_4 s_5) (by decide) ?_
            refine lv_iconst (v := (-1)) hx hb dX11_about_61 (by decide) ?_
            exact W.iret (v := (-1)) hx hb hr (fun t ht hW => ⟨_, rfl, (by rw [if_neg (abt_out s_1 s_2 s_3 s_4 s_5)]), ht⟩) (fun q h => absurd h List.not_mem_nil) dX11_about_62
