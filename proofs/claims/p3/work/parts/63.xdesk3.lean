theorem ln_up {g : Nat → Int32} {i x : Int32} (h : ∀ j, j < 8 → bw (g j) 0 60 = true) (hx : bw x 0 60 = true) : ∀ j, j < 8 → bw (upd g i.toNatClampNeg x j) 0 60 = true := by
  intro j hj
  unfold upd
  split
  · exact hx
  · exact h j hj
def kup (k : Nat → Int32) (j : Nat) (x : Int32) : Nat → Int32 := fun i => if i = j then x else k i
theorem dkF_up (d : Nat → Nat) (k : Nat → Int32) (x : Int32) : dkF d (kup k 0 x) = [.ref (d 0), .ref (d 1), .ref (d 2), .int x, .ref (d 3), .int (k 1), .ref (d 4), .int (k 2), .int (k 3)] := rfl
set_option maxHeartbeats 4000000 in
set_option maxRecDepth 100000 in
theorem x_column (l : Launch) (dC : Nat → ClassId) (dI : Nat → Nat → Nat) (q : Nat → ClassId) (h0 : Nat) (d : Nat → Nat) (k : Nat → Int32) (z : gS) (f : xF) (hI : xI q h0 d k z f) (p0 p1 p2 : Int32) (sz : Nat) : Met l yX11_column wsX11_column ({ frames := 2, cells := 0, slots := 0, locals := 42 }) (va_Pc [.ref h0, .int p0, .int p1, .int p2] (fun U => U.heap.size = sz ∧ PX dC dI (va_pl z.1 f) (xT q) U ∧ va_D (fun _ => True) (va_pl z.1 f))) (va_Qi (fun (r : Int32) (w : xU) => w.1 = k ∧ w.2.1 = z ∧ xI q h0 d k z w.2.2) (fun (w : xU) t => va_P (dC, dI) vwCl (va_pl w.2.1.1 w.2.2) t.heap ∧ va_D (va_A (va_pl z.1 f) sz) (va_pl w.2.1.1 w.2.2)) (va_A (va_pl z.1 f) sz)) 0 0 (va_A (va_pl z.1 f) sz) := by
  refine Met.ofW (cc := cX11_column) (maxL := 4) (ret := (some .boolean)) (by decide) rfl ?_
  intro p e s m args below meth c s₁ B hml hv
  obtain ⟨rfl, hsz, ⟨⟨hP, hK, hN⟩, hXN⟩, hD0⟩ := hv
  have hx := B.exec
  have hb := B.bytes
  have hr := B.returns
  have hts := atoms_spec (ws := wsX11_column) B.pre
  have hown : s.vm.findClass RX11 = some m.cls := findClass_of_methodNamed B.named
  have hlocks := B.notSynchronized
  subst hsz
  have hD := hD0.self (sz := s.heap.size)
  generalize hAe : va_A (va_pl z.1 f) s.heap.size = A at hD ⊢
  have hA : ∀ q : Nat, s.heap.size ≤ q → A q := fun q h => by rw [← hAe]; exact Or.inr h
  have hS : va_S A s.heap s.heap [] := va_S.rf
  have hl := lv_entry ([.ref h0, .int p0, .int p1, .int p2]) (n := 4) (Nat.le_of_ble_eq_true rfl)
  rw [lg_entry_eq]
  generalize (lg_sl ([.ref h0, .int p0, .int p1, .int p2]) ++ List.replicate (4 - (lg_sl ([.ref h0, .int p0, .int p1, .int p2])).length) Slot.unset).toArray = ls at hl ⊢
  have hl : lv_has ls 4 [(0, .ref h0), (1, .int p0), (2, .int p1), (3, .int p2)] := hl
  refine lv_iload_n hx hb dX11_column_0 rfl (lv_at hl 1 rfl) ?_
  refine vp_callSi (va_runS (As := [.int p0]) (rest := []) ⟨hx, hb, hml, hown, hts⟩ (x_isPage l dC dI p0) (va_cwS 1 hts gX11_column_X11_isPage rfl rfl rfl (by decide +kernel) ⟨Nat.le_of_ble_eq_true rfl, Nat.le_of_ble_eq_true rfl⟩) ⟨pw_fb, fun U hU hW => ⟨rfl, pw_to hU hW (hP.sub (ws' := []) [] rfl) (hK.sub (tys' := []) [] rfl) hN⟩⟩ rfl rfl hl.1 rfl (lv_room (Nat.le_of_ble_eq_true rfl)) dX11_column_1 ⟨Nat.le_of_ble_eq_true rfl, Nat.le_of_ble_eq_true rfl⟩).run (fun r hw => ?_)
  rcases Bool.eq_false_or_eq_true (bw p0 0 11) with b_1 | b_1
  ·
    obtain rfl : r = 1 := b_t hw b_1
    refine lv_if_eq (tgt := 31) hx hb dX11_column_4 (by decide) (fun c_2 => absurd c_2 (by decide)) (fun c_2 => ?_)
    refine lv_iload_n hx hb dX11_column_7 rfl (lv_at hl 2 rfl) ?_
    refine vp_callSi (va_runS (As := [.int p1]) (rest := []) ⟨hx, hb, hml, hown, hts⟩ (x_isColumn l dC dI p1) (va_cwS 1 hts gX11_column_X11_isColumn rfl rfl rfl (by decide +kernel) ⟨Nat.le_of_ble_eq_true rfl, Nat.le_of_ble_eq_true rfl⟩) ⟨pw_fb, fun U hU hW => ⟨rfl, pw_to hU hW (hP.sub (ws' := []) [] rfl) (hK.sub (tys' := []) [] rfl) hN⟩⟩ rfl rfl hl.1 rfl (lv_room (Nat.le_of_ble_eq_true rfl)) dX11_column_8 ⟨Nat.le_of_ble_eq_true rfl, Nat.le_of_ble_eq_true rfl⟩).run (fun r hw => ?_)
    rcases Bool.eq_false_or_eq_true (bw p1 0 7) with b_3 | b_3
    ·
      obtain rfl : r = 1 := b_t hw b_3
      refine lv_if_eq (tgt := 31) hx hb dX11_column_11 (by decide) (fun c_4 => absurd c_4 (by decide)) (fun c_4 => ?_)
      refine lv_iload_n hx hb dX11_column_14 rfl (lv_at hl 3 rfl) ?_
      refine lv_iconst (v := 0) hx hb dX11_column_15 (by decide) ?_
      refine lv_bipush (v := 60) hx hb dX11_column_16 (by decide) ?_
      refine vp_callSi (va_runS (As := [.int p2, .int 0, .int 60]) (rest := []) ⟨hx, hb, hml, hown, hts⟩ (x_isWithin l dC dI p2 0 60) (va_cwS 3 hts gX11_column_X11_isWithin rfl rfl rfl (by decide +kernel) ⟨Nat.le_of_ble_eq_true rfl, Nat.le_of_ble_eq_true rfl⟩) ⟨pw_fb, fun U hU hW => ⟨rfl, pw_to hU hW (hP.sub (ws' := []) [] rfl) (hK.sub (tys' := []) [] rfl) hN⟩⟩ rfl rfl hl.1 rfl (lv_room (Nat.le_of_ble_eq_true rfl)) dX11_column_18 ⟨Nat.le_of_ble_eq_true rfl, Nat.le_of_ble_eq_true rfl⟩).run (fun r hw => ?_)
      rcases Bool.eq_false_or_eq_true (bw p2 0 60) with b_5 | b_5
      ·
        obtain rfl : r = 1 := b_t hw b_5
        refine lv_if_eq (tgt := 31) hx hb dX11_column_21 (by decide) (fun c_6 => absurd c_6 (by decide)) (fun c_6 => ?_)
        refine lv_aload_n hx hb dX11_column_24 rfl (lv_at hl 0 rfl) ?_
        obtain ⟨kk_7, hk_8⟩ := pl_at hI.2.1.1.1 hI.2.2.2.1.1
        refine va_get (D := (dC, dI)) (ci := 10) (v := .int (k 1)) (C := RX11) (T := TX11) (N := 9) hx hb hts (by decide +kernel) hown hK hP kk_7 hk_8 rfl 5 (by decide) (hts (.fieldLink RX11 34 "PageOne" "actCount" "I") (by decide +kernel)) (fun _ h9 => h9) rfl dX11_column_25 ?_
        refine lv_if_le (tgt := 33) hx hb dX11_column_28 (by decide) (fun c_9 => ?_) (fun c_9 => ?_)
        ·
          refine lv_aload_n hx hb dX11_column_33 rfl (lv_at hl 0 rfl) ?_
          obtain ⟨kk_10, hk_11⟩ := pl_at hI.2.1.1.1 hI.2.2.2.1.1
          refine va_get (D := (dC, dI)) (ci := 10) (v := .ref (d 0)) (C := RX11) (T := TX11) (N := 9) hx hb hts (by decide +kernel) hown hK hP kk_10 hk_11 rfl 0 (by decide) (hts (.fieldLink RX11 11 "PageOne" "pages" "[LPageOne$Sheet;") (by decide +kernel)) (fun _ h9 => h9) rfl dX11_column_34 ?_
          refine lv_iload_n hx hb dX11_column_37 rfl (lv_at hl 1 rfl) ?_
          obtain ⟨g_12, hs_13, hg_14⟩ := x_pg hI hI.2.1.2.1
          obtain ⟨kk_15, hk_16⟩ := pl_at hI.2.1.2.1.1 hs_13
          refine va_aldq hx hb hK hP kk_15 2 hk_16 rfl (vin b_1 (by decide)) dX11_column_38 ?_
          obtain ⟨b_17, hg_18, ht_19⟩ := hg_14 _ (vlt (vin b_1 (by decide)))
          rw [hg_18]
          refine W.eq (g2 := F0 m 39 ls [.ref b_17]) rfl ?_
          obtain ⟨la_20, ca_21, m_22, dd_23, ii_24, hs_25, ht_26, ht_27⟩ := x_sh hI ht_19
          obtain ⟨kk_28, hk_29⟩ := pl_at ht_19.1 hs_25
          refine va_get (D := (dC, dI)) (ci := 8) (v := .ref la_20) (C := RX9) (T := TX9) (N := 5) hx hb hts (by decide +kernel) hown hK hP kk_28 hk_29 rfl 0 (by decide) (hts (.fieldLink RX11 59 "PageOne$Sheet" "lines" "[I") (by decide +kernel)) (fun _ h9 => h9) rfl dX11_column_39 ?_
          refine lv_iload_n hx hb dX11_column_42 rfl (lv_at hl 2 rfl) ?_
          refine lv_iload_n hx hb dX11_column_43 rfl (lv_at hl 3 rfl) ?_
          obtain ⟨g_30, hs_31, hg_32⟩ := x_ln hI ht_26
          obtain ⟨kk_33, hk_34⟩ := pl_at ht_26.1 hs_31
          have hD0 := hD
          refine va_iast hx hb hK hP hD hS kk_33 0 hk_34 rfl (vin b_3 (by decide)) dX11_column_44 (fun H locs hP hD hS => ?_)
          rw [pl_set hD0 ht_26.1 hs_31 hk_34] at hP hD
          obtain ⟨f_35, ef_35⟩ : ∃ y : xF, y = va_up f la_20 (aI (q 0) 8 (upd g_30 (p1 : Int32).toNatClampNeg p2)) := ⟨_, rfl⟩
          have hI : xI q h0 d k z f_35 := by rw [ef_35]; exact x_up hI ht_26 (by decide) (cO_8 ht_26.2 ⟨_, rfl, ln_up hg_32 b_5⟩)
          have hP : va_P (dC, dI) vwCl (va_pl z.1 f_35) H := by rw [ef_35]; exact hP
          have hD : va_D A (va_pl z.1 f_35) := by rw [ef_35]; exact hD
          refine lv_iconst (v := 1) hx hb dX11_column_45 (by decide) ?_
          exact W.zret (v := 1) hx hb hr (by decide) (fun t ht hW => ⟨⟨1, (k, z, f_35), rfl, ⟨rfl, rfl, hI⟩, by rw [ht]; exact hP, hD⟩, hS.F ht⟩) hS.2.2 dX11_column_46
        ·
          refine lv_iconst (v := 0) hx hb dX11_column_31 (by decide) ?_
          exact W.zret (v := 0) hx hb hr (by decide) (fun t ht hW => ⟨⟨0, (k, z, f), rfl, ⟨rfl, rfl, hI⟩, by rw [ht]; exact hP, hD⟩, hS.F ht⟩) hS.2.2 dX11_column_32
      ·
        obtain rfl : r = 0 := b_f hw b_5
        refine lv_if_eq (tgt := 31) hx hb dX11_column_21 (by decide) (fun c_36 => ?_) (fun c_36 => absurd (by decide) c_36)
        refine lv_iconst (v := 0) hx hb dX11_column_31 (by decide) ?_
        exact W.zret (v := 0) hx hb hr (by decide) (fun t ht hW => ⟨⟨0, (k, z, f), rfl, ⟨rfl, rfl, hI⟩, by rw [ht]; exact hP, hD⟩, hS.F ht⟩) hS.2.2 dX11_column_32
    ·
      obtain rfl : r = 0 := b_f hw b_3
      refine lv_if_eq (tgt := 31) hx hb dX11_column_11 (by decide) (fun c_37 => ?_) (fun c_37 => absurd (by decide) c_37)
      refine lv_iconst (v := 0) hx hb dX11_column_31 (by decide) ?_
      exact W.zret (v := 0) hx hb hr (by decide) (fun t ht hW => ⟨⟨0, (k, z, f), rfl, ⟨rfl, rfl, hI⟩, by rw [ht]; exact hP, hD⟩, hS.F ht⟩) hS.2.2 dX11_column_32
  ·
    obtain rfl : r = 0 := b_f hw b_1
    refine lv_if_eq (tgt := 31) hx hb dX11_column_4 (by decide) (fun c_38 => ?_) (fun c_38 => absurd (by decide) c_38)
    refine lv_iconst (v := 0) hx hb dX11_column_31 (by decide) ?_
    exact W.zret (v := 0) hx hb hr (by decide) (fun t ht hW => ⟨⟨0, (k, z, f), rfl, ⟨rfl, rfl, hI⟩, by rw [ht]; exact hP, hD⟩, hS.F ht⟩) hS.2.2 dX11_column_32
set_option maxHeartbeats 4000000 in
set_option maxRecDepth 100000 in
theorem x_measure (l : Launch) (dC : Nat → ClassId) (dI : Nat → Nat → Nat) (q : Nat → ClassId) (h0 : Nat) (d : Nat → Nat) (k : Nat → Int32) (z : gS) (f : xF) (hI : xI q h0 d k z f) (p0 p1 : Int32) (sz : Nat) : Met l yX11_measure wsX11_measure ({ frames := 2, cells := 0, slots := 0, locals := 42 }) (va_Pc [.ref h0, .int p0, .int p1] (fun U => U.heap.size = sz ∧ PX dC dI (va_pl z.1 f) (xT q) U ∧ va_D (fun _ => True) (va_pl z.1 f))) (va_Qi (fun (r : Int32) (w : xU) => w.1 = k ∧ w.2.1 = z ∧ xI q h0 d k z w.2.2) (fun (w : xU) t => va_P (dC, dI) vwCl (va_pl w.2.1.1 w.2.2) t.heap ∧ va_D (va_A (va_pl z.1 f) sz) (va_pl w.2.1.1 w.2.2)) (va_A (va_pl z.1 f) sz)) 0 0 (va_A (va_pl z.1 f) sz) := by
  refine Met.ofW (cc := cX11_measure) (maxL := 3) (ret := (some .boolean)) (by decide) rfl ?_
  intro p e s m args below meth c s₁ B hml hv
  obtain ⟨rfl, hsz, ⟨⟨hP, hK, hN⟩, hXN⟩, hD0⟩ := hv
  have hx := B.exec
  have hb := B.bytes
  have hr := B.returns
  have hts := atoms_spec (ws := wsX11_measure) B.pre
  have hown : s.vm.findClass RX11 = some m.cls := findClass_of_methodNamed B.named
  have hlocks := B.notSynchronized
  subst hsz
  have hD := hD0.self (sz := s.heap.size)
  generalize hAe : va_A (va_pl z.1 f) s.heap.size = A at hD ⊢
  have hA : ∀ q : Nat, s.heap.size ≤ q → A q := fun q h => by rw [← hAe]; exact Or.inr h
  have hS : va_S A s.heap s.heap [] := va_S.rf
  have hl := lv_entry ([.ref h0, .int p0, .int p1]) (n := 3) (Nat.le_of_ble_eq_true rfl)
  rw [lg_entry_eq]
  generalize (lg_sl ([.ref h0, .int p0, .int p1]) ++ List.replicate (3 - (lg_sl ([.ref h0, .int p0, .int p1])).length) Slot.unset).toArray = ls at hl ⊢
  have hl : lv_has ls 3 [(0, .ref h0), (1, .int p0), (2, .int p1)] := hl
  refine lv_iload_n hx hb dX11_measure_0 rfl (lv_at hl 1 rfl) ?_
  refine vp_callSi (va_runS (As := [.int p0]) (rest := []) ⟨hx, hb, hml, hown, hts⟩ (x_isPage l dC dI p0) (va_cwS 1 hts gX11_measure_X11_isPage rfl rfl rfl (by decide +kernel) ⟨Nat.le_of_ble_eq_true rfl, Nat.le_of_ble_eq_true rfl⟩) ⟨pw_fb, fun U hU hW => ⟨rfl, pw_to hU hW (hP.sub (ws' := []) [] rfl) (hK.sub (tys' := []) [] rfl) hN⟩⟩ rfl rfl hl.1 rfl (lv_room (Nat.le_of_ble_eq_true rfl)) dX11_measure_1 ⟨Nat.le_of_ble_eq_true rfl, Nat.le_of_ble_eq_true rfl⟩).run (fun r hw => ?_)
  rcases Bool.eq_false_or_eq_true (bw p0 0 11) with b_1 | b_1
  ·
    obtain rfl : r = 1 := b_t hw b_1
    refine lv_if_eq (tgt := 25) hx hb dX11_measure_4 (by decide) (fun c_2 => absurd c_2 (by decide)) (fun c_2 => ?_)
    refine lv_iload_n hx hb dX11_measure_7 rfl (lv_at hl 2 rfl) ?_
    refine lv_iconst (v := 1) hx hb dX11_measure_8 (by decide) ?_
    refine lv_sipush (v := 200) hx hb dX11_measure_9 (by decide) ?_
    refine vp_callSi (va_runS (As := [.int p1, .int 1, .int 200]) (rest := []) ⟨hx, hb, hml, hown, hts⟩ (x_isWithin l dC dI p1 1 200) (va_cwS 3 hts gX11_measure_X11_isWithin rfl rfl rfl (by decide +kernel) ⟨Nat.le_of_ble_eq_true rfl, Nat.le_of_ble_eq_true rfl⟩) ⟨pw_fb, fun U hU hW => ⟨rfl, pw_to hU hW (hP.sub (ws' := []) [] rfl) (hK.sub (tys' := []) [] rfl) hN⟩⟩ rfl rfl hl.1 rfl (lv_room (Nat.le_of_ble_eq_true rfl)) dX11_measure_12 ⟨Nat.le_of_ble_eq_true rfl, Nat.le_of_ble_eq_true rfl⟩).run (fun r hw => ?_)
    rcases Bool.eq_false_or_eq_true (bw p1 1 200) with b_3 | b_3
    ·
      obtain rfl : r = 1 := b_t hw b_3
      refine lv_if_eq (tgt := 25) hx hb dX11_measure_15 (by decide) (fun c_4 => absurd c_4 (by decide)) (fun c_4 => ?_)
      refine lv_aload_n hx hb dX11_measure_18 rfl (lv_at hl 0 rfl) ?_
      obtain ⟨kk_5, hk_6⟩ := pl_at hI.2.1.1.1 hI.2.2.2.1.1
      refine va_get (D := (dC, dI)) (ci := 10) (v := .int (k 1)) (C := RX11) (T := TX11) (N := 9) hx hb hts (by decide +kernel) hown hK hP kk_5 hk_6 rfl 5 (by decide) (hts (.fieldLink RX11 34 "PageOne" "actCount" "I") (by decide +kernel)) (fun _ h9 => h9) rfl dX11_measure_19 ?_
      refine lv_if_le (tgt := 27) hx hb dX11_measure_22 (by decide) (fun c_7 => ?_) (fun c_7 => ?_)
      ·
        refine lv_aload_n hx hb dX11_measure_27 rfl (lv_at hl 0 rfl) ?_
        obtain ⟨kk_8, hk_9⟩ := pl_at hI.2.1.1.1 hI.2.2.2.1.1
        refine va_get (D := (dC, dI)) (ci := 10) (v := .ref (d 0)) (C := RX11) (T := TX11) (N := 9) hx hb hts (by decide +kernel) hown hK hP kk_8 hk_9 rfl 0 (by decide) (hts (.fieldLink RX11 11 "PageOne" "pages" "[LPageOne$Sheet;") (by decide +kernel)) (fun _ h9 => h9) rfl dX11_measure_28 ?_
        refine lv_iload_n hx hb dX11_measure_31 rfl (lv_at hl 1 rfl) ?_
        obtain ⟨g_10, hs_11, hg_12⟩ := x_pg hI hI.2.1.2.1
        obtain ⟨kk_13, hk_14⟩ := pl_at hI.2.1.2.1.1 hs_11
        refine va_aldq hx hb hK hP kk_13 2 hk_14 rfl (vin b_1 (by decide)) dX11_measure_32 ?_
        obtain ⟨b_15, hg_16, ht_17⟩ := hg_12 _ (vlt (vin b_1 (by decide)))
        rw [hg_16]
        refine W.eq (g2 := F0 m 33 ls [.ref b_15]) rfl ?_
        refine lv_iload_n hx hb dX11_measure_33 rfl (lv_at hl 2 rfl) ?_
        obtain ⟨la_18, ca_19, m_20, dd_21, ii_22, hs_23, ht_24, ht_25⟩ := x_sh hI ht_17
        obtain ⟨kk_26, hk_27⟩ := pl_at ht_17.1 hs_23
        have hD0 := hD
        refine va_put (D := (dC, dI)) (ci := 8) (v := .int p1) (ty := .int) (C := RX9) (T := TX9) (N := 5) hx hb hts (by decide +kernel) tyX9 tyX9_ok nmX9 hown hK hP hD hS kk_26 hk_27 rfl 2 (by decide) (hts (.fieldLink RX11 63 "PageOne$Sheet" "measure" "I") (by decide +kernel)) (fun _ h9 => h9) rfl (by decide +kernel) rfl rfl (Nat.le_of_ble_eq_true rfl) dX11_measure_34 (fun H locs hP hD hS => ?_)
        rw [pl_set hD0 ht_17.1 hs_23 hk_27] at hP hD
        obtain ⟨f_28, ef_28⟩ : ∃ y : xF, y = va_up f b_15 (.inr (8, [.ref la_18, .ref ca_19, .int p1, .int dd_21, .int ii_22])) := ⟨_, rfl⟩
        have hI : xI q h0 d k z f_28 := by rw [ef_28]; exact x_up hI ht_17 (by decide) (cO_7 ht_17.2 ⟨_, _, _, _, _, rfl, ht_24, ht_25⟩)
        have hP : va_P (dC, dI) vwCl (va_pl z.1 f_28) H := by rw [ef_28]; exact hP
        have hD : va_D A (va_pl z.1 f_28) := by rw [ef_28]; exact hD
        refine lv_iconst (v := 1) hx hb dX11_measure_37 (by decide) ?_
        exact W.zret (v := 1) hx hb hr (by decide) (fun t ht hW => ⟨⟨1, (k, z, f_28), rfl, ⟨rfl, rfl, hI⟩, by rw [ht]; exact hP, hD⟩, hS.F ht⟩) hS.2.2 dX11_measure_38
      ·
        refine lv_iconst (v := 0) hx hb dX11_measure_25 (by decide) ?_
        exact W.zret (v := 0) hx hb hr (by decide) (fun t ht hW => ⟨⟨0, (k, z, f), rfl, ⟨rfl, rfl, hI⟩, by rw [ht]; exact hP, hD⟩, hS.F ht⟩) hS.2.2 dX11_measure_26
    ·
      obtain rfl : r = 0 := b_f hw b_3
      refine lv_if_eq (tgt := 25) hx hb dX11_measure_15 (by decide) (fun c_29 => ?_) (fun c_29 => absurd (by decide) c_29)
      refine lv_iconst (v := 0) hx hb dX11_measure_25 (by decide) ?_
      exact W.zret (v := 0) hx hb hr (by decide) (fun t ht hW => ⟨⟨0, (k, z, f), rfl, ⟨rfl, rfl, hI⟩, by rw [ht]; exact hP, hD⟩, hS.F ht⟩) hS.2.2 dX11_measure_26
  ·
    obtain rfl : r = 0 := b_f hw b_1
    refine lv_if_eq (tgt := 25) hx hb dX11_measure_4 (by decide) (fun c_30 => ?_) (fun c_30 => absurd (by decide) c_30)
    refine lv_iconst (v := 0) hx hb dX11_measure_25 (by decide) ?_
    exact W.zret (v := 0) hx hb hr (by decide) (fun t ht hW => ⟨⟨0, (k, z, f), rfl, ⟨rfl, rfl, hI⟩, by rw [ht]; exact hP, hD⟩, hS.F ht⟩) hS.2.2 dX11_measure_26
set_option maxHeartbeats 4000000 in
set_option maxRecDepth 100000 in
theorem x_line (l : Launch) (dC : Nat → ClassId) (dI : Nat → Nat → Nat) (q : Nat → ClassId) (h0 : Nat) (d : Nat → Nat) (k : Nat → Int32) (z : gS) (f : xF) (hI : xI q h0 d k z f) (p0 p1 : Int32) (sz : Nat) : Met l yX11_line wsX11_line ({ frames := 2, cells := 0, slots := 0, locals := 43 }) (va_Pc [.ref h0, .int p0, .int p1] (fun U => U.heap.size = sz ∧ PX dC dI (va_pl z.1 f) (xT q) U ∧ va_D (fun _ => True) (va_pl z.1 f))) (va_Qi (fun (r : Int32) (w : xU) => w.1 = k ∧ w.2.1 = z ∧ xI q h0 d k z w.2.2) (fun (w : xU) t => va_P (dC, dI) vwCl (va_pl w.2.1.1 w.2.2) t.heap ∧ va_D (va_A (va_pl z.1 f) sz) (va_pl w.2.1.1 w.2.2)) (va_A (va_pl z.1 f) sz)) 0 0 (va_A (va_pl z.1 f) sz) := by
  refine Met.ofW (cc := cX11_line) (maxL := 5) (ret := (some .int)) (by decide) rfl ?_
  intro p e s m args below meth c s₁ B hml hv
  obtain ⟨rfl, hsz, ⟨⟨hP, hK, hN⟩, hXN⟩, hD0⟩ := hv
  have hx := B.exec
  have hb := B.bytes
  have hr := B.returns
  have hts := atoms_spec (ws := wsX11_line) B.pre
  have hown : s.vm.findClass RX11 = some m.cls := findClass_of_methodNamed B.named
  have hlocks := B.notSynchronized
  subst hsz
  have hD := hD0.self (sz := s.heap.size)
  generalize hAe : va_A (va_pl z.1 f) s.heap.size = A at hD ⊢
  have hA : ∀ q : Nat, s.heap.size ≤ q → A q := fun q h => by rw [← hAe]; exact Or.inr h
  have hS : va_S A s.heap s.heap [] := va_S.rf
  have hl := lv_entry ([.ref h0, .int p0, .int p1]) (n := 5) (Nat.le_of_ble_eq_true rfl)
  rw [lg_entry_eq]
  generalize (lg_sl ([.ref h0, .int p0, .int p1]) ++ List.replicate (5 - (lg_sl ([.ref h0, .int p0, .int p1])).length) Slot.unset).toArray = ls at hl ⊢
  have hl : lv_has ls 5 [(0, .ref h0), (1, .int p0), (2, .int p1)] := hl
  refine lv_aload_n hx hb dX11_line_0 rfl (lv_at hl 0 rfl) ?_
  refine lv_iload_n hx hb dX11_line_1 rfl (lv_at hl 1 rfl) ?_
  obtain ⟨kk_1, hk_2⟩ := pl_at hI.2.1.1.1 hI.2.2.2.1.1
  refine va_csq (va_runV (As := [.int p0]) (rest := []) ⟨hx, hb, hml, hown, hts⟩ (x_itemOf l dC dI q h0 d k z f hI p0) (cwV 1 hts gX11_line_X11_itemOf rfl rfl rfl (by decide +kernel) ⟨Nat.le_of_ble_eq_true rfl, Nat.le_of_ble_eq_true rfl⟩) ⟨px_fb, va_recv hK hP (ci := 10) (q0 := kk_1) rfl hk_2, fun U hU hW => ⟨rfl, px_to hU hW hP hK hN hXN⟩⟩ rfl rfl hl.1 rfl (lv_room (Nat.le_of_ble_eq_true rfl)) dX11_line_2 ⟨Nat.le_of_ble_eq_true rfl, Nat.le_of_ble_eq_true rfl⟩).run (fun r hw => ?_)
  rcases r with _ | b_3
  ·
    refine W.eq (g2 := F0 m 5 ls [.null]) rfl ?_
    refine lv_astoreN (lv' := [(4, .null), (0, .ref h0), (1, .int p0), (2, .int p1)]) hx hb dX11_line_5 hl (by decide) rfl (fun ls hl => ?_)
    refine lv_aloadN hx hb dX11_line_7 (lv_at hl 0 rfl) ?_
    refine lv_instN hx hb dX11_line_9 ?_
    refine lv_if_eq (tgt := 32) hx hb dX11_line_12 (by decide) (fun c_5 => ?_) (fun c_5 => absurd (by decide) c_5)
    refine lv_iconst (v := (-1)) hx hb dX11_line_32 (by decide) ?_
    exact W.iret (v := (-1)) hx hb hr (fun t ht hW => ⟨⟨(-1), (k, z, f), rfl, ⟨rfl, rfl, hI⟩, by rw [ht]; exact hP, hD⟩, hS.F ht⟩) hS.2.2 dX11_line_33
  ·
    have ht_4 := hw b_3 rfl
    refine W.eq (g2 := F0 m 5 ls [.ref b_3]) rfl ?_
    refine lv_astore (lv' := [(4, .ref b_3), (0, .ref h0), (1, .int p0), (2, .int p1)]) hx hb dX11_line_5 hl (by decide) rfl (fun ls hl => ?_)
    refine lv_aload hx hb dX11_line_7 (lv_at hl 0 rfl) ?_
    rcases Classical.em (tg z b_3 15) with ht9 | ht9
    ·
      have ht_6 := ht9
      obtain ⟨nu_8, kd_9, cn_10, pa_11, fa_12, l_13, co_14, wd_15, nm_16, hs_17, hs_18, hs_19, hs_20, hq_21, hq_22, hq_23⟩ := x_ist hI ht_6
      obtain ⟨kk_24, hk_25⟩ := pl_at ht_6.1 hs_17
      refine va_instS hx hb hown (hts (.classLink RX11 66 "PageOne$Story") (by decide +kernel)) (hK.1 9 (RX10, TX10, 9) rfl).2 (va_recv hK hP (ci := 9) (q0 := kk_24) rfl hk_25) dX11_line_9 ?_
      refine lv_if_eq (tgt := 32) hx hb dX11_line_12 (by decide) (fun c_26 => absurd c_26 (by decide)) (fun c_26 => ?_)
      refine lv_aload hx hb dX11_line_15 (lv_at hl 0 rfl) ?_
      obtain ⟨kk_27, hk_28⟩ := pl_at ht_6.1 hs_17
      refine va_castS hx hb hown (hts (.classLink RX11 66 "PageOne$Story") (by decide +kernel)) (hK.1 9 (RX10, TX10, 9) rfl).2 (va_recv hK hP (ci := 9) (q0 := kk_27) rfl hk_28) dX11_line_17 ?_
      refine lv_astore_n (lv' := [(3, .ref b_3), (4, .ref b_3), (0, .ref h0), (1, .int p0), (2, .int p1)]) hx hb dX11_line_20 rfl hl (by decide) rfl (fun ls hl => ?_)
      refine lv_iload_n hx hb dX11_line_21 rfl (lv_at hl 4 rfl) ?_
      refine lv_iconst (v := 1) hx hb dX11_line_22 (by decide) ?_
      refine lv_sipush (v := 200) hx hb dX11_line_23 (by decide) ?_
      refine vp_callSi (va_runS (As := [.int p1, .int 1, .int 200]) (rest := []) ⟨hx, hb, hml, hown, hts⟩ (x_isWithin l dC dI p1 1 200) (va_cwS 3 hts gX11_line_X11_isWithin rfl rfl rfl (by decide +kernel) ⟨Nat.le_of_ble_eq_true rfl, Nat.le_of_ble_eq_true rfl⟩) ⟨pw_fb, fun U hU hW => ⟨rfl, pw_to hU hW (hP.sub (ws' := []) [] rfl) (hK.sub (tys' := []) [] rfl) hN⟩⟩ rfl rfl hl.1 rfl (lv_room (Nat.le_of_ble_eq_true rfl)) dX11_line_26 ⟨Nat.le_of_ble_eq_true rfl, Nat.le_of_ble_eq_true rfl⟩).run (fun r hw => ?_)
      rcases Bool.eq_false_or_eq_true (bw p1 1 200) with b_29 | b_29
      ·
        obtain rfl : r = 1 := b_t hw b_29
        refine lv_if_ne (tgt := 34) hx hb dX11_line_29 (by decide) (fun c_30 => ?_) (fun c_30 => absurd c_30 (by decide))
        refine lv_aload_n hx hb dX11_line_34 rfl (lv_at hl 0 rfl) ?_
        refine lv_iload_n hx hb dX11_line_35 rfl (lv_at hl 4 rfl) ?_
        obtain ⟨kk_31, hk_32⟩ := pl_at ht_6.1 hs_17
        have hFc := fr_all hD hS hA
        refine va_calli (va_runV (As := [.int p1]) (rest := []) ⟨hx, hb, hml, hown, hts⟩ (x_takeIn l dC dI q h0 d k z f hI b_3 p1 ht_6 s.heap.size) (cwV 1 hts gX11_line_X10_takeIn rfl rfl rfl (by decide +kernel) ⟨Nat.le_of_ble_eq_true rfl, Nat.le_of_ble_eq_true rfl⟩) ⟨gx_fb, va_recv hK hP (ci := 9) (q0 := kk_31) rfl hk_32, fun U hU hW => ⟨rfl, by rw [hU], px_to hU hW hP hK hN hXN, hD.weaken (fun _ _ _ _ => trivial)⟩⟩ rfl rfl hl.1 rfl (lv_room (Nat.le_of_ble_eq_true rfl)) dX11_line_36 ⟨Nat.le_of_ble_eq_true rfl, Nat.le_of_ble_eq_true rfl⟩) hS (fun q _ h => hFc q h) hFc (fun r w_33 t H1 locs ht hvm hw hB hz1 hk1 hS => ?_)
        obtain ⟨hP, hD1⟩ := hB
        rw [ht] at hP
        rw [hw.2.1] at hP hD1
        have hD := hD1.weaken (fun _ q _ h => hFc q.1 h)
        have hI := hw.2.2
        have hw0 := hw
        generalize w_33.2.2 = f_34 at hP hD hI hw0
        generalize H1 = H at hP hS ⊢
        generalize r = zr_35 at hw ⊢
        exact W.iret (v := zr_35) hx hb hr (fun t ht hW => ⟨⟨zr_35, (k, z, f_34), rfl, ⟨rfl, rfl, hI⟩, by rw [ht]; exact hP, hD⟩, hS.F ht⟩) hS.2.2 dX11_line_39
      ·
        obtain rfl : r = 0 := b_f hw b_29
        refine lv_if_ne (tgt := 34) hx hb dX11_line_29 (by decide) (fun c_36 => absurd (by decide) c_36) (fun c_36 => ?_)
        refine lv_iconst (v := (-1)) hx hb dX11_line_32 (by decide) ?_
        exact W.iret (v := (-1)) hx hb hr (fun t ht hW => ⟨⟨(-1), (k, z, f), rfl, ⟨rfl, rfl, hI⟩, by rw [ht]; exact hP, hD⟩, hS.F ht⟩) hS.2.2 dX11_line_33
    ·
      have hn_7 := ht9
      refine w_then (F0 m 12 ls [.int 0]) (fun hgo => ?_) ?_
      ·
        rcases x_tag ht_4 with ht8 | ht8 | ht8 | ht8 | ht8 | ht8
        ·
          obtain ⟨nu_37, kd_38, cn_39, pa_40, fa_41, l_42, m_43, hs_44, hs_45, hs_46, hs_47⟩ := x_ifl hI ht8
          obtain ⟨kk_48, hk_49⟩ := pl_at ht8.1 hs_44
          exact va_instNo hx hb hown (hts (.classLink RX11 66 "PageOne$Story") (by decide +kernel)) hXN.n_X2_X10 (va_recv hK hP (ci := 2) (q0 := kk_48) rfl hk_49) dX11_line_9 hgo
        ·
          obtain ⟨nu_50, kd_51, cn_52, pa_53, fa_54, o_55, w_56, y_57, hs_58, hs_59, hs_60, hs_61, hq_62⟩ := x_ihd hI ht8
          obtain ⟨kk_63, hk_64⟩ := pl_at ht8.1 hs_58
          exact va_instNo hx hb hown (hts (.classLink RX11 66 "PageOne$Story") (by decide +kernel)) hXN.n_X3_X10 (va_recv hK hP (ci := 3) (q0 := kk_63) rfl hk_64) dX11_line_9 hgo
        ·
          obtain ⟨nu_65, kd_66, cn_67, pa_68, fa_69, o_70, y_71, hs_72, hs_73, hs_74, hs_75, hq_76⟩ := x_ino hI ht8
          obtain ⟨kk_77, hk_78⟩ := pl_at ht8.1 hs_72
          exact va_instNo hx hb hown (hts (.classLink RX11 66 "PageOne$Story") (by decide +kernel)) hXN.n_X5_X10 (va_recv hK hP (ci := 4) (q0 := kk_77) rfl hk_78) dX11_line_9 hgo
        ·
          obtain ⟨nu_79, kd_80, cn_81, pa_82, fa_83, b_84, pr_85, sp_86, dy_87, hs_88, hs_89, hs_90, hs_91, hq_92, hq_93, hq_94⟩ := x_ipd hI ht8
          obtain ⟨kk_95, hk_96⟩ := pl_at ht8.1 hs_88
          exact va_instNo hx hb hown (hts (.classLink RX11 66 "PageOne$Story") (by decide +kernel)) hXN.n_X6_X10 (va_recv hK hP (ci := 5) (q0 := kk_95) rfl hk_96) dX11_line_9 hgo
        ·
          obtain ⟨nu_97, kd_98, cn_99, pa_100, fa_101, ww_102, hh_103, sz_104, hs_105, hs_106, hs_107, hs_108, hq_109, hq_110, hq_111⟩ := x_ipi hI ht8
          obtain ⟨kk_112, hk_113⟩ := pl_at ht8.1 hs_105
          exact va_instNo hx hb hown (hts (.classLink RX11 66 "PageOne$Story") (by decide +kernel)) hXN.n_X7_X10 (va_recv hK hP (ci := 6) (q0 := kk_112) rfl hk_113) dX11_line_9 hgo
        ·
          exact absurd ht8 ht9
      ·
        refine lv_if_eq (tgt := 32) hx hb dX11_line_12 (by decide) (fun c_114 => ?_) (fun c_114 => absurd (by decide) c_114)
        refine lv_iconst (v := (-1)) hx hb dX11_line_32 (by decide) ?_
        exact W.iret (v := (-1)) hx hb hr (fun t ht hW => ⟨⟨(-1), (k, z, f), rfl, ⟨rfl, rfl, hI⟩, by rw [ht]; exact hP, hD⟩, hS.F ht⟩) hS.2.2 dX11_line_33
set_option maxHeartbeats 4000000 in
set_option maxRecDepth 100000 in
theorem x_size (l : Launch) (dC : Nat → ClassId) (dI : Nat → Nat → Nat) (q : Nat → ClassId) (h0 : Nat) (d : Nat → Nat) (k : Nat → Int32) (z : gS) (f : xF) (hI : xI q h0 d k z f) (p0 p1 p2 : Int32) (sz : Nat) : Met l yX11_size wsX11_size ({ frames := 2, cells := 0, slots := 0, locals := 43 }) (va_Pc [.ref h0, .int p0, .int p1, .int p2] (fun U => U.heap.size = sz ∧ PX dC dI (va_pl z.1 f) (xT q) U ∧ va_D (fun _ => True) (va_pl z.1 f))) (va_Qi (fun (r : Int32) (w : xU) => w.1 = k ∧ w.2.1 = z ∧ xI q h0 d k z w.2.2) (fun (w : xU) t => va_P (dC, dI) vwCl (va_pl w.2.1.1 w.2.2) t.heap ∧ va_D (va_A (va_pl z.1 f) sz) (va_pl w.2.1.1 w.2.2)) (va_A (va_pl z.1 f) sz)) 0 0 (va_A (va_pl z.1 f) sz) := by
  refine Met.ofW (cc := cX11_size) (maxL := 6) (ret := (some .int)) (by decide) rfl ?_
  intro p e s m args below meth c s₁ B hml hv
  obtain ⟨rfl, hsz, ⟨⟨hP, hK, hN⟩, hXN⟩, hD0⟩ := hv
  have hx := B.exec
  have hb := B.bytes
  have hr := B.returns
  have hts := atoms_spec (ws := wsX11_size) B.pre
  have hown : s.vm.findClass RX11 = some m.cls := findClass_of_methodNamed B.named
  have hlocks := B.notSynchronized
  subst hsz
  have hD := hD0.self (sz := s.heap.size)
  generalize hAe : va_A (va_pl z.1 f) s.heap.size = A at hD ⊢
  have hA : ∀ q : Nat, s.heap.size ≤ q → A q := fun q h => by rw [← hAe]; exact Or.inr h
  have hS : va_S A s.heap s.heap [] := va_S.rf
  have hl := lv_entry ([.ref h0, .int p0, .int p1, .int p2]) (n := 6) (Nat.le_of_ble_eq_true rfl)
  rw [lg_entry_eq]
  generalize (lg_sl ([.ref h0, .int p0, .int p1, .int p2]) ++ List.replicate (6 - (lg_sl ([.ref h0, .int p0, .int p1, .int p2])).length) Slot.unset).toArray = ls at hl ⊢
  have hl : lv_has ls 6 [(0, .ref h0), (1, .int p0), (2, .int p1), (3, .int p2)] := hl
  refine lv_aload_n hx hb dX11_size_0 rfl (lv_at hl 0 rfl) ?_
  refine lv_iload_n hx hb dX11_size_1 rfl (lv_at hl 1 rfl) ?_
  obtain ⟨kk_1, hk_2⟩ := pl_at hI.2.1.1.1 hI.2.2.2.1.1
  refine va_csq (va_runV (As := [.int p0]) (rest := []) ⟨hx, hb, hml, hown, hts⟩ (x_itemOf l dC dI q h0 d k z f hI p0) (cwV 1 hts gX11_size_X11_itemOf rfl rfl rfl (by decide +kernel) ⟨Nat.le_of_ble_eq_true rfl, Nat.le_of_ble_eq_true rfl⟩) ⟨px_fb, va_recv hK hP (ci := 10) (q0 := kk_1) rfl hk_2, fun U hU hW => ⟨rfl, px_to hU hW hP hK hN hXN⟩⟩ rfl rfl hl.1 rfl (lv_room (Nat.le_of_ble_eq_true rfl)) dX11_size_2 ⟨Nat.le_of_ble_eq_true rfl, Nat.le_of_ble_eq_true rfl⟩).run (fun r hw => ?_)
  rcases r with _ | b_3
  ·
    refine W.eq (g2 := F0 m 5 ls [.null]) rfl ?_
    refine lv_astoreN (lv' := [(5, .null), (0, .ref h0), (1, .int p0), (2, .int p1), (3, .int p2)]) hx hb dX11_size_5 hl (by decide) rfl (fun ls hl => ?_)
    refine lv_aloadN hx hb dX11_size_7 (lv_at hl 0 rfl) ?_
    refine lv_instN hx hb dX11_size_9 ?_
    refine lv_if_eq (tgt := 30) hx hb dX11_size_12 (by decide) (fun c_5 => ?_) (fun c_5 => absurd (by decide) c_5)
    refine lv_iconst (v := (-1)) hx hb dX11_size_30 (by decide) ?_
    exact W.iret (v := (-1)) hx hb hr (fun t ht hW => ⟨⟨(-1), (k, z, f), rfl, ⟨rfl, rfl, hI⟩, by rw [ht]; exact hP, hD⟩, hS.F ht⟩) hS.2.2 dX11_size_31
  ·
    have ht_4 := hw b_3 rfl
    refine W.eq (g2 := F0 m 5 ls [.ref b_3]) rfl ?_
    refine lv_astore (lv' := [(5, .ref b_3), (0, .ref h0), (1, .int p0), (2, .int p1), (3, .int p2)]) hx hb dX11_size_5 hl (by decide) rfl (fun ls hl => ?_)
    refine lv_aload hx hb dX11_size_7 (lv_at hl 0 rfl) ?_
    rcases Classical.em (tg z b_3 14) with ht9 | ht9
    ·
      have ht_6 := ht9
      obtain ⟨nu_8, kd_9, cn_10, pa_11, fa_12, ww_13, hh_14, sz_15, hs_16, hs_17, hs_18, hs_19, hq_20, hq_21, hq_22⟩ := x_ipi hI ht_6
      obtain ⟨kk_23, hk_24⟩ := pl_at ht_6.1 hs_16
      refine va_instS hx hb hown (hts (.classLink RX11 88 "PageOne$Picture") (by decide +kernel)) (hK.1 6 (RX7, TX7, 8) rfl).2 (va_recv hK hP (ci := 6) (q0 := kk_23) rfl hk_24) dX11_size_9 ?_
      refine lv_if_eq (tgt := 30) hx hb dX11_size_12 (by decide) (fun c_25 => absurd c_25 (by decide)) (fun c_25 => ?_)
      refine lv_aload hx hb dX11_size_15 (lv_at hl 0 rfl) ?_
      obtain ⟨kk_26, hk_27⟩ := pl_at ht_6.1 hs_16
      refine va_castS hx hb hown (hts (.classLink RX11 88 "PageOne$Picture") (by decide +kernel)) (hK.1 6 (RX7, TX7, 8) rfl).2 (va_recv hK hP (ci := 6) (q0 := kk_26) rfl hk_27) dX11_size_17 ?_
      refine lv_astore (lv' := [(4, .ref b_3), (5, .ref b_3), (0, .ref h0), (1, .int p0), (2, .int p1), (3, .int p2)]) hx hb dX11_size_20 hl (by decide) rfl (fun ls hl => ?_)
      refine lv_iload_n hx hb dX11_size_22 rfl (lv_at hl 4 rfl) ?_
      refine lv_iload_n hx hb dX11_size_23 rfl (lv_at hl 5 rfl) ?_
      refine vp_callSi (va_runS (As := [.int p1, .int p2]) (rest := []) ⟨hx, hb, hml, hown, hts⟩ (x_isSquare l dC dI p1 p2) (va_cwS 2 hts gX11_size_X11_isSquare rfl rfl rfl (by decide +kernel) ⟨Nat.le_of_ble_eq_true rfl, Nat.le_of_ble_eq_true rfl⟩) ⟨pw_fb, fun U hU hW => ⟨rfl, pw_to hU hW (hP.sub (ws' := []) [] rfl) (hK.sub (tys' := []) [] rfl) hN⟩⟩ rfl rfl hl.1 rfl (lv_room (Nat.le_of_ble_eq_true rfl)) dX11_size_24 ⟨Nat.le_of_ble_eq_true rfl, Nat.le_of_ble_eq_true rfl⟩).run (fun r hw => ?_)
      rcases Bool.eq_false_or_eq_true ((bw p1 1 8 && bw p2 1 60)) with b_28 | b_28
      ·
        obtain rfl : r = 1 := b_t hw b_28
        refine lv_if_ne (tgt := 32) hx hb dX11_size_27 (by decide) (fun c_29 => ?_) (fun c_29 => absurd c_29 (by decide))
        refine lv_aload hx hb dX11_size_32 (lv_at hl 0 rfl) ?_
        refine lv_iload_n hx hb dX11_size_34 rfl (lv_at hl 4 rfl) ?_
        refine lv_iload_n hx hb dX11_size_35 rfl (lv_at hl 5 rfl) ?_
        obtain ⟨kk_30, hk_31⟩ := pl_at ht_6.1 hs_16
        have hFc := fr_all hD hS hA
        refine va_calli (va_runV (As := [.int p1, .int p2]) (rest := []) ⟨hx, hb, hml, hown, hts⟩ (x_takeSize l dC dI q h0 d k z f hI b_3 p1 p2 ht_6 s.heap.size) (cwV 2 hts gX11_size_X7_takeSize rfl rfl rfl (by decide +kernel) ⟨Nat.le_of_ble_eq_true rfl, Nat.le_of_ble_eq_true rfl⟩) ⟨gx_fb, va_recv hK hP (ci := 6) (q0 := kk_30) rfl hk_31, fun U hU hW => ⟨rfl, by rw [hU], px_to hU hW hP hK hN hXN, hD.weaken (fun _ _ _ _ => trivial)⟩⟩ rfl rfl hl.1 rfl (lv_room (Nat.le_of_ble_eq_true rfl)) dX11_size_36 ⟨Nat.le_of_ble_eq_true rfl, Nat.le_of_ble_eq_true rfl⟩) hS (fun q _ h => hFc q h) hFc (fun r w_32 t H1 locs ht hvm hw hB hz1 hk1 hS => ?_)
        obtain ⟨hP, hD1⟩ := hB
        rw [ht] at hP
        rw [hw.2.1] at hP hD1
        have hD := hD1.weaken (fun _ q _ h => hFc q.1 h)
        have hI := hw.2.2
        have hw0 := hw
        generalize w_32.2.2 = f_33 at hP hD hI hw0
        generalize H1 = H at hP hS ⊢
        generalize r = zr_34 at hw ⊢
        exact W.iret (v := zr_34) hx hb hr (fun t ht hW => ⟨⟨zr_34, (k, z, f_33), rfl, ⟨rfl, rfl, hI⟩, by rw [ht]; exact hP, hD⟩, hS.F ht⟩) hS.2.2 dX11_size_39
      ·
        obtain rfl : r = 0 := b_f hw b_28
        refine lv_if_ne (tgt := 32) hx hb dX11_size_27 (by decide) (fun c_35 => absurd (by decide) c_35) (fun c_35 => ?_)
        refine lv_iconst (v := (-1)) hx hb dX11_size_30 (by decide) ?_
        exact W.iret (v := (-1)) hx hb hr (fun t ht hW => ⟨⟨(-1), (k, z, f), rfl, ⟨rfl, rfl, hI⟩, by rw [ht]; exact hP, hD⟩, hS.F ht⟩) hS.2.2 dX11_size_31
    ·
      have hn_7 := ht9
      refine w_then (F0 m 12 ls [.int 0]) (fun hgo => ?_) ?_
      ·
        rcases x_tag ht_4 with ht8 | ht8 | ht8 | ht8 | ht8 | ht8
        ·
          obtain ⟨nu_36, kd_37, cn_38, pa_39, fa_40, l_41, m_42, hs_43, hs_44, hs_45, hs_46⟩ := x_ifl hI ht8
          obtain ⟨kk_47, hk_48⟩ := pl_at ht8.1 hs_43
          exact va_instNo hx hb hown (hts (.classLink RX11 88 "PageOne$Picture") (by decide +kernel)) hXN.n_X2_X7 (va_recv hK hP (ci := 2) (q0 := kk_47) rfl hk_48) dX11_size_9 hgo
        ·
          obtain ⟨nu_49, kd_50, cn_51, pa_52, fa_53, o_54, w_55, y_56, hs_57, hs_58, hs_59, hs_60, hq_61⟩ := x_ihd hI ht8
          obtain ⟨kk_62, hk_63⟩ := pl_at ht8.1 hs_57
          exact va_instNo hx hb hown (hts (.classLink RX11 88 "PageOne$Picture") (by decide +kernel)) hXN.n_X3_X7 (va_recv hK hP (ci := 3) (q0 := kk_62) rfl hk_63) dX11_size_9 hgo
        ·
          obtain ⟨nu_64, kd_65, cn_66, pa_67, fa_68, o_69, y_70, hs_71, hs_72, hs_73, hs_74, hq_75⟩ := x_ino hI ht8
          obtain ⟨kk_76, hk_77⟩ := pl_at ht8.1 hs_71
          exact va_instNo hx hb hown (hts (.classLink RX11 88 "PageOne$Picture") (by decide +kernel)) hXN.n_X5_X7 (va_recv hK hP (ci := 4) (q0 := kk_76) rfl hk_77) dX11_size_9 hgo
        ·
          obtain ⟨nu_78, kd_79, cn_80, pa_81, fa_82, b_83, pr_84, sp_85, dy_86, hs_87, hs_88, hs_89, hs_90, hq_91, hq_92, hq_93⟩ := x_ipd hI ht8
          obtain ⟨kk_94, hk_95⟩ := pl_at ht8.1 hs_87
          exact va_instNo hx hb hown (hts (.classLink RX11 88 "PageOne$Picture") (by decide +kernel)) hXN.n_X6_X7 (va_recv hK hP (ci := 5) (q0 := kk_94) rfl hk_95) dX11_size_9 hgo
        ·
          exact absurd ht8 ht9
        ·
          obtain ⟨nu_96, kd_97, cn_98, pa_99, fa_100, l_101, co_102, wd_103, nm_104, hs_105, hs_106, hs_107, hs_108, hq_109, hq_110, hq_111⟩ := x_ist hI ht8
          obtain ⟨kk_112, hk_113⟩ := pl_at ht8.1 hs_105
          exact va_instNo hx hb hown (hts (.classLink RX11 88 "PageOne$Picture") (by decide +kernel)) hXN.n_X10_X7 (va_recv hK hP (ci := 9) (q0 := kk_112) rfl hk_113) dX11_size_9 hgo
      ·
        refine lv_if_eq (tgt := 30) hx hb dX11_size_12 (by decide) (fun c_114 => ?_) (fun c_114 => absurd (by decide) c_114)
        refine lv_iconst (v := (-1)) hx hb dX11_size_30 (by decide) ?_
        exact W.iret (v := (-1)) hx hb hr (fun t ht hW => ⟨⟨(-1), (k, z, f), rfl, ⟨rfl, rfl, hI⟩, by rw [ht]; exact hP, hD⟩, hS.F ht⟩) hS.2.2 dX11_size_31
set_option maxHeartbeats 4000000 in
set_option maxRecDepth 100000 in
theorem x_rival (l : Launch) (dC : Nat → ClassId) (dI : Nat → Nat → Nat) (q : Nat → ClassId) (h0 : Nat) (d : Nat → Nat) (k : Nat → Int32) (z : gS) (f : xF) (hI : xI q h0 d k z f) (p0 p1 : Int32) (sz : Nat) : Met l yX11_rival wsX11_rival ({ frames := 2, cells := 0, slots := 0, locals := 42 }) (va_Pc [.ref h0, .int p0, .int p1] (fun U => U.heap.size = sz ∧ PX dC dI (va_pl z.1 f) (xT q) U ∧ va_D (fun _ => True) (va_pl z.1 f))) (va_Qi (fun (r : Int32) (w : xU) => w.1 = k ∧ w.2.1 = z ∧ xI q h0 d k z w.2.2) (fun (w : xU) t => va_P (dC, dI) vwCl (va_pl w.2.1.1 w.2.2) t.heap ∧ va_D (va_A (va_pl z.1 f) sz) (va_pl w.2.1.1 w.2.2)) (va_A (va_pl z.1 f) sz)) 0 0 (va_A (va_pl z.1 f) sz) := by
  refine Met.ofW (cc := cX11_rival) (maxL := 3) (ret := (some .boolean)) (by decide) rfl ?_
  intro p e s m args below meth c s₁ B hml hv
  obtain ⟨rfl, hsz, ⟨⟨hP, hK, hN⟩, hXN⟩, hD0⟩ := hv
  have hx := B.exec
  have hb := B.bytes
  have hr := B.returns
  have hts := atoms_spec (ws := wsX11_rival) B.pre
  have hown : s.vm.findClass RX11 = some m.cls := findClass_of_methodNamed B.named
  have hlocks := B.notSynchronized
  subst hsz
  have hD := hD0.self (sz := s.heap.size)
  generalize hAe : va_A (va_pl z.1 f) s.heap.size = A at hD ⊢
  have hA : ∀ q : Nat, s.heap.size ≤ q → A q := fun q h => by rw [← hAe]; exact Or.inr h
  have hS : va_S A s.heap s.heap [] := va_S.rf
  have hl := lv_entry ([.ref h0, .int p0, .int p1]) (n := 3) (Nat.le_of_ble_eq_true rfl)
  rw [lg_entry_eq]
  generalize (lg_sl ([.ref h0, .int p0, .int p1]) ++ List.replicate (3 - (lg_sl ([.ref h0, .int p0, .int p1])).length) Slot.unset).toArray = ls at hl ⊢
  have hl : lv_has ls 3 [(0, .ref h0), (1, .int p0), (2, .int p1)] := hl
  refine lv_iload_n hx hb dX11_rival_0 rfl (lv_at hl 1 rfl) ?_
  refine vp_callSi (va_runS (As := [.int p0]) (rest := []) ⟨hx, hb, hml, hown, hts⟩ (x_isBuyer l dC dI p0) (va_cwS 1 hts gX11_rival_X11_isBuyer rfl rfl rfl (by decide +kernel) ⟨Nat.le_of_ble_eq_true rfl, Nat.le_of_ble_eq_true rfl⟩) ⟨pw_fb, fun U hU hW => ⟨rfl, pw_to hU hW (hP.sub (ws' := []) [] rfl) (hK.sub (tys' := []) [] rfl) hN⟩⟩ rfl rfl hl.1 rfl (lv_room (Nat.le_of_ble_eq_true rfl)) dX11_rival_1 ⟨Nat.le_of_ble_eq_true rfl, Nat.le_of_ble_eq_true rfl⟩).run (fun r hw => ?_)
  rcases Bool.eq_false_or_eq_true (bw p0 0 9) with b_1 | b_1
  ·
    obtain rfl : r = 1 := b_t hw b_1
    refine lv_if_eq (tgt := 28) hx hb dX11_rival_4 (by decide) (fun c_2 => absurd c_2 (by decide)) (fun c_2 => ?_)
    refine lv_iload_n hx hb dX11_rival_7 rfl (lv_at hl 2 rfl) ?_
    refine vp_callSi (va_runS (As := [.int p1]) (rest := []) ⟨hx, hb, hml, hown, hts⟩ (x_isBuyer l dC dI p1) (va_cwS 1 hts gX11_rival_X11_isBuyer rfl rfl rfl (by decide +kernel) ⟨Nat.le_of_ble_eq_true rfl, Nat.le_of_ble_eq_true rfl⟩) ⟨pw_fb, fun U hU hW => ⟨rfl, pw_to hU hW (hP.sub (ws' := []) [] rfl) (hK.sub (tys' := []) [] rfl) hN⟩⟩ rfl rfl hl.1 rfl (lv_room (Nat.le_of_ble_eq_true rfl)) dX11_rival_8 ⟨Nat.le_of_ble_eq_true rfl, Nat.le_of_ble_eq_true rfl⟩).run (fun r hw => ?_)
    rcases Bool.eq_false_or_eq_true (bw p1 0 9) with b_3 | b_3
    ·
      obtain rfl : r = 1 := b_t hw b_3
      refine lv_if_eq (tgt := 28) hx hb dX11_rival_11 (by decide) (fun c_4 => absurd c_4 (by decide)) (fun c_4 => ?_)
      refine lv_iload_n hx hb dX11_rival_14 rfl (lv_at hl 1 rfl) ?_
      refine lv_iload_n hx hb dX11_rival_15 rfl (lv_at hl 2 rfl) ?_
      refine lv_icmp_eq (tgt := 28) hx hb dX11_rival_16 (by decide) (fun c_5 => ?_) (fun c_5 => ?_)
      ·
        refine lv_iconst (v := 0) hx hb dX11_rival_28 (by decide) ?_
        exact W.zret (v := 0) hx hb hr (by decide) (fun t ht hW => ⟨⟨0, (k, z, f), rfl, ⟨rfl, rfl, hI⟩, by rw [ht]; exact hP, hD⟩, hS.F ht⟩) hS.2.2 dX11_rival_29
      ·
        refine lv_aload_n hx hb dX11_rival_19 rfl (lv_at hl 0 rfl) ?_
        refine lv_iload_n hx hb dX11_rival_20 rfl (lv_at hl 1 rfl) ?_
        refine lv_iload_n hx hb dX11_rival_21 rfl (lv_at hl 2 rfl) ?_
        obtain ⟨kk_6, hk_7⟩ := pl_at hI.2.1.1.1 hI.2.2.2.1.1
        refine vp_callSi (va_runV (As := [.int p0, .int p1]) (rest := []) ⟨hx, hb, hml, hown, hts⟩ (x_areRivals l dC dI q h0 d k z f hI p0 p1 b_1 b_3) (cwV 2 hts gX11_rival_X11_areRivals rfl rfl rfl (by decide +kernel) ⟨Nat.le_of_ble_eq_true rfl, Nat.le_of_ble_eq_true rfl⟩) ⟨px_fb, va_recv hK hP (ci := 10) (q0 := kk_6) rfl hk_7, fun U hU hW => ⟨rfl, px_to hU hW hP hK hN hXN⟩⟩ rfl rfl hl.1 rfl (lv_room (Nat.le_of_ble_eq_true rfl)) dX11_rival_22 ⟨Nat.le_of_ble_eq_true rfl, Nat.le_of_ble_eq_true rfl⟩).run (fun r hw => ?_)
        rcases hw with hw | hw
        ·
          subst hw
          refine lv_if_eq (tgt := 30) hx hb dX11_rival_25 (by decide) (fun c_8 => ?_) (fun c_8 => absurd (by decide) c_8)
          refine lv_aload_n hx hb dX11_rival_30 rfl (lv_at hl 0 rfl) ?_
          obtain ⟨kk_9, hk_10⟩ := pl_at hI.2.1.1.1 hI.2.2.2.1.1
          refine va_get (D := (dC, dI)) (ci := 10) (v := .ref (d 4)) (C := RX11) (T := TX11) (N := 9) hx hb hts (by decide +kernel) hown hK hP kk_9 hk_10 rfl 6 (by decide) (hts (.fieldLink RX11 37 "PageOne" "rivals" "[Z") (by decide +kernel)) (fun _ h9 => h9) rfl dX11_rival_31 ?_
          refine lv_iload_n hx hb dX11_rival_34 rfl (lv_at hl 1 rfl) ?_
          refine lv_bipush (v := 10) hx hb dX11_rival_35 (by decide) ?_
          refine lv_imul hx hb dX11_rival_37 ?_
          refine lv_iload_n hx hb dX11_rival_38 rfl (lv_at hl 2 rfl) ?_
          refine lv_iadd hx hb dX11_rival_39 ?_
          refine lv_iconst (v := 1) hx hb dX11_rival_40 (by decide) ?_
          obtain ⟨g_11, hs_12, hz_13⟩ := x_ri hI hI.2.1.2.2.2.2.2
          obtain ⟨kk_14, hk_15⟩ := pl_at hI.2.1.2.2.2.2.2.1 hs_12
          have hD0 := hD
          refine va_zast hx hb hK hP hD hS kk_14 1 hk_15 rfl (vin2 b_1 b_3) dX11_rival_41 (fun H locs hP hD hS => ?_)
          rw [pl_set hD0 hI.2.1.2.2.2.2.2.1 hs_12 hk_15] at hP hD
          obtain ⟨f_16, ef_16⟩ : ∃ y : xF, y = va_up f (d 4) (aI (q 1) 100 (upd g_11 (((p0 * 10) + p1) : Int32).toNatClampNeg (vp_nar .boolean 1))) := ⟨_, rfl⟩
          have hI : xI q h0 d k z f_16 := by rw [ef_16]; exact x_up hI hI.2.1.2.2.2.2.2 (by decide) (cO_6 hI.2.1.2.2.2.2.2.2 ⟨_, rfl, z_up hz_13⟩)
          have hP : va_P (dC, dI) vwCl (va_pl z.1 f_16) H := by rw [ef_16]; exact hP
          have hD : va_D A (va_pl z.1 f_16) := by rw [ef_16]; exact hD
          refine lv_aload_n hx hb dX11_rival_42 rfl (lv_at hl 0 rfl) ?_
          obtain ⟨kk_17, hk_18⟩ := pl_at hI.2.1.1.1 hI.2.2.2.1.1
          refine va_get (D := (dC, dI)) (ci := 10) (v := .ref (d 4)) (C := RX11) (T := TX11) (N := 9) hx hb hts (by decide +kernel) hown hK hP kk_17 hk_18 rfl 6 (by decide) (hts (.fieldLink RX11 37 "PageOne" "rivals" "[Z") (by decide +kernel)) (fun _ h9 => h9) rfl dX11_rival_43 ?_
          refine lv_iload_n hx hb dX11_rival_46 rfl (lv_at hl 2 rfl) ?_
          refine lv_bipush (v := 10) hx hb dX11_rival_47 (by decide) ?_
          refine lv_imul hx hb dX11_rival_49 ?_
          refine lv_iload_n hx hb dX11_rival_50 rfl (lv_at hl 1 rfl) ?_
          refine lv_iadd hx hb dX11_rival_51 ?_
          refine lv_iconst (v := 1) hx hb dX11_rival_52 (by decide) ?_
          obtain ⟨g_19, hs_20, hz_21⟩ := x_ri hI hI.2.1.2.2.2.2.2
          obtain ⟨kk_22, hk_23⟩ := pl_at hI.2.1.2.2.2.2.2.1 hs_20
          have hD0 := hD
          refine va_zast hx hb hK hP hD hS kk_22 1 hk_23 rfl (vin2 b_3 b_1) dX11_rival_53 (fun H locs hP hD hS => ?_)
          rw [pl_set hD0 hI.2.1.2.2.2.2.2.1 hs_20 hk_23] at hP hD
          obtain ⟨f_24, ef_24⟩ : ∃ y : xF, y = va_up f_16 (d 4) (aI (q 1) 100 (upd g_19 (((p1 * 10) + p0) : Int32).toNatClampNeg (vp_nar .boolean 1))) := ⟨_, rfl⟩
          have hI : xI q h0 d k z f_24 := by rw [ef_24]; exact x_up hI hI.2.1.2.2.2.2.2 (by decide) (cO_6 hI.2.1.2.2.2.2.2.2 ⟨_, rfl, z_up hz_21⟩)
          have hP : va_P (dC, dI) vwCl (va_pl z.1 f_24) H := by rw [ef_24]; exact hP
          have hD : va_D A (va_pl z.1 f_24) := by rw [ef_24]; exact hD
          refine lv_iconst (v := 1) hx hb dX11_rival_54 (by decide) ?_
          exact W.zret (v := 1) hx hb hr (by decide) (fun t ht hW => ⟨⟨1, (k, z, f_24), rfl, ⟨rfl, rfl, hI⟩, by rw [ht]; exact hP, hD⟩, hS.F ht⟩) hS.2.2 dX11_rival_55
        ·
          subst hw
          refine lv_if_eq (tgt := 30) hx hb dX11_rival_25 (by decide) (fun c_25 => absurd c_25 (by decide)) (fun c_25 => ?_)
          refine lv_iconst (v := 0) hx hb dX11_rival_28 (by decide) ?_
          exact W.zret (v := 0) hx hb hr (by decide) (fun t ht hW => ⟨⟨0, (k, z, f), rfl, ⟨rfl, rfl, hI⟩, by rw [ht]; exact hP, hD⟩, hS.F ht⟩) hS.2.2 dX11_rival_29
    ·
      obtain rfl : r = 0 := b_f hw b_3
      refine lv_if_eq (tgt := 28) hx hb dX11_rival_11 (by decide) (fun c_26 => ?_) (fun c_26 => absurd (by decide) c_26)
      refine lv_iconst (v := 0) hx hb dX11_rival_28 (by decide) ?_
      exact W.zret (v := 0) hx hb hr (by decide) (fun t ht hW => ⟨⟨0, (k, z, f), rfl, ⟨rfl, rfl, hI⟩, by rw [ht]; exact hP, hD⟩, hS.F ht⟩) hS.2.2 dX11_rival_29
  ·
    obtain rfl : r = 0 := b_f hw b_1
    refine lv_if_eq (tgt := 28) hx hb dX11_rival_4 (by decide) (fun c_27 => ?_) (fun c_27 => absurd (by decide) c_27)
    refine lv_iconst (v := 0) hx hb dX11_rival_28 (by decide) ?_
    exact W.zret (v := 0) hx hb hr (by decide) (fun t ht hW => ⟨⟨0, (k, z, f), rfl, ⟨rfl, rfl, hI⟩, by rw [ht]; exact hP, hD⟩, hS.F ht⟩) hS.2.2 dX11_rival_29
set_option maxHeartbeats 4000000 in
set_option maxRecDepth 100000 in
theorem x_names (l : Launch) (dC : Nat → ClassId) (dI : Nat → Nat → Nat) (q : Nat → ClassId) (h0 : Nat) (d : Nat → Nat) (k : Nat → Int32) (z : gS) (f : xF) (hI : xI q h0 d k z f) (p0 p1 : Int32) (sz : Nat) : Met l yX11_names wsX11_names ({ frames := 2, cells := 0, slots := 0, locals := 43 }) (va_Pc [.ref h0, .int p0, .int p1] (fun U => U.heap.size = sz ∧ PX dC dI (va_pl z.1 f) (xT q) U ∧ va_D (fun _ => True) (va_pl z.1 f))) (va_Qi (fun (r : Int32) (w : xU) => w.1 = k ∧ w.2.1 = z ∧ xI q h0 d k z w.2.2) (fun (w : xU) t => va_P (dC, dI) vwCl (va_pl w.2.1.1 w.2.2) t.heap ∧ va_D (va_A (va_pl z.1 f) sz) (va_pl w.2.1.1 w.2.2)) (va_A (va_pl z.1 f) sz)) 0 0 (va_A (va_pl z.1 f) sz) := by
  refine Met.ofW (cc := cX11_names) (maxL := 5) (ret := (some .boolean)) (by decide) rfl ?_
  intro p e s m args below meth c s₁ B hml hv
  obtain ⟨rfl, hsz, ⟨⟨hP, hK, hN⟩, hXN⟩, hD0⟩ := hv
  have hx := B.exec
  have hb := B.bytes
  have hr := B.returns
  have hts := atoms_spec (ws := wsX11_names) B.pre
  have hown : s.vm.findClass RX11 = some m.cls := findClass_of_methodNamed B.named
  have hlocks := B.notSynchronized
  subst hsz
  have hD := hD0.self (sz := s.heap.size)
  generalize hAe : va_A (va_pl z.1 f) s.heap.size = A at hD ⊢
  have hA : ∀ q : Nat, s.heap.size ≤ q → A q := fun q h => by rw [← hAe]; exact Or.inr h
  have hS : va_S A s.heap s.heap [] := va_S.rf
  have hl := lv_entry ([.ref h0, .int p0, .int p1]) (n := 5) (Nat.le_of_ble_eq_true rfl)
  rw [lg_entry_eq]
  generalize (lg_sl ([.ref h0, .int p0, .int p1]) ++ List.replicate (5 - (lg_sl ([.ref h0, .int p0, .int p1])).length) Slot.unset).toArray = ls at hl ⊢
  have hl : lv_has ls 5 [(0, .ref h0), (1, .int p0), (2, .int p1)] := hl
  refine lv_aload_n hx hb dX11_names_0 rfl (lv_at hl 0 rfl) ?_
  refine lv_iload_n hx hb dX11_names_1 rfl (lv_at hl 1 rfl) ?_
  obtain ⟨kk_1, hk_2⟩ := pl_at hI.2.1.1.1 hI.2.2.2.1.1
  refine va_csq (va_runV (As := [.int p0]) (rest := []) ⟨hx, hb, hml, hown, hts⟩ (x_itemOf l dC dI q h0 d k z f hI p0) (cwV 1 hts gX11_names_X11_itemOf rfl rfl rfl (by decide +kernel) ⟨Nat.le_of_ble_eq_true rfl, Nat.le_of_ble_eq_true rfl⟩) ⟨px_fb, va_recv hK hP (ci := 10) (q0 := kk_1) rfl hk_2, fun U hU hW => ⟨rfl, px_to hU hW hP hK hN hXN⟩⟩ rfl rfl hl.1 rfl (lv_room (Nat.le_of_ble_eq_true rfl)) dX11_names_2 ⟨Nat.le_of_ble_eq_true rfl, Nat.le_of_ble_eq_true rfl⟩).run (fun r hw => ?_)
  rcases r with _ | b_3
  ·
    refine W.eq (g2 := F0 m 5 ls [.null]) rfl ?_
    refine lv_astoreN (lv' := [(4, .null), (0, .ref h0), (1, .int p0), (2, .int p1)]) hx hb dX11_names_5 hl (by decide) rfl (fun ls hl => ?_)
    refine lv_aloadN hx hb dX11_names_7 (lv_at hl 0 rfl) ?_
    refine lv_instN hx hb dX11_names_9 ?_
    refine lv_if_eq (tgt := 37) hx hb dX11_names_12 (by decide) (fun c_5 => ?_) (fun c_5 => absurd (by decide) c_5)
    refine lv_iconst (v := 0) hx hb dX11_names_37 (by decide) ?_
    exact W.zret (v := 0) hx hb hr (by decide) (fun t ht hW => ⟨⟨0, (k, z, f), rfl, ⟨rfl, rfl, hI⟩, by rw [ht]; exact hP, hD⟩, hS.F ht⟩) hS.2.2 dX11_names_38
  ·
    have ht_4 := hw b_3 rfl
    refine W.eq (g2 := F0 m 5 ls [.ref b_3]) rfl ?_
    refine lv_astore (lv' := [(4, .ref b_3), (0, .ref h0), (1, .int p0), (2, .int p1)]) hx hb dX11_names_5 hl (by decide) rfl (fun ls hl => ?_)
    refine lv_aload hx hb dX11_names_7 (lv_at hl 0 rfl) ?_
    rcases Classical.em (tg z b_3 15) with ht9 | ht9
    ·
      have ht_6 := ht9
      obtain ⟨nu_8, kd_9, cn_10, pa_11, fa_12, l_13, co_14, wd_15, nm_16, hs_17, hs_18, hs_19, hs_20, hq_21, hq_22, hq_23⟩ := x_ist hI ht_6
      obtain ⟨kk_24, hk_25⟩ := pl_at ht_6.1 hs_17
      refine va_instS hx hb hown (hts (.classLink RX11 66 "PageOne$Story") (by decide +kernel)) (hK.1 9 (RX10, TX10, 9) rfl).2 (va_recv hK hP (ci := 9) (q0 := kk_24) rfl hk_25) dX11_names_9 ?_
      refine lv_if_eq (tgt := 37) hx hb dX11_names_12 (by decide) (fun c_26 => absurd c_26 (by decide)) (fun c_26 => ?_)
      refine lv_aload hx hb dX11_names_15 (lv_at hl 0 rfl) ?_
      obtain ⟨kk_27, hk_28⟩ := pl_at ht_6.1 hs_17
      refine va_castS hx hb hown (hts (.classLink RX11 66 "PageOne$Story") (by decide +kernel)) (hK.1 9 (RX10, TX10, 9) rfl).2 (va_recv hK hP (ci := 9) (q0 := kk_27) rfl hk_28) dX11_names_17 ?_
      refine lv_astore_n (lv' := [(3, .ref b_3), (4, .ref b_3), (0, .ref h0), (1, .int p0), (2, .int p1)]) hx hb dX11_names_20 rfl hl (by decide) rfl (fun ls hl => ?_)
      refine lv_iload_n hx hb dX11_names_21 rfl (lv_at hl 4 rfl) ?_
      refine vp_callSi (va_runS (As := [.int p1]) (rest := []) ⟨hx, hb, hml, hown, hts⟩ (x_isBuyer l dC dI p1) (va_cwS 1 hts gX11_names_X11_isBuyer rfl rfl rfl (by decide +kernel) ⟨Nat.le_of_ble_eq_true rfl, Nat.le_of_ble_eq_true rfl⟩) ⟨pw_fb, fun U hU hW => ⟨rfl, pw_to hU hW (hP.sub (ws' := []) [] rfl) (hK.sub (tys' := []) [] rfl) hN⟩⟩ rfl rfl hl.1 rfl (lv_room (Nat.le_of_ble_eq_true rfl)) dX11_names_22 ⟨Nat.le_of_ble_eq_true rfl, Nat.le_of_ble_eq_true rfl⟩).run (fun r hw => ?_)
      rcases Bool.eq_false_or_eq_true (bw p1 0 9) with b_29 | b_29
      ·
        obtain rfl : r = 1 := b_t hw b_29
        refine lv_if_eq (tgt := 37) hx hb dX11_names_25 (by decide) (fun c_30 => absurd c_30 (by decide)) (fun c_30 => ?_)
        refine lv_aload_n hx hb dX11_names_28 rfl (lv_at hl 0 rfl) ?_
        obtain ⟨kk_31, hk_32⟩ := pl_at ht_6.1 hs_17
        refine va_get (D := (dC, dI)) (ci := 9) (v := .ref nm_16) (C := RX10) (T := TX10) (N := 9) hx hb hts (by decide +kernel) hown hK hP kk_31 hk_32 rfl 8 (by decide) (hts (.fieldLink RX11 135 "PageOne$Story" "named" "[Z") (by decide +kernel)) (fun _ h9 => h9) rfl dX11_names_29 ?_
        refine lv_iload_n hx hb dX11_names_32 rfl (lv_at hl 4 rfl) ?_
        obtain ⟨g_33, hs_34⟩ := x_19 hI hq_23
        obtain ⟨kk_35, hk_36⟩ := pl_at hq_23.1 hs_34
        refine va_zald hx hb hK hP kk_35 1 hk_36 rfl (vin b_29 (by decide)) dX11_names_33 ?_
        refine lv_if_eq (tgt := 39) hx hb dX11_names_34 (by decide) (fun c_37 => ?_) (fun c_37 => ?_)
        ·
          refine lv_aload_n hx hb dX11_names_39 rfl (lv_at hl 0 rfl) ?_
          obtain ⟨kk_38, hk_39⟩ := pl_at ht_6.1 hs_17
          refine va_get (D := (dC, dI)) (ci := 9) (v := .ref nm_16) (C := RX10) (T := TX10) (N := 9) hx hb hts (by decide +kernel) hown hK hP kk_38 hk_39 rfl 8 (by decide) (hts (.fieldLink RX11 135 "PageOne$Story" "named" "[Z") (by decide +kernel)) (fun _ h9 => h9) rfl dX11_names_40 ?_
          refine lv_iload_n hx hb dX11_names_43 rfl (lv_at hl 4 rfl) ?_
          refine lv_iconst (v := 1) hx hb dX11_names_44 (by decide) ?_
          obtain ⟨kk_40, hk_41⟩ := pl_at hq_23.1 hs_34
          have hD0 := hD
          refine va_zast hx hb hK hP hD hS kk_40 1 hk_41 rfl (vin b_29 (by decide)) dX11_names_45 (fun H locs hP hD hS => ?_)
          rw [pl_set hD0 hq_23.1 hs_34 hk_41] at hP hD
          obtain ⟨f_42, ef_42⟩ : ∃ y : xF, y = va_up f nm_16 (aI (q 1) 10 (upd g_33 (p1 : Int32).toNatClampNeg (vp_nar .boolean 1))) := ⟨_, rfl⟩
          have hI : xI q h0 d k z f_42 := by rw [ef_42]; exact x_up hI hq_23 (by decide) (cO_19 hq_23.2 ⟨_, rfl⟩)
          have hP : va_P (dC, dI) vwCl (va_pl z.1 f_42) H := by rw [ef_42]; exact hP
          have hD : va_D A (va_pl z.1 f_42) := by rw [ef_42]; exact hD
          refine lv_iconst (v := 1) hx hb dX11_names_46 (by decide) ?_
          exact W.zret (v := 1) hx hb hr (by decide) (fun t ht hW => ⟨⟨1, (k, z, f_42), rfl, ⟨rfl, rfl, hI⟩, by rw [ht]; exact hP, hD⟩, hS.F ht⟩) hS.2.2 dX11_names_47
        ·
          refine lv_iconst (v := 0) hx hb dX11_names_37 (by decide) ?_
          exact W.zret (v := 0) hx hb hr (by decide) (fun t ht hW => ⟨⟨0, (k, z, f), rfl, ⟨rfl, rfl, hI⟩, by rw [ht]; exact hP, hD⟩, hS.F ht⟩) hS.2.2 dX11_names_38
      ·
        obtain rfl : r = 0 := b_f hw b_29
        refine lv_if_eq (tgt := 37) hx hb dX11_names_25 (by decide) (fun c_43 => ?_) (fun c_43 => absurd (by decide) c_43)
        refine lv_iconst (v := 0) hx hb dX11_names_37 (by decide) ?_
        exact W.zret (v := 0) hx hb hr (by decide) (fun t ht hW => ⟨⟨0, (k, z, f), rfl, ⟨rfl, rfl, hI⟩, by rw [ht]; exact hP, hD⟩, hS.F ht⟩) hS.2.2 dX11_names_38
    ·
      have hn_7 := ht9
      refine w_then (F0 m 12 ls [.int 0]) (fun hgo => ?_) ?_
      ·
        rcases x_tag ht_4 with ht8 | ht8 | ht8 | ht8 | ht8 | ht8
        ·
          obtain ⟨nu_44, kd_45, cn_46, pa_47, fa_48, l_49, m_50, hs_51, hs_52, hs_53, hs_54⟩ := x_ifl hI ht8
          obtain ⟨kk_55, hk_56⟩ := pl_at ht8.1 hs_51
          exact va_instNo hx hb hown (hts (.classLink RX11 66 "PageOne$Story") (by decide +kernel)) hXN.n_X2_X10 (va_recv hK hP (ci := 2) (q0 := kk_55) rfl hk_56) dX11_names_9 hgo
        ·
          obtain ⟨nu_57, kd_58, cn_59, pa_60, fa_61, o_62, w_63, y_64, hs_65, hs_66, hs_67, hs_68, hq_69⟩ := x_ihd hI ht8
          obtain ⟨kk_70, hk_71⟩ := pl_at ht8.1 hs_65
          exact va_instNo hx hb hown (hts (.classLink RX11 66 "PageOne$Story") (by decide +kernel)) hXN.n_X3_X10 (va_recv hK hP (ci := 3) (q0 := kk_70) rfl hk_71) dX11_names_9 hgo
        ·
          obtain ⟨nu_72, kd_73, cn_74, pa_75, fa_76, o_77, y_78, hs_79, hs_80, hs_81, hs_82, hq_83⟩ := x_ino hI ht8
          obtain ⟨kk_84, hk_85⟩ := pl_at ht8.1 hs_79
          exact va_instNo hx hb hown (hts (.classLink RX11 66 "PageOne$Story") (by decide +kernel)) hXN.n_X5_X10 (va_recv hK hP (ci := 4) (q0 := kk_84) rfl hk_85) dX11_names_9 hgo
        ·
          obtain ⟨nu_86, kd_87, cn_88, pa_89, fa_90, b_91, pr_92, sp_93, dy_94, hs_95, hs_96, hs_97, hs_98, hq_99, hq_100, hq_101⟩ := x_ipd hI ht8
          obtain ⟨kk_102, hk_103⟩ := pl_at ht8.1 hs_95
          exact va_instNo hx hb hown (hts (.classLink RX11 66 "PageOne$Story") (by decide +kernel)) hXN.n_X6_X10 (va_recv hK hP (ci := 5) (q0 := kk_102) rfl hk_103) dX11_names_9 hgo
        ·
          obtain ⟨nu_104, kd_105, cn_106, pa_107, fa_108, ww_109, hh_110, sz_111, hs_112, hs_113, hs_114, hs_115, hq_116, hq_117, hq_118⟩ := x_ipi hI ht8
          obtain ⟨kk_119, hk_120⟩ := pl_at ht8.1 hs_112
          exact va_instNo hx hb hown (hts (.classLink RX11 66 "PageOne$Story") (by decide +kernel)) hXN.n_X7_X10 (va_recv hK hP (ci := 6) (q0 := kk_119) rfl hk_120) dX11_names_9 hgo
        ·
          exact absurd ht8 ht9
      ·
        refine lv_if_eq (tgt := 37) hx hb dX11_names_12 (by decide) (fun c_121 => ?_) (fun c_121 => absurd (by decide) c_121)
        refine lv_iconst (v := 0) hx hb dX11_names_37 (by decide) ?_
        exact W.zret (v := 0) hx hb hr (by decide) (fun t ht hW => ⟨⟨0, (k, z, f), rfl, ⟨rfl, rfl, hI⟩, by rw [ht]; exact hP, hD⟩, hS.F ht⟩) hS.2.2 dX11_names_38
