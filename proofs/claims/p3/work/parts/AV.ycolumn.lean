theorem mHas_n {f : Nat → Int32} {b : Int32} : ∀ n : Nat, (∀ j, j < n → f (b + nI j).toNatClampNeg = (-2)) → mHas f b n = false
  | 0, _ => rfl
  | n + 1, h => by
    show (mHas f b n || _) = false
    rw [mHas_n n (fun j hj => h j (by omega)), h n (by omega)]; decide
theorem column_0 {u : mS} {p c n : Int32} (h : ¬ (bw p 0 11 = true ∧ bw c 0 7 = true ∧ bw n 0 60 = true ∧ u.1 28 ≤ 0)) : mColumn u p c n = (0, u) := by
  unfold mColumn
  by_cases a : bw p 0 11 = true
  · by_cases b : bw c 0 7 = true
    · by_cases e : bw n 0 60 = true
      · rw [if_pos a, if_pos b, if_pos e, if_neg (fun g => h ⟨a, b, e, g⟩)]
      · rw [if_pos a, if_pos b, if_neg e]
    · rw [if_pos a, if_neg b]
  · rw [if_neg a]
theorem measure_0 {u : mS} {p x : Int32} (h : ¬ (bw p 0 11 = true ∧ bw x 1 200 = true ∧ u.1 28 ≤ 0)) : mMeasure u p x = (0, u) := by
  unfold mMeasure
  by_cases a : bw p 0 11 = true
  · by_cases b : bw x 1 200 = true
    · have e : 0 < u.1 28 := by
        have e2 : ¬ u.1 28 ≤ 0 := fun g => h ⟨a, b, g⟩
        rw [i32_le] at e2
        rw [i32_lt]; omega
      rw [if_pos a, if_pos b, if_pos e]
    · rw [if_pos a, if_neg b]
  · rw [if_neg a]
theorem column_y {q d u z f} {p c n m dd ii : Int32} {g : Nat → Option Nat} {b la ca : Nat} {gl : Nat → Int32} (h : rep q d u z f) (b0 : bw p 0 11 = true) (b1 : bw c 0 7 = true) (b2 : bw n 0 60 = true) (h28 : u.1 28 ≤ 0) (hbr : u.1 28 ≤ 0 → ∀ j, j < 5760 → u.2 2 j = (-2)) (hg : f (d 0) = aR (q 2) 12 g) (hb : g p.toNatClampNeg = some b) (hs : f b = .inr (8, [.ref la, .ref ca, .int m, .int dd, .int ii])) (hl : f la = aI (q 0) 8 gl) : 1 = (mColumn u p c n).1 ∧ rep q d (mColumn u p c n).2 z (va_up f la (aI (q 0) 8 (upd gl c.toNatClampNeg n))) := by
  obtain ⟨-, rfl, -, -, -, -⟩ := rp_pg h.1 hg (clp b0) hb hs
  have hC : c.toNatClampNeg < 8 := vlt (vin b1 (by decide))
  have hP := clp b0
  obtain ⟨c1, -, -⟩ := nI_of_bw b0
  obtain ⟨c2, -, -⟩ := nI_of_bw b1
  generalize p.toNatClampNeg = P at *
  generalize c.toNatClampNeg = C at *
  subst c1 c2
  have hB : mBare (u.2 2) (480 * nI P + 60 * nI C) = true := mBare_t (fun j hj => by rw [idxN hP hC hj, nI_clamp (by omega)]; exact hbr h28 _ (by omega))
  unfold mColumn
  rw [if_pos b0, if_pos b1, if_pos b2, if_pos h28, if_pos hB]
  exact ⟨rfl, rep_col h hP hC hl⟩
theorem measure_y {q d u z f} {p x m dd ii : Int32} {g : Nat → Option Nat} {b la ca : Nat} (h : rep q d u z f) (b0 : bw p 0 11 = true) (b1 : bw x 1 200 = true) (h28 : u.1 28 ≤ 0) (hbr : u.1 28 ≤ 0 → ∀ j, j < 5760 → u.2 2 j = (-2)) (hg : f (d 0) = aR (q 2) 12 g) (hb : g p.toNatClampNeg = some b) (hs : f b = .inr (8, [.ref la, .ref ca, .int m, .int dd, .int ii])) : 1 = (mMeasure u p x).1 ∧ rep q d (mMeasure u p x).2 z (va_up f b (.inr (8, [.ref la, .ref ca, .int x, .int dd, .int ii]))) := by
  obtain ⟨rfl, -, -, -, -, -⟩ := rp_pg h.1 hg (clp b0) hb hs
  have hP := clp b0
  obtain ⟨c1, -, -⟩ := nI_of_bw b0
  generalize p.toNatClampNeg = P at *
  subst c1
  have hB : mHas (u.2 2) (480 * nI P) 480 = false := mHas_n 480 (fun j hj => by rw [show (480 : Int32) = nI 480 from rfl, pk_mul, nI_add, nI_clamp (by omega)]; exact hbr h28 _ (by omega))
  have h0 : ¬ 0 < u.1 28 := by
    rw [i32_le] at h28
    rw [i32_lt]; omega
  unfold mMeasure
  rw [if_pos b0, if_pos b1, if_neg h0, hB, if_neg (by decide)]
  exact ⟨rfl, rep_ms h hP hs⟩
set_option maxHeartbeats 4000000 in
set_option maxRecDepth 100000 in
theorem y_column (l : Launch) (dC : Nat → ClassId) (dI : Nat → Nat → Nat) (q : Nat → ClassId) (h0 : Nat) (d : Nat → Nat) (k : Nat → Int32) (z : gS) (f : xF) (hI : xI q h0 d k z f) (p0 p1 p2 : Int32) (u : mS) (hrp : rep q d u z f) (hk0 : k 0 = u.1 3) (hk1 : k 1 = u.1 28) (hk2 : k 2 = u.1 38) (hk3 : k 3 = u.1 39) (hbr : u.1 28 ≤ 0 → ∀ j, j < 5760 → u.2 2 j = (-2)) (sz : Nat) : Met l yX11_column wsX11_column ({ frames := 2, cells := 0, slots := 0, locals := 42 }) (va_Pc [.ref h0, .int p0, .int p1, .int p2] (fun U => U.heap.size = sz ∧ PX dC dI (va_pl z.1 f) (xT q) U ∧ va_D (fun _ => True) (va_pl z.1 f))) (va_Qi (fun (r : Int32) (w : xU) => w.1 = k ∧ w.2.1 = z ∧ xI q h0 d k z w.2.2 ∧ r = (mColumn u p0 p1 p2).1 ∧ rep q d (mColumn u p0 p1 p2).2 z w.2.2) (fun (w : xU) t => va_P (dC, dI) vwCl (va_pl w.2.1.1 w.2.2) t.heap ∧ va_D (va_A (va_pl z.1 f) sz) (va_pl w.2.1.1 w.2.2)) (va_A (va_pl z.1 f) sz)) 0 0 (va_A (va_pl z.1 f) sz) := by
  refine Met.ofW (cc := cX11_column) (maxL := 4) (ret := (some .boolean)) (by decide) rfl ?_
  intro p e s m args below meth c s₁ B hml hv
  obtain ⟨rfl, hsz, ⟨⟨hP, hK, hN⟩, hXN⟩, hD0⟩ := hv
  have hx := B.exec
  have hb := B.bytes
  have hr := B.returns
  have hts := atoms_spec (ws := wsX11_column) B.pre
  have hown : s.vm.findClass RX11 = some m.cls := findClass_of_methodNamed B.named
  have hlocks := B.notSynchronized
  subst hsz
  have hD := hD0.self (sz := s.heap.size)
  generalize hAe : va_A (va_pl z.1 f) s.heap.size = A at hD ⊢
  have hA : ∀ q : Nat, s.heap.size ≤ q → A q := fun q h => by rw [← hAe]; exact Or.inr h
  have hS : va_S A s.heap s.heap [] := va_S.rf
  have hl := lv_entry ([.ref h0, .int p0, .int p1, .int p2]) (n := 4) (Nat.le_of_ble_eq_true rfl)
  rw [lg_entry_eq]
  generalize (lg_sl ([.ref h0, .int p0, .int p1, .int p2]) ++ List.replicate (4 - (lg_sl ([.ref h0, .int p0, .int p1, .int p2])).length) Slot.unset).toArray = ls at hl ⊢
  have hl : lv_has ls 4 [(0, .ref h0), (1, .int p0), (2, .int p1), (3, .int p2)] := hl
  refine lv_iload_n hx hb dX11_column_0 rfl (lv_at hl 1 rfl) ?_
  refine vp_callSi (va_runS (As := [.int p0]) (rest := []) ⟨hx, hb, hml, hown, hts⟩ (x_isPage l dC dI p0) (va_cwS 1 hts gX11_column_X11_isPage rfl rfl rfl (by decide +kernel) ⟨Nat.le_of_ble_eq_true rfl, Nat.le_of_ble_eq_true rfl⟩) ⟨pw_fb, fun U hU hW => ⟨rfl, pw_to hU hW (hP.sub (ws' := []) [] rfl) (hK.sub (tys' := []) [] rfl) hN⟩⟩ rfl rfl hl.1 rfl (lv_room (Nat.le_of_ble_eq_true rfl)) dX11_column_1 ⟨Nat.le_of_ble_eq_true rfl, Nat.le_of_ble_eq_true rfl⟩).run (fun r hw => ?_)
  rcases Bool.eq_false_or_eq_true (bw p0 0 11) with b_1 | b_1
  ·
    obtain rfl : r = 1 := b_t hw b_1
    refine lv_if_eq (tgt := 31) hx hb dX11_column_4 (by decide) (fun c_2 => absurd c_2 (by decide)) (fun c_2 => ?_)
    refine lv_iload_n hx hb dX11_column_7 rfl (lv_at hl 2 rfl) ?_
    refine vp_callSi (va_runS (As := [.int p1]) (rest := []) ⟨hx, hb, hml, hown, hts⟩ (x_isColumn l dC dI p1) (va_cwS 1 hts gX11_column_X11_isColumn rfl rfl rfl (by decide +kernel) ⟨Nat.le_of_ble_eq_true rfl, Nat.le_of_ble_eq_true rfl⟩) ⟨pw_fb, fun U hU hW => ⟨rfl, pw_to hU hW (hP.sub (ws' := []) [] rfl) (hK.sub (tys' := []) [] rfl) hN⟩⟩ rfl rfl hl.1 rfl (lv_room (Nat.le_of_ble_eq_true rfl)) dX11_column_8 ⟨Nat.le_of_ble_eq_true rfl, Nat.le_of_ble_eq_true rfl⟩).run (fun r hw => ?_)
    rcases Bool.eq_false_or_eq_true (bw p1 0 7) with b_3 | b_3
    ·
      obtain rfl : r = 1 := b_t hw b_3
      refine lv_if_eq (tgt := 31) hx hb dX11_column_11 (by decide) (fun c_4 => absurd c_4 (by decide)) (fun c_4 => ?_)
      refine lv_iload_n hx hb dX11_column_14 rfl (lv_at hl 3 rfl) ?_
      refine lv_iconst (v := 0) hx hb dX11_column_15 (by decide) ?_
      refine lv_bipush (v := 60) hx hb dX11_column_16 (by decide) ?_
      refine vp_callSi (va_runS (As := [.int p2, .int 0, .int 60]) (rest := []) ⟨hx, hb, hml, hown, hts⟩ (x_isWithin l dC dI p2 0 60) (va_cwS 3 hts gX11_column_X11_isWithin rfl rfl rfl (by decide +kernel) ⟨Nat.le_of_ble_eq_true rfl, Nat.le_of_ble_eq_true rfl⟩) ⟨pw_fb, fun U hU hW => ⟨rfl, pw_to hU hW (hP.sub (ws' := []) [] rfl) (hK.sub (tys' := []) [] rfl) hN⟩⟩ rfl rfl hl.1 rfl (lv_room (Nat.le_of_ble_eq_true rfl)) dX11_column_18 ⟨Nat.le_of_ble_eq_true rfl, Nat.le_of_ble_eq_true rfl⟩).run (fun r hw => ?_)
      rcases Bool.eq_false_or_eq_true (bw p2 0 60) with b_5 | b_5
      ·
        obtain rfl : r = 1 := b_t hw b_5
        refine lv_if_eq (tgt := 31) hx hb dX11_column_21 (by decide) (fun c_6 => absurd c_6 (by decide)) (fun c_6 => ?_)
        refine lv_aload_n hx hb dX11_column_24 rfl (lv_at hl 0 rfl) ?_
        obtain ⟨kk_7, hk_8⟩ := pl_at hI.2.1.1.1 hI.2.2.2.1.1
        refine va_get (D := (dC, dI)) (ci := 10) (v := .int (k 1)) (C := RX11) (T := TX11) (N := 9) hx hb hts (by decide +kernel) hown hK hP kk_7 hk_8 rfl 5 (by decide) (hts (.fieldLink RX11 34 "PageOne" "actCount" "I") (by decide +kernel)) (fun _ h9 => h9) rfl dX11_column_25 ?_
        refine lv_if_le (tgt := 33) hx hb dX11_column_28 (by decide) (fun c_9 => ?_) (fun c_9 => ?_)
        ·
          refine lv_aload_n hx hb dX11_column_33 rfl (lv_at hl 0 rfl) ?_
          obtain ⟨kk_10, hk_11⟩ := pl_at hI.2.1.1.1 hI.2.2.2.1.1
          refine va_get (D := (dC, dI)) (ci := 10) (v := .ref (d 0)) (C := RX11) (T := TX11) (N := 9) hx hb hts (by decide +kernel) hown hK hP kk_10 hk_11 rfl 0 (by decide) (hts (.fieldLink RX11 11 "PageOne" "pages" "[LPageOne$Sheet;") (by decide +kernel)) (fun _ h9 => h9) rfl dX11_column_34 ?_
          refine lv_iload_n hx hb dX11_column_37 rfl (lv_at hl 1 rfl) ?_
          obtain ⟨g_12, hs_13, hg_14⟩ := x_pg hI hI.2.1.2.1
          obtain ⟨kk_15, hk_16⟩ := pl_at hI.2.1.2.1.1 hs_13
          refine va_aldq hx hb hK hP kk_15 2 hk_16 rfl (vin b_1 (by decide)) dX11_column_38 ?_
          obtain ⟨b_17, hg_18, ht_19⟩ := hg_14 _ (vlt (vin b_1 (by decide)))
          rw [hg_18]
          refine W.eq (g2 := F0 m 39 ls [.ref b_17]) rfl ?_
          obtain ⟨la_20, ca_21, m_22, dd_23, ii_24, hs_25, ht_26, ht_27⟩ := x_sh hI ht_19
          obtain ⟨kk_28, hk_29⟩ := pl_at ht_19.1 hs_25
          refine va_get (D := (dC, dI)) (ci := 8) (v := .ref la_20) (C := RX9) (T := TX9) (N := 5) hx hb hts (by decide +kernel) hown hK hP kk_28 hk_29 rfl 0 (by decide) (hts (.fieldLink RX11 59 "PageOne$Sheet" "lines" "[I") (by decide +kernel)) (fun _ h9 => h9) rfl dX11_column_39 ?_
          refine lv_iload_n hx hb dX11_column_42 rfl (lv_at hl 2 rfl) ?_
          refine lv_iload_n hx hb dX11_column_43 rfl (lv_at hl 3 rfl) ?_
          obtain ⟨g_30, hs_31, hg_32⟩ := x_ln hI ht_26
          obtain ⟨kk_33, hk_34⟩ := pl_at ht_26.1 hs_31
          have hD0 := hD
          refine va_iast hx hb hK hP hD hS kk_33 0 hk_34 rfl (vin b_3 (by decide)) dX11_column_44 (fun H locs hP hD hS => ?_)
          rw [pl_set hD0 ht_26.1 hs_31 hk_34] at hP hD
          obtain ⟨f_35, ef_35⟩ : ∃ y : xF, y = va_up f la_20 (aI (q 0) 8 (upd g_30 (p1 : Int32).toNatClampNeg p2)) := ⟨_, rfl⟩
          have hI : xI q h0 d k z f_35 := by rw [ef_35]; exact x_up hI ht_26 (by decide) (cO_8 ht_26.2 ⟨_, rfl, ln_up hg_32 b_5⟩)
          have hP : va_P (dC, dI) vwCl (va_pl z.1 f_35) H := by rw [ef_35]; exact hP
          have hD : va_D A (va_pl z.1 f_35) := by rw [ef_35]; exact hD
          refine lv_iconst (v := 1) hx hb dX11_column_45 (by decide) ?_
          exact W.zret (v := 1) hx hb hr (by decide) (fun t ht hW => ⟨⟨1, (k, z, f_35), rfl, ⟨rfl, rfl, hI, by show _ ∧ rep q d _ z f_35; rw [ef_35]; exact column_y hrp b_1 b_3 b_5 (by rw [← hk1]; exact c_9) hbr hs_13 hg_18 hs_25 hs_31⟩, by rw [ht]; exact hP, hD⟩, hS.F ht⟩) hS.2.2 dX11_column_46
        ·
          refine lv_iconst (v := 0) hx hb dX11_column_31 (by decide) ?_
          exact W.zret (v := 0) hx hb hr (by decide) (fun t ht hW => ⟨⟨0, (k, z, f), rfl, ⟨rfl, rfl, hI, by rw [(column_0 (fun h9 => c_9 (by rw [hk1]; exact h9.2.2.2)))], by rw [(column_0 (fun h9 => c_9 (by rw [hk1]; exact h9.2.2.2)))]; exact hrp⟩, by rw [ht]; exact hP, hD⟩, hS.F ht⟩) hS.2.2 dX11_column_32
      ·
        obtain rfl : r = 0 := b_f hw b_5
        refine lv_if_eq (tgt := 31) hx hb dX11_column_21 (by decide) (fun c_36 => ?_) (fun c_36 => absurd (by decide) c_36)
        refine lv_iconst (v := 0) hx hb dX11_column_31 (by decide) ?_
        exact W.zret (v := 0) hx hb hr (by decide) (fun t ht hW => ⟨⟨0, (k, z, f), rfl, ⟨rfl, rfl, hI, by rw [(column_0 (fun h9 => bne b_5 h9.2.2.1))], by rw [(column_0 (fun h9 => bne b_5 h9.2.2.1))]; exact hrp⟩, by rw [ht]; exact hP, hD⟩, hS.F ht⟩) hS.2.2 dX11_column_32
    ·
      obtain rfl : r = 0 := b_f hw b_3
      refine lv_if_eq (tgt := 31) hx hb dX11_column_11 (by decide) (fun c_37 => ?_) (fun c_37 => absurd (by decide) c_37)
      refine lv_iconst (v := 0) hx hb dX11_column_31 (by decide) ?_
      exact W.zret (v := 0) hx hb hr (by decide) (fun t ht hW => ⟨⟨0, (k, z, f), rfl, ⟨rfl, rfl, hI, by rw [(column_0 (fun h9 => bne b_3 h9.2.1))], by rw [(column_0 (fun h9 => bne b_3 h9.2.1))]; exact hrp⟩, by rw [ht]; exact hP, hD⟩, hS.F ht⟩) hS.2.2 dX11_column_32
  ·
    obtain rfl : r = 0 := b_f hw b_1
    refine lv_if_eq (tgt := 31) hx hb dX11_column_4 (by decide) (fun c_38 => ?_) (fun c_38 => absurd (by decide) c_38)
    refine lv_iconst (v := 0) hx hb dX11_column_31 (by decide) ?_
    exact W.zret (v := 0) hx hb hr (by decide) (fun t ht hW => ⟨⟨0, (k, z, f), rfl, ⟨rfl, rfl, hI, by rw [(column_0 (fun h9 => bne b_1 h9.1))], by rw [(column_0 (fun h9 => bne b_1 h9.1))]; exact hrp⟩, by rw [ht]; exact hP, hD⟩, hS.F ht⟩) hS.2.2 dX11_column_32
set_option maxHeartbeats 4000000 in
set_option maxRecDepth 100000 in
theorem y_measure (l : Launch) (dC : Nat → ClassId) (dI : Nat → Nat → Nat) (q : Nat → ClassId) (h0 : Nat) (d : Nat → Nat) (k : Nat → Int32) (z : gS) (f : xF) (hI : xI q h0 d k z f) (p0 p1 : Int32) (u : mS) (hrp : rep q d u z f) (hk0 : k 0 = u.1 3) (hk1 : k 1 = u.1 28) (hk2 : k 2 = u.1 38) (hk3 : k 3 = u.1 39) (hbr : u.1 28 ≤ 0 → ∀ j, j < 5760 → u.2 2 j = (-2)) (sz : Nat) : Met l yX11_measure wsX11_measure ({ frames := 2, cells := 0, slots := 0, locals := 42 }) (va_Pc [.ref h0, .int p0, .int p1] (fun U => U.heap.size = sz ∧ PX dC dI (va_pl z.1 f) (xT q) U ∧ va_D (fun _ => True) (va_pl z.1 f))) (va_Qi (fun (r : Int32) (w : xU) => w.1 = k ∧ w.2.1 = z ∧ xI q h0 d k z w.2.2 ∧ r = (mMeasure u p0 p1).1 ∧ rep q d (mMeasure u p0 p1).2 z w.2.2) (fun (w : xU) t => va_P (dC, dI) vwCl (va_pl w.2.1.1 w.2.2) t.heap ∧ va_D (va_A (va_pl z.1 f) sz) (va_pl w.2.1.1 w.2.2)) (va_A (va_pl z.1 f) sz)) 0 0 (va_A (va_pl z.1 f) sz) := by
  refine Met.ofW (cc := cX11_measure) (maxL := 3) (ret := (some .boolean)) (by decide) rfl ?_
  intro p e s m args below meth c s₁ B hml hv
  obtain ⟨rfl, hsz, ⟨⟨hP, hK, hN⟩, hXN⟩, hD0⟩ := hv
  have hx := B.exec
  have hb := B.bytes
  have hr := B.returns
  have hts := atoms_spec (ws := wsX11_measure) B.pre
  have hown : s.vm.findClass RX11 = some m.cls := findClass_of_methodNamed B.named
  have hlocks := B.notSynchronized
  subst hsz
  have hD := hD0.self (sz := s.heap.size)
  generalize hAe : va_A (va_pl z.1 f) s.heap.size = A at hD ⊢
  have hA : ∀ q : Nat, s.heap.size ≤ q → A q := fun q h => by rw [← hAe]; exact Or.inr h
  have hS : va_S A s.heap s.heap [] := va_S.rf
  have hl := lv_entry ([.ref h0, .int p0, .int p1]) (n := 3) (Nat.le_of_ble_eq_true rfl)
  rw [lg_entry_eq]
  generalize (lg_sl ([.ref h0, .int p0, .int p1]) ++ List.replicate (3 - (lg_sl ([.ref h0, .int p0, .int p1])).length) Slot.unset).toArray = ls at hl ⊢
  have hl : lv_has ls 3 [(0, .ref h0), (1, .int p0), (2, .int p1)] := hl
  refine lv_iload_n hx hb dX11_measure_0 rfl (lv_at hl 1 rfl) ?_
  refine vp_callSi (va_runS (As := [.int p0]) (rest := []) ⟨hx, hb, hml, hown, hts⟩ (x_isPage l dC dI p0) (va_cwS 1 hts gX11_measure_X11_isPage rfl rfl rfl (by decide +kernel) ⟨Nat.le_of_ble_eq_true rfl, Nat.le_of_ble_eq_true rfl⟩) ⟨pw_fb, fun U hU hW => ⟨rfl, pw_to hU hW (hP.sub (ws' := []) [] rfl) (hK.sub (tys' := []) [] rfl) hN⟩⟩ rfl rfl hl.1 rfl (lv_room (Nat.le_of_ble_eq_true rfl)) dX11_measure_1 ⟨Nat.le_of_ble_eq_true rfl, Nat.le_of_ble_eq_true rfl⟩).run (fun r hw => ?_)
  rcases Bool.eq_false_or_eq_true (bw p0 0 11) with b_1 | b_1
  ·
    obtain rfl : r = 1 := b_t hw b_1
    refine lv_if_eq (tgt := 25) hx hb dX11_measure_4 (by decide) (fun c_2 => absurd c_2 (by decide)) (fun c_2 => ?_)
    refine lv_iload_n hx hb dX11_measure_7 rfl (lv_at hl 2 rfl) ?_
    refine lv_iconst (v := 1) hx hb dX11_measure_8 (by decide) ?_
    refine lv_sipush (v := 200) hx hb dX11_measure_9 (by decide) ?_
    refine vp_callSi (va_runS (As := [.int p1, .int 1, .int 200]) (rest := []) ⟨hx, hb, hml, hown, hts⟩ (x_isWithin l dC dI p1 1 200) (va_cwS 3 hts gX11_measure_X11_isWithin rfl rfl rfl (by decide +kernel) ⟨Nat.le_of_ble_eq_true rfl, Nat.le_of_ble_eq_true rfl⟩) ⟨pw_fb, fun U hU hW => ⟨rfl, pw_to hU hW (hP.sub (ws' := []) [] rfl) (hK.sub (tys' := []) [] rfl) hN⟩⟩ rfl rfl hl.1 rfl (lv_room (Nat.le_of_ble_eq_true rfl)) dX11_measure_12 ⟨Nat.le_of_ble_eq_true rfl, Nat.le_of_ble_eq_true rfl⟩).run (fun r hw => ?_)
    rcases Bool.eq_false_or_eq_true (bw p1 1 200) with b_3 | b_3
    ·
      obtain rfl : r = 1 := b_t hw b_3
      refine lv_if_eq (tgt := 25) hx hb dX11_measure_15 (by decide) (fun c_4 => absurd c_4 (by decide)) (fun c_4 => ?_)
      refine lv_aload_n hx hb dX11_measure_18 rfl (lv_at hl 0 rfl) ?_
      obtain ⟨kk_5, hk_6⟩ := pl_at hI.2.1.1.1 hI.2.2.2.1.1
      refine va_get (D := (dC, dI)) (ci := 10) (v := .int (k 1)) (C := RX11) (T := TX11) (N := 9) hx hb hts (by decide +kernel) hown hK hP kk_5 hk_6 rfl 5 (by decide) (hts (.fieldLink RX11 34 "PageOne" "actCount" "I") (by decide +kernel)) (fun _ h9 => h9) rfl dX11_measure_19 ?_
      refine lv_if_le (tgt := 27) hx hb dX11_measure_22 (by decide) (fun c_7 => ?_) (fun c_7 => ?_)
      ·
        refine lv_aload_n hx hb dX11_measure_27 rfl (lv_at hl 0 rfl) ?_
        obtain ⟨kk_8, hk_9⟩ := pl_at hI.2.1.1.1 hI.2.2.2.1.1
        refine va_get (D := (dC, dI)) (ci := 10) (v := .ref (d 0)) (C := RX11) (T := TX11) (N := 9) hx hb hts (by decide +kernel) hown hK hP kk_8 hk_9 rfl 0 (by decide) (hts (.fieldLink RX11 11 "PageOne" "pages" "[LPageOne$Sheet;") (by decide +kernel)) (fun _ h9 => h9) rfl dX11_measure_28 ?_
        refine lv_iload_n hx hb dX11_measure_31 rfl (lv_at hl 1 rfl) ?_
        obtain ⟨g_10, hs_11, hg_12⟩ := x_pg hI hI.2.1.2.1
        obtain ⟨kk_13, hk_14⟩ := pl_at hI.2.1.2.1.1 hs_11
        refine va_aldq hx hb hK hP kk_13 2 hk_14 rfl (vin b_1 (by decide)) dX11_measure_32 ?_
        obtain ⟨b_15, hg_16, ht_17⟩ := hg_12 _ (vlt (vin b_1 (by decide)))
        rw [hg_16]
        refine W.eq (g2 := F0 m 33 ls [.ref b_15]) rfl ?_
        refine lv_iload_n hx hb dX11_measure_33 rfl (lv_at hl 2 rfl) ?_
        obtain ⟨la_18, ca_19, m_20, dd_21, ii_22, hs_23, ht_24, ht_25⟩ := x_sh hI ht_17
        obtain ⟨kk_26, hk_27⟩ := pl_at ht_17.1 hs_23
        have hD0 := hD
        refine va_put (D := (dC, dI)) (ci := 8) (v := .int p1) (ty := .int) (C := RX9) (T := TX9) (N := 5) hx hb hts (by decide +kernel) tyX9 tyX9_ok nmX9 hown hK hP hD hS kk_26 hk_27 rfl 2 (by decide) (hts (.fieldLink RX11 63 "PageOne$Sheet" "measure" "I") (by decide +kernel)) (fun _ h9 => h9) rfl (by decide +kernel) rfl rfl (Nat.le_of_ble_eq_true rfl) dX11_measure_34 (fun H locs hP hD hS => ?_)
        rw [pl_set hD0 ht_17.1 hs_23 hk_27] at hP hD
        obtain ⟨f_28, ef_28⟩ : ∃ y : xF, y = va_up f b_15 (.inr (8, [.ref la_18, .ref ca_19, .int p1, .int dd_21, .int ii_22])) := ⟨_, rfl⟩
        have hI : xI q h0 d k z f_28 := by rw [ef_28]; exact x_up hI ht_17 (by decide) (cO_7 ht_17.2 ⟨_, _, _, _, _, rfl, ht_24, ht_25⟩)
        have hP : va_P (dC, dI) vwCl (va_pl z.1 f_28) H := by rw [ef_28]; exact hP
        have hD : va_D A (va_pl z.1 f_28) := by rw [ef_28]; exact hD
        refine lv_iconst (v := 1) hx hb dX11_measure_37 (by decide) ?_
        exact W.zret (v := 1) hx hb hr (by decide) (fun t ht hW => ⟨⟨1, (k, z, f_28), rfl, ⟨rfl, rfl, hI, by show _ ∧ rep q d _ z f_28; rw [ef_28]; exact measure_y hrp b_1 b_3 (by rw [← hk1]; exact c_7) hbr hs_11 hg_16 hs_23⟩, by rw [ht]; exact hP, hD⟩, hS.F ht⟩) hS.2.2 dX11_measure_38
      ·
        refine lv_iconst (v := 0) hx hb dX11_measure_25 (by decide) ?_
        exact W.zret (v := 0) hx hb hr (by decide) (fun t ht hW => ⟨⟨0, (k, z, f), rfl, ⟨rfl, rfl, hI, by rw [(measure_0 (fun h9 => c_7 (by rw [hk1]; exact h9.2.2)))], by rw [(measure_0 (fun h9 => c_7 (by rw [hk1]; exact h9.2.2)))]; exact hrp⟩, by rw [ht]; exact hP, hD⟩, hS.F ht⟩) hS.2.2 dX11_measure_26
    ·
      obtain rfl : r = 0 := b_f hw b_3
      refine lv_if_eq (tgt := 25) hx hb dX11_measure_15 (by decide) (fun c_29 => ?_) (fun c_29 => absurd (by decide) c_29)
      refine lv_iconst (v := 0) hx hb dX11_measure_25 (by decide) ?_
      exact W.zret (v := 0) hx hb hr (by decide) (fun t ht hW => ⟨⟨0, (k, z, f), rfl, ⟨rfl, rfl, hI, by rw [(measure_0 (fun h9 => bne b_3 h9.2.1))], by rw [(measure_0 (fun h9 => bne b_3 h9.2.1))]; exact hrp⟩, by rw [ht]; exact hP, hD⟩, hS.F ht⟩) hS.2.2 dX11_measure_26
  ·
    obtain rfl : r = 0 := b_f hw b_1
    refine lv_if_eq (tgt := 25) hx hb dX11_measure_4 (by decide) (fun c_30 => ?_) (fun c_30 => absurd (by decide) c_30)
    refine lv_iconst (v := 0) hx hb dX11_measure_25 (by decide) ?_
    exact W.zret (v := 0) hx hb hr (by decide) (fun t ht hW => ⟨⟨0, (k, z, f), rfl, ⟨rfl, rfl, hI, by rw [(measure_0 (fun h9 => bne b_1 h9.1))], by rw [(measure_0 (fun h9 => bne b_1 h9.1))]; exact hrp⟩, by rw [ht]; exact hP, hD⟩, hS.F ht⟩) hS.2.2 dX11_measure_26
