theorem free_rect {u : mS} {p c l w h : Int32} (hln : ∀ j, j < 96 → bw (u.2 0 j) 0 60 = true) (hf : mFreeP u p c l w h) : ∃ P X Y D N : Nat, p = nI P ∧ c = nI X ∧ l = nI Y ∧ w = nI D ∧ h = nI N ∧ P < 12 ∧ X + D ≤ 8 ∧ Y + N ≤ 60 ∧ 1 ≤ D ∧ 1 ≤ N := by
  obtain ⟨h1, h2, h3, h4⟩ := hf
  have h11 : (11 : Int32).toInt = 11 := rfl
  have h7 : (7 : Int32).toInt = 7 := rfl
  have h8 : (8 : Int32).toInt = 8 := rfl
  have h60 : (60 : Int32).toInt = 60 := rfl
  obtain ⟨q1, q2, q3⟩ := mCell_c h1
  obtain ⟨P, hP, -, eP⟩ := exN q1 (by decide)
  obtain ⟨X, hX, -, eX⟩ := exN q2 (by decide)
  obtain ⟨Y, hY, eY⟩ := exL hln h1
  obtain ⟨D, hD, hD1, eD⟩ := exN h2 (by decide)
  obtain ⟨N, hN, hN1, eN⟩ := exN h3 (by decide)
  rw [h11] at hP
  rw [h7] at hX
  rw [h8] at hD
  rw [h60] at hN
  rw [i1] at hD1 hN1
  subst eP eX eY eD eN
  have hx := h4 (D - 1) (by rw [nI_clamp (by omega)]; omega) 0 (by rw [nI_clamp (by omega)]; omega)
  have hy := h4 0 (by rw [nI_clamp (by omega)]; omega) (N - 1) (by rw [nI_clamp (by omega)]; omega)
  unfold frB at hx hy
  obtain ⟨hx, -⟩ := band hx
  obtain ⟨hy, -⟩ := band hy
  obtain ⟨-, x2, -⟩ := mCell_c hx
  obtain ⟨Y2, hY2, eY2⟩ := exL hln hy
  have x3 := bw_iff.mp x2
  rw [nI_add, nI_toInt (by omega), i0, h7] at x3
  have y3 : (nI (Y + (N - 1))).toInt = (nI Y2).toInt := by rw [← eY2, nI_add]
  rw [nI_toInt (by omega), nI_toInt (by omega)] at y3
  exact ⟨P, X, Y, D, N, rfl, rfl, rfl, rfl, rfl, by omega, by omega, by omega, by omega, by omega⟩
theorem vSz {i k n : Int32} (hi : bw i 0 79 = true) (hn : bw n 0 4 = true) (hk : bw k 0 (n - 1) = true) : vp_in (4 * i + k) 320 := by
  have h4 : (4 : Int32).toInt = 4 := rfl
  have h79 : (79 : Int32).toInt = 79 := rfl
  have h1 := bw_iff.mp hi
  have h2 := bw_iff.mp hn
  have h3 := bw_iff.mp hk
  rw [i0, h79] at h1
  rw [i0, h4] at h2
  rw [i0, subI (by rw [i1]; omega) (by rw [i1]; omega), i1] at h3
  have e1 : (4 * i).toInt = 4 * i.toInt := by rw [mulI (by rw [h4]; omega) (by rw [h4]; omega), h4]
  rw [vp_in_iff, addI (by rw [e1]; omega) (by rw [e1]; omega), e1]; omega
/-- a piece comes and goes again: what mayRun leaves -/
def mTry (u : mS) (i : Int32) (P X Y N : Nat) : mS := mUnstand (mStand u i P X Y 1 N) i P X Y 1 N
/-- what a put leaves, as far as the reference's safety goes -/
def putQ (u : mS) (i : Int32) (u9 : mS) : Prop := u9 = u ∨ (bw i 0 (u.1 3 - 1) = true ∧ ∃ P X Y D N : Nat, P < 12 ∧ X + D ≤ 8 ∧ Y + N ≤ 60 ∧ 1 ≤ D ∧ 1 ≤ N ∧ ((¬ u.2 22 i.toNatClampNeg = 6 ∧ u9 = mTry u i P X Y N) ∨ (¬ u.1 28 = 300 ∧ u.2 22 i.toNatClampNeg = 0 ∧ u9 = mActs (mStand u i P X Y D N) 0 i 0 0 0 0 0) ∨ (¬ u.1 28 = 300 ∧ u.2 4 i.toNatClampNeg = 0 ∧ ¬ u.2 22 i.toNatClampNeg = 6 ∧ runG (mStand u i P X Y 1 N) i (u.2 22 i.toNatClampNeg) ∧ u9 = mActs (mStand (mTry u i P X Y N) i P X Y D N) 0 i 0 0 0 0 0)))
/-- what stands behind put's switch -/
def putM (u : mS) (i : Int32) (P X Y N : Nat) (g : Int32) (w : mS) : Prop := (w = u ∧ (g = 0 ∨ u.2 22 i.toNatClampNeg = 0)) ∨ (w = mTry u i P X Y N ∧ u.2 4 i.toNatClampNeg = 0 ∧ ¬ u.2 22 i.toNatClampNeg = 6 ∧ (g = 0 ∨ runG (mStand u i P X Y 1 N) i (u.2 22 i.toNatClampNeg)))
theorem mTry_22 (u : mS) (i : Int32) (P X Y N : Nat) : (mTry u i P X Y N).2 22 i.toNatClampNeg = u.2 22 i.toNatClampNeg := by
  unfold mTry mUnstand
  dsimp only
  rw [mput_other (by decide), mst_same, mStand_22, addsub1]
theorem mTry_1 (u : mS) (i : Int32) (P X Y N : Nat) : (mTry u i P X Y N).1 = u.1 := rfl
theorem z05 {q : Int32} (h : q = 0) : bw q 0 5 = true := by rw [h]; decide
theorem bwS {q : Int32} (h : bw q 0 6 = true) (h0 : ¬ q = 0) : bw (q - 1) 0 (q - 1) = true := by
  have e6 : (6 : Int32).toInt = 6 := rfl
  have h1 := bw_iff.mp h
  rw [i0, e6] at h1
  have h2 : ¬ q.toInt = 0 := fun e => h0 (sw_in e.symm i0)
  rw [bw_iff, i0, subI (by rw [i1]; omega) (by rw [i1]; omega), i1]; omega
set_option maxHeartbeats 4000000 in
set_option maxRecDepth 100000 in
theorem m_put (l : Launch) (dC : Nat → ClassId) (dI : Nat → Nat → Nat) (h0 : Nat) (v : Nat → Nat) (cI cZ : ClassId) (u : mS) (p0 p1 p2 p3 p4 : Int32) (hn : bw (u.1 3) 0 80 = true) (hln : ∀ j, j < 96 → bw (u.2 0 j) 0 60 = true) (hd : bw (u.1 38) 0 399 = true) (ha : bw (u.1 28) 0 300 = true) (hpc : ∀ j, j < 80 → bw (u.2 22 j) 0 6 = true) (hcm : ∀ j, j < 80 → bw (u.2 15 j) 0 80 = true) (hsz : ∀ j, j < 80 → bw (u.2 17 j) 0 4 = true) (hfr : bw p0 0 79 = true → ∀ P X Y N : Nat, P < 12 → X + 1 ≤ 8 → 1 ≤ N → Y + N ≤ 60 → ¬ u.2 22 p0.toNatClampNeg = 6 → runG (mStand u p0 P X Y 1 N) p0 (u.2 22 p0.toNatClampNeg) → 0 ≤ (mFrom (mStand u p0 P X Y 1 N) p0 (u.2 22 p0.toNatClampNeg).toNatClampNeg).toInt ∧ (mFrom (mStand u p0 P X Y 1 N) p0 (u.2 22 p0.toNatClampNeg).toNatClampNeg).toInt ≤ 400 ∧ (mTakes (mStand u p0 P X Y 1 N) p0 (u.2 22 p0.toNatClampNeg)).toInt ≤ 60) (sz : Nat) : Met l yX12_put wsX12_put ({ frames := 4, cells := 0, slots := 0, locals := 106 }) (va_Pc [.ref h0, .int p0, .int p1, .int p2, .int p3, .int p4] (fun U => U.heap.size = sz ∧ PW dC dI (mW h0 v cI cZ u) [(cI, .int), (cZ, .boolean)] U ∧ va_D (fun _ => True) (mW h0 v cI cZ u))) (va_Qi (fun (r : Int32) (u9 : mS) => putQ u p0 u9) (fun u9 t => va_P (dC, dI) vwCl (mW h0 v cI cZ u9) t.heap ∧ va_D (va_A (mW h0 v cI cZ u) sz) (mW h0 v cI cZ u9)) (va_A (mW h0 v cI cZ u) sz)) 0 0 (va_A (mW h0 v cI cZ u) sz) := by
  refine Met.ofW (cc := cX12_put) (maxL := 10) (ret := (some .int)) (by decide) rfl ?_
  intro p e s m args below meth c s₁ B hml hv
  obtain ⟨rfl, hsz, ⟨hP, hK, hN⟩, hD0⟩ := hv
  have hx := B.exec
  have hb := B.bytes
  have hr := B.returns
  have hts := atoms_spec (ws := wsX12_put) B.pre
  have hown : s.vm.findClass RX12 = some m.cls := findClass_of_methodNamed B.named
  have hlocks := B.notSynchronized
  subst hsz
  have hD := hD0.self (sz := s.heap.size)
  generalize hAe : va_A (mW h0 v cI cZ u) s.heap.size = A at hD ⊢
  have hA : ∀ q : Nat, s.heap.size ≤ q → A q := fun q h => by rw [← hAe]; exact Or.inr h
  have hS : va_S A s.heap s.heap [] := va_S.rf
  have hl := lv_entry ([.ref h0, .int p0, .int p1, .int p2, .int p3, .int p4]) (n := 10) (Nat.le_of_ble_eq_true rfl)
  rw [lg_entry_eq]
  generalize (lg_sl ([.ref h0, .int p0, .int p1, .int p2, .int p3, .int p4]) ++ List.replicate (10 - (lg_sl ([.ref h0, .int p0, .int p1, .int p2, .int p3, .int p4])).length) Slot.unset).toArray = ls at hl ⊢
  have hl : lv_has ls 10 [(0, .ref h0), (1, .int p0), (2, .int p1), (3, .int p2), (4, .int p3), (5, .int p4)] := hl
  refine lv_aload_n hx hb dX12_put_0 rfl (lv_at hl 0 rfl) ?_
  refine lv_iload_n hx hb dX12_put_1 rfl (lv_at hl 1 rfl) ?_
  refine vp_callSi (va_runV (As := [.int p0]) (rest := []) ⟨hx, hb, hml, hown, hts⟩ (m_isItem l dC dI h0 v cI cZ u p0) (cwV 1 hts gX12_put_X12_isItem rfl rfl rfl (by decide +kernel) ⟨Nat.le_of_ble_eq_true rfl, Nat.le_of_ble_eq_true rfl⟩) ⟨pw_fb, va_recv hK hP (ci := 11) (q0 := 0) rfl rfl, fun U hU hW => ⟨rfl, pw_to hU hW hP hK hN⟩⟩ rfl rfl hl.1 rfl (lv_room (Nat.le_of_ble_eq_true rfl)) dX12_put_2 ⟨Nat.le_of_ble_eq_true rfl, Nat.le_of_ble_eq_true rfl⟩).run (fun r hw => ?_)
  rcases Bool.eq_false_or_eq_true (bw p0 0 (u.1 3 - 1)) with b_1 | b_1
  ·
    obtain rfl : r = 1 := b_t hw b_1
    refine lv_if_eq (tgt := 18) hx hb dX12_put_5 (by decide) (fun c_2 => absurd c_2 (by decide)) (fun c_2 => ?_)
    refine lv_aload_n hx hb dX12_put_8 rfl (lv_at hl 0 rfl) ?_
    refine va_get (D := (dC, dI)) (ci := 11) (v := .int (u.1 28)) (C := RX12) (T := TX12) (N := 52) hx hb hts (by decide +kernel) hown hK hP 0 rfl rfl 28 (by decide) (hts (.fieldLink RX12 158 "PageOneModel" "acts" "I") (by decide +kernel)) (fun _ h9 => h9) rfl dX12_put_9 ?_
    refine lv_sipush (v := 300) hx hb dX12_put_12 (by decide) ?_
    refine lv_icmp_ne (tgt := 20) hx hb dX12_put_15 (by decide) (fun c_3 => ?_) (fun c_3 => ?_)
    ·
      refine lv_aload_n hx hb dX12_put_20 rfl (lv_at hl 0 rfl) ?_
      refine va_get (D := (dC, dI)) (ci := 11) (v := .ref (v 4)) (C := RX12) (T := TX12) (N := 52) hx hb hts (by decide +kernel) hown hK hP 0 rfl rfl 4 (by decide) (hts (.fieldLink RX12 19 "PageOneModel" "kind" "[I") (by decide +kernel)) (fun _ h9 => h9) rfl dX12_put_21 ?_
      refine lv_iload_n hx hb dX12_put_24 rfl (lv_at hl 1 rfl) ?_
      refine va_iald hx hb hK hP 4 0 rfl rfl (vIt hn b_1) dX12_put_25 ?_
      refine lv_topi (fun x_4 ex_4 => ?_)
      refine lv_istore (lv' := [(6, .int x_4), (0, .ref h0), (1, .int p0), (2, .int p1), (3, .int p2), (4, .int p3), (5, .int p4)]) hx hb dX12_put_26 hl (by decide) rfl (fun ls hl => ?_)
      have hit := b_1
      have hi := it79 hn hit
      have h300 := c_3
      refine w_cut (X := fun R cells slots Q args => ∀ (a7 : Int32) (a8 : Int32) (g9 : Int32) (ls : Array Slot), (g9 = 0 ∨ (g9 = 1 ∧ (x_4 = 0 ∨ u.2 22 p0.toNatClampNeg = 0) ∧ mFreeP u p1 p2 p3 a7 a8)) → lv_has ls 10 [(9, .int g9), (8, .int a8), (7, .int a7), (6, .int x_4), (0, .ref h0), (1, .int p0), (2, .int p1), (3, .int p2), (4, .int p3), (5, .int p4)] → W p l e R s m args below meth c s.heap [] cells slots Q (F0 m 203 ls [])) ?_ (fun kJ203 => ?_)
      ·
        intro a7 a8 g9 ls hG hl
        rcases hG with h9 | ⟨h9, hk0, hfree⟩
        ·
          subst h9
          refine lv_iload hx hb dX12_put_203 (lv_at hl 0 rfl) ?_
          refine lv_if_ne (tgt := 210) hx hb dX12_put_205 (by decide) (fun c_5 => absurd (by decide) c_5) (fun c_5 => ?_)
          refine lv_iconst (v := (-1)) hx hb dX12_put_208 (by decide) ?_
          exact W.iret (v := (-1)) hx hb hr (fun t ht hW => ⟨⟨(-1), u, rfl, (Or.inl rfl), by rw [ht]; exact hP, hD⟩, hS.F ht⟩) hS.2.2 dX12_put_209
        ·
          subst h9
          obtain ⟨P, X, Y, D, N, eP, eX, eY, eD, eN, hPP, hXW, hYN, hDD1, hN1⟩ := free_rect hln hfree
          subst eP eX eY eD eN
          refine w_cut (X := fun R cells slots Q args => ∀ (uJ343 : mS) (H : Heap) (locs : List Loc) (g5 : Int32) (ls : Array Slot), putM u p0 P X Y N g5 uJ343 → va_P (dC, dI) vwCl (mW h0 v cI cZ uJ343) H → va_D A (mW h0 v cI cZ uJ343) → va_S A s.heap H locs → lv_has ls 10 [(9, .int g5), (8, .int (nI N)), (7, .int (nI D)), (0, .ref h0), (1, .int p0), (2, .int (nI P)), (3, .int (nI X)), (4, .int (nI Y)), (5, .int p4)] → W p l e R s m args below meth c H locs cells slots Q (F0 m 343 ls [])) ?_ (fun kJ343 => ?_)
          ·
            intro uJ343 H locs g5 ls hM hP hD hS hl
            have hJ1 : uJ343.1 28 = u.1 28 := by rcases hM with ⟨h, -⟩ | ⟨h, -⟩ <;> rw [h] <;> rfl
            have hJ2 : uJ343.2 22 p0.toNatClampNeg = u.2 22 p0.toNatClampNeg := hM.elim (fun h => by rw [h.1]) (fun h => by rw [h.1, mTry_22])
            refine lv_iload hx hb dX12_put_343 (lv_at hl 0 rfl) ?_
            refine lv_if_ne (tgt := 350) hx hb dX12_put_345 (by decide) (fun c_6 => ?_) (fun c_6 => ?_)
            ·
              have hq5 : bw (uJ343.2 22 p0.toNatClampNeg) 0 5 = true := by rw [hJ2]; exact hM.elim (fun h => z05 (h.2.resolve_left c_6)) (fun h => q05 (hpc _ (vlt (vin hi (by decide)))) h.2.2.1)
              refine lv_aload_n hx hb dX12_put_350 rfl (lv_at hl 3 rfl) ?_
              refine lv_iload_n hx hb dX12_put_351 rfl (lv_at hl 4 rfl) ?_
              refine lv_iload_n hx hb dX12_put_352 rfl (lv_at hl 5 rfl) ?_
              refine lv_iload_n hx hb dX12_put_353 rfl (lv_at hl 6 rfl) ?_
              refine lv_iload hx hb dX12_put_354 (lv_at hl 7 rfl) ?_
              refine lv_iload hx hb dX12_put_356 (lv_at hl 2 rfl) ?_
              refine lv_iload hx hb dX12_put_358 (lv_at hl 1 rfl) ?_
              have hFc := fr_all hD hS hA
              refine va_callv (va_runV (As := [.int p0, .int (nI P), .int (nI X), .int (nI Y), .int (nI D), .int (nI N)]) (rest := []) ⟨hx, hb, hml, hown, hts⟩ (m_stand l dC dI h0 v cI cZ uJ343 p0 P X Y D N hPP hXW hYN hi hq5 H.size) (cwV 6 hts gX12_put_X12_stand rfl rfl rfl (by decide +kernel) ⟨Nat.le_of_ble_eq_true rfl, Nat.le_of_ble_eq_true rfl⟩) ⟨gw_fb, va_recv hK hP (ci := 11) (q0 := 0) rfl rfl, fun U hU hW => ⟨rfl, by rw [hU], pw_to hU hW hP hK hN, hD.weaken (fun _ _ _ _ => trivial)⟩⟩ rfl rfl hl.1 rfl (lv_room (Nat.le_of_ble_eq_true rfl)) dX12_put_360 ⟨Nat.le_of_ble_eq_true rfl, Nat.le_of_ble_eq_true rfl⟩) hS (fun q _ h => hFc q h) hFc (fun u_7 t H1 locs ht hvm hw hB hz1 hk1 hS => ?_)
              obtain ⟨hP, hD1⟩ := hB
              rw [ht] at hP
              have hD := hD1.weaken (fun _ q _ h => hFc q.1 h)
              generalize H1 = H at hP hS ⊢
              have eu_7 := hw
              refine lv_aload_n hx hb dX12_put_363 rfl (lv_at hl 3 rfl) ?_
              refine lv_iconst (v := 0) hx hb dX12_put_364 (by decide) ?_
              refine lv_iload_n hx hb dX12_put_365 rfl (lv_at hl 4 rfl) ?_
              refine lv_iconst (v := 0) hx hb dX12_put_366 (by decide) ?_
              refine lv_iconst (v := 0) hx hb dX12_put_367 (by decide) ?_
              refine lv_iconst (v := 0) hx hb dX12_put_368 (by decide) ?_
              refine lv_iconst (v := 0) hx hb dX12_put_369 (by decide) ?_
              refine lv_iconst (v := 0) hx hb dX12_put_370 (by decide) ?_
              have hFc := fr_all hD hS hA
              refine va_callv (va_runV (As := [.int 0, .int p0, .int 0, .int 0, .int 0, .int 0, .int 0]) (rest := []) ⟨hx, hb, hml, hown, hts⟩ (m_acts l dC dI h0 v cI cZ u_7 0 p0 0 0 0 0 0 (by rw [eu_7]; show bw (uJ343.1 28) 0 299 = true; rw [hJ1]; exact v300 ha h300) H.size) (cwV 7 hts gX12_put_X12_acts rfl rfl rfl (by decide +kernel) ⟨Nat.le_of_ble_eq_true rfl, Nat.le_of_ble_eq_true rfl⟩) ⟨gw_fb, va_recv hK hP (ci := 11) (q0 := 0) rfl rfl, fun U hU hW => ⟨rfl, by rw [hU], pw_to hU hW hP hK hN, hD.weaken (fun _ _ _ _ => trivial)⟩⟩ rfl rfl hl.1 rfl (lv_room (Nat.le_of_ble_eq_true rfl)) dX12_put_371 ⟨Nat.le_of_ble_eq_true rfl, Nat.le_of_ble_eq_true rfl⟩) hS (fun q _ h => hFc q h) hFc (fun u_8 t H1 locs ht hvm hw hB hz1 hk1 hS => ?_)
              obtain ⟨hP, hD1⟩ := hB
              rw [ht] at hP
              have hD := hD1.weaken (fun _ q _ h => hFc q.1 h)
              generalize H1 = H at hP hS ⊢
              have eu_8 := hw
              refine lv_aload_n hx hb dX12_put_374 rfl (lv_at hl 3 rfl) ?_
              refine va_get (D := (dC, dI)) (ci := 11) (v := .ref (v 22)) (C := RX12) (T := TX12) (N := 52) hx hb hts (by decide +kernel) hown hK hP 0 rfl rfl 22 (by decide) (hts (.fieldLink RX12 74 "PageOneModel" "pieces" "[I") (by decide +kernel)) (fun _ h9 => h9) rfl dX12_put_375 ?_
              refine lv_iload_n hx hb dX12_put_378 rfl (lv_at hl 4 rfl) ?_
              refine va_iald hx hb hK hP 22 0 rfl rfl (vin hi (by decide)) dX12_put_379 ?_
              exact W.iret (v := (u_8.2 22 (p0 : Int32).toNatClampNeg)) hx hb hr (fun t ht hW => ⟨⟨(u_8.2 22 (p0 : Int32).toNatClampNeg), u_8, rfl, (Or.inr ⟨hit, P, X, Y, D, N, hPP, hXW, hYN, hDD1, hN1, hM.elim (fun h => Or.inr (Or.inl ⟨h300, h.2.resolve_left c_6, by rw [eu_8, eu_7, h.1]⟩)) (fun h => Or.inr (Or.inr ⟨h300, h.2.1, h.2.2.1, h.2.2.2.resolve_left c_6, by rw [eu_8, eu_7, h.1]⟩))⟩), by rw [ht]; exact hP, hD⟩, hS.F ht⟩) hS.2.2 dX12_put_380
            ·
              refine lv_iconst (v := (-1)) hx hb dX12_put_348 (by decide) ?_
              exact W.iret (v := (-1)) hx hb hr (fun t ht hW => ⟨⟨(-1), uJ343, rfl, (hM.elim (fun h => Or.inl h.1) (fun h => Or.inr ⟨hit, P, X, Y, D, N, hPP, hXW, hYN, hDD1, hN1, Or.inl ⟨h.2.2.1, h.1⟩⟩)), by rw [ht]; exact hP, hD⟩, hS.F ht⟩) hS.2.2 dX12_put_349
          ·
            refine lv_iload hx hb dX12_put_203 (lv_at hl 0 rfl) ?_
            refine lv_if_ne (tgt := 210) hx hb dX12_put_205 (by decide) (fun c_9 => ?_) (fun c_9 => absurd c_9 (by decide))
            refine lv_iload hx hb dX12_put_210 (lv_at hl 3 rfl) ?_
            rcases Classical.em (x_4 = 0) with s_10 | s_10
            ·
              subst s_10
              refine lv_tableIn (tgt := 252) (off := 40) hx hb dX12_put_212 (by decide) (by decide) (by decide) (by decide) ?_
              refine lv_aload_n hx hb dX12_put_252 rfl (lv_at hl 4 rfl) ?_
              refine lv_iload_n hx hb dX12_put_253 rfl (lv_at hl 5 rfl) ?_
              refine lv_iload_n hx hb dX12_put_254 rfl (lv_at hl 6 rfl) ?_
              refine lv_iload_n hx hb dX12_put_255 rfl (lv_at hl 7 rfl) ?_
              refine lv_iload hx hb dX12_put_256 (lv_at hl 8 rfl) ?_
              refine lv_iload hx hb dX12_put_258 (lv_at hl 1 rfl) ?_
              have hFc := fr_all hD hS hA
              refine va_calli (va_runV (As := [.int p0, .int (nI P), .int (nI X), .int (nI Y), .int (nI N)]) (rest := []) ⟨hx, hb, hml, hown, hts⟩ (m_mayRun l dC dI h0 v cI cZ u p0 P X Y N hPP (by omega) hYN hi (hpc _ (vlt (vin hi (by decide)))) (hcm _ (vlt (vin hi (by decide)))) (fun h => by rw [add_sub1]; exact v6a hi (k5 (hpc _ (vlt (vin hi (by decide)))) (bwS (hpc _ (vlt (vin hi (by decide)))) h)) rfl) (hfr hi P X Y N hPP (by omega) hN1 hYN) s.heap.size) (cwV 5 hts gX12_put_X12_mayRun rfl rfl rfl (by decide +kernel) ⟨Nat.le_of_ble_eq_true rfl, Nat.le_of_ble_eq_true rfl⟩) ⟨gw_fb, va_recv hK hP (ci := 11) (q0 := 0) rfl rfl, fun U hU hW => ⟨rfl, by rw [hU], pw_to hU hW hP hK hN, hD.weaken (fun _ _ _ _ => trivial)⟩⟩ rfl rfl hl.1 rfl (lv_room (Nat.le_of_ble_eq_true rfl)) dX12_put_260 ⟨Nat.le_of_ble_eq_true rfl, Nat.le_of_ble_eq_true rfl⟩) hS (fun q _ h => hFc q h) hFc (fun r u_11 t H1 locs ht hvm hw hB hz1 hk1 hS => ?_)
              obtain ⟨hP, hD1⟩ := hB
              rw [ht] at hP
              have hD := hD1.weaken (fun _ q _ h => hFc q.1 h)
              generalize H1 = H at hP hS ⊢
              generalize r = z_12 at hw ⊢
              have hrun := hw
              refine lv_istore (lv' := [(9, .int z_12), (8, .int (nI N)), (7, .int (nI D)), (6, .int 0), (0, .ref h0), (1, .int p0), (2, .int (nI P)), (3, .int (nI X)), (4, .int (nI Y)), (5, .int p4)]) hx hb dX12_put_263 hl (by decide) rfl (fun ls hl => ?_)
              refine lv_goto (tgt := 343) hx hb dX12_put_265 (by decide) ?_
              exact kJ343 _ _ _ _ ls (hrun.elim (fun h => Or.inl ⟨h.2, Or.inl h.1⟩) (fun h => Or.inr ⟨h.2.2.1, ex_4.symm, h.2.1, h.1.imp id (fun q => h.2.2.2 q)⟩)) hP hD hS (lv_sub hl [0, 1, 2, 4, 5, 6, 7, 8, 9] rfl)
            ·
              rcases Classical.em (x_4 = 1) with s_13 | s_13
              ·
                subst s_13
                refine lv_tableIn (tgt := 343) (off := 131) hx hb dX12_put_212 (by decide) (by decide) (by decide) (by decide) ?_
                exact kJ343 _ _ _ _ ls (Or.inl ⟨rfl, Or.inr (hk0.resolve_left (by first | decide | assumption))⟩) hP hD hS (lv_sub hl [0, 1, 2, 4, 5, 6, 7, 8, 9] rfl)
              ·
                rcases Classical.em (x_4 = 2) with s_14 | s_14
                ·
                  subst s_14
                  refine lv_tableIn (tgt := 343) (off := 131) hx hb dX12_put_212 (by decide) (by decide) (by decide) (by decide) ?_
                  exact kJ343 _ _ _ _ ls (Or.inl ⟨rfl, Or.inr (hk0.resolve_left (by first | decide | assumption))⟩) hP hD hS (lv_sub hl [0, 1, 2, 4, 5, 6, 7, 8, 9] rfl)
                ·
                  rcases Classical.em (x_4 = 3) with s_15 | s_15
                  ·
                    subst s_15
                    refine lv_tableIn (tgt := 268) (off := 56) hx hb dX12_put_212 (by decide) (by decide) (by decide) (by decide) ?_
                    refine lv_iload_n hx hb dX12_put_268 rfl (lv_at hl 6 rfl) ?_
                    refine lv_aload_n hx hb dX12_put_269 rfl (lv_at hl 4 rfl) ?_
                    refine va_get (D := (dC, dI)) (ci := 11) (v := .ref (v 11)) (C := RX12) (T := TX12) (N := 52) hx hb hts (by decide +kernel) hown hK hP 0 rfl rfl 11 (by decide) (hts (.fieldLink RX12 40 "PageOneModel" "soldPage" "[I") (by decide +kernel)) (fun _ h9 => h9) rfl dX12_put_270 ?_
                    refine lv_iload_n hx hb dX12_put_273 rfl (lv_at hl 5 rfl) ?_
                    refine va_iald hx hb hK hP 11 0 rfl rfl (vin hi (by decide)) dX12_put_274 ?_
                    refine lv_icmp_ne (tgt := 303) hx hb dX12_put_275 (by decide) (fun c_16 => ?_) (fun c_16 => ?_)
                    ·
                      refine lv_iconst (v := 0) hx hb dX12_put_303 (by decide) ?_
                      refine lv_istore (lv' := [(9, .int 0), (8, .int (nI N)), (7, .int (nI D)), (6, .int 3), (0, .ref h0), (1, .int p0), (2, .int (nI P)), (3, .int (nI X)), (4, .int (nI Y)), (5, .int p4)]) hx hb dX12_put_304 hl (by decide) rfl (fun ls hl => ?_)
                      refine lv_goto (tgt := 343) hx hb dX12_put_306 (by decide) ?_
                      exact kJ343 _ _ _ _ ls (Or.inl ⟨rfl, Or.inr (hk0.resolve_left (by first | decide | assumption))⟩) hP hD hS (lv_sub hl [0, 1, 2, 4, 5, 6, 7, 8, 9] rfl)
                    ·
                      refine lv_iload_n hx hb dX12_put_278 rfl (lv_at hl 7 rfl) ?_
                      refine lv_aload_n hx hb dX12_put_279 rfl (lv_at hl 4 rfl) ?_
                      refine va_get (D := (dC, dI)) (ci := 11) (v := .ref (v 12)) (C := RX12) (T := TX12) (N := 52) hx hb hts (by decide +kernel) hown hK hP 0 rfl rfl 12 (by decide) (hts (.fieldLink RX12 43 "PageOneModel" "soldColumn" "[I") (by decide +kernel)) (fun _ h9 => h9) rfl dX12_put_280 ?_
                      refine lv_iload_n hx hb dX12_put_283 rfl (lv_at hl 5 rfl) ?_
                      refine va_iald hx hb hK hP 12 0 rfl rfl (vin hi (by decide)) dX12_put_284 ?_
                      refine lv_icmp_ne (tgt := 303) hx hb dX12_put_285 (by decide) (fun c_17 => ?_) (fun c_17 => ?_)
                      ·
                        refine lv_iconst (v := 0) hx hb dX12_put_303 (by decide) ?_
                        refine lv_istore (lv' := [(9, .int 0), (8, .int (nI N)), (7, .int (nI D)), (6, .int 3), (0, .ref h0), (1, .int p0), (2, .int (nI P)), (3, .int (nI X)), (4, .int (nI Y)), (5, .int p4)]) hx hb dX12_put_304 hl (by decide) rfl (fun ls hl => ?_)
                        refine lv_goto (tgt := 343) hx hb dX12_put_306 (by decide) ?_
                        exact kJ343 _ _ _ _ ls (Or.inl ⟨rfl, Or.inr (hk0.resolve_left (by first | decide | assumption))⟩) hP hD hS (lv_sub hl [0, 1, 2, 4, 5, 6, 7, 8, 9] rfl)
                      ·
                        refine lv_iload hx hb dX12_put_288 (lv_at hl 8 rfl) ?_
                        refine lv_aload_n hx hb dX12_put_290 rfl (lv_at hl 4 rfl) ?_
                        refine va_get (D := (dC, dI)) (ci := 11) (v := .ref (v 13)) (C := RX12) (T := TX12) (N := 52) hx hb hts (by decide +kernel) hown hK hP 0 rfl rfl 13 (by decide) (hts (.fieldLink RX12 46 "PageOneModel" "soldLine" "[I") (by decide +kernel)) (fun _ h9 => h9) rfl dX12_put_291 ?_
                        refine lv_iload_n hx hb dX12_put_294 rfl (lv_at hl 5 rfl) ?_
                        refine va_iald hx hb hK hP 13 0 rfl rfl (vin hi (by decide)) dX12_put_295 ?_
                        refine lv_icmp_ne (tgt := 303) hx hb dX12_put_296 (by decide) (fun c_18 => ?_) (fun c_18 => ?_)
                        ·
                          refine lv_iconst (v := 0) hx hb dX12_put_303 (by decide) ?_
                          refine lv_istore (lv' := [(9, .int 0), (8, .int (nI N)), (7, .int (nI D)), (6, .int 3), (0, .ref h0), (1, .int p0), (2, .int (nI P)), (3, .int (nI X)), (4, .int (nI Y)), (5, .int p4)]) hx hb dX12_put_304 hl (by decide) rfl (fun ls hl => ?_)
                          refine lv_goto (tgt := 343) hx hb dX12_put_306 (by decide) ?_
                          exact kJ343 _ _ _ _ ls (Or.inl ⟨rfl, Or.inr (hk0.resolve_left (by first | decide | assumption))⟩) hP hD hS (lv_sub hl [0, 1, 2, 4, 5, 6, 7, 8, 9] rfl)
                        ·
                          refine lv_iconst (v := 1) hx hb dX12_put_299 (by decide) ?_
                          refine lv_goto (tgt := 304) hx hb dX12_put_300 (by decide) ?_
                          refine lv_istore (lv' := [(9, .int 1), (8, .int (nI N)), (7, .int (nI D)), (6, .int 3), (0, .ref h0), (1, .int p0), (2, .int (nI P)), (3, .int (nI X)), (4, .int (nI Y)), (5, .int p4)]) hx hb dX12_put_304 hl (by decide) rfl (fun ls hl => ?_)
                          refine lv_goto (tgt := 343) hx hb dX12_put_306 (by decide) ?_
                          exact kJ343 _ _ _ _ ls (Or.inl ⟨rfl, Or.inr (hk0.resolve_left (by first | decide | assumption))⟩) hP hD hS (lv_sub hl [0, 1, 2, 4, 5, 6, 7, 8, 9] rfl)
                  ·
                    rcases Classical.em (x_4 = 4) with s_19 | s_19
                    ·
                      subst s_19
                      refine lv_tableIn (tgt := 309) (off := 97) hx hb dX12_put_212 (by decide) (by decide) (by decide) (by decide) ?_
                      refine lv_iload hx hb dX12_put_309 (lv_at hl 1 rfl) ?_
                      refine lv_aload_n hx hb dX12_put_311 rfl (lv_at hl 4 rfl) ?_
                      refine va_get (D := (dC, dI)) (ci := 11) (v := .ref (v 5)) (C := RX12) (T := TX12) (N := 52) hx hb hts (by decide +kernel) hown hK hP 0 rfl rfl 5 (by decide) (hts (.fieldLink RX12 22 "PageOneModel" "least" "[I") (by decide +kernel)) (fun _ h9 => h9) rfl dX12_put_312 ?_
                      refine lv_iload_n hx hb dX12_put_315 rfl (lv_at hl 5 rfl) ?_
                      refine va_iald hx hb hK hP 5 0 rfl rfl (vin hi (by decide)) dX12_put_316 ?_
                      refine lv_aload_n hx hb dX12_put_317 rfl (lv_at hl 4 rfl) ?_
                      refine va_get (D := (dC, dI)) (ci := 11) (v := .ref (v 6)) (C := RX12) (T := TX12) (N := 52) hx hb hts (by decide +kernel) hown hK hP 0 rfl rfl 6 (by decide) (hts (.fieldLink RX12 25 "PageOneModel" "most" "[I") (by decide +kernel)) (fun _ h9 => h9) rfl dX12_put_318 ?_
                      refine lv_iload_n hx hb dX12_put_321 rfl (lv_at hl 5 rfl) ?_
                      refine va_iald hx hb hK hP 6 0 rfl rfl (vin hi (by decide)) dX12_put_322 ?_
                      refine vp_callSi (va_runS (As := [.int (nI N), .int (u.2 5 (p0 : Int32).toNatClampNeg), .int (u.2 6 (p0 : Int32).toNatClampNeg)]) (rest := []) ⟨hx, hb, hml, hown, hts⟩ (m_in l dC dI (nI N) (u.2 5 (p0 : Int32).toNatClampNeg) (u.2 6 (p0 : Int32).toNatClampNeg)) (va_cwS 3 hts gX12_put_X12_in rfl rfl rfl (by decide +kernel) ⟨Nat.le_of_ble_eq_true rfl, Nat.le_of_ble_eq_true rfl⟩) ⟨pw_fb, fun U hU hW => ⟨rfl, pw_to hU hW (hP.sub (ws' := []) [] rfl) (hK.sub (tys' := []) [] rfl) hN⟩⟩ rfl rfl hl.1 rfl (lv_room (Nat.le_of_ble_eq_true rfl)) dX12_put_323 ⟨Nat.le_of_ble_eq_true rfl, Nat.le_of_ble_eq_true rfl⟩).run (fun r hw => ?_)
                      rcases Bool.eq_false_or_eq_true (bw (nI N) (u.2 5 (p0 : Int32).toNatClampNeg) (u.2 6 (p0 : Int32).toNatClampNeg)) with b_20 | b_20
                      ·
                        obtain rfl : r = 1 := b_t hw b_20
                        refine lv_istore (lv' := [(9, .int 1), (8, .int (nI N)), (7, .int (nI D)), (6, .int 4), (0, .ref h0), (1, .int p0), (2, .int (nI P)), (3, .int (nI X)), (4, .int (nI Y)), (5, .int p4)]) hx hb dX12_put_326 hl (by decide) rfl (fun ls hl => ?_)
                        refine lv_goto (tgt := 343) hx hb dX12_put_328 (by decide) ?_
                        exact kJ343 _ _ _ _ ls (Or.inl ⟨rfl, Or.inr (hk0.resolve_left (by first | decide | assumption))⟩) hP hD hS (lv_sub hl [0, 1, 2, 4, 5, 6, 7, 8, 9] rfl)
                      ·
                        obtain rfl : r = 0 := b_f hw b_20
                        refine lv_istore (lv' := [(9, .int 0), (8, .int (nI N)), (7, .int (nI D)), (6, .int 4), (0, .ref h0), (1, .int p0), (2, .int (nI P)), (3, .int (nI X)), (4, .int (nI Y)), (5, .int p4)]) hx hb dX12_put_326 hl (by decide) rfl (fun ls hl => ?_)
                        refine lv_goto (tgt := 343) hx hb dX12_put_328 (by decide) ?_
                        exact kJ343 _ _ _ _ ls (Or.inl ⟨rfl, Or.inr (hk0.resolve_left (by first | decide | assumption))⟩) hP hD hS (lv_sub hl [0, 1, 2, 4, 5, 6, 7, 8, 9] rfl)
                    ·
                      rcases Classical.em (x_4 = 5) with s_21 | s_21
                      ·
                        subst s_21
                        refine lv_tableIn (tgt := 331) (off := 119) hx hb dX12_put_212 (by decide) (by decide) (by decide) (by decide) ?_
                        refine lv_aload_n hx hb dX12_put_331 rfl (lv_at hl 4 rfl) ?_
                        refine lv_iload_n hx hb dX12_put_332 rfl (lv_at hl 5 rfl) ?_
                        refine lv_iload_n hx hb dX12_put_333 rfl (lv_at hl 6 rfl) ?_
                        refine lv_iload_n hx hb dX12_put_334 rfl (lv_at hl 7 rfl) ?_
                        refine vp_callSi (va_runV (As := [.int p0, .int (nI P), .int (nI X)]) (rest := []) ⟨hx, hb, hml, hown, hts⟩ (m_mayMend l dC dI h0 v cI cZ u p0 (nI P) (nI X) hi hn hd) (cwV 3 hts gX12_put_X12_mayMend rfl rfl rfl (by decide +kernel) ⟨Nat.le_of_ble_eq_true rfl, Nat.le_of_ble_eq_true rfl⟩) ⟨pw_fb, va_recv hK hP (ci := 11) (q0 := 0) rfl rfl, fun U hU hW => ⟨rfl, pw_to hU hW hP hK hN⟩⟩ rfl rfl hl.1 rfl (lv_room (Nat.le_of_ble_eq_true rfl)) dX12_put_335 ⟨Nat.le_of_ble_eq_true rfl, Nat.le_of_ble_eq_true rfl⟩).run (fun r hw => ?_)
                        generalize r = z_22 at hw ⊢
                        refine lv_istore (lv' := [(9, .int z_22), (8, .int (nI N)), (7, .int (nI D)), (6, .int 5), (0, .ref h0), (1, .int p0), (2, .int (nI P)), (3, .int (nI X)), (4, .int (nI Y)), (5, .int p4)]) hx hb dX12_put_338 hl (by decide) rfl (fun ls hl => ?_)
                        refine lv_goto (tgt := 343) hx hb dX12_put_340 (by decide) ?_
                        exact kJ343 _ _ _ _ ls (Or.inl ⟨rfl, Or.inr (hk0.resolve_left (by first | decide | assumption))⟩) hP hD hS (lv_sub hl [0, 1, 2, 4, 5, 6, 7, 8, 9] rfl)
                      ·
                        refine lv_tableOut (tgt := 343) hx hb dX12_put_212 (sw_out5 s_10 s_13 s_14 s_15 s_19 s_21) (by decide) ?_
                        exact kJ343 _ _ _ _ ls (Or.inl ⟨rfl, Or.inr (hk0.resolve_left (by first | decide | assumption))⟩) hP hD hS (lv_sub hl [0, 1, 2, 4, 5, 6, 7, 8, 9] rfl)
      ·
        refine w_cut (X := fun R cells slots Q args => ∀ (a7 : Int32) (a8 : Int32) (g9 : Int32) (ls : Array Slot), lv_has ls 10 [(9, .int g9), (8, .int a8), (7, .int a7), (6, .int x_4), (0, .ref h0), (1, .int p0), (2, .int p1), (3, .int p2), (4, .int p3), (5, .int p4)] → W p l e R s m args below meth c s.heap [] cells slots Q (F0 m 156 ls [])) ?_ (fun kJ156 => ?_)
        ·
          intro a7 a8 g9 ls hl
          refine lv_iload hx hb dX12_put_156 (lv_at hl 0 rfl) ?_
          refine lv_if_eq (tgt := 200) hx hb dX12_put_158 (by decide) (fun c_23 => ?_) (fun c_23 => ?_)
          ·
            refine lv_iconst (v := 0) hx hb dX12_put_200 (by decide) ?_
            refine lv_istore (lv' := [(9, .int 0), (8, .int a8), (7, .int a7), (6, .int x_4), (0, .ref h0), (1, .int p0), (2, .int p1), (3, .int p2), (4, .int p3), (5, .int p4)]) hx hb dX12_put_201 hl (by decide) rfl (fun ls hl => ?_)
            exact kJ203 _ _ _ ls (Or.inl rfl) (lv_sub hl [0, 1, 2, 3, 4, 5, 6, 7, 8, 9] rfl)
          ·
            refine lv_iload hx hb dX12_put_161 (lv_at hl 1 rfl) ?_
            refine lv_iconst (v := 1) hx hb dX12_put_163 (by decide) ?_
            refine lv_icmp_lt (tgt := 200) hx hb dX12_put_164 (by decide) (fun c_24 => ?_) (fun c_24 => ?_)
            ·
              refine lv_iconst (v := 0) hx hb dX12_put_200 (by decide) ?_
              refine lv_istore (lv' := [(9, .int 0), (8, .int a8), (7, .int a7), (6, .int x_4), (0, .ref h0), (1, .int p0), (2, .int p1), (3, .int p2), (4, .int p3), (5, .int p4)]) hx hb dX12_put_201 hl (by decide) rfl (fun ls hl => ?_)
              exact kJ203 _ _ _ ls (Or.inl rfl) (lv_sub hl [0, 1, 2, 3, 4, 5, 6, 7, 8, 9] rfl)
            ·
              refine lv_iload hx hb dX12_put_167 (lv_at hl 3 rfl) ?_
              refine lv_if_eq (tgt := 181) hx hb dX12_put_169 (by decide) (fun c_25 => ?_) (fun c_25 => ?_)
              ·
                refine lv_aload_n hx hb dX12_put_181 rfl (lv_at hl 4 rfl) ?_
                refine lv_iload_n hx hb dX12_put_182 rfl (lv_at hl 6 rfl) ?_
                refine lv_iload_n hx hb dX12_put_183 rfl (lv_at hl 7 rfl) ?_
                refine lv_iload hx hb dX12_put_184 (lv_at hl 8 rfl) ?_
                refine lv_iload hx hb dX12_put_186 (lv_at hl 2 rfl) ?_
                refine lv_iload hx hb dX12_put_188 (lv_at hl 1 rfl) ?_
                refine vp_callSi (va_runV (As := [.int p1, .int p2, .int p3, .int a7, .int a8]) (rest := []) ⟨hx, hb, hml, hown, hts⟩ (m_isFree l dC dI h0 v cI cZ u p1 p2 p3 a7 a8 hln) (cwV 5 hts gX12_put_X12_isFree rfl rfl rfl (by decide +kernel) ⟨Nat.le_of_ble_eq_true rfl, Nat.le_of_ble_eq_true rfl⟩) ⟨pw_fb, va_recv hK hP (ci := 11) (q0 := 0) rfl rfl, fun U hU hW => ⟨rfl, pw_to hU hW hP hK hN⟩⟩ rfl rfl hl.1 rfl (lv_room (Nat.le_of_ble_eq_true rfl)) dX12_put_190 ⟨Nat.le_of_ble_eq_true rfl, Nat.le_of_ble_eq_true rfl⟩).run (fun r hw => ?_)
                rcases hw with ⟨hw, hfree⟩ | ⟨hw, hfree⟩
                ·
                  subst hw
                  refine lv_if_eq (tgt := 200) hx hb dX12_put_193 (by decide) (fun c_26 => absurd c_26 (by decide)) (fun c_26 => ?_)
                  refine lv_iconst (v := 1) hx hb dX12_put_196 (by decide) ?_
                  refine lv_goto (tgt := 201) hx hb dX12_put_197 (by decide) ?_
                  refine lv_istore (lv' := [(9, .int 1), (8, .int a8), (7, .int a7), (6, .int x_4), (0, .ref h0), (1, .int p0), (2, .int p1), (3, .int p2), (4, .int p3), (5, .int p4)]) hx hb dX12_put_201 hl (by decide) rfl (fun ls hl => ?_)
                  exact kJ203 _ _ _ ls (Or.inr ⟨rfl, Or.inl c_25, hfree⟩) (lv_sub hl [0, 1, 2, 3, 4, 5, 6, 7, 8, 9] rfl)
                ·
                  subst hw
                  refine lv_if_eq (tgt := 200) hx hb dX12_put_193 (by decide) (fun c_27 => ?_) (fun c_27 => absurd (by decide) c_27)
                  refine lv_iconst (v := 0) hx hb dX12_put_200 (by decide) ?_
                  refine lv_istore (lv' := [(9, .int 0), (8, .int a8), (7, .int a7), (6, .int x_4), (0, .ref h0), (1, .int p0), (2, .int p1), (3, .int p2), (4, .int p3), (5, .int p4)]) hx hb dX12_put_201 hl (by decide) rfl (fun ls hl => ?_)
                  exact kJ203 _ _ _ ls (Or.inl rfl) (lv_sub hl [0, 1, 2, 3, 4, 5, 6, 7, 8, 9] rfl)
              ·
                refine lv_aload_n hx hb dX12_put_172 rfl (lv_at hl 4 rfl) ?_
                refine va_get (D := (dC, dI)) (ci := 11) (v := .ref (v 22)) (C := RX12) (T := TX12) (N := 52) hx hb hts (by decide +kernel) hown hK hP 0 rfl rfl 22 (by decide) (hts (.fieldLink RX12 74 "PageOneModel" "pieces" "[I") (by decide +kernel)) (fun _ h9 => h9) rfl dX12_put_173 ?_
                refine lv_iload_n hx hb dX12_put_176 rfl (lv_at hl 5 rfl) ?_
                refine va_iald hx hb hK hP 22 0 rfl rfl (vin hi (by decide)) dX12_put_177 ?_
                refine lv_if_ne (tgt := 200) hx hb dX12_put_178 (by decide) (fun c_28 => ?_) (fun c_28 => ?_)
                ·
                  refine lv_iconst (v := 0) hx hb dX12_put_200 (by decide) ?_
                  refine lv_istore (lv' := [(9, .int 0), (8, .int a8), (7, .int a7), (6, .int x_4), (0, .ref h0), (1, .int p0), (2, .int p1), (3, .int p2), (4, .int p3), (5, .int p4)]) hx hb dX12_put_201 hl (by decide) rfl (fun ls hl => ?_)
                  exact kJ203 _ _ _ ls (Or.inl rfl) (lv_sub hl [0, 1, 2, 3, 4, 5, 6, 7, 8, 9] rfl)
                ·
                  refine lv_aload_n hx hb dX12_put_181 rfl (lv_at hl 4 rfl) ?_
                  refine lv_iload_n hx hb dX12_put_182 rfl (lv_at hl 6 rfl) ?_
                  refine lv_iload_n hx hb dX12_put_183 rfl (lv_at hl 7 rfl) ?_
                  refine lv_iload hx hb dX12_put_184 (lv_at hl 8 rfl) ?_
                  refine lv_iload hx hb dX12_put_186 (lv_at hl 2 rfl) ?_
                  refine lv_iload hx hb dX12_put_188 (lv_at hl 1 rfl) ?_
                  refine vp_callSi (va_runV (As := [.int p1, .int p2, .int p3, .int a7, .int a8]) (rest := []) ⟨hx, hb, hml, hown, hts⟩ (m_isFree l dC dI h0 v cI cZ u p1 p2 p3 a7 a8 hln) (cwV 5 hts gX12_put_X12_isFree rfl rfl rfl (by decide +kernel) ⟨Nat.le_of_ble_eq_true rfl, Nat.le_of_ble_eq_true rfl⟩) ⟨pw_fb, va_recv hK hP (ci := 11) (q0 := 0) rfl rfl, fun U hU hW => ⟨rfl, pw_to hU hW hP hK hN⟩⟩ rfl rfl hl.1 rfl (lv_room (Nat.le_of_ble_eq_true rfl)) dX12_put_190 ⟨Nat.le_of_ble_eq_true rfl, Nat.le_of_ble_eq_true rfl⟩).run (fun r hw => ?_)
                  rcases hw with ⟨hw, hfree⟩ | ⟨hw, hfree⟩
                  ·
                    subst hw
                    refine lv_if_eq (tgt := 200) hx hb dX12_put_193 (by decide) (fun c_29 => absurd c_29 (by decide)) (fun c_29 => ?_)
                    refine lv_iconst (v := 1) hx hb dX12_put_196 (by decide) ?_
                    refine lv_goto (tgt := 201) hx hb dX12_put_197 (by decide) ?_
                    refine lv_istore (lv' := [(9, .int 1), (8, .int a8), (7, .int a7), (6, .int x_4), (0, .ref h0), (1, .int p0), (2, .int p1), (3, .int p2), (4, .int p3), (5, .int p4)]) hx hb dX12_put_201 hl (by decide) rfl (fun ls hl => ?_)
                    exact kJ203 _ _ _ ls (Or.inr ⟨rfl, Or.inr c_28, hfree⟩) (lv_sub hl [0, 1, 2, 3, 4, 5, 6, 7, 8, 9] rfl)
                  ·
                    subst hw
                    refine lv_if_eq (tgt := 200) hx hb dX12_put_193 (by decide) (fun c_30 => ?_) (fun c_30 => absurd (by decide) c_30)
                    refine lv_iconst (v := 0) hx hb dX12_put_200 (by decide) ?_
                    refine lv_istore (lv' := [(9, .int 0), (8, .int a8), (7, .int a7), (6, .int x_4), (0, .ref h0), (1, .int p0), (2, .int p1), (3, .int p2), (4, .int p3), (5, .int p4)]) hx hb dX12_put_201 hl (by decide) rfl (fun ls hl => ?_)
                    exact kJ203 _ _ _ ls (Or.inl rfl) (lv_sub hl [0, 1, 2, 3, 4, 5, 6, 7, 8, 9] rfl)
        ·
          refine w_cut (X := fun R cells slots Q args => ∀ (a7 : Int32) (a8 : Int32) (ls : Array Slot), lv_has ls 10 [(8, .int a8), (7, .int a7), (6, .int x_4), (0, .ref h0), (1, .int p0), (2, .int p1), (3, .int p2), (4, .int p3), (5, .int p4)] → W p l e R s m args below meth c s.heap [] cells slots Q (F0 m 127 ls [])) ?_ (fun kJ127 => ?_)
          ·
            intro a7 a8 ls hl
            refine lv_iload hx hb dX12_put_127 (lv_at hl 2 rfl) ?_
            refine lv_if_eq (tgt := 149) hx hb dX12_put_129 (by decide) (fun c_31 => ?_) (fun c_31 => ?_)
            ·
              refine lv_iconst (v := 1) hx hb dX12_put_149 (by decide) ?_
              refine lv_goto (tgt := 154) hx hb dX12_put_150 (by decide) ?_
              refine lv_istore (lv' := [(9, .int 1), (8, .int a8), (7, .int a7), (6, .int x_4), (0, .ref h0), (1, .int p0), (2, .int p1), (3, .int p2), (4, .int p3), (5, .int p4)]) hx hb dX12_put_154 hl (by decide) rfl (fun ls hl => ?_)
              exact kJ156 _ _ _ ls (lv_sub hl [0, 1, 2, 3, 4, 5, 6, 7, 8, 9] rfl)
            ·
              refine lv_iload hx hb dX12_put_132 (lv_at hl 2 rfl) ?_
              refine lv_iconst (v := 4) hx hb dX12_put_134 (by decide) ?_
              refine lv_icmp_eq (tgt := 149) hx hb dX12_put_135 (by decide) (fun c_32 => ?_) (fun c_32 => ?_)
              ·
                refine lv_iconst (v := 1) hx hb dX12_put_149 (by decide) ?_
                refine lv_goto (tgt := 154) hx hb dX12_put_150 (by decide) ?_
                refine lv_istore (lv' := [(9, .int 1), (8, .int a8), (7, .int a7), (6, .int x_4), (0, .ref h0), (1, .int p0), (2, .int p1), (3, .int p2), (4, .int p3), (5, .int p4)]) hx hb dX12_put_154 hl (by decide) rfl (fun ls hl => ?_)
                exact kJ156 _ _ _ ls (lv_sub hl [0, 1, 2, 3, 4, 5, 6, 7, 8, 9] rfl)
              ·
                refine lv_iload hx hb dX12_put_138 (lv_at hl 2 rfl) ?_
                refine lv_iconst (v := 2) hx hb dX12_put_140 (by decide) ?_
                refine lv_icmp_eq (tgt := 149) hx hb dX12_put_141 (by decide) (fun c_33 => ?_) (fun c_33 => ?_)
                ·
                  refine lv_iconst (v := 1) hx hb dX12_put_149 (by decide) ?_
                  refine lv_goto (tgt := 154) hx hb dX12_put_150 (by decide) ?_
                  refine lv_istore (lv' := [(9, .int 1), (8, .int a8), (7, .int a7), (6, .int x_4), (0, .ref h0), (1, .int p0), (2, .int p1), (3, .int p2), (4, .int p3), (5, .int p4)]) hx hb dX12_put_154 hl (by decide) rfl (fun ls hl => ?_)
                  exact kJ156 _ _ _ ls (lv_sub hl [0, 1, 2, 3, 4, 5, 6, 7, 8, 9] rfl)
                ·
                  refine lv_iload hx hb dX12_put_144 (lv_at hl 8 rfl) ?_
                  refine lv_if_ne (tgt := 153) hx hb dX12_put_146 (by decide) (fun c_34 => ?_) (fun c_34 => ?_)
                  ·
                    refine lv_iconst (v := 0) hx hb dX12_put_153 (by decide) ?_
                    refine lv_istore (lv' := [(9, .int 0), (8, .int a8), (7, .int a7), (6, .int x_4), (0, .ref h0), (1, .int p0), (2, .int p1), (3, .int p2), (4, .int p3), (5, .int p4)]) hx hb dX12_put_154 hl (by decide) rfl (fun ls hl => ?_)
                    exact kJ156 _ _ _ ls (lv_sub hl [0, 1, 2, 3, 4, 5, 6, 7, 8, 9] rfl)
                  ·
                    refine lv_iconst (v := 1) hx hb dX12_put_149 (by decide) ?_
                    refine lv_goto (tgt := 154) hx hb dX12_put_150 (by decide) ?_
                    refine lv_istore (lv' := [(9, .int 1), (8, .int a8), (7, .int a7), (6, .int x_4), (0, .ref h0), (1, .int p0), (2, .int p1), (3, .int p2), (4, .int p3), (5, .int p4)]) hx hb dX12_put_154 hl (by decide) rfl (fun ls hl => ?_)
                    exact kJ156 _ _ _ ls (lv_sub hl [0, 1, 2, 3, 4, 5, 6, 7, 8, 9] rfl)
          ·
            refine w_cut (X := fun R cells slots Q args => ∀ (a7 : Int32) (a8 : Int32) (ls : Array Slot), lv_has ls 10 [(8, .int a8), (7, .int a7), (6, .int x_4), (0, .ref h0), (1, .int p0), (2, .int p1), (3, .int p2), (4, .int p3), (5, .int p4)] → W p l e R s m args below meth c s.heap [] cells slots Q (F0 m 76 ls [])) ?_ (fun kJ76 => ?_)
            ·
              intro a7 a8 ls hl
              refine lv_iload hx hb dX12_put_76 (lv_at hl 2 rfl) ?_
              refine lv_iconst (v := 2) hx hb dX12_put_78 (by decide) ?_
              refine lv_icmp_ne (tgt := 127) hx hb dX12_put_79 (by decide) (fun c_35 => ?_) (fun c_35 => ?_)
              ·
                exact kJ127 _ _ ls (lv_sub hl [0, 1, 2, 3, 4, 5, 6, 7, 8] rfl)
              ·
                refine lv_iload hx hb dX12_put_82 (lv_at hl 8 rfl) ?_
                refine lv_iconst (v := 0) hx hb dX12_put_84 (by decide) ?_
                refine lv_aload_n hx hb dX12_put_85 rfl (lv_at hl 3 rfl) ?_
                refine va_get (D := (dC, dI)) (ci := 11) (v := .ref (v 17)) (C := RX12) (T := TX12) (N := 52) hx hb hts (by decide +kernel) hown hK hP 0 rfl rfl 17 (by decide) (hts (.fieldLink RX12 58 "PageOneModel" "sizes" "[I") (by decide +kernel)) (fun _ h9 => h9) rfl dX12_put_86 ?_
                refine lv_iload_n hx hb dX12_put_89 rfl (lv_at hl 4 rfl) ?_
                refine va_iald hx hb hK hP 17 0 rfl rfl (vin hi (by decide)) dX12_put_90 ?_
                refine lv_iconst (v := 1) hx hb dX12_put_91 (by decide) ?_
                refine lv_isub hx hb dX12_put_92 ?_
                refine vp_callSi (va_runS (As := [.int p4, .int 0, .int ((u.2 17 (p0 : Int32).toNatClampNeg) - 1)]) (rest := []) ⟨hx, hb, hml, hown, hts⟩ (m_in l dC dI p4 0 ((u.2 17 (p0 : Int32).toNatClampNeg) - 1)) (va_cwS 3 hts gX12_put_X12_in rfl rfl rfl (by decide +kernel) ⟨Nat.le_of_ble_eq_true rfl, Nat.le_of_ble_eq_true rfl⟩) ⟨pw_fb, fun U hU hW => ⟨rfl, pw_to hU hW (hP.sub (ws' := []) [] rfl) (hK.sub (tys' := []) [] rfl) hN⟩⟩ rfl rfl hl.1 rfl (lv_room (Nat.le_of_ble_eq_true rfl)) dX12_put_93 ⟨Nat.le_of_ble_eq_true rfl, Nat.le_of_ble_eq_true rfl⟩).run (fun r hw => ?_)
                rcases Bool.eq_false_or_eq_true (bw p4 0 ((u.2 17 (p0 : Int32).toNatClampNeg) - 1)) with b_36 | b_36
                ·
                  obtain rfl : r = 1 := b_t hw b_36
                  refine lv_if_ne (tgt := 101) hx hb dX12_put_96 (by decide) (fun c_37 => ?_) (fun c_37 => absurd c_37 (by decide))
                  refine lv_aload_n hx hb dX12_put_101 rfl (lv_at hl 3 rfl) ?_
                  refine va_get (D := (dC, dI)) (ci := 11) (v := .ref (v 18)) (C := RX12) (T := TX12) (N := 52) hx hb hts (by decide +kernel) hown hK hP 0 rfl rfl 18 (by decide) (hts (.fieldLink RX12 61 "PageOneModel" "sizeW" "[I") (by decide +kernel)) (fun _ h9 => h9) rfl dX12_put_102 ?_
                  refine lv_iconst (v := 4) hx hb dX12_put_105 (by decide) ?_
                  refine lv_iload_n hx hb dX12_put_106 rfl (lv_at hl 4 rfl) ?_
                  refine lv_imul hx hb dX12_put_107 ?_
                  refine lv_iload hx hb dX12_put_108 (lv_at hl 8 rfl) ?_
                  refine lv_iadd hx hb dX12_put_110 ?_
                  refine va_iald hx hb hK hP 18 0 rfl rfl (vSz hi (hsz _ (vlt (vin hi (by decide)))) b_36) dX12_put_111 ?_
                  refine lv_topi (fun x_38 ex_38 => ?_)
                  refine lv_istore (lv' := [(7, .int x_38), (8, .int a8), (6, .int x_4), (0, .ref h0), (1, .int p0), (2, .int p1), (3, .int p2), (4, .int p3), (5, .int p4)]) hx hb dX12_put_112 hl (by decide) rfl (fun ls hl => ?_)
                  refine lv_aload_n hx hb dX12_put_114 rfl (lv_at hl 3 rfl) ?_
                  refine va_get (D := (dC, dI)) (ci := 11) (v := .ref (v 19)) (C := RX12) (T := TX12) (N := 52) hx hb hts (by decide +kernel) hown hK hP 0 rfl rfl 19 (by decide) (hts (.fieldLink RX12 64 "PageOneModel" "sizeH" "[I") (by decide +kernel)) (fun _ h9 => h9) rfl dX12_put_115 ?_
                  refine lv_iconst (v := 4) hx hb dX12_put_118 (by decide) ?_
                  refine lv_iload_n hx hb dX12_put_119 rfl (lv_at hl 4 rfl) ?_
                  refine lv_imul hx hb dX12_put_120 ?_
                  refine lv_iload hx hb dX12_put_121 (lv_at hl 8 rfl) ?_
                  refine lv_iadd hx hb dX12_put_123 ?_
                  refine va_iald hx hb hK hP 19 0 rfl rfl (vSz hi (hsz _ (vlt (vin hi (by decide)))) b_36) dX12_put_124 ?_
                  refine lv_topi (fun x_39 ex_39 => ?_)
                  refine lv_istore (lv' := [(8, .int x_39), (7, .int x_38), (6, .int x_4), (0, .ref h0), (1, .int p0), (2, .int p1), (3, .int p2), (4, .int p3), (5, .int p4)]) hx hb dX12_put_125 hl (by decide) rfl (fun ls hl => ?_)
                  exact kJ127 _ _ ls (lv_sub hl [0, 1, 2, 3, 4, 5, 6, 7, 8] rfl)
                ·
                  obtain rfl : r = 0 := b_f hw b_36
                  refine lv_if_ne (tgt := 101) hx hb dX12_put_96 (by decide) (fun c_40 => absurd (by decide) c_40) (fun c_40 => ?_)
                  refine lv_iconst (v := (-1)) hx hb dX12_put_99 (by decide) ?_
                  exact W.iret (v := (-1)) hx hb hr (fun t ht hW => ⟨⟨(-1), u, rfl, (Or.inl rfl), by rw [ht]; exact hP, hD⟩, hS.F ht⟩) hS.2.2 dX12_put_100
            ·
              refine w_cut (X := fun R cells slots Q args => ∀ (a7 : Int32) (ls : Array Slot), lv_has ls 10 [(7, .int a7), (6, .int x_4), (0, .ref h0), (1, .int p0), (2, .int p1), (3, .int p2), (4, .int p3), (5, .int p4)] → W p l e R s m args below meth c s.heap [] cells slots Q (F0 m 52 ls [])) ?_ (fun kJ52 => ?_)
              ·
                intro a7 ls hl
                refine lv_iload hx hb dX12_put_52 (lv_at hl 1 rfl) ?_
                refine lv_if_eq (tgt := 63) hx hb dX12_put_54 (by decide) (fun c_41 => ?_) (fun c_41 => ?_)
                ·
                  refine lv_iload hx hb dX12_put_63 (lv_at hl 7 rfl) ?_
                  refine lv_goto (tgt := 74) hx hb dX12_put_65 (by decide) ?_
                  refine lv_istore (lv' := [(8, .int p4), (7, .int a7), (6, .int x_4), (0, .ref h0), (1, .int p0), (2, .int p1), (3, .int p2), (4, .int p3), (5, .int p4)]) hx hb dX12_put_74 hl (by decide) rfl (fun ls hl => ?_)
                  exact kJ76 _ _ ls (lv_sub hl [0, 1, 2, 3, 4, 5, 6, 7, 8] rfl)
                ·
                  refine lv_iload hx hb dX12_put_57 (lv_at hl 1 rfl) ?_
                  refine lv_iconst (v := 4) hx hb dX12_put_59 (by decide) ?_
                  refine lv_icmp_ne (tgt := 68) hx hb dX12_put_60 (by decide) (fun c_42 => ?_) (fun c_42 => ?_)
                  ·
                    refine lv_aload_n hx hb dX12_put_68 rfl (lv_at hl 2 rfl) ?_
                    refine va_get (D := (dC, dI)) (ci := 11) (v := .ref (v 8)) (C := RX12) (T := TX12) (N := 52) hx hb hts (by decide +kernel) hown hK hP 0 rfl rfl 8 (by decide) (hts (.fieldLink RX12 31 "PageOneModel" "high" "[I") (by decide +kernel)) (fun _ h9 => h9) rfl dX12_put_69 ?_
                    refine lv_iload_n hx hb dX12_put_72 rfl (lv_at hl 3 rfl) ?_
                    refine va_iald hx hb hK hP 8 0 rfl rfl (vin hi (by decide)) dX12_put_73 ?_
                    refine lv_topi (fun x_43 ex_43 => ?_)
                    refine lv_istore (lv' := [(8, .int x_43), (7, .int a7), (6, .int x_4), (0, .ref h0), (1, .int p0), (2, .int p1), (3, .int p2), (4, .int p3), (5, .int p4)]) hx hb dX12_put_74 hl (by decide) rfl (fun ls hl => ?_)
                    exact kJ76 _ _ ls (lv_sub hl [0, 1, 2, 3, 4, 5, 6, 7, 8] rfl)
                  ·
                    refine lv_iload hx hb dX12_put_63 (lv_at hl 7 rfl) ?_
                    refine lv_goto (tgt := 74) hx hb dX12_put_65 (by decide) ?_
                    refine lv_istore (lv' := [(8, .int p4), (7, .int a7), (6, .int x_4), (0, .ref h0), (1, .int p0), (2, .int p1), (3, .int p2), (4, .int p3), (5, .int p4)]) hx hb dX12_put_74 hl (by decide) rfl (fun ls hl => ?_)
                    exact kJ76 _ _ ls (lv_sub hl [0, 1, 2, 3, 4, 5, 6, 7, 8] rfl)
              ·
                refine lv_iload hx hb dX12_put_28 (lv_at hl 0 rfl) ?_
                refine lv_iconst (v := 1) hx hb dX12_put_30 (by decide) ?_
                refine lv_icmp_eq (tgt := 40) hx hb dX12_put_31 (by decide) (fun c_44 => ?_) (fun c_44 => ?_)
                ·
                  refine lv_aload_n hx hb dX12_put_40 rfl (lv_at hl 1 rfl) ?_
                  refine va_get (D := (dC, dI)) (ci := 11) (v := .ref (v 7)) (C := RX12) (T := TX12) (N := 52) hx hb hts (by decide +kernel) hown hK hP 0 rfl rfl 7 (by decide) (hts (.fieldLink RX12 28 "PageOneModel" "wide" "[I") (by decide +kernel)) (fun _ h9 => h9) rfl dX12_put_41 ?_
                  refine lv_iload_n hx hb dX12_put_44 rfl (lv_at hl 2 rfl) ?_
                  refine va_iald hx hb hK hP 7 0 rfl rfl (vin hi (by decide)) dX12_put_45 ?_
                  refine lv_goto (tgt := 50) hx hb dX12_put_46 (by decide) ?_
                  refine lv_topi (fun x_45 ex_45 => ?_)
                  refine lv_istore (lv' := [(7, .int x_45), (6, .int x_4), (0, .ref h0), (1, .int p0), (2, .int p1), (3, .int p2), (4, .int p3), (5, .int p4)]) hx hb dX12_put_50 hl (by decide) rfl (fun ls hl => ?_)
                  exact kJ52 _ ls (lv_sub hl [0, 1, 2, 3, 4, 5, 6, 7] rfl)
                ·
                  refine lv_iload hx hb dX12_put_34 (lv_at hl 0 rfl) ?_
                  refine lv_iconst (v := 3) hx hb dX12_put_36 (by decide) ?_
                  refine lv_icmp_ne (tgt := 49) hx hb dX12_put_37 (by decide) (fun c_46 => ?_) (fun c_46 => ?_)
                  ·
                    refine lv_iconst (v := 1) hx hb dX12_put_49 (by decide) ?_
                    refine lv_istore (lv' := [(7, .int 1), (6, .int x_4), (0, .ref h0), (1, .int p0), (2, .int p1), (3, .int p2), (4, .int p3), (5, .int p4)]) hx hb dX12_put_50 hl (by decide) rfl (fun ls hl => ?_)
                    exact kJ52 _ ls (lv_sub hl [0, 1, 2, 3, 4, 5, 6, 7] rfl)
                  ·
                    refine lv_aload_n hx hb dX12_put_40 rfl (lv_at hl 1 rfl) ?_
                    refine va_get (D := (dC, dI)) (ci := 11) (v := .ref (v 7)) (C := RX12) (T := TX12) (N := 52) hx hb hts (by decide +kernel) hown hK hP 0 rfl rfl 7 (by decide) (hts (.fieldLink RX12 28 "PageOneModel" "wide" "[I") (by decide +kernel)) (fun _ h9 => h9) rfl dX12_put_41 ?_
                    refine lv_iload_n hx hb dX12_put_44 rfl (lv_at hl 2 rfl) ?_
                    refine va_iald hx hb hK hP 7 0 rfl rfl (vin hi (by decide)) dX12_put_45 ?_
                    refine lv_goto (tgt := 50) hx hb dX12_put_46 (by decide) ?_
                    refine lv_topi (fun x_47 ex_47 => ?_)
                    refine lv_istore (lv' := [(7, .int x_47), (6, .int x_4), (0, .ref h0), (1, .int p0), (2, .int p1), (3, .int p2), (4, .int p3), (5, .int p4)]) hx hb dX12_put_50 hl (by decide) rfl (fun ls hl => ?_)
                    exact kJ52 _ ls (lv_sub hl [0, 1, 2, 3, 4, 5, 6, 7] rfl)
    ·
      refine lv_iconst (v := (-1)) hx hb dX12_put_18 (by decide) ?_
      exact W.iret (v := (-1)) hx hb hr (fun t ht hW => ⟨⟨(-1), u, rfl, (Or.inl rfl), by rw [ht]; exact hP, hD⟩, hS.F ht⟩) hS.2.2 dX12_put_19
  ·
    obtain rfl : r = 0 := b_f hw b_1
    refine lv_if_eq (tgt := 18) hx hb dX12_put_5 (by decide) (fun c_48 => ?_) (fun c_48 => absurd (by decide) c_48)
    refine lv_iconst (v := (-1)) hx hb dX12_put_18 (by decide) ?_
    exact W.iret (v := (-1)) hx hb hr (fun t ht hW => ⟨⟨(-1), u, rfl, (Or.inl rfl), by rw [ht]; exact hP, hD⟩, hS.F ht⟩) hS.2.2 dX12_put_19
