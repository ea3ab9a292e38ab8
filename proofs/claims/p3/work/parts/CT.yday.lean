def edP (q : Nat → ClassId) (h0 : Nat) (d : Nat → Nat) (k : Nat → Int32) (z : gS) (f : xF) (u : mS) (r : Int32) (w : xU) : Prop := (¬ k 3 < 7 ∧ r = (-1) ∧ w = (k, z, f)) ∨ (k 3 < 7 ∧ r = k 3 + 1 ∧ w.1 = kup k 3 (k 3 + 1) ∧ w.2.1 = z ∧ xI q h0 d w.1 z w.2.2 ∧ rep q d (clE u 12) z w.2.2 ∧ w.2.2 (d 3) = f (d 3))
def dyP (q : Nat → ClassId) (h0 : Nat) (d : Nat → Nat) (k : Nat → Int32) (z : gS) (f : xF) (u : mS) (r : Int32) (w : xU) : Prop := (¬ k 2 < 399 ∧ r = (-1) ∧ w = (k, z, f)) ∨ (k 2 < 399 ∧ r = k 2 + 1 ∧ w.1 = kup (kup (kup k 1 0) 3 0) 2 (k 2 + 1) ∧ w.2.1 = z ∧ xI q h0 d w.1 z w.2.2 ∧ rep q d (cdU (clE u 12)) z w.2.2 ∧ ∃ g, w.2.2 (d 3) = aR (q 4) 300 g)
set_option maxHeartbeats 4000000 in
set_option maxRecDepth 100000 in
theorem y_edition (l : Launch) (dC : Nat → ClassId) (dI : Nat → Nat → Nat) (q : Nat → ClassId) (h0 : Nat) (d : Nat → Nat) (k : Nat → Int32) (z : gS) (f : xF) (hI : xI q h0 d k z f) (u : mS) (hrp : rep q d u z f) (hk0 : k 0 = u.1 3) (hk1 : k 1 = u.1 28) (hk2 : k 2 = u.1 38) (hk3 : k 3 = u.1 39) (hz0 : (z.2 h0).2.1 = 0) (sz : Nat) : Met l yX11_edition wsX11_edition ({ frames := 5, cells := 0, slots := 0, locals := 110 }) (va_Pc [.ref h0] (fun U => U.heap.size = sz ∧ PX dC dI (va_pl z.1 f) (xT q) U ∧ va_D (fun _ => True) (va_pl z.1 f))) (va_Qi (fun (r : Int32) (w : xU) => edP q h0 d k z f u r w) (fun (w : xU) t => va_P (dC, dI) vwCl (va_pl w.2.1.1 w.2.2) t.heap ∧ va_D (va_A (va_pl z.1 f) sz) (va_pl w.2.1.1 w.2.2)) (va_A (va_pl z.1 f) sz)) 0 0 (va_A (va_pl z.1 f) sz) := by
  refine Met.ofW (cc := cX11_edition) (maxL := 1) (ret := (some .int)) (by decide) rfl ?_
  intro p e s m args below meth c s₁ B hml hv
  obtain ⟨rfl, hsz, ⟨⟨hP, hK, hN⟩, hXN⟩, hD0⟩ := hv
  have hx := B.exec
  have hb := B.bytes
  have hr := B.returns
  have hts := atoms_spec (ws := wsX11_edition) B.pre
  have hown : s.vm.findClass RX11 = some m.cls := findClass_of_methodNamed B.named
  have hlocks := B.notSynchronized
  subst hsz
  have hD := hD0.self (sz := s.heap.size)
  generalize hAe : va_A (va_pl z.1 f) s.heap.size = A at hD ⊢
  have hA : ∀ q : Nat, s.heap.size ≤ q → A q := fun q h => by rw [← hAe]; exact Or.inr h
  have hS : va_S A s.heap s.heap [] := va_S.rf
  have hl := lv_entry ([.ref h0]) (n := 1) (Nat.le_of_ble_eq_true rfl)
  rw [lg_entry_eq]
  generalize (lg_sl ([.ref h0]) ++ List.replicate (1 - (lg_sl ([.ref h0])).length) Slot.unset).toArray = ls at hl ⊢
  have hl : lv_has ls 1 [(0, .ref h0)] := hl
  refine lv_aload_n hx hb dX11_edition_0 rfl (lv_at hl 0 rfl) ?_
  obtain ⟨kk_1, hk_2⟩ := pl_at hI.2.1.1.1 hI.2.2.2.1.1
  refine va_get (D := (dC, dI)) (ci := 10) (v := .int (k 3)) (C := RX11) (T := TX11) (N := 9) hx hb hts (by decide +kernel) hown hK hP kk_1 hk_2 rfl 8 (by decide) (hts (.fieldLink RX11 44 "PageOne" "editionNow" "I") (by decide +kernel)) (fun _ h9 => h9) rfl dX11_edition_1 ?_
  refine lv_bipush (v := 7) hx hb dX11_edition_4 (by decide) ?_
  refine lv_icmp_lt (tgt := 11) hx hb dX11_edition_6 (by decide) (fun c_3 => ?_) (fun c_3 => ?_)
  ·
    refine lv_aload_n hx hb dX11_edition_11 rfl (lv_at hl 0 rfl) ?_
    obtain ⟨kk_4, hk_5⟩ := pl_at hI.2.1.1.1 hI.2.2.2.1.1
    have hFc := fr_all hD hS hA
    refine va_callv (va_runV (As := []) (rest := []) ⟨hx, hb, hml, hown, hts⟩ (y_closeEdition l dC dI q h0 d k z f hI u hrp hk0 hk1 hk2 hk3 s.heap.size) (cwV 0 hts gX11_edition_X11_closeEdition rfl rfl rfl (by decide +kernel) ⟨Nat.le_of_ble_eq_true rfl, Nat.le_of_ble_eq_true rfl⟩) ⟨gx_fb, va_recv hK hP (ci := 10) (q0 := kk_4) rfl hk_5, fun U hU hW => ⟨rfl, by rw [hU], px_to hU hW hP hK hN hXN, hD.weaken (fun _ _ _ _ => trivial)⟩⟩ rfl rfl hl.1 rfl (lv_room (Nat.le_of_ble_eq_true rfl)) dX11_edition_12 ⟨Nat.le_of_ble_eq_true rfl, Nat.le_of_ble_eq_true rfl⟩) hS (fun q _ h => hFc q h) hFc (fun w_6 t H1 locs ht hvm hw hB hz1 hk1 hS => ?_)
    obtain ⟨hP, hD1⟩ := hB
    rw [ht] at hP
    rw [hw.2.1] at hP hD1
    have hD := hD1.weaken (fun _ q _ h => hFc q.1 h)
    have hI := hw.2.2.1
    have hw0 := hw
    generalize w_6.2.2 = f_7 at hP hD hI hw0
    generalize H1 = H at hP hS ⊢
    have hrpc := hw0.2.2.2.1
    have h3c := hw0.2.2.2.2
    refine lv_aload_n hx hb dX11_edition_15 rfl (lv_at hl 0 rfl) ?_
    refine lv_dup hx hb dX11_edition_16 rfl ?_
    obtain ⟨kk_8, hk_9⟩ := pl_at hI.2.1.1.1 hI.2.2.2.1.1
    refine va_get (D := (dC, dI)) (ci := 10) (v := .int (k 3)) (C := RX11) (T := TX11) (N := 9) hx hb hts (by decide +kernel) hown hK hP kk_8 hk_9 rfl 8 (by decide) (hts (.fieldLink RX11 44 "PageOne" "editionNow" "I") (by decide +kernel)) (fun _ h9 => h9) rfl dX11_edition_17 ?_
    refine lv_iconst (v := 1) hx hb dX11_edition_20 (by decide) ?_
    refine lv_iadd hx hb dX11_edition_21 ?_
    refine lv_topi (fun x_10 ex_10 => ?_)
    obtain ⟨kk_11, hk_12⟩ := pl_at hI.2.1.1.1 hI.2.2.2.1.1
    have hD0 := hD
    refine va_put (D := (dC, dI)) (ci := 10) (v := .int x_10) (ty := .int) (C := RX11) (T := TX11) (N := 9) hx hb hts (by decide +kernel) tyX11 tyX11_ok nmX11 hown hK hP hD hS kk_11 hk_12 rfl 8 (by decide) (hts (.fieldLink RX11 44 "PageOne" "editionNow" "I") (by decide +kernel)) (fun _ h9 => h9) rfl (by decide +kernel) rfl rfl (Nat.le_of_ble_eq_true rfl) dX11_edition_22 (fun H locs hP hD hS => ?_)
    obtain ⟨k_13, ek_13⟩ : ∃ y : Nat → Int32, y = kup k 3 x_10 := ⟨_, rfl⟩
    have hIc := hI
    rw [pl_set hD0 hI.2.1.1.1 hI.2.2.2.1.1 hk_12] at hP hD
    obtain ⟨f_14, ef_14⟩ : ∃ y : xF, y = va_up f_7 h0 (.inr (10, dkF d k_13)) := ⟨_, rfl⟩
    have hP : va_P (dC, dI) vwCl (va_pl z.1 f_14) H := by rw [ef_14, ek_13]; exact hP
    have hD : va_D A (va_pl z.1 f_14) := by rw [ef_14, ek_13]; exact hD
    have hI : xI q h0 d k_13 z f_14 := by rw [ef_14]; exact x_dk hI (by rw [ek_13]; exact ⟨hI.1.1, hI.1.2.1, hI.1.2.2⟩) (by rw [ek_13]; exact Nat.le_refl _)
    refine lv_aload_n hx hb dX11_edition_25 rfl (lv_at hl 0 rfl) ?_
    obtain ⟨kk_15, hk_16⟩ := pl_at hI.2.1.1.1 hI.2.2.2.1.1
    refine va_get (D := (dC, dI)) (ci := 10) (v := .int (k_13 3)) (C := RX11) (T := TX11) (N := 9) hx hb hts (by decide +kernel) hown hK hP kk_15 hk_16 rfl 8 (by decide) (hts (.fieldLink RX11 44 "PageOne" "editionNow" "I") (by decide +kernel)) (fun _ h9 => h9) rfl dX11_edition_26 ?_
    exact W.iret (v := (k_13 3)) hx hb hr (fun t ht hW => ⟨⟨(k_13 3), (k_13, z, f_14), rfl, (Or.inr ⟨c_3, by rw [ek_13, kup_s, ex_10], by rw [ek_13, ex_10], rfl, hI, by show rep q d (clE u 12) z f_14; rw [ef_14]; exact rep_h0 hrpc hIc hz0, by show f_14 (d 3) = f (d 3); rw [ef_14, up_o (tg_ne hIc.2.1.2.2.2.2.1 hIc.2.1.1 (by decide))]; exact h3c⟩), by rw [ht]; exact hP, hD⟩, hS.F ht⟩) hS.2.2 dX11_edition_29
  ·
    refine lv_iconst (v := (-1)) hx hb dX11_edition_9 (by decide) ?_
    exact W.iret (v := (-1)) hx hb hr (fun t ht hW => ⟨⟨(-1), (k, z, f), rfl, (Or.inl ⟨c_3, rfl, rfl⟩), by rw [ht]; exact hP, hD⟩, hS.F ht⟩) hS.2.2 dX11_edition_10
set_option maxHeartbeats 4000000 in
set_option maxRecDepth 100000 in
theorem y_day (l : Launch) (dC : Nat → ClassId) (dI : Nat → Nat → Nat) (q : Nat → ClassId) (h0 : Nat) (d : Nat → Nat) (k : Nat → Int32) (z : gS) (f : xF) (hI : xI q h0 d k z f) (u : mS) (hrp : rep q d u z f) (hk0 : k 0 = u.1 3) (hk1 : k 1 = u.1 28) (hk2 : k 2 = u.1 38) (hk3 : k 3 = u.1 39) (hz0 : (z.2 h0).2.1 = 0) (sz : Nat) : Met l yX11_day wsX11_day ({ frames := 5, cells := 0, slots := 0, locals := 110 }) (va_Pc [.ref h0] (fun U => U.heap.size = sz ∧ PX dC dI (va_pl z.1 f) (xT q) U ∧ va_D (fun _ => True) (va_pl z.1 f))) (va_Qi (fun (r : Int32) (w : xU) => dyP q h0 d k z f u r w) (fun (w : xU) t => va_P (dC, dI) vwCl (va_pl w.2.1.1 w.2.2) t.heap ∧ va_D (va_A (va_pl z.1 f) sz) (va_pl w.2.1.1 w.2.2)) (va_A (va_pl z.1 f) sz)) 0 0 (va_A (va_pl z.1 f) sz) := by
  refine Met.ofW (cc := cX11_day) (maxL := 1) (ret := (some .int)) (by decide) rfl ?_
  intro p e s m args below meth c s₁ B hml hv
  obtain ⟨rfl, hsz, ⟨⟨hP, hK, hN⟩, hXN⟩, hD0⟩ := hv
  have hx := B.exec
  have hb := B.bytes
  have hr := B.returns
  have hts := atoms_spec (ws := wsX11_day) B.pre
  have hown : s.vm.findClass RX11 = some m.cls := findClass_of_methodNamed B.named
  have hlocks := B.notSynchronized
  subst hsz
  have hD := hD0.self (sz := s.heap.size)
  generalize hAe : va_A (va_pl z.1 f) s.heap.size = A at hD ⊢
  have hA : ∀ q : Nat, s.heap.size ≤ q → A q := fun q h => by rw [← hAe]; exact Or.inr h
  have hS : va_S A s.heap s.heap [] := va_S.rf
  have hl := lv_entry ([.ref h0]) (n := 1) (Nat.le_of_ble_eq_true rfl)
  rw [lg_entry_eq]
  generalize (lg_sl ([.ref h0]) ++ List.replicate (1 - (lg_sl ([.ref h0])).length) Slot.unset).toArray = ls at hl ⊢
  have hl : lv_has ls 1 [(0, .ref h0)] := hl
  have hk2b : bw (k 2) 0 399 = true := hI.1.2.2
  have hk1o := hk1
  refine lv_aload_n hx hb dX11_day_0 rfl (lv_at hl 0 rfl) ?_
  obtain ⟨kk_1, hk_2⟩ := pl_at hI.2.1.1.1 hI.2.2.2.1.1
  refine va_get (D := (dC, dI)) (ci := 10) (v := .int (k 2)) (C := RX11) (T := TX11) (N := 9) hx hb hts (by decide +kernel) hown hK hP kk_1 hk_2 rfl 7 (by decide) (hts (.fieldLink RX11 41 "PageOne" "today" "I") (by decide +kernel)) (fun _ h9 => h9) rfl dX11_day_1 ?_
  refine lv_sipush (v := 399) hx hb dX11_day_4 (by decide) ?_
  refine lv_icmp_lt (tgt := 12) hx hb dX11_day_7 (by decide) (fun c_3 => ?_) (fun c_3 => ?_)
  ·
    refine lv_aload_n hx hb dX11_day_12 rfl (lv_at hl 0 rfl) ?_
    obtain ⟨kk_4, hk_5⟩ := pl_at hI.2.1.1.1 hI.2.2.2.1.1
    have hFc := fr_all hD hS hA
    refine va_callv (va_runV (As := []) (rest := []) ⟨hx, hb, hml, hown, hts⟩ (y_closeEdition l dC dI q h0 d k z f hI u hrp hk0 hk1 hk2 hk3 s.heap.size) (cwV 0 hts gX11_day_X11_closeEdition rfl rfl rfl (by decide +kernel) ⟨Nat.le_of_ble_eq_true rfl, Nat.le_of_ble_eq_true rfl⟩) ⟨gx_fb, va_recv hK hP (ci := 10) (q0 := kk_4) rfl hk_5, fun U hU hW => ⟨rfl, by rw [hU], px_to hU hW hP hK hN hXN, hD.weaken (fun _ _ _ _ => trivial)⟩⟩ rfl rfl hl.1 rfl (lv_room (Nat.le_of_ble_eq_true rfl)) dX11_day_13 ⟨Nat.le_of_ble_eq_true rfl, Nat.le_of_ble_eq_true rfl⟩) hS (fun q _ h => hFc q h) hFc (fun w_6 t H1 locs ht hvm hw hB hz1 hk1 hS => ?_)
    obtain ⟨hP, hD1⟩ := hB
    rw [ht] at hP
    rw [hw.2.1] at hP hD1
    have hD := hD1.weaken (fun _ q _ h => hFc q.1 h)
    have hI := hw.2.2.1
    have hw0 := hw
    generalize w_6.2.2 = f_7 at hP hD hI hw0
    generalize H1 = H at hP hS ⊢
    have hrpc := hw0.2.2.2.1
    have h3c := hw0.2.2.2.2
    refine lv_aload_n hx hb dX11_day_16 rfl (lv_at hl 0 rfl) ?_
    obtain ⟨kk_8, hk_9⟩ := pl_at hI.2.1.1.1 hI.2.2.2.1.1
    have hFc := fr_all hD hS hA
    refine va_callv (va_runV (As := []) (rest := []) ⟨hx, hb, hml, hown, hts⟩ (y_clearDesk l dC dI q h0 d k z f_7 hI (clE u 12) hrpc (by rw [clE_1]; exact hk0) (by rw [clE_1]; exact hk1o) (by rw [clE_1]; exact hk2) (by rw [clE_1]; exact hk3) hz0 H.size) (cwV 0 hts gX11_day_X11_clearDesk rfl rfl rfl (by decide +kernel) ⟨Nat.le_of_ble_eq_true rfl, Nat.le_of_ble_eq_true rfl⟩) ⟨gx_fb, va_recv hK hP (ci := 10) (q0 := kk_8) rfl hk_9, fun U hU hW => ⟨rfl, by rw [hU], px_to hU hW hP hK hN hXN, hD.weaken (fun _ _ _ _ => trivial)⟩⟩ rfl rfl hl.1 rfl (lv_room (Nat.le_of_ble_eq_true rfl)) dX11_day_17 ⟨Nat.le_of_ble_eq_true rfl, Nat.le_of_ble_eq_true rfl⟩) hS (fun q _ h => hFc q h) hFc (fun w_10 t H1 locs ht hvm hw hB hz1 hk1 hS => ?_)
    obtain ⟨hP, hD1⟩ := hB
    rw [ht] at hP
    rw [hw.2.1] at hP hD1
    have hD := hD1.weaken (fun _ q _ h => hFc q.1 h)
    have hI := hw.2.2.1
    have hw0 := hw
    generalize w_10.1 = k_12 at hI hw0
    generalize w_10.2.2 = f_11 at hP hD hI hw0
    generalize H1 = H at hP hS ⊢
    have hrpd := hw0.2.2.2.1
    have h3d := hw0.2.2.2.2
    have ekd := hw0.1
    refine lv_aload_n hx hb dX11_day_20 rfl (lv_at hl 0 rfl) ?_
    refine lv_iconst (v := 0) hx hb dX11_day_21 (by decide) ?_
    obtain ⟨kk_13, hk_14⟩ := pl_at hI.2.1.1.1 hI.2.2.2.1.1
    have hD0 := hD
    refine va_put (D := (dC, dI)) (ci := 10) (v := .int 0) (ty := .int) (C := RX11) (T := TX11) (N := 9) hx hb hts (by decide +kernel) tyX11 tyX11_ok nmX11 hown hK hP hD hS kk_13 hk_14 rfl 8 (by decide) (hts (.fieldLink RX11 44 "PageOne" "editionNow" "I") (by decide +kernel)) (fun _ h9 => h9) rfl (by decide +kernel) rfl rfl (Nat.le_of_ble_eq_true rfl) dX11_day_22 (fun H locs hP hD hS => ?_)
    obtain ⟨k_15, ek_15⟩ : ∃ y : Nat → Int32, y = kup k_12 3 0 := ⟨_, rfl⟩
    have hIc := hI
    rw [pl_set hD0 hI.2.1.1.1 hI.2.2.2.1.1 hk_14] at hP hD
    obtain ⟨f_16, ef_16⟩ : ∃ y : xF, y = va_up f_11 h0 (.inr (10, dkF d k_15)) := ⟨_, rfl⟩
    have hP : va_P (dC, dI) vwCl (va_pl z.1 f_16) H := by rw [ef_16, ek_15]; exact hP
    have hD : va_D A (va_pl z.1 f_16) := by rw [ef_16, ek_15]; exact hD
    have hI : xI q h0 d k_15 z f_16 := by rw [ef_16]; exact x_dk hI (by rw [ek_15]; exact ⟨hI.1.1, hI.1.2.1, hI.1.2.2⟩) (by rw [ek_15]; exact Nat.le_refl _)
    have hrpd : rep q d (cdU (clE u 12)) z f_16 := by rw [ef_16]; exact rep_h0 hrpd hIc hz0
    have h3d : ∃ g, f_16 (d 3) = aR (q 4) 300 g := by obtain ⟨g, hg⟩ := h3d; exact ⟨g, by rw [ef_16, up_o (tg_ne hIc.2.1.2.2.2.2.1 hIc.2.1.1 (by decide))]; exact hg⟩
    refine lv_aload_n hx hb dX11_day_25 rfl (lv_at hl 0 rfl) ?_
    refine lv_dup hx hb dX11_day_26 rfl ?_
    obtain ⟨kk_17, hk_18⟩ := pl_at hI.2.1.1.1 hI.2.2.2.1.1
    refine va_get (D := (dC, dI)) (ci := 10) (v := .int (k_15 2)) (C := RX11) (T := TX11) (N := 9) hx hb hts (by decide +kernel) hown hK hP kk_17 hk_18 rfl 7 (by decide) (hts (.fieldLink RX11 41 "PageOne" "today" "I") (by decide +kernel)) (fun _ h9 => h9) rfl dX11_day_27 ?_
    refine lv_iconst (v := 1) hx hb dX11_day_30 (by decide) ?_
    refine lv_iadd hx hb dX11_day_31 ?_
    refine lv_topi (fun x_19 ex_19 => ?_)
    obtain ⟨kk_20, hk_21⟩ := pl_at hI.2.1.1.1 hI.2.2.2.1.1
    have hD0 := hD
    refine va_put (D := (dC, dI)) (ci := 10) (v := .int x_19) (ty := .int) (C := RX11) (T := TX11) (N := 9) hx hb hts (by decide +kernel) tyX11 tyX11_ok nmX11 hown hK hP hD hS kk_20 hk_21 rfl 7 (by decide) (hts (.fieldLink RX11 41 "PageOne" "today" "I") (by decide +kernel)) (fun _ h9 => h9) rfl (by decide +kernel) rfl rfl (Nat.le_of_ble_eq_true rfl) dX11_day_32 (fun H locs hP hD hS => ?_)
    obtain ⟨k_22, ek_22⟩ : ∃ y : Nat → Int32, y = kup k_15 2 x_19 := ⟨_, rfl⟩
    have hk2d : k_15 2 = k 2 := by rw [ek_15, ekd]; rfl
    have hIc := hI
    rw [pl_set hD0 hI.2.1.1.1 hI.2.2.2.1.1 hk_21] at hP hD
    obtain ⟨f_23, ef_23⟩ : ∃ y : xF, y = va_up f_16 h0 (.inr (10, dkF d k_22)) := ⟨_, rfl⟩
    have hP : va_P (dC, dI) vwCl (va_pl z.1 f_23) H := by rw [ef_23, ek_22]; exact hP
    have hD : va_D A (va_pl z.1 f_23) := by rw [ef_23, ek_22]; exact hD
    have hI : xI q h0 d k_22 z f_23 := by rw [ef_23]; exact x_dk hI (by rw [ek_22]; exact ⟨hI.1.1, hI.1.2.1, by rw [kup_s, ex_19, hk2d]; exact d399b hk2b c_3⟩) (by rw [ek_22]; exact Nat.le_refl _)
    have hrpd : rep q d (cdU (clE u 12)) z f_23 := by rw [ef_23]; exact rep_h0 hrpd hIc hz0
    have h3d : ∃ g, f_23 (d 3) = aR (q 4) 300 g := by obtain ⟨g, hg⟩ := h3d; exact ⟨g, by rw [ef_23, up_o (tg_ne hIc.2.1.2.2.2.2.1 hIc.2.1.1 (by decide))]; exact hg⟩
    refine lv_aload_n hx hb dX11_day_35 rfl (lv_at hl 0 rfl) ?_
    obtain ⟨kk_24, hk_25⟩ := pl_at hI.2.1.1.1 hI.2.2.2.1.1
    refine va_get (D := (dC, dI)) (ci := 10) (v := .int (k_22 2)) (C := RX11) (T := TX11) (N := 9) hx hb hts (by decide +kernel) hown hK hP kk_24 hk_25 rfl 7 (by decide) (hts (.fieldLink RX11 41 "PageOne" "today" "I") (by decide +kernel)) (fun _ h9 => h9) rfl dX11_day_36 ?_
    exact W.iret (v := (k_22 2)) hx hb hr (fun t ht hW => ⟨⟨(k_22 2), (k_22, z, f_23), rfl, (Or.inr ⟨c_3, by rw [ek_22, kup_s, ex_19, hk2d], by rw [ek_22, ex_19, hk2d, ek_15, ekd], rfl, hI, hrpd, h3d⟩), by rw [ht]; exact hP, hD⟩, hS.F ht⟩) hS.2.2 dX11_day_39
  ·
    refine lv_iconst (v := (-1)) hx hb dX11_day_10 (by decide) ?_
    exact W.iret (v := (-1)) hx hb hr (fun t ht hW => ⟨⟨(-1), (k, z, f), rfl, (Or.inl ⟨c_3, rfl, rfl⟩), by rw [ht]; exact hP, hD⟩, hS.F ht⟩) hS.2.2 dX11_day_11
