set_option maxHeartbeats 4000000 in
set_option maxRecDepth 100000 in
theorem x_ActA (l : Launch) (dC : Nat → ClassId) (dI : Nat → Nat → Nat) (q : Nat → ClassId) (h0 : Nat) (d : Nat → Nat) (k : Nat → Int32) (z : gS) (f : xF) (hI : xI q h0 d k z f) (a0 po ah : Nat) (ha0 : tg z a0 24) (hraw : f a0 = .inr (0, [.null, .int 0, .null, .int 0])) (hah : tg z ah 23) (sz : Nat) : Met l yX0_init wsX0_init ({ frames := 1, cells := 0, slots := 0, locals := 12 }) (va_Pc [.ref a0, .ref po, .int 0, .ref ah] (fun U => U.heap.size = sz ∧ PX dC dI (va_pl z.1 f) (xT q) U ∧ va_D (fun _ => True) (va_pl z.1 f))) (va_Qv (fun (w : xU) => w.2.1 = z ∧ ∃ n : Int32, w.2.2 = va_up f a0 (.inr (0, [.ref po, .int 0, .ref ah, .int n]))) (fun (w : xU) t => va_P (dC, dI) vwCl (va_pl w.2.1.1 w.2.2) t.heap ∧ va_D (va_A (va_pl z.1 f) sz) (va_pl w.2.1.1 w.2.2)) (va_A (va_pl z.1 f) sz)) 0 0 (va_A (va_pl z.1 f) sz) := by
  refine Met.ofW (cc := cX0_init) (maxL := 4) (ret := none) (by decide) rfl ?_
  intro p e s m args below meth c s₁ B hml hv
  obtain ⟨rfl, hsz, ⟨⟨hP, hK, hN⟩, hXN⟩, hD0⟩ := hv
  have hx := B.exec
  have hb := B.bytes
  have hr := B.returns
  have hts := atoms_spec (ws := wsX0_init) B.pre
  have hown : s.vm.findClass RX0 = some m.cls := findClass_of_methodNamed B.named
  have hlocks := B.notSynchronized
  subst hsz
  have hD := hD0.self (sz := s.heap.size)
  generalize hAe : va_A (va_pl z.1 f) s.heap.size = A at hD ⊢
  have hA : ∀ q : Nat, s.heap.size ≤ q → A q := fun q h => by rw [← hAe]; exact Or.inr h
  have hS : va_S A s.heap s.heap [] := va_S.rf
  have hl := lv_entry ([.ref a0, .ref po, .int 0, .ref ah]) (n := 4) (Nat.le_of_ble_eq_true rfl)
  rw [lg_entry_eq]
  generalize (lg_sl ([.ref a0, .ref po, .int 0, .ref ah]) ++ List.replicate (4 - (lg_sl ([.ref a0, .ref po, .int 0, .ref ah])).length) Slot.unset).toArray = ls at hl ⊢
  have hl : lv_has ls 4 [(0, .ref a0), (1, .ref po), (2, .int 0), (3, .ref ah)] := hl
  have hin : meth.name = "<init>" := (name_of_methodNamed B.named B.method).1
  refine lv_aload_n hx hb dX0_init_0 rfl (lv_at hl 0 rfl) ?_
  refine W.objInit hx hb hown (hts (.methodLink RX0 1 objectInit) (by decide +kernel)) (hts (.instanceMethod objectInit) (by decide +kernel)) (hts (.code objectInit ⟨#[0xb1]⟩ 1 none) (by decide +kernel)) rfl (by rw [hml]; exact hl.1) rfl dX0_init_1 (Nat.le_of_ble_eq_true rfl) (Nat.le_of_ble_eq_true rfl) ?_
  refine W.eq (g2 := F0 m 4 ls []) rfl ?_
  refine lv_aload_n hx hb dX0_init_4 rfl (lv_at hl 0 rfl) ?_
  refine lv_aload_n hx hb dX0_init_5 rfl (lv_at hl 1 rfl) ?_
  obtain ⟨kk_1, hk_2⟩ := pl_at ha0.1 hraw
  have hD0 := hD
  refine va_putF (D := (dC, dI)) (ci := 0) (v := .ref po) (ty := .object "PageOne$Piece") (C := RX0) (T := TX0) (N := 4) hx hb hts (by decide +kernel) tyX0 tyX0_ok nmX0 hown hK hP hD hS kk_1 hk_2 rfl 0 (by decide) (hts (.fieldLink RX0 7 "PageOne$Act" "piece" "LPageOne$Piece;") (by decide +kernel)) (fun _ h9 => h9) rfl hin rfl (by decide +kernel) rfl rfl (Nat.le_of_ble_eq_true rfl) dX0_init_6 (fun H locs hP hD hS => ?_)
  rw [pl_set hD0 ha0.1 hraw hk_2] at hP hD
  obtain ⟨f_3, ef_3⟩ : ∃ y : xF, y = va_up f a0 (.inr (0, [.ref po, .int 0, .null, .int 0])) := ⟨_, rfl⟩
  have hI : xI q h0 d k z f_3 := by rw [ef_3]; exact x_up hI ha0 (by decide) (cO_24 ha0.2)
  have hP : va_P (dC, dI) vwCl (va_pl z.1 f_3) H := by rw [ef_3]; exact hP
  have hD : va_D A (va_pl z.1 f_3) := by rw [ef_3]; exact hD
  have hc_4 : f_3 a0 = .inr (0, [.ref po, .int 0, .null, .int 0]) := by rw [ef_3]; exact up_s
  refine lv_aload_n hx hb dX0_init_9 rfl (lv_at hl 0 rfl) ?_
  refine lv_iload_n hx hb dX0_init_10 rfl (lv_at hl 2 rfl) ?_
  obtain ⟨kk_5, hk_6⟩ := pl_at ha0.1 hc_4
  have hD0 := hD
  refine va_putF (D := (dC, dI)) (ci := 0) (v := .int 0) (ty := .boolean) (C := RX0) (T := TX0) (N := 4) hx hb hts (by decide +kernel) tyX0 tyX0_ok nmX0 hown hK hP hD hS kk_5 hk_6 rfl 1 (by decide) (hts (.fieldLink RX0 13 "PageOne$Act" "lifted" "Z") (by decide +kernel)) (fun _ h9 => h9) rfl hin rfl (by decide +kernel) rfl rfl (Nat.le_of_ble_eq_true rfl) dX0_init_11 (fun H locs hP hD hS => ?_)
  rw [pl_set hD0 ha0.1 hc_4 hk_6] at hP hD
  obtain ⟨f_7, ef_7⟩ : ∃ y : xF, y = va_up f_3 a0 (.inr (0, [.ref po, .int 0, .null, .int 0])) := ⟨_, rfl⟩
  have hI : xI q h0 d k z f_7 := by rw [ef_7]; exact x_up hI ha0 (by decide) (cO_24 ha0.2)
  have hP : va_P (dC, dI) vwCl (va_pl z.1 f_7) H := by rw [ef_7]; exact hP
  have hD : va_D A (va_pl z.1 f_7) := by rw [ef_7]; exact hD
  have hc_8 : f_7 a0 = .inr (0, [.ref po, .int 0, .null, .int 0]) := by rw [ef_7]; exact up_s
  refine lv_aload_n hx hb dX0_init_14 rfl (lv_at hl 0 rfl) ?_
  refine lv_aload_n hx hb dX0_init_15 rfl (lv_at hl 3 rfl) ?_
  obtain ⟨kk_9, hk_10⟩ := pl_at ha0.1 hc_8
  have hD0 := hD
  refine va_putF (D := (dC, dI)) (ci := 0) (v := .ref ah) (ty := .object "PageOne$Act") (C := RX0) (T := TX0) (N := 4) hx hb hts (by decide +kernel) tyX0 tyX0_ok nmX0 hown hK hP hD hS kk_9 hk_10 rfl 2 (by decide) (hts (.fieldLink RX0 17 "PageOne$Act" "ahead" "LPageOne$Act;") (by decide +kernel)) (fun _ h9 => h9) rfl hin rfl (by decide +kernel) rfl rfl (Nat.le_of_ble_eq_true rfl) dX0_init_16 (fun H locs hP hD hS => ?_)
  rw [pl_set hD0 ha0.1 hc_8 hk_10] at hP hD
  obtain ⟨f_11, ef_11⟩ : ∃ y : xF, y = va_up f_7 a0 (.inr (0, [.ref po, .int 0, .ref ah, .int 0])) := ⟨_, rfl⟩
  have hI : xI q h0 d k z f_11 := by rw [ef_11]; exact x_up hI ha0 (by decide) (cO_24 ha0.2)
  have hP : va_P (dC, dI) vwCl (va_pl z.1 f_11) H := by rw [ef_11]; exact hP
  have hD : va_D A (va_pl z.1 f_11) := by rw [ef_11]; exact hD
  have hc_12 : f_11 a0 = .inr (0, [.ref po, .int 0, .ref ah, .int 0]) := by rw [ef_11]; exact up_s
  refine lv_aload_n hx hb dX0_init_19 rfl (lv_at hl 0 rfl) ?_
  refine lv_aload_n hx hb dX0_init_20 rfl (lv_at hl 3 rfl) ?_
  refine lv_ifnonnull (tgt := 28) hx hb dX0_init_21 (by decide) ?_
  refine lv_aload_n hx hb dX0_init_28 rfl (lv_at hl 3 rfl) ?_
  obtain ⟨pp_13, ll_14, nn_15, ah_16, ha_17, hs_18, hl_19, hh_20⟩ := x_acS hI hah
  obtain ⟨kk_21, hk_22⟩ := pl_at hah.1 hs_18
  refine va_get (D := (dC, dI)) (ci := 0) (v := .int nn_15) (C := RX0) (T := TX0) (N := 4) hx hb hts (by decide +kernel) hown hK hP kk_21 hk_22 rfl 3 (by decide) (hts (.fieldLink RX0 21 "PageOne$Act" "parts" "I") (by decide +kernel)) (fun _ h9 => h9) rfl dX0_init_29 ?_
  refine lv_iconst (v := 1) hx hb dX0_init_32 (by decide) ?_
  refine lv_iadd hx hb dX0_init_33 ?_
  refine lv_topi (fun x_23 ex_23 => ?_)
  obtain ⟨kk_24, hk_25⟩ := pl_at ha0.1 hc_12
  have hD0 := hD
  refine va_putF (D := (dC, dI)) (ci := 0) (v := .int x_23) (ty := .int) (C := RX0) (T := TX0) (N := 4) hx hb hts (by decide +kernel) tyX0 tyX0_ok nmX0 hown hK hP hD hS kk_24 hk_25 rfl 3 (by decide) (hts (.fieldLink RX0 21 "PageOne$Act" "parts" "I") (by decide +kernel)) (fun _ h9 => h9) rfl hin rfl (by decide +kernel) rfl rfl (Nat.le_of_ble_eq_true rfl) dX0_init_34 (fun H locs hP hD hS => ?_)
  rw [pl_set hD0 ha0.1 hc_12 hk_25] at hP hD
  obtain ⟨f_26, ef_26⟩ : ∃ y : xF, y = va_up f_11 a0 (.inr (0, [.ref po, .int 0, .ref ah, .int x_23])) := ⟨_, rfl⟩
  have hI : xI q h0 d k z f_26 := by rw [ef_26]; exact x_up hI ha0 (by decide) (cO_24 ha0.2)
  have hP : va_P (dC, dI) vwCl (va_pl z.1 f_26) H := by rw [ef_26]; exact hP
  have hD : va_D A (va_pl z.1 f_26) := by rw [ef_26]; exact hD
  have hc_27 : f_26 a0 = .inr (0, [.ref po, .int 0, .ref ah, .int x_23]) := by rw [ef_26]; exact up_s
  exact W.vret hx hb hr (fun t ht hW => ⟨⟨(k, z, f_26), rfl, ⟨rfl, x_23, by show f_26 = _; rw [ef_26, ef_11, ef_7, ef_3, up_up, up_up, up_up]⟩, by rw [ht]; exact hP, hD⟩, hS.F ht⟩) hS.2.2 dX0_init_37
