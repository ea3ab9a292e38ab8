set_option maxHeartbeats 4000000 in
set_option maxRecDepth 100000 in
theorem y_ActA (l : Launch) (dC : Nat → ClassId) (dI : Nat → Nat → Nat) (q : Nat → ClassId) (h0 : Nat) (d : Nat → Nat) (k : Nat → Int32) (z : gS) (f : xF) (hI : xI q h0 d k z f) (a0 po ah : Nat) (ha0 : tg z a0 24) (hraw : f a0 = .inr (0, [.null, .int 0, .null, .int 0])) (hah : tg z ah 23) (pp : Nat) (ll nn : Int32) (aa : Option Nat) (hac : acS z ah pp ll nn aa) (sz : Nat) : Met l yX0_init wsX0_init ({ frames := 1, cells := 0, slots := 0, locals := 12 }) (va_Pc [.ref a0, .ref po, .int 0, .ref ah] (fun U => U.heap.size = sz ∧ PX dC dI (va_pl z.1 f) (xT q) U ∧ va_D (fun _ => True) (va_pl z.1 f))) (va_Qv (fun (w : xU) => w.2.1 = z ∧ w.2.2 = va_up f a0 (.inr (0, [.ref po, .int 0, .ref ah, .int (nn + 1)]))) (fun (w : xU) t => va_P (dC, dI) vwCl (va_pl w.2.1.1 w.2.2) t.heap ∧ va_D (va_A (va_pl z.1 f) sz) (va_pl w.2.1.1 w.2.2)) (va_A (va_pl z.1 f) sz)) 0 0 (va_A (va_pl z.1 f) sz) := by
  refine Met.ofW (cc := cX0_init) (maxL := 4) (ret := none) (by decide) rfl ?_
  intro p e s m args below meth c s₁ B hml hv
  obtain ⟨rfl, hsz, ⟨⟨hP, hK, hN⟩, hXN⟩, hD0⟩ := hv
  have hx := B.exec
  have hb := B.bytes
  have hr := B.returns
  have hts := atoms_spec (ws := wsX0_init) B.pre
  have hown : s.vm.findClass RX0 = some m.cls := findClass_of_methodNamed B.named
  have hlocks := B.notSynchronized
  subst hsz
  have hD := hD0.self (sz := s.heap.size)
  generalize hAe : va_A (va_pl z.1 f) s.heap.size = A at hD ⊢
  have hA : ∀ q : Nat, s.heap.size ≤ q → A q := fun q h => by rw [← hAe]; exact Or.inr h
  have hS : va_S A s.heap s.heap [] := va_S.rf
  have hl := lv_entry ([.ref a0, .ref po, .int 0, .ref ah]) (n := 4) (Nat.le_of_ble_eq_true rfl)
  rw [lg_entry_eq]
  generalize (lg_sl ([.ref a0, .ref po, .int 0, .ref ah]) ++ List.replicate (4 - (lg_sl ([.ref a0, .ref po, .int 0, .ref ah])).length) Slot.unset).toArray = ls at hl ⊢
  have hl : lv_has ls 4 [(0, .ref a0), (1, .ref po), (2, .int 0), (3, .ref ah)] := hl
  have hin : meth.name = "<init>" := (name_of_methodNamed B.named B.method).1
  refine lv_aload_n hx hb dX0_init_0 rfl (lv_at hl 0 rfl) ?_
  refine W.objInit hx hb hown (hts (.methodLink RX0 1 objectInit) (by decide +kernel)) (hts (.instanceMethod objectInit) (by decide +kernel)) (hts (.code objectInit ⟨#[0xb1]⟩ 1 none) (by decide +kernel)) rfl (by rw [hml]; exact hl.1) rfl dX0_init_1 (Nat.le_of_ble_eq_true rfl) (Nat.le_of_ble_eq_true rfl) ?_
  refine W.eq (g2 := F0 m 4 ls []) rfl ?_
  refine lv_aload_n hx hb dX0_init_4 rfl (lv_at hl 0 rfl) ?_
  refine lv_aload_n hx hb dX0_init_5 rfl (lv_at hl 1 rfl) ?_
  obtain ⟨kk_1, hk_2⟩ := pl_at ha0.1 hraw
  have hD0 := hD
  refine va_putF (D := (dC, dI)) (ci := 0) (v := .ref po) (ty := .object "PageOne$Piece") (C := RX0) (T := TX0) (N := 4) hx hb hts (by decide +kernel) tyX0 tyX0_ok nmX0 hown hK hP hD hS kk_1 hk_2 rfl 0 (by decide) (hts (.fieldLink RX0 7 "PageOne$Act" "piece" "LPageOne$Piece;") (by decide +kernel)) (fun _ h9 => h9) rfl hin rfl (by decide +kernel) rfl rfl (Nat.le_of_ble_eq_true rfl) dX0_init_6 (fun H locs hP hD hS => ?_)
  rw [pl_set hD0 ha0.1 hraw hk_2] at hP hD
  obtain ⟨f_3, ef_3⟩ : ∃ y : xF, y = va_up f a0 (.inr (0, [.ref po, .int 0, .null, .int 0])) := ⟨_, rfl⟩
  have hI : xI q h0 d k z f_3 := by rw [ef_3]; exact x_up hI ha0 (by decide) (cO_24 ha0.2)
  have hP : va_P (dC, dI) vwCl (va_pl z.1 f_3) H := by rw [ef_3]; exact hP
  have hD : va_D A (va_pl z.1 f_3) := by rw [ef_3]; exact hD
  have hc_4 : f_3 a0 = .inr (0, [.ref po, .int 0, .null, .int 0]) := by rw [ef_3]; exact up_s
  refine lv_aload_n hx hb dX0_init_9 rfl (lv_at hl 0 rfl) ?_
  refine lv_iload_n hx hb dX0_init_10 rfl (lv_at hl 2 rfl) ?_
  obtain ⟨kk_5, hk_6⟩ := pl_at ha0.1 hc_4
  have hD0 := hD
  refine va_putF (D := (dC, dI)) (ci := 0) (v := .int 0) (ty := .boolean) (C := RX0) (T := TX0) (N := 4) hx hb hts (by decide +kernel) tyX0 tyX0_ok nmX0 hown hK hP hD hS kk_5 hk_6 rfl 1 (by decide) (hts (.fieldLink RX0 13 "PageOne$Act" "lifted" "Z") (by decide +kernel)) (fun _ h9 => h9) rfl hin rfl (by decide +kernel) rfl rfl (Nat.le_of_ble_eq_true rfl) dX0_init_11 (fun H locs hP hD hS => ?_)
  rw [pl_set hD0 ha0.1 hc_4 hk_6] at hP hD
  obtain ⟨f_7, ef_7⟩ : ∃ y : xF, y = va_up f_3 a0 (.inr (0, [.ref po, .int 0, .null, .int 0])) := ⟨_, rfl⟩
  have hI : xI q h0 d k z f_7 := by rw [ef_7]; exact x_up hI ha0 (by decide) (cO_24 ha0.2)
  have hP : va_P (dC, dI) vwCl (va_pl z.1 f_7) H := by rw [ef_7]; exact hP
  have hD : va_D A (va_pl z.1 f_7) := by rw [ef_7]; exact hD
  have hc_8 : f_7 a0 = .inr (0, [.ref po, .int 0, .null, .int 0]) := by rw [ef_7]; exact up_s
  refine lv_aload_n hx hb dX0_init_14 rfl (lv_at hl 0 rfl) ?_
  refine lv_aload_n hx hb dX0_init_15 rfl (lv_at hl 3 rfl) ?_
  obtain ⟨kk_9, hk_10⟩ := pl_at ha0.1 hc_8
  have hD0 := hD
  refine va_putF (D := (dC, dI)) (ci := 0) (v := .ref ah) (ty := .object "PageOne$Act") (C := RX0) (T := TX0) (N := 4) hx hb hts (by decide +kernel) tyX0 tyX0_ok nmX0 hown hK hP hD hS kk_9 hk_10 rfl 2 (by decide) (hts (.fieldLink RX0 17 "PageOne$Act" "ahead" "LPageOne$Act;") (by decide +kernel)) (fun _ h9 => h9) rfl hin rfl (by decide +kernel) rfl rfl (Nat.le_of_ble_eq_true rfl) dX0_init_16 (fun H locs hP hD hS => ?_)
  rw [pl_set hD0 ha0.1 hc_8 hk_10] at hP hD
  obtain ⟨f_11, ef_11⟩ : ∃ y : xF, y = va_up f_7 a0 (.inr (0, [.ref po, .int 0, .ref ah, .int 0])) := ⟨_, rfl⟩
  have hI : xI q h0 d k z f_11 := by rw [ef_11]; exact x_up hI ha0 (by decide) (cO_24 ha0.2)
  have hP : va_P (dC, dI) vwCl (va_pl z.1 f_11) H := by rw [ef_11]; exact hP
  have hD : va_D A (va_pl z.1 f_11) := by rw [ef_11]; exact hD
  have hc_12 : f_11 a0 = .inr (0, [.ref po, .int 0, .ref ah, .int 0]) := by rw [ef_11]; exact up_s
  refine lv_aload_n hx hb dX0_init_19 rfl (lv_at hl 0 rfl) ?_
  refine lv_aload_n hx hb dX0_init_20 rfl (lv_at hl 3 rfl) ?_
  refine lv_ifnonnull (tgt := 28) hx hb dX0_init_21 (by decide) ?_
  refine lv_aload_n hx hb dX0_init_28 rfl (lv_at hl 3 rfl) ?_
  have hs_13 := ac_eq hI hac
  obtain ⟨kk_14, hk_15⟩ := pl_at hac.1.1 hs_13
  refine va_get (D := (dC, dI)) (ci := 0) (v := .int nn) (C := RX0) (T := TX0) (N := 4) hx hb hts (by decide +kernel) hown hK hP kk_14 hk_15 rfl 3 (by decide) (hts (.fieldLink RX0 21 "PageOne$Act" "parts" "I") (by decide +kernel)) (fun _ h9 => h9) rfl dX0_init_29 ?_
  refine lv_iconst (v := 1) hx hb dX0_init_32 (by decide) ?_
  refine lv_iadd hx hb dX0_init_33 ?_
  refine lv_topi (fun x_16 ex_16 => ?_)
  obtain ⟨kk_17, hk_18⟩ := pl_at ha0.1 hc_12
  have hD0 := hD
  refine va_putF (D := (dC, dI)) (ci := 0) (v := .int x_16) (ty := .int) (C := RX0) (T := TX0) (N := 4) hx hb hts (by decide +kernel) tyX0 tyX0_ok nmX0 hown hK hP hD hS kk_17 hk_18 rfl 3 (by decide) (hts (.fieldLink RX0 21 "PageOne$Act" "parts" "I") (by decide +kernel)) (fun _ h9 => h9) rfl hin rfl (by decide +kernel) rfl rfl (Nat.le_of_ble_eq_true rfl) dX0_init_34 (fun H locs hP hD hS => ?_)
  rw [pl_set hD0 ha0.1 hc_12 hk_18] at hP hD
  obtain ⟨f_19, ef_19⟩ : ∃ y : xF, y = va_up f_11 a0 (.inr (0, [.ref po, .int 0, .ref ah, .int x_16])) := ⟨_, rfl⟩
  have hI : xI q h0 d k z f_19 := by rw [ef_19]; exact x_up hI ha0 (by decide) (cO_24 ha0.2)
  have hP : va_P (dC, dI) vwCl (va_pl z.1 f_19) H := by rw [ef_19]; exact hP
  have hD : va_D A (va_pl z.1 f_19) := by rw [ef_19]; exact hD
  have hc_20 : f_19 a0 = .inr (0, [.ref po, .int 0, .ref ah, .int x_16]) := by rw [ef_19]; exact up_s
  exact W.vret hx hb hr (fun t ht hW => ⟨⟨(k, z, f_19), rfl, ⟨rfl, by show f_19 = _; rw [ef_19, ef_11, ef_7, ef_3, up_up, up_up, up_up, ex_16]⟩, by rw [ht]; exact hP, hD⟩, hS.F ht⟩) hS.2.2 dX0_init_37
theorem acF_E {z w : gS} {d : Nat → Nat} (hE : zE z w) : ∀ {xs : List fX} {o : Option Nat}, acF z d o xs → acF w d o xs
  | [], _, h => h
  | x :: xs, _, ⟨a, pp, ah, h1, h2, h3, h4⟩ => ⟨a, pp, ah, h1, ⟨zE_tg hE h2.1, by rw [zE_o hE h2.1.1]; exact h2.2⟩, zE_pc hE h3, acF_E hE h4⟩
/-- one line of a column that is filled: state, fillers (the latest first), row of empty cells -/
noncomputable def fcT (P c t : Nat) (s : mS × List fX × Nat) : mS × List fX × Nat := if mCellAt s.1 (nI P) (nI c) (nI t) = (-2) then (s.1, s.2.1, s.2.2 + 1) else if 0 < s.2.2 ∧ 0 ≤ mFFr s.1 (nI s.2.2) (s.1.1 3).toNatClampNeg (s.1.1 3).toNatClampNeg then (mStand s.1 (mFFr s.1 (nI s.2.2) (s.1.1 3).toNatClampNeg (s.1.1 3).toNatClampNeg) P c (t - s.2.2) 1 s.2.2, ((mFFr s.1 (nI s.2.2) (s.1.1 3).toNatClampNeg (s.1.1 3).toNatClampNeg).toNatClampNeg, P, c, t - s.2.2, s.2.2) :: s.2.1, 0) else (s.1, s.2.1, 0)
noncomputable def fcN (u : mS) (xs : List fX) (P c : Nat) : Nat → mS × List fX × Nat
  | 0 => (u, xs, 0)
  | t + 1 => fcT P c t (fcN u xs P c t)
theorem fc_e {u0 u : mS} {xs0 xs : List fX} {P c t r : Nat} (h : fcN u0 xs0 P c t = (u, xs, r)) (hc : mCellAt u (nI P) (nI c) (nI t) = (-2)) : fcN u0 xs0 P c (t + 1) = (u, xs, r + 1) := by
  show fcT P c t (fcN u0 xs0 P c t) = _
  rw [h]; unfold fcT; rw [if_pos hc]
theorem fc_0 {u0 u : mS} {xs0 xs : List fX} {P c t r : Nat} (h : fcN u0 xs0 P c t = (u, xs, r)) (hc : ¬ mCellAt u (nI P) (nI c) (nI t) = (-2)) (hn : r = 0 ∨ ∀ j, j < (u.1 3).toNatClampNeg → ¬ ffC u (nI r) j) (h80 : (u.1 3).toNatClampNeg ≤ 80) : fcN u0 xs0 P c (t + 1) = (u, xs, 0) := by
  show fcT P c t (fcN u0 xs0 P c t) = _
  rw [h]; unfold fcT; rw [if_neg hc, if_neg ?_]
  rintro ⟨h1, h2⟩
  rcases hn with hn | hn
  · have h3 : 0 < r := h1
    omega
  · have e := mFF_n h80 (u.1 3).toNatClampNeg (Nat.le_refl _) (fun i _ hi => hn i hi)
    rw [e] at h2
    exact absurd h2 (by decide)
theorem fc_1 {u0 u : mS} {xs0 xs : List fX} {P c t r i : Nat} (h : fcN u0 xs0 P c t = (u, xs, r)) (hc : ¬ mCellAt u (nI P) (nI c) (nI t) = (-2)) (hr : 0 < r) (hi : i < (u.1 3).toNatClampNeg) (hf : ffC u (nI r) i) (hno : ∀ j, j < i → ¬ ffC u (nI r) j) (h80 : (u.1 3).toNatClampNeg ≤ 80) : fcN u0 xs0 P c (t + 1) = (mStand u (nI i) P c (t - r) 1 r, (i, P, c, t - r, r) :: xs, 0) := by
  show fcT P c t (fcN u0 xs0 P c t) = _
  have e := mFF_s h80 hi hf hno (u.1 3).toNatClampNeg (Nat.le_refl _) (by omega)
  rw [h]; unfold fcT; rw [if_neg hc, if_pos ⟨hr, by show 0 ≤ mFFr u (nI r) _ _; rw [e, i32_le, i0, nI_toInt (by omega)]; omega⟩]
  dsimp only
  rw [e, nI_clamp (by omega)]
/-- the row of empty cells that ends here is a place -/
theorem fc_in {u : mS} {P c t r : Nat} (hP : P < 12) (hc : c < 8) (hl : ∀ a, a < 8 → bw (u.2 0 (8 * P + a)) 0 60 = true) (hr : 0 < r) (hrt : r ≤ t) (ht : t ≤ 61) (hrun : ∀ b, b < r → mCellAt u (nI P) (nI c) (nI (t - r + b)) = (-2)) : rIn u P c (t - r) 1 r := by
  have q := (mC_iff hP (by omega) (by omega) (fun h => hl _ h)).mp (mCA (hrun (r - 1) (by omega))).1
  obtain ⟨l1, l2, l3⟩ := nI_of_bw (hl c hc)
  have e60 : (60 : Int32).toInt = 60 := rfl
  refine ⟨hP, by omega, by omega, by omega, by omega, fun a ha => ?_⟩
  have ea : a = 0 := by omega
  subst ea
  have := q.2
  show t - r + r ≤ (u.2 0 (8 * P + c)).toNatClampNeg
  omega
