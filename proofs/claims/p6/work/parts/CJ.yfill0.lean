set_option maxHeartbeats 4000000 in
set_option maxRecDepth 100000 in
theorem y_ActA (l : Launch) (dC : Nat → ClassId) (dI : Nat → Nat → Nat) (q : Nat → ClassId) (h0 : Nat) (d : Nat → Nat) (k : Nat → Int32) (z : gS) (f : xF) (hI : xI q h0 d k z f) (a0 po ah : Nat) (ha0 : tg z a0 24) (hraw : f a0 = .inr (0, [.null, .int 0, .null, .int 0])) (hah : tg z ah 23) (pp : Nat) (ll nn : Int32) (aa : Option Nat) (hac : acS z ah pp ll nn aa) (sz : Nat) : Met l yX0_init wsX0_init ({ frames := 1, cells := 0, slots := 0, locals := 12 }) (va_Pc [.ref a0, .ref po, .int 0, .ref ah] (fun U => U.heap.size = sz ∧ PX dC dI (va_pl z.1 f) (xT q) U ∧ va_D (fun _ => True) (va_pl z.1 f))) (va_Qv (fun (w : xU) => w.2.1 = z ∧ w.2.2 = va_up f a0 (.inr (0, [.ref po, .int 0, .ref ah, .int (nn + 1)]))) (fun (w : xU) t => va_P (dC, dI) vwCl (va_pl w.2.1.1 w.2.2) t.heap ∧ va_D (va_A (va_pl z.1 f) sz) (va_pl w.2.1.1 w.2.2)) (va_A (va_pl z.1 f) sz)) 0 0 (va_A (va_pl z.1 f) sz) := by
  refine Met.ofW (cc := cX0_init) (maxL := 4) (ret := none) (by decide) rfl ?_
  intro p e s m args below meth c s₁ B hml hv
  obtain ⟨rfl, hsz, ⟨⟨hP, hK, hN⟩, hXN⟩, hD0⟩ := hv
  have hx := B.exec
  have hb := B.bytes
  have hr := B.returns
  have hts := atoms_spec (ws := wsX0_init) B.pre
  have hown : s.vm.findClass RX0 = some m.cls := findClass_of_methodNamed B.named
  have hlocks := B.notSynchronized
  subst hsz
  have hD := hD0.self (sz := s.heap.size)
  generalize hAe : va_A (va_pl z.1 f) s.heap.size = A at hD ⊢
  have hA : ∀ q : Nat, s.heap.size ≤ q → A q := fun q h => by rw [← hAe]; exact Or.inr h
  have hS : va_S A s.heap s.heap [] := va_S.rf
  have hl := lv_entry ([.ref a0, .ref po, .int 0, .ref ah]) (n := 4) (Nat.le_of_ble_eq_true rfl)
  rw [lg_entry_eq]
  generalize (lg_sl ([.ref a0, .ref po, .int 0, .ref ah]) ++ List.replicate (4 - (lg_sl ([.ref a0, .ref po, .int 0, .ref ah])).length) Slot.unset).toArray = ls at hl ⊢
  have hl : lv_has ls 4 [(0, .ref a0), (1, .ref po), (2, .int 0), (3, .ref ah)] := hl
  have hin : meth.name = "<init>" := (name_of_methodNamed B.named B.method).1
  refine lv_aload_n hx hb dX0_init_0 rfl (lv_at hl 0 rfl) ?_
  refine W.objInit hx hb hown (hts (.methodLink RX0 1 objectInit) (by decide +kernel)) (hts (.instanceMethod objectInit) (by decide +kernel)) (hts (.code objectInit ⟨#[0xb1]⟩ 1 none) (by decide +kernel)) rfl (by rw [hml]; exact hl.1) rfl dX0_init_1 (Nat.le_of_ble_eq_true rfl) (Nat.le_of_ble_eq_true rfl) ?_
  refine W.eq (g2 := F0 m 4 ls []) rfl ?_
  refine lv_aload_n hx hb dX0_init_4 rfl (lv_at hl 0 rfl) ?_
  refine lv_aload_n hx hb dX0_init_5 rfl (lv_at hl 1 rfl) ?_
  obtain ⟨kk_1, hk_2⟩ := pl_at ha0.1 hraw
  have hD0 := hD
  refine va_putF (D := (dC, dI)) (ci := 0) (v := .ref po) (ty := .object "PageOne$Piece") (C := RX0) (T := TX0) (N := 4) hx hb hts (by decide +kernel) tyX0 tyX0_ok nmX0 hown hK hP hD hS kk_1 hk_2 rfl 0 (by decide) (hts (.fieldLink RX0 7 "PageOne$Act" "piece" "LPageOne$Piece;") (by decide +kernel)) (fun _ h9 => h9) rfl hin rfl (by decide +kernel) rfl rfl (Nat.le_of_ble_eq_true rfl) dX0_init_6 (fun H locs hP hD hS => ?_)
  rw [pl_set hD0 ha0.1 hraw hk_2] at hP hD
  obtain ⟨f_3, ef_3⟩ : ∃ y : xF, y = va_up f a0 (.inr (0, [.ref po, .int 0, .null, .int 0])) := ⟨_, rfl⟩
  have hI : xI q h0 d k z f_3 := by rw [ef_3]; exact x_up hI ha0 (by decide) (cO_24 ha0.2)
  have hP : va_P (dC, dI) vwCl (va_pl z.1 f_3) H := by rw [ef_3]; exact hP
  have hD : va_D A (va_pl z.1 f_3) := by rw [ef_3]; exact hD
  have hc_4 : f_3 a0 = .inr (0, [.ref po, .int 0, .null, .int 0]) := by rw [ef_3]; exact up_s
  refine lv_aload_n hx hb dX0_init_9 rfl (lv_at hl 0 rfl) ?_
  refine lv_iload_n hx hb dX0_init_10 rfl (lv_at hl 2 rfl) ?_
  obtain ⟨kk_5, hk_6⟩ := pl_at ha0.1 hc_4
  have hD0 := hD
  refine va_putF (D := (dC, dI)) (ci := 0) (v := .int 0) (ty := .boolean) (C := RX0) (T := TX0) (N := 4) hx hb hts (by decide +kernel) tyX0 tyX0_ok nmX0 hown hK hP hD hS kk_5 hk_6 rfl 1 (by decide) (hts (.fieldLink RX0 13 "PageOne$Act" "lifted" "Z") (by decide +kernel)) (fun _ h9 => h9) rfl hin rfl (by decide +kernel) rfl rfl (Nat.le_of_ble_eq_true rfl) dX0_init_11 (fun H locs hP hD hS => ?_)
  rw [pl_set hD0 ha0.1 hc_4 hk_6] at hP hD
  obtain ⟨f_7, ef_7⟩ : ∃ y : xF, y = va_up f_3 a0 (.inr (0, [.ref po, .int 0, .null, .int 0])) := ⟨_, rfl⟩
  have hI : xI q h0 d k z f_7 := by rw [ef_7]; exact x_up hI ha0 (by decide) (cO_24 ha0.2)
  have hP : va_P (dC, dI) vwCl (va_pl z.1 f_7) H := by rw [ef_7]; exact hP
  have hD : va_D A (va_pl z.1 f_7) := by rw [ef_7]; exact hD
  have hc_8 : f_7 a0 = .inr (0, [.ref po, .int 0, .null, .int 0]) := by rw [ef_7]; exact up_s
  refine lv_aload_n hx hb dX0_init_14 rfl (lv_at hl 0 rfl) ?_
  refine lv_aload_n hx hb dX0_init_15 rfl (lv_at hl 3 rfl) ?_
  obtain ⟨kk_9, hk_10⟩ := pl_at ha0.1 hc_8
  have hD0 := hD
  refine va_putF (D := (dC, dI)) (ci := 0) (v := .ref ah) (ty := .object "PageOne$Act") (C := RX0) (T := TX0) (N := 4) hx hb hts (by decide +kernel) tyX0 tyX0_ok nmX0 hown hK hP hD hS kk_9 hk_10 rfl 2 (by decide) (hts (.fieldLink RX0 17 "PageOne$Act" "ahead" "LPageOne$Act;") (by decide +kernel)) (fun _ h9 => h9) rfl hin rfl (by decide +kernel) rfl rfl (Nat.le_of_ble_eq_true rfl) dX0_init_16 (fun H locs hP hD hS => ?_)
  rw [pl_set hD0 ha0.1 hc_8 hk_10] at hP hD
  obtain ⟨f_11, ef_11⟩ : ∃ y : xF, y = va_up f_7 a0 (.inr (0, [.ref po, .int 0, .ref ah, .int 0])) := ⟨_, rfl⟩
  have hI : xI q h0 d k z f_11 := by rw [ef_11]; exact x_up hI ha0 (by decide) (cO_24 ha0.2)
  have hP : va_P (dC, dI) vwCl (va_pl z.1 f_11) H := by rw [ef_11]; exact hP
  have hD : va_D A (va_pl z.1 f_11) := by rw [ef_11]; exact hD
  have hc_12 : f_11 a0 = .inr (0, [.ref po, .int 0, .ref ah, .int 0]) := by rw [ef_11]; exact up_s
  refine lv_aload_n hx hb dX0_init_19 rfl (lv_at hl 0 rfl) ?_
  refine lv_aload_n hx hb dX0_init_20 rfl (lv_at hl 3 rfl) ?_
  refine lv_ifnonnull (tgt := 28) hx hb dX0_init_21 (by decide) ?_
  refine lv_aload_n hx hb dX0_init_28 rfl (lv_at hl 3 rfl) ?_
  have hs_13 := ac_eq hI hac
  obtain ⟨kk_14, hk_15⟩ := pl_at hac.1.1 hs_13
  refine va_get (D := (dC, dI)) (ci := 0) (v := .int nn) (C := RX0) (T := TX0) (N := 4) hx hb hts (by decide +kernel) hown hK hP kk_14 hk_15 rfl 3 (by decide) (hts (.fieldLink RX0 21 "PageOne$Act" "parts" "I") (by decide +kernel)) (fun _ h9 => h9) rfl dX0_init_29 ?_
  refine lv_iconst (v := 1) hx hb dX0_init_32 (by decide) ?_
  refine lv_iadd hx hb dX0_init_33 ?_
  refine lv_topi (fun x_16 ex_16 => ?_)
  obtain ⟨kk_17, hk_18⟩ := pl_at ha0.1 hc_12
  have hD0 := hD
  refine va_putF (D := (dC, dI)) (ci := 0) (v := .int x_16) (ty := .int) (C := RX0) (T := TX0) (N := 4) hx hb hts (by decide +kernel) tyX0 tyX0_ok nmX0 hown hK hP hD hS kk_17 hk_18 rfl 3 (by decide) (hts (.fieldLink RX0 21 "PageOne$Act" "parts" "I") (by decide +kernel)) (fun _ h9 => h9) rfl hin rfl (by decide +kernel) rfl rfl (Nat.le_of_ble_eq_true rfl) dX0_init_34 (fun H locs hP hD hS => ?_)
  rw [pl_set hD0 ha0.1 hc_12 hk_18] at hP hD
  obtain ⟨f_19, ef_19⟩ : ∃ y : xF, y = va_up f_11 a0 (.inr (0, [.ref po, .int 0, .ref ah, .int x_16])) := ⟨_, rfl⟩
  have hI : xI q h0 d k z f_19 := by rw [ef_19]; exact x_up hI ha0 (by decide) (cO_24 ha0.2)
  have hP : va_P (dC, dI) vwCl (va_pl z.1 f_19) H := by rw [ef_19]; exact hP
  have hD : va_D A (va_pl z.1 f_19) := by rw [ef_19]; exact hD
  have hc_20 : f_19 a0 = .inr (0, [.ref po, .int 0, .ref ah, .int x_16]) := by rw [ef_19]; exact up_s
  exact W.vret hx hb hr (fun t ht hW => ⟨⟨(k, z, f_19), rfl, ⟨rfl, by show f_19 = _; rw [ef_19, ef_11, ef_7, ef_3, up_up, up_up, up_up, ex_16]⟩, by rw [ht]; exact hP, hD⟩, hS.F ht⟩) hS.2.2 dX0_init_37
theorem acF_E {z w : gS} {d : Nat → Nat} (hE : zE z w) : ∀ {xs : List fX} {o : Option Nat}, acF z d o xs → acF w d o xs
  | [], _, h => h
  | x :: xs, _, ⟨a, pp, ah, h1, h2, h3, h4⟩ => ⟨a, pp, ah, h1, ⟨zE_tg hE h2.1, by rw [zE_o hE h2.1.1]; exact h2.2⟩, zE_pc hE h3, acF_E hE h4⟩
/-- one line of a column that is filled: state, fillers (the latest first), row of empty cells -/
noncomputable def fcT (P c t : Nat) (s : mS × List fX × Nat) : mS × List fX × Nat := if mCellAt s.1 (nI P) (nI c) (nI t) = (-2) then (s.1, s.2.1, s.2.2 + 1) else if 0 < s.2.2 ∧ 0 ≤ mFFr s.1 (nI s.2.2) (s.1.1 3).toNatClampNeg (s.1.1 3).toNatClampNeg then (mStand s.1 (mFFr s.1 (nI s.2.2) (s.1.1 3).toNatClampNeg (s.1.1 3).toNatClampNeg) P c (t - s.2.2) 1 s.2.2, ((mFFr s.1 (nI s.2.2) (s.1.1 3).toNatClampNeg (s.1.1 3).toNatClampNeg).toNatClampNeg, P, c, t - s.2.2, s.2.2) :: s.2.1, 0) else (s.1, s.2.1, 0)
noncomputable def fcN (u : mS) (xs : List fX) (P c : Nat) : Nat → mS × List fX × Nat
  | 0 => (u, xs, 0)
  | t + 1 => fcT P c t (fcN u xs P c t)
theorem fc_e {u0 u : mS} {xs0 xs : List fX} {P c t r : Nat} (h : fcN u0 xs0 P c t = (u, xs, r)) (hc : mCellAt u (nI P) (nI c) (nI t) = (-2)) : fcN u0 xs0 P c (t + 1) = (u, xs, r + 1) := by
  show fcT P c t (fcN u0 xs0 P c t) = _
  rw [h]; unfold fcT; rw [if_pos hc]
theorem fc_0 {u0 u : mS} {xs0 xs : List fX} {P c t r : Nat} (h : fcN u0 xs0 P c t = (u, xs, r)) (hc : ¬ mCellAt u (nI P) (nI c) (nI t) = (-2)) (hn : r = 0 ∨ ∀ j, j < (u.1 3).toNatClampNeg → ¬ ffC u (nI r) j) (h80 : (u.1 3).toNatClampNeg ≤ 80) : fcN u0 xs0 P c (t + 1) = (u, xs, 0) := by
  show fcT P c t (fcN u0 xs0 P c t) = _
  rw [h]; unfold fcT; rw [if_neg hc, if_neg ?_]
  rintro ⟨h1, h2⟩
  rcases hn with hn | hn
  · have h3 : 0 < r := h1
    omega
  · have e := mFF_n h80 (u.1 3).toNatClampNeg (Nat.le_refl _) (fun i _ hi => hn i hi)
    rw [e] at h2
    exact absurd h2 (by decide)
theorem fc_1 {u0 u : mS} {xs0 xs : List fX} {P c t r i : Nat} (h : fcN u0 xs0 P c t = (u, xs, r)) (hc : ¬ mCellAt u (nI P) (nI c) (nI t) = (-2)) (hr : 0 < r) (hi : i < (u.1 3).toNatClampNeg) (hf : ffC u (nI r) i) (hno : ∀ j, j < i → ¬ ffC u (nI r) j) (h80 : (u.1 3).toNatClampNeg ≤ 80) : fcN u0 xs0 P c (t + 1) = (mStand u (nI i) P c (t - r) 1 r, (i, P, c, t - r, r) :: xs, 0) := by
  show fcT P c t (fcN u0 xs0 P c t) = _
  have e := mFF_s h80 hi hf hno (u.1 3).toNatClampNeg (Nat.le_refl _) (by omega)
  rw [h]; unfold fcT; rw [if_neg hc, if_pos ⟨hr, by show 0 ≤ mFFr u (nI r) _ _; rw [e, i32_le, i0, nI_toInt (by omega)]; omega⟩]
  dsimp only
  rw [e, nI_clamp (by omega)]
/-- the row of empty cells that ends here is a place -/
theorem fc_in {u : mS} {P c t r : Nat} (hP : P < 12) (hc : c < 8) (hl : ∀ a, a < 8 → bw (u.2 0 (8 * P + a)) 0 60 = true) (hr : 0 < r) (hrt : r ≤ t) (ht : t ≤ 61) (hrun : ∀ b, b < r → mCellAt u (nI P) (nI c) (nI (t - r + b)) = (-2)) : rIn u P c (t - r) 1 r := by
  have q := (mC_iff hP (by omega) (by omega) (fun h => hl _ h)).mp (mCA (hrun (r - 1) (by omega))).1
  obtain ⟨l1, l2, l3⟩ := nI_of_bw (hl c hc)
  have e60 : (60 : Int32).toInt = 60 := rfl
  refine ⟨hP, by omega, by omega, by omega, by omega, fun a ha => ?_⟩
  have ea : a = 0 := by omega
  subst ea
  have := q.2
  show t - r + r ≤ (u.2 0 (8 * P + c)).toNatClampNeg
  omega
set_option maxHeartbeats 4000000 in
set_option maxRecDepth 100000 in
theorem y_fc_l {p : Program} {l : Launch} {e : Env} {R : Room} {s : State} {m : MethodId} {args : Array Value} {below : List Frame} {meth : Method} {c : Code} {Q : State → Prop} {cells slots : Nat} {dC : Nat → ClassId} {dI : Nat → Nat → Nat} {q : Nat → ClassId} {h0 : Nat} {d : Nat → Nat} {k : Nat → Int32} {z0 : gS} {f0 : xF} {u0 : mS} {xs0 : List fX} {P c9 L9 : Nat} (hP9 : P < 12) (hc8 : c9 < 8) (eL : u0.2 0 (8 * P + c9) = nI L9) (hL60 : L9 ≤ 60) {A : Nat → Prop} {H0 : Heap} (hx : p.tables.exec = Jvm.exec) (hb : c.code = cX11_fillColumn) (hml : c.maxLocals = 10) (hts : ∀ w ∈ wsX11_fillColumn, w.before args s = true) (hown : s.vm.findClass RX11 = some m.cls) (hN : NN s) (hXN : XN s) (hK : va_K (dC, dI) vwCl (xT q) s) (hRf : 5 ≤ R.frames) (hRl : 109 ≤ R.locals) (hRc : cells + 122 ≤ R.cells) (hRs : slots + 610 ≤ R.slots) (hA : ∀ q : Nat, H0.size ≤ q → A q) (kx120 : ∀ (z : gS) (f : xF) (H : Heap) (locs : List Loc) (r : Option Nat) (u : mS) (xs : List fX) (r9 : Nat) (ls : Array Slot), fcN u0 xs0 P c9 (L9 + 1) = (u, xs, r9) → rep q d u z f → neI u → u.2 0 = u0.2 0 → k 0 = u.1 3 → k 1 = u.1 28 → k 2 = u.1 38 → k 3 = u.1 39 → acF z d r xs → f (d 3) = f0 (d 3) → zE z0 z → xI q h0 d k z f → va_P (dC, dI) vwCl (va_pl z.1 f) H → va_D A (va_pl z.1 f) → va_S A H0 H locs → lv_has ls 10 [(5, va_rf r)] → W p l e R s m args below meth c H locs (cells + 122) (slots + 610) Q (F0 m 120 ls [])) : ∀ (n i : Nat) (z : gS) (f : xF) (H : Heap) (locs : List Loc) (r : Option Nat) (r9 : Nat) (u : mS) (xs : List fX) (ls : Array Slot), i ≤ L9 + 1 → 61 - i < n → r9 ≤ i → fcN u0 xs0 P c9 i = (u, xs, r9) → (∀ b, b < r9 → mCellAt u (nI P) (nI c9) (nI (i - r9 + b)) = (-2)) → rep q d u z f → neI u → u.2 0 = u0.2 0 → k 0 = u.1 3 → k 1 = u.1 28 → k 2 = u.1 38 → k 3 = u.1 39 → acF z d r xs → f (d 3) = f0 (d 3) → zE z0 z → xI q h0 d k z f → va_P (dC, dI) vwCl (va_pl z.1 f) H → va_D A (va_pl z.1 f) → va_S A H0 H locs → lv_has ls 10 [(7, .int (nI i)), (6, .int (nI r9)), (5, va_rf r), (4, .ref (d (10 + P))), (0, .ref h0), (1, .int (nI P)), (2, .int (nI c9))] → W p l e R s m args below meth c H locs (cells + 2 * i) (slots + 10 * i) Q (F0 m 17 ls []) := by
  intro n
  induction n with
  | zero => intro i z f H locs r r9 u xs ls h1 h2; exact absurd h2 (Nat.not_lt_zero _)
  | succ n ih =>
    intro i z f H locs r r9 u xs ls hi1 hn hr9 hfN hrun hrp hne hu0 hk0 hk1 hk2 hk3 hacF h3m hEz hI hP hD hS hl
    have hk1o := hk1
    have hi : i ≤ 61 := by omega
    have h80n := w80i hI.1.1 hk0
    rcases r with _ | b9
    ·
      have hl : lv_has ls 10 [(7, .int (nI i)), (6, .int (nI r9)), (5, .null), (4, .ref (d (10 + P))), (0, .ref h0), (1, .int (nI P)), (2, .int (nI c9))] := hl
      rcases xs with _ | ⟨x9, xs9⟩
      ·
        obtain ⟨dd_1, ii_2, gl_3, gc_4, ht_5, ht_6, ht_7, hs_8, hg_9, hgb_10, hc_11, el_12, ec_13⟩ := pg_all hI hrp.1 hP9
        have hbl : ∀ a, a < 8 → bw (u.2 0 (8 * P + a)) 0 60 = true := fun a ha => by rw [← el_12 a ha]; exact hgb_10 a ha
        refine lv_iload hx hb dX11_fillColumn_17 (lv_at hl 0 rfl) ?_
        refine lv_aload hx hb dX11_fillColumn_19 (lv_at hl 3 rfl) ?_
        obtain ⟨kk_14, hk_15⟩ := pl_at ht_5.1 hs_8
        refine va_get (D := (dC, dI)) (ci := 8) (v := .ref (d (30 + P))) (C := RX9) (T := TX9) (N := 5) hx hb hts (by decide +kernel) hown hK hP kk_14 hk_15 rfl 0 (by decide) (hts (.fieldLink RX11 59 "PageOne$Sheet" "lines" "[I") (by decide +kernel)) (fun _ h9 => h9) rfl dX11_fillColumn_21 ?_
        refine lv_iload_n hx hb dX11_fillColumn_24 rfl (lv_at hl 6 rfl) ?_
        obtain ⟨kk_16, hk_17⟩ := pl_at ht_6.1 hg_9
        refine va_iald hx hb hK hP kk_16 0 hk_17 rfl (vp_in_nI hc8 (by decide)) dX11_fillColumn_25 ?_
        refine lv_topi (fun y_18 ey_18 => ?_)
        obtain rfl : y_18 = (nI L9) := ey_18.trans ((by rw [nI_clamp (by omega), el_12 c9 hc8, hu0, eL]))
        refine lv_icmp_gt (tgt := 120) hx hb dX11_fillColumn_26 (by decide) (fun c_19 => ?_) (fun c_19 => ?_)
        ·
          have hie : i = L9 + 1 := by have h9 := c_19; rw [i32_lt, nI_toInt (by omega), nI_toInt (by omega)] at h9; omega
          refine W.widen (k := cells + 122) (n := slots + 610) (by omega) (by omega) ?_
          exact kx120 _ _ _ _ none u [] r9 ls (by rw [← hie]; exact hfN) hrp hne hu0 hk0 hk1o hk2 hk3 hacF h3m hEz hI hP hD hS (lv_sub hl [2] rfl)
        ·
          have hiL : i ≤ L9 := by have h9 := c_19; rw [i32_lt, nI_toInt (by omega), nI_toInt (by omega)] at h9; omega
          refine lv_aload hx hb dX11_fillColumn_29 (lv_at hl 3 rfl) ?_
          refine lv_iload_n hx hb dX11_fillColumn_31 rfl (lv_at hl 6 rfl) ?_
          refine lv_iload hx hb dX11_fillColumn_32 (lv_at hl 0 rfl) ?_
          obtain ⟨kk_20, hk_21⟩ := pl_at ht_5.1 hs_8
          refine vp_callSi (va_runV (As := [.int (nI c9), .int (nI i)]) (rest := []) ⟨hx, hb, hml, hown, hts⟩ (y_at l dC dI q h0 d k z f hI (d (10 + P)) (d (30 + P)) (d (50 + P)) (u.2 1 P) dd_1 ii_2 gl_3 gc_4 ht_5 hs_8 ht_6 ht_7 hg_9 hgb_10 hc_11 (nI c9) (nI i)) (cwV 2 hts gX11_fillColumn_X9_at rfl rfl rfl (by decide +kernel) ⟨Nat.le_trans (Nat.le_of_ble_eq_true rfl) hRf, Nat.le_trans (Nat.le_of_ble_eq_true rfl) hRl⟩) ⟨px_fb, va_recv hK hP (ci := 8) (q0 := kk_20) rfl hk_21, fun U hU hW => ⟨rfl, px_to hU hW hP hK hN hXN⟩⟩ rfl rfl hl.1 rfl (lv_room (Nat.le_of_ble_eq_true rfl)) dX11_fillColumn_34 ⟨by omega, by omega⟩).run (fun r hw => ?_)
          generalize r = zr_22 at hw ⊢
          have hzr_22 := hw
          refine lv_bipush (v := (-2)) hx hb dX11_fillColumn_37 (by decide) ?_
          refine lv_icmp_ne (tgt := 48) hx hb dX11_fillColumn_39 (by decide) (fun c_23 => ?_) (fun c_23 => ?_)
          ·
            refine lv_iload hx hb dX11_fillColumn_48 (lv_at hl 1 rfl) ?_
            refine lv_if_le (tgt := 62) hx hb dX11_fillColumn_50 (by decide) (fun c_24 => ?_) (fun c_24 => ?_)
            ·
              refine lv_null hx hb dX11_fillColumn_62 ?_
              refine lv_astoreN (lv' := [(8, .null), (7, .int (nI i)), (6, .int (nI r9)), (5, .null), (4, .ref (d (10 + P))), (0, .ref h0), (1, .int (nI P)), (2, .int (nI c9))]) hx hb dX11_fillColumn_63 hl (by decide) rfl (fun ls hl => ?_)
              refine lv_aloadN hx hb dX11_fillColumn_65 (lv_at hl 0 rfl) ?_
              refine lv_ifnullN (tgt := 111) hx hb dX11_fillColumn_67 (by decide) ?_
              refine lv_iconst (v := 0) hx hb dX11_fillColumn_111 (by decide) ?_
              refine lv_istore (lv' := [(6, .int 0), (8, .null), (7, .int (nI i)), (5, .null), (4, .ref (d (10 + P))), (0, .ref h0), (1, .int (nI P)), (2, .int (nI c9))]) hx hb dX11_fillColumn_112 hl (by decide) rfl (fun ls hl => ?_)
              refine lv_iinc (v := (nI (i + 1))) (lv' := [(7, .int (nI (i + 1))), (6, .int 0), (8, .null), (5, .null), (4, .ref (d (10 + P))), (0, .ref h0), (1, .int (nI P)), (2, .int (nI c9))]) hx hb dX11_fillColumn_114 hl (k := 2) rfl (nI_1 i) (by decide) rfl (fun ls hl => ?_)
              refine lv_goto (tgt := 17) hx hb dX11_fillColumn_117 (by decide) ?_
              refine W.widen (k := cells + 2 * (i + 1)) (n := slots + 10 * (i + 1)) (by omega) (by omega) ?_
              exact ih (i + 1) _ _ _ _ none 0 u [] ls (by omega) (by omega) (Nat.zero_le _) (fc_0 hfN (fun e9 => c_23 (hzr_22.trans ((shAt_eq hP9 el_12 ec_13 hgb_10 _ _).trans e9))) (Or.inl (by have h9 := c_24; rw [i32_le, nI_toInt (by omega), i0] at h9; omega)) h80n) (fun b hb => absurd hb (Nat.not_lt_zero _)) hrp hne hu0 hk0 hk1o hk2 hk3 hacF h3m hEz hI hP hD hS (lv_sub hl [0, 1, 3, 4, 5, 6, 7] rfl)
            ·
              have hr0 : 0 < r9 := by have h9 := c_24; rw [i32_le, nI_toInt (by omega), i0] at h9; omega
              refine lv_aload_n hx hb dX11_fillColumn_53 rfl (lv_at hl 4 rfl) ?_
              refine lv_iload hx hb dX11_fillColumn_54 (lv_at hl 1 rfl) ?_
              obtain ⟨kk_25, hk_26⟩ := pl_at hI.2.1.1.1 hI.2.2.2.1.1
              refine va_csq (va_runV (As := [.int (nI r9)]) (rest := []) ⟨hx, hb, hml, hown, hts⟩ (y_fillerFor l dC dI q h0 d k z f hI (nI r9) u hrp hk0 hk1 hk2 hk3) (cwV 1 hts gX11_fillColumn_X11_fillerFor rfl rfl rfl (by decide +kernel) ⟨Nat.le_trans (Nat.le_of_ble_eq_true rfl) hRf, Nat.le_trans (Nat.le_of_ble_eq_true rfl) hRl⟩) ⟨px_fb, va_recv hK hP (ci := 10) (q0 := kk_25) rfl hk_26, fun U hU hW => ⟨rfl, px_to hU hW hP hK hN hXN⟩⟩ rfl rfl hl.1 rfl (lv_room (Nat.le_of_ble_eq_true rfl)) dX11_fillColumn_56 ⟨by omega, by omega⟩).run (fun r hw => ?_)
              rcases hw with ⟨hr9x, hno⟩ | ⟨j9, hj9, hr9x, hfc, hno⟩
              ·
                subst hr9x
                refine W.eq (g2 := F0 m 59 ls [.null]) rfl ?_
                refine lv_goto (tgt := 63) hx hb dX11_fillColumn_59 (by decide) ?_
                refine lv_astoreN (lv' := [(8, .null), (7, .int (nI i)), (6, .int (nI r9)), (5, .null), (4, .ref (d (10 + P))), (0, .ref h0), (1, .int (nI P)), (2, .int (nI c9))]) hx hb dX11_fillColumn_63 hl (by decide) rfl (fun ls hl => ?_)
                refine lv_aloadN hx hb dX11_fillColumn_65 (lv_at hl 0 rfl) ?_
                refine lv_ifnullN (tgt := 111) hx hb dX11_fillColumn_67 (by decide) ?_
                refine lv_iconst (v := 0) hx hb dX11_fillColumn_111 (by decide) ?_
                refine lv_istore (lv' := [(6, .int 0), (8, .null), (7, .int (nI i)), (5, .null), (4, .ref (d (10 + P))), (0, .ref h0), (1, .int (nI P)), (2, .int (nI c9))]) hx hb dX11_fillColumn_112 hl (by decide) rfl (fun ls hl => ?_)
                refine lv_iinc (v := (nI (i + 1))) (lv' := [(7, .int (nI (i + 1))), (6, .int 0), (8, .null), (5, .null), (4, .ref (d (10 + P))), (0, .ref h0), (1, .int (nI P)), (2, .int (nI c9))]) hx hb dX11_fillColumn_114 hl (k := 2) rfl (nI_1 i) (by decide) rfl (fun ls hl => ?_)
                refine lv_goto (tgt := 17) hx hb dX11_fillColumn_117 (by decide) ?_
                refine W.widen (k := cells + 2 * (i + 1)) (n := slots + 10 * (i + 1)) (by omega) (by omega) ?_
                exact ih (i + 1) _ _ _ _ none 0 u [] ls (by omega) (by omega) (Nat.zero_le _) (fc_0 hfN (fun e9 => c_23 (hzr_22.trans ((shAt_eq hP9 el_12 ec_13 hgb_10 _ _).trans e9))) (Or.inr hno) h80n) (fun b hb => absurd hb (Nat.not_lt_zero _)) hrp hne hu0 hk0 hk1o hk2 hk3 hacF h3m hEz hI hP hD hS (lv_sub hl [0, 1, 3, 4, 5, 6, 7] rfl)
              ·
                subst hr9x
                have hitj := rI_itm hrp.2.2.1 hj9
                refine W.eq (g2 := F0 m 59 ls [.ref (d (2000 + j9))]) rfl ?_
                refine lv_goto (tgt := 63) hx hb dX11_fillColumn_59 (by decide) ?_
                refine lv_astore (lv' := [(8, .ref (d (2000 + j9))), (7, .int (nI i)), (6, .int (nI r9)), (5, .null), (4, .ref (d (10 + P))), (0, .ref h0), (1, .int (nI P)), (2, .int (nI c9))]) hx hb dX11_fillColumn_63 hl (by decide) rfl (fun ls hl => ?_)
                refine lv_aload hx hb dX11_fillColumn_65 (lv_at hl 0 rfl) ?_
                refine lv_ifnull hx hb dX11_fillColumn_67 ?_
                refine va_new (ci := 7) (fs := [.null, .int 0, .int 0, .int 0, .int 0, .int 0]) (C := RX8) (T := TX8) (N := 6) hx hb hts (by decide +kernel) tyX8 tyX8_ok hown (hts (.classLink RX11 106 RX8) (by decide +kernel)) (hts (.instantiable RX8 6) (by decide +kernel)) (hts (.initialized RX8) (by decide +kernel)) hK hP hD hS hA rfl nwX8 (by omega) (by omega) dX11_fillColumn_70 (fun q_27 H hPn hDn hS => ?_)
                have hP := vaP_l hPn
                refine W.widen (k := cells + 2 * i + 1) (n := slots + 10 * i + 6) (by omega) (by omega) ?_
                refine lv_dup hx hb dX11_fillColumn_73 rfl ?_
                refine lv_aload hx hb dX11_fillColumn_74 (lv_at hl 0 rfl) ?_
                refine lv_iload_n hx hb dX11_fillColumn_76 rfl (lv_at hl 6 rfl) ?_
                refine lv_iload_n hx hb dX11_fillColumn_77 rfl (lv_at hl 7 rfl) ?_
                refine lv_iload hx hb dX11_fillColumn_78 (lv_at hl 1 rfl) ?_
                refine lv_iload hx hb dX11_fillColumn_80 (lv_at hl 2 rfl) ?_
                refine lv_isub hx hb dX11_fillColumn_82 ?_
                refine lv_topi (fun y_28 ey_28 => ?_)
                obtain rfl : y_28 = (nI (i - r9)) := ey_28.trans (nI_sb hr9 (by omega))
                refine lv_iconst (v := 1) hx hb dX11_fillColumn_83 (by decide) ?_
                refine lv_iload hx hb dX11_fillColumn_84 (lv_at hl 2 rfl) ?_
                have hPc := vaP_r hPn
                have hDc := vaD_r hDn
                have hFc := fr_part hDn hS hA
                refine va_callv (va_runI (As := [.ref (d (2000 + j9)), .int (nI P), .int (nI c9), .int (nI (i - r9)), .int 1, .int (nI r9)]) (rest := [.ref q_27]) ⟨hx, hb, hml, hown, hts⟩ (x_PieceI l dC dI q_27 (d (2000 + j9)) (nI P) (nI c9) (nI (i - r9)) 1 (nI r9) H.size) (cwI 6 hts gX11_fillColumn_X8_init rfl rfl rfl (hts (.initialized RX8) (by decide +kernel)) (hts (.methodLink RX11 108 yX8_init) (by decide +kernel)) (hts (.instanceMethod yX8_init) (by decide +kernel)) rfl (by decide +kernel) ⟨Nat.le_trans (Nat.le_of_ble_eq_true rfl) hRf, Nat.le_trans (Nat.le_of_ble_eq_true rfl) hRl⟩) ⟨gw_fb, fun U hU hW => ⟨rfl, by rw [hU], pw_to hU hW hPc (hK.sub (tys' := []) [] rfl) hN, hDc.weaken (fun _ _ _ _ => trivial)⟩⟩ rfl rfl hl.1 rfl (lv_room (Nat.le_of_ble_eq_true rfl)) dX11_fillColumn_86 ⟨by omega, by omega⟩) hS (fun q _ h => hFc q h) hFc (fun u9 t H1 locs ht hvm hw hB hz1 hk1 hS => ?_)
                obtain ⟨hP1, hD1⟩ := hB
                rw [ht] at hP1
                obtain ⟨hP, hD⟩ := va_joinQ (X := [(q_27, .inr (7, [.null, .int 0, .int 0, .int 0, .int 0, .int 0]))]) (cx := [(q_27, .inr (7, [.null, .int 0, .int 0, .int 0, .int 0, .int 0]))]) (wr := []) (w1 := [(q_27, .inr (7, [va_rf (some (d (2000 + j9))), .int (nI P), .int (nI c9), .int (nI (i - r9)), .int 1, .int (nI r9)]))]) (pl := va_pl z.1 f) (vaP_swap hPn) (vaD_rotR hDn) [0] [] rfl rfl rfl (fun i hi => absurd hi List.not_mem_nil) hk1 hFc hP1 hD1
                generalize H1 = H at hP hS ⊢
                obtain ⟨hnm_29, hP, hD⟩ := pushC hP hD
                obtain ⟨z_30, ez_30⟩ : ∃ y : gS, y = pz z q_27 (22, 0, [va_rf (some (d (2000 + j9))), .int (nI P), .int (nI c9), .int (nI (i - r9)), .int 1, .int (nI r9)]) := ⟨_, rfl⟩
                obtain ⟨f_31, ef_31⟩ : ∃ y : xF, y = va_up f q_27 (.inr (7, [va_rf (some (d (2000 + j9))), .int (nI P), .int (nI c9), .int (nI (i - r9)), .int 1, .int (nI r9)])) := ⟨_, rfl⟩
                have hE_32 : zE z z_30 := by rw [ez_30]; exact pz_E hnm_29 _
                have hI : xI q h0 d k z_30 f_31 := by rw [ez_30, ef_31]; exact x_push hI hnm_29 (Or.inr (by decide : (15 : Nat) < 22)) (cO_pc (bw11 hP9) (ty_s hitj) hnm_29)
                rw [show z.1 ++ [q_27] = z_30.1 from by rw [ez_30]; rfl, ← ef_31] at hP hD
                have ht_5 := zE_tg hE_32 ht_5
                have ht_6 := zE_tg hE_32 ht_6
                have ht_7 := zE_tg hE_32 ht_7
                have hitj := zE_itm hE_32 hitj
                have ht_33 : tg z_30 q_27 22 := by rw [ez_30]; exact pz_t _ _ _
                have hEz : zE z0 z_30 := zE_tr hEz hE_32
                have h3m : f_31 (d 3) = f0 (d 3) := by rw [ef_31]; exact (up_o (fun e9 => hnm_29 (by rw [← e9]; exact hrp.2.2.2.2.2.2.2.1.1.1))).trans h3m
                have hrp_34 : rep q d u z_30 f_31 := by rw [ez_30, ef_31]; exact rep_grow hrp (pz_E hnm_29 _) (oK_push (fun _ _ => rfl) (zE_rf _) hnm_29)
                have hacF := acF_E hE_32 hacF
                refine W.eq (g2 := F0 m 89 ls [.ref q_27]) rfl ?_
                have hp_35 : pcS z_30 q_27 (some (d (2000 + j9))) (nI P) (nI c9) (nI (i - r9)) 1 (nI r9) := ⟨ht_33, by rw [ez_30, pz_s]⟩
                have hb_37 : bw (nI c9) 0 7 = true := bw7 hc8
                have hb_38 : bw (nI (i - r9)) 0 60 = true := b60n (by omega)
                have hb_39 : bw 1 0 8 = true := by decide
                have hb_40 : bw (nI r9) 0 60 = true := b60n (by omega)
                have hlg_36 := lg_of hp_35 ⟨hb_37, hb_38, hb_39, hb_40⟩
                refine lv_astore (lv' := [(9, .ref q_27), (8, .ref (d (2000 + j9))), (7, .int (nI i)), (6, .int (nI r9)), (5, .null), (4, .ref (d (10 + P))), (0, .ref h0), (1, .int (nI P)), (2, .int (nI c9))]) hx hb dX11_fillColumn_89 hl (by decide) rfl (fun ls hl => ?_)
                refine lv_aload_n hx hb dX11_fillColumn_91 rfl (lv_at hl 6 rfl) ?_
                refine lv_aload hx hb dX11_fillColumn_92 (lv_at hl 0 rfl) ?_
                have hrx := fc_in hP9 hc8 hbl hr0 hr9 hi hrun
                obtain ⟨-, hX, hD1, hY, hN1, hin⟩ := hrx
                have hpcx : pcS z_30 q_27 (some (d (2000 + j9))) (nI P) (nI c9) (nI (i - r9)) (nI 1) (nI r9) := hp_35
                obtain ⟨kk_41, hk_42⟩ := pl_at hI.2.1.1.1 hI.2.2.2.1.1
                have hFc := fr_all hD hS hA
                refine va_callv (va_runV (As := [.ref q_27]) (rest := []) ⟨hx, hb, hml, hown, hts⟩ (y_standI l dC dI q h0 d k z_30 f_31 hI q_27 P c9 (i - r9) 1 r9 u hrp_34 hk0 hk1o hk2 hk3 hP9 hX hD1 hY hin hne j9 hj9 hpcx (by rw [hfc.1, hfc.2.1]; decide) H.size) (cwV 1 hts gX11_fillColumn_X11_stand rfl rfl rfl (by decide +kernel) ⟨Nat.le_trans (Nat.le_of_ble_eq_true rfl) hRf, Nat.le_trans (Nat.le_of_ble_eq_true rfl) hRl⟩) ⟨gx_fb, va_recv hK hP (ci := 10) (q0 := kk_41) rfl hk_42, fun U hU hW => ⟨rfl, by rw [hU], px_to hU hW hP hK hN hXN, hD.weaken (fun _ _ _ _ => trivial)⟩⟩ rfl rfl hl.1 rfl (lv_room (Nat.le_of_ble_eq_true rfl)) dX11_fillColumn_94 ⟨by omega, by omega⟩) hS (fun q _ h => hFc q h) hFc (fun w_43 t H1 locs ht hvm hw hB hz1 hk1 hS => ?_)
                obtain ⟨hP, hD1⟩ := hB
                rw [ht] at hP
                rw [hw.2.1] at hP hD1
                have hD := hD1.weaken (fun _ q _ h => hFc q.1 h)
                have hI := hw.2.2.1
                have hw0 := hw
                generalize w_43.2.2 = f_44 at hP hD hI hw0
                generalize H1 = H at hP hS ⊢
                obtain ⟨u2, eu2⟩ : ∃ y : mS, y = mStand u (nI j9) P c9 (i - r9) 1 r9 := ⟨_, rfl⟩
                have hrp2 : rep q d u2 z_30 f_44 := by rw [eu2]; exact hw0.2.2.2.1
                have h3m : f_44 (d 3) = f0 (d 3) := hw0.2.2.2.2.trans h3m
                refine va_new (ci := 0) (fs := [.null, .int 0, .null, .int 0]) (C := RX0) (T := TX0) (N := 4) hx hb hts (by decide +kernel) tyX0 tyX0_ok hown (hts (.classLink RX11 28 RX0) (by decide +kernel)) (hts (.instantiable RX0 4) (by decide +kernel)) (hts (.initialized RX0) (by decide +kernel)) hK hP hD hS hA rfl nwX0 (by omega) (by omega) dX11_fillColumn_97 (fun q_45 H hPn hDn hS => ?_)
                have hP := vaP_l hPn
                refine W.widen (k := cells + 2 * i + 2) (n := slots + 10 * i + 10) (by omega) (by omega) ?_
                refine lv_dup hx hb dX11_fillColumn_100 rfl ?_
                refine lv_aload hx hb dX11_fillColumn_101 (lv_at hl 0 rfl) ?_
                refine lv_iconst (v := 0) hx hb dX11_fillColumn_103 (by decide) ?_
                refine lv_aloadN hx hb dX11_fillColumn_104 (lv_at hl 4 rfl) ?_
                have hPc := vaP_r hPn
                have hDc := vaD_r hDn
                have hFc := fr_part hDn hS hA
                refine va_callv (va_runI (As := [.ref q_27, .int 0, .null]) (rest := [.ref q_45]) ⟨hx, hb, hml, hown, hts⟩ (x_ActP l dC dI q_45 q_27 H.size) (cwI 3 hts gX11_fillColumn_X0_init rfl rfl rfl (hts (.initialized RX0) (by decide +kernel)) (hts (.methodLink RX11 163 yX0_init) (by decide +kernel)) (hts (.instanceMethod yX0_init) (by decide +kernel)) rfl (by decide +kernel) ⟨Nat.le_trans (Nat.le_of_ble_eq_true rfl) hRf, Nat.le_trans (Nat.le_of_ble_eq_true rfl) hRl⟩) ⟨gw_fb, fun U hU hW => ⟨rfl, by rw [hU], pw_to hU hW hPc (hK.sub (tys' := []) [] rfl) hN, hDc.weaken (fun _ _ _ _ => trivial)⟩⟩ rfl rfl hl.1 rfl (lv_room (Nat.le_of_ble_eq_true rfl)) dX11_fillColumn_106 ⟨by omega, by omega⟩) hS (fun q _ h => hFc q h) hFc (fun u9 t H1 locs ht hvm hw hB hz1 hk1 hS => ?_)
                obtain ⟨hP1, hD1⟩ := hB
                rw [ht] at hP1
                obtain ⟨hP, hD⟩ := va_joinQ (X := [(q_45, .inr (0, [.null, .int 0, .null, .int 0]))]) (cx := [(q_45, .inr (0, [.null, .int 0, .null, .int 0]))]) (wr := []) (w1 := [(q_45, .inr (0, [.ref q_27, .int 0, va_rf none, .int 1]))]) (pl := va_pl z_30.1 f_44) (vaP_swap hPn) (vaD_rotR hDn) [0] [] rfl rfl rfl (fun i hi => absurd hi List.not_mem_nil) hk1 hFc hP1 hD1
                generalize H1 = H at hP hS ⊢
                obtain ⟨hnm_46, hP, hD⟩ := pushC hP hD
                obtain ⟨z_47, ez_47⟩ : ∃ y : gS, y = pz z_30 q_45 (23, 0, [.ref q_27, .int 0, va_rf none, .int 1]) := ⟨_, rfl⟩
                obtain ⟨f_48, ef_48⟩ : ∃ y : xF, y = va_up f_44 q_45 (.inr (0, [.ref q_27, .int 0, va_rf none, .int 1])) := ⟨_, rfl⟩
                have hE_49 : zE z_30 z_47 := by rw [ez_47]; exact pz_E hnm_46 _
                have hI : xI q h0 d k z_47 f_48 := by rw [ez_47, ef_48]; exact x_push hI hnm_46 (Or.inr (by decide : (15 : Nat) < 23)) (cO_ac hlg_36 hnm_46)
                rw [show z_30.1 ++ [q_45] = z_47.1 from by rw [ez_47]; rfl, ← ef_48] at hP hD
                have ht_5 := zE_tg hE_49 ht_5
                have ht_6 := zE_tg hE_49 ht_6
                have ht_7 := zE_tg hE_49 ht_7
                have hitj := zE_itm hE_49 hitj
                have hlg_36 := zE_lg hE_49 hlg_36
                have hp_35 := zE_pc hE_49 hp_35
                have hpcx := zE_pc hE_49 hpcx
                have ht_50 : tg z_47 q_45 23 := by rw [ez_47]; exact pz_t _ _ _
                have hEz : zE z0 z_47 := zE_tr hEz hE_49
                have h3m : f_48 (d 3) = f0 (d 3) := by rw [ef_48]; exact (up_o (fun e9 => hnm_46 (by rw [← e9]; exact hrp2.2.2.2.2.2.2.2.1.1.1))).trans h3m
                have hrp_51 : rep q d u2 z_47 f_48 := by rw [ez_47, ef_48]; exact rep_grow hrp2 (pz_E hnm_46 _) (oK_push (fun _ _ => rfl) (zE_rf _) hnm_46)
                have hacF := acF_E hE_49 hacF
                refine W.eq (g2 := F0 m 109 ls [.ref q_45]) rfl ?_
                refine lv_astore (lv' := [(5, .ref q_45), (9, .ref q_27), (8, .ref (d (2000 + j9))), (7, .int (nI i)), (6, .int (nI r9)), (4, .ref (d (10 + P))), (0, .ref h0), (1, .int (nI P)), (2, .int (nI c9))]) hx hb dX11_fillColumn_109 hl (by decide) rfl (fun ls hl => ?_)
                refine lv_iconst (v := 0) hx hb dX11_fillColumn_111 (by decide) ?_
                refine lv_istore (lv' := [(6, .int 0), (5, .ref q_45), (9, .ref q_27), (8, .ref (d (2000 + j9))), (7, .int (nI i)), (4, .ref (d (10 + P))), (0, .ref h0), (1, .int (nI P)), (2, .int (nI c9))]) hx hb dX11_fillColumn_112 hl (by decide) rfl (fun ls hl => ?_)
                refine lv_iinc (v := (nI (i + 1))) (lv' := [(7, .int (nI (i + 1))), (6, .int 0), (5, .ref q_45), (9, .ref q_27), (8, .ref (d (2000 + j9))), (4, .ref (d (10 + P))), (0, .ref h0), (1, .int (nI P)), (2, .int (nI c9))]) hx hb dX11_fillColumn_114 hl (k := 4) rfl (nI_1 i) (by decide) rfl (fun ls hl => ?_)
                refine lv_goto (tgt := 17) hx hb dX11_fillColumn_117 (by decide) ?_
                refine W.widen (k := cells + 2 * (i + 1)) (n := slots + 10 * (i + 1)) (by omega) (by omega) ?_
                exact ih (i + 1) _ _ _ _ (some q_45) 0 u2 ((j9, P, c9, i - r9, r9) :: []) ls (by omega) (by omega) (Nat.zero_le _) (by rw [eu2]; exact fc_1 hfN (fun e9 => c_23 (hzr_22.trans ((shAt_eq hP9 el_12 ec_13 hgb_10 _ _).trans e9))) hr0 hj9 hfc hno h80n) (fun b hb => absurd hb (Nat.not_lt_zero _)) hrp_51 (by rw [eu2]; exact neI_set hne (nIm1 (by omega)) (mStand_2 _ _ _ _ _ _ _)) (by rw [eu2, mStand_k _ _ _ _ _ _ _ (nR rfl)]; exact hu0) (by rw [eu2]; exact hk0) (by rw [eu2]; exact hk1o) (by rw [eu2]; exact hk2) (by rw [eu2]; exact hk3) ⟨q_45, q_27, _, rfl, ⟨ht_50, by rw [ez_47, pz_s]; rfl⟩, hpcx, hacF⟩ h3m hEz hI hP hD hS (lv_sub hl [0, 1, 2, 5, 6, 7, 8] rfl)
          ·
            refine lv_iinc (v := (nI (r9 + 1))) (lv' := [(6, .int (nI (r9 + 1))), (7, .int (nI i)), (5, .null), (4, .ref (d (10 + P))), (0, .ref h0), (1, .int (nI P)), (2, .int (nI c9))]) hx hb dX11_fillColumn_42 hl (k := 1) rfl (nI_1 r9) (by decide) rfl (fun ls hl => ?_)
            refine lv_goto (tgt := 114) hx hb dX11_fillColumn_45 (by decide) ?_
            refine lv_iinc (v := (nI (i + 1))) (lv' := [(7, .int (nI (i + 1))), (6, .int (nI (r9 + 1))), (5, .null), (4, .ref (d (10 + P))), (0, .ref h0), (1, .int (nI P)), (2, .int (nI c9))]) hx hb dX11_fillColumn_114 hl (k := 1) rfl (nI_1 i) (by decide) rfl (fun ls hl => ?_)
            refine lv_goto (tgt := 17) hx hb dX11_fillColumn_117 (by decide) ?_
            refine W.widen (k := cells + 2 * (i + 1)) (n := slots + 10 * (i + 1)) (by omega) (by omega) ?_
            exact ih (i + 1) _ _ _ _ none (r9 + 1) u [] ls (by omega) (by omega) (by omega) (fc_e hfN ((shAt_eq hP9 el_12 ec_13 hgb_10 _ _).symm.trans (hzr_22.symm.trans c_23))) (fun b hb => by by_cases e9 : b = r9; rw [e9, show i + 1 - (r9 + 1) + r9 = i by omega]; exact ((shAt_eq hP9 el_12 ec_13 hgb_10 _ _).symm.trans (hzr_22.symm.trans c_23)); rw [show i + 1 - (r9 + 1) + b = i - r9 + b by omega]; exact hrun b (by omega)) hrp hne hu0 hk0 hk1o hk2 hk3 hacF h3m hEz hI hP hD hS (lv_sub hl [0, 1, 2, 3, 4, 5, 6] rfl)
      · obtain ⟨b8, pp9, ah9, eb8, -⟩ := hacF
        cases eb8
    ·
      have hl : lv_has ls 10 [(7, .int (nI i)), (6, .int (nI r9)), (5, .ref b9), (4, .ref (d (10 + P))), (0, .ref h0), (1, .int (nI P)), (2, .int (nI c9))] := hl
      rcases xs with _ | ⟨x9, xs9⟩
      · exact absurd hacF (fun h => by cases h)
      ·
        have hacS := hacF
        obtain ⟨b8, pp9, ah9, eb8, hac9, hpc9, hac8⟩ := hacS
        obtain rfl := Option.some.inj eb8
        have hb9 := hac9.1
        obtain ⟨dd_52, ii_53, gl_54, gc_55, ht_56, ht_57, ht_58, hs_59, hg_60, hgb_61, hc_62, el_63, ec_64⟩ := pg_all hI hrp.1 hP9
        have hbl : ∀ a, a < 8 → bw (u.2 0 (8 * P + a)) 0 60 = true := fun a ha => by rw [← el_63 a ha]; exact hgb_61 a ha
        refine lv_iload hx hb dX11_fillColumn_17 (lv_at hl 0 rfl) ?_
        refine lv_aload hx hb dX11_fillColumn_19 (lv_at hl 3 rfl) ?_
        obtain ⟨kk_65, hk_66⟩ := pl_at ht_56.1 hs_59
        refine va_get (D := (dC, dI)) (ci := 8) (v := .ref (d (30 + P))) (C := RX9) (T := TX9) (N := 5) hx hb hts (by decide +kernel) hown hK hP kk_65 hk_66 rfl 0 (by decide) (hts (.fieldLink RX11 59 "PageOne$Sheet" "lines" "[I") (by decide +kernel)) (fun _ h9 => h9) rfl dX11_fillColumn_21 ?_
        refine lv_iload_n hx hb dX11_fillColumn_24 rfl (lv_at hl 6 rfl) ?_
        obtain ⟨kk_67, hk_68⟩ := pl_at ht_57.1 hg_60
        refine va_iald hx hb hK hP kk_67 0 hk_68 rfl (vp_in_nI hc8 (by decide)) dX11_fillColumn_25 ?_
        refine lv_topi (fun y_69 ey_69 => ?_)
        obtain rfl : y_69 = (nI L9) := ey_69.trans ((by rw [nI_clamp (by omega), el_63 c9 hc8, hu0, eL]))
        refine lv_icmp_gt (tgt := 120) hx hb dX11_fillColumn_26 (by decide) (fun c_70 => ?_) (fun c_70 => ?_)
        ·
          have hie : i = L9 + 1 := by have h9 := c_70; rw [i32_lt, nI_toInt (by omega), nI_toInt (by omega)] at h9; omega
          refine W.widen (k := cells + 122) (n := slots + 610) (by omega) (by omega) ?_
          exact kx120 _ _ _ _ (some b9) u (x9 :: xs9) r9 ls (by rw [← hie]; exact hfN) hrp hne hu0 hk0 hk1o hk2 hk3 hacF h3m hEz hI hP hD hS (lv_sub hl [2] rfl)
        ·
          have hiL : i ≤ L9 := by have h9 := c_70; rw [i32_lt, nI_toInt (by omega), nI_toInt (by omega)] at h9; omega
          refine lv_aload hx hb dX11_fillColumn_29 (lv_at hl 3 rfl) ?_
          refine lv_iload_n hx hb dX11_fillColumn_31 rfl (lv_at hl 6 rfl) ?_
          refine lv_iload hx hb dX11_fillColumn_32 (lv_at hl 0 rfl) ?_
          obtain ⟨kk_71, hk_72⟩ := pl_at ht_56.1 hs_59
          refine vp_callSi (va_runV (As := [.int (nI c9), .int (nI i)]) (rest := []) ⟨hx, hb, hml, hown, hts⟩ (y_at l dC dI q h0 d k z f hI (d (10 + P)) (d (30 + P)) (d (50 + P)) (u.2 1 P) dd_52 ii_53 gl_54 gc_55 ht_56 hs_59 ht_57 ht_58 hg_60 hgb_61 hc_62 (nI c9) (nI i)) (cwV 2 hts gX11_fillColumn_X9_at rfl rfl rfl (by decide +kernel) ⟨Nat.le_trans (Nat.le_of_ble_eq_true rfl) hRf, Nat.le_trans (Nat.le_of_ble_eq_true rfl) hRl⟩) ⟨px_fb, va_recv hK hP (ci := 8) (q0 := kk_71) rfl hk_72, fun U hU hW => ⟨rfl, px_to hU hW hP hK hN hXN⟩⟩ rfl rfl hl.1 rfl (lv_room (Nat.le_of_ble_eq_true rfl)) dX11_fillColumn_34 ⟨by omega, by omega⟩).run (fun r hw => ?_)
          generalize r = zr_73 at hw ⊢
          have hzr_73 := hw
          refine lv_bipush (v := (-2)) hx hb dX11_fillColumn_37 (by decide) ?_
          refine lv_icmp_ne (tgt := 48) hx hb dX11_fillColumn_39 (by decide) (fun c_74 => ?_) (fun c_74 => ?_)
          ·
            refine lv_iload hx hb dX11_fillColumn_48 (lv_at hl 1 rfl) ?_
            refine lv_if_le (tgt := 62) hx hb dX11_fillColumn_50 (by decide) (fun c_75 => ?_) (fun c_75 => ?_)
            ·
              refine lv_null hx hb dX11_fillColumn_62 ?_
              refine lv_astoreN (lv' := [(8, .null), (7, .int (nI i)), (6, .int (nI r9)), (5, .ref b9), (4, .ref (d (10 + P))), (0, .ref h0), (1, .int (nI P)), (2, .int (nI c9))]) hx hb dX11_fillColumn_63 hl (by decide) rfl (fun ls hl => ?_)
              refine lv_aloadN hx hb dX11_fillColumn_65 (lv_at hl 0 rfl) ?_
              refine lv_ifnullN (tgt := 111) hx hb dX11_fillColumn_67 (by decide) ?_
              refine lv_iconst (v := 0) hx hb dX11_fillColumn_111 (by decide) ?_
              refine lv_istore (lv' := [(6, .int 0), (8, .null), (7, .int (nI i)), (5, .ref b9), (4, .ref (d (10 + P))), (0, .ref h0), (1, .int (nI P)), (2, .int (nI c9))]) hx hb dX11_fillColumn_112 hl (by decide) rfl (fun ls hl => ?_)
              refine lv_iinc (v := (nI (i + 1))) (lv' := [(7, .int (nI (i + 1))), (6, .int 0), (8, .null), (5, .ref b9), (4, .ref (d (10 + P))), (0, .ref h0), (1, .int (nI P)), (2, .int (nI c9))]) hx hb dX11_fillColumn_114 hl (k := 2) rfl (nI_1 i) (by decide) rfl (fun ls hl => ?_)
              refine lv_goto (tgt := 17) hx hb dX11_fillColumn_117 (by decide) ?_
              refine W.widen (k := cells + 2 * (i + 1)) (n := slots + 10 * (i + 1)) (by omega) (by omega) ?_
              exact ih (i + 1) _ _ _ _ (some b9) 0 u (x9 :: xs9) ls (by omega) (by omega) (Nat.zero_le _) (fc_0 hfN (fun e9 => c_74 (hzr_73.trans ((shAt_eq hP9 el_63 ec_64 hgb_61 _ _).trans e9))) (Or.inl (by have h9 := c_75; rw [i32_le, nI_toInt (by omega), i0] at h9; omega)) h80n) (fun b hb => absurd hb (Nat.not_lt_zero _)) hrp hne hu0 hk0 hk1o hk2 hk3 hacF h3m hEz hI hP hD hS (lv_sub hl [0, 1, 3, 4, 5, 6, 7] rfl)
            ·
              have hr0 : 0 < r9 := by have h9 := c_75; rw [i32_le, nI_toInt (by omega), i0] at h9; omega
              refine lv_aload_n hx hb dX11_fillColumn_53 rfl (lv_at hl 4 rfl) ?_
              refine lv_iload hx hb dX11_fillColumn_54 (lv_at hl 1 rfl) ?_
              obtain ⟨kk_76, hk_77⟩ := pl_at hI.2.1.1.1 hI.2.2.2.1.1
              refine va_csq (va_runV (As := [.int (nI r9)]) (rest := []) ⟨hx, hb, hml, hown, hts⟩ (y_fillerFor l dC dI q h0 d k z f hI (nI r9) u hrp hk0 hk1 hk2 hk3) (cwV 1 hts gX11_fillColumn_X11_fillerFor rfl rfl rfl (by decide +kernel) ⟨Nat.le_trans (Nat.le_of_ble_eq_true rfl) hRf, Nat.le_trans (Nat.le_of_ble_eq_true rfl) hRl⟩) ⟨px_fb, va_recv hK hP (ci := 10) (q0 := kk_76) rfl hk_77, fun U hU hW => ⟨rfl, px_to hU hW hP hK hN hXN⟩⟩ rfl rfl hl.1 rfl (lv_room (Nat.le_of_ble_eq_true rfl)) dX11_fillColumn_56 ⟨by omega, by omega⟩).run (fun r hw => ?_)
              rcases hw with ⟨hr9x, hno⟩ | ⟨j9, hj9, hr9x, hfc, hno⟩
              ·
                subst hr9x
                refine W.eq (g2 := F0 m 59 ls [.null]) rfl ?_
                refine lv_goto (tgt := 63) hx hb dX11_fillColumn_59 (by decide) ?_
                refine lv_astoreN (lv' := [(8, .null), (7, .int (nI i)), (6, .int (nI r9)), (5, .ref b9), (4, .ref (d (10 + P))), (0, .ref h0), (1, .int (nI P)), (2, .int (nI c9))]) hx hb dX11_fillColumn_63 hl (by decide) rfl (fun ls hl => ?_)
                refine lv_aloadN hx hb dX11_fillColumn_65 (lv_at hl 0 rfl) ?_
                refine lv_ifnullN (tgt := 111) hx hb dX11_fillColumn_67 (by decide) ?_
                refine lv_iconst (v := 0) hx hb dX11_fillColumn_111 (by decide) ?_
                refine lv_istore (lv' := [(6, .int 0), (8, .null), (7, .int (nI i)), (5, .ref b9), (4, .ref (d (10 + P))), (0, .ref h0), (1, .int (nI P)), (2, .int (nI c9))]) hx hb dX11_fillColumn_112 hl (by decide) rfl (fun ls hl => ?_)
                refine lv_iinc (v := (nI (i + 1))) (lv' := [(7, .int (nI (i + 1))), (6, .int 0), (8, .null), (5, .ref b9), (4, .ref (d (10 + P))), (0, .ref h0), (1, .int (nI P)), (2, .int (nI c9))]) hx hb dX11_fillColumn_114 hl (k := 2) rfl (nI_1 i) (by decide) rfl (fun ls hl => ?_)
                refine lv_goto (tgt := 17) hx hb dX11_fillColumn_117 (by decide) ?_
                refine W.widen (k := cells + 2 * (i + 1)) (n := slots + 10 * (i + 1)) (by omega) (by omega) ?_
                exact ih (i + 1) _ _ _ _ (some b9) 0 u (x9 :: xs9) ls (by omega) (by omega) (Nat.zero_le _) (fc_0 hfN (fun e9 => c_74 (hzr_73.trans ((shAt_eq hP9 el_63 ec_64 hgb_61 _ _).trans e9))) (Or.inr hno) h80n) (fun b hb => absurd hb (Nat.not_lt_zero _)) hrp hne hu0 hk0 hk1o hk2 hk3 hacF h3m hEz hI hP hD hS (lv_sub hl [0, 1, 3, 4, 5, 6, 7] rfl)
              ·
                subst hr9x
                have hitj := rI_itm hrp.2.2.1 hj9
                refine W.eq (g2 := F0 m 59 ls [.ref (d (2000 + j9))]) rfl ?_
                refine lv_goto (tgt := 63) hx hb dX11_fillColumn_59 (by decide) ?_
                refine lv_astore (lv' := [(8, .ref (d (2000 + j9))), (7, .int (nI i)), (6, .int (nI r9)), (5, .ref b9), (4, .ref (d (10 + P))), (0, .ref h0), (1, .int (nI P)), (2, .int (nI c9))]) hx hb dX11_fillColumn_63 hl (by decide) rfl (fun ls hl => ?_)
                refine lv_aload hx hb dX11_fillColumn_65 (lv_at hl 0 rfl) ?_
                refine lv_ifnull hx hb dX11_fillColumn_67 ?_
                refine va_new (ci := 7) (fs := [.null, .int 0, .int 0, .int 0, .int 0, .int 0]) (C := RX8) (T := TX8) (N := 6) hx hb hts (by decide +kernel) tyX8 tyX8_ok hown (hts (.classLink RX11 106 RX8) (by decide +kernel)) (hts (.instantiable RX8 6) (by decide +kernel)) (hts (.initialized RX8) (by decide +kernel)) hK hP hD hS hA rfl nwX8 (by omega) (by omega) dX11_fillColumn_70 (fun q_78 H hPn hDn hS => ?_)
                have hP := vaP_l hPn
                refine W.widen (k := cells + 2 * i + 1) (n := slots + 10 * i + 6) (by omega) (by omega) ?_
                refine lv_dup hx hb dX11_fillColumn_73 rfl ?_
                refine lv_aload hx hb dX11_fillColumn_74 (lv_at hl 0 rfl) ?_
                refine lv_iload_n hx hb dX11_fillColumn_76 rfl (lv_at hl 6 rfl) ?_
                refine lv_iload_n hx hb dX11_fillColumn_77 rfl (lv_at hl 7 rfl) ?_
                refine lv_iload hx hb dX11_fillColumn_78 (lv_at hl 1 rfl) ?_
                refine lv_iload hx hb dX11_fillColumn_80 (lv_at hl 2 rfl) ?_
                refine lv_isub hx hb dX11_fillColumn_82 ?_
                refine lv_topi (fun y_79 ey_79 => ?_)
                obtain rfl : y_79 = (nI (i - r9)) := ey_79.trans (nI_sb hr9 (by omega))
                refine lv_iconst (v := 1) hx hb dX11_fillColumn_83 (by decide) ?_
                refine lv_iload hx hb dX11_fillColumn_84 (lv_at hl 2 rfl) ?_
                have hPc := vaP_r hPn
                have hDc := vaD_r hDn
                have hFc := fr_part hDn hS hA
                refine va_callv (va_runI (As := [.ref (d (2000 + j9)), .int (nI P), .int (nI c9), .int (nI (i - r9)), .int 1, .int (nI r9)]) (rest := [.ref q_78]) ⟨hx, hb, hml, hown, hts⟩ (x_PieceI l dC dI q_78 (d (2000 + j9)) (nI P) (nI c9) (nI (i - r9)) 1 (nI r9) H.size) (cwI 6 hts gX11_fillColumn_X8_init rfl rfl rfl (hts (.initialized RX8) (by decide +kernel)) (hts (.methodLink RX11 108 yX8_init) (by decide +kernel)) (hts (.instanceMethod yX8_init) (by decide +kernel)) rfl (by decide +kernel) ⟨Nat.le_trans (Nat.le_of_ble_eq_true rfl) hRf, Nat.le_trans (Nat.le_of_ble_eq_true rfl) hRl⟩) ⟨gw_fb, fun U hU hW => ⟨rfl, by rw [hU], pw_to hU hW hPc (hK.sub (tys' := []) [] rfl) hN, hDc.weaken (fun _ _ _ _ => trivial)⟩⟩ rfl rfl hl.1 rfl (lv_room (Nat.le_of_ble_eq_true rfl)) dX11_fillColumn_86 ⟨by omega, by omega⟩) hS (fun q _ h => hFc q h) hFc (fun u9 t H1 locs ht hvm hw hB hz1 hk1 hS => ?_)
                obtain ⟨hP1, hD1⟩ := hB
                rw [ht] at hP1
                obtain ⟨hP, hD⟩ := va_joinQ (X := [(q_78, .inr (7, [.null, .int 0, .int 0, .int 0, .int 0, .int 0]))]) (cx := [(q_78, .inr (7, [.null, .int 0, .int 0, .int 0, .int 0, .int 0]))]) (wr := []) (w1 := [(q_78, .inr (7, [va_rf (some (d (2000 + j9))), .int (nI P), .int (nI c9), .int (nI (i - r9)), .int 1, .int (nI r9)]))]) (pl := va_pl z.1 f) (vaP_swap hPn) (vaD_rotR hDn) [0] [] rfl rfl rfl (fun i hi => absurd hi List.not_mem_nil) hk1 hFc hP1 hD1
                generalize H1 = H at hP hS ⊢
                obtain ⟨hnm_80, hP, hD⟩ := pushC hP hD
                obtain ⟨z_81, ez_81⟩ : ∃ y : gS, y = pz z q_78 (22, 0, [va_rf (some (d (2000 + j9))), .int (nI P), .int (nI c9), .int (nI (i - r9)), .int 1, .int (nI r9)]) := ⟨_, rfl⟩
                obtain ⟨f_82, ef_82⟩ : ∃ y : xF, y = va_up f q_78 (.inr (7, [va_rf (some (d (2000 + j9))), .int (nI P), .int (nI c9), .int (nI (i - r9)), .int 1, .int (nI r9)])) := ⟨_, rfl⟩
                have hE_83 : zE z z_81 := by rw [ez_81]; exact pz_E hnm_80 _
                have hI : xI q h0 d k z_81 f_82 := by rw [ez_81, ef_82]; exact x_push hI hnm_80 (Or.inr (by decide : (15 : Nat) < 22)) (cO_pc (bw11 hP9) (ty_s hitj) hnm_80)
                rw [show z.1 ++ [q_78] = z_81.1 from by rw [ez_81]; rfl, ← ef_82] at hP hD
                have hb9 := zE_tg hE_83 hb9
                have ht_56 := zE_tg hE_83 ht_56
                have ht_57 := zE_tg hE_83 ht_57
                have ht_58 := zE_tg hE_83 ht_58
                have hitj := zE_itm hE_83 hitj
                have ht_84 : tg z_81 q_78 22 := by rw [ez_81]; exact pz_t _ _ _
                have hEz : zE z0 z_81 := zE_tr hEz hE_83
                have h3m : f_82 (d 3) = f0 (d 3) := by rw [ef_82]; exact (up_o (fun e9 => hnm_80 (by rw [← e9]; exact hrp.2.2.2.2.2.2.2.1.1.1))).trans h3m
                have hrp_85 : rep q d u z_81 f_82 := by rw [ez_81, ef_82]; exact rep_grow hrp (pz_E hnm_80 _) (oK_push (fun _ _ => rfl) (zE_rf _) hnm_80)
                have hac9 : acS z_81 b9 pp9 0 (nI (xs9.length + 1)) ah9 := ⟨zE_tg hE_83 hac9.1, by rw [zE_o hE_83 hac9.1.1]; exact hac9.2⟩
                have hacF := acF_E hE_83 hacF
                refine W.eq (g2 := F0 m 89 ls [.ref q_78]) rfl ?_
                have hp_86 : pcS z_81 q_78 (some (d (2000 + j9))) (nI P) (nI c9) (nI (i - r9)) 1 (nI r9) := ⟨ht_84, by rw [ez_81, pz_s]⟩
                have hb_88 : bw (nI c9) 0 7 = true := bw7 hc8
                have hb_89 : bw (nI (i - r9)) 0 60 = true := b60n (by omega)
                have hb_90 : bw 1 0 8 = true := by decide
                have hb_91 : bw (nI r9) 0 60 = true := b60n (by omega)
                have hlg_87 := lg_of hp_86 ⟨hb_88, hb_89, hb_90, hb_91⟩
                refine lv_astore (lv' := [(9, .ref q_78), (8, .ref (d (2000 + j9))), (7, .int (nI i)), (6, .int (nI r9)), (5, .ref b9), (4, .ref (d (10 + P))), (0, .ref h0), (1, .int (nI P)), (2, .int (nI c9))]) hx hb dX11_fillColumn_89 hl (by decide) rfl (fun ls hl => ?_)
                refine lv_aload_n hx hb dX11_fillColumn_91 rfl (lv_at hl 6 rfl) ?_
                refine lv_aload hx hb dX11_fillColumn_92 (lv_at hl 0 rfl) ?_
                have hrx := fc_in hP9 hc8 hbl hr0 hr9 hi hrun
                obtain ⟨-, hX, hD1, hY, hN1, hin⟩ := hrx
                have hpcx : pcS z_81 q_78 (some (d (2000 + j9))) (nI P) (nI c9) (nI (i - r9)) (nI 1) (nI r9) := hp_86
                obtain ⟨kk_92, hk_93⟩ := pl_at hI.2.1.1.1 hI.2.2.2.1.1
                have hFc := fr_all hD hS hA
                refine va_callv (va_runV (As := [.ref q_78]) (rest := []) ⟨hx, hb, hml, hown, hts⟩ (y_standI l dC dI q h0 d k z_81 f_82 hI q_78 P c9 (i - r9) 1 r9 u hrp_85 hk0 hk1o hk2 hk3 hP9 hX hD1 hY hin hne j9 hj9 hpcx (by rw [hfc.1, hfc.2.1]; decide) H.size) (cwV 1 hts gX11_fillColumn_X11_stand rfl rfl rfl (by decide +kernel) ⟨Nat.le_trans (Nat.le_of_ble_eq_true rfl) hRf, Nat.le_trans (Nat.le_of_ble_eq_true rfl) hRl⟩) ⟨gx_fb, va_recv hK hP (ci := 10) (q0 := kk_92) rfl hk_93, fun U hU hW => ⟨rfl, by rw [hU], px_to hU hW hP hK hN hXN, hD.weaken (fun _ _ _ _ => trivial)⟩⟩ rfl rfl hl.1 rfl (lv_room (Nat.le_of_ble_eq_true rfl)) dX11_fillColumn_94 ⟨by omega, by omega⟩) hS (fun q _ h => hFc q h) hFc (fun w_94 t H1 locs ht hvm hw hB hz1 hk1 hS => ?_)
                obtain ⟨hP, hD1⟩ := hB
                rw [ht] at hP
                rw [hw.2.1] at hP hD1
                have hD := hD1.weaken (fun _ q _ h => hFc q.1 h)
                have hI := hw.2.2.1
                have hw0 := hw
                generalize w_94.2.2 = f_95 at hP hD hI hw0
                generalize H1 = H at hP hS ⊢
                obtain ⟨u2, eu2⟩ : ∃ y : mS, y = mStand u (nI j9) P c9 (i - r9) 1 r9 := ⟨_, rfl⟩
                have hrp2 : rep q d u2 z_81 f_95 := by rw [eu2]; exact hw0.2.2.2.1
                have h3m : f_95 (d 3) = f0 (d 3) := hw0.2.2.2.2.trans h3m
                refine va_new (ci := 0) (fs := [.null, .int 0, .null, .int 0]) (C := RX0) (T := TX0) (N := 4) hx hb hts (by decide +kernel) tyX0 tyX0_ok hown (hts (.classLink RX11 28 RX0) (by decide +kernel)) (hts (.instantiable RX0 4) (by decide +kernel)) (hts (.initialized RX0) (by decide +kernel)) hK hP hD hS hA rfl nwX0 (by omega) (by omega) dX11_fillColumn_97 (fun q_96 H hPn hDn hS => ?_)
                have hP := vaP_l hPn
                refine W.widen (k := cells + 2 * i + 2) (n := slots + 10 * i + 10) (by omega) (by omega) ?_
                refine lv_dup hx hb dX11_fillColumn_100 rfl ?_
                refine lv_aload hx hb dX11_fillColumn_101 (lv_at hl 0 rfl) ?_
                refine lv_iconst (v := 0) hx hb dX11_fillColumn_103 (by decide) ?_
                refine lv_aload hx hb dX11_fillColumn_104 (lv_at hl 4 rfl) ?_
                obtain ⟨hnm_97, hP, hD⟩ := pushC (cs := []) (vaP_swap hPn) (vaD_rotR hDn)
                obtain ⟨z_98, ez_98⟩ : ∃ y : gS, y = pz z_81 q_96 (24, 0, []) := ⟨_, rfl⟩
                obtain ⟨f_99, ef_99⟩ : ∃ y : xF, y = va_up f_95 q_96 (.inr (0, [.null, .int 0, .null, .int 0])) := ⟨_, rfl⟩
                have hE_100 : zE z_81 z_98 := by rw [ez_98]; exact pz_E hnm_97 _
                have hI4 : xI q h0 d k z_98 f_99 := by rw [ez_98, ef_99]; exact x_push hI hnm_97 (Or.inr (by decide : (15 : Nat) < 24)) (cO_24 (by rw [pz_s]))
                have hP : va_P (dC, dI) vwCl (va_pl z_98.1 f_99) H := by rw [ez_98, ef_99]; exact hP
                have hD : va_D A (va_pl z_98.1 f_99) := by rw [ez_98, ef_99]; exact hD
                have hFc := fr_all hD hS hA
                refine va_callv (va_runI (As := [.ref q_78, .int 0, .ref b9]) (rest := [.ref q_96]) ⟨hx, hb, hml, hown, hts⟩ (y_ActA l dC dI q h0 d k z_98 f_99 hI4 q_96 q_78 b9 (by rw [ez_98]; exact pz_t _ _ _) (by rw [ef_99]; exact up_s) (zE_tg hE_100 hb9) pp9 0 (nI (xs9.length + 1)) ah9 ⟨zE_tg hE_100 hac9.1, by rw [zE_o hE_100 hac9.1.1]; exact hac9.2⟩ H.size) (cwI 3 hts gX11_fillColumn_X0_init rfl rfl rfl (hts (.initialized RX0) (by decide +kernel)) (hts (.methodLink RX11 163 yX0_init) (by decide +kernel)) (hts (.instanceMethod yX0_init) (by decide +kernel)) rfl (by decide +kernel) ⟨Nat.le_trans (Nat.le_of_ble_eq_true rfl) hRf, Nat.le_trans (Nat.le_of_ble_eq_true rfl) hRl⟩) ⟨gx_fb, fun U hU hW => ⟨rfl, by rw [hU], px_to hU hW hP hK hN hXN, hD.weaken (fun _ _ _ _ => trivial)⟩⟩ rfl rfl hl.1 rfl (lv_room (Nat.le_of_ble_eq_true rfl)) dX11_fillColumn_106 ⟨by omega, by omega⟩) hS (fun q _ h => hFc q h) hFc (fun w_101 t H1 locs ht hvm hw hB hz1 hk1 hS => ?_)
                obtain ⟨hP, hD1⟩ := hB
                rw [ht] at hP
                have hD := hD1.weaken (fun _ q _ h => hFc q.1 h)
                generalize H1 = H at hP hS ⊢
                obtain ⟨hw2, hw3⟩ := hw
                rw [hw2, hw3] at hP hD
                obtain ⟨z_103, ez_103⟩ : ∃ y : gS, y = pz z_81 q_96 (23, (z_81.2 b9).2.1 + 1, [.ref q_78, .int 0, .ref b9, .int ((nI (xs9.length + 1)) + 1)]) := ⟨_, rfl⟩
                obtain ⟨f_104, ef_104⟩ : ∃ y : xF, y = va_up f_95 q_96 (.inr (0, [.ref q_78, .int 0, .ref b9, .int ((nI (xs9.length + 1)) + 1)])) := ⟨_, rfl⟩
                have hE_105 : zE z_81 z_103 := by rw [ez_103]; exact pz_E hnm_97 _
                have hI : xI q h0 d k z_103 f_104 := by rw [ez_103, ef_104]; exact x_push hI hnm_97 (Or.inr (by decide : (15 : Nat) < 23)) (cO_acA hlg_87 hb9 hnm_97)
                rw [show z_98.1 = z_103.1 from by rw [ez_98, ez_103]; rfl, ef_99, up_up, ← ef_104] at hP hD
                have hb9 := zE_tg hE_105 hb9
                have ht_56 := zE_tg hE_105 ht_56
                have ht_57 := zE_tg hE_105 ht_57
                have ht_58 := zE_tg hE_105 ht_58
                have hitj := zE_itm hE_105 hitj
                have hlg_87 := zE_lg hE_105 hlg_87
                have hp_86 := zE_pc hE_105 hp_86
                have hpcx := zE_pc hE_105 hpcx
                have ht_106 : tg z_103 q_96 23 := by rw [ez_103]; exact pz_t _ _ _
                have hEz : zE z0 z_103 := zE_tr hEz hE_105
                refine W.eq (g2 := F0 m 109 ls [.ref q_96]) rfl ?_
                have h3m : f_104 (d 3) = f0 (d 3) := by rw [ef_104]; exact (up_o (fun e9 => hnm_97 (by rw [← e9]; exact hrp2.2.2.2.2.2.2.2.1.1.1))).trans h3m
                have hrp_107 : rep q d u2 z_103 f_104 := by rw [ez_103, ef_104]; exact rep_grow hrp2 (pz_E hnm_97 _) (oK_push (fun _ _ => rfl) (zE_rf _) hnm_97)
                have hac9 : acS z_103 b9 pp9 0 (nI (xs9.length + 1)) ah9 := ⟨zE_tg hE_105 hac9.1, by rw [zE_o hE_105 hac9.1.1]; exact hac9.2⟩
                have hacF := acF_E hE_105 hacF
                refine lv_astore (lv' := [(5, .ref q_96), (9, .ref q_78), (8, .ref (d (2000 + j9))), (7, .int (nI i)), (6, .int (nI r9)), (4, .ref (d (10 + P))), (0, .ref h0), (1, .int (nI P)), (2, .int (nI c9))]) hx hb dX11_fillColumn_109 hl (by decide) rfl (fun ls hl => ?_)
                refine lv_iconst (v := 0) hx hb dX11_fillColumn_111 (by decide) ?_
                refine lv_istore (lv' := [(6, .int 0), (5, .ref q_96), (9, .ref q_78), (8, .ref (d (2000 + j9))), (7, .int (nI i)), (4, .ref (d (10 + P))), (0, .ref h0), (1, .int (nI P)), (2, .int (nI c9))]) hx hb dX11_fillColumn_112 hl (by decide) rfl (fun ls hl => ?_)
                refine lv_iinc (v := (nI (i + 1))) (lv' := [(7, .int (nI (i + 1))), (6, .int 0), (5, .ref q_96), (9, .ref q_78), (8, .ref (d (2000 + j9))), (4, .ref (d (10 + P))), (0, .ref h0), (1, .int (nI P)), (2, .int (nI c9))]) hx hb dX11_fillColumn_114 hl (k := 4) rfl (nI_1 i) (by decide) rfl (fun ls hl => ?_)
                refine lv_goto (tgt := 17) hx hb dX11_fillColumn_117 (by decide) ?_
                refine W.widen (k := cells + 2 * (i + 1)) (n := slots + 10 * (i + 1)) (by omega) (by omega) ?_
                exact ih (i + 1) _ _ _ _ (some q_96) 0 u2 ((j9, P, c9, i - r9, r9) :: (x9 :: xs9)) ls (by omega) (by omega) (Nat.zero_le _) (by rw [eu2]; exact fc_1 hfN (fun e9 => c_74 (hzr_73.trans ((shAt_eq hP9 el_63 ec_64 hgb_61 _ _).trans e9))) hr0 hj9 hfc hno h80n) (fun b hb => absurd hb (Nat.not_lt_zero _)) hrp_107 (by rw [eu2]; exact neI_set hne (nIm1 (by omega)) (mStand_2 _ _ _ _ _ _ _)) (by rw [eu2, mStand_k _ _ _ _ _ _ _ (nR rfl)]; exact hu0) (by rw [eu2]; exact hk0) (by rw [eu2]; exact hk1o) (by rw [eu2]; exact hk2) (by rw [eu2]; exact hk3) ⟨q_96, q_78, _, rfl, ⟨ht_106, by rw [ez_103, pz_s]; rw [nI_1]; rfl⟩, hpcx, hacF⟩ h3m hEz hI hP hD hS (lv_sub hl [0, 1, 2, 5, 6, 7, 8] rfl)
          ·
            refine lv_iinc (v := (nI (r9 + 1))) (lv' := [(6, .int (nI (r9 + 1))), (7, .int (nI i)), (5, .ref b9), (4, .ref (d (10 + P))), (0, .ref h0), (1, .int (nI P)), (2, .int (nI c9))]) hx hb dX11_fillColumn_42 hl (k := 1) rfl (nI_1 r9) (by decide) rfl (fun ls hl => ?_)
            refine lv_goto (tgt := 114) hx hb dX11_fillColumn_45 (by decide) ?_
            refine lv_iinc (v := (nI (i + 1))) (lv' := [(7, .int (nI (i + 1))), (6, .int (nI (r9 + 1))), (5, .ref b9), (4, .ref (d (10 + P))), (0, .ref h0), (1, .int (nI P)), (2, .int (nI c9))]) hx hb dX11_fillColumn_114 hl (k := 1) rfl (nI_1 i) (by decide) rfl (fun ls hl => ?_)
            refine lv_goto (tgt := 17) hx hb dX11_fillColumn_117 (by decide) ?_
            refine W.widen (k := cells + 2 * (i + 1)) (n := slots + 10 * (i + 1)) (by omega) (by omega) ?_
            exact ih (i + 1) _ _ _ _ (some b9) (r9 + 1) u (x9 :: xs9) ls (by omega) (by omega) (by omega) (fc_e hfN ((shAt_eq hP9 el_63 ec_64 hgb_61 _ _).symm.trans (hzr_73.symm.trans c_74))) (fun b hb => by by_cases e9 : b = r9; rw [e9, show i + 1 - (r9 + 1) + r9 = i by omega]; exact ((shAt_eq hP9 el_63 ec_64 hgb_61 _ _).symm.trans (hzr_73.symm.trans c_74)); rw [show i + 1 - (r9 + 1) + b = i - r9 + b by omega]; exact hrun b (by omega)) hrp hne hu0 hk0 hk1o hk2 hk3 hacF h3m hEz hI hP hD hS (lv_sub hl [0, 1, 2, 3, 4, 5, 6] rfl)
/-- what fillColumn leaves -/
def fcP (q : Nat → ClassId) (h0 : Nat) (d : Nat → Nat) (k : Nat → Int32) (z : gS) (f : xF) (u : mS) (xs : List fX) (P c L : Nat) (r : Option Nat) (w : xU) : Prop := ∃ u' xs' r9, fcN u xs P c (L + 1) = (u', xs', r9) ∧ w.1 = k ∧ zE z w.2.1 ∧ xI q h0 d k w.2.1 w.2.2 ∧ rep q d u' w.2.1 w.2.2 ∧ neI u' ∧ u'.2 0 = u.2 0 ∧ (k 0 = u'.1 3 ∧ k 1 = u'.1 28 ∧ k 2 = u'.1 38 ∧ k 3 = u'.1 39) ∧ acF w.2.1 d r xs' ∧ w.2.2 (d 3) = f (d 3)
/-- a page's columns, one after the other -/
noncomputable def flN (u : mS) (P : Nat) : Nat → mS × List fX
  | 0 => (u, [])
  | c + 1 => ((fcN (flN u P c).1 (flN u P c).2 P c (((flN u P c).1.2 0 (8 * P + c)).toNatClampNeg + 1)).1, (fcN (flN u P c).1 (flN u P c).2 P c (((flN u P c).1.2 0 (8 * P + c)).toNatClampNeg + 1)).2.1)
theorem flN_s {u u1 u2 : mS} {P c r9 L : Nat} {xs xs2 : List fX} (h : flN u P c = (u1, xs)) (h2 : fcN u1 xs P c (L + 1) = (u2, xs2, r9)) (hL : u1.2 0 (8 * P + c) = nI L) (h60 : L ≤ 60) : flN u P (c + 1) = (u2, xs2) := by
  show ((fcN (flN u P c).1 (flN u P c).2 P c (((flN u P c).1.2 0 (8 * P + c)).toNatClampNeg + 1)).1, (fcN (flN u P c).1 (flN u P c).2 P c (((flN u P c).1.2 0 (8 * P + c)).toNatClampNeg + 1)).2.1) = _
  rw [h]
  show ((fcN u1 xs P c ((u1.2 0 (8 * P + c)).toNatClampNeg + 1)).1, (fcN u1 xs P c ((u1.2 0 (8 * P + c)).toNatClampNeg + 1)).2.1) = _
  rw [hL, nI_clamp (by omega), h2]
theorem ln_L {q h0 d k z f u} (hI : xI q h0 d k z f) (h : rep q d u z f) {P c : Nat} (hP : P < 12) (hc : c < 8) : ∃ L, u.2 0 (8 * P + c) = nI L ∧ L ≤ 60 := by
  obtain ⟨dd, ii, gl, gc, -, -, -, -, -, hgb, -, el, -⟩ := pg_all hI h.1 hP
  obtain ⟨l1, l2, l3⟩ := nI_of_bw (hgb c hc)
  have e60 : (60 : Int32).toInt = 60 := rfl
  rw [el c hc] at l1 l2 l3
  exact ⟨_, l1, by omega⟩
set_option maxHeartbeats 4000000 in
set_option maxRecDepth 100000 in
theorem y_fillColN (l : Launch) (dC : Nat → ClassId) (dI : Nat → Nat → Nat) (q : Nat → ClassId) (h0 : Nat) (d : Nat → Nat) (k : Nat → Int32) (z : gS) (f : xF) (hI : xI q h0 d k z f) (P c9 L9 : Nat) (hP9 : P < 12) (hc8 : c9 < 8) (u : mS) (hrp : rep q d u z f) (hk0 : k 0 = u.1 3) (hk1 : k 1 = u.1 28) (hk2 : k 2 = u.1 38) (hk3 : k 3 = u.1 39) (eL : u.2 0 (8 * P + c9) = nI L9) (hL60 : L9 ≤ 60) (hne : neI u) (xs : List fX) (hacF : acF z d none xs) (sz : Nat) : Met l yX11_fillColumn wsX11_fillColumn ({ frames := 5, cells := 122, slots := 610, locals := 109 }) (va_Pc [.ref h0, .int (nI P), .int (nI c9), .null] (fun U => U.heap.size = sz ∧ PX dC dI (va_pl z.1 f) (xT q) U ∧ va_D (fun _ => True) (va_pl z.1 f))) (va_Qq (fun (r : Option Nat) (w : xU) => fcP q h0 d k z f u xs P c9 L9 r w) (fun (w : xU) t => va_P (dC, dI) vwCl (va_pl w.2.1.1 w.2.2) t.heap ∧ va_D (va_A (va_pl z.1 f) sz) (va_pl w.2.1.1 w.2.2)) (va_A (va_pl z.1 f) sz)) 122 610 (va_A (va_pl z.1 f) sz) := by
  refine Met.ofW (cc := cX11_fillColumn) (maxL := 10) (ret := (some (.object "PageOne$Act"))) (by decide) rfl ?_
  intro p e s m args below meth c s₁ B hml hv
  obtain ⟨rfl, hsz, ⟨⟨hP, hK, hN⟩, hXN⟩, hD0⟩ := hv
  have hx := B.exec
  have hb := B.bytes
  have hr := B.returns
  have hts := atoms_spec (ws := wsX11_fillColumn) B.pre
  have hown : s.vm.findClass RX11 = some m.cls := findClass_of_methodNamed B.named
  have hlocks := B.notSynchronized
  subst hsz
  have hD := hD0.self (sz := s.heap.size)
  generalize hAe : va_A (va_pl z.1 f) s.heap.size = A at hD ⊢
  have hA : ∀ q : Nat, s.heap.size ≤ q → A q := fun q h => by rw [← hAe]; exact Or.inr h
  have hS : va_S A s.heap s.heap [] := va_S.rf
  have hl := lv_entry ([.ref h0, .int (nI P), .int (nI c9), .null]) (n := 10) (Nat.le_of_ble_eq_true rfl)
  rw [lg_entry_eq]
  generalize (lg_sl ([.ref h0, .int (nI P), .int (nI c9), .null]) ++ List.replicate (10 - (lg_sl ([.ref h0, .int (nI P), .int (nI c9), .null])).length) Slot.unset).toArray = ls at hl ⊢
  have hl : lv_has ls 10 [(0, .ref h0), (1, .int (nI P)), (2, .int (nI c9)), (3, .null)] := hl
  refine lv_aload_n hx hb dX11_fillColumn_0 rfl (lv_at hl 0 rfl) ?_
  obtain ⟨kk_1, hk_2⟩ := pl_at hI.2.1.1.1 hI.2.2.2.1.1
  refine va_get (D := (dC, dI)) (ci := 10) (v := .ref (d 0)) (C := RX11) (T := TX11) (N := 9) hx hb hts (by decide +kernel) hown hK hP kk_1 hk_2 rfl 0 (by decide) (hts (.fieldLink RX11 11 "PageOne" "pages" "[LPageOne$Sheet;") (by decide +kernel)) (fun _ h9 => h9) rfl dX11_fillColumn_1 ?_
  refine lv_iload_n hx hb dX11_fillColumn_4 rfl (lv_at hl 1 rfl) ?_
  obtain ⟨g_3, hs_4, hg_5⟩ := x_pg hI hI.2.1.2.1
  obtain ⟨kk_6, hk_7⟩ := pl_at hI.2.1.2.1.1 hs_4
  refine va_aldq hx hb hK hP kk_6 2 hk_7 rfl (vp_in_nI hP9 (by decide)) dX11_fillColumn_5 ?_
  obtain ⟨b_8, hg_9, ht_10⟩ := hg_5 _ (vlt (vp_in_nI hP9 (by decide)))
  rw [hg_9]
  refine W.eq (g2 := F0 m 6 ls [.ref b_8]) rfl ?_
  have hb_11 := pg_at hrp.1 hs_4 hP9 (by rw [nI_clamp (by omega)] at hg_9; exact hg_9)
  subst hb_11
  obtain ⟨dd_12, ii_13, gl_14, gc_15, ht_16, ht_17, ht_18, hs_19, hg_20, hgb_21, hc_22, el_23, ec_24⟩ := pg_all hI hrp.1 hP9
  refine lv_astore (lv' := [(4, .ref (d (10 + P))), (0, .ref h0), (1, .int (nI P)), (2, .int (nI c9)), (3, .null)]) hx hb dX11_fillColumn_6 hl (by decide) rfl (fun ls hl => ?_)
  refine lv_aload_nN hx hb dX11_fillColumn_8 rfl (lv_at hl 4 rfl) ?_
  refine lv_astoreN (lv' := [(5, .null), (4, .ref (d (10 + P))), (0, .ref h0), (1, .int (nI P)), (2, .int (nI c9)), (3, .null)]) hx hb dX11_fillColumn_9 hl (by decide) rfl (fun ls hl => ?_)
  refine lv_iconst (v := 0) hx hb dX11_fillColumn_11 (by decide) ?_
  refine lv_istore (lv' := [(6, .int 0), (5, .null), (4, .ref (d (10 + P))), (0, .ref h0), (1, .int (nI P)), (2, .int (nI c9)), (3, .null)]) hx hb dX11_fillColumn_12 hl (by decide) rfl (fun ls hl => ?_)
  refine lv_iconst (v := 0) hx hb dX11_fillColumn_14 (by decide) ?_
  refine lv_istore (lv' := [(7, .int 0), (6, .int 0), (5, .null), (4, .ref (d (10 + P))), (0, .ref h0), (1, .int (nI P)), (2, .int (nI c9)), (3, .null)]) hx hb dX11_fillColumn_15 hl (by decide) rfl (fun ls hl => ?_)
  refine y_fc_l (cells := 0) (slots := 0) (z0 := z) (f0 := f) (u0 := u) (xs0 := xs) (P := P) (c9 := c9) (L9 := L9) hP9 hc8 eL hL60 hx hb hml hts hown hN hXN hK (Nat.le_of_ble_eq_true rfl) (Nat.le_of_ble_eq_true rfl) (Nat.le_of_ble_eq_true rfl) (Nat.le_of_ble_eq_true rfl) hA (fun z2 f2 H locs r u2 xs2 r9 ls hfN hrp2 hne2 hu2 hk0 hk1 hk2 hk3 hacF2 h3m hE2 hI hP hD hS hl => ?_) 62 0 z f _ _ none 0 u xs ls (Nat.zero_le _) (by decide) (Nat.le_refl _) rfl (fun b hb => absurd hb (Nat.not_lt_zero _)) hrp hne rfl hk0 hk1 hk2 hk3 hacF rfl (zE_rf z) hI hP hD hS (lv_sub hl [0, 1, 2, 3, 4, 5, 6] rfl)
  rcases r with _ | b8
  all_goals refine W.widen (k := 122) (n := 610) (Nat.le_of_ble_eq_true rfl) (Nat.le_of_ble_eq_true rfl) ?_
  ·
    have hl : lv_has ls 10 [(5, .null)] := hl
    refine lv_aloadN hx hb dX11_fillColumn_120 (lv_at hl 0 rfl) ?_
    exact W.aret (v := .null) hx hb hr (Or.inl ⟨_, rfl⟩) (Or.inl rfl) (fun t ht hW => ⟨⟨none, (k, z2, f2), rfl, ⟨u2, xs2, r9, hfN, rfl, hE2, hI, hrp2, hne2, hu2, ⟨hk0, hk1, hk2, hk3⟩, hacF2, h3m⟩, by rw [ht]; exact hP, hD⟩, hS.F ht⟩) hS.2.2 dX11_fillColumn_122
  ·
    have hl : lv_has ls 10 [(5, .ref b8)] := hl
    refine lv_aload hx hb dX11_fillColumn_120 (lv_at hl 0 rfl) ?_
    exact W.aret (v := .ref b8) hx hb hr (Or.inl ⟨_, rfl⟩) (Or.inr ⟨_, rfl⟩) (fun t ht hW => ⟨⟨(some b8), (k, z2, f2), rfl, ⟨u2, xs2, r9, hfN, rfl, hE2, hI, hrp2, hne2, hu2, ⟨hk0, hk1, hk2, hk3⟩, hacF2, h3m⟩, by rw [ht]; exact hP, hD⟩, hS.F ht⟩) hS.2.2 dX11_fillColumn_122
set_option maxHeartbeats 4000000 in
set_option maxRecDepth 100000 in
theorem y_fillColS (l : Launch) (dC : Nat → ClassId) (dI : Nat → Nat → Nat) (q : Nat → ClassId) (h0 : Nat) (d : Nat → Nat) (k : Nat → Int32) (z : gS) (f : xF) (hI : xI q h0 d k z f) (b9 : Nat) (hb9 : tg z b9 23) (P c9 L9 : Nat) (hP9 : P < 12) (hc8 : c9 < 8) (u : mS) (hrp : rep q d u z f) (hk0 : k 0 = u.1 3) (hk1 : k 1 = u.1 28) (hk2 : k 2 = u.1 38) (hk3 : k 3 = u.1 39) (eL : u.2 0 (8 * P + c9) = nI L9) (hL60 : L9 ≤ 60) (hne : neI u) (xs : List fX) (hacF : acF z d (some b9) xs) (sz : Nat) : Met l yX11_fillColumn wsX11_fillColumn ({ frames := 5, cells := 122, slots := 610, locals := 109 }) (va_Pc [.ref h0, .int (nI P), .int (nI c9), .ref b9] (fun U => U.heap.size = sz ∧ PX dC dI (va_pl z.1 f) (xT q) U ∧ va_D (fun _ => True) (va_pl z.1 f))) (va_Qq (fun (r : Option Nat) (w : xU) => fcP q h0 d k z f u xs P c9 L9 r w) (fun (w : xU) t => va_P (dC, dI) vwCl (va_pl w.2.1.1 w.2.2) t.heap ∧ va_D (va_A (va_pl z.1 f) sz) (va_pl w.2.1.1 w.2.2)) (va_A (va_pl z.1 f) sz)) 122 610 (va_A (va_pl z.1 f) sz) := by
  refine Met.ofW (cc := cX11_fillColumn) (maxL := 10) (ret := (some (.object "PageOne$Act"))) (by decide) rfl ?_
  intro p e s m args below meth c s₁ B hml hv
  obtain ⟨rfl, hsz, ⟨⟨hP, hK, hN⟩, hXN⟩, hD0⟩ := hv
  have hx := B.exec
  have hb := B.bytes
  have hr := B.returns
  have hts := atoms_spec (ws := wsX11_fillColumn) B.pre
  have hown : s.vm.findClass RX11 = some m.cls := findClass_of_methodNamed B.named
  have hlocks := B.notSynchronized
  subst hsz
  have hD := hD0.self (sz := s.heap.size)
  generalize hAe : va_A (va_pl z.1 f) s.heap.size = A at hD ⊢
  have hA : ∀ q : Nat, s.heap.size ≤ q → A q := fun q h => by rw [← hAe]; exact Or.inr h
  have hS : va_S A s.heap s.heap [] := va_S.rf
  have hl := lv_entry ([.ref h0, .int (nI P), .int (nI c9), .ref b9]) (n := 10) (Nat.le_of_ble_eq_true rfl)
  rw [lg_entry_eq]
  generalize (lg_sl ([.ref h0, .int (nI P), .int (nI c9), .ref b9]) ++ List.replicate (10 - (lg_sl ([.ref h0, .int (nI P), .int (nI c9), .ref b9])).length) Slot.unset).toArray = ls at hl ⊢
  have hl : lv_has ls 10 [(0, .ref h0), (1, .int (nI P)), (2, .int (nI c9)), (3, .ref b9)] := hl
  refine lv_aload_n hx hb dX11_fillColumn_0 rfl (lv_at hl 0 rfl) ?_
  obtain ⟨kk_1, hk_2⟩ := pl_at hI.2.1.1.1 hI.2.2.2.1.1
  refine va_get (D := (dC, dI)) (ci := 10) (v := .ref (d 0)) (C := RX11) (T := TX11) (N := 9) hx hb hts (by decide +kernel) hown hK hP kk_1 hk_2 rfl 0 (by decide) (hts (.fieldLink RX11 11 "PageOne" "pages" "[LPageOne$Sheet;") (by decide +kernel)) (fun _ h9 => h9) rfl dX11_fillColumn_1 ?_
  refine lv_iload_n hx hb dX11_fillColumn_4 rfl (lv_at hl 1 rfl) ?_
  obtain ⟨g_3, hs_4, hg_5⟩ := x_pg hI hI.2.1.2.1
  obtain ⟨kk_6, hk_7⟩ := pl_at hI.2.1.2.1.1 hs_4
  refine va_aldq hx hb hK hP kk_6 2 hk_7 rfl (vp_in_nI hP9 (by decide)) dX11_fillColumn_5 ?_
  obtain ⟨b_8, hg_9, ht_10⟩ := hg_5 _ (vlt (vp_in_nI hP9 (by decide)))
  rw [hg_9]
  refine W.eq (g2 := F0 m 6 ls [.ref b_8]) rfl ?_
  have hb_11 := pg_at hrp.1 hs_4 hP9 (by rw [nI_clamp (by omega)] at hg_9; exact hg_9)
  subst hb_11
  obtain ⟨dd_12, ii_13, gl_14, gc_15, ht_16, ht_17, ht_18, hs_19, hg_20, hgb_21, hc_22, el_23, ec_24⟩ := pg_all hI hrp.1 hP9
  refine lv_astore (lv' := [(4, .ref (d (10 + P))), (0, .ref h0), (1, .int (nI P)), (2, .int (nI c9)), (3, .ref b9)]) hx hb dX11_fillColumn_6 hl (by decide) rfl (fun ls hl => ?_)
  refine lv_aload_n hx hb dX11_fillColumn_8 rfl (lv_at hl 4 rfl) ?_
  refine lv_astore (lv' := [(5, .ref b9), (4, .ref (d (10 + P))), (0, .ref h0), (1, .int (nI P)), (2, .int (nI c9)), (3, .ref b9)]) hx hb dX11_fillColumn_9 hl (by decide) rfl (fun ls hl => ?_)
  refine lv_iconst (v := 0) hx hb dX11_fillColumn_11 (by decide) ?_
  refine lv_istore (lv' := [(6, .int 0), (5, .ref b9), (4, .ref (d (10 + P))), (0, .ref h0), (1, .int (nI P)), (2, .int (nI c9)), (3, .ref b9)]) hx hb dX11_fillColumn_12 hl (by decide) rfl (fun ls hl => ?_)
  refine lv_iconst (v := 0) hx hb dX11_fillColumn_14 (by decide) ?_
  refine lv_istore (lv' := [(7, .int 0), (6, .int 0), (5, .ref b9), (4, .ref (d (10 + P))), (0, .ref h0), (1, .int (nI P)), (2, .int (nI c9)), (3, .ref b9)]) hx hb dX11_fillColumn_15 hl (by decide) rfl (fun ls hl => ?_)
  refine y_fc_l (cells := 0) (slots := 0) (z0 := z) (f0 := f) (u0 := u) (xs0 := xs) (P := P) (c9 := c9) (L9 := L9) hP9 hc8 eL hL60 hx hb hml hts hown hN hXN hK (Nat.le_of_ble_eq_true rfl) (Nat.le_of_ble_eq_true rfl) (Nat.le_of_ble_eq_true rfl) (Nat.le_of_ble_eq_true rfl) hA (fun z2 f2 H locs r u2 xs2 r9 ls hfN hrp2 hne2 hu2 hk0 hk1 hk2 hk3 hacF2 h3m hE2 hI hP hD hS hl => ?_) 62 0 z f _ _ (some b9) 0 u xs ls (Nat.zero_le _) (by decide) (Nat.le_refl _) rfl (fun b hb => absurd hb (Nat.not_lt_zero _)) hrp hne rfl hk0 hk1 hk2 hk3 hacF rfl (zE_rf z) hI hP hD hS (lv_sub hl [0, 1, 2, 3, 4, 5, 6] rfl)
  rcases r with _ | b8
  all_goals refine W.widen (k := 122) (n := 610) (Nat.le_of_ble_eq_true rfl) (Nat.le_of_ble_eq_true rfl) ?_
  ·
    have hl : lv_has ls 10 [(5, .null)] := hl
    refine lv_aloadN hx hb dX11_fillColumn_120 (lv_at hl 0 rfl) ?_
    exact W.aret (v := .null) hx hb hr (Or.inl ⟨_, rfl⟩) (Or.inl rfl) (fun t ht hW => ⟨⟨none, (k, z2, f2), rfl, ⟨u2, xs2, r9, hfN, rfl, hE2, hI, hrp2, hne2, hu2, ⟨hk0, hk1, hk2, hk3⟩, hacF2, h3m⟩, by rw [ht]; exact hP, hD⟩, hS.F ht⟩) hS.2.2 dX11_fillColumn_122
  ·
    have hl : lv_has ls 10 [(5, .ref b8)] := hl
    refine lv_aload hx hb dX11_fillColumn_120 (lv_at hl 0 rfl) ?_
    exact W.aret (v := .ref b8) hx hb hr (Or.inl ⟨_, rfl⟩) (Or.inr ⟨_, rfl⟩) (fun t ht hW => ⟨⟨(some b8), (k, z2, f2), rfl, ⟨u2, xs2, r9, hfN, rfl, hE2, hI, hrp2, hne2, hu2, ⟨hk0, hk1, hk2, hk3⟩, hacF2, h3m⟩, by rw [ht]; exact hP, hD⟩, hS.F ht⟩) hS.2.2 dX11_fillColumn_122
theorem acF_t {z : gS} {d : Nat → Nat} {b : Nat} {xs : List fX} (h : acF z d (some b) xs) : tg z b 23 := by
  cases xs with
  | nil => exact absurd h (fun e => by cases e)
  | cons x xs =>
    obtain ⟨a, pp, ah, e, h2, -⟩ := h
    obtain rfl := Option.some.inj e
    exact h2.1
set_option maxHeartbeats 4000000 in
set_option maxRecDepth 100000 in
theorem y_fill_l {p : Program} {l : Launch} {e : Env} {R : Room} {s : State} {m : MethodId} {args : Array Value} {below : List Frame} {meth : Method} {c : Code} {Q : State → Prop} {cells slots : Nat} {dC : Nat → ClassId} {dI : Nat → Nat → Nat} {q : Nat → ClassId} {h0 : Nat} {d : Nat → Nat} {k : Nat → Int32} {z0 : gS} {f0 : xF} {u0 : mS} {P : Nat} (hP9 : P < 12) {A : Nat → Prop} {H0 : Heap} (hx : p.tables.exec = Jvm.exec) (hb : c.code = cX11_fill) (hml : c.maxLocals = 4) (hts : ∀ w ∈ wsX11_fill, w.before args s = true) (hown : s.vm.findClass RX11 = some m.cls) (hN : NN s) (hXN : XN s) (hK : va_K (dC, dI) vwCl (xT q) s) (hRf : 6 ≤ R.frames) (hRl : 138 ≤ R.locals) (hRc : cells + 976 ≤ R.cells) (hRs : slots + 4880 ≤ R.slots) (hA : ∀ q : Nat, H0.size ≤ q → A q) (kx40 : ∀ (z : gS) (f : xF) (H : Heap) (locs : List Loc) (r : Option Nat) (u : mS) (xs : List fX) (ls : Array Slot), flN u0 P 8 = (u, xs) → rep q d u z f → neI u → k 0 = u.1 3 → k 1 = u.1 28 → k 2 = u.1 38 → k 3 = u.1 39 → acF z d r xs → f (d 3) = f0 (d 3) → zE z0 z → xI q h0 d k z f → va_P (dC, dI) vwCl (va_pl z.1 f) H → va_D A (va_pl z.1 f) → va_S A H0 H locs → lv_has ls 4 [(2, va_rf r), (0, .ref h0)] → W p l e R s m args below meth c H locs (cells + 976) (slots + 4880) Q (F0 m 40 ls [])) : ∀ (n i : Nat) (z : gS) (f : xF) (H : Heap) (locs : List Loc) (r : Option Nat) (u : mS) (xs : List fX) (ls : Array Slot), i ≤ 8 → 8 - i < n → flN u0 P i = (u, xs) → rep q d u z f → neI u → k 0 = u.1 3 → k 1 = u.1 28 → k 2 = u.1 38 → k 3 = u.1 39 → acF z d r xs → f (d 3) = f0 (d 3) → zE z0 z → xI q h0 d k z f → va_P (dC, dI) vwCl (va_pl z.1 f) H → va_D A (va_pl z.1 f) → va_S A H0 H locs → lv_has ls 4 [(3, .int (nI i)), (2, va_rf r), (0, .ref h0), (1, .int (nI P))] → W p l e R s m args below meth c H locs (cells + 122 * i) (slots + 610 * i) Q (F0 m 20 ls []) := by
  intro n
  induction n with
  | zero => intro i z f H locs r u xs ls h1 h2; exact absurd h2 (Nat.not_lt_zero _)
  | succ n ih =>
    intro i z f H locs r u xs ls hi hn hfl hrp hne hk0 hk1 hk2 hk3 hacF h3m hEz hI hP hD hS hl
    rcases r with _ | b9
    ·
      have hl : lv_has ls 4 [(3, .int (nI i)), (2, .null), (0, .ref h0), (1, .int (nI P))] := hl
      refine lv_iload_n hx hb dX11_fill_20 rfl (lv_at hl 0 rfl) ?_
      refine lv_bipush (v := 8) hx hb dX11_fill_21 (by decide) ?_
      refine lv_icmp_ge (tgt := 40) hx hb dX11_fill_23 (by decide) (fun c_1 => ?_) (fun c_1 => ?_)
      ·
        have hie : i = 8 := lp_eq rfl (by decide) hi c_1
        refine W.widen (k := cells + 976) (n := slots + 4880) (by omega) (by omega) ?_
        exact kx40 _ _ _ _ none u xs ls (by rw [← hie]; exact hfl) hrp hne hk0 hk1 hk2 hk3 hacF h3m hEz hI hP hD hS (lv_sub hl [1, 2] rfl)
      ·
        have hlt : i < 8 := lp_lt rfl (by decide) hi c_1
        refine lv_aload_n hx hb dX11_fill_26 rfl (lv_at hl 2 rfl) ?_
        refine lv_iload_n hx hb dX11_fill_27 rfl (lv_at hl 3 rfl) ?_
        refine lv_iload_n hx hb dX11_fill_28 rfl (lv_at hl 0 rfl) ?_
        refine lv_aload_nN hx hb dX11_fill_29 rfl (lv_at hl 1 rfl) ?_
        obtain ⟨L9, eL, hL60⟩ := ln_L hI hrp hP9 hlt
        obtain ⟨kk_2, hk_3⟩ := pl_at hI.2.1.1.1 hI.2.2.2.1.1
        have hFc := fr_all hD hS hA
        refine va_callq (va_runV (As := [.int (nI P), .int (nI i), .null]) (rest := []) ⟨hx, hb, hml, hown, hts⟩ (y_fillColN l dC dI q h0 d k z f hI P i L9 hP9 hlt u hrp hk0 hk1 hk2 hk3 eL hL60 hne xs hacF H.size) (cwV 3 hts gX11_fill_X11_fillColumn rfl rfl rfl (by decide +kernel) ⟨Nat.le_trans (Nat.le_of_ble_eq_true rfl) hRf, Nat.le_trans (Nat.le_of_ble_eq_true rfl) hRl⟩) ⟨gx_fb, va_recv hK hP (ci := 10) (q0 := kk_2) rfl hk_3, fun U hU hW => ⟨rfl, by rw [hU], px_to hU hW hP hK hN hXN, hD.weaken (fun _ _ _ _ => trivial)⟩⟩ rfl rfl hl.1 rfl (lv_room (Nat.le_of_ble_eq_true rfl)) dX11_fill_30 ⟨by omega, by omega⟩) hS (fun q _ h => hFc q h) hFc (fun r w_4 t H1 locs ht hvm hw hB hz1 hk1 hS => ?_)
        obtain ⟨hP, hD1⟩ := hB
        rw [ht] at hP
        have hD := hD1.weaken (fun _ q _ h => hFc q.1 h)
        generalize H1 = H at hP hS ⊢
        refine W.widen (k := cells + 122 * i + 122) (n := slots + 610 * i + 610) (by omega) (by omega) ?_
        obtain ⟨u2, xs2, r9, hfN, hwk, hE2, hI, hrp2, hne2, hu2, ⟨hq0, hq1, hq2, hq3⟩, hacF2, h3n⟩ := hw
        generalize w_4.2.1 = z_6 at hE2 hI hrp2 hacF2 hP hD
        generalize w_4.2.2 = f_7 at hI hrp2 h3n hP hD
        have hEz := zE_tr hEz hE2
        rcases r with _ | b_5
        ·
          refine W.eq (g2 := F0 m 33 ls [.null]) rfl ?_
          refine lv_astore_nN (lv' := [(2, .null), (3, .int (nI i)), (0, .ref h0), (1, .int (nI P))]) hx hb dX11_fill_33 rfl hl (by decide) rfl (fun ls hl => ?_)
          refine lv_iinc (v := (nI (i + 1))) (lv' := [(3, .int (nI (i + 1))), (2, .null), (0, .ref h0), (1, .int (nI P))]) hx hb dX11_fill_34 hl (k := 1) rfl (nI_1 i) (by decide) rfl (fun ls hl => ?_)
          refine lv_goto (tgt := 20) hx hb dX11_fill_37 (by decide) ?_
          refine W.widen (k := cells + 122 * (i + 1)) (n := slots + 610 * (i + 1)) (by omega) (by omega) ?_
          exact ih (i + 1) _ _ _ _ none u2 xs2 ls (by omega) (by omega) (flN_s hfl hfN eL hL60) hrp2 hne2 hq0 hq1 hq2 hq3 hacF2 (h3n.trans h3m) hEz hI hP hD hS (lv_sub hl [0, 1, 2, 3] rfl)
        ·
          refine W.eq (g2 := F0 m 33 ls [.ref b_5]) rfl ?_
          refine lv_astore_n (lv' := [(2, .ref b_5), (3, .int (nI i)), (0, .ref h0), (1, .int (nI P))]) hx hb dX11_fill_33 rfl hl (by decide) rfl (fun ls hl => ?_)
          refine lv_iinc (v := (nI (i + 1))) (lv' := [(3, .int (nI (i + 1))), (2, .ref b_5), (0, .ref h0), (1, .int (nI P))]) hx hb dX11_fill_34 hl (k := 1) rfl (nI_1 i) (by decide) rfl (fun ls hl => ?_)
          refine lv_goto (tgt := 20) hx hb dX11_fill_37 (by decide) ?_
          refine W.widen (k := cells + 122 * (i + 1)) (n := slots + 610 * (i + 1)) (by omega) (by omega) ?_
          exact ih (i + 1) _ _ _ _ (some b_5) u2 xs2 ls (by omega) (by omega) (flN_s hfl hfN eL hL60) hrp2 hne2 hq0 hq1 hq2 hq3 hacF2 (h3n.trans h3m) hEz hI hP hD hS (lv_sub hl [0, 1, 2, 3] rfl)
    ·
      have hl : lv_has ls 4 [(3, .int (nI i)), (2, .ref b9), (0, .ref h0), (1, .int (nI P))] := hl
      refine lv_iload_n hx hb dX11_fill_20 rfl (lv_at hl 0 rfl) ?_
      refine lv_bipush (v := 8) hx hb dX11_fill_21 (by decide) ?_
      refine lv_icmp_ge (tgt := 40) hx hb dX11_fill_23 (by decide) (fun c_8 => ?_) (fun c_8 => ?_)
      ·
        have hie : i = 8 := lp_eq rfl (by decide) hi c_8
        refine W.widen (k := cells + 976) (n := slots + 4880) (by omega) (by omega) ?_
        exact kx40 _ _ _ _ (some b9) u xs ls (by rw [← hie]; exact hfl) hrp hne hk0 hk1 hk2 hk3 hacF h3m hEz hI hP hD hS (lv_sub hl [1, 2] rfl)
      ·
        have hlt : i < 8 := lp_lt rfl (by decide) hi c_8
        refine lv_aload_n hx hb dX11_fill_26 rfl (lv_at hl 2 rfl) ?_
        refine lv_iload_n hx hb dX11_fill_27 rfl (lv_at hl 3 rfl) ?_
        refine lv_iload_n hx hb dX11_fill_28 rfl (lv_at hl 0 rfl) ?_
        refine lv_aload_n hx hb dX11_fill_29 rfl (lv_at hl 1 rfl) ?_
        obtain ⟨L9, eL, hL60⟩ := ln_L hI hrp hP9 hlt
        obtain ⟨kk_9, hk_10⟩ := pl_at hI.2.1.1.1 hI.2.2.2.1.1
        have hFc := fr_all hD hS hA
        refine va_callq (va_runV (As := [.int (nI P), .int (nI i), .ref b9]) (rest := []) ⟨hx, hb, hml, hown, hts⟩ (y_fillColS l dC dI q h0 d k z f hI b9 (acF_t hacF) P i L9 hP9 hlt u hrp hk0 hk1 hk2 hk3 eL hL60 hne xs hacF H.size) (cwV 3 hts gX11_fill_X11_fillColumn rfl rfl rfl (by decide +kernel) ⟨Nat.le_trans (Nat.le_of_ble_eq_true rfl) hRf, Nat.le_trans (Nat.le_of_ble_eq_true rfl) hRl⟩) ⟨gx_fb, va_recv hK hP (ci := 10) (q0 := kk_9) rfl hk_10, fun U hU hW => ⟨rfl, by rw [hU], px_to hU hW hP hK hN hXN, hD.weaken (fun _ _ _ _ => trivial)⟩⟩ rfl rfl hl.1 rfl (lv_room (Nat.le_of_ble_eq_true rfl)) dX11_fill_30 ⟨by omega, by omega⟩) hS (fun q _ h => hFc q h) hFc (fun r w_11 t H1 locs ht hvm hw hB hz1 hk1 hS => ?_)
        obtain ⟨hP, hD1⟩ := hB
        rw [ht] at hP
        have hD := hD1.weaken (fun _ q _ h => hFc q.1 h)
        generalize H1 = H at hP hS ⊢
        refine W.widen (k := cells + 122 * i + 122) (n := slots + 610 * i + 610) (by omega) (by omega) ?_
        obtain ⟨u2, xs2, r9, hfN, hwk, hE2, hI, hrp2, hne2, hu2, ⟨hq0, hq1, hq2, hq3⟩, hacF2, h3n⟩ := hw
        generalize w_11.2.1 = z_13 at hE2 hI hrp2 hacF2 hP hD
        generalize w_11.2.2 = f_14 at hI hrp2 h3n hP hD
        have hEz := zE_tr hEz hE2
        rcases r with _ | b_12
        ·
          refine W.eq (g2 := F0 m 33 ls [.null]) rfl ?_
          refine lv_astore_nN (lv' := [(2, .null), (3, .int (nI i)), (0, .ref h0), (1, .int (nI P))]) hx hb dX11_fill_33 rfl hl (by decide) rfl (fun ls hl => ?_)
          refine lv_iinc (v := (nI (i + 1))) (lv' := [(3, .int (nI (i + 1))), (2, .null), (0, .ref h0), (1, .int (nI P))]) hx hb dX11_fill_34 hl (k := 1) rfl (nI_1 i) (by decide) rfl (fun ls hl => ?_)
          refine lv_goto (tgt := 20) hx hb dX11_fill_37 (by decide) ?_
          refine W.widen (k := cells + 122 * (i + 1)) (n := slots + 610 * (i + 1)) (by omega) (by omega) ?_
          exact ih (i + 1) _ _ _ _ none u2 xs2 ls (by omega) (by omega) (flN_s hfl hfN eL hL60) hrp2 hne2 hq0 hq1 hq2 hq3 hacF2 (h3n.trans h3m) hEz hI hP hD hS (lv_sub hl [0, 1, 2, 3] rfl)
        ·
          refine W.eq (g2 := F0 m 33 ls [.ref b_12]) rfl ?_
          refine lv_astore_n (lv' := [(2, .ref b_12), (3, .int (nI i)), (0, .ref h0), (1, .int (nI P))]) hx hb dX11_fill_33 rfl hl (by decide) rfl (fun ls hl => ?_)
          refine lv_iinc (v := (nI (i + 1))) (lv' := [(3, .int (nI (i + 1))), (2, .ref b_12), (0, .ref h0), (1, .int (nI P))]) hx hb dX11_fill_34 hl (k := 1) rfl (nI_1 i) (by decide) rfl (fun ls hl => ?_)
          refine lv_goto (tgt := 20) hx hb dX11_fill_37 (by decide) ?_
          refine W.widen (k := cells + 122 * (i + 1)) (n := slots + 610 * (i + 1)) (by omega) (by omega) ?_
          exact ih (i + 1) _ _ _ _ (some b_12) u2 xs2 ls (by omega) (by omega) (flN_s hfl hfN eL hL60) hrp2 hne2 hq0 hq1 hq2 hq3 hacF2 (h3n.trans h3m) hEz hI hP hD hS (lv_sub hl [0, 1, 2, 3] rfl)
/-- what fill leaves -/
def flP (q : Nat → ClassId) (h0 : Nat) (d : Nat → Nat) (k : Nat → Int32) (z : gS) (f : xF) (u : mS) (p0 r : Int32) (w : xU) : Prop := ((¬ bw p0 0 11 = true ∨ u.1 28 = 300) ∧ r = (-1) ∧ w = (k, z, f)) ∨ (bw p0 0 11 = true ∧ ¬ u.1 28 = 300 ∧ ∃ u' xs, flN u p0.toNatClampNeg 8 = (u', xs) ∧ ((xs = [] ∧ actP q h0 d k z f ((0 : Int32), u') (fun _ => False) r w) ∨ (¬ xs = [] ∧ actP q h0 d k z f (nI xs.length, mActs u' 3 (nI xs.length) 0 0 0 0 0) (fun e => e = (3, 0, (0, 0, 0, 0, 0), xs)) r w)))
theorem fill_fin {q h0 d k u' z f z9 f9 k9} {a : Nat} {xs : List fX} {fc : xF} (hk1 : k 1 = u'.1 28) (hE : zE z z9) (hI9 : xI q h0 d k9 z9 f9) (hrp9 : rep q d u' z9 f9) (h3m : fc (d 3) = f (d 3)) (hkc : k9 = kup k 1 (k 1 + 1)) (hk3 : ∃ g, fc (d 3) = aR (q 4) 300 g ∧ f9 (d 3) = aR (q 4) 300 (va_up g (k 1).toNatClampNeg (some a))) (hac : acF z9 d (some a) xs) : actP q h0 d k z f (nI xs.length, mActs u' 3 (nI xs.length) 0 0 0 0 0) (fun e => e = (3, 0, (0, 0, 0, 0, 0), xs)) (nI xs.length) (k9, z9, f9) := by
  obtain ⟨g, g1, g2⟩ := hk3
  refine ⟨hE, hI9, rfl, rep_rows hrp9 rfl (fun r hr => mActs_k _ _ _ _ _ _ _ _ (by omega)), fun j hj => by rw [hkc]; exact kup_o hj, ?_, Or.inr ⟨g, a, _, by rw [← h3m]; exact g1, g2, by show k9 1 = _; rw [hkc, kup_s], ?_, rfl⟩⟩
  · show k9 1 = u'.1 28 + 1
    rw [hkc, kup_s, hk1]
  · exact Or.inr (Or.inr (Or.inr ⟨rfl, hac⟩))
set_option maxHeartbeats 4000000 in
set_option maxRecDepth 100000 in
theorem y_fill (l : Launch) (dC : Nat → ClassId) (dI : Nat → Nat → Nat) (q : Nat → ClassId) (h0 : Nat) (d : Nat → Nat) (k : Nat → Int32) (z : gS) (f : xF) (hI : xI q h0 d k z f) (p0 : Int32) (u : mS) (hrp : rep q d u z f) (hk0 : k 0 = u.1 3) (hk1 : k 1 = u.1 28) (hk2 : k 2 = u.1 38) (hk3 : k 3 = u.1 39) (hz0 : (z.2 h0).2.1 = 0) (hne : neI u) (sz : Nat) : Met l yX11_fill wsX11_fill ({ frames := 6, cells := 976, slots := 4880, locals := 138 }) (va_Pc [.ref h0, .int p0] (fun U => U.heap.size = sz ∧ PX dC dI (va_pl z.1 f) (xT q) U ∧ va_D (fun _ => True) (va_pl z.1 f))) (va_Qi (fun (r : Int32) (w : xU) => flP q h0 d k z f u p0 r w) (fun (w : xU) t => va_P (dC, dI) vwCl (va_pl w.2.1.1 w.2.2) t.heap ∧ va_D (va_A (va_pl z.1 f) sz) (va_pl w.2.1.1 w.2.2)) (va_A (va_pl z.1 f) sz)) 976 4880 (va_A (va_pl z.1 f) sz) := by
  refine Met.ofW (cc := cX11_fill) (maxL := 4) (ret := (some .int)) (by decide) rfl ?_
  intro p e s m args below meth c s₁ B hml hv
  obtain ⟨rfl, hsz, ⟨⟨hP, hK, hN⟩, hXN⟩, hD0⟩ := hv
  have hx := B.exec
  have hb := B.bytes
  have hr := B.returns
  have hts := atoms_spec (ws := wsX11_fill) B.pre
  have hown : s.vm.findClass RX11 = some m.cls := findClass_of_methodNamed B.named
  have hlocks := B.notSynchronized
  subst hsz
  have hD := hD0.self (sz := s.heap.size)
  generalize hAe : va_A (va_pl z.1 f) s.heap.size = A at hD ⊢
  have hA : ∀ q : Nat, s.heap.size ≤ q → A q := fun q h => by rw [← hAe]; exact Or.inr h
  have hS : va_S A s.heap s.heap [] := va_S.rf
  have hl := lv_entry ([.ref h0, .int p0]) (n := 4) (Nat.le_of_ble_eq_true rfl)
  rw [lg_entry_eq]
  generalize (lg_sl ([.ref h0, .int p0]) ++ List.replicate (4 - (lg_sl ([.ref h0, .int p0])).length) Slot.unset).toArray = ls at hl ⊢
  have hl : lv_has ls 4 [(0, .ref h0), (1, .int p0)] := hl
  have hIo := hI
  have hk1o := hk1
  refine lv_iload_n hx hb dX11_fill_0 rfl (lv_at hl 1 rfl) ?_
  refine vp_callSi (va_runS (As := [.int p0]) (rest := []) ⟨hx, hb, hml, hown, hts⟩ (x_isPage l dC dI p0) (va_cwS 1 hts gX11_fill_X11_isPage rfl rfl rfl (by decide +kernel) ⟨Nat.le_of_ble_eq_true rfl, Nat.le_of_ble_eq_true rfl⟩) ⟨pw_fb, fun U hU hW => ⟨rfl, pw_to hU hW (hP.sub (ws' := []) [] rfl) (hK.sub (tys' := []) [] rfl) hN⟩⟩ rfl rfl hl.1 rfl (lv_room (Nat.le_of_ble_eq_true rfl)) dX11_fill_1 ⟨Nat.le_of_ble_eq_true rfl, Nat.le_of_ble_eq_true rfl⟩).run (fun r hw => ?_)
  rcases Bool.eq_false_or_eq_true (bw p0 0 11) with b_1 | b_1
  ·
    obtain rfl : r = 1 := b_t hw b_1
    refine lv_if_eq (tgt := 14) hx hb dX11_fill_4 (by decide) (fun c_2 => absurd c_2 (by decide)) (fun c_2 => ?_)
    refine lv_aload_n hx hb dX11_fill_7 rfl (lv_at hl 0 rfl) ?_
    obtain ⟨kk_3, hk_4⟩ := pl_at hI.2.1.1.1 hI.2.2.2.1.1
    refine vp_callSi (va_runV (As := []) (rest := []) ⟨hx, hb, hml, hown, hts⟩ (y_canAct l dC dI q h0 d k z f hI) (cwV 0 hts gX11_fill_X11_canAct rfl rfl rfl (by decide +kernel) ⟨Nat.le_of_ble_eq_true rfl, Nat.le_of_ble_eq_true rfl⟩) ⟨px_fb, va_recv hK hP (ci := 10) (q0 := kk_3) rfl hk_4, fun U hU hW => ⟨rfl, px_to hU hW hP hK hN hXN⟩⟩ rfl rfl hl.1 rfl (lv_room (Nat.le_of_ble_eq_true rfl)) dX11_fill_8 ⟨Nat.le_of_ble_eq_true rfl, Nat.le_of_ble_eq_true rfl⟩).run (fun r hw => ?_)
    rcases hw with ⟨hw, hca_5⟩ | ⟨hw, hca_5⟩
    ·
      subst hw
      refine lv_if_ne (tgt := 16) hx hb dX11_fill_11 (by decide) (fun c_6 => absurd (by decide) c_6) (fun c_6 => ?_)
      refine lv_iconst (v := (-1)) hx hb dX11_fill_14 (by decide) ?_
      refine W.widen (k := 976) (n := 4880) (Nat.le_of_ble_eq_true rfl) (Nat.le_of_ble_eq_true rfl) ?_
      exact W.iret (v := (-1)) hx hb hr (fun t ht hW => ⟨⟨(-1), (k, z, f), rfl, (Or.inl ⟨Or.inr (by rw [← hk1o]; exact (n300 hIo.1.2.1).1 hca_5), rfl, rfl⟩), by rw [ht]; exact hP, hD⟩, hS.F ht⟩) hS.2.2 dX11_fill_15
    ·
      subst hw
      refine lv_if_ne (tgt := 16) hx hb dX11_fill_11 (by decide) (fun c_7 => ?_) (fun c_7 => absurd c_7 (by decide))
      refine lv_null hx hb dX11_fill_16 ?_
      refine lv_astore_nN (lv' := [(2, .null), (0, .ref h0), (1, .int p0)]) hx hb dX11_fill_17 rfl hl (by decide) rfl (fun ls hl => ?_)
      refine lv_iconst (v := 0) hx hb dX11_fill_18 (by decide) ?_
      refine lv_istore_n (lv' := [(3, .int 0), (2, .null), (0, .ref h0), (1, .int p0)]) hx hb dX11_fill_19 rfl hl (by decide) rfl (fun ls hl => ?_)
      obtain ⟨P, eP⟩ : ∃ y, y = p0.toNatClampNeg := ⟨_, rfl⟩
      have eP1 : p0 = nI P := by rw [eP]; exact (nI_of_bw b_1).1
      have hP9 : P < 12 := by rw [eP]; exact clp b_1
      rw [eP1] at hl
      refine y_fill_l (cells := 0) (slots := 0) (z0 := z) (f0 := f) (u0 := u) (P := P) hP9 hx hb hml hts hown hN hXN hK (Nat.le_of_ble_eq_true rfl) (Nat.le_of_ble_eq_true rfl) (Nat.le_of_ble_eq_true rfl) (Nat.le_of_ble_eq_true rfl) hA (fun z2 f2 H locs r u2 xs2 ls hfl hrp2 hne2 hq0 hq1 hq2 hq3 hacF2 h3m hE2 hI hP hD hS hl => ?_) 9 0 z f _ _ none u [] ls (by decide) (by decide) rfl hrp hne hk0 hk1 hk2 hk3 rfl rfl (zE_rf z) hI hP hD hS (lv_sub hl [0, 1, 2, 3] rfl)
      rcases r with _ | b8
      all_goals refine W.widen (k := 976) (n := 4880) (Nat.le_of_ble_eq_true rfl) (Nat.le_of_ble_eq_true rfl) ?_
      ·
        have hl : lv_has ls 4 [(2, .null), (0, .ref h0)] := hl
        have hEz := hE2
        refine lv_aload_nN hx hb dX11_fill_40 rfl (lv_at hl 0 rfl) ?_
        refine lv_ifnonnullN hx hb dX11_fill_41 ?_
        refine lv_iconst (v := 0) hx hb dX11_fill_44 (by decide) ?_
        exact W.iret (v := 0) hx hb hr (fun t ht hW => ⟨⟨0, (k, z2, f2), rfl, (Or.inr ⟨b_1, (by rw [← hk1o]; exact (n300 hIo.1.2.1).2 hca_5), u2, xs2, by rw [← eP]; exact hfl, Or.inl ⟨by cases xs2 with | nil => rfl | cons x xs => (obtain ⟨a, pp, ah, e9, -⟩ := hacF2; cases e9), hE2, hI, rfl, hrp2, fun _ _ => rfl, hq1, Or.inl ⟨h3m, rfl⟩⟩⟩), by rw [ht]; exact hP, hD⟩, hS.F ht⟩) hS.2.2 dX11_fill_45
      ·
        have hl : lv_has ls 4 [(2, .ref b8), (0, .ref h0)] := hl
        have hEz := hE2
        rcases xs2 with _ | ⟨x9, xs9⟩
        · exact absurd hacF2 (fun h => by cases h)
        ·
          have hacS := hacF2
          obtain ⟨b7, pp9, ah9, eb8, hac9, hpc9, hac8⟩ := hacS
          obtain rfl := Option.some.inj eb8
          have ht8 := hac9.1
          refine lv_aload_n hx hb dX11_fill_40 rfl (lv_at hl 0 rfl) ?_
          refine lv_ifnonnull (tgt := 46) hx hb dX11_fill_41 (by decide) ?_
          refine lv_aload_n hx hb dX11_fill_46 rfl (lv_at hl 1 rfl) ?_
          refine lv_aload_n hx hb dX11_fill_47 rfl (lv_at hl 0 rfl) ?_
          have hIb := hI
          have hcx : ¬ 300 ≤ k 1 := hca_5
          obtain ⟨kk_8, hk_9⟩ := pl_at hI.2.1.1.1 hI.2.2.2.1.1
          have hFc := fr_all hD hS hA
          refine va_callv (va_runV (As := [.ref b8]) (rest := []) ⟨hx, hb, hml, hown, hts⟩ (y_keep l dC dI q h0 d k z2 f2 hI b8 ht8 hcx H.size) (cwV 1 hts gX11_fill_X11_keep rfl rfl rfl (by decide +kernel) ⟨Nat.le_of_ble_eq_true rfl, Nat.le_of_ble_eq_true rfl⟩) ⟨gx_fb, va_recv hK hP (ci := 10) (q0 := kk_8) rfl hk_9, fun U hU hW => ⟨rfl, by rw [hU], px_to hU hW hP hK hN hXN, hD.weaken (fun _ _ _ _ => trivial)⟩⟩ rfl rfl hl.1 rfl (lv_room (Nat.le_of_ble_eq_true rfl)) dX11_fill_48 ⟨Nat.le_of_ble_eq_true rfl, Nat.le_of_ble_eq_true rfl⟩) hS (fun q _ h => hFc q h) hFc (fun w_10 t H1 locs ht hvm hw hB hz1 hk1 hS => ?_)
          obtain ⟨hP, hD1⟩ := hB
          rw [ht] at hP
          rw [hw.1] at hP hD1
          have hD := hD1.weaken (fun _ q _ h => hFc q.1 h)
          have hI := hw.2.1
          have hw0 := hw
          generalize w_10.1 = k_12 at hI hw0
          generalize w_10.2.2 = f_11 at hP hD hI hw0
          generalize H1 = H at hP hS ⊢
          have hkp := hw0.2.2
          have hrp_13 : rep q d u2 z2 f_11 := rep_kp hrp2 hIb (by rw [zE_o hEz hIo.2.1.1.1]; exact hz0) hkp
          refine lv_aload_n hx hb dX11_fill_51 rfl (lv_at hl 0 rfl) ?_
          have hs_14 := ac_eq hI hac9
          obtain ⟨kk_15, hk_16⟩ := pl_at hac9.1.1 hs_14
          refine va_get (D := (dC, dI)) (ci := 0) (v := .int (nI (xs9.length + 1))) (C := RX0) (T := TX0) (N := 4) hx hb hts (by decide +kernel) hown hK hP kk_15 hk_16 rfl 3 (by decide) (hts (.fieldLink RX11 184 "PageOne$Act" "parts" "I") (by decide +kernel)) (fun _ h9 => h9) rfl dX11_fill_52 ?_
          exact W.iret (v := (nI (xs9.length + 1))) hx hb hr (fun t ht hW => ⟨⟨(nI (xs9.length + 1)), (k_12, z2, f_11), rfl, (Or.inr ⟨b_1, (by rw [← hk1o]; exact (n300 hIo.1.2.1).2 hca_5), u2, x9 :: xs9, by rw [← eP]; exact hfl, Or.inr ⟨(fun e => by cases e), fill_fin hq1 hEz hI hrp_13 h3m hkp.1 (kp_3 hrp2 hIb hkp) hacF2⟩⟩), by rw [ht]; exact hP, hD⟩, hS.F ht⟩) hS.2.2 dX11_fill_55
  ·
    obtain rfl : r = 0 := b_f hw b_1
    refine lv_if_eq (tgt := 14) hx hb dX11_fill_4 (by decide) (fun c_17 => ?_) (fun c_17 => absurd (by decide) c_17)
    refine lv_iconst (v := (-1)) hx hb dX11_fill_14 (by decide) ?_
    refine W.widen (k := 976) (n := 4880) (Nat.le_of_ble_eq_true rfl) (Nat.le_of_ble_eq_true rfl) ?_
    exact W.iret (v := (-1)) hx hb hr (fun t ht hW => ⟨⟨(-1), (k, z, f), rfl, (Or.inl ⟨Or.inl (bne b_1), rfl, rfl⟩), by rw [ht]; exact hP, hD⟩, hS.F ht⟩) hS.2.2 dX11_fill_15
/-- first printing: a fact written keeps rep -/
theorem rep_first {q d u z f} {i t : Nat} {g : Nat → Int32} (h : rep q d u z f) (hn : bw (u.1 3) 0 80 = true) (hi : i < (u.1 3).toNatClampNeg) (ht : t < 5) (x : Int32) (hg : f (d (4000 + i)) = aI (q 0) 5 g) : rep q d (mst u 47 (nI (5 * i + t)) x) z (va_up f (d (4000 + i)) (aI (q 0) 5 (upd g t x))) := by
  have hi8 := (bw_it hn hi).2
  have hN := w80 hn
  have eA : (nI (5 * i + t)).toNatClampNeg = 5 * i + t := nI_clamp (by omega)
  obtain ⟨n1, n2, n3, hkd, rs, g9, fg, hsl, hps, hpcs, hfs, hfe, hrs⟩ := h.2.2.1.2 i hi
  obtain rfl := (aI_inj (hg.symm.trans hfs)).2
  generalize hw9 : mst u 47 (nI (5 * i + t)) x = w
  have w2 : ∀ r, r ≠ 47 → w.2 r = u.2 r := fun r r1 => by rw [← hw9, mst_other r1]
  have w47 : ∀ j, w.2 47 j = if j = 5 * i + t then x else u.2 47 j := fun j => by rw [← hw9, mst_at, eA]
  have w1 : w.1 = u.1 := by rw [← hw9]; rfl
  have hf : fK d z f (va_up f (d (4000 + i)) (aI (q 0) 5 (upd g t x))) (fun x => x = 4000 + i) := fK_up (fK_rf d z f _) n3 (by decide) rfl
  refine rep_it (i := i) h hf (fun x hx => by omega) hi8 hN (fun j hj hji => ?_) w1 (fun r hr => w2 r (by omega)) ?_
  · exact ⟨fun r r1 r2 _ _ _ _ _ => by rw [w2 r (by omega)], fun r r1 r2 t _ => by rw [w2 r (by omega)], fun t2 ht2 => by rw [w47, if_neg (by omega)], fun t _ => by rw [w2 16 (by omega)], fun t ht => by rw [w2 18 (by omega), w2 19 (by omega)]; exact ⟨rfl, rfl⟩, fun t _ => by rw [w2 21 (by omega)], fun t _ => by rw [w2 48 (by omega)]⟩
  · refine ⟨by rw [w2 4 (by omega)]; exact n1, n2, n3, by rw [w2 4 (by omega)]; exact hkd, rs, g9, _, ?_, ?_, ?_, up_s, ?_, ?_⟩
    · rw [hf.1 _ _ n1 (by omega), w2 4 (by omega), w2 22 (by omega)]; exact hsl
    · rw [hf.2 i n2 (by omega), w2 4 (by omega)]; exact hps
    · intro t2 ht2
      rw [w2 22 (by omega)] at ht2
      obtain ⟨b, b1, b2⟩ := hpcs t2 ht2
      refine ⟨b, b1, ?_⟩
      have hp : ∀ c, c < 5 → pR w i t2 c = pR u i t2 c := fun c hc => by show w.2 (23 + c) _ = u.2 (23 + c) _; rw [w2 (23 + c) (by omega)]
      rw [hp 0 (by omega), hp 1 (by omega), hp 2 (by omega), hp 3 (by omega), hp 4 (by omega)]
      exact b2
    · intro j hj
      rw [w47]
      unfold upd
      by_cases e : j = t
      · rw [if_pos e, if_pos (by omega)]
      · rw [if_neg e, if_neg (by omega)]; exact hfe j hj
    · obtain ⟨k0, k1, k2, k3, k4, k5⟩ := hrs
      unfold rRs
      rw [w2 4 (by omega), w2 5 (by omega), w2 6 (by omega), w2 7 (by omega), w2 8 (by omega), w2 9 (by omega), w2 10 (by omega), w2 11 (by omega), w2 12 (by omega), w2 13 (by omega), w2 14 (by omega), w2 15 (by omega), w2 16 (by omega), w2 17 (by omega), w2 18 (by omega), w2 19 (by omega), w2 21 (by omega), w2 48 (by omega), w1]
      refine ⟨fun e => ?_, k1, fun e => ?_, fun e => ?_, k4, k5⟩
      · obtain ⟨a1, a2, a3, ⟨g1, a4, a5⟩, g3, a6, a7⟩ := k0 e
        exact ⟨a1, a2, a3, ⟨g1, by rw [hf.1 _ _ a2 (by omega)]; exact a4, a5⟩, g3, by rw [hf.1 _ _ a3 (by omega)]; exact a6, a7⟩
      · obtain ⟨a1, a2, a3, ⟨g1, a4, a5⟩, g3, a6, a7⟩ := k2 e
        exact ⟨a1, a2, a3, ⟨g1, by rw [hf.1 _ _ a2 (by omega)]; exact a4, a5⟩, g3, by rw [hf.1 _ _ a3 (by omega)]; exact a6, a7⟩
      · obtain ⟨a1, a2, a3, g1, a4, a5⟩ := k3 e
        exact ⟨a1, a2, a3, g1, by rw [hf.1 _ _ a3 (by omega)]; exact a4, a5⟩
/-- a day on which item i was printed: written where it is a square, else nowhere -/
theorem rep_day {q d u z f f2} {i t : Nat} (h : rep q d u z f) (hn : bw (u.1 3) 0 80 = true) (hi : i < (u.1 3).toNatClampNeg) (ht : t < 400) (hf2 : (¬ u.2 4 i = 3 ∧ f2 = f) ∨ (u.2 4 i = 3 ∧ ∃ g, f (d (6000 + i)) = aI (q 1) 400 g ∧ f2 = va_up f (d (6000 + i)) (aI (q 1) 400 (upd g t (vp_nar .boolean 1))))) : rep q d (mst u 48 (nI (80 * t + i)) (vp_nar .boolean 1)) z f2 := by
  have hi8 := (bw_it hn hi).2
  have hN := w80 hn
  have eA : (nI (80 * t + i)).toNatClampNeg = 80 * t + i := nI_clamp (by omega)
  obtain ⟨n1, n2, n3, hkd, rs, g9, fg, hsl, hps, hpcs, hfs, hfe, hrs⟩ := h.2.2.1.2 i hi
  generalize hw9 : mst u 48 (nI (80 * t + i)) (vp_nar .boolean 1) = w
  have w2 : ∀ r, r ≠ 48 → w.2 r = u.2 r := fun r r1 => by rw [← hw9, mst_other r1]
  have w48 : ∀ j, w.2 48 j = if j = 80 * t + i then vp_nar .boolean 1 else u.2 48 j := fun j => by rw [← hw9, mst_at, eA]
  have w1 : w.1 = u.1 := by rw [← hw9]; rfl
  have hf : fK d z f f2 (fun x => x = 6000 + i) := by
    rcases hf2 with ⟨-, rfl⟩ | ⟨e, g, -, rfl⟩
    · exact fK_rf d z _ _
    · exact fK_up (fK_rf d z f _) (hrs.2.2.2.1 e).2.2.1 (by decide) rfl
  refine rep_it (i := i) h hf (fun x hx => by omega) hi8 hN (fun j hj hji => ?_) w1 (fun r hr => w2 r (by omega)) ?_
  · exact ⟨fun r r1 r2 _ _ _ _ _ => by rw [w2 r (by omega)], fun r r1 r2 t _ => by rw [w2 r (by omega)], fun t2 ht2 => by rw [w2 47 (by omega)], fun t _ => by rw [w2 16 (by omega)], fun t ht => by rw [w2 18 (by omega), w2 19 (by omega)]; exact ⟨rfl, rfl⟩, fun t _ => by rw [w2 21 (by omega)], fun t2 _ => by rw [w48, if_neg (by omega)]⟩
  · refine ⟨by rw [w2 4 (by omega)]; exact n1, n2, n3, by rw [w2 4 (by omega)]; exact hkd, rs, g9, fg, ?_, ?_, ?_, ?_, ?_, ?_⟩
    · rw [hf.1 _ _ n1 (by omega), w2 4 (by omega), w2 22 (by omega)]; exact hsl
    · rw [hf.2 i n2 (by omega), w2 4 (by omega)]; exact hps
    · intro t2 ht2
      rw [w2 22 (by omega)] at ht2
      obtain ⟨b, b1, b2⟩ := hpcs t2 ht2
      refine ⟨b, b1, ?_⟩
      have hp : ∀ c, c < 5 → pR w i t2 c = pR u i t2 c := fun c hc => by show w.2 (23 + c) _ = u.2 (23 + c) _; rw [w2 (23 + c) (by omega)]
      rw [hp 0 (by omega), hp 1 (by omega), hp 2 (by omega), hp 3 (by omega), hp 4 (by omega)]
      exact b2
    · rw [hf.1 _ _ n3 (by omega)]; exact hfs
    · rw [w2 47 (by omega)]; exact hfe
    · obtain ⟨k0, k1, k2, k3, k4, k5⟩ := hrs
      unfold rRs
      rw [w2 4 (by omega), w2 5 (by omega), w2 6 (by omega), w2 7 (by omega), w2 8 (by omega), w2 9 (by omega), w2 10 (by omega), w2 11 (by omega), w2 12 (by omega), w2 13 (by omega), w2 14 (by omega), w2 15 (by omega), w2 16 (by omega), w2 17 (by omega), w2 18 (by omega), w2 19 (by omega), w2 21 (by omega), w1]
      have up : ¬ u.2 4 i = 3 → f2 = f := fun e => by
        rcases hf2 with ⟨-, q⟩ | ⟨e2, -⟩
        · exact q
        · exact absurd e2 e
      refine ⟨fun e => ?_, k1, fun e => ?_, fun e => ?_, k4, k5⟩
      · rw [up (by rw [e]; decide)]; exact k0 e
      · rw [up (by rw [e]; decide)]; exact k2 e
      · obtain ⟨a1, a2, a3, g1, a4, a5⟩ := k3 e
        rcases hf2 with ⟨e2, -⟩ | ⟨-, g, hg, rfl⟩
        · exact absurd e e2
        · obtain rfl := (aI_inj (hg.symm.trans a4)).2
          refine ⟨a1, a2, a3, _, up_s, fun j hj => ?_⟩
          rw [w48]
          unfold upd
          by_cases e9 : j = t
          · rw [if_pos e9, if_pos (by omega)]
          · rw [if_neg e9, if_neg (by omega)]; exact a5 j hj
/-- the five facts, one after the other -/
def wdF (u : mS) (i : Nat) (p s : Int32) : Nat → mS
  | 0 => u
  | t + 1 => mst (wdF u i p s t) 47 (nI (5 * i + t)) (mPF u p s (nI t))
def wdU (u : mS) (i : Nat) (p s : Int32) : mS := mst (if u.2 47 (5 * i) = (-1) then wdF u i p s 5 else u) 48 (nI (80 * (u.1 38).toNatClampNeg + i)) (vp_nar .boolean 1)
theorem wdF_1 (u : mS) (i : Nat) (p s : Int32) : ∀ t, (wdF u i p s t).1 = u.1
  | 0 => rfl
  | t + 1 => wdF_1 u i p s t
theorem wdF_k (u : mS) (i : Nat) (p s : Int32) {r : Nat} (hr : r ≠ 47) : ∀ t, (wdF u i p s t).2 r = u.2 r
  | 0 => rfl
  | t + 1 => by
    show (mst (wdF u i p s t) 47 _ _).2 r = _
    rw [mst_other hr]; exact wdF_k u i p s hr t
theorem mPF_wd (u : mS) (i : Nat) (p s p2 s2 w : Int32) (t : Nat) : mPF (wdF u i p s t) p2 s2 w = mPF u p2 s2 w := by
  unfold mPF
  rw [wdF_k u i p s (by decide) t, wdF_k u i p s (by decide) t]
set_option maxHeartbeats 4000000 in
set_option maxRecDepth 100000 in
theorem y_wdi_l {p : Program} {l : Launch} {e : Env} {R : Room} {s : State} {m : MethodId} {args : Array Value} {below : List Frame} {meth : Method} {c : Code} {Q : State → Prop} {cells slots : Nat} {dC : Nat → ClassId} {dI : Nat → Nat → Nat} {q : Nat → ClassId} {h0 : Nat} {d : Nat → Nat} {k : Nat → Int32} {z : gS} {f0 : xF} {u : mS} (hk0 : k 0 = u.1 3) {i0 : Nat} {p0 p1 : Int32} (hi0 : i0 < (u.1 3).toNatClampNeg) {A : Nat → Prop} {H0 : Heap} (hx : p.tables.exec = Jvm.exec) (hb : c.code = cX11_writeDownItem) (hml : c.maxLocals = 5) (hts : ∀ w ∈ wsX11_writeDownItem, w.before args s = true) (hown : s.vm.findClass RX11 = some m.cls) (hN : NN s) (hXN : XN s) (hK : va_K (dC, dI) vwCl (xT q) s) (hRf : 1 ≤ R.frames) (hRl : 23 ≤ R.locals) (hRc : cells ≤ R.cells) (hRs : slots ≤ R.slots) (hA : ∀ q : Nat, H0.size ≤ q → A q) (kx40 : ∀ (f : xF) (H : Heap) (locs : List Loc) (ls : Array Slot), (rep q d (wdF u i0 p0 p1 5) z f ∧ xPl q d z f p0 ∧ f (d 3) = f0 (d 3)) → xI q h0 d k z f → va_P (dC, dI) vwCl (va_pl z.1 f) H → va_D A (va_pl z.1 f) → va_S A H0 H locs → lv_has ls 5 [(0, .ref h0), (1, .ref (d (2000 + i0))), (2, .int p0), (3, .int p1)] → W p l e R s m args below meth c H locs cells slots Q (F0 m 40 ls [])) : ∀ (kk i : Nat) (f : xF) (H : Heap) (locs : List Loc) (ls : Array Slot), i ≤ 5 → 5 - i < kk → (rep q d (wdF u i0 p0 p1 i) z f ∧ xPl q d z f p0 ∧ f (d 3) = f0 (d 3)) → xI q h0 d k z f → va_P (dC, dI) vwCl (va_pl z.1 f) H → va_D A (va_pl z.1 f) → va_S A H0 H locs → lv_has ls 5 [(4, .int (nI i)), (0, .ref h0), (1, .ref (d (2000 + i0))), (2, .int p0), (3, .int p1)] → W p l e R s m args below meth c H locs cells slots Q (F0 m 13 ls []) := by
  intro kk
  induction kk with
  | zero => intro i f H locs ls h1 h2; exact absurd h2 (Nat.not_lt_zero _)
  | succ kk ih =>
    intro i f H locs ls hi hkk hg hI hP hD hS hl
    obtain ⟨ui, eui⟩ : ∃ y : mS, y = wdF u i0 p0 p1 i := ⟨_, rfl⟩
    have hrpi : rep q d ui z f := by rw [eui]; exact hg.1
    have hii : i0 < (ui.1 3).toNatClampNeg := by rw [eui, wdF_1]; exact hi0
    obtain ⟨rs_1, n_2, g_3, fg_4, hit_5, hs_6, hpa_7, hps_8, h1_9, h6_10, hcb_11, hpl_12, hlg_13, hnn_14, hfa_15, hfs_16, hfe_17, hrs_18, hkt_19⟩ := it_all hI hrpi.2.2.1 hii
    have hnb : bw (ui.1 3) 0 80 = true := by rw [eui, wdF_1, ← hk0]; exact hI.1.1
    refine lv_iload hx hb dX11_writeDownItem_13 (lv_at hl 0 rfl) ?_
    refine lv_iconst (v := 5) hx hb dX11_writeDownItem_15 (by decide) ?_
    refine lv_icmp_ge (tgt := 40) hx hb dX11_writeDownItem_16 (by decide) (fun c_20 => ?_) (fun c_20 => ?_)
    ·
      have hie : i = 5 := lp_eq rfl (by decide) hi c_20
      exact kx40 _ _ _ ls (by rw [hie] at hg; exact hg) hI hP hD hS (lv_sub hl [1, 2, 3, 4] rfl)
    ·
      have hlt : i < 5 := lp_lt rfl (by decide) hi c_20
      refine lv_aload_n hx hb dX11_writeDownItem_19 rfl (lv_at hl 2 rfl) ?_
      obtain ⟨kk_21, hk_22⟩ := pl_at hit_5.1 hs_6
      refine w_then (F0 m 23 ls [.ref (d (4000 + i0))]) (fun hgo => ?_) ?_
      ·
        rcases x_tag hit_5 with ht9 | ht9 | ht9 | ht9 | ht9 | ht9
        ·
          rw [ht9.2] at hk_22
          exact va_get (D := (dC, dI)) (ci := 2) (v := .ref (d (4000 + i0))) (C := RX2) (T := TX2) (N := 7) hx hb hts (by decide +kernel) hown hK hP kk_21 hk_22 rfl 4 (by decide) (hts (.fieldLink RX11 382 "PageOne$Item" "first" "[I") (by decide +kernel)) (fun _ h9 => h9) rfl dX11_writeDownItem_20 hgo
        ·
          rw [ht9.2] at hk_22
          exact va_get (D := (dC, dI)) (ci := 3) (v := .ref (d (4000 + i0))) (C := RX3) (T := TX3) (N := 8) hx hb hts (by decide +kernel) hown hK hP kk_21 hk_22 rfl 4 (by decide) (hts (.fieldLink RX11 382 "PageOne$Item" "first" "[I") (by decide +kernel)) (fun _ h9 => h9) rfl dX11_writeDownItem_20 hgo
        ·
          rw [ht9.2] at hk_22
          exact va_get (D := (dC, dI)) (ci := 4) (v := .ref (d (4000 + i0))) (C := RX5) (T := TX5) (N := 7) hx hb hts (by decide +kernel) hown hK hP kk_21 hk_22 rfl 4 (by decide) (hts (.fieldLink RX11 382 "PageOne$Item" "first" "[I") (by decide +kernel)) (fun _ h9 => h9) rfl dX11_writeDownItem_20 hgo
        ·
          rw [ht9.2] at hk_22
          exact va_get (D := (dC, dI)) (ci := 5) (v := .ref (d (4000 + i0))) (C := RX6) (T := TX6) (N := 9) hx hb hts (by decide +kernel) hown hK hP kk_21 hk_22 rfl 4 (by decide) (hts (.fieldLink RX11 382 "PageOne$Item" "first" "[I") (by decide +kernel)) (fun _ h9 => h9) rfl dX11_writeDownItem_20 hgo
        ·
          rw [ht9.2] at hk_22
          exact va_get (D := (dC, dI)) (ci := 6) (v := .ref (d (4000 + i0))) (C := RX7) (T := TX7) (N := 8) hx hb hts (by decide +kernel) hown hK hP kk_21 hk_22 rfl 4 (by decide) (hts (.fieldLink RX11 382 "PageOne$Item" "first" "[I") (by decide +kernel)) (fun _ h9 => h9) rfl dX11_writeDownItem_20 hgo
        ·
          rw [ht9.2] at hk_22
          exact va_get (D := (dC, dI)) (ci := 9) (v := .ref (d (4000 + i0))) (C := RX10) (T := TX10) (N := 9) hx hb hts (by decide +kernel) hown hK hP kk_21 hk_22 rfl 4 (by decide) (hts (.fieldLink RX11 382 "PageOne$Item" "first" "[I") (by decide +kernel)) (fun _ h9 => h9) rfl dX11_writeDownItem_20 hgo
      ·
        refine lv_iload hx hb dX11_writeDownItem_23 (lv_at hl 0 rfl) ?_
        refine lv_aload_n hx hb dX11_writeDownItem_25 rfl (lv_at hl 1 rfl) ?_
        refine lv_iload_n hx hb dX11_writeDownItem_26 rfl (lv_at hl 3 rfl) ?_
        refine lv_iload_n hx hb dX11_writeDownItem_27 rfl (lv_at hl 4 rfl) ?_
        refine lv_iload hx hb dX11_writeDownItem_28 (lv_at hl 0 rfl) ?_
        obtain ⟨kk_23, hk_24⟩ := pl_at hI.2.1.1.1 hI.2.2.2.1.1
        refine vp_callSi (va_runV (As := [.int p0, .int p1, .int (nI i)]) (rest := [.int (nI i), .ref (d (4000 + i0))]) ⟨hx, hb, hml, hown, hts⟩ (y_plateFact l dC dI q h0 d k z f hI p0 p1 (nI i) hg.2.1 ui hrpi) (cwV 3 hts gX11_writeDownItem_X11_plateFact rfl rfl rfl (by decide +kernel) ⟨Nat.le_trans (Nat.le_of_ble_eq_true rfl) hRf, Nat.le_trans (Nat.le_of_ble_eq_true rfl) hRl⟩) ⟨px_fb, va_recv hK hP (ci := 10) (q0 := kk_23) rfl hk_24, fun U hU hW => ⟨rfl, px_to hU hW hP hK hN hXN⟩⟩ rfl rfl hl.1 rfl (lv_room (Nat.le_of_ble_eq_true rfl)) dX11_writeDownItem_30 ⟨hRc, hRs⟩).run (fun r hw => ?_)
        generalize r = zr_25 at hw ⊢
        have hzr_25 := hw
        obtain ⟨kk_26, hk_27⟩ := pl_at hfa_15.1 hfs_16
        have hD0 := hD
        refine va_iast hx hb hK hP hD hS kk_26 0 hk_27 rfl (vp_in_nI hlt (by decide)) dX11_writeDownItem_33 (fun H locs hP hD hS => ?_)
        rw [pl_set hD0 hfa_15.1 hfs_16 hk_27] at hP hD
        obtain ⟨f_28, ef_28⟩ : ∃ y : xF, y = va_up f (d (4000 + i0)) (aI (q 0) 5 (upd fg_4 ((nI i) : Int32).toNatClampNeg zr_25)) := ⟨_, rfl⟩
        have hI : xI q h0 d k z f_28 := by rw [ef_28]; exact x_up hI hfa_15 (by decide) (cO_17 hfa_15.2 ⟨_, rfl⟩)
        have hP : va_P (dC, dI) vwCl (va_pl z.1 f_28) H := by rw [ef_28]; exact hP
        have hD : va_D A (va_pl z.1 f_28) := by rw [ef_28]; exact hD
        have hg2 : rep q d (wdF u i0 p0 p1 (i + 1)) z f_28 ∧ xPl q d z f_28 p0 ∧ f_28 (d 3) = f0 (d 3) := ⟨by have h9 := rep_first (t := i) hrpi hnb hii hlt (mPF u p0 p1 (nI i)) hfs_16; rw [eui] at h9; show rep q d (mst (wdF u i0 p0 p1 i) 47 (nI (5 * i0 + i)) (mPF u p0 p1 (nI i))) z f_28; rw [ef_28, nI_clamp (by omega), hzr_25, eui, mPF_wd]; exact h9, by rw [ef_28]; exact xPl_up hg.2.1 (tg_ne hI.2.1.2.2.1 hfa_15 (by decide)), by rw [ef_28]; exact (up_o (tg_ne hI.2.1.2.2.2.2.1 hfa_15 (by decide))).trans hg.2.2⟩
        refine lv_iinc (v := (nI (i + 1))) (lv' := [(4, .int (nI (i + 1))), (0, .ref h0), (1, .ref (d (2000 + i0))), (2, .int p0), (3, .int p1)]) hx hb dX11_writeDownItem_34 hl (k := 0) rfl (nI_1 i) (by decide) rfl (fun ls hl => ?_)
        refine lv_goto (tgt := 13) hx hb dX11_writeDownItem_37 (by decide) ?_
        exact ih (i + 1) _ _ _ ls (by omega) (by omega) hg2 hI hP hD hS (lv_sub hl [0, 1, 2, 3, 4] rfl)
set_option maxHeartbeats 4000000 in
set_option maxRecDepth 100000 in
theorem y_writeDownItem (l : Launch) (dC : Nat → ClassId) (dI : Nat → Nat → Nat) (q : Nat → ClassId) (h0 : Nat) (d : Nat → Nat) (k : Nat → Int32) (z : gS) (f : xF) (hI : xI q h0 d k z f) (p0 p1 : Int32) (u : mS) (hrp : rep q d u z f) (hk0 : k 0 = u.1 3) (hk1 : k 1 = u.1 28) (hk2 : k 2 = u.1 38) (hk3 : k 3 = u.1 39) (hpl : xPl q d z f p0) (i0 : Nat) (hi0 : i0 < (u.1 3).toNatClampNeg) (sz : Nat) : Met l yX11_writeDownItem wsX11_writeDownItem ({ frames := 1, cells := 0, slots := 0, locals := 23 }) (va_Pc [.ref h0, .ref (d (2000 + i0)), .int p0, .int p1] (fun U => U.heap.size = sz ∧ PX dC dI (va_pl z.1 f) (xT q) U ∧ va_D (fun _ => True) (va_pl z.1 f))) (va_Qv (fun (w : xU) => w.1 = k ∧ w.2.1 = z ∧ xI q h0 d k z w.2.2 ∧ rep q d (wdU u i0 p0 p1) z w.2.2 ∧ w.2.2 (d 3) = f (d 3)) (fun (w : xU) t => va_P (dC, dI) vwCl (va_pl w.2.1.1 w.2.2) t.heap ∧ va_D (va_A (va_pl z.1 f) sz) (va_pl w.2.1.1 w.2.2)) (va_A (va_pl z.1 f) sz)) 0 0 (va_A (va_pl z.1 f) sz) := by
  refine Met.ofW (cc := cX11_writeDownItem) (maxL := 5) (ret := none) (by decide) rfl ?_
  intro p e s m args below meth c s₁ B hml hv
  obtain ⟨rfl, hsz, ⟨⟨hP, hK, hN⟩, hXN⟩, hD0⟩ := hv
  have hx := B.exec
  have hb := B.bytes
  have hr := B.returns
  have hts := atoms_spec (ws := wsX11_writeDownItem) B.pre
  have hown : s.vm.findClass RX11 = some m.cls := findClass_of_methodNamed B.named
  have hlocks := B.notSynchronized
  subst hsz
  have hD := hD0.self (sz := s.heap.size)
  generalize hAe : va_A (va_pl z.1 f) s.heap.size = A at hD ⊢
  have hA : ∀ q : Nat, s.heap.size ≤ q → A q := fun q h => by rw [← hAe]; exact Or.inr h
  have hS : va_S A s.heap s.heap [] := va_S.rf
  have hl := lv_entry ([.ref h0, .ref (d (2000 + i0)), .int p0, .int p1]) (n := 5) (Nat.le_of_ble_eq_true rfl)
  rw [lg_entry_eq]
  generalize (lg_sl ([.ref h0, .ref (d (2000 + i0)), .int p0, .int p1]) ++ List.replicate (5 - (lg_sl ([.ref h0, .ref (d (2000 + i0)), .int p0, .int p1])).length) Slot.unset).toArray = ls at hl ⊢
  have hl : lv_has ls 5 [(0, .ref h0), (1, .ref (d (2000 + i0))), (2, .int p0), (3, .int p1)] := hl
  obtain ⟨rs_1, n_2, g_3, fg_4, hit_5, hs_6, hpa_7, hps_8, h1_9, h6_10, hcb_11, hpl_12, hlg_13, hnn_14, hfa_15, hfs_16, hfe_17, hrs_18, hkt_19⟩ := it_all hI hrp.2.2.1 hi0
  have hkk0 := hk0
  have hfe0 : fg_4 0 = u.2 47 (5 * i0) := hfe_17 0 (by decide)
  have hnb : bw (u.1 3) 0 80 = true := by rw [← hk0]; exact hI.1.1
  have h3m : f (d 3) = f (d 3) := rfl
  refine lv_aload_n hx hb dX11_writeDownItem_0 rfl (lv_at hl 1 rfl) ?_
  obtain ⟨kk_20, hk_21⟩ := pl_at hit_5.1 hs_6
  refine w_then (F0 m 4 ls [.ref (d (4000 + i0))]) (fun hgo => ?_) ?_
  ·
    rcases x_tag hit_5 with ht9 | ht9 | ht9 | ht9 | ht9 | ht9
    ·
      rw [ht9.2] at hk_21
      exact va_get (D := (dC, dI)) (ci := 2) (v := .ref (d (4000 + i0))) (C := RX2) (T := TX2) (N := 7) hx hb hts (by decide +kernel) hown hK hP kk_20 hk_21 rfl 4 (by decide) (hts (.fieldLink RX11 382 "PageOne$Item" "first" "[I") (by decide +kernel)) (fun _ h9 => h9) rfl dX11_writeDownItem_1 hgo
    ·
      rw [ht9.2] at hk_21
      exact va_get (D := (dC, dI)) (ci := 3) (v := .ref (d (4000 + i0))) (C := RX3) (T := TX3) (N := 8) hx hb hts (by decide +kernel) hown hK hP kk_20 hk_21 rfl 4 (by decide) (hts (.fieldLink RX11 382 "PageOne$Item" "first" "[I") (by decide +kernel)) (fun _ h9 => h9) rfl dX11_writeDownItem_1 hgo
    ·
      rw [ht9.2] at hk_21
      exact va_get (D := (dC, dI)) (ci := 4) (v := .ref (d (4000 + i0))) (C := RX5) (T := TX5) (N := 7) hx hb hts (by decide +kernel) hown hK hP kk_20 hk_21 rfl 4 (by decide) (hts (.fieldLink RX11 382 "PageOne$Item" "first" "[I") (by decide +kernel)) (fun _ h9 => h9) rfl dX11_writeDownItem_1 hgo
    ·
      rw [ht9.2] at hk_21
      exact va_get (D := (dC, dI)) (ci := 5) (v := .ref (d (4000 + i0))) (C := RX6) (T := TX6) (N := 9) hx hb hts (by decide +kernel) hown hK hP kk_20 hk_21 rfl 4 (by decide) (hts (.fieldLink RX11 382 "PageOne$Item" "first" "[I") (by decide +kernel)) (fun _ h9 => h9) rfl dX11_writeDownItem_1 hgo
    ·
      rw [ht9.2] at hk_21
      exact va_get (D := (dC, dI)) (ci := 6) (v := .ref (d (4000 + i0))) (C := RX7) (T := TX7) (N := 8) hx hb hts (by decide +kernel) hown hK hP kk_20 hk_21 rfl 4 (by decide) (hts (.fieldLink RX11 382 "PageOne$Item" "first" "[I") (by decide +kernel)) (fun _ h9 => h9) rfl dX11_writeDownItem_1 hgo
    ·
      rw [ht9.2] at hk_21
      exact va_get (D := (dC, dI)) (ci := 9) (v := .ref (d (4000 + i0))) (C := RX10) (T := TX10) (N := 9) hx hb hts (by decide +kernel) hown hK hP kk_20 hk_21 rfl 4 (by decide) (hts (.fieldLink RX11 382 "PageOne$Item" "first" "[I") (by decide +kernel)) (fun _ h9 => h9) rfl dX11_writeDownItem_1 hgo
  ·
    refine lv_iconst (v := 0) hx hb dX11_writeDownItem_4 (by decide) ?_
    obtain ⟨kk_22, hk_23⟩ := pl_at hfa_15.1 hfs_16
    refine va_iald hx hb hK hP kk_22 0 hk_23 rfl (by unfold vp_in; decide) dX11_writeDownItem_5 ?_
    refine lv_iconst (v := (-1)) hx hb dX11_writeDownItem_6 (by decide) ?_
    refine lv_icmp_ne (tgt := 40) hx hb dX11_writeDownItem_7 (by decide) (fun c_24 => ?_) (fun c_24 => ?_)
    ·
      rcases kd6 (kd_05 hrp.2.2.1 hi0).1 (kd_05 hrp.2.2.1 hi0).2 with hkd | hkd | hkd | hkd | hkd | hkd
      ·
        have ht_25 : tg z (d (2000 + i0)) 15 := ⟨hit_5.1, by rw [hkt_19, hkd]; rfl⟩
        obtain ⟨hx_27, hx_28, hx_29, ⟨hx_30, hx_31, hx_32⟩, hx_33, hx_34, hx_35⟩ := hrs_18.1 hkd
        have hs_26 : f (d (2000 + i0)) = .inr (9, [.int (nI i0), .int (u.2 4 i0), .ref (d (3000 + i0)), .int (u.2 22 i0), .ref (d (4000 + i0)), .int (u.2 5 i0), .ref (d (5000 + i0)), .int (u.2 15 i0), .ref (d (6000 + i0))]) := by rw [hs_6, ht_25.2, hx_27]; rfl
        refine lv_aload_n hx hb dX11_writeDownItem_40 rfl (lv_at hl 1 rfl) ?_
        obtain ⟨kk_36, hk_37⟩ := pl_at ht_25.1 hs_26
        refine va_instNo hx hb hown (hts (.classLink RX11 104 "PageOne$Paid") (by decide +kernel)) hXN.n_X10_X6 (va_recv hK hP (ci := 9) (q0 := kk_36) rfl hk_37) dX11_writeDownItem_41 ?_
        refine lv_if_eq (tgt := 64) hx hb dX11_writeDownItem_44 (by decide) (fun c_38 => ?_) (fun c_38 => absurd (by decide) c_38)
        exact W.vret hx hb hr (fun t ht hW => ⟨⟨(k, z, f), rfl, ⟨rfl, rfl, hI, by rw [show wdU u i0 p0 p1 = mst u 48 (nI (80 * (u.1 38).toNatClampNeg + i0)) (vp_nar .boolean 1) from by unfold wdU; rw [if_neg (fun e9 => c_24 (hfe0.trans e9))]]; exact rep_day hrp (by rw [← hkk0]; exact hI.1.1) hi0 (by have h9 := vTd hI.1.2.2; rw [hk2] at h9; exact vlt h9) (Or.inl ⟨by rw [hkd]; decide, rfl⟩), h3m⟩, by rw [ht]; exact hP, hD⟩, hS.F ht⟩) hS.2.2 dX11_writeDownItem_64
      ·
        have ht_39 : tg z (d (2000 + i0)) 11 := ⟨hit_5.1, by rw [hkt_19, hkd]; rfl⟩
        obtain ⟨o9, hx_41, hx_42, hx_43, hx_44⟩ := hrs_18.2.1 hkd
        have hs_40 : f (d (2000 + i0)) = .inr (3, [.int (nI i0), .int (u.2 4 i0), .ref (d (3000 + i0)), .int (u.2 22 i0), .ref (d (4000 + i0)), .ref (d (2000 + o9)), .int (u.2 7 i0), .int (u.2 8 i0)]) := by rw [hs_6, ht_39.2, hx_44]; rfl
        refine lv_aload_n hx hb dX11_writeDownItem_40 rfl (lv_at hl 1 rfl) ?_
        obtain ⟨kk_50, hk_51⟩ := pl_at ht_39.1 hs_40
        refine va_instNo hx hb hown (hts (.classLink RX11 104 "PageOne$Paid") (by decide +kernel)) hXN.n_X3_X6 (va_recv hK hP (ci := 3) (q0 := kk_50) rfl hk_51) dX11_writeDownItem_41 ?_
        refine lv_if_eq (tgt := 64) hx hb dX11_writeDownItem_44 (by decide) (fun c_52 => ?_) (fun c_52 => absurd (by decide) c_52)
        exact W.vret hx hb hr (fun t ht hW => ⟨⟨(k, z, f), rfl, ⟨rfl, rfl, hI, by rw [show wdU u i0 p0 p1 = mst u 48 (nI (80 * (u.1 38).toNatClampNeg + i0)) (vp_nar .boolean 1) from by unfold wdU; rw [if_neg (fun e9 => c_24 (hfe0.trans e9))]]; exact rep_day hrp (by rw [← hkk0]; exact hI.1.1) hi0 (by have h9 := vTd hI.1.2.2; rw [hk2] at h9; exact vlt h9) (Or.inl ⟨by rw [hkd]; decide, rfl⟩), h3m⟩, by rw [ht]; exact hP, hD⟩, hS.F ht⟩) hS.2.2 dX11_writeDownItem_64
      ·
        have ht_53 : tg z (d (2000 + i0)) 14 := ⟨hit_5.1, by rw [hkt_19, hkd]; rfl⟩
        obtain ⟨hx_55, hx_56, hx_57, ⟨hx_58, hx_59, hx_60⟩, hx_61, hx_62, hx_63⟩ := hrs_18.2.2.1 hkd
        have hs_54 : f (d (2000 + i0)) = .inr (6, [.int (nI i0), .int (u.2 4 i0), .ref (d (3000 + i0)), .int (u.2 22 i0), .ref (d (4000 + i0)), .ref (d (5000 + i0)), .ref (d (6000 + i0)), .int (u.2 17 i0)]) := by rw [hs_6, ht_53.2, hx_55]; rfl
        refine lv_aload_n hx hb dX11_writeDownItem_40 rfl (lv_at hl 1 rfl) ?_
        obtain ⟨kk_64, hk_65⟩ := pl_at ht_53.1 hs_54
        refine va_instNo hx hb hown (hts (.classLink RX11 104 "PageOne$Paid") (by decide +kernel)) hXN.n_X7_X6 (va_recv hK hP (ci := 6) (q0 := kk_64) rfl hk_65) dX11_writeDownItem_41 ?_
        refine lv_if_eq (tgt := 64) hx hb dX11_writeDownItem_44 (by decide) (fun c_66 => ?_) (fun c_66 => absurd (by decide) c_66)
        exact W.vret hx hb hr (fun t ht hW => ⟨⟨(k, z, f), rfl, ⟨rfl, rfl, hI, by rw [show wdU u i0 p0 p1 = mst u 48 (nI (80 * (u.1 38).toNatClampNeg + i0)) (vp_nar .boolean 1) from by unfold wdU; rw [if_neg (fun e9 => c_24 (hfe0.trans e9))]]; exact rep_day hrp (by rw [← hkk0]; exact hI.1.1) hi0 (by have h9 := vTd hI.1.2.2; rw [hk2] at h9; exact vlt h9) (Or.inl ⟨by rw [hkd]; decide, rfl⟩), h3m⟩, by rw [ht]; exact hP, hD⟩, hS.F ht⟩) hS.2.2 dX11_writeDownItem_64
      ·
        have ht_67 : tg z (d (2000 + i0)) 13 := ⟨hit_5.1, by rw [hkt_19, hkd]; rfl⟩
        obtain ⟨hx_69, hx_70, hx_71, hx_72, hx_73, hx_74⟩ := hrs_18.2.2.2.1 hkd
        have hs_68 : f (d (2000 + i0)) = .inr (5, [.int (nI i0), .int (u.2 4 i0), .ref (d (3000 + i0)), .int (u.2 22 i0), .ref (d (4000 + i0)), .int (u.2 10 i0), .int (u.2 14 i0), .ref (d (5000 + i0)), .ref (d (6000 + i0))]) := by rw [hs_6, ht_67.2, hx_69]; rfl
        refine lv_aload_n hx hb dX11_writeDownItem_40 rfl (lv_at hl 1 rfl) ?_
        obtain ⟨kk_78, hk_79⟩ := pl_at ht_67.1 hs_68
        refine va_instS hx hb hown (hts (.classLink RX11 104 "PageOne$Paid") (by decide +kernel)) (hK.1 5 (RX6, TX6, 9) rfl).2 (va_recv hK hP (ci := 5) (q0 := kk_78) rfl hk_79) dX11_writeDownItem_41 ?_
        refine lv_if_eq (tgt := 64) hx hb dX11_writeDownItem_44 (by decide) (fun c_80 => absurd c_80 (by decide)) (fun c_80 => ?_)
        refine lv_aload_n hx hb dX11_writeDownItem_47 rfl (lv_at hl 1 rfl) ?_
        obtain ⟨kk_81, hk_82⟩ := pl_at ht_67.1 hs_68
        refine va_castS hx hb hown (hts (.classLink RX11 104 "PageOne$Paid") (by decide +kernel)) (hK.1 5 (RX6, TX6, 9) rfl).2 (va_recv hK hP (ci := 5) (q0 := kk_81) rfl hk_82) dX11_writeDownItem_48 ?_
        refine lv_astore (lv' := [(4, .ref (d (2000 + i0))), (0, .ref h0), (1, .ref (d (2000 + i0))), (2, .int p0), (3, .int p1)]) hx hb dX11_writeDownItem_51 hl (by decide) rfl (fun ls hl => ?_)
        refine lv_aload hx hb dX11_writeDownItem_53 (lv_at hl 0 rfl) ?_
        obtain ⟨kk_83, hk_84⟩ := pl_at ht_67.1 hs_68
        refine va_get (D := (dC, dI)) (ci := 5) (v := .ref (d (6000 + i0))) (C := RX6) (T := TX6) (N := 9) hx hb hts (by decide +kernel) hown hK hP kk_83 hk_84 rfl 8 (by decide) (hts (.fieldLink RX11 388 "PageOne$Paid" "days" "[Z") (by decide +kernel)) (fun _ h9 => h9) rfl dX11_writeDownItem_55 ?_
        refine lv_aload_n hx hb dX11_writeDownItem_58 rfl (lv_at hl 1 rfl) ?_
        obtain ⟨kk_85, hk_86⟩ := pl_at hI.2.1.1.1 hI.2.2.2.1.1
        refine va_get (D := (dC, dI)) (ci := 10) (v := .int (k 2)) (C := RX11) (T := TX11) (N := 9) hx hb hts (by decide +kernel) hown hK hP kk_85 hk_86 rfl 7 (by decide) (hts (.fieldLink RX11 41 "PageOne" "today" "I") (by decide +kernel)) (fun _ h9 => h9) rfl dX11_writeDownItem_59 ?_
        refine lv_iconst (v := 1) hx hb dX11_writeDownItem_62 (by decide) ?_
        obtain ⟨kk_87, hk_88⟩ := pl_at hx_71.1.1 hx_73
        have hD0 := hD
        refine va_zast hx hb hK hP hD hS kk_87 1 hk_88 rfl (vTd hI.1.2.2) dX11_writeDownItem_63 (fun H locs hP hD hS => ?_)
        rw [pl_set hD0 hx_71.1.1 hx_73 hk_88] at hP hD
        obtain ⟨f_89, ef_89⟩ : ∃ y : xF, y = va_up f (d (6000 + i0)) (aI (q 1) 400 (upd hx_72 ((k 2) : Int32).toNatClampNeg (vp_nar .boolean 1))) := ⟨_, rfl⟩
        have hI : xI q h0 d k z f_89 := by rw [ef_89]; exact x_up hI hx_71.1 (by decide) (cO_21 hx_71.1.2 ⟨_, rfl⟩)
        have hP : va_P (dC, dI) vwCl (va_pl z.1 f_89) H := by rw [ef_89]; exact hP
        have hD : va_D A (va_pl z.1 f_89) := by rw [ef_89]; exact hD
        exact W.vret hx hb hr (fun t ht hW => ⟨⟨(k, z, f_89), rfl, ⟨rfl, rfl, hI, by rw [show wdU u i0 p0 p1 = mst u 48 (nI (80 * (u.1 38).toNatClampNeg + i0)) (vp_nar .boolean 1) from by unfold wdU; rw [if_neg (fun e9 => c_24 (hfe0.trans e9))]]; exact rep_day hrp (by rw [← hkk0]; exact hI.1.1) hi0 (by have h9 := vTd hI.1.2.2; rw [hk2] at h9; exact vlt h9) (Or.inr ⟨hkd, _, hx_73, by rw [ef_89, hk2]⟩), (by show f_89 (d 3) = f (d 3); rw [ef_89]; exact (up_o (tg_ne hI.2.1.2.2.2.2.1 hx_71.1 (by decide))).trans h3m)⟩, by rw [ht]; exact hP, hD⟩, hS.F ht⟩) hS.2.2 dX11_writeDownItem_64
      ·
        have ht_90 : tg z (d (2000 + i0)) 10 := ⟨hit_5.1, by rw [hkt_19, hkd]; rfl⟩
        have hs_91 : f (d (2000 + i0)) = .inr (2, [.int (nI i0), .int (u.2 4 i0), .ref (d (3000 + i0)), .int (u.2 22 i0), .ref (d (4000 + i0)), .int (u.2 5 i0), .int (u.2 6 i0)]) := by rw [hs_6, ht_90.2, hrs_18.2.2.2.2.1 hkd]; rfl
        refine lv_aload_n hx hb dX11_writeDownItem_40 rfl (lv_at hl 1 rfl) ?_
        obtain ⟨kk_101, hk_102⟩ := pl_at ht_90.1 hs_91
        refine va_instNo hx hb hown (hts (.classLink RX11 104 "PageOne$Paid") (by decide +kernel)) hXN.n_X2_X6 (va_recv hK hP (ci := 2) (q0 := kk_101) rfl hk_102) dX11_writeDownItem_41 ?_
        refine lv_if_eq (tgt := 64) hx hb dX11_writeDownItem_44 (by decide) (fun c_103 => ?_) (fun c_103 => absurd (by decide) c_103)
        exact W.vret hx hb hr (fun t ht hW => ⟨⟨(k, z, f), rfl, ⟨rfl, rfl, hI, by rw [show wdU u i0 p0 p1 = mst u 48 (nI (80 * (u.1 38).toNatClampNeg + i0)) (vp_nar .boolean 1) from by unfold wdU; rw [if_neg (fun e9 => c_24 (hfe0.trans e9))]]; exact rep_day hrp (by rw [← hkk0]; exact hI.1.1) hi0 (by have h9 := vTd hI.1.2.2; rw [hk2] at h9; exact vlt h9) (Or.inl ⟨by rw [hkd]; decide, rfl⟩), h3m⟩, by rw [ht]; exact hP, hD⟩, hS.F ht⟩) hS.2.2 dX11_writeDownItem_64
      ·
        have ht_104 : tg z (d (2000 + i0)) 12 := ⟨hit_5.1, by rw [hkt_19, hkd]; rfl⟩
        obtain ⟨o9, hx_106, hx_107, hx_108⟩ := hrs_18.2.2.2.2.2 hkd
        have hs_105 : f (d (2000 + i0)) = .inr (4, [.int (nI i0), .int (u.2 4 i0), .ref (d (3000 + i0)), .int (u.2 22 i0), .ref (d (4000 + i0)), .ref (d (2000 + o9)), .int (u.2 8 i0)]) := by rw [hs_6, ht_104.2, hx_108]; rfl
        refine lv_aload_n hx hb dX11_writeDownItem_40 rfl (lv_at hl 1 rfl) ?_
        obtain ⟨kk_115, hk_116⟩ := pl_at ht_104.1 hs_105
        refine va_instNo hx hb hown (hts (.classLink RX11 104 "PageOne$Paid") (by decide +kernel)) hXN.n_X5_X6 (va_recv hK hP (ci := 4) (q0 := kk_115) rfl hk_116) dX11_writeDownItem_41 ?_
        refine lv_if_eq (tgt := 64) hx hb dX11_writeDownItem_44 (by decide) (fun c_117 => ?_) (fun c_117 => absurd (by decide) c_117)
        exact W.vret hx hb hr (fun t ht hW => ⟨⟨(k, z, f), rfl, ⟨rfl, rfl, hI, by rw [show wdU u i0 p0 p1 = mst u 48 (nI (80 * (u.1 38).toNatClampNeg + i0)) (vp_nar .boolean 1) from by unfold wdU; rw [if_neg (fun e9 => c_24 (hfe0.trans e9))]]; exact rep_day hrp (by rw [← hkk0]; exact hI.1.1) hi0 (by have h9 := vTd hI.1.2.2; rw [hk2] at h9; exact vlt h9) (Or.inl ⟨by rw [hkd]; decide, rfl⟩), h3m⟩, by rw [ht]; exact hP, hD⟩, hS.F ht⟩) hS.2.2 dX11_writeDownItem_64
    ·
      refine lv_iconst (v := 0) hx hb dX11_writeDownItem_10 (by decide) ?_
      refine lv_istore (lv' := [(4, .int 0), (0, .ref h0), (1, .ref (d (2000 + i0))), (2, .int p0), (3, .int p1)]) hx hb dX11_writeDownItem_11 hl (by decide) rfl (fun ls hl => ?_)
      refine y_wdi_l (f0 := f) (u := u) hk0 hi0 hx hb hml hts hown hN hXN hK (Nat.le_of_ble_eq_true rfl) (Nat.le_of_ble_eq_true rfl) (Nat.le_of_ble_eq_true rfl) (Nat.le_of_ble_eq_true rfl) hA (fun f2 H locs ls hg hI hP hD hS hl => ?_) 6 0 _ _ _ ls (by decide) (by decide) ⟨hrp, hpl, rfl⟩ hI hP hD hS (lv_sub hl [0, 1, 2, 3, 4] rfl)
      obtain ⟨u5, eu5⟩ : ∃ y : mS, y = wdF u i0 p0 p1 5 := ⟨_, rfl⟩
      have hrp5 : rep q d u5 z f2 := by rw [eu5]; exact hg.1
      have hi5 : i0 < (u5.1 3).toNatClampNeg := by rw [eu5, wdF_1]; exact hi0
      have h3m := hg.2.2
      obtain ⟨rs_118, n_119, g_120, fg_121, hit_122, hs_123, hpa_124, hps_125, h1_126, h6_127, hcb_128, hpl_129, hlg_130, hnn_131, hfa_132, hfs_133, hfe_134, hrs_135, hkt_136⟩ := it_all hI hrp5.2.2.1 hi5
      rcases kd6 (kd_05 hrp5.2.2.1 hi5).1 (kd_05 hrp5.2.2.1 hi5).2 with hkd | hkd | hkd | hkd | hkd | hkd
      ·
        have ht_137 : tg z (d (2000 + i0)) 15 := ⟨hit_122.1, by rw [hkt_136, hkd]; rfl⟩
        obtain ⟨hx_139, hx_140, hx_141, ⟨hx_142, hx_143, hx_144⟩, hx_145, hx_146, hx_147⟩ := hrs_135.1 hkd
        have hs_138 : f2 (d (2000 + i0)) = .inr (9, [.int (nI i0), .int (u5.2 4 i0), .ref (d (3000 + i0)), .int (u5.2 22 i0), .ref (d (4000 + i0)), .int (u5.2 5 i0), .ref (d (5000 + i0)), .int (u5.2 15 i0), .ref (d (6000 + i0))]) := by rw [hs_123, ht_137.2, hx_139]; rfl
        refine lv_aload_n hx hb dX11_writeDownItem_40 rfl (lv_at hl 1 rfl) ?_
        obtain ⟨kk_148, hk_149⟩ := pl_at ht_137.1 hs_138
        refine va_instNo hx hb hown (hts (.classLink RX11 104 "PageOne$Paid") (by decide +kernel)) hXN.n_X10_X6 (va_recv hK hP (ci := 9) (q0 := kk_148) rfl hk_149) dX11_writeDownItem_41 ?_
        refine lv_if_eq (tgt := 64) hx hb dX11_writeDownItem_44 (by decide) (fun c_150 => ?_) (fun c_150 => absurd (by decide) c_150)
        exact W.vret hx hb hr (fun t ht hW => ⟨⟨(k, z, f2), rfl, ⟨rfl, rfl, hI, by rw [show wdU u i0 p0 p1 = mst u5 48 (nI (80 * (u5.1 38).toNatClampNeg + i0)) (vp_nar .boolean 1) from by unfold wdU; rw [if_pos (hfe0.symm.trans c_24), eu5, wdF_1]]; exact rep_day hrp5 (by rw [eu5, wdF_1, ← hkk0]; exact hI.1.1) hi5 (by have h9 := vTd hI.1.2.2; rw [hk2, show u.1 38 = u5.1 38 from by rw [eu5, wdF_1]] at h9; exact vlt h9) (Or.inl ⟨by rw [hkd]; decide, rfl⟩), h3m⟩, by rw [ht]; exact hP, hD⟩, hS.F ht⟩) hS.2.2 dX11_writeDownItem_64
      ·
        have ht_151 : tg z (d (2000 + i0)) 11 := ⟨hit_122.1, by rw [hkt_136, hkd]; rfl⟩
        obtain ⟨o9, hx_153, hx_154, hx_155, hx_156⟩ := hrs_135.2.1 hkd
        have hs_152 : f2 (d (2000 + i0)) = .inr (3, [.int (nI i0), .int (u5.2 4 i0), .ref (d (3000 + i0)), .int (u5.2 22 i0), .ref (d (4000 + i0)), .ref (d (2000 + o9)), .int (u5.2 7 i0), .int (u5.2 8 i0)]) := by rw [hs_123, ht_151.2, hx_156]; rfl
        refine lv_aload_n hx hb dX11_writeDownItem_40 rfl (lv_at hl 1 rfl) ?_
        obtain ⟨kk_162, hk_163⟩ := pl_at ht_151.1 hs_152
        refine va_instNo hx hb hown (hts (.classLink RX11 104 "PageOne$Paid") (by decide +kernel)) hXN.n_X3_X6 (va_recv hK hP (ci := 3) (q0 := kk_162) rfl hk_163) dX11_writeDownItem_41 ?_
        refine lv_if_eq (tgt := 64) hx hb dX11_writeDownItem_44 (by decide) (fun c_164 => ?_) (fun c_164 => absurd (by decide) c_164)
        exact W.vret hx hb hr (fun t ht hW => ⟨⟨(k, z, f2), rfl, ⟨rfl, rfl, hI, by rw [show wdU u i0 p0 p1 = mst u5 48 (nI (80 * (u5.1 38).toNatClampNeg + i0)) (vp_nar .boolean 1) from by unfold wdU; rw [if_pos (hfe0.symm.trans c_24), eu5, wdF_1]]; exact rep_day hrp5 (by rw [eu5, wdF_1, ← hkk0]; exact hI.1.1) hi5 (by have h9 := vTd hI.1.2.2; rw [hk2, show u.1 38 = u5.1 38 from by rw [eu5, wdF_1]] at h9; exact vlt h9) (Or.inl ⟨by rw [hkd]; decide, rfl⟩), h3m⟩, by rw [ht]; exact hP, hD⟩, hS.F ht⟩) hS.2.2 dX11_writeDownItem_64
      ·
        have ht_165 : tg z (d (2000 + i0)) 14 := ⟨hit_122.1, by rw [hkt_136, hkd]; rfl⟩
        obtain ⟨hx_167, hx_168, hx_169, ⟨hx_170, hx_171, hx_172⟩, hx_173, hx_174, hx_175⟩ := hrs_135.2.2.1 hkd
        have hs_166 : f2 (d (2000 + i0)) = .inr (6, [.int (nI i0), .int (u5.2 4 i0), .ref (d (3000 + i0)), .int (u5.2 22 i0), .ref (d (4000 + i0)), .ref (d (5000 + i0)), .ref (d (6000 + i0)), .int (u5.2 17 i0)]) := by rw [hs_123, ht_165.2, hx_167]; rfl
        refine lv_aload_n hx hb dX11_writeDownItem_40 rfl (lv_at hl 1 rfl) ?_
        obtain ⟨kk_176, hk_177⟩ := pl_at ht_165.1 hs_166
        refine va_instNo hx hb hown (hts (.classLink RX11 104 "PageOne$Paid") (by decide +kernel)) hXN.n_X7_X6 (va_recv hK hP (ci := 6) (q0 := kk_176) rfl hk_177) dX11_writeDownItem_41 ?_
        refine lv_if_eq (tgt := 64) hx hb dX11_writeDownItem_44 (by decide) (fun c_178 => ?_) (fun c_178 => absurd (by decide) c_178)
        exact W.vret hx hb hr (fun t ht hW => ⟨⟨(k, z, f2), rfl, ⟨rfl, rfl, hI, by rw [show wdU u i0 p0 p1 = mst u5 48 (nI (80 * (u5.1 38).toNatClampNeg + i0)) (vp_nar .boolean 1) from by unfold wdU; rw [if_pos (hfe0.symm.trans c_24), eu5, wdF_1]]; exact rep_day hrp5 (by rw [eu5, wdF_1, ← hkk0]; exact hI.1.1) hi5 (by have h9 := vTd hI.1.2.2; rw [hk2, show u.1 38 = u5.1 38 from by rw [eu5, wdF_1]] at h9; exact vlt h9) (Or.inl ⟨by rw [hkd]; decide, rfl⟩), h3m⟩, by rw [ht]; exact hP, hD⟩, hS.F ht⟩) hS.2.2 dX11_writeDownItem_64
      ·
        have ht_179 : tg z (d (2000 + i0)) 13 := ⟨hit_122.1, by rw [hkt_136, hkd]; rfl⟩
        obtain ⟨hx_181, hx_182, hx_183, hx_184, hx_185, hx_186⟩ := hrs_135.2.2.2.1 hkd
        have hs_180 : f2 (d (2000 + i0)) = .inr (5, [.int (nI i0), .int (u5.2 4 i0), .ref (d (3000 + i0)), .int (u5.2 22 i0), .ref (d (4000 + i0)), .int (u5.2 10 i0), .int (u5.2 14 i0), .ref (d (5000 + i0)), .ref (d (6000 + i0))]) := by rw [hs_123, ht_179.2, hx_181]; rfl
        refine lv_aload_n hx hb dX11_writeDownItem_40 rfl (lv_at hl 1 rfl) ?_
        obtain ⟨kk_190, hk_191⟩ := pl_at ht_179.1 hs_180
        refine va_instS hx hb hown (hts (.classLink RX11 104 "PageOne$Paid") (by decide +kernel)) (hK.1 5 (RX6, TX6, 9) rfl).2 (va_recv hK hP (ci := 5) (q0 := kk_190) rfl hk_191) dX11_writeDownItem_41 ?_
        refine lv_if_eq (tgt := 64) hx hb dX11_writeDownItem_44 (by decide) (fun c_192 => absurd c_192 (by decide)) (fun c_192 => ?_)
        refine lv_aload_n hx hb dX11_writeDownItem_47 rfl (lv_at hl 1 rfl) ?_
        obtain ⟨kk_193, hk_194⟩ := pl_at ht_179.1 hs_180
        refine va_castS hx hb hown (hts (.classLink RX11 104 "PageOne$Paid") (by decide +kernel)) (hK.1 5 (RX6, TX6, 9) rfl).2 (va_recv hK hP (ci := 5) (q0 := kk_193) rfl hk_194) dX11_writeDownItem_48 ?_
        refine lv_astore (lv' := [(4, .ref (d (2000 + i0))), (0, .ref h0), (1, .ref (d (2000 + i0))), (2, .int p0), (3, .int p1)]) hx hb dX11_writeDownItem_51 hl (by decide) rfl (fun ls hl => ?_)
        refine lv_aload hx hb dX11_writeDownItem_53 (lv_at hl 0 rfl) ?_
        obtain ⟨kk_195, hk_196⟩ := pl_at ht_179.1 hs_180
        refine va_get (D := (dC, dI)) (ci := 5) (v := .ref (d (6000 + i0))) (C := RX6) (T := TX6) (N := 9) hx hb hts (by decide +kernel) hown hK hP kk_195 hk_196 rfl 8 (by decide) (hts (.fieldLink RX11 388 "PageOne$Paid" "days" "[Z") (by decide +kernel)) (fun _ h9 => h9) rfl dX11_writeDownItem_55 ?_
        refine lv_aload_n hx hb dX11_writeDownItem_58 rfl (lv_at hl 1 rfl) ?_
        obtain ⟨kk_197, hk_198⟩ := pl_at hI.2.1.1.1 hI.2.2.2.1.1
        refine va_get (D := (dC, dI)) (ci := 10) (v := .int (k 2)) (C := RX11) (T := TX11) (N := 9) hx hb hts (by decide +kernel) hown hK hP kk_197 hk_198 rfl 7 (by decide) (hts (.fieldLink RX11 41 "PageOne" "today" "I") (by decide +kernel)) (fun _ h9 => h9) rfl dX11_writeDownItem_59 ?_
        refine lv_iconst (v := 1) hx hb dX11_writeDownItem_62 (by decide) ?_
        obtain ⟨kk_199, hk_200⟩ := pl_at hx_183.1.1 hx_185
        have hD0 := hD
        refine va_zast hx hb hK hP hD hS kk_199 1 hk_200 rfl (vTd hI.1.2.2) dX11_writeDownItem_63 (fun H locs hP hD hS => ?_)
        rw [pl_set hD0 hx_183.1.1 hx_185 hk_200] at hP hD
        obtain ⟨f_201, ef_201⟩ : ∃ y : xF, y = va_up f2 (d (6000 + i0)) (aI (q 1) 400 (upd hx_184 ((k 2) : Int32).toNatClampNeg (vp_nar .boolean 1))) := ⟨_, rfl⟩
        have hI : xI q h0 d k z f_201 := by rw [ef_201]; exact x_up hI hx_183.1 (by decide) (cO_21 hx_183.1.2 ⟨_, rfl⟩)
        have hP : va_P (dC, dI) vwCl (va_pl z.1 f_201) H := by rw [ef_201]; exact hP
        have hD : va_D A (va_pl z.1 f_201) := by rw [ef_201]; exact hD
        exact W.vret hx hb hr (fun t ht hW => ⟨⟨(k, z, f_201), rfl, ⟨rfl, rfl, hI, by rw [show wdU u i0 p0 p1 = mst u5 48 (nI (80 * (u5.1 38).toNatClampNeg + i0)) (vp_nar .boolean 1) from by unfold wdU; rw [if_pos (hfe0.symm.trans c_24), eu5, wdF_1]]; exact rep_day hrp5 (by rw [eu5, wdF_1, ← hkk0]; exact hI.1.1) hi5 (by have h9 := vTd hI.1.2.2; rw [hk2, show u.1 38 = u5.1 38 from by rw [eu5, wdF_1]] at h9; exact vlt h9) (Or.inr ⟨hkd, _, hx_185, by rw [ef_201, hk2, show u.1 38 = u5.1 38 from by rw [eu5, wdF_1]]⟩), (by show f_201 (d 3) = f (d 3); rw [ef_201]; exact (up_o (tg_ne hI.2.1.2.2.2.2.1 hx_183.1 (by decide))).trans h3m)⟩, by rw [ht]; exact hP, hD⟩, hS.F ht⟩) hS.2.2 dX11_writeDownItem_64
      ·
        have ht_202 : tg z (d (2000 + i0)) 10 := ⟨hit_122.1, by rw [hkt_136, hkd]; rfl⟩
        have hs_203 : f2 (d (2000 + i0)) = .inr (2, [.int (nI i0), .int (u5.2 4 i0), .ref (d (3000 + i0)), .int (u5.2 22 i0), .ref (d (4000 + i0)), .int (u5.2 5 i0), .int (u5.2 6 i0)]) := by rw [hs_123, ht_202.2, hrs_135.2.2.2.2.1 hkd]; rfl
        refine lv_aload_n hx hb dX11_writeDownItem_40 rfl (lv_at hl 1 rfl) ?_
        obtain ⟨kk_213, hk_214⟩ := pl_at ht_202.1 hs_203
        refine va_instNo hx hb hown (hts (.classLink RX11 104 "PageOne$Paid") (by decide +kernel)) hXN.n_X2_X6 (va_recv hK hP (ci := 2) (q0 := kk_213) rfl hk_214) dX11_writeDownItem_41 ?_
        refine lv_if_eq (tgt := 64) hx hb dX11_writeDownItem_44 (by decide) (fun c_215 => ?_) (fun c_215 => absurd (by decide) c_215)
        exact W.vret hx hb hr (fun t ht hW => ⟨⟨(k, z, f2), rfl, ⟨rfl, rfl, hI, by rw [show wdU u i0 p0 p1 = mst u5 48 (nI (80 * (u5.1 38).toNatClampNeg + i0)) (vp_nar .boolean 1) from by unfold wdU; rw [if_pos (hfe0.symm.trans c_24), eu5, wdF_1]]; exact rep_day hrp5 (by rw [eu5, wdF_1, ← hkk0]; exact hI.1.1) hi5 (by have h9 := vTd hI.1.2.2; rw [hk2, show u.1 38 = u5.1 38 from by rw [eu5, wdF_1]] at h9; exact vlt h9) (Or.inl ⟨by rw [hkd]; decide, rfl⟩), h3m⟩, by rw [ht]; exact hP, hD⟩, hS.F ht⟩) hS.2.2 dX11_writeDownItem_64
      ·
        have ht_216 : tg z (d (2000 + i0)) 12 := ⟨hit_122.1, by rw [hkt_136, hkd]; rfl⟩
        obtain ⟨o9, hx_218, hx_219, hx_220⟩ := hrs_135.2.2.2.2.2 hkd
        have hs_217 : f2 (d (2000 + i0)) = .inr (4, [.int (nI i0), .int (u5.2 4 i0), .ref (d (3000 + i0)), .int (u5.2 22 i0), .ref (d (4000 + i0)), .ref (d (2000 + o9)), .int (u5.2 8 i0)]) := by rw [hs_123, ht_216.2, hx_220]; rfl
        refine lv_aload_n hx hb dX11_writeDownItem_40 rfl (lv_at hl 1 rfl) ?_
        obtain ⟨kk_227, hk_228⟩ := pl_at ht_216.1 hs_217
        refine va_instNo hx hb hown (hts (.classLink RX11 104 "PageOne$Paid") (by decide +kernel)) hXN.n_X5_X6 (va_recv hK hP (ci := 4) (q0 := kk_227) rfl hk_228) dX11_writeDownItem_41 ?_
        refine lv_if_eq (tgt := 64) hx hb dX11_writeDownItem_44 (by decide) (fun c_229 => ?_) (fun c_229 => absurd (by decide) c_229)
        exact W.vret hx hb hr (fun t ht hW => ⟨⟨(k, z, f2), rfl, ⟨rfl, rfl, hI, by rw [show wdU u i0 p0 p1 = mst u5 48 (nI (80 * (u5.1 38).toNatClampNeg + i0)) (vp_nar .boolean 1) from by unfold wdU; rw [if_pos (hfe0.symm.trans c_24), eu5, wdF_1]]; exact rep_day hrp5 (by rw [eu5, wdF_1, ← hkk0]; exact hI.1.1) hi5 (by have h9 := vTd hI.1.2.2; rw [hk2, show u.1 38 = u5.1 38 from by rw [eu5, wdF_1]] at h9; exact vlt h9) (Or.inl ⟨by rw [hkd]; decide, rfl⟩), h3m⟩, by rw [ht]; exact hP, hD⟩, hS.F ht⟩) hS.2.2 dX11_writeDownItem_64
