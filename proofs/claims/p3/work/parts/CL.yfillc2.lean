/-- what fillColumn leaves -/
def fcP (q : Nat → ClassId) (h0 : Nat) (d : Nat → Nat) (k : Nat → Int32) (z : gS) (f : xF) (u : mS) (xs : List fX) (P c L : Nat) (r : Option Nat) (w : xU) : Prop := ∃ u' xs' r9, fcN u xs P c (L + 1) = (u', xs', r9) ∧ w.1 = k ∧ zE z w.2.1 ∧ xI q h0 d k w.2.1 w.2.2 ∧ rep q d u' w.2.1 w.2.2 ∧ neI u' ∧ u'.2 0 = u.2 0 ∧ (k 0 = u'.1 3 ∧ k 1 = u'.1 28 ∧ k 2 = u'.1 38 ∧ k 3 = u'.1 39) ∧ acF w.2.1 d r xs' ∧ w.2.2 (d 3) = f (d 3)
/-- a page's columns, one after the other -/
noncomputable def flN (u : mS) (P : Nat) : Nat → mS × List fX
  | 0 => (u, [])
  | c + 1 => ((fcN (flN u P c).1 (flN u P c).2 P c (((flN u P c).1.2 0 (8 * P + c)).toNatClampNeg + 1)).1, (fcN (flN u P c).1 (flN u P c).2 P c (((flN u P c).1.2 0 (8 * P + c)).toNatClampNeg + 1)).2.1)
theorem flN_s {u u1 u2 : mS} {P c r9 L : Nat} {xs xs2 : List fX} (h : flN u P c = (u1, xs)) (h2 : fcN u1 xs P c (L + 1) = (u2, xs2, r9)) (hL : u1.2 0 (8 * P + c) = nI L) (h60 : L ≤ 60) : flN u P (c + 1) = (u2, xs2) := by
  show ((fcN (flN u P c).1 (flN u P c).2 P c (((flN u P c).1.2 0 (8 * P + c)).toNatClampNeg + 1)).1, (fcN (flN u P c).1 (flN u P c).2 P c (((flN u P c).1.2 0 (8 * P + c)).toNatClampNeg + 1)).2.1) = _
  rw [h]
  show ((fcN u1 xs P c ((u1.2 0 (8 * P + c)).toNatClampNeg + 1)).1, (fcN u1 xs P c ((u1.2 0 (8 * P + c)).toNatClampNeg + 1)).2.1) = _
  rw [hL, nI_clamp (by omega), h2]
theorem ln_L {q h0 d k z f u} (hI : xI q h0 d k z f) (h : rep q d u z f) {P c : Nat} (hP : P < 12) (hc : c < 8) : ∃ L, u.2 0 (8 * P + c) = nI L ∧ L ≤ 60 := by
  obtain ⟨dd, ii, gl, gc, -, -, -, -, -, hgb, -, el, -⟩ := pg_all hI h.1 hP
  obtain ⟨l1, l2, l3⟩ := nI_of_bw (hgb c hc)
  have e60 : (60 : Int32).toInt = 60 := rfl
  rw [el c hc] at l1 l2 l3
  exact ⟨_, l1, by omega⟩
set_option maxHeartbeats 4000000 in
set_option maxRecDepth 100000 in
theorem y_fillColN (l : Launch) (dC : Nat → ClassId) (dI : Nat → Nat → Nat) (q : Nat → ClassId) (h0 : Nat) (d : Nat → Nat) (k : Nat → Int32) (z : gS) (f : xF) (hI : xI q h0 d k z f) (P c9 L9 : Nat) (hP9 : P < 12) (hc8 : c9 < 8) (u : mS) (hrp : rep q d u z f) (hk0 : k 0 = u.1 3) (hk1 : k 1 = u.1 28) (hk2 : k 2 = u.1 38) (hk3 : k 3 = u.1 39) (eL : u.2 0 (8 * P + c9) = nI L9) (hL60 : L9 ≤ 60) (hne : neI u) (xs : List fX) (hacF : acF z d none xs) (sz : Nat) : Met l yX11_fillColumn wsX11_fillColumn ({ frames := 5, cells := 122, slots := 610, locals := 109 }) (va_Pc [.ref h0, .int (nI P), .int (nI c9), .null] (fun U => U.heap.size = sz ∧ PX dC dI (va_pl z.1 f) (xT q) U ∧ va_D (fun _ => True) (va_pl z.1 f))) (va_Qq (fun (r : Option Nat) (w : xU) => fcP q h0 d k z f u xs P c9 L9 r w) (fun (w : xU) t => va_P (dC, dI) vwCl (va_pl w.2.1.1 w.2.2) t.heap ∧ va_D (va_A (va_pl z.1 f) sz) (va_pl w.2.1.1 w.2.2)) (va_A (va_pl z.1 f) sz)) 122 610 (va_A (va_pl z.1 f) sz) := by
  refine Met.ofW (cc := cX11_fillColumn) (maxL := 10) (ret := (some (.object "PageOne$Act"))) (by decide) rfl ?_
  intro p e s m args below meth c s₁ B hml hv
  obtain ⟨rfl, hsz, ⟨⟨hP, hK, hN⟩, hXN⟩, hD0⟩ := hv
  have hx := B.exec
  have hb := B.bytes
  have hr := B.returns
  have hts := atoms_spec (ws := wsX11_fillColumn) B.pre
  have hown : s.vm.findClass RX11 = some m.cls := findClass_of_methodNamed B.named
  have hlocks := B.notSynchronized
  subst hsz
  have hD := hD0.self (sz := s.heap.size)
  generalize hAe : va_A (va_pl z.1 f) s.heap.size = A at hD ⊢
  have hA : ∀ q : Nat, s.heap.size ≤ q → A q := fun q h => by rw [← hAe]; exact Or.inr h
  have hS : va_S A s.heap s.heap [] := va_S.rf
  have hl := lv_entry ([.ref h0, .int (nI P), .int (nI c9), .null]) (n := 10) (Nat.le_of_ble_eq_true rfl)
  rw [lg_entry_eq]
  generalize (lg_sl ([.ref h0, .int (nI P), .int (nI c9), .null]) ++ List.replicate (10 - (lg_sl ([.ref h0, .int (nI P), .int (nI c9), .null])).length) Slot.unset).toArray = ls at hl ⊢
  have hl : lv_has ls 10 [(0, .ref h0), (1, .int (nI P)), (2, .int (nI c9)), (3, .null)] := hl
  refine lv_aload_n hx hb dX11_fillColumn_0 rfl (lv_at hl 0 rfl) ?_
  obtain ⟨kk_1, hk_2⟩ := pl_at hI.2.1.1.1 hI.2.2.2.1.1
  refine va_get (D := (dC, dI)) (ci := 10) (v := .ref (d 0)) (C := RX11) (T := TX11) (N := 9) hx hb hts (by decide +kernel) hown hK hP kk_1 hk_2 rfl 0 (by decide) (hts (.fieldLink RX11 11 "PageOne" "pages" "[LPageOne$Sheet;") (by decide +kernel)) (fun _ h9 => h9) rfl dX11_fillColumn_1 ?_
  refine lv_iload_n hx hb dX11_fillColumn_4 rfl (lv_at hl 1 rfl) ?_
  obtain ⟨g_3, hs_4, hg_5⟩ := x_pg hI hI.2.1.2.1
  obtain ⟨kk_6, hk_7⟩ := pl_at hI.2.1.2.1.1 hs_4
  refine va_aldq hx hb hK hP kk_6 2 hk_7 rfl (vp_in_nI hP9 (by decide)) dX11_fillColumn_5 ?_
  obtain ⟨b_8, hg_9, ht_10⟩ := hg_5 _ (vlt (vp_in_nI hP9 (by decide)))
  rw [hg_9]
  refine W.eq (g2 := F0 m 6 ls [.ref b_8]) rfl ?_
  have hb_11 := pg_at hrp.1 hs_4 hP9 (by rw [nI_clamp (by omega)] at hg_9; exact hg_9)
  subst hb_11
  obtain ⟨dd_12, ii_13, gl_14, gc_15, ht_16, ht_17, ht_18, hs_19, hg_20, hgb_21, hc_22, el_23, ec_24⟩ := pg_all hI hrp.1 hP9
  refine lv_astore (lv' := [(4, .ref (d (10 + P))), (0, .ref h0), (1, .int (nI P)), (2, .int (nI c9)), (3, .null)]) hx hb dX11_fillColumn_6 hl (by decide) rfl (fun ls hl => ?_)
  refine lv_aload_nN hx hb dX11_fillColumn_8 rfl (lv_at hl 4 rfl) ?_
  refine lv_astoreN (lv' := [(5, .null), (4, .ref (d (10 + P))), (0, .ref h0), (1, .int (nI P)), (2, .int (nI c9)), (3, .null)]) hx hb dX11_fillColumn_9 hl (by decide) rfl (fun ls hl => ?_)
  refine lv_iconst (v := 0) hx hb dX11_fillColumn_11 (by decide) ?_
  refine lv_istore (lv' := [(6, .int 0), (5, .null), (4, .ref (d (10 + P))), (0, .ref h0), (1, .int (nI P)), (2, .int (nI c9)), (3, .null)]) hx hb dX11_fillColumn_12 hl (by decide) rfl (fun ls hl => ?_)
  refine lv_iconst (v := 0) hx hb dX11_fillColumn_14 (by decide) ?_
  refine lv_istore (lv' := [(7, .int 0), (6, .int 0), (5, .null), (4, .ref (d (10 + P))), (0, .ref h0), (1, .int (nI P)), (2, .int (nI c9)), (3, .null)]) hx hb dX11_fillColumn_15 hl (by decide) rfl (fun ls hl => ?_)
  refine y_fc_l (cells := 0) (slots := 0) (z0 := z) (f0 := f) (u0 := u) (xs0 := xs) (P := P) (c9 := c9) (L9 := L9) hP9 hc8 eL hL60 hx hb hml hts hown hN hXN hK (Nat.le_of_ble_eq_true rfl) (Nat.le_of_ble_eq_true rfl) (Nat.le_of_ble_eq_true rfl) (Nat.le_of_ble_eq_true rfl) hA (fun z2 f2 H locs r u2 xs2 r9 ls hfN hrp2 hne2 hu2 hk0 hk1 hk2 hk3 hacF2 h3m hE2 hI hP hD hS hl => ?_) 62 0 z f _ _ none 0 u xs ls (Nat.zero_le _) (by decide) (Nat.le_refl _) rfl (fun b hb => absurd hb (Nat.not_lt_zero _)) hrp hne rfl hk0 hk1 hk2 hk3 hacF rfl (zE_rf z) hI hP hD hS (lv_sub hl [0, 1, 2, 3, 4, 5, 6] rfl)
  rcases r with _ | b8
  all_goals refine W.widen (k := 122) (n := 610) (Nat.le_of_ble_eq_true rfl) (Nat.le_of_ble_eq_true rfl) ?_
  ·
    have hl : lv_has ls 10 [(5, .null)] := hl
    refine lv_aloadN hx hb dX11_fillColumn_120 (lv_at hl 0 rfl) ?_
    exact W.aret (v := .null) hx hb hr (Or.inl ⟨_, rfl⟩) (Or.inl rfl) (fun t ht hW => ⟨⟨none, (k, z2, f2), rfl, ⟨u2, xs2, r9, hfN, rfl, hE2, hI, hrp2, hne2, hu2, ⟨hk0, hk1, hk2, hk3⟩, hacF2, h3m⟩, by rw [ht]; exact hP, hD⟩, hS.F ht⟩) hS.2.2 dX11_fillColumn_122
  ·
    have hl : lv_has ls 10 [(5, .ref b8)] := hl
    refine lv_aload hx hb dX11_fillColumn_120 (lv_at hl 0 rfl) ?_
    exact W.aret (v := .ref b8) hx hb hr (Or.inl ⟨_, rfl⟩) (Or.inr ⟨_, rfl⟩) (fun t ht hW => ⟨⟨(some b8), (k, z2, f2), rfl, ⟨u2, xs2, r9, hfN, rfl, hE2, hI, hrp2, hne2, hu2, ⟨hk0, hk1, hk2, hk3⟩, hacF2, h3m⟩, by rw [ht]; exact hP, hD⟩, hS.F ht⟩) hS.2.2 dX11_fillColumn_122
set_option maxHeartbeats 4000000 in
set_option maxRecDepth 100000 in
theorem y_fillColS (l : Launch) (dC : Nat → ClassId) (dI : Nat → Nat → Nat) (q : Nat → ClassId) (h0 : Nat) (d : Nat → Nat) (k : Nat → Int32) (z : gS) (f : xF) (hI : xI q h0 d k z f) (b9 : Nat) (hb9 : tg z b9 23) (P c9 L9 : Nat) (hP9 : P < 12) (hc8 : c9 < 8) (u : mS) (hrp : rep q d u z f) (hk0 : k 0 = u.1 3) (hk1 : k 1 = u.1 28) (hk2 : k 2 = u.1 38) (hk3 : k 3 = u.1 39) (eL : u.2 0 (8 * P + c9) = nI L9) (hL60 : L9 ≤ 60) (hne : neI u) (xs : List fX) (hacF : acF z d (some b9) xs) (sz : Nat) : Met l yX11_fillColumn wsX11_fillColumn ({ frames := 5, cells := 122, slots := 610, locals := 109 }) (va_Pc [.ref h0, .int (nI P), .int (nI c9), .ref b9] (fun U => U.heap.size = sz ∧ PX dC dI (va_pl z.1 f) (xT q) U ∧ va_D (fun _ => True) (va_pl z.1 f))) (va_Qq (fun (r : Option Nat) (w : xU) => fcP q h0 d k z f u xs P c9 L9 r w) (fun (w : xU) t => va_P (dC, dI) vwCl (va_pl w.2.1.1 w.2.2) t.heap ∧ va_D (va_A (va_pl z.1 f) sz) (va_pl w.2.1.1 w.2.2)) (va_A (va_pl z.1 f) sz)) 122 610 (va_A (va_pl z.1 f) sz) := by
  refine Met.ofW (cc := cX11_fillColumn) (maxL := 10) (ret := (some (.object "PageOne$Act"))) (by decide) rfl ?_
  intro p e s m args below meth c s₁ B hml hv
  obtain ⟨rfl, hsz, ⟨⟨hP, hK, hN⟩, hXN⟩, hD0⟩ := hv
  have hx := B.exec
  have hb := B.bytes
  have hr := B.returns
  have hts := atoms_spec (ws := wsX11_fillColumn) B.pre
  have hown : s.vm.findClass RX11 = some m.cls := findClass_of_methodNamed B.named
  have hlocks := B.notSynchronized
  subst hsz
  have hD := hD0.self (sz := s.heap.size)
  generalize hAe : va_A (va_pl z.1 f) s.heap.size = A at hD ⊢
  have hA : ∀ q : Nat, s.heap.size ≤ q → A q := fun q h => by rw [← hAe]; exact Or.inr h
  have hS : va_S A s.heap s.heap [] := va_S.rf
  have hl := lv_entry ([.ref h0, .int (nI P), .int (nI c9), .ref b9]) (n := 10) (Nat.le_of_ble_eq_true rfl)
  rw [lg_entry_eq]
  generalize (lg_sl ([.ref h0, .int (nI P), .int (nI c9), .ref b9]) ++ List.replicate (10 - (lg_sl ([.ref h0, .int (nI P), .int (nI c9), .ref b9])).length) Slot.unset).toArray = ls at hl ⊢
  have hl : lv_has ls 10 [(0, .ref h0), (1, .int (nI P)), (2, .int (nI c9)), (3, .ref b9)] := hl
  refine lv_aload_n hx hb dX11_fillColumn_0 rfl (lv_at hl 0 rfl) ?_
  obtain ⟨kk_1, hk_2⟩ := pl_at hI.2.1.1.1 hI.2.2.2.1.1
  refine va_get (D := (dC, dI)) (ci := 10) (v := .ref (d 0)) (C := RX11) (T := TX11) (N := 9) hx hb hts (by decide +kernel) hown hK hP kk_1 hk_2 rfl 0 (by decide) (hts (.fieldLink RX11 11 "PageOne" "pages" "[LPageOne$Sheet;") (by decide +kernel)) (fun _ h9 => h9) rfl dX11_fillColumn_1 ?_
  refine lv_iload_n hx hb dX11_fillColumn_4 rfl (lv_at hl 1 rfl) ?_
  obtain ⟨g_3, hs_4, hg_5⟩ := x_pg hI hI.2.1.2.1
  obtain ⟨kk_6, hk_7⟩ := pl_at hI.2.1.2.1.1 hs_4
  refine va_aldq hx hb hK hP kk_6 2 hk_7 rfl (vp_in_nI hP9 (by decide)) dX11_fillColumn_5 ?_
  obtain ⟨b_8, hg_9, ht_10⟩ := hg_5 _ (vlt (vp_in_nI hP9 (by decide)))
  rw [hg_9]
  refine W.eq (g2 := F0 m 6 ls [.ref b_8]) rfl ?_
  have hb_11 := pg_at hrp.1 hs_4 hP9 (by rw [nI_clamp (by omega)] at hg_9; exact hg_9)
  subst hb_11
  obtain ⟨dd_12, ii_13, gl_14, gc_15, ht_16, ht_17, ht_18, hs_19, hg_20, hgb_21, hc_22, el_23, ec_24⟩ := pg_all hI hrp.1 hP9
  refine lv_astore (lv' := [(4, .ref (d (10 + P))), (0, .ref h0), (1, .int (nI P)), (2, .int (nI c9)), (3, .ref b9)]) hx hb dX11_fillColumn_6 hl (by decide) rfl (fun ls hl => ?_)
  refine lv_aload_n hx hb dX11_fillColumn_8 rfl (lv_at hl 4 rfl) ?_
  refine lv_astore (lv' := [(5, .ref b9), (4, .ref (d (10 + P))), (0, .ref h0), (1, .int (nI P)), (2, .int (nI c9)), (3, .ref b9)]) hx hb dX11_fillColumn_9 hl (by decide) rfl (fun ls hl => ?_)
  refine lv_iconst (v := 0) hx hb dX11_fillColumn_11 (by decide) ?_
  refine lv_istore (lv' := [(6, .int 0), (5, .ref b9), (4, .ref (d (10 + P))), (0, .ref h0), (1, .int (nI P)), (2, .int (nI c9)), (3, .ref b9)]) hx hb dX11_fillColumn_12 hl (by decide) rfl (fun ls hl => ?_)
  refine lv_iconst (v := 0) hx hb dX11_fillColumn_14 (by decide) ?_
  refine lv_istore (lv' := [(7, .int 0), (6, .int 0), (5, .ref b9), (4, .ref (d (10 + P))), (0, .ref h0), (1, .int (nI P)), (2, .int (nI c9)), (3, .ref b9)]) hx hb dX11_fillColumn_15 hl (by decide) rfl (fun ls hl => ?_)
  refine y_fc_l (cells := 0) (slots := 0) (z0 := z) (f0 := f) (u0 := u) (xs0 := xs) (P := P) (c9 := c9) (L9 := L9) hP9 hc8 eL hL60 hx hb hml hts hown hN hXN hK (Nat.le_of_ble_eq_true rfl) (Nat.le_of_ble_eq_true rfl) (Nat.le_of_ble_eq_true rfl) (Nat.le_of_ble_eq_true rfl) hA (fun z2 f2 H locs r u2 xs2 r9 ls hfN hrp2 hne2 hu2 hk0 hk1 hk2 hk3 hacF2 h3m hE2 hI hP hD hS hl => ?_) 62 0 z f _ _ (some b9) 0 u xs ls (Nat.zero_le _) (by decide) (Nat.le_refl _) rfl (fun b hb => absurd hb (Nat.not_lt_zero _)) hrp hne rfl hk0 hk1 hk2 hk3 hacF rfl (zE_rf z) hI hP hD hS (lv_sub hl [0, 1, 2, 3, 4, 5, 6] rfl)
  rcases r with _ | b8
  all_goals refine W.widen (k := 122) (n := 610) (Nat.le_of_ble_eq_true rfl) (Nat.le_of_ble_eq_true rfl) ?_
  ·
    have hl : lv_has ls 10 [(5, .null)] := hl
    refine lv_aloadN hx hb dX11_fillColumn_120 (lv_at hl 0 rfl) ?_
    exact W.aret (v := .null) hx hb hr (Or.inl ⟨_, rfl⟩) (Or.inl rfl) (fun t ht hW => ⟨⟨none, (k, z2, f2), rfl, ⟨u2, xs2, r9, hfN, rfl, hE2, hI, hrp2, hne2, hu2, ⟨hk0, hk1, hk2, hk3⟩, hacF2, h3m⟩, by rw [ht]; exact hP, hD⟩, hS.F ht⟩) hS.2.2 dX11_fillColumn_122
  ·
    have hl : lv_has ls 10 [(5, .ref b8)] := hl
    refine lv_aload hx hb dX11_fillColumn_120 (lv_at hl 0 rfl) ?_
    exact W.aret (v := .ref b8) hx hb hr (Or.inl ⟨_, rfl⟩) (Or.inr ⟨_, rfl⟩) (fun t ht hW => ⟨⟨(some b8), (k, z2, f2), rfl, ⟨u2, xs2, r9, hfN, rfl, hE2, hI, hrp2, hne2, hu2, ⟨hk0, hk1, hk2, hk3⟩, hacF2, h3m⟩, by rw [ht]; exact hP, hD⟩, hS.F ht⟩) hS.2.2 dX11_fillColumn_122
