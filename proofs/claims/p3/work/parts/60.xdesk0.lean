theorem sw_out3 {x : Int32} (h1 : ¬ x = 1) (h2 : ¬ x = 2) (h3 : ¬ x = 3) : x.toInt < 1 ∨ 3 < x.toInt := by
  rcases Int.lt_or_le x.toInt 1 with q | q
  · exact Or.inl q
  · rcases Int.lt_or_le 3 x.toInt with q2 | q2
    · exact Or.inr q2
    · exfalso
      have : x.toInt = 1 ∨ x.toInt = 2 ∨ x.toInt = 3 := by omega
      rcases this with e | e | e
      · exact h1 (sw_in e.symm rfl)
      · exact h2 (sw_in e.symm rfl)
      · exact h3 (sw_in e.symm rfl)
/-- a page that has a plate -/
def xPl (q : Nat → ClassId) (d : Nat → Nat) (z : gS) (f : xF) (p : Int32) : Prop := bw p 0 11 = true ∧ ∃ g b, f (d 1) = aR (q 2) 12 g ∧ g p.toNatClampNeg = some b ∧ tg z b 7
theorem vItn {n i : Int32} (hn : bw n 0 80 = true) (h : bw i 0 (n - 1) = true) : i.toNatClampNeg < n.toNatClampNeg := by
  have h80 : (80 : Int32).toInt = 80 := rfl
  have hv := vp_in_iff.mp (vIt hn h)
  obtain ⟨j, j1, -, e⟩ := exN hn (by decide)
  subst e
  obtain ⟨m, m1, e⟩ := nI_of (x := i) (fun q => by rw [i32_lt, i0] at q; omega)
  subst e
  have h2 := bw_iff.mp h
  rw [nI_toInt m1] at hv h2
  have h0 : 0 < j := by
    rcases Nat.eq_zero_or_pos j with z | z
    · subst z
      exfalso
      have e0 : (nI 0 - 1).toInt = -1 := rfl
      rw [e0, i0] at h2; omega
    · exact z
  rw [dn_e h0, nI_toInt (by omega), i0] at h2
  rw [nI_clamp (by omega), nI_clamp (by omega)]; omega
theorem bKey {b : Int32} {k : Nat → Int32} (hk : kOK k) : bw (k 0) 0 80 = true := hk.1
set_option maxHeartbeats 4000000 in
set_option maxRecDepth 100000 in
theorem x_itemOf (l : Launch) (dC : Nat → ClassId) (dI : Nat → Nat → Nat) (q : Nat → ClassId) (h0 : Nat) (d : Nat → Nat) (k : Nat → Int32) (z : gS) (f : xF) (hI : xI q h0 d k z f) (p0 : Int32) : Met l yX11_itemOf wsX11_itemOf ({ frames := 1, cells := 0, slots := 0, locals := 22 }) (va_Pc [.ref h0, .int p0] (PX dC dI (va_pl z.1 f) (xT q))) (va_Sq (fun r => ∀ b, r = some b → itm z b)) 0 0 (fun _ => False) := by
  refine Met.ofW (cc := cX11_itemOf) (maxL := 2) (ret := (some (.object "PageOne$Item"))) (by decide) rfl ?_
  intro p e s m args below meth c s₁ B hml hv
  obtain ⟨rfl, ⟨hP, hK, hN⟩, hXN⟩ := hv
  have hx := B.exec
  have hb := B.bytes
  have hr := B.returns
  have hts := atoms_spec (ws := wsX11_itemOf) B.pre
  have hown : s.vm.findClass RX11 = some m.cls := findClass_of_methodNamed B.named
  have hlocks := B.notSynchronized
  have hl := lv_entry ([.ref h0, .int p0]) (n := 2) (Nat.le_of_ble_eq_true rfl)
  rw [lg_entry_eq]
  generalize (lg_sl ([.ref h0, .int p0]) ++ List.replicate (2 - (lg_sl ([.ref h0, .int p0])).length) Slot.unset).toArray = ls at hl ⊢
  have hl : lv_has ls 2 [(0, .ref h0), (1, .int p0)] := hl
  refine lv_iload_n hx hb dX11_itemOf_0 rfl (lv_at hl 1 rfl) ?_
  refine lv_iconst (v := 0) hx hb dX11_itemOf_1 (by decide) ?_
  refine lv_aload_n hx hb dX11_itemOf_2 rfl (lv_at hl 0 rfl) ?_
  obtain ⟨kk_1, hk_2⟩ := pl_at hI.2.1.1.1 hI.2.2.2.1.1
  refine va_get (D := (dC, dI)) (ci := 10) (v := .int (k 0)) (C := RX11) (T := TX11) (N := 9) hx hb hts (by decide +kernel) hown hK hP kk_1 hk_2 rfl 3 (by decide) (hts (.fieldLink RX11 24 "PageOne" "itemCount" "I") (by decide +kernel)) (fun _ h9 => h9) rfl dX11_itemOf_3 ?_
  refine lv_iconst (v := 1) hx hb dX11_itemOf_6 (by decide) ?_
  refine lv_isub hx hb dX11_itemOf_7 ?_
  refine vp_callSi (va_runS (As := [.int p0, .int 0, .int ((k 0) - 1)]) (rest := []) ⟨hx, hb, hml, hown, hts⟩ (x_isWithin l dC dI p0 0 ((k 0) - 1)) (va_cwS 3 hts gX11_itemOf_X11_isWithin rfl rfl rfl (by decide +kernel) ⟨Nat.le_of_ble_eq_true rfl, Nat.le_of_ble_eq_true rfl⟩) ⟨pw_fb, fun U hU hW => ⟨rfl, pw_to hU hW (hP.sub (ws' := []) [] rfl) (hK.sub (tys' := []) [] rfl) hN⟩⟩ rfl rfl hl.1 rfl (lv_room (Nat.le_of_ble_eq_true rfl)) dX11_itemOf_8 ⟨Nat.le_of_ble_eq_true rfl, Nat.le_of_ble_eq_true rfl⟩).run (fun r hw => ?_)
  rcases Bool.eq_false_or_eq_true (bw p0 0 ((k 0) - 1)) with b_3 | b_3
  ·
    obtain rfl : r = 1 := b_t hw b_3
    refine lv_if_eq (tgt := 23) hx hb dX11_itemOf_11 (by decide) (fun c_4 => absurd c_4 (by decide)) (fun c_4 => ?_)
    refine lv_aload_n hx hb dX11_itemOf_14 rfl (lv_at hl 0 rfl) ?_
    obtain ⟨kk_5, hk_6⟩ := pl_at hI.2.1.1.1 hI.2.2.2.1.1
    refine va_get (D := (dC, dI)) (ci := 10) (v := .ref (d 2)) (C := RX11) (T := TX11) (N := 9) hx hb hts (by decide +kernel) hown hK hP kk_5 hk_6 rfl 2 (by decide) (hts (.fieldLink RX11 20 "PageOne" "items" "[LPageOne$Item;") (by decide +kernel)) (fun _ h9 => h9) rfl dX11_itemOf_15 ?_
    refine lv_iload_n hx hb dX11_itemOf_18 rfl (lv_at hl 1 rfl) ?_
    obtain ⟨g_7, hs_8, hn_9, hg_10⟩ := x_itm hI
    obtain ⟨kk_11, hk_12⟩ := pl_at hI.2.1.2.2.2.1.1 hs_8
    refine va_aldq hx hb hK hP kk_11 3 hk_12 rfl (vIt hI.1.1 b_3) dX11_itemOf_19 ?_
    obtain ⟨b_13, hg_14⟩ := hn_9 (p0 : Int32).toNatClampNeg (vItn hI.1.1 b_3)
    have ht_15 := hg_10 (p0 : Int32).toNatClampNeg (vlt (vIt hI.1.1 b_3)) b_13 hg_14
    rw [hg_14]
    refine W.eq (g2 := F0 m 20 ls [.ref b_13]) rfl ?_
    refine lv_goto (tgt := 24) hx hb dX11_itemOf_20 (by decide) ?_
    exact W.aret (v := .ref b_13) hx hb hr (Or.inl ⟨_, rfl⟩) (Or.inr ⟨_, rfl⟩) (fun t ht hW => ⟨some b_13, rfl, (ty_s ht_15), ht⟩) (fun q h => absurd h List.not_mem_nil) dX11_itemOf_24
  ·
    obtain rfl : r = 0 := b_f hw b_3
    refine lv_if_eq (tgt := 23) hx hb dX11_itemOf_11 (by decide) (fun c_16 => ?_) (fun c_16 => absurd (by decide) c_16)
    refine lv_null hx hb dX11_itemOf_23 ?_
    exact W.aret (v := .null) hx hb hr (Or.inl ⟨_, rfl⟩) (Or.inl rfl) (fun t ht hW => ⟨none, rfl, ty_n, ht⟩) (fun q h => absurd h List.not_mem_nil) dX11_itemOf_24
theorem z_up {g : Nat → Int32} {i : Nat} (h : ∀ j, g j = 0 ∨ g j = 1) : ∀ j, upd g i (vp_nar .boolean 1) j = 0 ∨ upd g i (vp_nar .boolean 1) j = 1 := by
  intro j
  unfold upd
  split
  · exact Or.inr rfl
  · exact h j
set_option maxHeartbeats 4000000 in
set_option maxRecDepth 100000 in
theorem x_areRivals (l : Launch) (dC : Nat → ClassId) (dI : Nat → Nat → Nat) (q : Nat → ClassId) (h0 : Nat) (d : Nat → Nat) (k : Nat → Int32) (z : gS) (f : xF) (hI : xI q h0 d k z f) (p0 p1 : Int32) (ha : bw p0 0 9 = true) (hb9 : bw p1 0 9 = true) : Met l yX11_areRivals wsX11_areRivals ({ frames := 0, cells := 0, slots := 0, locals := 0 }) (va_Pc [.ref h0, .int p0, .int p1] (PX dC dI (va_pl z.1 f) (xT q))) (vp_Si (fun r => r = 0 ∨ r = 1)) 0 0 (fun _ => False) := by
  refine Met.ofW (cc := cX11_areRivals) (maxL := 3) (ret := (some .boolean)) (by decide) rfl ?_
  intro p e s m args below meth c s₁ B hml hv
  obtain ⟨rfl, ⟨hP, hK, hN⟩, hXN⟩ := hv
  have hx := B.exec
  have hb := B.bytes
  have hr := B.returns
  have hts := atoms_spec (ws := wsX11_areRivals) B.pre
  have hown : s.vm.findClass RX11 = some m.cls := findClass_of_methodNamed B.named
  have hlocks := B.notSynchronized
  have hl := lv_entry ([.ref h0, .int p0, .int p1]) (n := 3) (Nat.le_of_ble_eq_true rfl)
  rw [lg_entry_eq]
  generalize (lg_sl ([.ref h0, .int p0, .int p1]) ++ List.replicate (3 - (lg_sl ([.ref h0, .int p0, .int p1])).length) Slot.unset).toArray = ls at hl ⊢
  have hl : lv_has ls 3 [(0, .ref h0), (1, .int p0), (2, .int p1)] := hl
  refine lv_aload_n hx hb dX11_areRivals_0 rfl (lv_at hl 0 rfl) ?_
  obtain ⟨kk_1, hk_2⟩ := pl_at hI.2.1.1.1 hI.2.2.2.1.1
  refine va_get (D := (dC, dI)) (ci := 10) (v := .ref (d 4)) (C := RX11) (T := TX11) (N := 9) hx hb hts (by decide +kernel) hown hK hP kk_1 hk_2 rfl 6 (by decide) (hts (.fieldLink RX11 37 "PageOne" "rivals" "[Z") (by decide +kernel)) (fun _ h9 => h9) rfl dX11_areRivals_1 ?_
  refine lv_iload_n hx hb dX11_areRivals_4 rfl (lv_at hl 1 rfl) ?_
  refine lv_bipush (v := 10) hx hb dX11_areRivals_5 (by decide) ?_
  refine lv_imul hx hb dX11_areRivals_7 ?_
  refine lv_iload_n hx hb dX11_areRivals_8 rfl (lv_at hl 2 rfl) ?_
  refine lv_iadd hx hb dX11_areRivals_9 ?_
  obtain ⟨g_3, hs_4, hz_5⟩ := x_ri hI hI.2.1.2.2.2.2.2
  obtain ⟨kk_6, hk_7⟩ := pl_at hI.2.1.2.2.2.2.2.1 hs_4
  refine va_zald hx hb hK hP kk_6 1 hk_7 rfl (vin2 ha hb9) dX11_areRivals_10 ?_
  exact W.zret (v := (g_3 (((p0 * 10) + p1) : Int32).toNatClampNeg)) hx hb hr (by rcases hz_5 ((p0 * 10 + p1 : Int32).toNatClampNeg) with h | h <;> rw [h] <;> decide) (fun t ht hW => ⟨_, rfl, (hz_5 _), ht⟩) (fun q h => absurd h List.not_mem_nil) dX11_areRivals_11
