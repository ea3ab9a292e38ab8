set_option maxHeartbeats 4000000 in
set_option maxRecDepth 100000 in
theorem y_about (l : Launch) (dC : Nat → ClassId) (dI : Nat → Nat → Nat) (q : Nat → ClassId) (h0 : Nat) (d : Nat → Nat) (k : Nat → Int32) (z : gS) (f : xF) (hI : xI q h0 d k z f) (p0 : Int32) (u : mS) (hrp : rep q d u z f) (hk0 : k 0 = u.1 3) (hk1 : k 1 = u.1 28) (hk2 : k 2 = u.1 38) (hk3 : k 3 = u.1 39) : Met l yX11_about wsX11_about ({ frames := 5, cells := 0, slots := 0, locals := 106 }) (va_Pc [.ref h0, .int p0] (PX dC dI (va_pl z.1 f) (xT q))) (vp_Si (fun r => r = mAbout u p0)) 0 0 (fun _ => False) := by
  refine Met.ofW (cc := cX11_about) (maxL := 2) (ret := (some .int)) (by decide) rfl ?_
  intro p e s m args below meth c s₁ B hml hv
  obtain ⟨rfl, ⟨hP, hK, hN⟩, hXN⟩ := hv
  have hx := B.exec
  have hb := B.bytes
  have hr := B.returns
  have hts := atoms_spec (ws := wsX11_about) B.pre
  have hown : s.vm.findClass RX11 = some m.cls := findClass_of_methodNamed B.named
  have hlocks := B.notSynchronized
  have hl := lv_entry ([.ref h0, .int p0]) (n := 2) (Nat.le_of_ble_eq_true rfl)
  rw [lg_entry_eq]
  generalize (lg_sl ([.ref h0, .int p0]) ++ List.replicate (2 - (lg_sl ([.ref h0, .int p0])).length) Slot.unset).toArray = ls at hl ⊢
  have hl : lv_has ls 2 [(0, .ref h0), (1, .int p0)] := hl
  refine lv_iload_n hx hb dX11_about_0 rfl (lv_at hl 1 rfl) ?_
  rcases Classical.em (p0 = 0) with s_1 | s_1
  ·
    subst s_1
    refine lv_tableIn (tgt := 36) (off := 35) hx hb dX11_about_1 (by decide) (by decide) (by decide) (by decide) ?_
    refine lv_aload_n hx hb dX11_about_36 rfl (lv_at hl 0 rfl) ?_
    obtain ⟨kk_2, hk_3⟩ := pl_at hI.2.1.1.1 hI.2.2.2.1.1
    refine va_get (D := (dC, dI)) (ci := 10) (v := .int (k 2)) (C := RX11) (T := TX11) (N := 9) hx hb hts (by decide +kernel) hown hK hP kk_2 hk_3 rfl 7 (by decide) (hts (.fieldLink RX11 41 "PageOne" "today" "I") (by decide +kernel)) (fun _ h9 => h9) rfl dX11_about_37 ?_
    exact W.iret (v := (k 2)) hx hb hr (fun t ht hW => ⟨_, rfl, (by unfold mAbout; rw [if_pos rfl]; exact hk2), ht⟩) (fun q h => absurd h List.not_mem_nil) dX11_about_40
  ·
    rcases Classical.em (p0 = 1) with s_4 | s_4
    ·
      subst s_4
      refine lv_tableIn (tgt := 41) (off := 40) hx hb dX11_about_1 (by decide) (by decide) (by decide) (by decide) ?_
      refine lv_aload_n hx hb dX11_about_41 rfl (lv_at hl 0 rfl) ?_
      obtain ⟨kk_5, hk_6⟩ := pl_at hI.2.1.1.1 hI.2.2.2.1.1
      refine va_get (D := (dC, dI)) (ci := 10) (v := .int (k 3)) (C := RX11) (T := TX11) (N := 9) hx hb hts (by decide +kernel) hown hK hP kk_5 hk_6 rfl 8 (by decide) (hts (.fieldLink RX11 44 "PageOne" "editionNow" "I") (by decide +kernel)) (fun _ h9 => h9) rfl dX11_about_42 ?_
      exact W.iret (v := (k 3)) hx hb hr (fun t ht hW => ⟨_, rfl, (by unfold mAbout; rw [if_neg (by decide), if_pos rfl]; exact hk3), ht⟩) (fun q h => absurd h List.not_mem_nil) dX11_about_45
    ·
      rcases Classical.em (p0 = 2) with s_7 | s_7
      ·
        subst s_7
        refine lv_tableIn (tgt := 46) (off := 45) hx hb dX11_about_1 (by decide) (by decide) (by decide) (by decide) ?_
        refine lv_aload_n hx hb dX11_about_46 rfl (lv_at hl 0 rfl) ?_
        obtain ⟨kk_8, hk_9⟩ := pl_at hI.2.1.1.1 hI.2.2.2.1.1
        refine va_get (D := (dC, dI)) (ci := 10) (v := .int (k 0)) (C := RX11) (T := TX11) (N := 9) hx hb hts (by decide +kernel) hown hK hP kk_8 hk_9 rfl 3 (by decide) (hts (.fieldLink RX11 24 "PageOne" "itemCount" "I") (by decide +kernel)) (fun _ h9 => h9) rfl dX11_about_47 ?_
        exact W.iret (v := (k 0)) hx hb hr (fun t ht hW => ⟨_, rfl, (by unfold mAbout; rw [if_neg (by decide), if_neg (by decide), if_pos rfl]; exact hk0), ht⟩) (fun q h => absurd h List.not_mem_nil) dX11_about_50
      ·
        rcases Classical.em (p0 = 3) with s_10 | s_10
        ·
          subst s_10
          refine lv_tableIn (tgt := 51) (off := 50) hx hb dX11_about_1 (by decide) (by decide) (by decide) (by decide) ?_
          refine lv_aload_n hx hb dX11_about_51 rfl (lv_at hl 0 rfl) ?_
          obtain ⟨kk_11, hk_12⟩ := pl_at hI.2.1.1.1 hI.2.2.2.1.1
          refine va_get (D := (dC, dI)) (ci := 10) (v := .int (k 1)) (C := RX11) (T := TX11) (N := 9) hx hb hts (by decide +kernel) hown hK hP kk_11 hk_12 rfl 5 (by decide) (hts (.fieldLink RX11 34 "PageOne" "actCount" "I") (by decide +kernel)) (fun _ h9 => h9) rfl dX11_about_52 ?_
          exact W.iret (v := (k 1)) hx hb hr (fun t ht hW => ⟨_, rfl, (by unfold mAbout; rw [if_neg (by decide), if_neg (by decide), if_neg (by decide), if_pos rfl]; exact hk1), ht⟩) (fun q h => absurd h List.not_mem_nil) dX11_about_55
        ·
          rcases Classical.em (p0 = 4) with s_13 | s_13
          ·
            subst s_13
            refine lv_tableIn (tgt := 56) (off := 55) hx hb dX11_about_1 (by decide) (by decide) (by decide) (by decide) ?_
            refine lv_aload_n hx hb dX11_about_56 rfl (lv_at hl 0 rfl) ?_
            obtain ⟨kk_14, hk_15⟩ := pl_at hI.2.1.1.1 hI.2.2.2.1.1
            refine vp_callSi (va_runV (As := []) (rest := []) ⟨hx, hb, hml, hown, hts⟩ (y_freshPlates l dC dI q h0 d k z f hI u hrp hk2 hk3) (cwV 0 hts gX11_about_X11_freshPlates rfl rfl rfl (by decide +kernel) ⟨Nat.le_of_ble_eq_true rfl, Nat.le_of_ble_eq_true rfl⟩) ⟨px_fb, va_recv hK hP (ci := 10) (q0 := kk_14) rfl hk_15, fun U hU hW => ⟨rfl, px_to hU hW hP hK hN hXN⟩⟩ rfl rfl hl.1 rfl (lv_room (Nat.le_of_ble_eq_true rfl)) dX11_about_57 ⟨Nat.le_of_ble_eq_true rfl, Nat.le_of_ble_eq_true rfl⟩).run (fun r hw => ?_)
            obtain rfl : r = mCnt u 12 := hw
            exact W.iret (v := (mCnt u 12)) hx hb hr (fun t ht hW => ⟨_, rfl, (by unfold mAbout; rw [if_neg (by decide), if_neg (by decide), if_neg (by decide), if_neg (by decide), if_pos rfl]), ht⟩) (fun q h => absurd h List.not_mem_nil) dX11_about_60
          ·
            refine lv_tableOut (tgt := 61) hx hb dX11_about_1 (sw_out4 s_1 s_4 s_7 s_10 s_13) (by decide) ?_
            refine lv_iconst (v := (-1)) hx hb dX11_about_61 (by decide) ?_
            exact W.iret (v := (-1)) hx hb hr (fun t ht hW => ⟨_, rfl, (by unfold mAbout; rw [if_neg s_1, if_neg s_4, if_neg s_7, if_neg s_10, if_neg s_13]), ht⟩) (fun q h => absurd h List.not_mem_nil) dX11_about_62
theorem kT_r (k : Int32) : 10 ≤ kT k ∧ kT k ≤ 15 := by
  unfold kT
  repeat' split
  all_goals omega
theorem rI_itm {q d u z f} (h : rIs q d u z f) {i : Nat} (hi : i < (u.1 3).toNatClampNeg) : itm z (d (2000 + i)) := tg_itm (h.2 i hi).1.1 (kT_r _)
theorem rI_at {q d u z f} (h : rIs q d u z f) {g : Nat → Option Nat} (hg : f (d 2) = aR (q 3) 80 g) {i b : Nat} (hi : i < (u.1 3).toNatClampNeg) (hb : g i = some b) : b = d (2000 + i) := by
  obtain ⟨⟨g2, a1, a2⟩, -⟩ := h
  have eg := (aR_inj (hg.symm.trans a1)).2
  exact Option.some.inj (hb.symm.trans (by rw [eg]; exact a2 i hi))
def itO (u : mS) (d : Nat → Nat) (p : Int32) (r : Option Nat) : Prop := (r = none ∧ ¬ bw p 0 (u.1 3 - 1) = true) ∨ (∃ i, i < (u.1 3).toNatClampNeg ∧ p = nI i ∧ r = some (d (2000 + i)))
theorem itO_s {q d u z f} (h : rIs q d u z f) {g : Nat → Option Nat} (hg : f (d 2) = aR (q 3) 80 g) {p : Int32} {b : Nat} (hn : bw (u.1 3) 0 80 = true) (hp : bw p 0 (u.1 3 - 1) = true) (hb : g p.toNatClampNeg = some b) : itO u d p (some b) := by
  have h1 := vItn hn hp
  obtain ⟨m, m1, e⟩ := nI_of (x := p) (fun q => by have h2 := (bw_iff.mp hp).1; rw [i0] at h2; rw [i32_lt, i0] at q; omega)
  refine Or.inr ⟨m, ?_, e, ?_⟩
  · rw [e, nI_clamp m1] at h1; exact h1
  · rw [e, nI_clamp m1] at h1 hb
    rw [rI_at h hg h1 hb]
set_option maxHeartbeats 4000000 in
set_option maxRecDepth 100000 in
theorem y_itemOf (l : Launch) (dC : Nat → ClassId) (dI : Nat → Nat → Nat) (q : Nat → ClassId) (h0 : Nat) (d : Nat → Nat) (k : Nat → Int32) (z : gS) (f : xF) (hI : xI q h0 d k z f) (p0 : Int32) (u : mS) (hrp : rep q d u z f) (hk0 : k 0 = u.1 3) (hk1 : k 1 = u.1 28) (hk2 : k 2 = u.1 38) (hk3 : k 3 = u.1 39) : Met l yX11_itemOf wsX11_itemOf ({ frames := 1, cells := 0, slots := 0, locals := 22 }) (va_Pc [.ref h0, .int p0] (PX dC dI (va_pl z.1 f) (xT q))) (va_Sq (fun r => itO u d p0 r)) 0 0 (fun _ => False) := by
  refine Met.ofW (cc := cX11_itemOf) (maxL := 2) (ret := (some (.object "PageOne$Item"))) (by decide) rfl ?_
  intro p e s m args below meth c s₁ B hml hv
  obtain ⟨rfl, ⟨hP, hK, hN⟩, hXN⟩ := hv
  have hx := B.exec
  have hb := B.bytes
  have hr := B.returns
  have hts := atoms_spec (ws := wsX11_itemOf) B.pre
  have hown : s.vm.findClass RX11 = some m.cls := findClass_of_methodNamed B.named
  have hlocks := B.notSynchronized
  have hl := lv_entry ([.ref h0, .int p0]) (n := 2) (Nat.le_of_ble_eq_true rfl)
  rw [lg_entry_eq]
  generalize (lg_sl ([.ref h0, .int p0]) ++ List.replicate (2 - (lg_sl ([.ref h0, .int p0])).length) Slot.unset).toArray = ls at hl ⊢
  have hl : lv_has ls 2 [(0, .ref h0), (1, .int p0)] := hl
  refine lv_iload_n hx hb dX11_itemOf_0 rfl (lv_at hl 1 rfl) ?_
  refine lv_iconst (v := 0) hx hb dX11_itemOf_1 (by decide) ?_
  refine lv_aload_n hx hb dX11_itemOf_2 rfl (lv_at hl 0 rfl) ?_
  obtain ⟨kk_1, hk_2⟩ := pl_at hI.2.1.1.1 hI.2.2.2.1.1
  refine va_get (D := (dC, dI)) (ci := 10) (v := .int (k 0)) (C := RX11) (T := TX11) (N := 9) hx hb hts (by decide +kernel) hown hK hP kk_1 hk_2 rfl 3 (by decide) (hts (.fieldLink RX11 24 "PageOne" "itemCount" "I") (by decide +kernel)) (fun _ h9 => h9) rfl dX11_itemOf_3 ?_
  refine lv_iconst (v := 1) hx hb dX11_itemOf_6 (by decide) ?_
  refine lv_isub hx hb dX11_itemOf_7 ?_
  refine vp_callSi (va_runS (As := [.int p0, .int 0, .int ((k 0) - 1)]) (rest := []) ⟨hx, hb, hml, hown, hts⟩ (x_isWithin l dC dI p0 0 ((k 0) - 1)) (va_cwS 3 hts gX11_itemOf_X11_isWithin rfl rfl rfl (by decide +kernel) ⟨Nat.le_of_ble_eq_true rfl, Nat.le_of_ble_eq_true rfl⟩) ⟨pw_fb, fun U hU hW => ⟨rfl, pw_to hU hW (hP.sub (ws' := []) [] rfl) (hK.sub (tys' := []) [] rfl) hN⟩⟩ rfl rfl hl.1 rfl (lv_room (Nat.le_of_ble_eq_true rfl)) dX11_itemOf_8 ⟨Nat.le_of_ble_eq_true rfl, Nat.le_of_ble_eq_true rfl⟩).run (fun r hw => ?_)
  rcases Bool.eq_false_or_eq_true (bw p0 0 ((k 0) - 1)) with b_3 | b_3
  ·
    obtain rfl : r = 1 := b_t hw b_3
    refine lv_if_eq (tgt := 23) hx hb dX11_itemOf_11 (by decide) (fun c_4 => absurd c_4 (by decide)) (fun c_4 => ?_)
    refine lv_aload_n hx hb dX11_itemOf_14 rfl (lv_at hl 0 rfl) ?_
    obtain ⟨kk_5, hk_6⟩ := pl_at hI.2.1.1.1 hI.2.2.2.1.1
    refine va_get (D := (dC, dI)) (ci := 10) (v := .ref (d 2)) (C := RX11) (T := TX11) (N := 9) hx hb hts (by decide +kernel) hown hK hP kk_5 hk_6 rfl 2 (by decide) (hts (.fieldLink RX11 20 "PageOne" "items" "[LPageOne$Item;") (by decide +kernel)) (fun _ h9 => h9) rfl dX11_itemOf_15 ?_
    refine lv_iload_n hx hb dX11_itemOf_18 rfl (lv_at hl 1 rfl) ?_
    obtain ⟨g_7, hs_8, hn_9, hg_10⟩ := x_itm hI
    obtain ⟨kk_11, hk_12⟩ := pl_at hI.2.1.2.2.2.1.1 hs_8
    refine va_aldq hx hb hK hP kk_11 3 hk_12 rfl (vIt hI.1.1 b_3) dX11_itemOf_19 ?_
    obtain ⟨b_13, hg_14⟩ := hn_9 (p0 : Int32).toNatClampNeg (vItn hI.1.1 b_3)
    have ht_15 := hg_10 (p0 : Int32).toNatClampNeg (vlt (vIt hI.1.1 b_3)) b_13 hg_14
    rw [hg_14]
    refine W.eq (g2 := F0 m 20 ls [.ref b_13]) rfl ?_
    refine lv_goto (tgt := 24) hx hb dX11_itemOf_20 (by decide) ?_
    exact W.aret (v := .ref b_13) hx hb hr (Or.inl ⟨_, rfl⟩) (Or.inr ⟨_, rfl⟩) (fun t ht hW => ⟨some b_13, rfl, (itO_s hrp.2.2.1 hs_8 (by rw [← hk0]; exact hI.1.1) (by rw [← hk0]; exact b_3) hg_14), ht⟩) (fun q h => absurd h List.not_mem_nil) dX11_itemOf_24
  ·
    obtain rfl : r = 0 := b_f hw b_3
    refine lv_if_eq (tgt := 23) hx hb dX11_itemOf_11 (by decide) (fun c_16 => ?_) (fun c_16 => absurd (by decide) c_16)
    refine lv_null hx hb dX11_itemOf_23 ?_
    exact W.aret (v := .null) hx hb hr (Or.inl ⟨_, rfl⟩) (Or.inl rfl) (fun t ht hW => ⟨none, rfl, (Or.inl ⟨rfl, by rw [← hk0]; exact bne b_3⟩), ht⟩) (fun q h => absurd h List.not_mem_nil) dX11_itemOf_24
