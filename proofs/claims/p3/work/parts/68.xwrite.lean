set_option maxHeartbeats 4000000 in
set_option maxRecDepth 100000 in
theorem x_wdi_l {p : Program} {l : Launch} {e : Env} {R : Room} {s : State} {m : MethodId} {args : Array Value} {below : List Frame} {meth : Method} {c : Code} {Q : State → Prop} {cells slots : Nat} {dC : Nat → ClassId} {dI : Nat → Nat → Nat} {q : Nat → ClassId} {h0 : Nat} {d : Nat → Nat} {k : Nat → Int32} {z : gS} {f0 : xF} {c0 fa : Nat} {p0 p1 : Int32} (hc0 : itm z c0) (hfa : tg z fa 17) {A : Nat → Prop} {H0 : Heap} (hx : p.tables.exec = Jvm.exec) (hb : c.code = cX11_writeDownItem) (hml : c.maxLocals = 5) (hts : ∀ w ∈ wsX11_writeDownItem, w.before args s = true) (hown : s.vm.findClass RX11 = some m.cls) (hN : NN s) (hXN : XN s) (hK : va_K (dC, dI) vwCl (xT q) s) (hRf : 1 ≤ R.frames) (hRl : 23 ≤ R.locals) (hRc : cells ≤ R.cells) (hRs : slots ≤ R.slots) (hA : ∀ q : Nat, H0.size ≤ q → A q) (kx40 : ∀ (f : xF) (H : Heap) (locs : List Loc) (ls : Array Slot), (xPl q d z f p0 ∧ f (d 1) = f0 (d 1)) → xI q h0 d k z f → va_P (dC, dI) vwCl (va_pl z.1 f) H → va_D A (va_pl z.1 f) → va_S A H0 H locs → lv_has ls 5 [(0, .ref h0), (1, .ref c0), (2, .int p0), (3, .int p1)] → W p l e R s m args below meth c H locs cells slots Q (F0 m 40 ls [])) : ∀ (kk i : Nat) (f : xF) (H : Heap) (locs : List Loc) (ls : Array Slot), i ≤ 5 → 5 - i < kk → (xPl q d z f p0 ∧ f (d 1) = f0 (d 1)) → xI q h0 d k z f → va_P (dC, dI) vwCl (va_pl z.1 f) H → va_D A (va_pl z.1 f) → va_S A H0 H locs → lv_has ls 5 [(4, .int (nI i)), (0, .ref h0), (1, .ref c0), (2, .int p0), (3, .int p1)] → W p l e R s m args below meth c H locs cells slots Q (F0 m 13 ls []) := by
  intro kk
  induction kk with
  | zero => intro i f H locs ls h1 h2; exact absurd h2 (Nat.not_lt_zero _)
  | succ kk ih =>
    intro i f H locs ls hi hkk hg hI hP hD hS hl
    refine lv_iload hx hb dX11_writeDownItem_13 (lv_at hl 0 rfl) ?_
    refine lv_iconst (v := 5) hx hb dX11_writeDownItem_15 (by decide) ?_
    refine lv_icmp_ge (tgt := 40) hx hb dX11_writeDownItem_16 (by decide) (fun c_1 => ?_) (fun c_1 => ?_)
    ·
      have hie : i = 5 := lp_eq rfl (by decide) hi c_1
      exact kx40 _ _ _ ls hg hI hP hD hS (lv_sub hl [1, 2, 3, 4] rfl)
    ·
      have hlt : i < 5 := lp_lt rfl (by decide) hi c_1
      refine lv_aload_n hx hb dX11_writeDownItem_19 rfl (lv_at hl 2 rfl) ?_
      obtain ⟨nu_2, kd_3, cn_4, pa_5, fa_6, rs_7, hs_8, hs_9, hs_10, hs_11, hs_12⟩ := x_im hI hc0
      obtain ⟨kk_13, hk_14⟩ := pl_at hc0.1 hs_8
      refine w_then (F0 m 23 ls [.ref fa_6]) (fun hgo => ?_) ?_
      ·
        rcases x_tag hc0 with ht9 | ht9 | ht9 | ht9 | ht9 | ht9
        ·
          rw [ht9.2] at hk_14
          exact va_get (D := (dC, dI)) (ci := 2) (v := .ref fa_6) (C := RX2) (T := TX2) (N := 7) hx hb hts (by decide +kernel) hown hK hP kk_13 hk_14 rfl 4 (by decide) (hts (.fieldLink RX11 382 "PageOne$Item" "first" "[I") (by decide +kernel)) (fun _ h9 => h9) rfl dX11_writeDownItem_20 hgo
        ·
          rw [ht9.2] at hk_14
          exact va_get (D := (dC, dI)) (ci := 3) (v := .ref fa_6) (C := RX3) (T := TX3) (N := 8) hx hb hts (by decide +kernel) hown hK hP kk_13 hk_14 rfl 4 (by decide) (hts (.fieldLink RX11 382 "PageOne$Item" "first" "[I") (by decide +kernel)) (fun _ h9 => h9) rfl dX11_writeDownItem_20 hgo
        ·
          rw [ht9.2] at hk_14
          exact va_get (D := (dC, dI)) (ci := 4) (v := .ref fa_6) (C := RX5) (T := TX5) (N := 7) hx hb hts (by decide +kernel) hown hK hP kk_13 hk_14 rfl 4 (by decide) (hts (.fieldLink RX11 382 "PageOne$Item" "first" "[I") (by decide +kernel)) (fun _ h9 => h9) rfl dX11_writeDownItem_20 hgo
        ·
          rw [ht9.2] at hk_14
          exact va_get (D := (dC, dI)) (ci := 5) (v := .ref fa_6) (C := RX6) (T := TX6) (N := 9) hx hb hts (by decide +kernel) hown hK hP kk_13 hk_14 rfl 4 (by decide) (hts (.fieldLink RX11 382 "PageOne$Item" "first" "[I") (by decide +kernel)) (fun _ h9 => h9) rfl dX11_writeDownItem_20 hgo
        ·
          rw [ht9.2] at hk_14
          exact va_get (D := (dC, dI)) (ci := 6) (v := .ref fa_6) (C := RX7) (T := TX7) (N := 8) hx hb hts (by decide +kernel) hown hK hP kk_13 hk_14 rfl 4 (by decide) (hts (.fieldLink RX11 382 "PageOne$Item" "first" "[I") (by decide +kernel)) (fun _ h9 => h9) rfl dX11_writeDownItem_20 hgo
        ·
          rw [ht9.2] at hk_14
          exact va_get (D := (dC, dI)) (ci := 9) (v := .ref fa_6) (C := RX10) (T := TX10) (N := 9) hx hb hts (by decide +kernel) hown hK hP kk_13 hk_14 rfl 4 (by decide) (hts (.fieldLink RX11 382 "PageOne$Item" "first" "[I") (by decide +kernel)) (fun _ h9 => h9) rfl dX11_writeDownItem_20 hgo
      ·
        refine lv_iload hx hb dX11_writeDownItem_23 (lv_at hl 0 rfl) ?_
        refine lv_aload_n hx hb dX11_writeDownItem_25 rfl (lv_at hl 1 rfl) ?_
        refine lv_iload_n hx hb dX11_writeDownItem_26 rfl (lv_at hl 3 rfl) ?_
        refine lv_iload_n hx hb dX11_writeDownItem_27 rfl (lv_at hl 4 rfl) ?_
        refine lv_iload hx hb dX11_writeDownItem_28 (lv_at hl 0 rfl) ?_
        obtain ⟨kk_15, hk_16⟩ := pl_at hI.2.1.1.1 hI.2.2.2.1.1
        refine vp_callSi (va_runV (As := [.int p0, .int p1, .int (nI i)]) (rest := [.int (nI i), .ref fa_6]) ⟨hx, hb, hml, hown, hts⟩ (x_plateFact l dC dI q h0 d k z f hI p0 p1 (nI i) hg.1) (cwV 3 hts gX11_writeDownItem_X11_plateFact rfl rfl rfl (by decide +kernel) ⟨Nat.le_trans (Nat.le_of_ble_eq_true rfl) hRf, Nat.le_trans (Nat.le_of_ble_eq_true rfl) hRl⟩) ⟨px_fb, va_recv hK hP (ci := 10) (q0 := kk_15) rfl hk_16, fun U hU hW => ⟨rfl, px_to hU hW hP hK hN hXN⟩⟩ rfl rfl hl.1 rfl (lv_room (Nat.le_of_ble_eq_true rfl)) dX11_writeDownItem_30 ⟨hRc, hRs⟩).run (fun r hw => ?_)
        generalize r = zr_17 at hw ⊢
        have hzr_17 := hw
        obtain ⟨g_18, hs_19⟩ := x_17 hI hs_11
        obtain ⟨kk_20, hk_21⟩ := pl_at hs_11.1 hs_19
        have hD0 := hD
        refine va_iast hx hb hK hP hD hS kk_20 0 hk_21 rfl (vp_in_nI hlt (by decide)) dX11_writeDownItem_33 (fun H locs hP hD hS => ?_)
        rw [pl_set hD0 hs_11.1 hs_19 hk_21] at hP hD
        obtain ⟨f_22, ef_22⟩ : ∃ y : xF, y = va_up f fa_6 (aI (q 0) 5 (upd g_18 ((nI i) : Int32).toNatClampNeg zr_17)) := ⟨_, rfl⟩
        have hI : xI q h0 d k z f_22 := by rw [ef_22]; exact x_up hI hs_11 (by decide) (cO_17 hs_11.2 ⟨_, rfl⟩)
        have hP : va_P (dC, dI) vwCl (va_pl z.1 f_22) H := by rw [ef_22]; exact hP
        have hD : va_D A (va_pl z.1 f_22) := by rw [ef_22]; exact hD
        have hg2 : xPl q d z f_22 p0 ∧ f_22 (d 1) = f0 (d 1) := ⟨by rw [ef_22]; exact xPl_up hg.1 (tg_ne hI.2.1.2.2.1 hs_11 (by decide)), by rw [ef_22, up_o (tg_ne hI.2.1.2.2.1 hs_11 (by decide))]; exact hg.2⟩
        refine lv_iinc (v := (nI (i + 1))) (lv' := [(4, .int (nI (i + 1))), (0, .ref h0), (1, .ref c0), (2, .int p0), (3, .int p1)]) hx hb dX11_writeDownItem_34 hl (k := 0) rfl (nI_1 i) (by decide) rfl (fun ls hl => ?_)
        refine lv_goto (tgt := 13) hx hb dX11_writeDownItem_37 (by decide) ?_
        exact ih (i + 1) _ _ _ ls (by omega) (by omega) hg2 hI hP hD hS (lv_sub hl [0, 1, 2, 3, 4] rfl)
set_option maxHeartbeats 4000000 in
set_option maxRecDepth 100000 in
theorem x_writeDownItem (l : Launch) (dC : Nat → ClassId) (dI : Nat → Nat → Nat) (q : Nat → ClassId) (h0 : Nat) (d : Nat → Nat) (k : Nat → Int32) (z : gS) (f : xF) (hI : xI q h0 d k z f) (c0 : Nat) (p0 p1 : Int32) (hc0 : itm z c0) (hpl : xPl q d z f p0) (sz : Nat) : Met l yX11_writeDownItem wsX11_writeDownItem ({ frames := 1, cells := 0, slots := 0, locals := 23 }) (va_Pc [.ref h0, .ref c0, .int p0, .int p1] (fun U => U.heap.size = sz ∧ PX dC dI (va_pl z.1 f) (xT q) U ∧ va_D (fun _ => True) (va_pl z.1 f))) (va_Qv (fun (w : xU) => w.1 = k ∧ w.2.1 = z ∧ xI q h0 d k z w.2.2 ∧ w.2.2 (d 1) = f (d 1)) (fun (w : xU) t => va_P (dC, dI) vwCl (va_pl w.2.1.1 w.2.2) t.heap ∧ va_D (va_A (va_pl z.1 f) sz) (va_pl w.2.1.1 w.2.2)) (va_A (va_pl z.1 f) sz)) 0 0 (va_A (va_pl z.1 f) sz) := by
  refine Met.ofW (cc := cX11_writeDownItem) (maxL := 5) (ret := none) (by decide) rfl ?_
  intro p e s m args below meth c s₁ B hml hv
  obtain ⟨rfl, hsz, ⟨⟨hP, hK, hN⟩, hXN⟩, hD0⟩ := hv
  have hx := B.exec
  have hb := B.bytes
  have hr := B.returns
  have hts := atoms_spec (ws := wsX11_writeDownItem) B.pre
  have hown : s.vm.findClass RX11 = some m.cls := findClass_of_methodNamed B.named
  have hlocks := B.notSynchronized
  subst hsz
  have hD := hD0.self (sz := s.heap.size)
  generalize hAe : va_A (va_pl z.1 f) s.heap.size = A at hD ⊢
  have hA : ∀ q : Nat, s.heap.size ≤ q → A q := fun q h => by rw [← hAe]; exact Or.inr h
  have hS : va_S A s.heap s.heap [] := va_S.rf
  have hl := lv_entry ([.ref h0, .ref c0, .int p0, .int p1]) (n := 5) (Nat.le_of_ble_eq_true rfl)
  rw [lg_entry_eq]
  generalize (lg_sl ([.ref h0, .ref c0, .int p0, .int p1]) ++ List.replicate (5 - (lg_sl ([.ref h0, .ref c0, .int p0, .int p1])).length) Slot.unset).toArray = ls at hl ⊢
  have hl : lv_has ls 5 [(0, .ref h0), (1, .ref c0), (2, .int p0), (3, .int p1)] := hl
  refine lv_aload_n hx hb dX11_writeDownItem_0 rfl (lv_at hl 1 rfl) ?_
  obtain ⟨nu_1, kd_2, cn_3, pa_4, fa_5, rs_6, hs_7, hs_8, hs_9, hs_10, hs_11⟩ := x_im hI hc0
  obtain ⟨kk_12, hk_13⟩ := pl_at hc0.1 hs_7
  refine w_then (F0 m 4 ls [.ref fa_5]) (fun hgo => ?_) ?_
  ·
    rcases x_tag hc0 with ht9 | ht9 | ht9 | ht9 | ht9 | ht9
    ·
      rw [ht9.2] at hk_13
      exact va_get (D := (dC, dI)) (ci := 2) (v := .ref fa_5) (C := RX2) (T := TX2) (N := 7) hx hb hts (by decide +kernel) hown hK hP kk_12 hk_13 rfl 4 (by decide) (hts (.fieldLink RX11 382 "PageOne$Item" "first" "[I") (by decide +kernel)) (fun _ h9 => h9) rfl dX11_writeDownItem_1 hgo
    ·
      rw [ht9.2] at hk_13
      exact va_get (D := (dC, dI)) (ci := 3) (v := .ref fa_5) (C := RX3) (T := TX3) (N := 8) hx hb hts (by decide +kernel) hown hK hP kk_12 hk_13 rfl 4 (by decide) (hts (.fieldLink RX11 382 "PageOne$Item" "first" "[I") (by decide +kernel)) (fun _ h9 => h9) rfl dX11_writeDownItem_1 hgo
    ·
      rw [ht9.2] at hk_13
      exact va_get (D := (dC, dI)) (ci := 4) (v := .ref fa_5) (C := RX5) (T := TX5) (N := 7) hx hb hts (by decide +kernel) hown hK hP kk_12 hk_13 rfl 4 (by decide) (hts (.fieldLink RX11 382 "PageOne$Item" "first" "[I") (by decide +kernel)) (fun _ h9 => h9) rfl dX11_writeDownItem_1 hgo
    ·
      rw [ht9.2] at hk_13
      exact va_get (D := (dC, dI)) (ci := 5) (v := .ref fa_5) (C := RX6) (T := TX6) (N := 9) hx hb hts (by decide +kernel) hown hK hP kk_12 hk_13 rfl 4 (by decide) (hts (.fieldLink RX11 382 "PageOne$Item" "first" "[I") (by decide +kernel)) (fun _ h9 => h9) rfl dX11_writeDownItem_1 hgo
    ·
      rw [ht9.2] at hk_13
      exact va_get (D := (dC, dI)) (ci := 6) (v := .ref fa_5) (C := RX7) (T := TX7) (N := 8) hx hb hts (by decide +kernel) hown hK hP kk_12 hk_13 rfl 4 (by decide) (hts (.fieldLink RX11 382 "PageOne$Item" "first" "[I") (by decide +kernel)) (fun _ h9 => h9) rfl dX11_writeDownItem_1 hgo
    ·
      rw [ht9.2] at hk_13
      exact va_get (D := (dC, dI)) (ci := 9) (v := .ref fa_5) (C := RX10) (T := TX10) (N := 9) hx hb hts (by decide +kernel) hown hK hP kk_12 hk_13 rfl 4 (by decide) (hts (.fieldLink RX11 382 "PageOne$Item" "first" "[I") (by decide +kernel)) (fun _ h9 => h9) rfl dX11_writeDownItem_1 hgo
  ·
    refine lv_iconst (v := 0) hx hb dX11_writeDownItem_4 (by decide) ?_
    obtain ⟨g_14, hs_15⟩ := x_17 hI hs_10
    obtain ⟨kk_16, hk_17⟩ := pl_at hs_10.1 hs_15
    refine va_iald hx hb hK hP kk_16 0 hk_17 rfl (by unfold vp_in; decide) dX11_writeDownItem_5 ?_
    refine lv_iconst (v := (-1)) hx hb dX11_writeDownItem_6 (by decide) ?_
    refine lv_icmp_ne (tgt := 40) hx hb dX11_writeDownItem_7 (by decide) (fun c_18 => ?_) (fun c_18 => ?_)
    ·
      refine lv_aload_n hx hb dX11_writeDownItem_40 rfl (lv_at hl 1 rfl) ?_
      rcases Classical.em (tg z c0 13) with ht9 | ht9
      ·
        have ht_19 := ht9
        obtain ⟨nu_21, kd_22, cn_23, pa_24, fa_25, b_26, pr_27, sp_28, dy_29, hs_30, hs_31, hs_32, hs_33, hq_34, hq_35, hq_36⟩ := x_ipd hI ht_19
        obtain ⟨kk_37, hk_38⟩ := pl_at ht_19.1 hs_30
        refine va_instS hx hb hown (hts (.classLink RX11 104 "PageOne$Paid") (by decide +kernel)) (hK.1 5 (RX6, TX6, 9) rfl).2 (va_recv hK hP (ci := 5) (q0 := kk_37) rfl hk_38) dX11_writeDownItem_41 ?_
        refine lv_if_eq (tgt := 64) hx hb dX11_writeDownItem_44 (by decide) (fun c_39 => absurd c_39 (by decide)) (fun c_39 => ?_)
        refine lv_aload_n hx hb dX11_writeDownItem_47 rfl (lv_at hl 1 rfl) ?_
        obtain ⟨kk_40, hk_41⟩ := pl_at ht_19.1 hs_30
        refine va_castS hx hb hown (hts (.classLink RX11 104 "PageOne$Paid") (by decide +kernel)) (hK.1 5 (RX6, TX6, 9) rfl).2 (va_recv hK hP (ci := 5) (q0 := kk_40) rfl hk_41) dX11_writeDownItem_48 ?_
        refine lv_astore (lv' := [(4, .ref c0), (0, .ref h0), (1, .ref c0), (2, .int p0), (3, .int p1)]) hx hb dX11_writeDownItem_51 hl (by decide) rfl (fun ls hl => ?_)
        refine lv_aload hx hb dX11_writeDownItem_53 (lv_at hl 0 rfl) ?_
        obtain ⟨kk_42, hk_43⟩ := pl_at ht_19.1 hs_30
        refine va_get (D := (dC, dI)) (ci := 5) (v := .ref dy_29) (C := RX6) (T := TX6) (N := 9) hx hb hts (by decide +kernel) hown hK hP kk_42 hk_43 rfl 8 (by decide) (hts (.fieldLink RX11 388 "PageOne$Paid" "days" "[Z") (by decide +kernel)) (fun _ h9 => h9) rfl dX11_writeDownItem_55 ?_
        refine lv_aload_n hx hb dX11_writeDownItem_58 rfl (lv_at hl 1 rfl) ?_
        obtain ⟨kk_44, hk_45⟩ := pl_at hI.2.1.1.1 hI.2.2.2.1.1
        refine va_get (D := (dC, dI)) (ci := 10) (v := .int (k 2)) (C := RX11) (T := TX11) (N := 9) hx hb hts (by decide +kernel) hown hK hP kk_44 hk_45 rfl 7 (by decide) (hts (.fieldLink RX11 41 "PageOne" "today" "I") (by decide +kernel)) (fun _ h9 => h9) rfl dX11_writeDownItem_59 ?_
        refine lv_iconst (v := 1) hx hb dX11_writeDownItem_62 (by decide) ?_
        obtain ⟨g_46, hs_47⟩ := x_21 hI hq_36
        obtain ⟨kk_48, hk_49⟩ := pl_at hq_36.1 hs_47
        have hD0 := hD
        refine va_zast hx hb hK hP hD hS kk_48 1 hk_49 rfl (vTd hI.1.2.2) dX11_writeDownItem_63 (fun H locs hP hD hS => ?_)
        rw [pl_set hD0 hq_36.1 hs_47 hk_49] at hP hD
        obtain ⟨f_50, ef_50⟩ : ∃ y : xF, y = va_up f dy_29 (aI (q 1) 400 (upd g_46 ((k 2) : Int32).toNatClampNeg (vp_nar .boolean 1))) := ⟨_, rfl⟩
        have hI : xI q h0 d k z f_50 := by rw [ef_50]; exact x_up hI hq_36 (by decide) (cO_21 hq_36.2 ⟨_, rfl⟩)
        have hP : va_P (dC, dI) vwCl (va_pl z.1 f_50) H := by rw [ef_50]; exact hP
        have hD : va_D A (va_pl z.1 f_50) := by rw [ef_50]; exact hD
        have hq_51 : f_50 (d 1) = f (d 1) := by rw [ef_50]; exact (up_o (tg_ne hI.2.1.2.2.1 hq_36 (by decide))).trans (rfl)
        exact W.vret hx hb hr (fun t ht hW => ⟨⟨(k, z, f_50), rfl, ⟨rfl, rfl, hI, hq_51⟩, by rw [ht]; exact hP, hD⟩, hS.F ht⟩) hS.2.2 dX11_writeDownItem_64
      ·
        have hn_20 := ht9
        refine w_then (F0 m 44 ls [.int 0]) (fun hgo => ?_) ?_
        ·
          rcases x_tag hc0 with ht8 | ht8 | ht8 | ht8 | ht8 | ht8
          ·
            obtain ⟨nu_52, kd_53, cn_54, pa_55, fa_56, l_57, m_58, hs_59, hs_60, hs_61, hs_62⟩ := x_ifl hI ht8
            obtain ⟨kk_63, hk_64⟩ := pl_at ht8.1 hs_59
            exact va_instNo hx hb hown (hts (.classLink RX11 104 "PageOne$Paid") (by decide +kernel)) hXN.n_X2_X6 (va_recv hK hP (ci := 2) (q0 := kk_63) rfl hk_64) dX11_writeDownItem_41 hgo
          ·
            obtain ⟨nu_65, kd_66, cn_67, pa_68, fa_69, o_70, w_71, y_72, hs_73, hs_74, hs_75, hs_76, hq_77⟩ := x_ihd hI ht8
            obtain ⟨kk_78, hk_79⟩ := pl_at ht8.1 hs_73
            exact va_instNo hx hb hown (hts (.classLink RX11 104 "PageOne$Paid") (by decide +kernel)) hXN.n_X3_X6 (va_recv hK hP (ci := 3) (q0 := kk_78) rfl hk_79) dX11_writeDownItem_41 hgo
          ·
            obtain ⟨nu_80, kd_81, cn_82, pa_83, fa_84, o_85, y_86, hs_87, hs_88, hs_89, hs_90, hq_91⟩ := x_ino hI ht8
            obtain ⟨kk_92, hk_93⟩ := pl_at ht8.1 hs_87
            exact va_instNo hx hb hown (hts (.classLink RX11 104 "PageOne$Paid") (by decide +kernel)) hXN.n_X5_X6 (va_recv hK hP (ci := 4) (q0 := kk_92) rfl hk_93) dX11_writeDownItem_41 hgo
          ·
            exact absurd ht8 ht9
          ·
            obtain ⟨nu_94, kd_95, cn_96, pa_97, fa_98, ww_99, hh_100, sz_101, hs_102, hs_103, hs_104, hs_105, hq_106, hq_107, hq_108⟩ := x_ipi hI ht8
            obtain ⟨kk_109, hk_110⟩ := pl_at ht8.1 hs_102
            exact va_instNo hx hb hown (hts (.classLink RX11 104 "PageOne$Paid") (by decide +kernel)) hXN.n_X7_X6 (va_recv hK hP (ci := 6) (q0 := kk_109) rfl hk_110) dX11_writeDownItem_41 hgo
          ·
            obtain ⟨nu_111, kd_112, cn_113, pa_114, fa_115, l_116, co_117, wd_118, nm_119, hs_120, hs_121, hs_122, hs_123, hq_124, hq_125, hq_126⟩ := x_ist hI ht8
            obtain ⟨kk_127, hk_128⟩ := pl_at ht8.1 hs_120
            exact va_instNo hx hb hown (hts (.classLink RX11 104 "PageOne$Paid") (by decide +kernel)) hXN.n_X10_X6 (va_recv hK hP (ci := 9) (q0 := kk_127) rfl hk_128) dX11_writeDownItem_41 hgo
        ·
          refine lv_if_eq (tgt := 64) hx hb dX11_writeDownItem_44 (by decide) (fun c_129 => ?_) (fun c_129 => absurd (by decide) c_129)
          exact W.vret hx hb hr (fun t ht hW => ⟨⟨(k, z, f), rfl, ⟨rfl, rfl, hI, rfl⟩, by rw [ht]; exact hP, hD⟩, hS.F ht⟩) hS.2.2 dX11_writeDownItem_64
    ·
      refine lv_iconst (v := 0) hx hb dX11_writeDownItem_10 (by decide) ?_
      refine lv_istore (lv' := [(4, .int 0), (0, .ref h0), (1, .ref c0), (2, .int p0), (3, .int p1)]) hx hb dX11_writeDownItem_11 hl (by decide) rfl (fun ls hl => ?_)
      refine x_wdi_l (f0 := f) hc0 hs_10 hx hb hml hts hown hN hXN hK (Nat.le_of_ble_eq_true rfl) (Nat.le_of_ble_eq_true rfl) (Nat.le_of_ble_eq_true rfl) (Nat.le_of_ble_eq_true rfl) hA (fun f2 H locs ls hg hI hP hD hS hl => ?_) 6 0 _ _ _ ls (by decide) (by decide) ⟨hpl, rfl⟩ hI hP hD hS (lv_sub hl [0, 1, 2, 3, 4] rfl)
      refine lv_aload_n hx hb dX11_writeDownItem_40 rfl (lv_at hl 1 rfl) ?_
      rcases Classical.em (tg z c0 13) with ht9 | ht9
      ·
        have ht_130 := ht9
        obtain ⟨nu_132, kd_133, cn_134, pa_135, fa_136, b_137, pr_138, sp_139, dy_140, hs_141, hs_142, hs_143, hs_144, hq_145, hq_146, hq_147⟩ := x_ipd hI ht_130
        obtain ⟨kk_148, hk_149⟩ := pl_at ht_130.1 hs_141
        refine va_instS hx hb hown (hts (.classLink RX11 104 "PageOne$Paid") (by decide +kernel)) (hK.1 5 (RX6, TX6, 9) rfl).2 (va_recv hK hP (ci := 5) (q0 := kk_148) rfl hk_149) dX11_writeDownItem_41 ?_
        refine lv_if_eq (tgt := 64) hx hb dX11_writeDownItem_44 (by decide) (fun c_150 => absurd c_150 (by decide)) (fun c_150 => ?_)
        refine lv_aload_n hx hb dX11_writeDownItem_47 rfl (lv_at hl 1 rfl) ?_
        obtain ⟨kk_151, hk_152⟩ := pl_at ht_130.1 hs_141
        refine va_castS hx hb hown (hts (.classLink RX11 104 "PageOne$Paid") (by decide +kernel)) (hK.1 5 (RX6, TX6, 9) rfl).2 (va_recv hK hP (ci := 5) (q0 := kk_151) rfl hk_152) dX11_writeDownItem_48 ?_
        refine lv_astore (lv' := [(4, .ref c0), (0, .ref h0), (1, .ref c0), (2, .int p0), (3, .int p1)]) hx hb dX11_writeDownItem_51 hl (by decide) rfl (fun ls hl => ?_)
        refine lv_aload hx hb dX11_writeDownItem_53 (lv_at hl 0 rfl) ?_
        obtain ⟨kk_153, hk_154⟩ := pl_at ht_130.1 hs_141
        refine va_get (D := (dC, dI)) (ci := 5) (v := .ref dy_140) (C := RX6) (T := TX6) (N := 9) hx hb hts (by decide +kernel) hown hK hP kk_153 hk_154 rfl 8 (by decide) (hts (.fieldLink RX11 388 "PageOne$Paid" "days" "[Z") (by decide +kernel)) (fun _ h9 => h9) rfl dX11_writeDownItem_55 ?_
        refine lv_aload_n hx hb dX11_writeDownItem_58 rfl (lv_at hl 1 rfl) ?_
        obtain ⟨kk_155, hk_156⟩ := pl_at hI.2.1.1.1 hI.2.2.2.1.1
        refine va_get (D := (dC, dI)) (ci := 10) (v := .int (k 2)) (C := RX11) (T := TX11) (N := 9) hx hb hts (by decide +kernel) hown hK hP kk_155 hk_156 rfl 7 (by decide) (hts (.fieldLink RX11 41 "PageOne" "today" "I") (by decide +kernel)) (fun _ h9 => h9) rfl dX11_writeDownItem_59 ?_
        refine lv_iconst (v := 1) hx hb dX11_writeDownItem_62 (by decide) ?_
        obtain ⟨g_157, hs_158⟩ := x_21 hI hq_147
        obtain ⟨kk_159, hk_160⟩ := pl_at hq_147.1 hs_158
        have hD0 := hD
        refine va_zast hx hb hK hP hD hS kk_159 1 hk_160 rfl (vTd hI.1.2.2) dX11_writeDownItem_63 (fun H locs hP hD hS => ?_)
        rw [pl_set hD0 hq_147.1 hs_158 hk_160] at hP hD
        obtain ⟨f_161, ef_161⟩ : ∃ y : xF, y = va_up f2 dy_140 (aI (q 1) 400 (upd g_157 ((k 2) : Int32).toNatClampNeg (vp_nar .boolean 1))) := ⟨_, rfl⟩
        have hI : xI q h0 d k z f_161 := by rw [ef_161]; exact x_up hI hq_147 (by decide) (cO_21 hq_147.2 ⟨_, rfl⟩)
        have hP : va_P (dC, dI) vwCl (va_pl z.1 f_161) H := by rw [ef_161]; exact hP
        have hD : va_D A (va_pl z.1 f_161) := by rw [ef_161]; exact hD
        have hq_162 : f_161 (d 1) = f (d 1) := by rw [ef_161]; exact (up_o (tg_ne hI.2.1.2.2.1 hq_147 (by decide))).trans (hg.2)
        exact W.vret hx hb hr (fun t ht hW => ⟨⟨(k, z, f_161), rfl, ⟨rfl, rfl, hI, hq_162⟩, by rw [ht]; exact hP, hD⟩, hS.F ht⟩) hS.2.2 dX11_writeDownItem_64
      ·
        have hn_131 := ht9
        refine w_then (F0 m 44 ls [.int 0]) (fun hgo => ?_) ?_
        ·
          rcases x_tag hc0 with ht8 | ht8 | ht8 | ht8 | ht8 | ht8
          ·
            obtain ⟨nu_163, kd_164, cn_165, pa_166, fa_167, l_168, m_169, hs_170, hs_171, hs_172, hs_173⟩ := x_ifl hI ht8
            obtain ⟨kk_174, hk_175⟩ := pl_at ht8.1 hs_170
            exact va_instNo hx hb hown (hts (.classLink RX11 104 "PageOne$Paid") (by decide +kernel)) hXN.n_X2_X6 (va_recv hK hP (ci := 2) (q0 := kk_174) rfl hk_175) dX11_writeDownItem_41 hgo
          ·
            obtain ⟨nu_176, kd_177, cn_178, pa_179, fa_180, o_181, w_182, y_183, hs_184, hs_185, hs_186, hs_187, hq_188⟩ := x_ihd hI ht8
            obtain ⟨kk_189, hk_190⟩ := pl_at ht8.1 hs_184
            exact va_instNo hx hb hown (hts (.classLink RX11 104 "PageOne$Paid") (by decide +kernel)) hXN.n_X3_X6 (va_recv hK hP (ci := 3) (q0 := kk_189) rfl hk_190) dX11_writeDownItem_41 hgo
          ·
            obtain ⟨nu_191, kd_192, cn_193, pa_194, fa_195, o_196, y_197, hs_198, hs_199, hs_200, hs_201, hq_202⟩ := x_ino hI ht8
            obtain ⟨kk_203, hk_204⟩ := pl_at ht8.1 hs_198
            exact va_instNo hx hb hown (hts (.classLink RX11 104 "PageOne$Paid") (by decide +kernel)) hXN.n_X5_X6 (va_recv hK hP (ci := 4) (q0 := kk_203) rfl hk_204) dX11_writeDownItem_41 hgo
          ·
            exact absurd ht8 ht9
          ·
            obtain ⟨nu_205, kd_206, cn_207, pa_208, fa_209, ww_210, hh_211, sz_212, hs_213, hs_214, hs_215, hs_216, hq_217, hq_218, hq_219⟩ := x_ipi hI ht8
            obtain ⟨kk_220, hk_221⟩ := pl_at ht8.1 hs_213
            exact va_instNo hx hb hown (hts (.classLink RX11 104 "PageOne$Paid") (by decide +kernel)) hXN.n_X7_X6 (va_recv hK hP (ci := 6) (q0 := kk_220) rfl hk_221) dX11_writeDownItem_41 hgo
          ·
            obtain ⟨nu_222, kd_223, cn_224, pa_225, fa_226, l_227, co_228, wd_229, nm_230, hs_231, hs_232, hs_233, hs_234, hq_235, hq_236, hq_237⟩ := x_ist hI ht8
            obtain ⟨kk_238, hk_239⟩ := pl_at ht8.1 hs_231
            exact va_instNo hx hb hown (hts (.classLink RX11 104 "PageOne$Paid") (by decide +kernel)) hXN.n_X10_X6 (va_recv hK hP (ci := 9) (q0 := kk_238) rfl hk_239) dX11_writeDownItem_41 hgo
        ·
          refine lv_if_eq (tgt := 64) hx hb dX11_writeDownItem_44 (by decide) (fun c_240 => ?_) (fun c_240 => absurd (by decide) c_240)
          exact W.vret hx hb hr (fun t ht hW => ⟨⟨(k, z, f2), rfl, ⟨rfl, rfl, hI, hg.2⟩, by rw [ht]; exact hP, hD⟩, hS.F ht⟩) hS.2.2 dX11_writeDownItem_64
