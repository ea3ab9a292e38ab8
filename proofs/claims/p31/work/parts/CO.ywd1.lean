set_option maxHeartbeats 4000000 in
set_option maxRecDepth 100000 in
theorem y_wdi_l {p : Program} {l : Launch} {e : Env} {R : Room} {s : State} {m : MethodId} {args : Array Value} {below : List Frame} {meth : Method} {c : Code} {Q : State → Prop} {cells slots : Nat} {dC : Nat → ClassId} {dI : Nat → Nat → Nat} {q : Nat → ClassId} {h0 : Nat} {d : Nat → Nat} {k : Nat → Int32} {z : gS} {f0 : xF} {u : mS} (hk0 : k 0 = u.1 3) {i0 : Nat} {p0 p1 : Int32} (hi0 : i0 < (u.1 3).toNatClampNeg) {A : Nat → Prop} {H0 : Heap} (hx : p.tables.exec = Jvm.exec) (hb : c.code = cX11_writeDownItem) (hml : c.maxLocals = 5) (hts : ∀ w ∈ wsX11_writeDownItem, w.before args s = true) (hown : s.vm.findClass RX11 = some m.cls) (hN : NN s) (hXN : XN s) (hK : va_K (dC, dI) vwCl (xT q) s) (hRf : 1 ≤ R.frames) (hRl : 23 ≤ R.locals) (hRc : cells ≤ R.cells) (hRs : slots ≤ R.slots) (hA : ∀ q : Nat, H0.size ≤ q → A q) (kx40 : ∀ (f : xF) (H : Heap) (locs : List Loc) (ls : Array Slot), (rep q d (wdF u i0 p0 p1 5) z f ∧ xPl q d z f p0 ∧ f (d 3) = f0 (d 3)) → xI q h0 d k z f → va_P (dC, dI) vwCl (va_pl z.1 f) H → va_D A (va_pl z.1 f) → va_S A H0 H locs → lv_has ls 5 [(0, .ref h0), (1, .ref (d (2000 + i0))), (2, .int p0), (3, .int p1)] → W p l e R s m args below meth c H locs cells slots Q (F0 m 40 ls [])) : ∀ (kk i : Nat) (f : xF) (H : Heap) (locs : List Loc) (ls : Array Slot), i ≤ 5 → 5 - i < kk → (rep q d (wdF u i0 p0 p1 i) z f ∧ xPl q d z f p0 ∧ f (d 3) = f0 (d 3)) → xI q h0 d k z f → va_P (dC, dI) vwCl (va_pl z.1 f) H → va_D A (va_pl z.1 f) → va_S A H0 H locs → lv_has ls 5 [(4, .int (nI i)), (0, .ref h0), (1, .ref (d (2000 + i0))), (2, .int p0), (3, .int p1)] → W p l e R s m args below meth c H locs cells slots Q (F0 m 13 ls []) := by
  intro kk
  induction kk with
  | zero => intro i f H locs ls h1 h2; exact absurd h2 (Nat.not_lt_zero _)
  | succ kk ih =>
    intro i f H locs ls hi hkk hg hI hP hD hS hl
    obtain ⟨ui, eui⟩ : ∃ y : mS, y = wdF u i0 p0 p1 i := ⟨_, rfl⟩
    have hrpi : rep q d ui z f := by rw [eui]; exact hg.1
    have hii : i0 < (ui.1 3).toNatClampNeg := by rw [eui, wdF_1]; exact hi0
    obtain ⟨rs_1, n_2, g_3, fg_4, hit_5, hs_6, hpa_7, hps_8, h1_9, h6_10, hcb_11, hpl_12, hlg_13, hnn_14, hfa_15, hfs_16, hfe_17, hrs_18, hkt_19⟩ := it_all hI hrpi.2.2.1 hii
    have hnb : bw (ui.1 3) 0 80 = true := by rw [eui, wdF_1, ← hk0]; exact hI.1.1
    refine lv_iload hx hb dX11_writeDownItem_13 (lv_at hl 0 rfl) ?_
    refine lv_iconst (v := 5) hx hb dX11_writeDownItem_15 (by decide) ?_
    refine lv_icmp_ge (tgt := 40) hx hb dX11_writeDownItem_16 (by decide) (fun c_20 => ?_) (fun c_20 => ?_)
    ·
      have hie : i = 5 := lp_eq rfl (by decide) hi c_20
      exact kx40 _ _ _ ls (by rw [hie] at hg; exact hg) hI hP hD hS (lv_sub hl [1, 2, 3, 4] rfl)
    ·
      have hlt : i < 5 := lp_lt rfl (by decide) hi c_20
      refine lv_aload_n hx hb dX11_writeDownItem_19 rfl (lv_at hl 2 rfl) ?_
      obtain ⟨kk_21, hk_22⟩ := pl_at hit_5.1 hs_6
      refine w_then (F0 m 23 ls [.ref (d (4000 + i0))]) (fun hgo => ?_) ?_
      ·
        rcases x_tag hit_5 with ht9 | ht9 | ht9 | ht9 | ht9 | ht9
        ·
          rw [ht9.2] at hk_22
          exact va_get (D := (dC, dI)) (ci := 2) (v := .ref (d (4000 + i0))) (C := RX2) (T := TX2) (N := 7) hx hb hts zl_X11_writeDownItem_X2 hown hK hP kk_21 hk_22 rfl 4 (by decide) (hts (.fieldLink RX11 382 "PageOne$Item" "first" "[I") (zat q_wsX11_writeDownItem k_wsX11_writeDownItem 202 rfl (by decide +kernel))) (fun _ h9 => h9) rfl dX11_writeDownItem_20 hgo
        ·
          rw [ht9.2] at hk_22
          exact va_get (D := (dC, dI)) (ci := 3) (v := .ref (d (4000 + i0))) (C := RX3) (T := TX3) (N := 8) hx hb hts zl_X11_writeDownItem_X3 hown hK hP kk_21 hk_22 rfl 4 (by decide) (hts (.fieldLink RX11 382 "PageOne$Item" "first" "[I") (zat q_wsX11_writeDownItem k_wsX11_writeDownItem 202 rfl (by decide +kernel))) (fun _ h9 => h9) rfl dX11_writeDownItem_20 hgo
        ·
          rw [ht9.2] at hk_22
          exact va_get (D := (dC, dI)) (ci := 4) (v := .ref (d (4000 + i0))) (C := RX5) (T := TX5) (N := 7) hx hb hts zl_X11_writeDownItem_X5 hown hK hP kk_21 hk_22 rfl 4 (by decide) (hts (.fieldLink RX11 382 "PageOne$Item" "first" "[I") (zat q_wsX11_writeDownItem k_wsX11_writeDownItem 202 rfl (by decide +kernel))) (fun _ h9 => h9) rfl dX11_writeDownItem_20 hgo
        ·
          rw [ht9.2] at hk_22
          exact va_get (D := (dC, dI)) (ci := 5) (v := .ref (d (4000 + i0))) (C := RX6) (T := TX6) (N := 9) hx hb hts zl_X11_writeDownItem_X6 hown hK hP kk_21 hk_22 rfl 4 (by decide) (hts (.fieldLink RX11 382 "PageOne$Item" "first" "[I") (zat q_wsX11_writeDownItem k_wsX11_writeDownItem 202 rfl (by decide +kernel))) (fun _ h9 => h9) rfl dX11_writeDownItem_20 hgo
        ·
          rw [ht9.2] at hk_22
          exact va_get (D := (dC, dI)) (ci := 6) (v := .ref (d (4000 + i0))) (C := RX7) (T := TX7) (N := 8) hx hb hts zl_X11_writeDownItem_X7 hown hK hP kk_21 hk_22 rfl 4 (by decide) (hts (.fieldLink RX11 382 "PageOne$Item" "first" "[I") (zat q_wsX11_writeDownItem k_wsX11_writeDownItem 202 rfl (by decide +kernel))) (fun _ h9 => h9) rfl dX11_writeDownItem_20 hgo
        ·
          rw [ht9.2] at hk_22
          exact va_get (D := (dC, dI)) (ci := 9) (v := .ref (d (4000 + i0))) (C := RX10) (T := TX10) (N := 9) hx hb hts zl_X11_writeDownItem_X10 hown hK hP kk_21 hk_22 rfl 4 (by decide) (hts (.fieldLink RX11 382 "PageOne$Item" "first" "[I") (zat q_wsX11_writeDownItem k_wsX11_writeDownItem 202 rfl (by decide +kernel))) (fun _ h9 => h9) rfl dX11_writeDownItem_20 hgo
      ·
        refine lv_iload hx hb dX11_writeDownItem_23 (lv_at hl 0 rfl) ?_
        refine lv_aload_n hx hb dX11_writeDownItem_25 rfl (lv_at hl 1 rfl) ?_
        refine lv_iload_n hx hb dX11_writeDownItem_26 rfl (lv_at hl 3 rfl) ?_
        refine lv_iload_n hx hb dX11_writeDownItem_27 rfl (lv_at hl 4 rfl) ?_
        refine lv_iload hx hb dX11_writeDownItem_28 (lv_at hl 0 rfl) ?_
        obtain ⟨kk_23, hk_24⟩ := pl_at hI.2.1.1.1 hI.2.2.2.1.1
        refine vp_callSi (va_runV (As := [.int p0, .int p1, .int (nI i)]) (rest := [.int (nI i), .ref (d (4000 + i0))]) ⟨hx, hb, hml, hown, hts⟩ (y_plateFact l dC dI q h0 d k z f hI p0 p1 (nI i) hg.2.1 ui hrpi) (cwV 3 hts gX11_writeDownItem_X11_plateFact rfl rfl rfl zh_X11_plateFact_64 ⟨Nat.le_trans (Nat.le_of_ble_eq_true rfl) hRf, Nat.le_trans (Nat.le_of_ble_eq_true rfl) hRl⟩) ⟨px_fb, va_recv hK hP (ci := 10) (q0 := kk_23) rfl hk_24, fun U hU hW => ⟨rfl, px_to hU hW hP hK hN hXN⟩⟩ rfl rfl hl.1 rfl (lv_room (Nat.le_of_ble_eq_true rfl)) dX11_writeDownItem_30 ⟨hRc, hRs⟩).run (fun r hw => ?_)
        generalize r = zr_25 at hw ⊢
        have hzr_25 := hw
        obtain ⟨kk_26, hk_27⟩ := pl_at hfa_15.1 hfs_16
        have hD0 := hD
        refine va_iast hx hb hK hP hD hS kk_26 0 hk_27 rfl (vp_in_nI hlt (by decide)) dX11_writeDownItem_33 (fun H locs hP hD hS => ?_)
        rw [pl_set hD0 hfa_15.1 hfs_16 hk_27] at hP hD
        obtain ⟨f_28, ef_28⟩ : ∃ y : xF, y = va_up f (d (4000 + i0)) (aI (q 0) 5 (upd fg_4 ((nI i) : Int32).toNatClampNeg zr_25)) := ⟨_, rfl⟩
        have hI : xI q h0 d k z f_28 := by rw [ef_28]; exact x_up hI hfa_15 (by decide) (cO_17 hfa_15.2 ⟨_, rfl⟩)
        have hP : va_P (dC, dI) vwCl (va_pl z.1 f_28) H := by rw [ef_28]; exact hP
        have hD : va_D A (va_pl z.1 f_28) := by rw [ef_28]; exact hD
        have hg2 : rep q d (wdF u i0 p0 p1 (i + 1)) z f_28 ∧ xPl q d z f_28 p0 ∧ f_28 (d 3) = f0 (d 3) := ⟨by have h9 := rep_first (t := i) hrpi hnb hii hlt (mPF u p0 p1 (nI i)) hfs_16; rw [eui] at h9; show rep q d (mst (wdF u i0 p0 p1 i) 47 (nI (5 * i0 + i)) (mPF u p0 p1 (nI i))) z f_28; rw [ef_28, nI_clamp (by omega), hzr_25, eui, mPF_wd]; exact h9, by rw [ef_28]; exact xPl_up hg.2.1 (tg_ne hI.2.1.2.2.1 hfa_15 (by decide)), by rw [ef_28]; exact (up_o (tg_ne hI.2.1.2.2.2.2.1 hfa_15 (by decide))).trans hg.2.2⟩
        refine lv_iinc (v := (nI (i + 1))) (lv' := [(4, .int (nI (i + 1))), (0, .ref h0), (1, .ref (d (2000 + i0))), (2, .int p0), (3, .int p1)]) hx hb dX11_writeDownItem_34 hl (k := 0) rfl (nI_1 i) (by decide) rfl (fun ls hl => ?_)
        refine lv_goto (tgt := 13) hx hb dX11_writeDownItem_37 (by decide) ?_
        exact ih (i + 1) _ _ _ ls (by omega) (by omega) hg2 hI hP hD hS (lv_sub hl [0, 1, 2, 3, 4] rfl)
set_option maxHeartbeats 4000000 in
set_option maxRecDepth 100000 in
theorem y_writeDownItem (l : Launch) (dC : Nat → ClassId) (dI : Nat → Nat → Nat) (q : Nat → ClassId) (h0 : Nat) (d : Nat → Nat) (k : Nat → Int32) (z : gS) (f : xF) (hI : xI q h0 d k z f) (p0 p1 : Int32) (u : mS) (hrp : rep q d u z f) (hk0 : k 0 = u.1 3) (hk1 : k 1 = u.1 28) (hk2 : k 2 = u.1 38) (hk3 : k 3 = u.1 39) (hpl : xPl q d z f p0) (i0 : Nat) (hi0 : i0 < (u.1 3).toNatClampNeg) (sz : Nat) : Met l yX11_writeDownItem wsX11_writeDownItem ({ frames := 1, cells := 0, slots := 0, locals := 23 }) (va_Pc [.ref h0, .ref (d (2000 + i0)), .int p0, .int p1] (fun U => U.heap.size = sz ∧ PX dC dI (va_pl z.1 f) (xT q) U ∧ va_D (fun _ => True) (va_pl z.1 f))) (va_Qv (fun (w : xU) => w.1 = k ∧ w.2.1 = z ∧ xI q h0 d k z w.2.2 ∧ rep q d (wdU u i0 p0 p1) z w.2.2 ∧ w.2.2 (d 3) = f (d 3)) (fun (w : xU) t => va_P (dC, dI) vwCl (va_pl w.2.1.1 w.2.2) t.heap ∧ va_D (va_A (va_pl z.1 f) sz) (va_pl w.2.1.1 w.2.2)) (va_A (va_pl z.1 f) sz)) 0 0 (va_A (va_pl z.1 f) sz) := by
  refine Met.ofW (cc := cX11_writeDownItem) (maxL := 5) (ret := none) (by decide) rfl ?_
  intro p e s m args below meth c s₁ B hml hv
  obtain ⟨rfl, hsz, ⟨⟨hP, hK, hN⟩, hXN⟩, hD0⟩ := hv
  have hx := B.exec
  have hb := B.bytes
  have hr := B.returns
  have hts := atoms_spec (ws := wsX11_writeDownItem) B.pre
  have hown : s.vm.findClass RX11 = some m.cls := findClass_of_methodNamed B.named
  have hlocks := B.notSynchronized
  subst hsz
  have hD := hD0.self (sz := s.heap.size)
  generalize hAe : va_A (va_pl z.1 f) s.heap.size = A at hD ⊢
  have hA : ∀ q : Nat, s.heap.size ≤ q → A q := fun q h => by rw [← hAe]; exact Or.inr h
  have hS : va_S A s.heap s.heap [] := va_S.rf
  have hl := lv_entry ([.ref h0, .ref (d (2000 + i0)), .int p0, .int p1]) (n := 5) (Nat.le_of_ble_eq_true rfl)
  rw [lg_entry_eq]
  generalize (lg_sl ([.ref h0, .ref (d (2000 + i0)), .int p0, .int p1]) ++ List.replicate (5 - (lg_sl ([.ref h0, .ref (d (2000 + i0)), .int p0, .int p1])).length) Slot.unset).toArray = ls at hl ⊢
  have hl : lv_has ls 5 [(0, .ref h0), (1, .ref (d (2000 + i0))), (2, .int p0), (3, .int p1)] := hl
  obtain ⟨rs_1, n_2, g_3, fg_4, hit_5, hs_6, hpa_7, hps_8, h1_9, h6_10, hcb_11, hpl_12, hlg_13, hnn_14, hfa_15, hfs_16, hfe_17, hrs_18, hkt_19⟩ := it_all hI hrp.2.2.1 hi0
  have hkk0 := hk0
  have hfe0 : fg_4 0 = u.2 47 (5 * i0) := hfe_17 0 (by decide)
  have hnb : bw (u.1 3) 0 80 = true := by rw [← hk0]; exact hI.1.1
  have h3m : f (d 3) = f (d 3) := rfl
  refine lv_aload_n hx hb dX11_writeDownItem_0 rfl (lv_at hl 1 rfl) ?_
  obtain ⟨kk_20, hk_21⟩ := pl_at hit_5.1 hs_6
  refine w_then (F0 m 4 ls [.ref (d (4000 + i0))]) (fun hgo => ?_) ?_
  ·
    rcases x_tag hit_5 with ht9 | ht9 | ht9 | ht9 | ht9 | ht9
    ·
      rw [ht9.2] at hk_21
      exact va_get (D := (dC, dI)) (ci := 2) (v := .ref (d (4000 + i0))) (C := RX2) (T := TX2) (N := 7) hx hb hts zl_X11_writeDownItem_X2 hown hK hP kk_20 hk_21 rfl 4 (by decide) (hts (.fieldLink RX11 382 "PageOne$Item" "first" "[I") (zat q_wsX11_writeDownItem k_wsX11_writeDownItem 202 rfl (by decide +kernel))) (fun _ h9 => h9) rfl dX11_writeDownItem_1 hgo
    ·
      rw [ht9.2] at hk_21
      exact va_get (D := (dC, dI)) (ci := 3) (v := .ref (d (4000 + i0))) (C := RX3) (T := TX3) (N := 8) hx hb hts zl_X11_writeDownItem_X3 hown hK hP kk_20 hk_21 rfl 4 (by decide) (hts (.fieldLink RX11 382 "PageOne$Item" "first" "[I") (zat q_wsX11_writeDownItem k_wsX11_writeDownItem 202 rfl (by decide +kernel))) (fun _ h9 => h9) rfl dX11_writeDownItem_1 hgo
    ·
      rw [ht9.2] at hk_21
      exact va_get (D := (dC, dI)) (ci := 4) (v := .ref (d (4000 + i0))) (C := RX5) (T := TX5) (N := 7) hx hb hts zl_X11_writeDownItem_X5 hown hK hP kk_20 hk_21 rfl 4 (by decide) (hts (.fieldLink RX11 382 "PageOne$Item" "first" "[I") (zat q_wsX11_writeDownItem k_wsX11_writeDownItem 202 rfl (by decide +kernel))) (fun _ h9 => h9) rfl dX11_writeDownItem_1 hgo
    ·
      rw [ht9.2] at hk_21
      exact va_get (D := (dC, dI)) (ci := 5) (v := .ref (d (4000 + i0))) (C := RX6) (T := TX6) (N := 9) hx hb hts zl_X11_writeDownItem_X6 hown hK hP kk_20 hk_21 rfl 4 (by decide) (hts (.fieldLink RX11 382 "PageOne$Item" "first" "[I") (zat q_wsX11_writeDownItem k_wsX11_writeDownItem 202 rfl (by decide +kernel))) (fun _ h9 => h9) rfl dX11_writeDownItem_1 hgo
    ·
      rw [ht9.2] at hk_21
      exact va_get (D := (dC, dI)) (ci := 6) (v := .ref (d (4000 + i0))) (C := RX7) (T := TX7) (N := 8) hx hb hts zl_X11_writeDownItem_X7 hown hK hP kk_20 hk_21 rfl 4 (by decide) (hts (.fieldLink RX11 382 "PageOne$Item" "first" "[I") (zat q_wsX11_writeDownItem k_wsX11_writeDownItem 202 rfl (by decide +kernel))) (fun _ h9 => h9) rfl dX11_writeDownItem_1 hgo
    ·
      rw [ht9.2] at hk_21
      exact va_get (D := (dC, dI)) (ci := 9) (v := .ref (d (4000 + i0))) (C := RX10) (T := TX10) (N := 9) hx hb hts zl_X11_writeDownItem_X10 hown hK hP kk_20 hk_21 rfl 4 (by decide) (hts (.fieldLink RX11 382 "PageOne$Item" "first" "[I") (zat q_wsX11_writeDownItem k_wsX11_writeDownItem 202 rfl (by decide +kernel))) (fun _ h9 => h9) rfl dX11_writeDownItem_1 hgo
  ·
    refine lv_iconst (v := 0) hx hb dX11_writeDownItem_4 (by decide) ?_
    obtain ⟨kk_22, hk_23⟩ := pl_at hfa_15.1 hfs_16
    refine va_iald hx hb hK hP kk_22 0 hk_23 rfl (by unfold vp_in; decide) dX11_writeDownItem_5 ?_
    refine lv_iconst (v := (-1)) hx hb dX11_writeDownItem_6 (by decide) ?_
    refine lv_icmp_ne (tgt := 40) hx hb dX11_writeDownItem_7 (by decide) (fun c_24 => ?_) (fun c_24 => ?_)
    ·
      rcases kd6 (kd_05 hrp.2.2.1 hi0).1 (kd_05 hrp.2.2.1 hi0).2 with hkd | hkd | hkd | hkd | hkd | hkd
      ·
        have ht_25 : tg z (d (2000 + i0)) 15 := ⟨hit_5.1, by rw [hkt_19, hkd]; rfl⟩
        obtain ⟨hx_27, hx_28, hx_29, ⟨hx_30, hx_31, hx_32⟩, hx_33, hx_34, hx_35⟩ := hrs_18.1 hkd
        have hs_26 : f (d (2000 + i0)) = .inr (9, [.int (nI i0), .int (u.2 4 i0), .ref (d (3000 + i0)), .int (u.2 22 i0), .ref (d (4000 + i0)), .int (u.2 5 i0), .ref (d (5000 + i0)), .int (u.2 15 i0), .ref (d (6000 + i0))]) := by rw [hs_6, ht_25.2, hx_27]; rfl
        refine lv_aload_n hx hb dX11_writeDownItem_40 rfl (lv_at hl 1 rfl) ?_
        obtain ⟨kk_36, hk_37⟩ := pl_at ht_25.1 hs_26
        refine va_instNo hx hb hown (hts (.classLink RX11 104 "PageOne$Paid") (zat q_wsX11_writeDownItem k_wsX11_writeDownItem 307 rfl (by decide +kernel))) hXN.n_X10_X6 (va_recv hK hP (ci := 9) (q0 := kk_36) rfl hk_37) dX11_writeDownItem_41 ?_
        refine lv_if_eq (tgt := 64) hx hb dX11_writeDownItem_44 (by decide) (fun c_38 => ?_) (fun c_38 => absurd (by decide) c_38)
        exact W.vret hx hb hr (fun t ht hW => ⟨⟨(k, z, f), rfl, ⟨rfl, rfl, hI, by rw [show wdU u i0 p0 p1 = mst u 48 (nI (80 * (u.1 38).toNatClampNeg + i0)) (vp_nar .boolean 1) from by unfold wdU; rw [if_neg (fun e9 => c_24 (hfe0.trans e9))]]; exact rep_day hrp (by rw [← hkk0]; exact hI.1.1) hi0 (by have h9 := vTd hI.1.2.2; rw [hk2] at h9; exact vlt h9) (Or.inl ⟨by rw [hkd]; decide, rfl⟩), h3m⟩, by rw [ht]; exact hP, hD⟩, hS.F ht⟩) hS.2.2 dX11_writeDownItem_64
      ·
        have ht_39 : tg z (d (2000 + i0)) 11 := ⟨hit_5.1, by rw [hkt_19, hkd]; rfl⟩
        obtain ⟨o9, hx_41, hx_42, hx_43, hx_44⟩ := hrs_18.2.1 hkd
        have hs_40 : f (d (2000 + i0)) = .inr (3, [.int (nI i0), .int (u.2 4 i0), .ref (d (3000 + i0)), .int (u.2 22 i0), .ref (d (4000 + i0)), .ref (d (2000 + o9)), .int (u.2 7 i0), .int (u.2 8 i0)]) := by rw [hs_6, ht_39.2, hx_44]; rfl
        refine lv_aload_n hx hb dX11_writeDownItem_40 rfl (lv_at hl 1 rfl) ?_
        obtain ⟨kk_50, hk_51⟩ := pl_at ht_39.1 hs_40
        refine va_instNo hx hb hown (hts (.classLink RX11 104 "PageOne$Paid") (zat q_wsX11_writeDownItem k_wsX11_writeDownItem 307 rfl (by decide +kernel))) hXN.n_X3_X6 (va_recv hK hP (ci := 3) (q0 := kk_50) rfl hk_51) dX11_writeDownItem_41 ?_
        refine lv_if_eq (tgt := 64) hx hb dX11_writeDownItem_44 (by decide) (fun c_52 => ?_) (fun c_52 => absurd (by decide) c_52)
        exact W.vret hx hb hr (fun t ht hW => ⟨⟨(k, z, f), rfl, ⟨rfl, rfl, hI, by rw [show wdU u i0 p0 p1 = mst u 48 (nI (80 * (u.1 38).toNatClampNeg + i0)) (vp_nar .boolean 1) from by unfold wdU; rw [if_neg (fun e9 => c_24 (hfe0.trans e9))]]; exact rep_day hrp (by rw [← hkk0]; exact hI.1.1) hi0 (by have h9 := vTd hI.1.2.2; rw [hk2] at h9; exact vlt h9) (Or.inl ⟨by rw [hkd]; decide, rfl⟩), h3m⟩, by rw [ht]; exact hP, hD⟩, hS.F ht⟩) hS.2.2 dX11_writeDownItem_64
      ·
        have ht_53 : tg z (d (2000 + i0)) 14 := ⟨hit_5.1, by rw [hkt_19, hkd]; rfl⟩
        obtain ⟨hx_55, hx_56, hx_57, ⟨hx_58, hx_59, hx_60⟩, hx_61, hx_62, hx_63⟩ := hrs_18.2.2.1 hkd
        have hs_54 : f (d (2000 + i0)) = .inr (6, [.int (nI i0), .int (u.2 4 i0), .ref (d (3000 + i0)), .int (u.2 22 i0), .ref (d (4000 + i0)), .ref (d (5000 + i0)), .ref (d (6000 + i0)), .int (u.2 17 i0)]) := by rw [hs_6, ht_53.2, hx_55]; rfl
        refine lv_aload_n hx hb dX11_writeDownItem_40 rfl (lv_at hl 1 rfl) ?_
        obtain ⟨kk_64, hk_65⟩ := pl_at ht_53.1 hs_54
        refine va_instNo hx hb hown (hts (.classLink RX11 104 "PageOne$Paid") (zat q_wsX11_writeDownItem k_wsX11_writeDownItem 307 rfl (by decide +kernel))) hXN.n_X7_X6 (va_recv hK hP (ci := 6) (q0 := kk_64) rfl hk_65) dX11_writeDownItem_41 ?_
        refine lv_if_eq (tgt := 64) hx hb dX11_writeDownItem_44 (by decide) (fun c_66 => ?_) (fun c_66 => absurd (by decide) c_66)
        exact W.vret hx hb hr (fun t ht hW => ⟨⟨(k, z, f), rfl, ⟨rfl, rfl, hI, by rw [show wdU u i0 p0 p1 = mst u 48 (nI (80 * (u.1 38).toNatClampNeg + i0)) (vp_nar .boolean 1) from by unfold wdU; rw [if_neg (fun e9 => c_24 (hfe0.trans e9))]]; exact rep_day hrp (by rw [← hkk0]; exact hI.1.1) hi0 (by have h9 := vTd hI.1.2.2; rw [hk2] at h9; exact vlt h9) (Or.inl ⟨by rw [hkd]; decide, rfl⟩), h3m⟩, by rw [ht]; exact hP, hD⟩, hS.F ht⟩) hS.2.2 dX11_writeDownItem_64
      ·
        have ht_67 : tg z (d (2000 + i0)) 13 := ⟨hit_5.1, by rw [hkt_19, hkd]; rfl⟩
        obtain ⟨hx_69, hx_70, hx_71, hx_72, hx_73, hx_74⟩ := hrs_18.2.2.2.1 hkd
        have hs_68 : f (d (2000 + i0)) = .inr (5, [.int (nI i0), .int (u.2 4 i0), .ref (d (3000 + i0)), .int (u.2 22 i0), .ref (d (4000 + i0)), .int (u.2 10 i0), .int (u.2 14 i0), .ref (d (5000 + i0)), .ref (d (6000 + i0))]) := by rw [hs_6, ht_67.2, hx_69]; rfl
        refine lv_aload_n hx hb dX11_writeDownItem_40 rfl (lv_at hl 1 rfl) ?_
        obtain ⟨kk_78, hk_79⟩ := pl_at ht_67.1 hs_68
        refine va_instS hx hb hown (hts (.classLink RX11 104 "PageOne$Paid") (zat q_wsX11_writeDownItem k_wsX11_writeDownItem 307 rfl (by decide +kernel))) (hK.1 5 (RX6, TX6, 9) rfl).2 (va_recv hK hP (ci := 5) (q0 := kk_78) rfl hk_79) dX11_writeDownItem_41 ?_
        refine lv_if_eq (tgt := 64) hx hb dX11_writeDownItem_44 (by decide) (fun c_80 => absurd c_80 (by decide)) (fun c_80 => ?_)
        refine lv_aload_n hx hb dX11_writeDownItem_47 rfl (lv_at hl 1 rfl) ?_
        obtain ⟨kk_81, hk_82⟩ := pl_at ht_67.1 hs_68
        refine va_castS hx hb hown (hts (.classLink RX11 104 "PageOne$Paid") (zat q_wsX11_writeDownItem k_wsX11_writeDownItem 307 rfl (by decide +kernel))) (hK.1 5 (RX6, TX6, 9) rfl).2 (va_recv hK hP (ci := 5) (q0 := kk_81) rfl hk_82) dX11_writeDownItem_48 ?_
        refine lv_astore (lv' := [(4, .ref (d (2000 + i0))), (0, .ref h0), (1, .ref (d (2000 + i0))), (2, .int p0), (3, .int p1)]) hx hb dX11_writeDownItem_51 hl (by decide) rfl (fun ls hl => ?_)
        refine lv_aload hx hb dX11_writeDownItem_53 (lv_at hl 0 rfl) ?_
        obtain ⟨kk_83, hk_84⟩ := pl_at ht_67.1 hs_68
        refine va_get (D := (dC, dI)) (ci := 5) (v := .ref (d (6000 + i0))) (C := RX6) (T := TX6) (N := 9) hx hb hts zl_X11_writeDownItem_X6 hown hK hP kk_83 hk_84 rfl 8 (by decide) (hts (.fieldLink RX11 388 "PageOne$Paid" "days" "[Z") (zat q_wsX11_writeDownItem k_wsX11_writeDownItem 361 rfl (by decide +kernel))) (fun _ h9 => h9) rfl dX11_writeDownItem_55 ?_
        refine lv_aload_n hx hb dX11_writeDownItem_58 rfl (lv_at hl 1 rfl) ?_
        obtain ⟨kk_85, hk_86⟩ := pl_at hI.2.1.1.1 hI.2.2.2.1.1
        refine va_get (D := (dC, dI)) (ci := 10) (v := .int (k 2)) (C := RX11) (T := TX11) (N := 9) hx hb hts zl_X11_writeDownItem_X11 hown hK hP kk_85 hk_86 rfl 7 (by decide) (hts (.fieldLink RX11 41 "PageOne" "today" "I") (zat q_wsX11_writeDownItem k_wsX11_writeDownItem 119 rfl (by decide +kernel))) (fun _ h9 => h9) rfl dX11_writeDownItem_59 ?_
        refine lv_iconst (v := 1) hx hb dX11_writeDownItem_62 (by decide) ?_
        obtain ⟨kk_87, hk_88⟩ := pl_at hx_71.1.1 hx_73
        have hD0 := hD
        refine va_zast hx hb hK hP hD hS kk_87 1 hk_88 rfl (vTd hI.1.2.2) dX11_writeDownItem_63 (fun H locs hP hD hS => ?_)
        rw [pl_set hD0 hx_71.1.1 hx_73 hk_88] at hP hD
        obtain ⟨f_89, ef_89⟩ : ∃ y : xF, y = va_up f (d (6000 + i0)) (aI (q 1) 400 (upd hx_72 ((k 2) : Int32).toNatClampNeg (vp_nar .boolean 1))) := ⟨_, rfl⟩
        have hI : xI q h0 d k z f_89 := by rw [ef_89]; exact x_up hI hx_71.1 (by decide) (cO_21 hx_71.1.2 ⟨_, rfl⟩)
        have hP : va_P (dC, dI) vwCl (va_pl z.1 f_89) H := by rw [ef_89]; exact hP
        have hD : va_D A (va_pl z.1 f_89) := by rw [ef_89]; exact hD
        exact W.vret hx hb hr (fun t ht hW => ⟨⟨(k, z, f_89), rfl, ⟨rfl, rfl, hI, by rw [show wdU u i0 p0 p1 = mst u 48 (nI (80 * (u.1 38).toNatClampNeg + i0)) (vp_nar .boolean 1) from by unfold wdU; rw [if_neg (fun e9 => c_24 (hfe0.trans e9))]]; exact rep_day hrp (by rw [← hkk0]; exact hI.1.1) hi0 (by have h9 := vTd hI.1.2.2; rw [hk2] at h9; exact vlt h9) (Or.inr ⟨hkd, _, hx_73, by rw [ef_89, hk2]⟩), (by show f_89 (d 3) = f (d 3); rw [ef_89]; exact (up_o (tg_ne hI.2.1.2.2.2.2.1 hx_71.1 (by decide))).trans h3m)⟩, by rw [ht]; exact hP, hD⟩, hS.F ht⟩) hS.2.2 dX11_writeDownItem_64
      ·
        have ht_90 : tg z (d (2000 + i0)) 10 := ⟨hit_5.1, by rw [hkt_19, hkd]; rfl⟩
        have hs_91 : f (d (2000 + i0)) = .inr (2, [.int (nI i0), .int (u.2 4 i0), .ref (d (3000 + i0)), .int (u.2 22 i0), .ref (d (4000 + i0)), .int (u.2 5 i0), .int (u.2 6 i0)]) := by rw [hs_6, ht_90.2, hrs_18.2.2.2.2.1 hkd]; rfl
        refine lv_aload_n hx hb dX11_writeDownItem_40 rfl (lv_at hl 1 rfl) ?_
        obtain ⟨kk_101, hk_102⟩ := pl_at ht_90.1 hs_91
        refine va_instNo hx hb hown (hts (.classLink RX11 104 "PageOne$Paid") (zat q_wsX11_writeDownItem k_wsX11_writeDownItem 307 rfl (by decide +kernel))) hXN.n_X2_X6 (va_recv hK hP (ci := 2) (q0 := kk_101) rfl hk_102) dX11_writeDownItem_41 ?_
        refine lv_if_eq (tgt := 64) hx hb dX11_writeDownItem_44 (by decide) (fun c_103 => ?_) (fun c_103 => absurd (by decide) c_103)
        exact W.vret hx hb hr (fun t ht hW => ⟨⟨(k, z, f), rfl, ⟨rfl, rfl, hI, by rw [show wdU u i0 p0 p1 = mst u 48 (nI (80 * (u.1 38).toNatClampNeg + i0)) (vp_nar .boolean 1) from by unfold wdU; rw [if_neg (fun e9 => c_24 (hfe0.trans e9))]]; exact rep_day hrp (by rw [← hkk0]; exact hI.1.1) hi0 (by have h9 := vTd hI.1.2.2; rw [hk2] at h9; exact vlt h9) (Or.inl ⟨by rw [hkd]; decide, rfl⟩), h3m⟩, by rw [ht]; exact hP, hD⟩, hS.F ht⟩) hS.2.2 dX11_writeDownItem_64
      ·
        have ht_104 : tg z (d (2000 + i0)) 12 := ⟨hit_5.1, by rw [hkt_19, hkd]; rfl⟩
        obtain ⟨o9, hx_106, hx_107, hx_108⟩ := hrs_18.2.2.2.2.2 hkd
        have hs_105 : f (d (2000 + i0)) = .inr (4, [.int (nI i0), .int (u.2 4 i0), .ref (d (3000 + i0)), .int (u.2 22 i0), .ref (d (4000 + i0)), .ref (d (2000 + o9)), .int (u.2 8 i0)]) := by rw [hs_6, ht_104.2, hx_108]; rfl
        refine lv_aload_n hx hb dX11_writeDownItem_40 rfl (lv_at hl 1 rfl) ?_
        obtain ⟨kk_115, hk_116⟩ := pl_at ht_104.1 hs_105
        refine va_instNo hx hb hown (hts (.classLink RX11 104 "PageOne$Paid") (zat q_wsX11_writeDownItem k_wsX11_writeDownItem 307 rfl (by decide +kernel))) hXN.n_X5_X6 (va_recv hK hP (ci := 4) (q0 := kk_115) rfl hk_116) dX11_writeDownItem_41 ?_
        refine lv_if_eq (tgt := 64) hx hb dX11_writeDownItem_44 (by decide) (fun c_117 => ?_) (fun c_117 => absurd (by decide) c_117)
        exact W.vret hx hb hr (fun t ht hW => ⟨⟨(k, z, f), rfl, ⟨rfl, rfl, hI, by rw [show wdU u i0 p0 p1 = mst u 48 (nI (80 * (u.1 38).toNatClampNeg + i0)) (vp_nar .boolean 1) from by unfold wdU; rw [if_neg (fun e9 => c_24 (hfe0.trans e9))]]; exact rep_day hrp (by rw [← hkk0]; exact hI.1.1) hi0 (by have h9 := vTd hI.1.2.2; rw [hk2] at h9; exact vlt h9) (Or.inl ⟨by rw [hkd]; decide, rfl⟩), h3m⟩, by rw [ht]; exact hP, hD⟩, hS.F ht⟩) hS.2.2 dX11_writeDownItem_64
    ·
      refine lv_iconst (v := 0) hx hb dX11_writeDownItem_10 (by decide) ?_
      refine lv_istore (lv' := [(4, .int 0), (0, .ref h0), (1, .ref (d (2000 + i0))), (2, .int p0), (3, .int p1)]) hx hb dX11_writeDownItem_11 hl (by decide) rfl (fun ls hl => ?_)
      refine y_wdi_l (f0 := f) (u := u) hk0 hi0 hx hb hml hts hown hN hXN hK (Nat.le_of_ble_eq_true rfl) (Nat.le_of_ble_eq_true rfl) (Nat.le_of_ble_eq_true rfl) (Nat.le_of_ble_eq_true rfl) hA (fun f2 H locs ls hg hI hP hD hS hl => ?_) 6 0 _ _ _ ls (by decide) (by decide) ⟨hrp, hpl, rfl⟩ hI hP hD hS (lv_sub hl [0, 1, 2, 3, 4] rfl)
      obtain ⟨u5, eu5⟩ : ∃ y : mS, y = wdF u i0 p0 p1 5 := ⟨_, rfl⟩
      have hrp5 : rep q d u5 z f2 := by rw [eu5]; exact hg.1
      have hi5 : i0 < (u5.1 3).toNatClampNeg := by rw [eu5, wdF_1]; exact hi0
      have h3m := hg.2.2
      obtain ⟨rs_118, n_119, g_120, fg_121, hit_122, hs_123, hpa_124, hps_125, h1_126, h6_127, hcb_128, hpl_129, hlg_130, hnn_131, hfa_132, hfs_133, hfe_134, hrs_135, hkt_136⟩ := it_all hI hrp5.2.2.1 hi5
      rcases kd6 (kd_05 hrp5.2.2.1 hi5).1 (kd_05 hrp5.2.2.1 hi5).2 with hkd | hkd | hkd | hkd | hkd | hkd
      ·
        have ht_137 : tg z (d (2000 + i0)) 15 := ⟨hit_122.1, by rw [hkt_136, hkd]; rfl⟩
        obtain ⟨hx_139, hx_140, hx_141, ⟨hx_142, hx_143, hx_144⟩, hx_145, hx_146, hx_147⟩ := hrs_135.1 hkd
        have hs_138 : f2 (d (2000 + i0)) = .inr (9, [.int (nI i0), .int (u5.2 4 i0), .ref (d (3000 + i0)), .int (u5.2 22 i0), .ref (d (4000 + i0)), .int (u5.2 5 i0), .ref (d (5000 + i0)), .int (u5.2 15 i0), .ref (d (6000 + i0))]) := by rw [hs_123, ht_137.2, hx_139]; rfl
        refine lv_aload_n hx hb dX11_writeDownItem_40 rfl (lv_at hl 1 rfl) ?_
        obtain ⟨kk_148, hk_149⟩ := pl_at ht_137.1 hs_138
        refine va_instNo hx hb hown (hts (.classLink RX11 104 "PageOne$Paid") (zat q_wsX11_writeDownItem k_wsX11_writeDownItem 307 rfl (by decide +kernel))) hXN.n_X10_X6 (va_recv hK hP (ci := 9) (q0 := kk_148) rfl hk_149) dX11_writeDownItem_41 ?_
        refine lv_if_eq (tgt := 64) hx hb dX11_writeDownItem_44 (by decide) (fun c_150 => ?_) (fun c_150 => absurd (by decide) c_150)
        exact W.vret hx hb hr (fun t ht hW => ⟨⟨(k, z, f2), rfl, ⟨rfl, rfl, hI, by rw [show wdU u i0 p0 p1 = mst u5 48 (nI (80 * (u5.1 38).toNatClampNeg + i0)) (vp_nar .boolean 1) from by unfold wdU; rw [if_pos (hfe0.symm.trans c_24), eu5, wdF_1]]; exact rep_day hrp5 (by rw [eu5, wdF_1, ← hkk0]; exact hI.1.1) hi5 (by have h9 := vTd hI.1.2.2; rw [hk2, show u.1 38 = u5.1 38 from by rw [eu5, wdF_1]] at h9; exact vlt h9) (Or.inl ⟨by rw [hkd]; decide, rfl⟩), h3m⟩, by rw [ht]; exact hP, hD⟩, hS.F ht⟩) hS.2.2 dX11_writeDownItem_64
      ·
        have ht_151 : tg z (d (2000 + i0)) 11 := ⟨hit_122.1, by rw [hkt_136, hkd]; rfl⟩
        obtain ⟨o9, hx_153, hx_154, hx_155, hx_156⟩ := hrs_135.2.1 hkd
        have hs_152 : f2 (d (2000 + i0)) = .inr (3, [.int (nI i0), .int (u5.2 4 i0), .ref (d (3000 + i0)), .int (u5.2 22 i0), .ref (d (4000 + i0)), .ref (d (2000 + o9)), .int (u5.2 7 i0), .int (u5.2 8 i0)]) := by rw [hs_123, ht_151.2, hx_156]; rfl
        refine lv_aload_n hx hb dX11_writeDownItem_40 rfl (lv_at hl 1 rfl) ?_
        obtain ⟨kk_162, hk_163⟩ := pl_at ht_151.1 hs_152
        refine va_instNo hx hb hown (hts (.classLink RX11 104 "PageOne$Paid") (zat q_wsX11_writeDownItem k_wsX11_writeDownItem 307 rfl (by decide +kernel))) hXN.n_X3_X6 (va_recv hK hP (ci := 3) (q0 := kk_162) rfl hk_163) dX11_writeDownItem_41 ?_
        refine lv_if_eq (tgt := 64) hx hb dX11_writeDownItem_44 (by decide) (fun c_164 => ?_) (fun c_164 => absurd (by decide) c_164)
        exact W.vret hx hb hr (fun t ht hW => ⟨⟨(k, z, f2), rfl, ⟨rfl, rfl, hI, by rw [show wdU u i0 p0 p1 = mst u5 48 (nI (80 * (u5.1 38).toNatClampNeg + i0)) (vp_nar .boolean 1) from by unfold wdU; rw [if_pos (hfe0.symm.trans c_24), eu5, wdF_1]]; exact rep_day hrp5 (by rw [eu5, wdF_1, ← hkk0]; exact hI.1.1) hi5 (by have h9 := vTd hI.1.2.2; rw [hk2, show u.1 38 = u5.1 38 from by rw [eu5, wdF_1]] at h9; exact vlt h9) (Or.inl ⟨by rw [hkd]; decide, rfl⟩), h3m⟩, by rw [ht]; exact hP, hD⟩, hS.F ht⟩) hS.2.2 dX11_writeDownItem_64
      ·
        have ht_165 : tg z (d (2000 + i0)) 14 := ⟨hit_122.1, by rw [hkt_136, hkd]; rfl⟩
        obtain ⟨hx_167, hx_168, hx_169, ⟨hx_170, hx_171, hx_172⟩, hx_173, hx_174, hx_175⟩ := hrs_135.2.2.1 hkd
        have hs_166 : f2 (d (2000 + i0)) = .inr (6, [.int (nI i0), .int (u5.2 4 i0), .ref (d (3000 + i0)), .int (u5.2 22 i0), .ref (d (4000 + i0)), .ref (d (5000 + i0)), .ref (d (6000 + i0)), .int (u5.2 17 i0)]) := by rw [hs_123, ht_165.2, hx_167]; rfl
        refine lv_aload_n hx hb dX11_writeDownItem_40 rfl (lv_at hl 1 rfl) ?_
        obtain ⟨kk_176, hk_177⟩ := pl_at ht_165.1 hs_166
        refine va_instNo hx hb hown (hts (.classLink RX11 104 "PageOne$Paid") (zat q_wsX11_writeDownItem k_wsX11_writeDownItem 307 rfl (by decide +kernel))) hXN.n_X7_X6 (va_recv hK hP (ci := 6) (q0 := kk_176) rfl hk_177) dX11_writeDownItem_41 ?_
        refine lv_if_eq (tgt := 64) hx hb dX11_writeDownItem_44 (by decide) (fun c_178 => ?_) (fun c_178 => absurd (by decide) c_178)
        exact W.vret hx hb hr (fun t ht hW => ⟨⟨(k, z, f2), rfl, ⟨rfl, rfl, hI, by rw [show wdU u i0 p0 p1 = mst u5 48 (nI (80 * (u5.1 38).toNatClampNeg + i0)) (vp_nar .boolean 1) from by unfold wdU; rw [if_pos (hfe0.symm.trans c_24), eu5, wdF_1]]; exact rep_day hrp5 (by rw [eu5, wdF_1, ← hkk0]; exact hI.1.1) hi5 (by have h9 := vTd hI.1.2.2; rw [hk2, show u.1 38 = u5.1 38 from by rw [eu5, wdF_1]] at h9; exact vlt h9) (Or.inl ⟨by rw [hkd]; decide, rfl⟩), h3m⟩, by rw [ht]; exact hP, hD⟩, hS.F ht⟩) hS.2.2 dX11_writeDownItem_64
      ·
        have ht_179 : tg z (d (2000 + i0)) 13 := ⟨hit_122.1, by rw [hkt_136, hkd]; rfl⟩
        obtain ⟨hx_181, hx_182, hx_183, hx_184, hx_185, hx_186⟩ := hrs_135.2.2.2.1 hkd
        have hs_180 : f2 (d (2000 + i0)) = .inr (5, [.int (nI i0), .int (u5.2 4 i0), .ref (d (3000 + i0)), .int (u5.2 22 i0), .ref (d (4000 + i0)), .int (u5.2 10 i0), .int (u5.2 14 i0), .ref (d (5000 + i0)), .ref (d (6000 + i0))]) := by rw [hs_123, ht_179.2, hx_181]; rfl
        refine lv_aload_n hx hb dX11_writeDownItem_40 rfl (lv_at hl 1 rfl) ?_
        obtain ⟨kk_190, hk_191⟩ := pl_at ht_179.1 hs_180
        refine va_instS hx hb hown (hts (.classLink RX11 104 "PageOne$Paid") (zat q_wsX11_writeDownItem k_wsX11_writeDownItem 307 rfl (by decide +kernel))) (hK.1 5 (RX6, TX6, 9) rfl).2 (va_recv hK hP (ci := 5) (q0 := kk_190) rfl hk_191) dX11_writeDownItem_41 ?_
        refine lv_if_eq (tgt := 64) hx hb dX11_writeDownItem_44 (by decide) (fun c_192 => absurd c_192 (by decide)) (fun c_192 => ?_)
        refine lv_aload_n hx hb dX11_writeDownItem_47 rfl (lv_at hl 1 rfl) ?_
        obtain ⟨kk_193, hk_194⟩ := pl_at ht_179.1 hs_180
        refine va_castS hx hb hown (hts (.classLink RX11 104 "PageOne$Paid") (zat q_wsX11_writeDownItem k_wsX11_writeDownItem 307 rfl (by decide +kernel))) (hK.1 5 (RX6, TX6, 9) rfl).2 (va_recv hK hP (ci := 5) (q0 := kk_193) rfl hk_194) dX11_writeDownItem_48 ?_
        refine lv_astore (lv' := [(4, .ref (d (2000 + i0))), (0, .ref h0), (1, .ref (d (2000 + i0))), (2, .int p0), (3, .int p1)]) hx hb dX11_writeDownItem_51 hl (by decide) rfl (fun ls hl => ?_)
        refine lv_aload hx hb dX11_writeDownItem_53 (lv_at hl 0 rfl) ?_
        obtain ⟨kk_195, hk_196⟩ := pl_at ht_179.1 hs_180
        refine va_get (D := (dC, dI)) (ci := 5) (v := .ref (d (6000 + i0))) (C := RX6) (T := TX6) (N := 9) hx hb hts zl_X11_writeDownItem_X6 hown hK hP kk_195 hk_196 rfl 8 (by decide) (hts (.fieldLink RX11 388 "PageOne$Paid" "days" "[Z") (zat q_wsX11_writeDownItem k_wsX11_writeDownItem 361 rfl (by decide +kernel))) (fun _ h9 => h9) rfl dX11_writeDownItem_55 ?_
        refine lv_aload_n hx hb dX11_writeDownItem_58 rfl (lv_at hl 1 rfl) ?_
        obtain ⟨kk_197, hk_198⟩ := pl_at hI.2.1.1.1 hI.2.2.2.1.1
        refine va_get (D := (dC, dI)) (ci := 10) (v := .int (k 2)) (C := RX11) (T := TX11) (N := 9) hx hb hts zl_X11_writeDownItem_X11 hown hK hP kk_197 hk_198 rfl 7 (by decide) (hts (.fieldLink RX11 41 "PageOne" "today" "I") (zat q_wsX11_writeDownItem k_wsX11_writeDownItem 119 rfl (by decide +kernel))) (fun _ h9 => h9) rfl dX11_writeDownItem_59 ?_
        refine lv_iconst (v := 1) hx hb dX11_writeDownItem_62 (by decide) ?_
        obtain ⟨kk_199, hk_200⟩ := pl_at hx_183.1.1 hx_185
        have hD0 := hD
        refine va_zast hx hb hK hP hD hS kk_199 1 hk_200 rfl (vTd hI.1.2.2) dX11_writeDownItem_63 (fun H locs hP hD hS => ?_)
        rw [pl_set hD0 hx_183.1.1 hx_185 hk_200] at hP hD
        obtain ⟨f_201, ef_201⟩ : ∃ y : xF, y = va_up f2 (d (6000 + i0)) (aI (q 1) 400 (upd hx_184 ((k 2) : Int32).toNatClampNeg (vp_nar .boolean 1))) := ⟨_, rfl⟩
        have hI : xI q h0 d k z f_201 := by rw [ef_201]; exact x_up hI hx_183.1 (by decide) (cO_21 hx_183.1.2 ⟨_, rfl⟩)
        have hP : va_P (dC, dI) vwCl (va_pl z.1 f_201) H := by rw [ef_201]; exact hP
        have hD : va_D A (va_pl z.1 f_201) := by rw [ef_201]; exact hD
        exact W.vret hx hb hr (fun t ht hW => ⟨⟨(k, z, f_201), rfl, ⟨rfl, rfl, hI, by rw [show wdU u i0 p0 p1 = mst u5 48 (nI (80 * (u5.1 38).toNatClampNeg + i0)) (vp_nar .boolean 1) from by unfold wdU; rw [if_pos (hfe0.symm.trans c_24), eu5, wdF_1]]; exact rep_day hrp5 (by rw [eu5, wdF_1, ← hkk0]; exact hI.1.1) hi5 (by have h9 := vTd hI.1.2.2; rw [hk2, show u.1 38 = u5.1 38 from by rw [eu5, wdF_1]] at h9; exact vlt h9) (Or.inr ⟨hkd, _, hx_185, by rw [ef_201, hk2, show u.1 38 = u5.1 38 from by rw [eu5, wdF_1]]⟩), (by show f_201 (d 3) = f (d 3); rw [ef_201]; exact (up_o (tg_ne hI.2.1.2.2.2.2.1 hx_183.1 (by decide))).trans h3m)⟩, by rw [ht]; exact hP, hD⟩, hS.F ht⟩) hS.2.2 dX11_writeDownItem_64
      ·
        have ht_202 : tg z (d (2000 + i0)) 10 := ⟨hit_122.1, by rw [hkt_136, hkd]; rfl⟩
        have hs_203 : f2 (d (2000 + i0)) = .inr (2, [.int (nI i0), .int (u5.2 4 i0), .ref (d (3000 + i0)), .int (u5.2 22 i0), .ref (d (4000 + i0)), .int (u5.2 5 i0), .int (u5.2 6 i0)]) := by rw [hs_123, ht_202.2, hrs_135.2.2.2.2.1 hkd]; rfl
        refine lv_aload_n hx hb dX11_writeDownItem_40 rfl (lv_at hl 1 rfl) ?_
        obtain ⟨kk_213, hk_214⟩ := pl_at ht_202.1 hs_203
        refine va_instNo hx hb hown (hts (.classLink RX11 104 "PageOne$Paid") (zat q_wsX11_writeDownItem k_wsX11_writeDownItem 307 rfl (by decide +kernel))) hXN.n_X2_X6 (va_recv hK hP (ci := 2) (q0 := kk_213) rfl hk_214) dX11_writeDownItem_41 ?_
        refine lv_if_eq (tgt := 64) hx hb dX11_writeDownItem_44 (by decide) (fun c_215 => ?_) (fun c_215 => absurd (by decide) c_215)
        exact W.vret hx hb hr (fun t ht hW => ⟨⟨(k, z, f2), rfl, ⟨rfl, rfl, hI, by rw [show wdU u i0 p0 p1 = mst u5 48 (nI (80 * (u5.1 38).toNatClampNeg + i0)) (vp_nar .boolean 1) from by unfold wdU; rw [if_pos (hfe0.symm.trans c_24), eu5, wdF_1]]; exact rep_day hrp5 (by rw [eu5, wdF_1, ← hkk0]; exact hI.1.1) hi5 (by have h9 := vTd hI.1.2.2; rw [hk2, show u.1 38 = u5.1 38 from by rw [eu5, wdF_1]] at h9; exact vlt h9) (Or.inl ⟨by rw [hkd]; decide, rfl⟩), h3m⟩, by rw [ht]; exact hP, hD⟩, hS.F ht⟩) hS.2.2 dX11_writeDownItem_64
      ·
        have ht_216 : tg z (d (2000 + i0)) 12 := ⟨hit_122.1, by rw [hkt_136, hkd]; rfl⟩
        obtain ⟨o9, hx_218, hx_219, hx_220⟩ := hrs_135.2.2.2.2.2 hkd
        have hs_217 : f2 (d (2000 + i0)) = .inr (4, [.int (nI i0), .int (u5.2 4 i0), .ref (d (3000 + i0)), .int (u5.2 22 i0), .ref (d (4000 + i0)), .ref (d (2000 + o9)), .int (u5.2 8 i0)]) := by rw [hs_123, ht_216.2, hx_220]; rfl
        refine lv_aload_n hx hb dX11_writeDownItem_40 rfl (lv_at hl 1 rfl) ?_
        obtain ⟨kk_227, hk_228⟩ := pl_at ht_216.1 hs_217
        refine va_instNo hx hb hown (hts (.classLink RX11 104 "PageOne$Paid") (zat q_wsX11_writeDownItem k_wsX11_writeDownItem 307 rfl (by decide +kernel))) hXN.n_X5_X6 (va_recv hK hP (ci := 4) (q0 := kk_227) rfl hk_228) dX11_writeDownItem_41 ?_
        refine lv_if_eq (tgt := 64) hx hb dX11_writeDownItem_44 (by decide) (fun c_229 => ?_) (fun c_229 => absurd (by decide) c_229)
        exact W.vret hx hb hr (fun t ht hW => ⟨⟨(k, z, f2), rfl, ⟨rfl, rfl, hI, by rw [show wdU u i0 p0 p1 = mst u5 48 (nI (80 * (u5.1 38).toNatClampNeg + i0)) (vp_nar .boolean 1) from by unfold wdU; rw [if_pos (hfe0.symm.trans c_24), eu5, wdF_1]]; exact rep_day hrp5 (by rw [eu5, wdF_1, ← hkk0]; exact hI.1.1) hi5 (by have h9 := vTd hI.1.2.2; rw [hk2, show u.1 38 = u5.1 38 from by rw [eu5, wdF_1]] at h9; exact vlt h9) (Or.inl ⟨by rw [hkd]; decide, rfl⟩), h3m⟩, by rw [ht]; exact hP, hD⟩, hS.F ht⟩) hS.2.2 dX11_writeDownItem_64
theorem wdU_1 (u : mS) (i : Nat) (p s : Int32) : (wdU u i p s).1 = u.1 := by
  unfold wdU
  show (if u.2 47 (5 * i) = (-1) then wdF u i p s 5 else u).1 = u.1
  split
  · exact wdF_1 u i p s 5
  · rfl
theorem wdU_k (u : mS) (i : Nat) (p s : Int32) {r : Nat} (h : r ≠ 47) (h2 : r ≠ 48) : (wdU u i p s).2 r = u.2 r := by
  unfold wdU
  rw [mst_other h2]
  split
  · exact wdF_k u i p s h 5
  · rfl
/-- one cell of a plate, written down -/
def wdS (p c l : Nat) (w : mS) : mS := if bw (w.2 44 (480 * p + (60 * c + l))) 0 (w.1 3 - 1) = true then wdU w (w.2 44 (480 * p + (60 * c + l))).toNatClampNeg (nI p) (nI (60 * c + l)) else w
def wdC (p c : Nat) (u : mS) : Nat → mS
  | 0 => u
  | l + 1 => wdS p c l (wdC p c u l)
def wdP (p : Nat) (u : mS) : Nat → mS
  | 0 => u
  | c + 1 => wdC p c (wdP p u c) (u.2 43 (8 * p + c)).toNatClampNeg
theorem wdS_1 (p c l : Nat) (w : mS) : (wdS p c l w).1 = w.1 := by
  unfold wdS; split
  · exact wdU_1 _ _ _ _
  · rfl
theorem wdS_k (p c l : Nat) (w : mS) {r : Nat} (h : r ≠ 47) (h2 : r ≠ 48) : (wdS p c l w).2 r = w.2 r := by
  unfold wdS; split
  · exact wdU_k _ _ _ _ h h2
  · rfl
theorem wdC_1 (p c : Nat) (u : mS) : ∀ l, (wdC p c u l).1 = u.1
  | 0 => rfl
  | l + 1 => (wdS_1 p c l _).trans (wdC_1 p c u l)
theorem wdC_k (p c : Nat) (u : mS) {r : Nat} (h : r ≠ 47) (h2 : r ≠ 48) : ∀ l, (wdC p c u l).2 r = u.2 r
  | 0 => rfl
  | l + 1 => (wdS_k p c l _ h h2).trans (wdC_k p c u h h2 l)
theorem wdP_1 (p : Nat) (u : mS) : ∀ c, (wdP p u c).1 = u.1
  | 0 => rfl
  | c + 1 => (wdC_1 p c _ _).trans (wdP_1 p u c)
theorem wdP_k (p : Nat) (u : mS) {r : Nat} (h : r ≠ 47) (h2 : r ≠ 48) : ∀ c, (wdP p u c).2 r = u.2 r
  | 0 => rfl
  | c + 1 => (wdC_k p c _ h h2 _).trans (wdP_k p u h h2 c)
/-- all that is told of plate p -/
theorem pl_all {q h0 d k z f u} (hI : xI q h0 d k z f) (h : rPl q d u z f) {p : Nat} (hp : p < 12) (h40 : u.2 40 p = 1) : ∃ (m : Int32) (gl gc : Nat → Int32) (g : Nat → Option Nat), f (d 1) = aR (q 2) 12 g ∧ g p = some (d (1000 + p)) ∧ tg z (d (1000 + p)) 7 ∧ tg z (d (1020 + p)) 8 ∧ tg z (d (1040 + p)) 9 ∧ f (d (1000 + p)) = .inr (8, [.ref (d (1020 + p)), .ref (d (1040 + p)), .int m, .int (u.2 41 p), .int (u.2 42 p)]) ∧ f (d (1020 + p)) = aI (q 0) 8 gl ∧ (∀ j, j < 8 → bw (gl j) 0 60 = true) ∧ f (d (1040 + p)) = aI (q 0) 480 gc ∧ eqR 8 gl (u.2 43) (8 * p) ∧ eqR 480 gc (u.2 44) (480 * p) := by
  obtain ⟨g, a1, a2⟩ := h
  rcases a2 p hp with ⟨b1, -⟩ | ⟨b1, b2, m1, m2, m3, m, s1, ⟨gl, s2, s3⟩, gc, s4, s5⟩
  · rw [h40] at b1; exact absurd b1 (by decide)
  · obtain ⟨g8, hs, hg⟩ := x_ln hI m2.1
    obtain rfl := (aI_inj (hs.symm.trans s2)).2
    exact ⟨m, g8, gc, g, a1, b2, m1.1, m2.1, m3.1, s1, s2, hg, s4, s3, s5⟩
theorem xPl_of {q h0 d k z f u} (hI : xI q h0 d k z f) (h : rPl q d u z f) {p : Nat} (hp : p < 12) (h40 : u.2 40 p = 1) : xPl q d z f (nI p) := by
  obtain ⟨m, gl, gc, g, a1, a2, a3, -⟩ := pl_all hI h hp h40
  exact ⟨bw11 hp, g, _, a1, by rw [nI_clamp (by omega)]; exact a2, a3⟩
set_option maxHeartbeats 4000000 in
set_option maxRecDepth 100000 in
theorem y_wd_in {p : Program} {l : Launch} {e : Env} {R : Room} {s : State} {m : MethodId} {args : Array Value} {below : List Frame} {meth : Method} {c : Code} {Q : State → Prop} {cells slots : Nat} {dC : Nat → ClassId} {dI : Nat → Nat → Nat} {q : Nat → ClassId} {h0 : Nat} {d : Nat → Nat} {k : Nat → Int32} {z : gS} {f0 : xF} {u : mS} (hk0 : k 0 = u.1 3) (hk1 : k 1 = u.1 28) (hk2 : k 2 = u.1 38) (hk3 : k 3 = u.1 39) {P c9 L9 : Nat} (hP9 : P < 12) (hc8 : c9 < 8) (h40 : u.2 40 P = 1) (eL : u.2 43 (8 * P + c9) = nI L9) (hL60 : L9 ≤ 60) {A : Nat → Prop} {H0 : Heap} (hx : p.tables.exec = Jvm.exec) (hb : c.code = cX11_writeDown) (hml : c.maxLocals = 6) (hts : ∀ w ∈ wsX11_writeDown, w.before args s = true) (hown : s.vm.findClass RX11 = some m.cls) (hN : NN s) (hXN : XN s) (hK : va_K (dC, dI) vwCl (xT q) s) (hRf : 3 ≤ R.frames) (hRl : 64 ≤ R.locals) (hRc : cells ≤ R.cells) (hRs : slots ≤ R.slots) (hA : ∀ q : Nat, H0.size ≤ q → A q) (kx67 : ∀ (f : xF) (H : Heap) (locs : List Loc) (ls : Array Slot), (rep q d (wdC P c9 u L9) z f ∧ f (d 3) = f0 (d 3)) → xI q h0 d k z f → va_P (dC, dI) vwCl (va_pl z.1 f) H → va_D A (va_pl z.1 f) → va_S A H0 H locs → lv_has ls 6 [(3, .int (nI c9)), (0, .ref h0), (1, .int (nI P)), (2, .ref (d (1000 + P)))] → W p l e R s m args below meth c H locs cells slots Q (F0 m 67 ls [])) : ∀ (kk i : Nat) (f : xF) (H : Heap) (locs : List Loc) (ls : Array Slot), i ≤ L9 → L9 - i < kk → (rep q d (wdC P c9 u i) z f ∧ f (d 3) = f0 (d 3)) → xI q h0 d k z f → va_P (dC, dI) vwCl (va_pl z.1 f) H → va_D A (va_pl z.1 f) → va_S A H0 H locs → lv_has ls 6 [(4, .int (nI i)), (3, .int (nI c9)), (0, .ref h0), (1, .int (nI P)), (2, .ref (d (1000 + P)))] → W p l e R s m args below meth c H locs cells slots Q (F0 m 18 ls []) := by
  intro kk
  induction kk with
  | zero => intro i f H locs ls h1 h2; exact absurd h2 (Nat.not_lt_zero _)
  | succ kk ih =>
    intro i f H locs ls hi hkk hg hI hP hD hS hl
    obtain ⟨ui, eui⟩ : ∃ y : mS, y = wdC P c9 u i := ⟨_, rfl⟩
    have hrpi : rep q d ui z f := by rw [eui]; exact hg.1
    have hu1 : ui.1 = u.1 := by rw [eui, wdC_1]
    have h40i : ui.2 40 P = 1 := by rw [eui, wdC_k _ _ _ (by decide) (by decide)]; exact h40
    have h43i : ui.2 43 = u.2 43 := by rw [eui, wdC_k _ _ _ (by decide) (by decide)]
    have hk1o := hk1
    obtain ⟨m_1, gl_2, gc_3, gp_4, hp_5, hp_6, ht_7, ht_8, ht_9, hs_10, hg_11, hgb_12, hc_13, el_14, ec_15⟩ := pl_all hI hrpi.2.1 hP9 h40i
    refine lv_iload hx hb dX11_writeDown_18 (lv_at hl 0 rfl) ?_
    refine lv_aload_n hx hb dX11_writeDown_20 rfl (lv_at hl 4 rfl) ?_
    obtain ⟨kk_16, hk_17⟩ := pl_at ht_7.1 hs_10
    refine va_get (D := (dC, dI)) (ci := 8) (v := .ref (d (1020 + P))) (C := RX9) (T := TX9) (N := 5) hx hb hts zl_X11_writeDown_X9 hown hK hP kk_16 hk_17 rfl 0 (by decide) (hts (.fieldLink RX11 59 "PageOne$Sheet" "lines" "[I") (zat q_wsX11_writeDown k_wsX11_writeDown 91 rfl (by decide +kernel))) (fun _ h9 => h9) rfl dX11_writeDown_21 ?_
    refine lv_iload_n hx hb dX11_writeDown_24 rfl (lv_at hl 1 rfl) ?_
    obtain ⟨kk_18, hk_19⟩ := pl_at ht_8.1 hg_11
    refine va_iald hx hb hK hP kk_18 0 hk_19 rfl (vp_in_nI hc8 (by decide)) dX11_writeDown_25 ?_
    refine lv_topi (fun y_20 ey_20 => ?_)
    obtain rfl : y_20 = (nI L9) := ey_20.trans ((by rw [nI_clamp (by omega), el_14 c9 hc8, h43i, eL]))
    refine lv_icmp_ge (tgt := 67) hx hb dX11_writeDown_26 (by decide) (fun c_21 => ?_) (fun c_21 => ?_)
    ·
      have hie : i = L9 := lp_eq rfl (by omega) hi c_21
      exact kx67 _ _ _ ls (by rw [hie] at hg; exact hg) hI hP hD hS (lv_sub hl [1, 2, 3, 4] rfl)
    ·
      have hlt : i < L9 := lp_lt rfl (by omega) hi c_21
      refine lv_aload_n hx hb dX11_writeDown_29 rfl (lv_at hl 2 rfl) ?_
      refine lv_aload_n hx hb dX11_writeDown_30 rfl (lv_at hl 4 rfl) ?_
      refine lv_iload_n hx hb dX11_writeDown_31 rfl (lv_at hl 1 rfl) ?_
      refine lv_iload hx hb dX11_writeDown_32 (lv_at hl 0 rfl) ?_
      obtain ⟨kk_22, hk_23⟩ := pl_at ht_7.1 hs_10
      refine vp_callSi (va_runV (As := [.int (nI c9), .int (nI i)]) (rest := [.ref h0]) ⟨hx, hb, hml, hown, hts⟩ (y_at l dC dI q h0 d k z f hI (d (1000 + P)) (d (1020 + P)) (d (1040 + P)) m_1 (ui.2 41 P) (ui.2 42 P) gl_2 gc_3 ht_7 hs_10 ht_8 ht_9 hg_11 hgb_12 hc_13 (nI c9) (nI i)) (cwV 2 hts gX11_writeDown_X9_at rfl rfl rfl zh_X9_at_31 ⟨Nat.le_trans (Nat.le_of_ble_eq_true rfl) hRf, Nat.le_trans (Nat.le_of_ble_eq_true rfl) hRl⟩) ⟨px_fb, va_recv hK hP (ci := 8) (q0 := kk_22) rfl hk_23, fun U hU hW => ⟨rfl, px_to hU hW hP hK hN hXN⟩⟩ rfl rfl hl.1 rfl (lv_room (Nat.le_of_ble_eq_true rfl)) dX11_writeDown_34 ⟨hRc, hRs⟩).run (fun r hw => ?_)
      generalize r = zr_24 at hw ⊢
      have hzr_24 := hw
      obtain ⟨kk_25, hk_26⟩ := pl_at hI.2.1.1.1 hI.2.2.2.1.1
      refine va_csq (va_runV (As := [.int zr_24]) (rest := []) ⟨hx, hb, hml, hown, hts⟩ (y_itemOf l dC dI q h0 d k z f hI zr_24 ui hrpi (by rw [hu1]; exact hk0) (by rw [hu1]; exact hk1) (by rw [hu1]; exact hk2) (by rw [hu1]; exact hk3)) (cwV 1 hts gX11_writeDown_X11_itemOf rfl rfl rfl zh_X11_itemOf_49 ⟨Nat.le_trans (Nat.le_of_ble_eq_true rfl) hRf, Nat.le_trans (Nat.le_of_ble_eq_true rfl) hRl⟩) ⟨px_fb, va_recv hK hP (ci := 10) (q0 := kk_25) rfl hk_26, fun U hU hW => ⟨rfl, px_to hU hW hP hK hN hXN⟩⟩ rfl rfl hl.1 rfl (lv_room (Nat.le_of_ble_eq_true rfl)) dX11_writeDown_37 ⟨hRc, hRs⟩).run (fun r hw => ?_)
      rcases hw with ⟨hr9, hn9⟩ | ⟨j9, hj9, ep9, hr9⟩
      ·
        subst hr9
        refine W.eq (g2 := F0 m 40 ls [.null]) rfl ?_
        refine lv_astoreN (lv' := [(5, .null), (4, .int (nI i)), (3, .int (nI c9)), (0, .ref h0), (1, .int (nI P)), (2, .ref (d (1000 + P)))]) hx hb dX11_writeDown_40 hl (by decide) rfl (fun ls hl => ?_)
        refine lv_aloadN hx hb dX11_writeDown_42 (lv_at hl 0 rfl) ?_
        refine lv_ifnullN (tgt := 61) hx hb dX11_writeDown_44 (by decide) ?_
        refine lv_iinc (v := (nI (i + 1))) (lv' := [(4, .int (nI (i + 1))), (5, .null), (3, .int (nI c9)), (0, .ref h0), (1, .int (nI P)), (2, .ref (d (1000 + P)))]) hx hb dX11_writeDown_61 hl (k := 1) rfl (nI_1 i) (by decide) rfl (fun ls hl => ?_)
        refine lv_goto (tgt := 18) hx hb dX11_writeDown_64 (by decide) ?_
        exact ih (i + 1) _ _ _ ls (by omega) (by omega) ⟨by show rep q d (wdS P c9 i (wdC P c9 u i)) z _; rw [← eui]; unfold wdS; rw [if_neg (by rw [← (hzr_24.trans (shAt_in hP9 el_14 ec_15 hgb_12 hc8 (by rw [h43i, eL, nI_clamp (by omega)]; exact hlt)).1)]; exact hn9)]; exact hrpi, hg.2⟩ hI hP hD hS (lv_sub hl [0, 2, 3, 4, 5] rfl)
      ·
        subst hr9
        have hitj := rI_itm hrpi.2.2.1 hj9
        refine W.eq (g2 := F0 m 40 ls [.ref (d (2000 + j9))]) rfl ?_
        refine lv_astore (lv' := [(5, .ref (d (2000 + j9))), (4, .int (nI i)), (3, .int (nI c9)), (0, .ref h0), (1, .int (nI P)), (2, .ref (d (1000 + P)))]) hx hb dX11_writeDown_40 hl (by decide) rfl (fun ls hl => ?_)
        refine lv_aload hx hb dX11_writeDown_42 (lv_at hl 0 rfl) ?_
        refine lv_ifnull hx hb dX11_writeDown_44 ?_
        refine lv_aload_n hx hb dX11_writeDown_47 rfl (lv_at hl 3 rfl) ?_
        refine lv_aload hx hb dX11_writeDown_48 (lv_at hl 0 rfl) ?_
        refine lv_iload_n hx hb dX11_writeDown_50 rfl (lv_at hl 4 rfl) ?_
        refine lv_iload_n hx hb dX11_writeDown_51 rfl (lv_at hl 2 rfl) ?_
        refine lv_bipush (v := 60) hx hb dX11_writeDown_52 (by decide) ?_
        refine lv_imul hx hb dX11_writeDown_54 ?_
        refine lv_iload hx hb dX11_writeDown_55 (lv_at hl 1 rfl) ?_
        refine lv_iadd hx hb dX11_writeDown_57 ?_
        refine lv_topi (fun y_27 ey_27 => ?_)
        obtain rfl : y_27 = (nI (60 * c9 + i)) := ey_27.trans ((by rw [show (60 : Int32) = nI 60 from rfl, pk_mul, nI_add, Nat.mul_comm]))
        obtain ⟨kk_28, hk_29⟩ := pl_at hI.2.1.1.1 hI.2.2.2.1.1
        have hFc := fr_all hD hS hA
        refine va_callv (va_runV (As := [.ref (d (2000 + j9)), .int (nI P), .int (nI (60 * c9 + i))]) (rest := []) ⟨hx, hb, hml, hown, hts⟩ (y_writeDownItem l dC dI q h0 d k z f hI (nI P) (nI (60 * c9 + i)) ui hrpi (by rw [hu1]; exact hk0) (by rw [hu1]; exact hk1) (by rw [hu1]; exact hk2) (by rw [hu1]; exact hk3) (xPl_of hI hrpi.2.1 hP9 h40i) j9 hj9 H.size) (cwV 3 hts gX11_writeDown_X11_writeDownItem rfl rfl rfl zh_X11_writeDownItem_65 ⟨Nat.le_trans (Nat.le_of_ble_eq_true rfl) hRf, Nat.le_trans (Nat.le_of_ble_eq_true rfl) hRl⟩) ⟨gx_fb, va_recv hK hP (ci := 10) (q0 := kk_28) rfl hk_29, fun U hU hW => ⟨rfl, by rw [hU], px_to hU hW hP hK hN hXN, hD.weaken (fun _ _ _ _ => trivial)⟩⟩ rfl rfl hl.1 rfl (lv_room (Nat.le_of_ble_eq_true rfl)) dX11_writeDown_58 ⟨hRc, hRs⟩) hS (fun q _ h => hFc q h) hFc (fun w_30 t H1 locs ht hvm hw hB hz1 hk1 hS => ?_)
        obtain ⟨hP, hD1⟩ := hB
        rw [ht] at hP
        rw [hw.2.1] at hP hD1
        have hD := hD1.weaken (fun _ q _ h => hFc q.1 h)
        have hI := hw.2.2.1
        have hw0 := hw
        generalize w_30.2.2 = f_31 at hP hD hI hw0
        generalize H1 = H at hP hS ⊢
        refine lv_iinc (v := (nI (i + 1))) (lv' := [(4, .int (nI (i + 1))), (5, .ref (d (2000 + j9))), (3, .int (nI c9)), (0, .ref h0), (1, .int (nI P)), (2, .ref (d (1000 + P)))]) hx hb dX11_writeDown_61 hl (k := 1) rfl (nI_1 i) (by decide) rfl (fun ls hl => ?_)
        refine lv_goto (tgt := 18) hx hb dX11_writeDown_64 (by decide) ?_
        exact ih (i + 1) _ _ _ ls (by omega) (by omega) ⟨by show rep q d (wdS P c9 i (wdC P c9 u i)) z _; have hv9 := (hzr_24.trans (shAt_in hP9 el_14 ec_15 hgb_12 hc8 (by rw [h43i, eL, nI_clamp (by omega)]; exact hlt)).1); rw [← eui]; unfold wdS; rw [← hv9, ep9, if_pos (bw_it (by rw [hu1, ← hk0]; exact hI.1.1) hj9).1, nI_clamp (by have := w80i (u := ui) hI.1.1 (by rw [hu1]; exact hk0); omega)]; exact hw0.2.2.2.1, hw0.2.2.2.2.trans hg.2⟩ hI hP hD hS (lv_sub hl [0, 2, 3, 4, 5] rfl)
set_option maxHeartbeats 4000000 in
set_option maxRecDepth 100000 in
theorem y_wd_out {p : Program} {l : Launch} {e : Env} {R : Room} {s : State} {m : MethodId} {args : Array Value} {below : List Frame} {meth : Method} {c : Code} {Q : State → Prop} {cells slots : Nat} {dC : Nat → ClassId} {dI : Nat → Nat → Nat} {q : Nat → ClassId} {h0 : Nat} {d : Nat → Nat} {k : Nat → Int32} {z : gS} {f0 : xF} {u : mS} (hk0 : k 0 = u.1 3) (hk1 : k 1 = u.1 28) (hk2 : k 2 = u.1 38) (hk3 : k 3 = u.1 39) {P : Nat} (hP9 : P < 12) (h40 : u.2 40 P = 1) {A : Nat → Prop} {H0 : Heap} (hx : p.tables.exec = Jvm.exec) (hb : c.code = cX11_writeDown) (hml : c.maxLocals = 6) (hts : ∀ w ∈ wsX11_writeDown, w.before args s = true) (hown : s.vm.findClass RX11 = some m.cls) (hN : NN s) (hXN : XN s) (hK : va_K (dC, dI) vwCl (xT q) s) (hRf : 3 ≤ R.frames) (hRl : 64 ≤ R.locals) (hRc : cells ≤ R.cells) (hRs : slots ≤ R.slots) (hA : ∀ q : Nat, H0.size ≤ q → A q) (kx73 : ∀ (f : xF) (H : Heap) (locs : List Loc) (ls : Array Slot), (rep q d (wdP P u 8) z f ∧ f (d 3) = f0 (d 3)) → xI q h0 d k z f → va_P (dC, dI) vwCl (va_pl z.1 f) H → va_D A (va_pl z.1 f) → va_S A H0 H locs → lv_has ls 6 [(0, .ref h0), (1, .int (nI P)), (2, .ref (d (1000 + P)))] → W p l e R s m args below meth c H locs cells slots Q (F0 m 73 ls [])) : ∀ (kk i : Nat) (f : xF) (H : Heap) (locs : List Loc) (ls : Array Slot), i ≤ 8 → 8 - i < kk → (rep q d (wdP P u i) z f ∧ f (d 3) = f0 (d 3)) → xI q h0 d k z f → va_P (dC, dI) vwCl (va_pl z.1 f) H → va_D A (va_pl z.1 f) → va_S A H0 H locs → lv_has ls 6 [(3, .int (nI i)), (0, .ref h0), (1, .int (nI P)), (2, .ref (d (1000 + P)))] → W p l e R s m args below meth c H locs cells slots Q (F0 m 9 ls []) := by
  intro kk
  induction kk with
  | zero => intro i f H locs ls h1 h2; exact absurd h2 (Nat.not_lt_zero _)
  | succ kk ih =>
    intro i f H locs ls hi hkk hg hI hP hD hS hl
    obtain ⟨ui, eui⟩ : ∃ y : mS, y = wdP P u i := ⟨_, rfl⟩
    have hrpi : rep q d ui z f := by rw [eui]; exact hg.1
    have hu1 : ui.1 = u.1 := by rw [eui, wdP_1]
    have h40i : ui.2 40 P = 1 := by rw [eui, wdP_k _ _ (by decide) (by decide)]; exact h40
    have h43i : ui.2 43 = u.2 43 := by rw [eui, wdP_k _ _ (by decide) (by decide)]
    refine lv_iload_n hx hb dX11_writeDown_9 rfl (lv_at hl 0 rfl) ?_
    refine lv_bipush (v := 8) hx hb dX11_writeDown_10 (by decide) ?_
    refine lv_icmp_ge (tgt := 73) hx hb dX11_writeDown_12 (by decide) (fun c_1 => ?_) (fun c_1 => ?_)
    ·
      have hie : i = 8 := lp_eq rfl (by decide) hi c_1
      exact kx73 _ _ _ ls (by rw [hie] at hg; exact hg) hI hP hD hS (lv_sub hl [1, 2, 3] rfl)
    ·
      have hlt : i < 8 := lp_lt rfl (by decide) hi c_1
      refine lv_iconst (v := 0) hx hb dX11_writeDown_15 (by decide) ?_
      refine lv_istore (lv' := [(4, .int 0), (3, .int (nI i)), (0, .ref h0), (1, .int (nI P)), (2, .ref (d (1000 + P)))]) hx hb dX11_writeDown_16 hl (by decide) rfl (fun ls hl => ?_)
      obtain ⟨m9, gl9, gc9, gp9, -, -, -, -, -, -, -, hgb9, -, el9, -⟩ := pl_all hI hrpi.2.1 hP9 h40i
      obtain ⟨l1, l2, l3⟩ := nI_of_bw (hgb9 i hlt)
      have e60 : (60 : Int32).toInt = 60 := rfl
      rw [el9 i hlt] at l1 l2 l3
      refine y_wd_in (f0 := f0) (u := ui) (by rw [hu1]; exact hk0) (by rw [hu1]; exact hk1) (by rw [hu1]; exact hk2) (by rw [hu1]; exact hk3) (P := P) (c9 := i) (L9 := (ui.2 43 (8 * P + i)).toNatClampNeg) hP9 hlt h40i l1 (by omega) hx hb hml hts hown hN hXN hK hRf hRl hRc hRs hA (fun f H locs ls hg hI hP hD hS hl => ?_) _ 0 _ _ _ ls (Nat.zero_le _) (Nat.lt_succ_self _) ⟨hrpi, hg.2⟩ hI hP hD hS (lv_sub hl [0, 1, 2, 3, 4] rfl)
      refine lv_iinc (v := (nI (i + 1))) (lv' := [(3, .int (nI (i + 1))), (0, .ref h0), (1, .int (nI P)), (2, .ref (d (1000 + P)))]) hx hb dX11_writeDown_67 hl (k := 0) rfl (nI_1 i) (by decide) rfl (fun ls hl => ?_)
      refine lv_goto (tgt := 9) hx hb dX11_writeDown_70 (by decide) ?_
      exact ih (i + 1) _ _ _ ls (by omega) (by omega) ⟨by show rep q d (wdC P i (wdP P u i) (u.2 43 (8 * P + i)).toNatClampNeg) z _; rw [← eui, ← h43i]; exact hg.1, hg.2⟩ hI hP hD hS (lv_sub hl [0, 1, 2, 3] rfl)
set_option maxHeartbeats 4000000 in
set_option maxRecDepth 100000 in
theorem y_writeDown (l : Launch) (dC : Nat → ClassId) (dI : Nat → Nat → Nat) (q : Nat → ClassId) (h0 : Nat) (d : Nat → Nat) (k : Nat → Int32) (z : gS) (f : xF) (hI : xI q h0 d k z f) (P : Nat) (hP9 : P < 12) (u : mS) (hrp : rep q d u z f) (hk0 : k 0 = u.1 3) (hk1 : k 1 = u.1 28) (hk2 : k 2 = u.1 38) (hk3 : k 3 = u.1 39) (h40 : u.2 40 P = 1) (sz : Nat) : Met l yX11_writeDown wsX11_writeDown ({ frames := 3, cells := 0, slots := 0, locals := 64 }) (va_Pc [.ref h0, .int (nI P)] (fun U => U.heap.size = sz ∧ PX dC dI (va_pl z.1 f) (xT q) U ∧ va_D (fun _ => True) (va_pl z.1 f))) (va_Qv (fun (w : xU) => w.1 = k ∧ w.2.1 = z ∧ xI q h0 d k z w.2.2 ∧ rep q d (wdP P u 8) z w.2.2 ∧ w.2.2 (d 3) = f (d 3)) (fun (w : xU) t => va_P (dC, dI) vwCl (va_pl w.2.1.1 w.2.2) t.heap ∧ va_D (va_A (va_pl z.1 f) sz) (va_pl w.2.1.1 w.2.2)) (va_A (va_pl z.1 f) sz)) 0 0 (va_A (va_pl z.1 f) sz) := by
  refine Met.ofW (cc := cX11_writeDown) (maxL := 6) (ret := none) (by decide) rfl ?_
  intro p e s m args below meth c s₁ B hml hv
  obtain ⟨rfl, hsz, ⟨⟨hP, hK, hN⟩, hXN⟩, hD0⟩ := hv
  have hx := B.exec
  have hb := B.bytes
  have hr := B.returns
  have hts := atoms_spec (ws := wsX11_writeDown) B.pre
  have hown : s.vm.findClass RX11 = some m.cls := findClass_of_methodNamed B.named
  have hlocks := B.notSynchronized
  subst hsz
  have hD := hD0.self (sz := s.heap.size)
  generalize hAe : va_A (va_pl z.1 f) s.heap.size = A at hD ⊢
  have hA : ∀ q : Nat, s.heap.size ≤ q → A q := fun q h => by rw [← hAe]; exact Or.inr h
  have hS : va_S A s.heap s.heap [] := va_S.rf
  have hl := lv_entry ([.ref h0, .int (nI P)]) (n := 6) (Nat.le_of_ble_eq_true rfl)
  rw [lg_entry_eq]
  generalize (lg_sl ([.ref h0, .int (nI P)]) ++ List.replicate (6 - (lg_sl ([.ref h0, .int (nI P)])).length) Slot.unset).toArray = ls at hl ⊢
  have hl : lv_has ls 6 [(0, .ref h0), (1, .int (nI P))] := hl
  have hk1o := hk1
  obtain ⟨m_1, gl_2, gc_3, gp_4, hp_5, hp_6, ht_7, ht_8, ht_9, hs_10, hg_11, hgb_12, hc_13, el_14, ec_15⟩ := pl_all hI hrp.2.1 hP9 h40
  have hgp9 : gp_4 (nI P : Int32).toNatClampNeg = some (d (1000 + P)) := by rw [nI_clamp (by omega)]; exact hp_6
  refine lv_aload_n hx hb dX11_writeDown_0 rfl (lv_at hl 0 rfl) ?_
  obtain ⟨kk_16, hk_17⟩ := pl_at hI.2.1.1.1 hI.2.2.2.1.1
  refine va_get (D := (dC, dI)) (ci := 10) (v := .ref (d 1)) (C := RX11) (T := TX11) (N := 9) hx hb hts zl_X11_writeDown_X11 hown hK hP kk_16 hk_17 rfl 1 (by decide) (hts (.fieldLink RX11 15 "PageOne" "plates" "[LPageOne$Sheet;") (zat q_wsX11_writeDown k_wsX11_writeDown 113 rfl (by decide +kernel))) (fun _ h9 => h9) rfl dX11_writeDown_1 ?_
  refine lv_iload_n hx hb dX11_writeDown_4 rfl (lv_at hl 1 rfl) ?_
  obtain ⟨kk_18, hk_19⟩ := pl_at hI.2.1.2.2.1.1 hp_5
  refine va_aldq hx hb hK hP kk_18 2 hk_19 rfl (vin (bw11 hP9) (by decide)) dX11_writeDown_5 ?_
  rw [hgp9]
  refine W.eq (g2 := F0 m 6 ls [.ref (d (1000 + P))]) rfl ?_
  refine lv_astore_n (lv' := [(2, .ref (d (1000 + P))), (0, .ref h0), (1, .int (nI P))]) hx hb dX11_writeDown_6 rfl hl (by decide) rfl (fun ls hl => ?_)
  refine lv_iconst (v := 0) hx hb dX11_writeDown_7 (by decide) ?_
  refine lv_istore_n (lv' := [(3, .int 0), (2, .ref (d (1000 + P))), (0, .ref h0), (1, .int (nI P))]) hx hb dX11_writeDown_8 rfl hl (by decide) rfl (fun ls hl => ?_)
  refine y_wd_out (f0 := f) (u := u) hk0 hk1 hk2 hk3 (P := P) hP9 h40 hx hb hml hts hown hN hXN hK (Nat.le_of_ble_eq_true rfl) (Nat.le_of_ble_eq_true rfl) (Nat.le_of_ble_eq_true rfl) (Nat.le_of_ble_eq_true rfl) hA (fun f2 H locs ls hg hI hP hD hS hl => ?_) 9 0 _ _ _ ls (by decide) (by decide) ⟨hrp, rfl⟩ hI hP hD hS (lv_sub hl [0, 2, 3, 1] rfl)
  exact W.vret hx hb hr (fun t ht hW => ⟨⟨(k, z, f2), rfl, ⟨rfl, rfl, hI, hg.1, hg.2⟩, by rw [ht]; exact hP, hD⟩, hS.F ht⟩) hS.2.2 dX11_writeDown_73
/-- the edition's plates, written down -/
def clE (u : mS) : Nat → mS
  | 0 => u
  | p + 1 => if mNow (clE u p) (nI p) = true then wdP p (clE u p) 8 else clE u p
theorem clE_1 (u : mS) : ∀ p, (clE u p).1 = u.1
  | 0 => rfl
  | p + 1 => by
    show (if mNow (clE u p) (nI p) = true then wdP p (clE u p) 8 else clE u p).1 = _
    split
    · rw [wdP_1]; exact clE_1 u p
    · exact clE_1 u p
set_option maxHeartbeats 4000000 in
set_option maxRecDepth 100000 in
theorem y_close_l {p : Program} {l : Launch} {e : Env} {R : Room} {s : State} {m : MethodId} {args : Array Value} {below : List Frame} {meth : Method} {c : Code} {Q : State → Prop} {cells slots : Nat} {dC : Nat → ClassId} {dI : Nat → Nat → Nat} {q : Nat → ClassId} {h0 : Nat} {d : Nat → Nat} {k : Nat → Int32} {z : gS} {f0 : xF} {u : mS} (hk0 : k 0 = u.1 3) (hk1 : k 1 = u.1 28) (hk2 : k 2 = u.1 38) (hk3 : k 3 = u.1 39) {A : Nat → Prop} {H0 : Heap} (hx : p.tables.exec = Jvm.exec) (hb : c.code = cX11_closeEdition) (hml : c.maxLocals = 2) (hts : ∀ w ∈ wsX11_closeEdition, w.before args s = true) (hown : s.vm.findClass RX11 = some m.cls) (hN : NN s) (hXN : XN s) (hK : va_K (dC, dI) vwCl (xT q) s) (hRf : 4 ≤ R.frames) (hRl : 89 ≤ R.locals) (hRc : cells ≤ R.cells) (hRs : slots ≤ R.slots) (hA : ∀ q : Nat, H0.size ≤ q → A q) (kx27 : ∀ (f : xF) (H : Heap) (locs : List Loc) (ls : Array Slot), (rep q d (clE u 12) z f ∧ f (d 3) = f0 (d 3)) → xI q h0 d k z f → va_P (dC, dI) vwCl (va_pl z.1 f) H → va_D A (va_pl z.1 f) → va_S A H0 H locs → lv_has ls 2 [(0, .ref h0)] → W p l e R s m args below meth c H locs cells slots Q (F0 m 27 ls [])) : ∀ (kk i : Nat) (f : xF) (H : Heap) (locs : List Loc) (ls : Array Slot), i ≤ 12 → 12 - i < kk → (rep q d (clE u i) z f ∧ f (d 3) = f0 (d 3)) → xI q h0 d k z f → va_P (dC, dI) vwCl (va_pl z.1 f) H → va_D A (va_pl z.1 f) → va_S A H0 H locs → lv_has ls 2 [(1, .int (nI i)), (0, .ref h0)] → W p l e R s m args below meth c H locs cells slots Q (F0 m 2 ls []) := by
  intro kk
  induction kk with
  | zero => intro i f H locs ls h1 h2; exact absurd h2 (Nat.not_lt_zero _)
  | succ kk ih =>
    intro i f H locs ls hi hkk hg hI hP hD hS hl
    obtain ⟨ui, eui⟩ : ∃ y : mS, y = clE u i := ⟨_, rfl⟩
    have hrpi : rep q d ui z f := by rw [eui]; exact hg.1
    have hu1 : ui.1 = u.1 := by rw [eui, clE_1]
    refine lv_iload_n hx hb dX11_closeEdition_2 rfl (lv_at hl 0 rfl) ?_
    refine lv_bipush (v := 12) hx hb dX11_closeEdition_3 (by decide) ?_
    refine lv_icmp_ge (tgt := 27) hx hb dX11_closeEdition_5 (by decide) (fun c_1 => ?_) (fun c_1 => ?_)
    ·
      have hie : i = 12 := lp_eq rfl (by decide) hi c_1
      exact kx27 _ _ _ ls (by rw [hie] at hg; exact hg) hI hP hD hS (lv_sub hl [1] rfl)
    ·
      have hlt : i < 12 := lp_lt rfl (by decide) hi c_1
      refine lv_aload_n hx hb dX11_closeEdition_8 rfl (lv_at hl 1 rfl) ?_
      refine lv_iload_n hx hb dX11_closeEdition_9 rfl (lv_at hl 0 rfl) ?_
      obtain ⟨kk_2, hk_3⟩ := pl_at hI.2.1.1.1 hI.2.2.2.1.1
      refine vp_callSi (va_runV (As := [.int (nI i)]) (rest := []) ⟨hx, hb, hml, hown, hts⟩ (y_isFresh l dC dI q h0 d k z f hI (nI i) ui hrpi (by rw [hu1]; exact hk2) (by rw [hu1]; exact hk3)) (cwV 1 hts gX11_closeEdition_X11_isFresh rfl rfl rfl zh_X11_isFresh_46 ⟨Nat.le_trans (Nat.le_of_ble_eq_true rfl) hRf, Nat.le_trans (Nat.le_of_ble_eq_true rfl) hRl⟩) ⟨px_fb, va_recv hK hP (ci := 10) (q0 := kk_2) rfl hk_3, fun U hU hW => ⟨rfl, px_to hU hW hP hK hN hXN⟩⟩ rfl rfl hl.1 rfl (lv_room (Nat.le_of_ble_eq_true rfl)) dX11_closeEdition_10 ⟨hRc, hRs⟩).run (fun r hw => ?_)
      rcases hw with ⟨hw, hpp_10⟩ | ⟨hw, hpp_10, hbw_9, gp_4, bp_5, hp_6, hp_7, hp_8⟩
      ·
        subst hw
        refine lv_if_eq (tgt := 21) hx hb dX11_closeEdition_13 (by decide) (fun c_11 => ?_) (fun c_11 => absurd (by decide) c_11)
        refine lv_iinc (v := (nI (i + 1))) (lv' := [(1, .int (nI (i + 1))), (0, .ref h0)]) hx hb dX11_closeEdition_21 hl (k := 0) rfl (nI_1 i) (by decide) rfl (fun ls hl => ?_)
        refine lv_goto (tgt := 2) hx hb dX11_closeEdition_24 (by decide) ?_
        exact ih (i + 1) _ _ _ ls (by omega) (by omega) ⟨by show rep q d (if mNow (clE u i) (nI i) = true then wdP i (clE u i) 8 else clE u i) z _; rw [← eui, if_neg (fun h9 => hpp_10 ((frP_now (bw11 hlt) (rp_01 hrpi.2.1 _ (by rw [nI_clamp (by omega)]; exact hlt))).mpr h9))]; exact hrpi, hg.2⟩ hI hP hD hS (lv_sub hl [0, 1] rfl)
      ·
        subst hw
        refine lv_if_eq (tgt := 21) hx hb dX11_closeEdition_13 (by decide) (fun c_12 => absurd c_12 (by decide)) (fun c_12 => ?_)
        refine lv_aload_n hx hb dX11_closeEdition_16 rfl (lv_at hl 1 rfl) ?_
        refine lv_iload_n hx hb dX11_closeEdition_17 rfl (lv_at hl 0 rfl) ?_
        obtain ⟨kk_13, hk_14⟩ := pl_at hI.2.1.1.1 hI.2.2.2.1.1
        have hFc := fr_all hD hS hA
        refine va_callv (va_runV (As := [.int (nI i)]) (rest := []) ⟨hx, hb, hml, hown, hts⟩ (y_writeDown l dC dI q h0 d k z f hI i hlt ui hrpi (by rw [hu1]; exact hk0) (by rw [hu1]; exact hk1) (by rw [hu1]; exact hk2) (by rw [hu1]; exact hk3) (by have h9 := hpp_10.1.2; rw [nI_clamp (by omega)] at h9; exact h9) H.size) (cwV 1 hts gX11_closeEdition_X11_writeDown rfl rfl rfl zh_X11_writeDown_66 ⟨Nat.le_trans (Nat.le_of_ble_eq_true rfl) hRf, Nat.le_trans (Nat.le_of_ble_eq_true rfl) hRl⟩) ⟨gx_fb, va_recv hK hP (ci := 10) (q0 := kk_13) rfl hk_14, fun U hU hW => ⟨rfl, by rw [hU], px_to hU hW hP hK hN hXN, hD.weaken (fun _ _ _ _ => trivial)⟩⟩ rfl rfl hl.1 rfl (lv_room (Nat.le_of_ble_eq_true rfl)) dX11_closeEdition_18 ⟨hRc, hRs⟩) hS (fun q _ h => hFc q h) hFc (fun w_15 t H1 locs ht hvm hw hB hz1 hk1 hS => ?_)
        obtain ⟨hP, hD1⟩ := hB
        rw [ht] at hP
        rw [hw.2.1] at hP hD1
        have hD := hD1.weaken (fun _ q _ h => hFc q.1 h)
        have hI := hw.2.2.1
        have hw0 := hw
        generalize w_15.2.2 = f_16 at hP hD hI hw0
        generalize H1 = H at hP hS ⊢
        refine lv_iinc (v := (nI (i + 1))) (lv' := [(1, .int (nI (i + 1))), (0, .ref h0)]) hx hb dX11_closeEdition_21 hl (k := 0) rfl (nI_1 i) (by decide) rfl (fun ls hl => ?_)
        refine lv_goto (tgt := 2) hx hb dX11_closeEdition_24 (by decide) ?_
        exact ih (i + 1) _ _ _ ls (by omega) (by omega) ⟨by show rep q d (if mNow (clE u i) (nI i) = true then wdP i (clE u i) 8 else clE u i) z _; rw [← eui, if_pos ((frP_now (bw11 hlt) (rp_01 hrpi.2.1 _ (by rw [nI_clamp (by omega)]; exact hlt))).mp hpp_10)]; exact hw0.2.2.2.1, hw0.2.2.2.2.trans hg.2⟩ hI hP hD hS (lv_sub hl [0, 1] rfl)
set_option maxHeartbeats 4000000 in
set_option maxRecDepth 100000 in
theorem y_closeEdition (l : Launch) (dC : Nat → ClassId) (dI : Nat → Nat → Nat) (q : Nat → ClassId) (h0 : Nat) (d : Nat → Nat) (k : Nat → Int32) (z : gS) (f : xF) (hI : xI q h0 d k z f) (u : mS) (hrp : rep q d u z f) (hk0 : k 0 = u.1 3) (hk1 : k 1 = u.1 28) (hk2 : k 2 = u.1 38) (hk3 : k 3 = u.1 39) (sz : Nat) : Met l yX11_closeEdition wsX11_closeEdition ({ frames := 4, cells := 0, slots := 0, locals := 89 }) (va_Pc [.ref h0] (fun U => U.heap.size = sz ∧ PX dC dI (va_pl z.1 f) (xT q) U ∧ va_D (fun _ => True) (va_pl z.1 f))) (va_Qv (fun (w : xU) => w.1 = k ∧ w.2.1 = z ∧ xI q h0 d k z w.2.2 ∧ rep q d (clE u 12) z w.2.2 ∧ w.2.2 (d 3) = f (d 3)) (fun (w : xU) t => va_P (dC, dI) vwCl (va_pl w.2.1.1 w.2.2) t.heap ∧ va_D (va_A (va_pl z.1 f) sz) (va_pl w.2.1.1 w.2.2)) (va_A (va_pl z.1 f) sz)) 0 0 (va_A (va_pl z.1 f) sz) := by
  refine Met.ofW (cc := cX11_closeEdition) (maxL := 2) (ret := none) (by decide) rfl ?_
  intro p e s m args below meth c s₁ B hml hv
  obtain ⟨rfl, hsz, ⟨⟨hP, hK, hN⟩, hXN⟩, hD0⟩ := hv
  have hx := B.exec
  have hb := B.bytes
  have hr := B.returns
  have hts := atoms_spec (ws := wsX11_closeEdition) B.pre
  have hown : s.vm.findClass RX11 = some m.cls := findClass_of_methodNamed B.named
  have hlocks := B.notSynchronized
  subst hsz
  have hD := hD0.self (sz := s.heap.size)
  generalize hAe : va_A (va_pl z.1 f) s.heap.size = A at hD ⊢
  have hA : ∀ q : Nat, s.heap.size ≤ q → A q := fun q h => by rw [← hAe]; exact Or.inr h
  have hS : va_S A s.heap s.heap [] := va_S.rf
  have hl := lv_entry ([.ref h0]) (n := 2) (Nat.le_of_ble_eq_true rfl)
  rw [lg_entry_eq]
  generalize (lg_sl ([.ref h0]) ++ List.replicate (2 - (lg_sl ([.ref h0])).length) Slot.unset).toArray = ls at hl ⊢
  have hl : lv_has ls 2 [(0, .ref h0)] := hl
  refine lv_iconst (v := 0) hx hb dX11_closeEdition_0 (by decide) ?_
  refine lv_istore_n (lv' := [(1, .int 0), (0, .ref h0)]) hx hb dX11_closeEdition_1 rfl hl (by decide) rfl (fun ls hl => ?_)
  refine y_close_l (f0 := f) (u := u) hk0 hk1 hk2 hk3 hx hb hml hts hown hN hXN hK (Nat.le_of_ble_eq_true rfl) (Nat.le_of_ble_eq_true rfl) (Nat.le_of_ble_eq_true rfl) (Nat.le_of_ble_eq_true rfl) hA (fun f2 H locs ls hg hI hP hD hS hl => ?_) 13 0 _ _ _ ls (by decide) (by decide) ⟨hrp, rfl⟩ hI hP hD hS (lv_sub hl [0, 1] rfl)
  exact W.vret hx hb hr (fun t ht hW => ⟨⟨(k, z, f2), rfl, ⟨rfl, rfl, hI, hg.1, hg.2⟩, by rw [ht]; exact hP, hD⟩, hS.F ht⟩) hS.2.2 dX11_closeEdition_27
theorem up_idy {f : xF} {a : Nat} {e : va_E} (h : f a = e) : va_up f a e = f := by
  funext b
  unfold va_up
  by_cases x : b = a
  · rw [if_pos x, x, h]
  · rw [if_neg x]
set_option maxHeartbeats 4000000 in
set_option maxRecDepth 100000 in
theorem y_loseAll_l {p : Program} {l : Launch} {e : Env} {R : Room} {s : State} {m : MethodId} {args : Array Value} {below : List Frame} {meth : Method} {c : Code} {Q : State → Prop} {cells slots : Nat} {dC : Nat → ClassId} {dI : Nat → Nat → Nat} {q : Nat → ClassId} {h0 : Nat} {d : Nat → Nat} {k : Nat → Int32} {z : gS} {f0 : xF} {a0 : Nat} {nu kd cn : Int32} {pa fa n : Nat} {rs : List Value} (ha0 : itm z a0) (hpa : tg z pa 16) (hne : pa ≠ a0) (hn1 : 1 ≤ n) (hn6 : n ≤ 6) {A : Nat → Prop} {H0 : Heap} (hx : p.tables.exec = Jvm.exec) (hb : c.code = cX4_loseAll) (hml : c.maxLocals = 2) (hts : ∀ w ∈ wsX4_loseAll, w.before args s = true) (hown : s.vm.findClass RX4 = some m.cls) (hN : NN s) (hXN : XN s) (hK : va_K (dC, dI) vwCl (xT q) s) (hA : ∀ q : Nat, H0.size ≤ q → A q) (kx24 : ∀ (f : xF) (H : Heap) (locs : List Loc) (g : Nat → Option Nat) (ls : Array Slot), (f a0 = .inr (ciT (z.2 a0).1, itF nu kd pa cn fa rs) ∧ f pa = aR (q 5) n g ∧ (∀ j, j < n → ∀ b, g j = some b → lgP z b) ∧ f = va_up f0 pa (aR (q 5) n g)) → xI q h0 d k z (va_up f a0 (.inr (ciT (z.2 a0).1, itF nu kd pa 0 fa rs))) → va_P (dC, dI) vwCl (va_pl z.1 f) H → va_D A (va_pl z.1 f) → va_S A H0 H locs → lv_has ls 2 [(0, .ref a0)] → W p l e R s m args below meth c H locs cells slots Q (F0 m 24 ls [])) : ∀ (kk i : Nat) (f : xF) (H : Heap) (locs : List Loc) (g : Nat → Option Nat) (ls : Array Slot), i ≤ n → n - i < kk → (f a0 = .inr (ciT (z.2 a0).1, itF nu kd pa cn fa rs) ∧ f pa = aR (q 5) n g ∧ (∀ j, j < n → ∀ b, g j = some b → lgP z b) ∧ f = va_up f0 pa (aR (q 5) n g)) → xI q h0 d k z (va_up f a0 (.inr (ciT (z.2 a0).1, itF nu kd pa 0 fa rs))) → va_P (dC, dI) vwCl (va_pl z.1 f) H → va_D A (va_pl z.1 f) → va_S A H0 H locs → lv_has ls 2 [(1, .int (nI i)), (0, .ref a0)] → W p l e R s m args below meth c H locs cells slots Q (F0 m 2 ls []) := by
  intro kk
  induction kk with
  | zero => intro i f H locs g ls h1 h2; exact absurd h2 (Nat.not_lt_zero _)
  | succ kk ih =>
    intro i f H locs g ls hi hkk hg hI hP hD hS hl
    refine lv_iload_n hx hb dX4_loseAll_2 rfl (lv_at hl 0 rfl) ?_
    refine lv_aload_n hx hb dX4_loseAll_3 rfl (lv_at hl 1 rfl) ?_
    obtain ⟨kk_1, hk_2⟩ := pl_at ha0.1 hg.1
    refine w_then (F0 m 7 ls [.ref pa, .int (nI i)]) (fun hgo => ?_) ?_
    ·
      rcases x_tag ha0 with ht9 | ht9 | ht9 | ht9 | ht9 | ht9
      ·
        rw [ht9.2] at hk_2
        exact va_get (D := (dC, dI)) (ci := 2) (v := .ref pa) (C := RX2) (T := TX2) (N := 7) hx hb hts zl_X4_loseAll_X2 hown hK hP kk_1 hk_2 rfl 2 (by decide) (hts (.fieldLink RX4 31 "PageOne$Item" "pieces" "[LPageOne$Piece;") (zat q_wsX4_loseAll k_wsX4_loseAll 190 rfl (by decide +kernel))) (fun _ h9 => h9) rfl dX4_loseAll_4 hgo
      ·
        rw [ht9.2] at hk_2
        exact va_get (D := (dC, dI)) (ci := 3) (v := .ref pa) (C := RX3) (T := TX3) (N := 8) hx hb hts zl_X4_loseAll_X3 hown hK hP kk_1 hk_2 rfl 2 (by decide) (hts (.fieldLink RX4 31 "PageOne$Item" "pieces" "[LPageOne$Piece;") (zat q_wsX4_loseAll k_wsX4_loseAll 190 rfl (by decide +kernel))) (fun _ h9 => h9) rfl dX4_loseAll_4 hgo
      ·
        rw [ht9.2] at hk_2
        exact va_get (D := (dC, dI)) (ci := 4) (v := .ref pa) (C := RX5) (T := TX5) (N := 7) hx hb hts zl_X4_loseAll_X5 hown hK hP kk_1 hk_2 rfl 2 (by decide) (hts (.fieldLink RX4 31 "PageOne$Item" "pieces" "[LPageOne$Piece;") (zat q_wsX4_loseAll k_wsX4_loseAll 190 rfl (by decide +kernel))) (fun _ h9 => h9) rfl dX4_loseAll_4 hgo
      ·
        rw [ht9.2] at hk_2
        exact va_get (D := (dC, dI)) (ci := 5) (v := .ref pa) (C := RX6) (T := TX6) (N := 9) hx hb hts zl_X4_loseAll_X6 hown hK hP kk_1 hk_2 rfl 2 (by decide) (hts (.fieldLink RX4 31 "PageOne$Item" "pieces" "[LPageOne$Piece;") (zat q_wsX4_loseAll k_wsX4_loseAll 190 rfl (by decide +kernel))) (fun _ h9 => h9) rfl dX4_loseAll_4 hgo
      ·
        rw [ht9.2] at hk_2
        exact va_get (D := (dC, dI)) (ci := 6) (v := .ref pa) (C := RX7) (T := TX7) (N := 8) hx hb hts zl_X4_loseAll_X7 hown hK hP kk_1 hk_2 rfl 2 (by decide) (hts (.fieldLink RX4 31 "PageOne$Item" "pieces" "[LPageOne$Piece;") (zat q_wsX4_loseAll k_wsX4_loseAll 190 rfl (by decide +kernel))) (fun _ h9 => h9) rfl dX4_loseAll_4 hgo
      ·
        rw [ht9.2] at hk_2
        exact va_get (D := (dC, dI)) (ci := 9) (v := .ref pa) (C := RX10) (T := TX10) (N := 9) hx hb hts zl_X4_loseAll_X10 hown hK hP kk_1 hk_2 rfl 2 (by decide) (hts (.fieldLink RX4 31 "PageOne$Item" "pieces" "[LPageOne$Piece;") (zat q_wsX4_loseAll k_wsX4_loseAll 190 rfl (by decide +kernel))) (fun _ h9 => h9) rfl dX4_loseAll_4 hgo
    ·
      obtain ⟨kk_3, hk_4⟩ := pl_at hpa.1 hg.2.1
      refine va_alen hx hb hK hP kk_3 5 hk_4 rfl (v := nI n) rfl dX4_loseAll_7 ?_
      refine lv_icmp_ge (tgt := 24) hx hb dX4_loseAll_8 (by decide) (fun c_5 => ?_) (fun c_5 => ?_)
      ·
        have hie : i = n := lp_eq rfl (by omega) hi c_5
        exact kx24 _ _ _ _ ls hg hI hP hD hS (lv_sub hl [1] rfl)
      ·
        have hlt : i < n := lp_lt rfl (by omega) hi c_5
        refine lv_aload_n hx hb dX4_loseAll_11 rfl (lv_at hl 1 rfl) ?_
        obtain ⟨kk_6, hk_7⟩ := pl_at ha0.1 hg.1
        refine w_then (F0 m 15 ls [.ref pa]) (fun hgo => ?_) ?_
        ·
          rcases x_tag ha0 with ht9 | ht9 | ht9 | ht9 | ht9 | ht9
          ·
            rw [ht9.2] at hk_7
            exact va_get (D := (dC, dI)) (ci := 2) (v := .ref pa) (C := RX2) (T := TX2) (N := 7) hx hb hts zl_X4_loseAll_X2 hown hK hP kk_6 hk_7 rfl 2 (by decide) (hts (.fieldLink RX4 31 "PageOne$Item" "pieces" "[LPageOne$Piece;") (zat q_wsX4_loseAll k_wsX4_loseAll 190 rfl (by decide +kernel))) (fun _ h9 => h9) rfl dX4_loseAll_12 hgo
          ·
            rw [ht9.2] at hk_7
            exact va_get (D := (dC, dI)) (ci := 3) (v := .ref pa) (C := RX3) (T := TX3) (N := 8) hx hb hts zl_X4_loseAll_X3 hown hK hP kk_6 hk_7 rfl 2 (by decide) (hts (.fieldLink RX4 31 "PageOne$Item" "pieces" "[LPageOne$Piece;") (zat q_wsX4_loseAll k_wsX4_loseAll 190 rfl (by decide +kernel))) (fun _ h9 => h9) rfl dX4_loseAll_12 hgo
          ·
            rw [ht9.2] at hk_7
            exact va_get (D := (dC, dI)) (ci := 4) (v := .ref pa) (C := RX5) (T := TX5) (N := 7) hx hb hts zl_X4_loseAll_X5 hown hK hP kk_6 hk_7 rfl 2 (by decide) (hts (.fieldLink RX4 31 "PageOne$Item" "pieces" "[LPageOne$Piece;") (zat q_wsX4_loseAll k_wsX4_loseAll 190 rfl (by decide +kernel))) (fun _ h9 => h9) rfl dX4_loseAll_12 hgo
          ·
            rw [ht9.2] at hk_7
            exact va_get (D := (dC, dI)) (ci := 5) (v := .ref pa) (C := RX6) (T := TX6) (N := 9) hx hb hts zl_X4_loseAll_X6 hown hK hP kk_6 hk_7 rfl 2 (by decide) (hts (.fieldLink RX4 31 "PageOne$Item" "pieces" "[LPageOne$Piece;") (zat q_wsX4_loseAll k_wsX4_loseAll 190 rfl (by decide +kernel))) (fun _ h9 => h9) rfl dX4_loseAll_12 hgo
          ·
            rw [ht9.2] at hk_7
            exact va_get (D := (dC, dI)) (ci := 6) (v := .ref pa) (C := RX7) (T := TX7) (N := 8) hx hb hts zl_X4_loseAll_X7 hown hK hP kk_6 hk_7 rfl 2 (by decide) (hts (.fieldLink RX4 31 "PageOne$Item" "pieces" "[LPageOne$Piece;") (zat q_wsX4_loseAll k_wsX4_loseAll 190 rfl (by decide +kernel))) (fun _ h9 => h9) rfl dX4_loseAll_12 hgo
          ·
            rw [ht9.2] at hk_7
            exact va_get (D := (dC, dI)) (ci := 9) (v := .ref pa) (C := RX10) (T := TX10) (N := 9) hx hb hts zl_X4_loseAll_X10 hown hK hP kk_6 hk_7 rfl 2 (by decide) (hts (.fieldLink RX4 31 "PageOne$Item" "pieces" "[LPageOne$Piece;") (zat q_wsX4_loseAll k_wsX4_loseAll 190 rfl (by decide +kernel))) (fun _ h9 => h9) rfl dX4_loseAll_12 hgo
        ·
          refine lv_iload_n hx hb dX4_loseAll_15 rfl (lv_at hl 0 rfl) ?_
          refine lv_null hx hb dX4_loseAll_16 ?_
          obtain ⟨kk_8, hk_9⟩ := pl_at hpa.1 hg.2.1
          have hD0 := hD
          refine va_astqN hx hb hK hP hD hS kk_8 5 hk_9 rfl (vp_in_nI hlt (by omega)) dX4_loseAll_17 (fun H locs hP hD hS => ?_)
          rw [pl_set hD0 hpa.1 hg.2.1 hk_9] at hP hD
          obtain ⟨f_10, ef_10⟩ : ∃ y : xF, y = va_up f pa (aR (q 5) n (va_up g ((nI i) : Int32).toNatClampNeg none)) := ⟨_, rfl⟩
          have hI : xI q h0 d k z (va_up f_10 a0 (.inr (ciT (z.2 a0).1, itF nu kd pa 0 fa rs))) := by rw [ef_10]; exact la_step hI ha0 hne hg.2.1 hn1 hn6 hg.2.2.1 _
          have hP : va_P (dC, dI) vwCl (va_pl z.1 f_10) H := by rw [ef_10]; exact hP
          have hD : va_D A (va_pl z.1 f_10) := by rw [ef_10]; exact hD
          have hs_11 : f_10 pa = aR (q 5) n (va_up g ((nI i) : Int32).toNatClampNeg none) := by rw [ef_10]; exact up_s
          have hs_12 : f_10 a0 = .inr (ciT (z.2 a0).1, itF nu kd pa cn fa rs) := by rw [ef_10, up_o (fun e => (hne) e.symm)]; exact hg.1
          refine lv_iinc (v := (nI (i + 1))) (lv' := [(1, .int (nI (i + 1))), (0, .ref a0)]) hx hb dX4_loseAll_18 hl (k := 0) rfl (nI_1 i) (by decide) rfl (fun ls hl => ?_)
          refine lv_goto (tgt := 2) hx hb dX4_loseAll_21 (by decide) ?_
          exact ih (i + 1) _ _ _ _ ls (by omega) (by omega) ⟨hs_12, hs_11, ty_up hg.2.2.1 ty_n, by rw [ef_10, hg.2.2.2, up_up]⟩ hI hP hD hS (lv_sub hl [0, 1] rfl)
set_option maxHeartbeats 4000000 in
set_option maxRecDepth 100000 in
theorem y_loseAll (l : Launch) (dC : Nat → ClassId) (dI : Nat → Nat → Nat) (q : Nat → ClassId) (h0 : Nat) (d : Nat → Nat) (k : Nat → Int32) (z : gS) (f : xF) (hI : xI q h0 d k z f) (a0 : Nat) (ha0 : itm z a0) (nu kd cn : Int32) (pa fa : Nat) (rs : List Value) (hs : f a0 = .inr (ciT (z.2 a0).1, itF nu kd pa cn fa rs)) (n : Nat) (g : Nat → Option Nat) (hpa : tg z pa 16) (hps : f pa = aR (q 5) n g) (h1 : 1 ≤ n) (h6 : n ≤ 6) (hcb : bw cn 0 (nI n) = true) (hnn : ∀ j, j < cn.toNatClampNeg → ∃ b, g j = some b) (hlg : ∀ j, j < n → ∀ b, g j = some b → lgP z b) (sz : Nat) : Met l yX4_loseAll wsX4_loseAll ({ frames := 0, cells := 0, slots := 0, locals := 0 }) (va_Pc [.ref a0] (fun U => U.heap.size = sz ∧ PX dC dI (va_pl z.1 f) (xT q) U ∧ va_D (fun _ => True) (va_pl z.1 f))) (va_Qv (fun (w : xU) => w.1 = k ∧ w.2.1 = z ∧ xI q h0 d k z w.2.2 ∧ ∃ g2, w.2.2 = va_up (va_up f pa (aR (q 5) n g2)) a0 (.inr (ciT (z.2 a0).1, itF nu kd pa 0 fa rs))) (fun (w : xU) t => va_P (dC, dI) vwCl (va_pl w.2.1.1 w.2.2) t.heap ∧ va_D (va_A (va_pl z.1 f) sz) (va_pl w.2.1.1 w.2.2)) (va_A (va_pl z.1 f) sz)) 0 0 (va_A (va_pl z.1 f) sz) := by
  refine Met.ofW (cc := cX4_loseAll) (maxL := 2) (ret := none) (by decide) rfl ?_
  intro p e s m args below meth c s₁ B hml hv
  obtain ⟨rfl, hsz, ⟨⟨hP, hK, hN⟩, hXN⟩, hD0⟩ := hv
  have hx := B.exec
  have hb := B.bytes
  have hr := B.returns
  have hts := atoms_spec (ws := wsX4_loseAll) B.pre
  have hown : s.vm.findClass RX4 = some m.cls := findClass_of_methodNamed B.named
  have hlocks := B.notSynchronized
  subst hsz
  have hD := hD0.self (sz := s.heap.size)
  generalize hAe : va_A (va_pl z.1 f) s.heap.size = A at hD ⊢
  have hA : ∀ q : Nat, s.heap.size ≤ q → A q := fun q h => by rw [← hAe]; exact Or.inr h
  have hS : va_S A s.heap s.heap [] := va_S.rf
  have hl := lv_entry ([.ref a0]) (n := 2) (Nat.le_of_ble_eq_true rfl)
  rw [lg_entry_eq]
  generalize (lg_sl ([.ref a0]) ++ List.replicate (2 - (lg_sl ([.ref a0])).length) Slot.unset).toArray = ls at hl ⊢
  have hl : lv_has ls 2 [(0, .ref a0)] := hl
  refine lv_iconst (v := 0) hx hb dX4_loseAll_0 (by decide) ?_
  refine lv_istore_n (lv' := [(1, .int 0), (0, .ref a0)]) hx hb dX4_loseAll_1 rfl hl (by decide) rfl (fun ls hl => ?_)
  have hne := x_pan hI ha0 hpa
  have hI0 := x_upC hI ha0 hs hps (cn2 := 0) (bwN (n := 0) (by rw [nI_toInt (by omega)]; omega) (by omega)) (fun j hj => absurd hj (Nat.not_lt_zero _)) hlg
  refine y_loseAll_l (f0 := f) (nu := nu) (kd := kd) (cn := cn) (fa := fa) (rs := rs) ha0 hpa hne h1 h6 hx hb hml hts hown hN hXN hK hA (fun f2 H locs g2 ls hg hI hP hD hS hl => ?_) (n + 1) 0 _ _ _ g ls (Nat.zero_le _) (by omega) ⟨hs, hps, hlg, (up_idy hps).symm⟩ hI0 hP hD hS (lv_sub hl [0, 1] rfl)
  refine lv_aload_n hx hb dX4_loseAll_24 rfl (lv_at hl 0 rfl) ?_
  refine lv_iconst (v := 0) hx hb dX4_loseAll_25 (by decide) ?_
  obtain ⟨kk_1, hk_2⟩ := pl_at ha0.1 hg.1
  have hD0 := hD
  refine w_cut (X := fun R cells slots Q args => ∀ (H : Heap) (locs : List Loc), va_P (dC, dI) vwCl (va_pl z.1 (va_up f2 a0 (.inr (ciT (z.2 a0).1, itF nu kd pa 0 fa rs)))) H → va_D A (va_pl z.1 (va_up f2 a0 (.inr (ciT (z.2 a0).1, itF nu kd pa 0 fa rs)))) → va_S A s.heap H locs → W p l e R s m args below meth c H locs cells slots Q (F0 m 29 ls [])) ?_ (fun kC => ?_)
  ·
    intro H locs hP hD hS
    obtain ⟨f_3, ef_3⟩ : ∃ y : xF, y = va_up f2 a0 (.inr (ciT (z.2 a0).1, itF nu kd pa 0 fa rs)) := ⟨_, rfl⟩
    have hI : xI q h0 d k z f_3 := by rw [ef_3]; exact hI
    have hP : va_P (dC, dI) vwCl (va_pl z.1 f_3) H := by rw [ef_3]; exact hP
    have hD : va_D A (va_pl z.1 f_3) := by rw [ef_3]; exact hD
    have hff_3 : f_3 a0 = .inr (ciT (z.2 a0).1, itF nu kd pa 0 fa rs) := by rw [ef_3]; exact up_s
    exact W.vret hx hb hr (fun t ht hW => ⟨⟨(k, z, f_3), rfl, ⟨rfl, rfl, hI, g2, by show f_3 = _; rw [ef_3, hg.2.2.2]⟩, by rw [ht]; exact hP, hD⟩, hS.F ht⟩) hS.2.2 dX4_loseAll_29
  ·
    have hk8 := hk_2
    rcases x_tag ha0 with ht9 | ht9 | ht9 | ht9 | ht9 | ht9
    ·
      rw [ht9.2] at hk_2
      refine va_put (D := (dC, dI)) (ci := 2) (v := .int 0) (ty := .int) (C := RX2) (T := TX2) (N := 7) hx hb hts zl_X4_loseAll_X2 tyX2 tyX2_ok nmX2 hown hK hP hD hS kk_1 hk_2 rfl 3 (by decide) (hts (.fieldLink RX4 9 "PageOne$Item" "count" "I") (zat q_wsX4_loseAll k_wsX4_loseAll 194 rfl (by decide +kernel))) (fun _ h9 => h9) rfl (tyX2_ok 3 (by decide)) rfl rfl (by unfold itF; simp only [List.length_cons]; omega) dX4_loseAll_26 (fun H locs hP hD hS => kC H locs ?_ ?_ hS)
      · rw [← pl_set (e := .inr (ciT (z.2 a0).1, itF nu kd pa 0 fa rs)) hD0 ha0.1 hg.1 hk8, ht9.2]; exact hP
      · rw [← pl_set (e := .inr (ciT (z.2 a0).1, itF nu kd pa 0 fa rs)) hD0 ha0.1 hg.1 hk8, ht9.2]; exact hD
    ·
      rw [ht9.2] at hk_2
      refine va_put (D := (dC, dI)) (ci := 3) (v := .int 0) (ty := .int) (C := RX3) (T := TX3) (N := 8) hx hb hts zl_X4_loseAll_X3 tyX3 tyX3_ok nmX3 hown hK hP hD hS kk_1 hk_2 rfl 3 (by decide) (hts (.fieldLink RX4 9 "PageOne$Item" "count" "I") (zat q_wsX4_loseAll k_wsX4_loseAll 194 rfl (by decide +kernel))) (fun _ h9 => h9) rfl (tyX3_ok 3 (by decide)) rfl rfl (by unfold itF; simp only [List.length_cons]; omega) dX4_loseAll_26 (fun H locs hP hD hS => kC H locs ?_ ?_ hS)
      · rw [← pl_set (e := .inr (ciT (z.2 a0).1, itF nu kd pa 0 fa rs)) hD0 ha0.1 hg.1 hk8, ht9.2]; exact hP
      · rw [← pl_set (e := .inr (ciT (z.2 a0).1, itF nu kd pa 0 fa rs)) hD0 ha0.1 hg.1 hk8, ht9.2]; exact hD
    ·
      rw [ht9.2] at hk_2
      refine va_put (D := (dC, dI)) (ci := 4) (v := .int 0) (ty := .int) (C := RX5) (T := TX5) (N := 7) hx hb hts zl_X4_loseAll_X5 tyX5 tyX5_ok nmX5 hown hK hP hD hS kk_1 hk_2 rfl 3 (by decide) (hts (.fieldLink RX4 9 "PageOne$Item" "count" "I") (zat q_wsX4_loseAll k_wsX4_loseAll 194 rfl (by decide +kernel))) (fun _ h9 => h9) rfl (tyX5_ok 3 (by decide)) rfl rfl (by unfold itF; simp only [List.length_cons]; omega) dX4_loseAll_26 (fun H locs hP hD hS => kC H locs ?_ ?_ hS)
      · rw [← pl_set (e := .inr (ciT (z.2 a0).1, itF nu kd pa 0 fa rs)) hD0 ha0.1 hg.1 hk8, ht9.2]; exact hP
      · rw [← pl_set (e := .inr (ciT (z.2 a0).1, itF nu kd pa 0 fa rs)) hD0 ha0.1 hg.1 hk8, ht9.2]; exact hD
    ·
      rw [ht9.2] at hk_2
      refine va_put (D := (dC, dI)) (ci := 5) (v := .int 0) (ty := .int) (C := RX6) (T := TX6) (N := 9) hx hb hts zl_X4_loseAll_X6 tyX6 tyX6_ok nmX6 hown hK hP hD hS kk_1 hk_2 rfl 3 (by decide) (hts (.fieldLink RX4 9 "PageOne$Item" "count" "I") (zat q_wsX4_loseAll k_wsX4_loseAll 194 rfl (by decide +kernel))) (fun _ h9 => h9) rfl (tyX6_ok 3 (by decide)) rfl rfl (by unfold itF; simp only [List.length_cons]; omega) dX4_loseAll_26 (fun H locs hP hD hS => kC H locs ?_ ?_ hS)
      · rw [← pl_set (e := .inr (ciT (z.2 a0).1, itF nu kd pa 0 fa rs)) hD0 ha0.1 hg.1 hk8, ht9.2]; exact hP
      · rw [← pl_set (e := .inr (ciT (z.2 a0).1, itF nu kd pa 0 fa rs)) hD0 ha0.1 hg.1 hk8, ht9.2]; exact hD
    ·
      rw [ht9.2] at hk_2
      refine va_put (D := (dC, dI)) (ci := 6) (v := .int 0) (ty := .int) (C := RX7) (T := TX7) (N := 8) hx hb hts zl_X4_loseAll_X7 tyX7 tyX7_ok nmX7 hown hK hP hD hS kk_1 hk_2 rfl 3 (by decide) (hts (.fieldLink RX4 9 "PageOne$Item" "count" "I") (zat q_wsX4_loseAll k_wsX4_loseAll 194 rfl (by decide +kernel))) (fun _ h9 => h9) rfl (tyX7_ok 3 (by decide)) rfl rfl (by unfold itF; simp only [List.length_cons]; omega) dX4_loseAll_26 (fun H locs hP hD hS => kC H locs ?_ ?_ hS)
      · rw [← pl_set (e := .inr (ciT (z.2 a0).1, itF nu kd pa 0 fa rs)) hD0 ha0.1 hg.1 hk8, ht9.2]; exact hP
      · rw [← pl_set (e := .inr (ciT (z.2 a0).1, itF nu kd pa 0 fa rs)) hD0 ha0.1 hg.1 hk8, ht9.2]; exact hD
    ·
      rw [ht9.2] at hk_2
      refine va_put (D := (dC, dI)) (ci := 9) (v := .int 0) (ty := .int) (C := RX10) (T := TX10) (N := 9) hx hb hts zl_X4_loseAll_X10 tyX10 tyX10_ok nmX10 hown hK hP hD hS kk_1 hk_2 rfl 3 (by decide) (hts (.fieldLink RX4 9 "PageOne$Item" "count" "I") (zat q_wsX4_loseAll k_wsX4_loseAll 194 rfl (by decide +kernel))) (fun _ h9 => h9) rfl (tyX10_ok 3 (by decide)) rfl rfl (by unfold itF; simp only [List.length_cons]; omega) dX4_loseAll_26 (fun H locs hP hD hS => kC H locs ?_ ?_ hS)
      · rw [← pl_set (e := .inr (ciT (z.2 a0).1, itF nu kd pa 0 fa rs)) hD0 ha0.1 hg.1 hk8, ht9.2]; exact hP
      · rw [← pl_set (e := .inr (ciT (z.2 a0).1, itF nu kd pa 0 fa rs)) hD0 ha0.1 hg.1 hk8, ht9.2]; exact hD
/-- loseAll: what is written keeps rep -/
theorem rep_all {q h0 d k u z f} {i n : Nat} {g g2 : Nat → Option Nat} {rs : List Value} (hI : xI q h0 d k z f) (h : rep q d u z f) (hn : bw (u.1 3) 0 80 = true) (hi : i < (u.1 3).toNatClampNeg) (hnn : n = if u.2 4 i = 0 then 6 else 1) (hs : f (d (2000 + i)) = .inr (ciT (z.2 (d (2000 + i))).1, itF (nI i) (u.2 4 i) (d (3000 + i)) (u.2 22 i) (d (4000 + i)) rs)) (hps : f (d (3000 + i)) = aR (q 5) n g) : rep q d (mst u 22 (nI i) 0) z (va_up (va_up f (d (3000 + i)) (aR (q 5) n g2)) (d (2000 + i)) (.inr (ciT (z.2 (d (2000 + i))).1, itF (nI i) (u.2 4 i) (d (3000 + i)) 0 (d (4000 + i)) rs))) := by
  have hi8 := (bw_it hn hi).2
  obtain ⟨n1, n2, n3, hkd, rs2, g3, fg, hsl, hps2, hpcs, hfs, hfe, hrs⟩ := h.2.2.1.2 i hi
  have ne : d (3000 + i) ≠ d (2000 + i) := fun e => by
    have h1 := n2.1.2
    rw [e, n1.1.2] at h1
    have := kT_r (u.2 4 i)
    omega
  have eI : (nI i).toNatClampNeg = i := nI_clamp (by omega)
  have w22 : (mst u 22 (nI i) 0).2 22 i = 0 := by rw [mst_at, eI, if_pos rfl]
  refine rep_pcs (n := n) (g2 := g2) h hn hi hnn hs ?_ ?_ ?_ (fun j hj e => d3_inj hI h.2.2.1 hj hi e) ?_ rfl (fun r hr => mst_other (by omega)) (fun j hj => by rw [mst_at, eI, if_neg hj]) (fun r r1 r2 j hj hji t ht => by rw [mst_other (by omega)])
  · rw [up_s, w22]
  · rw [up_o ne, up_s]
  · exact fK_up (fK_3 (fK_rf d z f _) n2.1 (fun j hj9 hj e => hj (Or.inr ⟨by omega, by omega, e⟩))) n1 (fun e => by have := kT_r (u.2 4 i); omega) (Or.inl rfl)
  · intro t ht
    rw [w22, show (0 : Int32).toNatClampNeg = 0 from rfl] at ht
    exact absurd ht (Nat.not_lt_zero t)
theorem rep_clear {q d u z f} {p : Nat} {g2 : Nat → Int32} (h : rep q d u z f) (hp : p < 12) (hg : ∀ j, j < 480 → g2 j = (-2)) : rep q d (mput u 2 (fun j => if 480 * p ≤ j ∧ j < 480 * p + 480 then (-2) else u.2 2 j)) z (va_up f (d (50 + p)) (aI (q 0) 480 g2)) := by
  obtain ⟨m1, m2, m3, dd, ii, s1, ⟨gl, s2, s3⟩, gc2, s4, s5⟩ := h.1.2 p hp
  generalize hw9 : mput u 2 (fun j => if 480 * p ≤ j ∧ j < 480 * p + 480 then (-2) else u.2 2 j) = w
  have w2 : ∀ r, r ≠ 2 → w.2 r = u.2 r := fun r r1 => by rw [← hw9, mput_other r1]
  have w0 : ∀ j, w.2 2 j = if 480 * p ≤ j ∧ j < 480 * p + 480 then (-2) else u.2 2 j := fun j => by rw [← hw9]; rfl
  have w1 : w.1 = u.1 := by rw [← hw9]; rfl
  have hf : fK d z f (va_up f (d (50 + p)) (aI (q 0) 480 g2)) (fun x => x = 50 + p) := fK_up (fK_rf d z f _) m3 (by decide) rfl
  refine rep_pg (p := p) h hf (fun x hx => by omega) hp w1 (fun r r1 => w2 r (by omega)) (fun j hj hjp => ⟨by rw [w2 1 (by omega)], fun t ht => by rw [w2 0 (by omega)], fun t ht => by rw [w0, if_neg (by omega)]⟩) ⟨dd, ii, ?_, ⟨gl, ?_, ?_⟩, _, up_s, fun t ht => ?_⟩
  · rw [hf.1 _ _ m1 (by omega), w2 1 (by omega)]; exact s1
  · rw [hf.1 _ _ m2 (by omega)]; exact s2
  · rw [w2 0 (by omega)]; exact s3
  · rw [w0, if_pos (by omega)]; exact hg t ht
theorem rep_h0 {q h0 d k u z f} {e : va_E} (h : rep q d u z f) (hI : xI q h0 d k z f) (hz0 : (z.2 h0).2.1 = 0) : rep q d u z (va_up f h0 e) := rep_3 h (fK_h0 (fK_rf d z f _) h.2.2.2.2.1 hI.2.1.1 hz0)
/-- the desk cleared -/
def cd1 (u : mS) (n : Nat) : mS := mput u 22 (fun j => if j < n then 0 else u.2 22 j)
def cd2 (u : mS) (p : Nat) : mS := mput u 2 (fun j => if j < 480 * p then (-2) else u.2 2 j)
theorem cd1_s (u : mS) {n : Nat} (h : n < 1000) : mst (cd1 u n) 22 (nI n) 0 = cd1 u (n + 1) := by
  unfold mst cd1
  refine Prod.ext rfl ?_
  funext r
  show (if r = 22 then upd _ _ _ else (if r = 22 then _ else u.2 r)) = (if r = 22 then _ else u.2 r)
  by_cases e : r = 22
  · rw [if_pos e, if_pos e]
    funext j
    unfold upd
    rw [nI_clamp (by omega)]
    show (if j = n then 0 else (if 22 = 22 then (fun j => if j < n then 0 else u.2 22 j) else u.2 22) j) = _
    rw [if_pos rfl]
    by_cases e2 : j = n
    · rw [if_pos e2, if_pos (by omega)]
    · rw [if_neg e2]
      by_cases e3 : j < n
      · rw [if_pos e3, if_pos (by omega)]
      · rw [if_neg e3, if_neg (by omega)]
  · rw [if_neg e, if_neg e, if_neg e]
theorem cd2_s (u : mS) (p : Nat) : mput (cd2 u p) 2 (fun j => if 480 * p ≤ j ∧ j < 480 * p + 480 then (-2) else (cd2 u p).2 2 j) = cd2 u (p + 1) := by
  unfold cd2
  refine Prod.ext rfl ?_
  funext r
  show (if r = 2 then _ else (if r = 2 then _ else u.2 r)) = (if r = 2 then _ else u.2 r)
  by_cases e : r = 2
  · rw [if_pos e, if_pos e]
    funext j
    show (if 480 * p ≤ j ∧ j < 480 * p + 480 then (-2 : Int32) else (if j < 480 * p then (-2) else u.2 2 j)) = if j < 480 * (p + 1) then (-2) else u.2 2 j
    by_cases e2 : 480 * p ≤ j ∧ j < 480 * p + 480
    · rw [if_pos e2, if_pos (by omega)]
    · rw [if_neg e2]
      by_cases e3 : j < 480 * p
      · rw [if_pos e3, if_pos (by omega)]
      · rw [if_neg e3, if_neg (by omega)]
  · rw [if_neg e, if_neg e, if_neg e]
theorem cd1_0 (u : mS) : cd1 u 0 = u := by
  unfold cd1 mput
  refine Prod.ext rfl ?_
  funext r
  show (if r = 22 then _ else u.2 r) = u.2 r
  by_cases e : r = 22
  · rw [if_pos e, e]; rfl
  · rw [if_neg e]
theorem cd2_0 (u : mS) : cd2 u 0 = u := by
  unfold cd2 mput
  refine Prod.ext rfl ?_
  funext r
  show (if r = 2 then _ else u.2 r) = u.2 r
  by_cases e : r = 2
  · rw [if_pos e, e]; rfl
  · rw [if_neg e]
set_option maxHeartbeats 4000000 in
set_option maxRecDepth 100000 in
theorem y_cd1 {p : Program} {l : Launch} {e : Env} {R : Room} {s : State} {m : MethodId} {args : Array Value} {below : List Frame} {meth : Method} {c : Code} {Q : State → Prop} {cells slots : Nat} {dC : Nat → ClassId} {dI : Nat → Nat → Nat} {q : Nat → ClassId} {h0 : Nat} {d : Nat → Nat} {k : Nat → Int32} {z : gS} {f0 : xF} {u : mS} (hk0 : k 0 = u.1 3) {K : Nat} (hK8 : K ≤ 80) (eK : k 0 = nI K) (eKn : (u.1 3).toNatClampNeg = K) {A : Nat → Prop} {H0 : Heap} (hx : p.tables.exec = Jvm.exec) (hb : c.code = cX11_clearDesk) (hml : c.maxLocals = 2) (hts : ∀ w ∈ wsX11_clearDesk, w.before args s = true) (hown : s.vm.findClass RX11 = some m.cls) (hN : NN s) (hXN : XN s) (hK : va_K (dC, dI) vwCl (xT q) s) (hRf : 1 ≤ R.frames) (hRl : 21 ≤ R.locals) (hRc : cells ≤ R.cells) (hRs : slots ≤ R.slots) (hA : ∀ q : Nat, H0.size ≤ q → A q) (kx25 : ∀ (f : xF) (H : Heap) (locs : List Loc) (ls : Array Slot), (rep q d (cd1 u K) z f ∧ f (d 3) = f0 (d 3)) → xI q h0 d k z f → va_P (dC, dI) vwCl (va_pl z.1 f) H → va_D A (va_pl z.1 f) → va_S A H0 H locs → lv_has ls 2 [(0, .ref h0)] → W p l e R s m args below meth c H locs cells slots Q (F0 m 25 ls [])) : ∀ (kk i : Nat) (f : xF) (H : Heap) (locs : List Loc) (ls : Array Slot), i ≤ K → K - i < kk → (rep q d (cd1 u i) z f ∧ f (d 3) = f0 (d 3)) → xI q h0 d k z f → va_P (dC, dI) vwCl (va_pl z.1 f) H → va_D A (va_pl z.1 f) → va_S A H0 H locs → lv_has ls 2 [(1, .int (nI i)), (0, .ref h0)] → W p l e R s m args below meth c H locs cells slots Q (F0 m 2 ls []) := by
  intro kk
  induction kk with
  | zero => intro i f H locs ls h1 h2; exact absurd h2 (Nat.not_lt_zero _)
  | succ kk ih =>
    intro i f H locs ls hi hkk hg hI hP hD hS hl
    obtain ⟨ui, eui⟩ : ∃ y : mS, y = cd1 u i := ⟨_, rfl⟩
    have hrpi : rep q d ui z f := by rw [eui]; exact hg.1
    have hu1 : ui.1 = u.1 := by rw [eui]; rfl
    refine lv_iload_n hx hb dX11_clearDesk_2 rfl (lv_at hl 0 rfl) ?_
    refine lv_aload_n hx hb dX11_clearDesk_3 rfl (lv_at hl 1 rfl) ?_
    obtain ⟨kk_1, hk_2⟩ := pl_at hI.2.1.1.1 hI.2.2.2.1.1
    refine va_get (D := (dC, dI)) (ci := 10) (v := .int (k 0)) (C := RX11) (T := TX11) (N := 9) hx hb hts zl_X11_clearDesk_X11 hown hK hP kk_1 hk_2 rfl 3 (by decide) (hts (.fieldLink RX11 24 "PageOne" "itemCount" "I") (zat q_wsX11_clearDesk k_wsX11_clearDesk 115 rfl (by decide +kernel))) (fun _ h9 => h9) rfl dX11_clearDesk_4 ?_
    refine lv_topi (fun y_3 ey_3 => ?_)
    obtain rfl : y_3 = (nI K) := ey_3.trans (eK)
    refine lv_icmp_ge (tgt := 25) hx hb dX11_clearDesk_7 (by decide) (fun c_4 => ?_) (fun c_4 => ?_)
    ·
      have hie : i = K := lp_eq rfl (by omega) hi c_4
      exact kx25 _ _ _ ls (by rw [hie] at hg; exact hg) hI hP hD hS (lv_sub hl [1] rfl)
    ·
      have hlt : i < K := lp_lt rfl (by omega) hi c_4
      refine lv_aload_n hx hb dX11_clearDesk_10 rfl (lv_at hl 1 rfl) ?_
      obtain ⟨kk_5, hk_6⟩ := pl_at hI.2.1.1.1 hI.2.2.2.1.1
      refine va_get (D := (dC, dI)) (ci := 10) (v := .ref (d 2)) (C := RX11) (T := TX11) (N := 9) hx hb hts zl_X11_clearDesk_X11 hown hK hP kk_5 hk_6 rfl 2 (by decide) (hts (.fieldLink RX11 20 "PageOne" "items" "[LPageOne$Item;") (zat q_wsX11_clearDesk k_wsX11_clearDesk 114 rfl (by decide +kernel))) (fun _ h9 => h9) rfl dX11_clearDesk_11 ?_
      refine lv_iload_n hx hb dX11_clearDesk_14 rfl (lv_at hl 0 rfl) ?_
      obtain ⟨g_7, hs_8, hn_9, hg_10⟩ := x_itm hI
      obtain ⟨kk_11, hk_12⟩ := pl_at hI.2.1.2.2.2.1.1 hs_8
      refine va_aldq hx hb hK hP kk_11 3 hk_12 rfl (vp_in_nI (by omega) (by decide)) dX11_clearDesk_15 ?_
      obtain ⟨b_13, hg_14⟩ := hn_9 ((nI i) : Int32).toNatClampNeg (by rw [eK, nI_clamp (by omega), nI_clamp (by omega)]; exact hlt)
      have ht_15 := hg_10 ((nI i) : Int32).toNatClampNeg (vlt (vp_in_nI (by omega) (by decide))) b_13 hg_14
      rw [hg_14]
      refine W.eq (g2 := F0 m 16 ls [.ref b_13]) rfl ?_
      have hii : i < (ui.1 3).toNatClampNeg := by rw [hu1, eKn]; exact hlt
      have hb_16 := rI_at hrpi.2.2.1 hs_8 hii (by rw [nI_clamp (by omega)] at hg_14; exact hg_14)
      subst hb_16
      obtain ⟨rs_17, n_18, g_19, fg_20, hit_21, hs_22, hpa_23, hps_24, h1_25, h6_26, hcb_27, hpl_28, hlg_29, hnn_30, hfa_31, hfs_32, hfe_33, hrs_34, hkt_35⟩ := it_all hI hrpi.2.2.1 hii
      have hIp := hI
      have hFc := fr_all hD hS hA
      refine w_cut (X := fun R cells slots Q args => ∀ (w9 : xU) (H : Heap) (locs : List Loc), (w9.1 = k ∧ w9.2.1 = z ∧ xI q h0 d k z w9.2.2 ∧ ∃ g2, w9.2.2 = va_up (va_up f (d (3000 + i)) (aR (q 5) n_18 g2)) (d (2000 + i)) (.inr (ciT (z.2 (d (2000 + i))).1, itF (nI i) (ui.2 4 i) (d (3000 + i)) 0 (d (4000 + i)) rs_17))) → va_P (dC, dI) vwCl (va_pl w9.2.1.1 w9.2.2) H → va_D A (va_pl w9.2.1.1 w9.2.2) → va_S A H0 H locs → W p l e R s m args below meth c H locs (cells + 0) (slots + 0) Q (F0 m 19 ls ([]))) ?_ (fun kC => ?_)
      ·
        intro w_36 H locs hw hP hD hS
        rw [hw.2.1] at hP hD
        have hI := hw.2.2.1
        have hw0 := hw
        generalize w_36.2.2 = f_132 at hP hD hI hw0
        refine lv_iinc (v := (nI (i + 1))) (lv' := [(1, .int (nI (i + 1))), (0, .ref h0)]) hx hb dX11_clearDesk_19 hl (k := 0) rfl (nI_1 i) (by decide) rfl (fun ls hl => ?_)
        refine lv_goto (tgt := 2) hx hb dX11_clearDesk_22 (by decide) ?_
        exact ih (i + 1) _ _ _ ls (by omega) (by omega) (by obtain ⟨-, -, -, g2, hf2⟩ := hw0; refine ⟨?_, ?_⟩; rw [← cd1_s u (by omega), ← eui, hf2]; exact rep_all hIp hrpi (by rw [hu1, ← hk0]; exact hI.1.1) hii hnn_30 hs_22 hps_24; rw [hf2, up_o (Ne.symm (itm_ne hit_21 hI.2.1.2.2.2.2.1 (by decide))), up_o (tg_ne hI.2.1.2.2.2.2.1 hpa_23 (by decide))]; exact hg.2) hI hP hD hS (lv_sub hl [0, 1] rfl)
      ·
        rcases x_tag hit_21 with ht9 | ht9 | ht9 | ht9 | ht9 | ht9
        ·
          obtain ⟨nu_37, kd_38, cn_39, pa_40, fa_41, l_42, m_43, hs_44, hs_45, hs_46, hs_47⟩ := x_ifl hI ht9
          obtain ⟨kk_48, hk_49⟩ := pl_at ht9.1 hs_44
          exact va_callv (va_runU (As := []) (rest := []) ⟨hx, hb, hml, hown, hts⟩ (y_loseAll l dC dI q h0 d k z f hI (d (2000 + i)) hit_21 (nI i) (ui.2 4 i) (ui.2 22 i) (d (3000 + i)) (d (4000 + i)) rs_17 hs_22 n_18 g_19 hpa_23 hps_24 h1_25 h6_26 hcb_27 (fun j hj => by obtain ⟨b9, it9, e9, -⟩ := hpl_28 j hj; exact ⟨b9, e9⟩) hlg_29 H.size) (va_cwU 0 hts gX11_clearDesk_X4_loseAll_u336X2 rfl rfl rfl rfl zu_67 ⟨Nat.le_trans (Nat.le_of_ble_eq_true rfl) hRf, Nat.le_trans (Nat.le_of_ble_eq_true rfl) hRl⟩) ⟨gx_fb, va_recv hK hP (ci := 2) (q0 := kk_48) rfl hk_49, fun U hU hW => ⟨rfl, by rw [hU], px_to hU hW hP hK hN hXN, hD.weaken (fun _ _ _ _ => trivial)⟩⟩ rfl rfl hl.1 rfl (lv_room (Nat.le_of_ble_eq_true rfl)) dX11_clearDesk_16 ⟨hRc, hRs⟩) hS (fun q _ h => hFc q h) hFc (fun w9 t H1 locs ht hvm hw hB hz1 hk1 hS => kC w9 H1 locs hw (by rw [← ht]; exact hB.1) (hB.2.weaken (fun _ q _ h => hFc q.1 h)) hS)
        ·
          obtain ⟨nu_50, kd_51, cn_52, pa_53, fa_54, o_55, w_56, y_57, hs_58, hs_59, hs_60, hs_61, hq_62⟩ := x_ihd hI ht9
          obtain ⟨kk_63, hk_64⟩ := pl_at ht9.1 hs_58
          exact va_callv (va_runU (As := []) (rest := []) ⟨hx, hb, hml, hown, hts⟩ (y_loseAll l dC dI q h0 d k z f hI (d (2000 + i)) hit_21 (nI i) (ui.2 4 i) (ui.2 22 i) (d (3000 + i)) (d (4000 + i)) rs_17 hs_22 n_18 g_19 hpa_23 hps_24 h1_25 h6_26 hcb_27 (fun j hj => by obtain ⟨b9, it9, e9, -⟩ := hpl_28 j hj; exact ⟨b9, e9⟩) hlg_29 H.size) (va_cwU 0 hts gX11_clearDesk_X4_loseAll_u336X3 rfl rfl rfl rfl zu_67 ⟨Nat.le_trans (Nat.le_of_ble_eq_true rfl) hRf, Nat.le_trans (Nat.le_of_ble_eq_true rfl) hRl⟩) ⟨gx_fb, va_recv hK hP (ci := 3) (q0 := kk_63) rfl hk_64, fun U hU hW => ⟨rfl, by rw [hU], px_to hU hW hP hK hN hXN, hD.weaken (fun _ _ _ _ => trivial)⟩⟩ rfl rfl hl.1 rfl (lv_room (Nat.le_of_ble_eq_true rfl)) dX11_clearDesk_16 ⟨hRc, hRs⟩) hS (fun q _ h => hFc q h) hFc (fun w9 t H1 locs ht hvm hw hB hz1 hk1 hS => kC w9 H1 locs hw (by rw [← ht]; exact hB.1) (hB.2.weaken (fun _ q _ h => hFc q.1 h)) hS)
        ·
          obtain ⟨nu_65, kd_66, cn_67, pa_68, fa_69, o_70, y_71, hs_72, hs_73, hs_74, hs_75, hq_76⟩ := x_ino hI ht9
          obtain ⟨kk_77, hk_78⟩ := pl_at ht9.1 hs_72
          exact va_callv (va_runU (As := []) (rest := []) ⟨hx, hb, hml, hown, hts⟩ (y_loseAll l dC dI q h0 d k z f hI (d (2000 + i)) hit_21 (nI i) (ui.2 4 i) (ui.2 22 i) (d (3000 + i)) (d (4000 + i)) rs_17 hs_22 n_18 g_19 hpa_23 hps_24 h1_25 h6_26 hcb_27 (fun j hj => by obtain ⟨b9, it9, e9, -⟩ := hpl_28 j hj; exact ⟨b9, e9⟩) hlg_29 H.size) (va_cwU 0 hts gX11_clearDesk_X4_loseAll_u336X5 rfl rfl rfl rfl zu_67 ⟨Nat.le_trans (Nat.le_of_ble_eq_true rfl) hRf, Nat.le_trans (Nat.le_of_ble_eq_true rfl) hRl⟩) ⟨gx_fb, va_recv hK hP (ci := 4) (q0 := kk_77) rfl hk_78, fun U hU hW => ⟨rfl, by rw [hU], px_to hU hW hP hK hN hXN, hD.weaken (fun _ _ _ _ => trivial)⟩⟩ rfl rfl hl.1 rfl (lv_room (Nat.le_of_ble_eq_true rfl)) dX11_clearDesk_16 ⟨hRc, hRs⟩) hS (fun q _ h => hFc q h) hFc (fun w9 t H1 locs ht hvm hw hB hz1 hk1 hS => kC w9 H1 locs hw (by rw [← ht]; exact hB.1) (hB.2.weaken (fun _ q _ h => hFc q.1 h)) hS)
        ·
          obtain ⟨nu_79, kd_80, cn_81, pa_82, fa_83, b_84, pr_85, sp_86, dy_87, hs_88, hs_89, hs_90, hs_91, hq_92, hq_93, hq_94⟩ := x_ipd hI ht9
          obtain ⟨kk_95, hk_96⟩ := pl_at ht9.1 hs_88
          exact va_callv (va_runU (As := []) (rest := []) ⟨hx, hb, hml, hown, hts⟩ (y_loseAll l dC dI q h0 d k z f hI (d (2000 + i)) hit_21 (nI i) (ui.2 4 i) (ui.2 22 i) (d (3000 + i)) (d (4000 + i)) rs_17 hs_22 n_18 g_19 hpa_23 hps_24 h1_25 h6_26 hcb_27 (fun j hj => by obtain ⟨b9, it9, e9, -⟩ := hpl_28 j hj; exact ⟨b9, e9⟩) hlg_29 H.size) (va_cwU 0 hts gX11_clearDesk_X4_loseAll_u336X6 rfl rfl rfl rfl zu_67 ⟨Nat.le_trans (Nat.le_of_ble_eq_true rfl) hRf, Nat.le_trans (Nat.le_of_ble_eq_true rfl) hRl⟩) ⟨gx_fb, va_recv hK hP (ci := 5) (q0 := kk_95) rfl hk_96, fun U hU hW => ⟨rfl, by rw [hU], px_to hU hW hP hK hN hXN, hD.weaken (fun _ _ _ _ => trivial)⟩⟩ rfl rfl hl.1 rfl (lv_room (Nat.le_of_ble_eq_true rfl)) dX11_clearDesk_16 ⟨hRc, hRs⟩) hS (fun q _ h => hFc q h) hFc (fun w9 t H1 locs ht hvm hw hB hz1 hk1 hS => kC w9 H1 locs hw (by rw [← ht]; exact hB.1) (hB.2.weaken (fun _ q _ h => hFc q.1 h)) hS)
        ·
          obtain ⟨nu_97, kd_98, cn_99, pa_100, fa_101, ww_102, hh_103, sz_104, hs_105, hs_106, hs_107, hs_108, hq_109, hq_110, hq_111⟩ := x_ipi hI ht9
          obtain ⟨kk_112, hk_113⟩ := pl_at ht9.1 hs_105
          exact va_callv (va_runU (As := []) (rest := []) ⟨hx, hb, hml, hown, hts⟩ (y_loseAll l dC dI q h0 d k z f hI (d (2000 + i)) hit_21 (nI i) (ui.2 4 i) (ui.2 22 i) (d (3000 + i)) (d (4000 + i)) rs_17 hs_22 n_18 g_19 hpa_23 hps_24 h1_25 h6_26 hcb_27 (fun j hj => by obtain ⟨b9, it9, e9, -⟩ := hpl_28 j hj; exact ⟨b9, e9⟩) hlg_29 H.size) (va_cwU 0 hts gX11_clearDesk_X4_loseAll_u336X7 rfl rfl rfl rfl zu_67 ⟨Nat.le_trans (Nat.le_of_ble_eq_true rfl) hRf, Nat.le_trans (Nat.le_of_ble_eq_true rfl) hRl⟩) ⟨gx_fb, va_recv hK hP (ci := 6) (q0 := kk_112) rfl hk_113, fun U hU hW => ⟨rfl, by rw [hU], px_to hU hW hP hK hN hXN, hD.weaken (fun _ _ _ _ => trivial)⟩⟩ rfl rfl hl.1 rfl (lv_room (Nat.le_of_ble_eq_true rfl)) dX11_clearDesk_16 ⟨hRc, hRs⟩) hS (fun q _ h => hFc q h) hFc (fun w9 t H1 locs ht hvm hw hB hz1 hk1 hS => kC w9 H1 locs hw (by rw [← ht]; exact hB.1) (hB.2.weaken (fun _ q _ h => hFc q.1 h)) hS)
        ·
          obtain ⟨nu_114, kd_115, cn_116, pa_117, fa_118, l_119, co_120, wd_121, nm_122, hs_123, hs_124, hs_125, hs_126, hq_127, hq_128, hq_129⟩ := x_ist hI ht9
          obtain ⟨kk_130, hk_131⟩ := pl_at ht9.1 hs_123
          exact va_callv (va_runU (As := []) (rest := []) ⟨hx, hb, hml, hown, hts⟩ (y_loseAll l dC dI q h0 d k z f hI (d (2000 + i)) hit_21 (nI i) (ui.2 4 i) (ui.2 22 i) (d (3000 + i)) (d (4000 + i)) rs_17 hs_22 n_18 g_19 hpa_23 hps_24 h1_25 h6_26 hcb_27 (fun j hj => by obtain ⟨b9, it9, e9, -⟩ := hpl_28 j hj; exact ⟨b9, e9⟩) hlg_29 H.size) (va_cwU 0 hts gX11_clearDesk_X4_loseAll_u336X10 rfl rfl rfl rfl zu_67 ⟨Nat.le_trans (Nat.le_of_ble_eq_true rfl) hRf, Nat.le_trans (Nat.le_of_ble_eq_true rfl) hRl⟩) ⟨gx_fb, va_recv hK hP (ci := 9) (q0 := kk_130) rfl hk_131, fun U hU hW => ⟨rfl, by rw [hU], px_to hU hW hP hK hN hXN, hD.weaken (fun _ _ _ _ => trivial)⟩⟩ rfl rfl hl.1 rfl (lv_room (Nat.le_of_ble_eq_true rfl)) dX11_clearDesk_16 ⟨hRc, hRs⟩) hS (fun q _ h => hFc q h) hFc (fun w9 t H1 locs ht hvm hw hB hz1 hk1 hS => kC w9 H1 locs hw (by rw [← ht]; exact hB.1) (hB.2.weaken (fun _ q _ h => hFc q.1 h)) hS)
set_option maxHeartbeats 4000000 in
set_option maxRecDepth 100000 in
theorem y_cd2 {p : Program} {l : Launch} {e : Env} {R : Room} {s : State} {m : MethodId} {args : Array Value} {below : List Frame} {meth : Method} {c : Code} {Q : State → Prop} {cells slots : Nat} {dC : Nat → ClassId} {dI : Nat → Nat → Nat} {q : Nat → ClassId} {h0 : Nat} {d : Nat → Nat} {k : Nat → Int32} {z : gS} {f0 : xF} {u : mS} {A : Nat → Prop} {H0 : Heap} (hx : p.tables.exec = Jvm.exec) (hb : c.code = cX11_clearDesk) (hml : c.maxLocals = 2) (hts : ∀ w ∈ wsX11_clearDesk, w.before args s = true) (hown : s.vm.findClass RX11 = some m.cls) (hN : NN s) (hXN : XN s) (hK : va_K (dC, dI) vwCl (xT q) s) (hRf : 2 ≤ R.frames) (hRl : 43 ≤ R.locals) (hRc : cells ≤ R.cells) (hRs : slots ≤ R.slots) (hA : ∀ q : Nat, H0.size ≤ q → A q) (kx48 : ∀ (f : xF) (H : Heap) (locs : List Loc) (ls : Array Slot), (rep q d (cd2 u 12) z f ∧ f (d 3) = f0 (d 3)) → xI q h0 d k z f → va_P (dC, dI) vwCl (va_pl z.1 f) H → va_D A (va_pl z.1 f) → va_S A H0 H locs → lv_has ls 2 [(0, .ref h0)] → W p l e R s m args below meth c H locs cells slots Q (F0 m 48 ls [])) : ∀ (kk i : Nat) (f : xF) (H : Heap) (locs : List Loc) (ls : Array Slot), i ≤ 12 → 12 - i < kk → (rep q d (cd2 u i) z f ∧ f (d 3) = f0 (d 3)) → xI q h0 d k z f → va_P (dC, dI) vwCl (va_pl z.1 f) H → va_D A (va_pl z.1 f) → va_S A H0 H locs → lv_has ls 2 [(1, .int (nI i)), (0, .ref h0)] → W p l e R s m args below meth c H locs cells slots Q (F0 m 27 ls []) := by
  intro kk
  induction kk with
  | zero => intro i f H locs ls h1 h2; exact absurd h2 (Nat.not_lt_zero _)
  | succ kk ih =>
    intro i f H locs ls hi hkk hg hI hP hD hS hl
    obtain ⟨ui, eui⟩ : ∃ y : mS, y = cd2 u i := ⟨_, rfl⟩
    have hrpi : rep q d ui z f := by rw [eui]; exact hg.1
    refine lv_iload_n hx hb dX11_clearDesk_27 rfl (lv_at hl 0 rfl) ?_
    refine lv_bipush (v := 12) hx hb dX11_clearDesk_28 (by decide) ?_
    refine lv_icmp_ge (tgt := 48) hx hb dX11_clearDesk_30 (by decide) (fun c_1 => ?_) (fun c_1 => ?_)
    ·
      have hie : i = 12 := lp_eq rfl (by decide) hi c_1
      exact kx48 _ _ _ ls (by rw [hie] at hg; exact hg) hI hP hD hS (lv_sub hl [1] rfl)
    ·
      have hlt : i < 12 := lp_lt rfl (by decide) hi c_1
      refine lv_aload_n hx hb dX11_clearDesk_33 rfl (lv_at hl 1 rfl) ?_
      obtain ⟨kk_2, hk_3⟩ := pl_at hI.2.1.1.1 hI.2.2.2.1.1
      refine va_get (D := (dC, dI)) (ci := 10) (v := .ref (d 0)) (C := RX11) (T := TX11) (N := 9) hx hb hts zl_X11_clearDesk_X11 hown hK hP kk_2 hk_3 rfl 0 (by decide) (hts (.fieldLink RX11 11 "PageOne" "pages" "[LPageOne$Sheet;") (zat q_wsX11_clearDesk k_wsX11_clearDesk 112 rfl (by decide +kernel))) (fun _ h9 => h9) rfl dX11_clearDesk_34 ?_
      refine lv_iload_n hx hb dX11_clearDesk_37 rfl (lv_at hl 0 rfl) ?_
      obtain ⟨g_4, hs_5, hg_6⟩ := x_pg hI hI.2.1.2.1
      obtain ⟨kk_7, hk_8⟩ := pl_at hI.2.1.2.1.1 hs_5
      refine va_aldq hx hb hK hP kk_7 2 hk_8 rfl (vp_in_nI hlt (by decide)) dX11_clearDesk_38 ?_
      obtain ⟨b_9, hg_10, ht_11⟩ := hg_6 _ (vlt (vp_in_nI hlt (by decide)))
      rw [hg_10]
      refine W.eq (g2 := F0 m 39 ls [.ref b_9]) rfl ?_
      have hb_12 := pg_at hrpi.1 hs_5 hlt (by rw [nI_clamp (by omega)] at hg_10; exact hg_10)
      subst hb_12
      obtain ⟨dd_13, ii_14, gl_15, gc_16, ht_17, ht_18, ht_19, hs_20, hg_21, hgb_22, hc_23, el_24, ec_25⟩ := pg_all hI hrpi.1 hlt
      obtain ⟨kk_26, hk_27⟩ := pl_at ht_17.1 hs_20
      have hFc := fr_all hD hS hA
      refine va_callv (va_runV (As := []) (rest := []) ⟨hx, hb, hml, hown, hts⟩ (y_clear l dC dI q h0 d k z f hI (d (10 + i)) (d (30 + i)) (d (50 + i)) (ui.2 1 i) dd_13 ii_14 gl_15 gc_16 ht_17 hs_20 ht_18 ht_19 hg_21 hgb_22 hc_23 H.size) (cwV 0 hts gX11_clearDesk_X9_clear rfl rfl rfl zh_X9_clear_68 ⟨Nat.le_trans (Nat.le_of_ble_eq_true rfl) hRf, Nat.le_trans (Nat.le_of_ble_eq_true rfl) hRl⟩) ⟨gx_fb, va_recv hK hP (ci := 8) (q0 := kk_26) rfl hk_27, fun U hU hW => ⟨rfl, by rw [hU], px_to hU hW hP hK hN hXN, hD.weaken (fun _ _ _ _ => trivial)⟩⟩ rfl rfl hl.1 rfl (lv_room (Nat.le_of_ble_eq_true rfl)) dX11_clearDesk_39 ⟨hRc, hRs⟩) hS (fun q _ h => hFc q h) hFc (fun w_28 t H1 locs ht hvm hw hB hz1 hk1 hS => ?_)
      obtain ⟨hP, hD1⟩ := hB
      rw [ht] at hP
      rw [hw.2.1] at hP hD1
      have hD := hD1.weaken (fun _ q _ h => hFc q.1 h)
      have hI := hw.2.2.1
      have hw0 := hw
      generalize w_28.2.2 = f_29 at hP hD hI hw0
      generalize H1 = H at hP hS ⊢
      refine lv_iinc (v := (nI (i + 1))) (lv' := [(1, .int (nI (i + 1))), (0, .ref h0)]) hx hb dX11_clearDesk_42 hl (k := 0) rfl (nI_1 i) (by decide) rfl (fun ls hl => ?_)
      refine lv_goto (tgt := 27) hx hb dX11_clearDesk_45 (by decide) ?_
      exact ih (i + 1) _ _ _ ls (by omega) (by omega) (by obtain ⟨-, -, -, g2, hf2, hg2⟩ := hw0; refine ⟨?_, ?_⟩; rw [← cd2_s u i, ← eui, hf2]; exact rep_clear hrpi hlt hg2; rw [hf2, up_o (tg_ne hI.2.1.2.2.2.2.1 ht_19 (by decide))]; exact hg.2) hI hP hD hS (lv_sub hl [0, 1] rfl)
set_option maxHeartbeats 4000000 in
set_option maxRecDepth 100000 in
theorem y_cd3 {p : Program} {l : Launch} {e : Env} {R : Room} {s : State} {m : MethodId} {args : Array Value} {below : List Frame} {meth : Method} {c : Code} {Q : State → Prop} {cells slots : Nat} {dC : Nat → ClassId} {dI : Nat → Nat → Nat} {q : Nat → ClassId} {h0 : Nat} {d : Nat → Nat} {k : Nat → Int32} {z : gS} {u : mS} {K : Nat} (hK3 : K ≤ 300) (eK : k 1 = nI K) {A : Nat → Prop} {H0 : Heap} (hx : p.tables.exec = Jvm.exec) (hb : c.code = cX11_clearDesk) (hml : c.maxLocals = 2) (hts : ∀ w ∈ wsX11_clearDesk, w.before args s = true) (hown : s.vm.findClass RX11 = some m.cls) (hN : NN s) (hXN : XN s) (hK : va_K (dC, dI) vwCl (xT q) s) (hA : ∀ q : Nat, H0.size ≤ q → A q) (kx71 : ∀ (f : xF) (H : Heap) (locs : List Loc) (ls : Array Slot), (rep q d u z f ∧ ∃ g, f (d 3) = aR (q 4) 300 g) → xI q h0 d k z f → va_P (dC, dI) vwCl (va_pl z.1 f) H → va_D A (va_pl z.1 f) → va_S A H0 H locs → lv_has ls 2 [(0, .ref h0)] → W p l e R s m args below meth c H locs cells slots Q (F0 m 71 ls [])) : ∀ (kk i : Nat) (f : xF) (H : Heap) (locs : List Loc) (ls : Array Slot), i ≤ K → K - i < kk → (rep q d u z f ∧ ∃ g, f (d 3) = aR (q 4) 300 g) → xI q h0 d k z f → va_P (dC, dI) vwCl (va_pl z.1 f) H → va_D A (va_pl z.1 f) → va_S A H0 H locs → lv_has ls 2 [(1, .int (nI i)), (0, .ref h0)] → W p l e R s m args below meth c H locs cells slots Q (F0 m 50 ls []) := by
  intro kk
  induction kk with
  | zero => intro i f H locs ls h1 h2; exact absurd h2 (Nat.not_lt_zero _)
  | succ kk ih =>
    intro i f H locs ls hi hkk hg hI hP hD hS hl
    refine lv_iload_n hx hb dX11_clearDesk_50 rfl (lv_at hl 0 rfl) ?_
    refine lv_aload_n hx hb dX11_clearDesk_51 rfl (lv_at hl 1 rfl) ?_
    obtain ⟨kk_1, hk_2⟩ := pl_at hI.2.1.1.1 hI.2.2.2.1.1
    refine va_get (D := (dC, dI)) (ci := 10) (v := .int (k 1)) (C := RX11) (T := TX11) (N := 9) hx hb hts zl_X11_clearDesk_X11 hown hK hP kk_1 hk_2 rfl 5 (by decide) (hts (.fieldLink RX11 34 "PageOne" "actCount" "I") (zat q_wsX11_clearDesk k_wsX11_clearDesk 117 rfl (by decide +kernel))) (fun _ h9 => h9) rfl dX11_clearDesk_52 ?_
    refine lv_topi (fun y_3 ey_3 => ?_)
    obtain rfl : y_3 = (nI K) := ey_3.trans (eK)
    refine lv_icmp_ge (tgt := 71) hx hb dX11_clearDesk_55 (by decide) (fun c_4 => ?_) (fun c_4 => ?_)
    ·
      have hie : i = K := lp_eq rfl (by omega) hi c_4
      exact kx71 _ _ _ ls hg hI hP hD hS (lv_sub hl [1] rfl)
    ·
      have hlt : i < K := lp_lt rfl (by omega) hi c_4
      refine lv_aload_n hx hb dX11_clearDesk_58 rfl (lv_at hl 1 rfl) ?_
      obtain ⟨kk_5, hk_6⟩ := pl_at hI.2.1.1.1 hI.2.2.2.1.1
      refine va_get (D := (dC, dI)) (ci := 10) (v := .ref (d 3)) (C := RX11) (T := TX11) (N := 9) hx hb hts zl_X11_clearDesk_X11 hown hK hP kk_5 hk_6 rfl 4 (by decide) (hts (.fieldLink RX11 30 "PageOne" "acts" "[LPageOne$Act;") (zat q_wsX11_clearDesk k_wsX11_clearDesk 116 rfl (by decide +kernel))) (fun _ h9 => h9) rfl dX11_clearDesk_59 ?_
      refine lv_iload_n hx hb dX11_clearDesk_62 rfl (lv_at hl 0 rfl) ?_
      refine lv_null hx hb dX11_clearDesk_63 ?_
      obtain ⟨g_7, hs_8, hg_9⟩ := x_ac hI hI.2.1.2.2.2.2.1
      obtain ⟨kk_10, hk_11⟩ := pl_at hI.2.1.2.2.2.2.1.1 hs_8
      have hD0 := hD
      refine va_astqN hx hb hK hP hD hS kk_10 4 hk_11 rfl (vp_in_nI (by omega) (by decide)) dX11_clearDesk_64 (fun H locs hP hD hS => ?_)
      rw [pl_set hD0 hI.2.1.2.2.2.2.1.1 hs_8 hk_11] at hP hD
      obtain ⟨f_12, ef_12⟩ : ∃ y : xF, y = va_up f (d 3) (aR (q 4) 300 (va_up g_7 ((nI i) : Int32).toNatClampNeg none)) := ⟨_, rfl⟩
      have hI : xI q h0 d k z f_12 := by rw [ef_12]; exact x_up hI hI.2.1.2.2.2.2.1 (by decide) (cO_5 hI.2.1.2.2.2.2.1.2 ⟨_, rfl, ty_up hg_9 ty_n⟩)
      have hP : va_P (dC, dI) vwCl (va_pl z.1 f_12) H := by rw [ef_12]; exact hP
      have hD : va_D A (va_pl z.1 f_12) := by rw [ef_12]; exact hD
      refine lv_iinc (v := (nI (i + 1))) (lv' := [(1, .int (nI (i + 1))), (0, .ref h0)]) hx hb dX11_clearDesk_65 hl (k := 0) rfl (nI_1 i) (by decide) rfl (fun ls hl => ?_)
      refine lv_goto (tgt := 50) hx hb dX11_clearDesk_68 (by decide) ?_
      exact ih (i + 1) _ _ _ ls (by omega) (by omega) ⟨by rw [ef_12]; exact rep_3 hg.1 (fK_up (fK_rf d z _ _) hg.1.2.2.2.2.2.2.2.1 (by decide) rfl), _, by rw [ef_12]; exact up_s⟩ hI hP hD hS (lv_sub hl [0, 1] rfl)
def cdU (u : mS) : mS := cd2 (cd1 u (u.1 3).toNatClampNeg) 12
set_option maxHeartbeats 4000000 in
set_option maxRecDepth 100000 in
theorem y_clearDesk (l : Launch) (dC : Nat → ClassId) (dI : Nat → Nat → Nat) (q : Nat → ClassId) (h0 : Nat) (d : Nat → Nat) (k : Nat → Int32) (z : gS) (f : xF) (hI : xI q h0 d k z f) (u : mS) (hrp : rep q d u z f) (hk0 : k 0 = u.1 3) (hk1 : k 1 = u.1 28) (hk2 : k 2 = u.1 38) (hk3 : k 3 = u.1 39) (hz0 : (z.2 h0).2.1 = 0) (sz : Nat) : Met l yX11_clearDesk wsX11_clearDesk ({ frames := 2, cells := 0, slots := 0, locals := 43 }) (va_Pc [.ref h0] (fun U => U.heap.size = sz ∧ PX dC dI (va_pl z.1 f) (xT q) U ∧ va_D (fun _ => True) (va_pl z.1 f))) (va_Qv (fun (w : xU) => w.1 = kup k 1 0 ∧ w.2.1 = z ∧ xI q h0 d w.1 z w.2.2 ∧ rep q d (cdU u) z w.2.2 ∧ ∃ g, w.2.2 (d 3) = aR (q 4) 300 g) (fun (w : xU) t => va_P (dC, dI) vwCl (va_pl w.2.1.1 w.2.2) t.heap ∧ va_D (va_A (va_pl z.1 f) sz) (va_pl w.2.1.1 w.2.2)) (va_A (va_pl z.1 f) sz)) 0 0 (va_A (va_pl z.1 f) sz) := by
  refine Met.ofW (cc := cX11_clearDesk) (maxL := 2) (ret := none) (by decide) rfl ?_
  intro p e s m args below meth c s₁ B hml hv
  obtain ⟨rfl, hsz, ⟨⟨hP, hK, hN⟩, hXN⟩, hD0⟩ := hv
  have hx := B.exec
  have hb := B.bytes
  have hr := B.returns
  have hts := atoms_spec (ws := wsX11_clearDesk) B.pre
  have hown : s.vm.findClass RX11 = some m.cls := findClass_of_methodNamed B.named
  have hlocks := B.notSynchronized
  subst hsz
  have hD := hD0.self (sz := s.heap.size)
  generalize hAe : va_A (va_pl z.1 f) s.heap.size = A at hD ⊢
  have hA : ∀ q : Nat, s.heap.size ≤ q → A q := fun q h => by rw [← hAe]; exact Or.inr h
  have hS : va_S A s.heap s.heap [] := va_S.rf
  have hl := lv_entry ([.ref h0]) (n := 2) (Nat.le_of_ble_eq_true rfl)
  rw [lg_entry_eq]
  generalize (lg_sl ([.ref h0]) ++ List.replicate (2 - (lg_sl ([.ref h0])).length) Slot.unset).toArray = ls at hl ⊢
  have hl : lv_has ls 2 [(0, .ref h0)] := hl
  have hIo := hI
  refine lv_iconst (v := 0) hx hb dX11_clearDesk_0 (by decide) ?_
  refine lv_istore_n (lv' := [(1, .int 0), (0, .ref h0)]) hx hb dX11_clearDesk_1 rfl hl (by decide) rfl (fun ls hl => ?_)
  obtain ⟨K, hK8, -, eK⟩ := exN hI.1.1 (by decide)
  have h80 : (80 : Int32).toInt = 80 := rfl
  obtain ⟨K2, hK3, -, eK2⟩ := exN hI.1.2.1 (by decide)
  have h300 : (300 : Int32).toInt = 300 := rfl
  have eKn : (u.1 3).toNatClampNeg = K := by rw [← hk0, eK, nI_clamp (by omega)]
  refine y_cd1 (f0 := f) (u := u) (K := K) hk0 (by omega) eK eKn hx hb hml hts hown hN hXN hK (Nat.le_of_ble_eq_true rfl) (Nat.le_of_ble_eq_true rfl) (Nat.le_of_ble_eq_true rfl) (Nat.le_of_ble_eq_true rfl) hA (fun f1 H locs ls hg1 hI hP hD hS hl => ?_) (K + 1) 0 _ _ _ ls (Nat.zero_le _) (by omega) ⟨by rw [cd1_0]; exact hrp, rfl⟩ hI hP hD hS (lv_sub hl [0, 1] rfl)
  refine lv_iconst (v := 0) hx hb dX11_clearDesk_25 (by decide) ?_
  refine lv_istore_n (lv' := [(1, .int 0), (0, .ref h0)]) hx hb dX11_clearDesk_26 rfl hl (by decide) rfl (fun ls hl => ?_)
  refine y_cd2 (f0 := f) (u := cd1 u K) hx hb hml hts hown hN hXN hK (Nat.le_of_ble_eq_true rfl) (Nat.le_of_ble_eq_true rfl) (Nat.le_of_ble_eq_true rfl) (Nat.le_of_ble_eq_true rfl) hA (fun f2 H locs ls hg2 hI hP hD hS hl => ?_) 13 0 _ _ _ ls (by decide) (by decide) ⟨by rw [cd2_0]; exact hg1.1, hg1.2⟩ hI hP hD hS (lv_sub hl [0, 1] rfl)
  refine lv_iconst (v := 0) hx hb dX11_clearDesk_48 (by decide) ?_
  refine lv_istore_n (lv' := [(1, .int 0), (0, .ref h0)]) hx hb dX11_clearDesk_49 rfl hl (by decide) rfl (fun ls hl => ?_)
  refine y_cd3 (u := cd2 (cd1 u K) 12) (K := K2) (by omega) eK2 hx hb hml hts hown hN hXN hK hA (fun f3 H locs ls hg3 hI hP hD hS hl => ?_) (K2 + 1) 0 _ _ _ ls (Nat.zero_le _) (by omega) ⟨hg2.1, by rw [hg2.2]; obtain ⟨g, hg, -⟩ := x_ac hIo hIo.2.1.2.2.2.2.1; exact ⟨g, hg⟩⟩ hI hP hD hS (lv_sub hl [0, 1] rfl)
  have hI3 := hI
  refine lv_aload_n hx hb dX11_clearDesk_71 rfl (lv_at hl 0 rfl) ?_
  refine lv_iconst (v := 0) hx hb dX11_clearDesk_72 (by decide) ?_
  obtain ⟨kk_1, hk_2⟩ := pl_at hI.2.1.1.1 hI.2.2.2.1.1
  have hD0 := hD
  refine va_put (D := (dC, dI)) (ci := 10) (v := .int 0) (ty := .int) (C := RX11) (T := TX11) (N := 9) hx hb hts zl_X11_clearDesk_X11 tyX11 tyX11_ok nmX11 hown hK hP hD hS kk_1 hk_2 rfl 5 (by decide) (hts (.fieldLink RX11 34 "PageOne" "actCount" "I") (zat q_wsX11_clearDesk k_wsX11_clearDesk 117 rfl (by decide +kernel))) (fun _ h9 => h9) rfl (tyX11_ok 5 (by decide)) rfl rfl (Nat.le_of_ble_eq_true rfl) dX11_clearDesk_73 (fun H locs hP hD hS => ?_)
  obtain ⟨k_3, ek_3⟩ : ∃ y : Nat → Int32, y = kup k 1 0 := ⟨_, rfl⟩
  rw [pl_set hD0 hI.2.1.1.1 hI.2.2.2.1.1 hk_2] at hP hD
  obtain ⟨f_4, ef_4⟩ : ∃ y : xF, y = va_up f3 h0 (.inr (10, dkF d k_3)) := ⟨_, rfl⟩
  have hP : va_P (dC, dI) vwCl (va_pl z.1 f_4) H := by rw [ef_4, ek_3]; exact hP
  have hD : va_D A (va_pl z.1 f_4) := by rw [ef_4, ek_3]; exact hD
  have hI : xI q h0 d k_3 z f_4 := by rw [ef_4]; exact x_dk hI (by rw [ek_3]; exact ⟨hI.1.1, by rw [kup_s]; decide, hI.1.2.2⟩) (by rw [ek_3]; exact Nat.le_refl _)
  exact W.vret hx hb hr (fun t ht hW => ⟨⟨(k_3, z, f_4), rfl, ⟨by rw [ek_3], rfl, hI, by show rep q d (cdU u) z f_4; unfold cdU; rw [eKn, ef_4]; exact rep_h0 hg3.1 hI3 hz0, by obtain ⟨-, g, hg⟩ := hg3; exact ⟨g, by show f_4 (d 3) = _; rw [ef_4, up_o (tg_ne hI3.2.1.2.2.2.2.1 hI3.2.1.1 (by decide))]; exact hg⟩⟩, by rw [ht]; exact hP, hD⟩, hS.F ht⟩) hS.2.2 dX11_clearDesk_76
def edP (q : Nat → ClassId) (h0 : Nat) (d : Nat → Nat) (k : Nat → Int32) (z : gS) (f : xF) (u : mS) (r : Int32) (w : xU) : Prop := (¬ k 3 < 7 ∧ r = (-1) ∧ w = (k, z, f)) ∨ (k 3 < 7 ∧ r = k 3 + 1 ∧ w.1 = kup k 3 (k 3 + 1) ∧ w.2.1 = z ∧ xI q h0 d w.1 z w.2.2 ∧ rep q d (clE u 12) z w.2.2 ∧ w.2.2 (d 3) = f (d 3))
def dyP (q : Nat → ClassId) (h0 : Nat) (d : Nat → Nat) (k : Nat → Int32) (z : gS) (f : xF) (u : mS) (r : Int32) (w : xU) : Prop := (¬ k 2 < 399 ∧ r = (-1) ∧ w = (k, z, f)) ∨ (k 2 < 399 ∧ r = k 2 + 1 ∧ w.1 = kup (kup (kup k 1 0) 3 0) 2 (k 2 + 1) ∧ w.2.1 = z ∧ xI q h0 d w.1 z w.2.2 ∧ rep q d (cdU (clE u 12)) z w.2.2 ∧ ∃ g, w.2.2 (d 3) = aR (q 4) 300 g)
set_option maxHeartbeats 4000000 in
set_option maxRecDepth 100000 in
theorem y_edition (l : Launch) (dC : Nat → ClassId) (dI : Nat → Nat → Nat) (q : Nat → ClassId) (h0 : Nat) (d : Nat → Nat) (k : Nat → Int32) (z : gS) (f : xF) (hI : xI q h0 d k z f) (u : mS) (hrp : rep q d u z f) (hk0 : k 0 = u.1 3) (hk1 : k 1 = u.1 28) (hk2 : k 2 = u.1 38) (hk3 : k 3 = u.1 39) (hz0 : (z.2 h0).2.1 = 0) (sz : Nat) : Met l yX11_edition wsX11_edition ({ frames := 5, cells := 0, slots := 0, locals := 110 }) (va_Pc [.ref h0] (fun U => U.heap.size = sz ∧ PX dC dI (va_pl z.1 f) (xT q) U ∧ va_D (fun _ => True) (va_pl z.1 f))) (va_Qi (fun (r : Int32) (w : xU) => edP q h0 d k z f u r w) (fun (w : xU) t => va_P (dC, dI) vwCl (va_pl w.2.1.1 w.2.2) t.heap ∧ va_D (va_A (va_pl z.1 f) sz) (va_pl w.2.1.1 w.2.2)) (va_A (va_pl z.1 f) sz)) 0 0 (va_A (va_pl z.1 f) sz) := by
  refine Met.ofW (cc := cX11_edition) (maxL := 1) (ret := (some .int)) (by decide) rfl ?_
  intro p e s m args below meth c s₁ B hml hv
  obtain ⟨rfl, hsz, ⟨⟨hP, hK, hN⟩, hXN⟩, hD0⟩ := hv
  have hx := B.exec
  have hb := B.bytes
  have hr := B.returns
  have hts := atoms_spec (ws := wsX11_edition) B.pre
  have hown : s.vm.findClass RX11 = some m.cls := findClass_of_methodNamed B.named
  have hlocks := B.notSynchronized
  subst hsz
  have hD := hD0.self (sz := s.heap.size)
  generalize hAe : va_A (va_pl z.1 f) s.heap.size = A at hD ⊢
  have hA : ∀ q : Nat, s.heap.size ≤ q → A q := fun q h => by rw [← hAe]; exact Or.inr h
  have hS : va_S A s.heap s.heap [] := va_S.rf
  have hl := lv_entry ([.ref h0]) (n := 1) (Nat.le_of_ble_eq_true rfl)
  rw [lg_entry_eq]
  generalize (lg_sl ([.ref h0]) ++ List.replicate (1 - (lg_sl ([.ref h0])).length) Slot.unset).toArray = ls at hl ⊢
  have hl : lv_has ls 1 [(0, .ref h0)] := hl
  refine lv_aload_n hx hb dX11_edition_0 rfl (lv_at hl 0 rfl) ?_
  obtain ⟨kk_1, hk_2⟩ := pl_at hI.2.1.1.1 hI.2.2.2.1.1
  refine va_get (D := (dC, dI)) (ci := 10) (v := .int (k 3)) (C := RX11) (T := TX11) (N := 9) hx hb hts zl_X11_edition_X11 hown hK hP kk_1 hk_2 rfl 8 (by decide) (hts (.fieldLink RX11 44 "PageOne" "editionNow" "I") (zat q_wsX11_edition k_wsX11_edition 120 rfl (by decide +kernel))) (fun _ h9 => h9) rfl dX11_edition_1 ?_
  refine lv_bipush (v := 7) hx hb dX11_edition_4 (by decide) ?_
  refine lv_icmp_lt (tgt := 11) hx hb dX11_edition_6 (by decide) (fun c_3 => ?_) (fun c_3 => ?_)
  ·
    refine lv_aload_n hx hb dX11_edition_11 rfl (lv_at hl 0 rfl) ?_
    obtain ⟨kk_4, hk_5⟩ := pl_at hI.2.1.1.1 hI.2.2.2.1.1
    have hFc := fr_all hD hS hA
    refine va_callv (va_runV (As := []) (rest := []) ⟨hx, hb, hml, hown, hts⟩ (y_closeEdition l dC dI q h0 d k z f hI u hrp hk0 hk1 hk2 hk3 s.heap.size) (cwV 0 hts gX11_edition_X11_closeEdition rfl rfl rfl zh_X11_closeEdition_69 ⟨Nat.le_of_ble_eq_true rfl, Nat.le_of_ble_eq_true rfl⟩) ⟨gx_fb, va_recv hK hP (ci := 10) (q0 := kk_4) rfl hk_5, fun U hU hW => ⟨rfl, by rw [hU], px_to hU hW hP hK hN hXN, hD.weaken (fun _ _ _ _ => trivial)⟩⟩ rfl rfl hl.1 rfl (lv_room (Nat.le_of_ble_eq_true rfl)) dX11_edition_12 ⟨Nat.le_of_ble_eq_true rfl, Nat.le_of_ble_eq_true rfl⟩) hS (fun q _ h => hFc q h) hFc (fun w_6 t H1 locs ht hvm hw hB hz1 hk1 hS => ?_)
    obtain ⟨hP, hD1⟩ := hB
    rw [ht] at hP
    rw [hw.2.1] at hP hD1
    have hD := hD1.weaken (fun _ q _ h => hFc q.1 h)
    have hI := hw.2.2.1
    have hw0 := hw
    generalize w_6.2.2 = f_7 at hP hD hI hw0
    generalize H1 = H at hP hS ⊢
    have hrpc := hw0.2.2.2.1
    have h3c := hw0.2.2.2.2
    refine lv_aload_n hx hb dX11_edition_15 rfl (lv_at hl 0 rfl) ?_
    refine lv_dup hx hb dX11_edition_16 rfl ?_
    obtain ⟨kk_8, hk_9⟩ := pl_at hI.2.1.1.1 hI.2.2.2.1.1
    refine va_get (D := (dC, dI)) (ci := 10) (v := .int (k 3)) (C := RX11) (T := TX11) (N := 9) hx hb hts zl_X11_edition_X11 hown hK hP kk_8 hk_9 rfl 8 (by decide) (hts (.fieldLink RX11 44 "PageOne" "editionNow" "I") (zat q_wsX11_edition k_wsX11_edition 120 rfl (by decide +kernel))) (fun _ h9 => h9) rfl dX11_edition_17 ?_
    refine lv_iconst (v := 1) hx hb dX11_edition_20 (by decide) ?_
    refine lv_iadd hx hb dX11_edition_21 ?_
    refine lv_topi (fun x_10 ex_10 => ?_)
    obtain ⟨kk_11, hk_12⟩ := pl_at hI.2.1.1.1 hI.2.2.2.1.1
    have hD0 := hD
    refine va_put (D := (dC, dI)) (ci := 10) (v := .int x_10) (ty := .int) (C := RX11) (T := TX11) (N := 9) hx hb hts zl_X11_edition_X11 tyX11 tyX11_ok nmX11 hown hK hP hD hS kk_11 hk_12 rfl 8 (by decide) (hts (.fieldLink RX11 44 "PageOne" "editionNow" "I") (zat q_wsX11_edition k_wsX11_edition 120 rfl (by decide +kernel))) (fun _ h9 => h9) rfl (tyX11_ok 8 (by decide)) rfl rfl (Nat.le_of_ble_eq_true rfl) dX11_edition_22 (fun H locs hP hD hS => ?_)
    obtain ⟨k_13, ek_13⟩ : ∃ y : Nat → Int32, y = kup k 3 x_10 := ⟨_, rfl⟩
    have hIc := hI
    rw [pl_set hD0 hI.2.1.1.1 hI.2.2.2.1.1 hk_12] at hP hD
    obtain ⟨f_14, ef_14⟩ : ∃ y : xF, y = va_up f_7 h0 (.inr (10, dkF d k_13)) := ⟨_, rfl⟩
    have hP : va_P (dC, dI) vwCl (va_pl z.1 f_14) H := by rw [ef_14, ek_13]; exact hP
    have hD : va_D A (va_pl z.1 f_14) := by rw [ef_14, ek_13]; exact hD
    have hI : xI q h0 d k_13 z f_14 := by rw [ef_14]; exact x_dk hI (by rw [ek_13]; exact ⟨hI.1.1, hI.1.2.1, hI.1.2.2⟩) (by rw [ek_13]; exact Nat.le_refl _)
    refine lv_aload_n hx hb dX11_edition_25 rfl (lv_at hl 0 rfl) ?_
    obtain ⟨kk_15, hk_16⟩ := pl_at hI.2.1.1.1 hI.2.2.2.1.1
    refine va_get (D := (dC, dI)) (ci := 10) (v := .int (k_13 3)) (C := RX11) (T := TX11) (N := 9) hx hb hts zl_X11_edition_X11 hown hK hP kk_15 hk_16 rfl 8 (by decide) (hts (.fieldLink RX11 44 "PageOne" "editionNow" "I") (zat q_wsX11_edition k_wsX11_edition 120 rfl (by decide +kernel))) (fun _ h9 => h9) rfl dX11_edition_26 ?_
    exact W.iret (v := (k_13 3)) hx hb hr (fun t ht hW => ⟨⟨(k_13 3), (k_13, z, f_14), rfl, (Or.inr ⟨c_3, by rw [ek_13, kup_s, ex_10], by rw [ek_13, ex_10], rfl, hI, by show rep q d (clE u 12) z f_14; rw [ef_14]; exact rep_h0 hrpc hIc hz0, by show f_14 (d 3) = f (d 3); rw [ef_14, up_o (tg_ne hIc.2.1.2.2.2.2.1 hIc.2.1.1 (by decide))]; exact h3c⟩), by rw [ht]; exact hP, hD⟩, hS.F ht⟩) hS.2.2 dX11_edition_29
  ·
    refine lv_iconst (v := (-1)) hx hb dX11_edition_9 (by decide) ?_
    exact W.iret (v := (-1)) hx hb hr (fun t ht hW => ⟨⟨(-1), (k, z, f), rfl, (Or.inl ⟨c_3, rfl, rfl⟩), by rw [ht]; exact hP, hD⟩, hS.F ht⟩) hS.2.2 dX11_edition_10
set_option maxHeartbeats 4000000 in
set_option maxRecDepth 100000 in
theorem y_day (l : Launch) (dC : Nat → ClassId) (dI : Nat → Nat → Nat) (q : Nat → ClassId) (h0 : Nat) (d : Nat → Nat) (k : Nat → Int32) (z : gS) (f : xF) (hI : xI q h0 d k z f) (u : mS) (hrp : rep q d u z f) (hk0 : k 0 = u.1 3) (hk1 : k 1 = u.1 28) (hk2 : k 2 = u.1 38) (hk3 : k 3 = u.1 39) (hz0 : (z.2 h0).2.1 = 0) (sz : Nat) : Met l yX11_day wsX11_day ({ frames := 5, cells := 0, slots := 0, locals := 110 }) (va_Pc [.ref h0] (fun U => U.heap.size = sz ∧ PX dC dI (va_pl z.1 f) (xT q) U ∧ va_D (fun _ => True) (va_pl z.1 f))) (va_Qi (fun (r : Int32) (w : xU) => dyP q h0 d k z f u r w) (fun (w : xU) t => va_P (dC, dI) vwCl (va_pl w.2.1.1 w.2.2) t.heap ∧ va_D (va_A (va_pl z.1 f) sz) (va_pl w.2.1.1 w.2.2)) (va_A (va_pl z.1 f) sz)) 0 0 (va_A (va_pl z.1 f) sz) := by
  refine Met.ofW (cc := cX11_day) (maxL := 1) (ret := (some .int)) (by decide) rfl ?_
  intro p e s m args below meth c s₁ B hml hv
  obtain ⟨rfl, hsz, ⟨⟨hP, hK, hN⟩, hXN⟩, hD0⟩ := hv
  have hx := B.exec
  have hb := B.bytes
  have hr := B.returns
  have hts := atoms_spec (ws := wsX11_day) B.pre
  have hown : s.vm.findClass RX11 = some m.cls := findClass_of_methodNamed B.named
  have hlocks := B.notSynchronized
  subst hsz
  have hD := hD0.self (sz := s.heap.size)
  generalize hAe : va_A (va_pl z.1 f) s.heap.size = A at hD ⊢
  have hA : ∀ q : Nat, s.heap.size ≤ q → A q := fun q h => by rw [← hAe]; exact Or.inr h
  have hS : va_S A s.heap s.heap [] := va_S.rf
  have hl := lv_entry ([.ref h0]) (n := 1) (Nat.le_of_ble_eq_true rfl)
  rw [lg_entry_eq]
  generalize (lg_sl ([.ref h0]) ++ List.replicate (1 - (lg_sl ([.ref h0])).length) Slot.unset).toArray = ls at hl ⊢
  have hl : lv_has ls 1 [(0, .ref h0)] := hl
  have hk2b : bw (k 2) 0 399 = true := hI.1.2.2
  have hk1o := hk1
  refine lv_aload_n hx hb dX11_day_0 rfl (lv_at hl 0 rfl) ?_
  obtain ⟨kk_1, hk_2⟩ := pl_at hI.2.1.1.1 hI.2.2.2.1.1
  refine va_get (D := (dC, dI)) (ci := 10) (v := .int (k 2)) (C := RX11) (T := TX11) (N := 9) hx hb hts zl_X11_day_X11 hown hK hP kk_1 hk_2 rfl 7 (by decide) (hts (.fieldLink RX11 41 "PageOne" "today" "I") (zat q_wsX11_day k_wsX11_day 119 rfl (by decide +kernel))) (fun _ h9 => h9) rfl dX11_day_1 ?_
  refine lv_sipush (v := 399) hx hb dX11_day_4 (by decide) ?_
  refine lv_icmp_lt (tgt := 12) hx hb dX11_day_7 (by decide) (fun c_3 => ?_) (fun c_3 => ?_)
  ·
    refine lv_aload_n hx hb dX11_day_12 rfl (lv_at hl 0 rfl) ?_
    obtain ⟨kk_4, hk_5⟩ := pl_at hI.2.1.1.1 hI.2.2.2.1.1
    have hFc := fr_all hD hS hA
    refine va_callv (va_runV (As := []) (rest := []) ⟨hx, hb, hml, hown, hts⟩ (y_closeEdition l dC dI q h0 d k z f hI u hrp hk0 hk1 hk2 hk3 s.heap.size) (cwV 0 hts gX11_day_X11_closeEdition rfl rfl rfl zh_X11_closeEdition_69 ⟨Nat.le_of_ble_eq_true rfl, Nat.le_of_ble_eq_true rfl⟩) ⟨gx_fb, va_recv hK hP (ci := 10) (q0 := kk_4) rfl hk_5, fun U hU hW => ⟨rfl, by rw [hU], px_to hU hW hP hK hN hXN, hD.weaken (fun _ _ _ _ => trivial)⟩⟩ rfl rfl hl.1 rfl (lv_room (Nat.le_of_ble_eq_true rfl)) dX11_day_13 ⟨Nat.le_of_ble_eq_true rfl, Nat.le_of_ble_eq_true rfl⟩) hS (fun q _ h => hFc q h) hFc (fun w_6 t H1 locs ht hvm hw hB hz1 hk1 hS => ?_)
    obtain ⟨hP, hD1⟩ := hB
    rw [ht] at hP
    rw [hw.2.1] at hP hD1
    have hD := hD1.weaken (fun _ q _ h => hFc q.1 h)
    have hI := hw.2.2.1
    have hw0 := hw
    generalize w_6.2.2 = f_7 at hP hD hI hw0
    generalize H1 = H at hP hS ⊢
    have hrpc := hw0.2.2.2.1
    have h3c := hw0.2.2.2.2
    refine lv_aload_n hx hb dX11_day_16 rfl (lv_at hl 0 rfl) ?_
    obtain ⟨kk_8, hk_9⟩ := pl_at hI.2.1.1.1 hI.2.2.2.1.1
    have hFc := fr_all hD hS hA
    refine va_callv (va_runV (As := []) (rest := []) ⟨hx, hb, hml, hown, hts⟩ (y_clearDesk l dC dI q h0 d k z f_7 hI (clE u 12) hrpc (by rw [clE_1]; exact hk0) (by rw [clE_1]; exact hk1o) (by rw [clE_1]; exact hk2) (by rw [clE_1]; exact hk3) hz0 H.size) (cwV 0 hts gX11_day_X11_clearDesk rfl rfl rfl zh_X11_clearDesk_70 ⟨Nat.le_of_ble_eq_true rfl, Nat.le_of_ble_eq_true rfl⟩) ⟨gx_fb, va_recv hK hP (ci := 10) (q0 := kk_8) rfl hk_9, fun U hU hW => ⟨rfl, by rw [hU], px_to hU hW hP hK hN hXN, hD.weaken (fun _ _ _ _ => trivial)⟩⟩ rfl rfl hl.1 rfl (lv_room (Nat.le_of_ble_eq_true rfl)) dX11_day_17 ⟨Nat.le_of_ble_eq_true rfl, Nat.le_of_ble_eq_true rfl⟩) hS (fun q _ h => hFc q h) hFc (fun w_10 t H1 locs ht hvm hw hB hz1 hk1 hS => ?_)
    obtain ⟨hP, hD1⟩ := hB
    rw [ht] at hP
    rw [hw.2.1] at hP hD1
    have hD := hD1.weaken (fun _ q _ h => hFc q.1 h)
    have hI := hw.2.2.1
    have hw0 := hw
    generalize w_10.1 = k_12 at hI hw0
    generalize w_10.2.2 = f_11 at hP hD hI hw0
    generalize H1 = H at hP hS ⊢
    have hrpd := hw0.2.2.2.1
    have h3d := hw0.2.2.2.2
    have ekd := hw0.1
    refine lv_aload_n hx hb dX11_day_20 rfl (lv_at hl 0 rfl) ?_
    refine lv_iconst (v := 0) hx hb dX11_day_21 (by decide) ?_
    obtain ⟨kk_13, hk_14⟩ := pl_at hI.2.1.1.1 hI.2.2.2.1.1
    have hD0 := hD
    refine va_put (D := (dC, dI)) (ci := 10) (v := .int 0) (ty := .int) (C := RX11) (T := TX11) (N := 9) hx hb hts zl_X11_day_X11 tyX11 tyX11_ok nmX11 hown hK hP hD hS kk_13 hk_14 rfl 8 (by decide) (hts (.fieldLink RX11 44 "PageOne" "editionNow" "I") (zat q_wsX11_day k_wsX11_day 120 rfl (by decide +kernel))) (fun _ h9 => h9) rfl (tyX11_ok 8 (by decide)) rfl rfl (Nat.le_of_ble_eq_true rfl) dX11_day_22 (fun H locs hP hD hS => ?_)
    obtain ⟨k_15, ek_15⟩ : ∃ y : Nat → Int32, y = kup k_12 3 0 := ⟨_, rfl⟩
    have hIc := hI
    rw [pl_set hD0 hI.2.1.1.1 hI.2.2.2.1.1 hk_14] at hP hD
    obtain ⟨f_16, ef_16⟩ : ∃ y : xF, y = va_up f_11 h0 (.inr (10, dkF d k_15)) := ⟨_, rfl⟩
    have hP : va_P (dC, dI) vwCl (va_pl z.1 f_16) H := by rw [ef_16, ek_15]; exact hP
    have hD : va_D A (va_pl z.1 f_16) := by rw [ef_16, ek_15]; exact hD
    have hI : xI q h0 d k_15 z f_16 := by rw [ef_16]; exact x_dk hI (by rw [ek_15]; exact ⟨hI.1.1, hI.1.2.1, hI.1.2.2⟩) (by rw [ek_15]; exact Nat.le_refl _)
    have hrpd : rep q d (cdU (clE u 12)) z f_16 := by rw [ef_16]; exact rep_h0 hrpd hIc hz0
    have h3d : ∃ g, f_16 (d 3) = aR (q 4) 300 g := by obtain ⟨g, hg⟩ := h3d; exact ⟨g, by rw [ef_16, up_o (tg_ne hIc.2.1.2.2.2.2.1 hIc.2.1.1 (by decide))]; exact hg⟩
    refine lv_aload_n hx hb dX11_day_25 rfl (lv_at hl 0 rfl) ?_
    refine lv_dup hx hb dX11_day_26 rfl ?_
    obtain ⟨kk_17, hk_18⟩ := pl_at hI.2.1.1.1 hI.2.2.2.1.1
    refine va_get (D := (dC, dI)) (ci := 10) (v := .int (k_15 2)) (C := RX11) (T := TX11) (N := 9) hx hb hts zl_X11_day_X11 hown hK hP kk_17 hk_18 rfl 7 (by decide) (hts (.fieldLink RX11 41 "PageOne" "today" "I") (zat q_wsX11_day k_wsX11_day 119 rfl (by decide +kernel))) (fun _ h9 => h9) rfl dX11_day_27 ?_
    refine lv_iconst (v := 1) hx hb dX11_day_30 (by decide) ?_
    refine lv_iadd hx hb dX11_day_31 ?_
    refine lv_topi (fun x_19 ex_19 => ?_)
    obtain ⟨kk_20, hk_21⟩ := pl_at hI.2.1.1.1 hI.2.2.2.1.1
    have hD0 := hD
    refine va_put (D := (dC, dI)) (ci := 10) (v := .int x_19) (ty := .int) (C := RX11) (T := TX11) (N := 9) hx hb hts zl_X11_day_X11 tyX11 tyX11_ok nmX11 hown hK hP hD hS kk_20 hk_21 rfl 7 (by decide) (hts (.fieldLink RX11 41 "PageOne" "today" "I") (zat q_wsX11_day k_wsX11_day 119 rfl (by decide +kernel))) (fun _ h9 => h9) rfl (tyX11_ok 7 (by decide)) rfl rfl (Nat.le_of_ble_eq_true rfl) dX11_day_32 (fun H locs hP hD hS => ?_)
    obtain ⟨k_22, ek_22⟩ : ∃ y : Nat → Int32, y = kup k_15 2 x_19 := ⟨_, rfl⟩
    have hk2d : k_15 2 = k 2 := by rw [ek_15, ekd]; rfl
    have hIc := hI
    rw [pl_set hD0 hI.2.1.1.1 hI.2.2.2.1.1 hk_21] at hP hD
    obtain ⟨f_23, ef_23⟩ : ∃ y : xF, y = va_up f_16 h0 (.inr (10, dkF d k_22)) := ⟨_, rfl⟩
    have hP : va_P (dC, dI) vwCl (va_pl z.1 f_23) H := by rw [ef_23, ek_22]; exact hP
    have hD : va_D A (va_pl z.1 f_23) := by rw [ef_23, ek_22]; exact hD
    have hI : xI q h0 d k_22 z f_23 := by rw [ef_23]; exact x_dk hI (by rw [ek_22]; exact ⟨hI.1.1, hI.1.2.1, by rw [kup_s, ex_19, hk2d]; exact d399b hk2b c_3⟩) (by rw [ek_22]; exact Nat.le_refl _)
    have hrpd : rep q d (cdU (clE u 12)) z f_23 := by rw [ef_23]; exact rep_h0 hrpd hIc hz0
    have h3d : ∃ g, f_23 (d 3) = aR (q 4) 300 g := by obtain ⟨g, hg⟩ := h3d; exact ⟨g, by rw [ef_23, up_o (tg_ne hIc.2.1.2.2.2.2.1 hIc.2.1.1 (by decide))]; exact hg⟩
    refine lv_aload_n hx hb dX11_day_35 rfl (lv_at hl 0 rfl) ?_
    obtain ⟨kk_24, hk_25⟩ := pl_at hI.2.1.1.1 hI.2.2.2.1.1
    refine va_get (D := (dC, dI)) (ci := 10) (v := .int (k_22 2)) (C := RX11) (T := TX11) (N := 9) hx hb hts zl_X11_day_X11 hown hK hP kk_24 hk_25 rfl 7 (by decide) (hts (.fieldLink RX11 41 "PageOne" "today" "I") (zat q_wsX11_day k_wsX11_day 119 rfl (by decide +kernel))) (fun _ h9 => h9) rfl dX11_day_36 ?_
    exact W.iret (v := (k_22 2)) hx hb hr (fun t ht hW => ⟨⟨(k_22 2), (k_22, z, f_23), rfl, (Or.inr ⟨c_3, by rw [ek_22, kup_s, ex_19, hk2d], by rw [ek_22, ex_19, hk2d, ek_15, ekd], rfl, hI, hrpd, h3d⟩), by rw [ht]; exact hP, hD⟩, hS.F ht⟩) hS.2.2 dX11_day_39
  ·
    refine lv_iconst (v := (-1)) hx hb dX11_day_10 (by decide) ?_
    exact W.iret (v := (-1)) hx hb hr (fun t ht hW => ⟨⟨(-1), (k, z, f), rfl, (Or.inl ⟨c_3, rfl, rfl⟩), by rw [ht]; exact hP, hD⟩, hS.F ht⟩) hS.2.2 dX11_day_11
/-- a buyer whom a story names -/
def nmP (u : mS) (i j : Nat) : Prop := u.2 4 i = 3 ∧ u.2 4 j = 0 ∧ ¬ u.2 21 (10 * j + (u.2 10 i).toNatClampNeg) = 0
def rvP (u : mS) (i j : Nat) : Prop := u.2 4 i = 3 ∧ u.2 4 j = 3 ∧ ¬ u.2 20 (u.2 10 i * 10 + u.2 10 j).toNatClampNeg = 0
/-- what may not meet -/
def mnP (u : mS) (i j : Nat) (kd : Int32) : Prop := (kd = 1 ∧ rvP u i j) ∨ (kd = 2 ∧ (nmP u i j ∨ nmP u j i)) ∨ (kd = 3 ∧ u.2 4 i = 1 ∧ u.2 4 j = 1)
theorem b9l {x : Int32} (h : bw x 0 9 = true) : x.toNatClampNeg < 10 := vlt (vin h (by decide))
theorem b99 {x y : Int32} (h : bw x 0 9 = true) (h2 : bw y 0 9 = true) : (x * 10 + y).toNatClampNeg < 100 := vlt (vin2 h h2)
set_option maxHeartbeats 4000000 in
set_option maxRecDepth 100000 in
theorem y_isNamedIn (l : Launch) (dC : Nat → ClassId) (dI : Nat → Nat → Nat) (q : Nat → ClassId) (h0 : Nat) (d : Nat → Nat) (k : Nat → Int32) (z : gS) (f : xF) (hI : xI q h0 d k z f) (u : mS) (hrp : rep q d u z f) (hk0 : k 0 = u.1 3) (hk1 : k 1 = u.1 28) (hk2 : k 2 = u.1 38) (hk3 : k 3 = u.1 39) (i0 j0 : Nat) (hi0 : i0 < (u.1 3).toNatClampNeg) (hj0 : j0 < (u.1 3).toNatClampNeg) (hkB : kB u) : Met l yX11_isNamedIn wsX11_isNamedIn ({ frames := 0, cells := 0, slots := 0, locals := 0 }) (va_Pc [.ref (d (2000 + i0)), .ref (d (2000 + j0))] (PX dC dI (va_pl z.1 f) (xT q))) (vp_Si (fun r => r = bP (nmP u i0 j0))) 0 0 (fun _ => False) := by
  refine Met.ofW (cc := cX11_isNamedIn) (maxL := 4) (ret := (some .boolean)) (by decide) rfl ?_
  intro p e s m args below meth c s₁ B hml hv
  obtain ⟨rfl, ⟨hP, hK, hN⟩, hXN⟩ := hv
  have hx := B.exec
  have hb := B.bytes
  have hr := B.returns
  have hts := atoms_spec (ws := wsX11_isNamedIn) B.pre
  have hown : s.vm.findClass RX11 = some m.cls := findClass_of_methodNamed B.named
  have hlocks := B.notSynchronized
  have hl := lv_entry ([.ref (d (2000 + i0)), .ref (d (2000 + j0))]) (n := 4) (Nat.le_of_ble_eq_true rfl)
  rw [lg_entry_eq]
  generalize (lg_sl ([.ref (d (2000 + i0)), .ref (d (2000 + j0))]) ++ List.replicate (4 - (lg_sl ([.ref (d (2000 + i0)), .ref (d (2000 + j0))])).length) Slot.unset).toArray = ls at hl ⊢
  have hl : lv_has ls 4 [(0, .ref (d (2000 + i0))), (1, .ref (d (2000 + j0)))] := hl
  have h80n := w80i hI.1.1 hk0
  obtain ⟨rs_1, n_2, g_3, fg_4, hit_5, hs_6, hpa_7, hps_8, h1_9, h6_10, hcb_11, hpl_12, hlg_13, hnn_14, hfa_15, hfs_16, hfe_17, hrs_18, hkt_19⟩ := it_all hI hrp.2.2.1 hi0
  obtain ⟨rs_20, n_21, g_22, fg_23, hit_24, hs_25, hpa_26, hps_27, h1_28, h6_29, hcb_30, hpl_31, hlg_32, hnn_33, hfa_34, hfs_35, hfe_36, hrs_37, hkt_38⟩ := it_all hI hrp.2.2.1 hj0
  refine lv_aload_n hx hb dX11_isNamedIn_0 rfl (lv_at hl 0 rfl) ?_
  rcases Classical.em (tg z (d (2000 + i0)) 13) with ht9 | ht9
  ·
    have ht_39 := ht9
    have hkd_41 : u.2 4 i0 = 3 := (kT_k (kd_05 hrp.2.2.1 hi0).1 (kd_05 hrp.2.2.1 hi0).2).2.2.2.1 (hkt_19.symm.trans ht_39.2)
    obtain ⟨hx_52, hx_53, hx_54, hx_55, hx_56, hx_57⟩ := hrs_18.2.2.2.1 hkd_41
    have hs_61 : f (d (2000 + i0)) = .inr (5, [.int (nI i0), .int (u.2 4 i0), .ref (d (3000 + i0)), .int (u.2 22 i0), .ref (d (4000 + i0)), .int (u.2 10 i0), .int (u.2 14 i0), .ref (d (5000 + i0)), .ref (d (6000 + i0))]) := by rw [hs_6, ht_39.2, hx_52]; rfl
    obtain ⟨kk_62, hk_63⟩ := pl_at ht_39.1 hs_61
    refine va_instS hx hb hown (hts (.classLink RX11 104 "PageOne$Paid") (zat q_wsX11_isNamedIn k_wsX11_isNamedIn 307 rfl (by decide +kernel))) (hK.1 5 (RX6, TX6, 9) rfl).2 (va_recv hK hP (ci := 5) (q0 := kk_62) rfl hk_63) dX11_isNamedIn_1 ?_
    refine lv_if_eq (tgt := 40) hx hb dX11_isNamedIn_4 (by decide) (fun c_64 => absurd c_64 (by decide)) (fun c_64 => ?_)
    refine lv_aload_n hx hb dX11_isNamedIn_7 rfl (lv_at hl 0 rfl) ?_
    obtain ⟨kk_65, hk_66⟩ := pl_at ht_39.1 hs_61
    refine va_castS hx hb hown (hts (.classLink RX11 104 "PageOne$Paid") (zat q_wsX11_isNamedIn k_wsX11_isNamedIn 307 rfl (by decide +kernel))) (hK.1 5 (RX6, TX6, 9) rfl).2 (va_recv hK hP (ci := 5) (q0 := kk_65) rfl hk_66) dX11_isNamedIn_8 ?_
    refine lv_astore_n (lv' := [(3, .ref (d (2000 + i0))), (0, .ref (d (2000 + i0))), (1, .ref (d (2000 + j0)))]) hx hb dX11_isNamedIn_11 rfl hl (by decide) rfl (fun ls hl => ?_)
    refine lv_aload_n hx hb dX11_isNamedIn_12 rfl (lv_at hl 2 rfl) ?_
    rcases Classical.em (tg z (d (2000 + j0)) 15) with ht9 | ht9
    ·
      have ht_67 := ht9
      have hkd_69 : u.2 4 j0 = 0 := (kT_k (kd_05 hrp.2.2.1 hj0).1 (kd_05 hrp.2.2.1 hj0).2).1 (hkt_38.symm.trans ht_67.2)
      obtain ⟨hx_70, hx_71, hx_72, ⟨hx_73, hx_74, hx_75⟩, hx_76, hx_77, hx_78⟩ := hrs_37.1 hkd_69
      have hs_79 : f (d (2000 + j0)) = .inr (9, [.int (nI j0), .int (u.2 4 j0), .ref (d (3000 + j0)), .int (u.2 22 j0), .ref (d (4000 + j0)), .int (u.2 5 j0), .ref (d (5000 + j0)), .int (u.2 15 j0), .ref (d (6000 + j0))]) := by rw [hs_25, ht_67.2, hx_70]; rfl
      obtain ⟨kk_90, hk_91⟩ := pl_at ht_67.1 hs_79
      refine va_instS hx hb hown (hts (.classLink RX11 66 "PageOne$Story") (zat q_wsX11_isNamedIn k_wsX11_isNamedIn 161 rfl (by decide +kernel))) (hK.1 9 (RX10, TX10, 9) rfl).2 (va_recv hK hP (ci := 9) (q0 := kk_90) rfl hk_91) dX11_isNamedIn_13 ?_
      refine lv_if_eq (tgt := 40) hx hb dX11_isNamedIn_16 (by decide) (fun c_92 => absurd c_92 (by decide)) (fun c_92 => ?_)
      refine lv_aload_n hx hb dX11_isNamedIn_19 rfl (lv_at hl 2 rfl) ?_
      obtain ⟨kk_93, hk_94⟩ := pl_at ht_67.1 hs_79
      refine va_castS hx hb hown (hts (.classLink RX11 66 "PageOne$Story") (zat q_wsX11_isNamedIn k_wsX11_isNamedIn 161 rfl (by decide +kernel))) (hK.1 9 (RX10, TX10, 9) rfl).2 (va_recv hK hP (ci := 9) (q0 := kk_93) rfl hk_94) dX11_isNamedIn_20 ?_
      refine lv_astore_n (lv' := [(2, .ref (d (2000 + j0))), (3, .ref (d (2000 + i0))), (0, .ref (d (2000 + i0))), (1, .ref (d (2000 + j0)))]) hx hb dX11_isNamedIn_23 rfl hl (by decide) rfl (fun ls hl => ?_)
      refine lv_aload_n hx hb dX11_isNamedIn_24 rfl (lv_at hl 0 rfl) ?_
      obtain ⟨kk_95, hk_96⟩ := pl_at ht_67.1 hs_79
      refine va_get (D := (dC, dI)) (ci := 9) (v := .ref (d (6000 + j0))) (C := RX10) (T := TX10) (N := 9) hx hb hts zl_X11_isNamedIn_X10 hown hK hP kk_95 hk_96 rfl 8 (by decide) (hts (.fieldLink RX11 135 "PageOne$Story" "named" "[Z") (zat q_wsX11_isNamedIn k_wsX11_isNamedIn 180 rfl (by decide +kernel))) (fun _ h9 => h9) rfl dX11_isNamedIn_25 ?_
      refine lv_aload_n hx hb dX11_isNamedIn_28 rfl (lv_at hl 1 rfl) ?_
      obtain ⟨kk_97, hk_98⟩ := pl_at ht_39.1 hs_61
      refine va_get (D := (dC, dI)) (ci := 5) (v := .int (u.2 10 i0)) (C := RX6) (T := TX6) (N := 9) hx hb hts zl_X11_isNamedIn_X6 hown hK hP kk_97 hk_98 rfl 5 (by decide) (hts (.fieldLink RX11 260 "PageOne$Paid" "buyer" "I") (zat q_wsX11_isNamedIn k_wsX11_isNamedIn 356 rfl (by decide +kernel))) (fun _ h9 => h9) rfl dX11_isNamedIn_29 ?_
      obtain ⟨kk_99, hk_100⟩ := pl_at hx_72.1.1 hx_77
      refine va_zald hx hb hK hP kk_99 1 hk_100 rfl (vin (hkB i0 (by omega) hkd_41) (by decide)) dX11_isNamedIn_32 ?_
      refine lv_if_eq (tgt := 40) hx hb dX11_isNamedIn_33 (by decide) (fun c_101 => ?_) (fun c_101 => ?_)
      ·
        refine lv_iconst (v := 0) hx hb dX11_isNamedIn_40 (by decide) ?_
        exact W.zret (v := 0) hx hb hr (by decide) (fun t ht hW => ⟨_, rfl, (bP_f (fun h9 => h9.2.2 ((hx_78 _ (b9l (hkB i0 (by omega) hkd_41))).symm.trans c_101))).symm, ht⟩) (fun q h => absurd h List.not_mem_nil) dX11_isNamedIn_41
      ·
        refine lv_iconst (v := 1) hx hb dX11_isNamedIn_36 (by decide) ?_
        refine lv_goto (tgt := 41) hx hb dX11_isNamedIn_37 (by decide) ?_
        exact W.zret (v := 1) hx hb hr (by decide) (fun t ht hW => ⟨_, rfl, (bP_t ⟨hkd_41, hkd_69, fun e9 => c_101 ((hx_78 _ (b9l (hkB i0 (by omega) hkd_41))).trans e9)⟩).symm, ht⟩) (fun q h => absurd h List.not_mem_nil) dX11_isNamedIn_41
    ·
      have hn_68 := ht9
      have hkd_69 : ¬ u.2 4 j0 = 0 := fun e9 => ht9 ⟨hit_24.1, by rw [hkt_38, e9]; rfl⟩
      refine w_then (F0 m 16 ls [.int 0]) (fun hgo => ?_) ?_
      ·
        rcases x_tag hit_24 with ht8 | ht8 | ht8 | ht8 | ht8 | ht8
        ·
          obtain ⟨nu_102, kd_103, cn_104, pa_105, fa_106, l_107, m_108, hs_109, hs_110, hs_111, hs_112⟩ := x_ifl hI ht8
          obtain ⟨kk_113, hk_114⟩ := pl_at ht8.1 hs_109
          exact va_instNo hx hb hown (hts (.classLink RX11 66 "PageOne$Story") (zat q_wsX11_isNamedIn k_wsX11_isNamedIn 161 rfl (by decide +kernel))) hXN.n_X2_X10 (va_recv hK hP (ci := 2) (q0 := kk_113) rfl hk_114) dX11_isNamedIn_13 hgo
        ·
          obtain ⟨nu_115, kd_116, cn_117, pa_118, fa_119, o_120, w_121, y_122, hs_123, hs_124, hs_125, hs_126, hq_127⟩ := x_ihd hI ht8
          obtain ⟨kk_128, hk_129⟩ := pl_at ht8.1 hs_123
          exact va_instNo hx hb hown (hts (.classLink RX11 66 "PageOne$Story") (zat q_wsX11_isNamedIn k_wsX11_isNamedIn 161 rfl (by decide +kernel))) hXN.n_X3_X10 (va_recv hK hP (ci := 3) (q0 := kk_128) rfl hk_129) dX11_isNamedIn_13 hgo
        ·
          obtain ⟨nu_130, kd_131, cn_132, pa_133, fa_134, o_135, y_136, hs_137, hs_138, hs_139, hs_140, hq_141⟩ := x_ino hI ht8
          obtain ⟨kk_142, hk_143⟩ := pl_at ht8.1 hs_137
          exact va_instNo hx hb hown (hts (.classLink RX11 66 "PageOne$Story") (zat q_wsX11_isNamedIn k_wsX11_isNamedIn 161 rfl (by decide +kernel))) hXN.n_X5_X10 (va_recv hK hP (ci := 4) (q0 := kk_142) rfl hk_143) dX11_isNamedIn_13 hgo
        ·
          obtain ⟨nu_144, kd_145, cn_146, pa_147, fa_148, b_149, pr_150, sp_151, dy_152, hs_153, hs_154, hs_155, hs_156, hq_157, hq_158, hq_159⟩ := x_ipd hI ht8
          obtain ⟨kk_160, hk_161⟩ := pl_at ht8.1 hs_153
          exact va_instNo hx hb hown (hts (.classLink RX11 66 "PageOne$Story") (zat q_wsX11_isNamedIn k_wsX11_isNamedIn 161 rfl (by decide +kernel))) hXN.n_X6_X10 (va_recv hK hP (ci := 5) (q0 := kk_160) rfl hk_161) dX11_isNamedIn_13 hgo
        ·
          obtain ⟨nu_162, kd_163, cn_164, pa_165, fa_166, ww_167, hh_168, sz_169, hs_170, hs_171, hs_172, hs_173, hq_174, hq_175, hq_176⟩ := x_ipi hI ht8
          obtain ⟨kk_177, hk_178⟩ := pl_at ht8.1 hs_170
          exact va_instNo hx hb hown (hts (.classLink RX11 66 "PageOne$Story") (zat q_wsX11_isNamedIn k_wsX11_isNamedIn 161 rfl (by decide +kernel))) hXN.n_X7_X10 (va_recv hK hP (ci := 6) (q0 := kk_177) rfl hk_178) dX11_isNamedIn_13 hgo
        ·
          exact absurd ht8 ht9
      ·
        refine lv_if_eq (tgt := 40) hx hb dX11_isNamedIn_16 (by decide) (fun c_179 => ?_) (fun c_179 => absurd (by decide) c_179)
        refine lv_iconst (v := 0) hx hb dX11_isNamedIn_40 (by decide) ?_
        exact W.zret (v := 0) hx hb hr (by decide) (fun t ht hW => ⟨_, rfl, (bP_f (fun h9 => hkd_69 h9.2.1)).symm, ht⟩) (fun q h => absurd h List.not_mem_nil) dX11_isNamedIn_41
  ·
    have hn_40 := ht9
    have hkd_41 : ¬ u.2 4 i0 = 3 := fun e9 => ht9 ⟨hit_5.1, by rw [hkt_19, e9]; rfl⟩
    refine w_then (F0 m 4 ls [.int 0]) (fun hgo => ?_) ?_
    ·
      rcases x_tag hit_5 with ht8 | ht8 | ht8 | ht8 | ht8 | ht8
      ·
        obtain ⟨nu_180, kd_181, cn_182, pa_183, fa_184, l_185, m_186, hs_187, hs_188, hs_189, hs_190⟩ := x_ifl hI ht8
        obtain ⟨kk_191, hk_192⟩ := pl_at ht8.1 hs_187
        exact va_instNo hx hb hown (hts (.classLink RX11 104 "PageOne$Paid") (zat q_wsX11_isNamedIn k_wsX11_isNamedIn 307 rfl (by decide +kernel))) hXN.n_X2_X6 (va_recv hK hP (ci := 2) (q0 := kk_191) rfl hk_192) dX11_isNamedIn_1 hgo
      ·
        obtain ⟨nu_193, kd_194, cn_195, pa_196, fa_197, o_198, w_199, y_200, hs_201, hs_202, hs_203, hs_204, hq_205⟩ := x_ihd hI ht8
        obtain ⟨kk_206, hk_207⟩ := pl_at ht8.1 hs_201
        exact va_instNo hx hb hown (hts (.classLink RX11 104 "PageOne$Paid") (zat q_wsX11_isNamedIn k_wsX11_isNamedIn 307 rfl (by decide +kernel))) hXN.n_X3_X6 (va_recv hK hP (ci := 3) (q0 := kk_206) rfl hk_207) dX11_isNamedIn_1 hgo
      ·
        obtain ⟨nu_208, kd_209, cn_210, pa_211, fa_212, o_213, y_214, hs_215, hs_216, hs_217, hs_218, hq_219⟩ := x_ino hI ht8
        obtain ⟨kk_220, hk_221⟩ := pl_at ht8.1 hs_215
        exact va_instNo hx hb hown (hts (.classLink RX11 104 "PageOne$Paid") (zat q_wsX11_isNamedIn k_wsX11_isNamedIn 307 rfl (by decide +kernel))) hXN.n_X5_X6 (va_recv hK hP (ci := 4) (q0 := kk_220) rfl hk_221) dX11_isNamedIn_1 hgo
      ·
        exact absurd ht8 ht9
      ·
        obtain ⟨nu_222, kd_223, cn_224, pa_225, fa_226, ww_227, hh_228, sz_229, hs_230, hs_231, hs_232, hs_233, hq_234, hq_235, hq_236⟩ := x_ipi hI ht8
        obtain ⟨kk_237, hk_238⟩ := pl_at ht8.1 hs_230
        exact va_instNo hx hb hown (hts (.classLink RX11 104 "PageOne$Paid") (zat q_wsX11_isNamedIn k_wsX11_isNamedIn 307 rfl (by decide +kernel))) hXN.n_X7_X6 (va_recv hK hP (ci := 6) (q0 := kk_237) rfl hk_238) dX11_isNamedIn_1 hgo
      ·
        obtain ⟨nu_239, kd_240, cn_241, pa_242, fa_243, l_244, co_245, wd_246, nm_247, hs_248, hs_249, hs_250, hs_251, hq_252, hq_253, hq_254⟩ := x_ist hI ht8
        obtain ⟨kk_255, hk_256⟩ := pl_at ht8.1 hs_248
        exact va_instNo hx hb hown (hts (.classLink RX11 104 "PageOne$Paid") (zat q_wsX11_isNamedIn k_wsX11_isNamedIn 307 rfl (by decide +kernel))) hXN.n_X10_X6 (va_recv hK hP (ci := 9) (q0 := kk_255) rfl hk_256) dX11_isNamedIn_1 hgo
    ·
      refine lv_if_eq (tgt := 40) hx hb dX11_isNamedIn_4 (by decide) (fun c_257 => ?_) (fun c_257 => absurd (by decide) c_257)
      refine lv_iconst (v := 0) hx hb dX11_isNamedIn_40 (by decide) ?_
      exact W.zret (v := 0) hx hb hr (by decide) (fun t ht hW => ⟨_, rfl, (bP_f (fun h9 => hkd_41 h9.1)).symm, ht⟩) (fun q h => absurd h List.not_mem_nil) dX11_isNamedIn_41
theorem mn_1 {u : mS} {i j : Nat} (h : mnP u i j 1) (n : ¬ rvP u i j) : False := by
  rcases h with ⟨-, h⟩ | ⟨q, -⟩ | ⟨q, -⟩
  · exact n h
  · exact absurd q (by decide)
  · exact absurd q (by decide)
theorem mn_2 {u : mS} {i j : Nat} (h : mnP u i j 2) (n : ¬ (nmP u i j ∨ nmP u j i)) : False := by
  rcases h with ⟨q, -⟩ | ⟨-, h⟩ | ⟨q, -⟩
  · exact absurd q (by decide)
  · exact n h
  · exact absurd q (by decide)
theorem mn_3 {u : mS} {i j : Nat} (h : mnP u i j 3) (n : ¬ (u.2 4 i = 1 ∧ u.2 4 j = 1)) : False := by
  rcases h with ⟨q, -⟩ | ⟨q, -⟩ | ⟨-, h⟩
  · exact absurd q (by decide)
  · exact absurd q (by decide)
  · exact n h
set_option maxHeartbeats 4000000 in
set_option maxRecDepth 100000 in
theorem y_mayNotMeet (l : Launch) (dC : Nat → ClassId) (dI : Nat → Nat → Nat) (q : Nat → ClassId) (h0 : Nat) (d : Nat → Nat) (k : Nat → Int32) (z : gS) (f : xF) (hI : xI q h0 d k z f) (p0 : Int32) (u : mS) (hrp : rep q d u z f) (hk0 : k 0 = u.1 3) (hk1 : k 1 = u.1 28) (hk2 : k 2 = u.1 38) (hk3 : k 3 = u.1 39) (i0 j0 : Nat) (hi0 : i0 < (u.1 3).toNatClampNeg) (hj0 : j0 < (u.1 3).toNatClampNeg) (hkB : kB u) : Met l yX11_mayNotMeet wsX11_mayNotMeet ({ frames := 1, cells := 0, slots := 0, locals := 23 }) (va_Pc [.ref h0, .ref (d (2000 + i0)), .ref (d (2000 + j0)), .int p0] (PX dC dI (va_pl z.1 f) (xT q))) (vp_Si (fun r => r = bP (mnP u i0 j0 p0))) 0 0 (fun _ => False) := by
  refine Met.ofW (cc := cX11_mayNotMeet) (maxL := 6) (ret := (some .boolean)) (by decide) rfl ?_
  intro p e s m args below meth c s₁ B hml hv
  obtain ⟨rfl, ⟨hP, hK, hN⟩, hXN⟩ := hv
  have hx := B.exec
  have hb := B.bytes
  have hr := B.returns
  have hts := atoms_spec (ws := wsX11_mayNotMeet) B.pre
  have hown : s.vm.findClass RX11 = some m.cls := findClass_of_methodNamed B.named
  have hlocks := B.notSynchronized
  have hl := lv_entry ([.ref h0, .ref (d (2000 + i0)), .ref (d (2000 + j0)), .int p0]) (n := 6) (Nat.le_of_ble_eq_true rfl)
  rw [lg_entry_eq]
  generalize (lg_sl ([.ref h0, .ref (d (2000 + i0)), .ref (d (2000 + j0)), .int p0]) ++ List.replicate (6 - (lg_sl ([.ref h0, .ref (d (2000 + i0)), .ref (d (2000 + j0)), .int p0])).length) Slot.unset).toArray = ls at hl ⊢
  have hl : lv_has ls 6 [(0, .ref h0), (1, .ref (d (2000 + i0))), (2, .ref (d (2000 + j0))), (3, .int p0)] := hl
  have h80n := w80i hI.1.1 hk0
  obtain ⟨rs_1, n_2, g_3, fg_4, hit_5, hs_6, hpa_7, hps_8, h1_9, h6_10, hcb_11, hpl_12, hlg_13, hnn_14, hfa_15, hfs_16, hfe_17, hrs_18, hkt_19⟩ := it_all hI hrp.2.2.1 hi0
  obtain ⟨rs_20, n_21, g_22, fg_23, hit_24, hs_25, hpa_26, hps_27, h1_28, h6_29, hcb_30, hpl_31, hlg_32, hnn_33, hfa_34, hfs_35, hfe_36, hrs_37, hkt_38⟩ := it_all hI hrp.2.2.1 hj0
  refine lv_iload_n hx hb dX11_mayNotMeet_0 rfl (lv_at hl 3 rfl) ?_
  rcases Classical.em (p0 = 1) with s_39 | s_39
  ·
    subst s_39
    refine lv_tableIn (tgt := 28) (off := 27) hx hb dX11_mayNotMeet_1 (by decide) (by decide) (by decide) (by decide) ?_
    refine lv_aload_n hx hb dX11_mayNotMeet_28 rfl (lv_at hl 1 rfl) ?_
    rcases Classical.em (tg z (d (2000 + i0)) 13) with ht9 | ht9
    ·
      have ht_40 := ht9
      have hkd_42 : u.2 4 i0 = 3 := (kT_k (kd_05 hrp.2.2.1 hi0).1 (kd_05 hrp.2.2.1 hi0).2).2.2.2.1 (hkt_19.symm.trans ht_40.2)
      obtain ⟨hx_53, hx_54, hx_55, hx_56, hx_57, hx_58⟩ := hrs_18.2.2.2.1 hkd_42
      have hs_62 : f (d (2000 + i0)) = .inr (5, [.int (nI i0), .int (u.2 4 i0), .ref (d (3000 + i0)), .int (u.2 22 i0), .ref (d (4000 + i0)), .int (u.2 10 i0), .int (u.2 14 i0), .ref (d (5000 + i0)), .ref (d (6000 + i0))]) := by rw [hs_6, ht_40.2, hx_53]; rfl
      obtain ⟨kk_63, hk_64⟩ := pl_at ht_40.1 hs_62
      refine va_instS hx hb hown (hts (.classLink RX11 104 "PageOne$Paid") (zat q_wsX11_mayNotMeet k_wsX11_mayNotMeet 307 rfl (by decide +kernel))) (hK.1 5 (RX6, TX6, 9) rfl).2 (va_recv hK hP (ci := 5) (q0 := kk_63) rfl hk_64) dX11_mayNotMeet_29 ?_
      refine lv_if_eq (tgt := 75) hx hb dX11_mayNotMeet_32 (by decide) (fun c_65 => absurd c_65 (by decide)) (fun c_65 => ?_)
      refine lv_aload_n hx hb dX11_mayNotMeet_35 rfl (lv_at hl 1 rfl) ?_
      obtain ⟨kk_66, hk_67⟩ := pl_at ht_40.1 hs_62
      refine va_castS hx hb hown (hts (.classLink RX11 104 "PageOne$Paid") (zat q_wsX11_mayNotMeet k_wsX11_mayNotMeet 307 rfl (by decide +kernel))) (hK.1 5 (RX6, TX6, 9) rfl).2 (va_recv hK hP (ci := 5) (q0 := kk_66) rfl hk_67) dX11_mayNotMeet_36 ?_
      refine lv_astore (lv' := [(5, .ref (d (2000 + i0))), (0, .ref h0), (1, .ref (d (2000 + i0))), (2, .ref (d (2000 + j0))), (3, .int 1)]) hx hb dX11_mayNotMeet_39 hl (by decide) rfl (fun ls hl => ?_)
      refine lv_aload_n hx hb dX11_mayNotMeet_41 rfl (lv_at hl 3 rfl) ?_
      rcases Classical.em (tg z (d (2000 + j0)) 13) with ht9 | ht9
      ·
        have ht_68 := ht9
        have hkd_70 : u.2 4 j0 = 3 := (kT_k (kd_05 hrp.2.2.1 hj0).1 (kd_05 hrp.2.2.1 hj0).2).2.2.2.1 (hkt_38.symm.trans ht_68.2)
        obtain ⟨hx_81, hx_82, hx_83, hx_84, hx_85, hx_86⟩ := hrs_37.2.2.2.1 hkd_70
        have hs_90 : f (d (2000 + j0)) = .inr (5, [.int (nI j0), .int (u.2 4 j0), .ref (d (3000 + j0)), .int (u.2 22 j0), .ref (d (4000 + j0)), .int (u.2 10 j0), .int (u.2 14 j0), .ref (d (5000 + j0)), .ref (d (6000 + j0))]) := by rw [hs_25, ht_68.2, hx_81]; rfl
        obtain ⟨kk_91, hk_92⟩ := pl_at ht_68.1 hs_90
        refine va_instS hx hb hown (hts (.classLink RX11 104 "PageOne$Paid") (zat q_wsX11_mayNotMeet k_wsX11_mayNotMeet 307 rfl (by decide +kernel))) (hK.1 5 (RX6, TX6, 9) rfl).2 (va_recv hK hP (ci := 5) (q0 := kk_91) rfl hk_92) dX11_mayNotMeet_42 ?_
        refine lv_if_eq (tgt := 75) hx hb dX11_mayNotMeet_45 (by decide) (fun c_93 => absurd c_93 (by decide)) (fun c_93 => ?_)
        refine lv_aload_n hx hb dX11_mayNotMeet_48 rfl (lv_at hl 3 rfl) ?_
        obtain ⟨kk_94, hk_95⟩ := pl_at ht_68.1 hs_90
        refine va_castS hx hb hown (hts (.classLink RX11 104 "PageOne$Paid") (zat q_wsX11_mayNotMeet k_wsX11_mayNotMeet 307 rfl (by decide +kernel))) (hK.1 5 (RX6, TX6, 9) rfl).2 (va_recv hK hP (ci := 5) (q0 := kk_94) rfl hk_95) dX11_mayNotMeet_49 ?_
        refine lv_astore (lv' := [(4, .ref (d (2000 + j0))), (5, .ref (d (2000 + i0))), (0, .ref h0), (1, .ref (d (2000 + i0))), (2, .ref (d (2000 + j0))), (3, .int 1)]) hx hb dX11_mayNotMeet_52 hl (by decide) rfl (fun ls hl => ?_)
        refine lv_aload_n hx hb dX11_mayNotMeet_54 rfl (lv_at hl 2 rfl) ?_
        refine lv_aload hx hb dX11_mayNotMeet_55 (lv_at hl 1 rfl) ?_
        obtain ⟨kk_96, hk_97⟩ := pl_at ht_40.1 hs_62
        refine va_get (D := (dC, dI)) (ci := 5) (v := .int (u.2 10 i0)) (C := RX6) (T := TX6) (N := 9) hx hb hts zl_X11_mayNotMeet_X6 hown hK hP kk_96 hk_97 rfl 5 (by decide) (hts (.fieldLink RX11 260 "PageOne$Paid" "buyer" "I") (zat q_wsX11_mayNotMeet k_wsX11_mayNotMeet 356 rfl (by decide +kernel))) (fun _ h9 => h9) rfl dX11_mayNotMeet_57 ?_
        refine lv_aload hx hb dX11_mayNotMeet_60 (lv_at hl 0 rfl) ?_
        obtain ⟨kk_98, hk_99⟩ := pl_at ht_68.1 hs_90
        refine va_get (D := (dC, dI)) (ci := 5) (v := .int (u.2 10 j0)) (C := RX6) (T := TX6) (N := 9) hx hb hts zl_X11_mayNotMeet_X6 hown hK hP kk_98 hk_99 rfl 5 (by decide) (hts (.fieldLink RX11 260 "PageOne$Paid" "buyer" "I") (zat q_wsX11_mayNotMeet k_wsX11_mayNotMeet 356 rfl (by decide +kernel))) (fun _ h9 => h9) rfl dX11_mayNotMeet_62 ?_
        obtain ⟨gr9, hgr9, hgz9⟩ := x_ri hI hI.2.1.2.2.2.2.2
        obtain ⟨kk_100, hk_101⟩ := pl_at hI.2.1.1.1 hI.2.2.2.1.1
        refine vp_callSi (va_runV (As := [.int (u.2 10 i0), .int (u.2 10 j0)]) (rest := []) ⟨hx, hb, hml, hown, hts⟩ (y_areRivals l dC dI q h0 d k z f hI (u.2 10 i0) (u.2 10 j0) (hkB i0 (by omega) hkd_42) (hkB j0 (by omega) hkd_70) gr9 hgr9 hgz9) (cwV 2 hts gX11_mayNotMeet_X11_areRivals rfl rfl rfl zh_X11_areRivals_54 ⟨Nat.le_of_ble_eq_true rfl, Nat.le_of_ble_eq_true rfl⟩) ⟨px_fb, va_recv hK hP (ci := 10) (q0 := kk_100) rfl hk_101, fun U hU hW => ⟨rfl, px_to hU hW hP hK hN hXN⟩⟩ rfl rfl hl.1 rfl (lv_room (Nat.le_of_ble_eq_true rfl)) dX11_mayNotMeet_65 ⟨Nat.le_of_ble_eq_true rfl, Nat.le_of_ble_eq_true rfl⟩).run (fun r hw => ?_)
        obtain rfl : r = (gr9 ((u.2 10 i0) * 10 + (u.2 10 j0) : Int32).toNatClampNeg) := hw
        refine lv_if_eq (tgt := 75) hx hb dX11_mayNotMeet_68 (by decide) (fun c_102 => ?_) (fun c_102 => ?_)
        ·
          refine lv_iconst (v := 0) hx hb dX11_mayNotMeet_75 (by decide) ?_
          exact W.zret (v := 0) hx hb hr (by decide) (fun t ht hW => ⟨_, rfl, (bP_f (fun h9 => mn_1 h9 (fun h8 => h8.2.2 ((by obtain ⟨g9, hg9, he9⟩ := hrp.2.2.2.1; rw [(aI_inj (hgr9.symm.trans hg9)).2]; have h7 := he9 _ (b99 (hkB i0 (by omega) hkd_42) (hkB j0 (by omega) hkd_70)); rw [Nat.zero_add] at h7; exact h7 : gr9 (u.2 10 i0 * 10 + u.2 10 j0).toNatClampNeg = u.2 20 (u.2 10 i0 * 10 + u.2 10 j0).toNatClampNeg).symm.trans c_102)))).symm, ht⟩) (fun q h => absurd h List.not_mem_nil) dX11_mayNotMeet_76
        ·
          refine lv_iconst (v := 1) hx hb dX11_mayNotMeet_71 (by decide) ?_
          refine lv_goto (tgt := 76) hx hb dX11_mayNotMeet_72 (by decide) ?_
          exact W.zret (v := 1) hx hb hr (by decide) (fun t ht hW => ⟨_, rfl, (bP_t (Or.inl ⟨rfl, hkd_42, hkd_70, fun e9 => c_102 ((by obtain ⟨g9, hg9, he9⟩ := hrp.2.2.2.1; rw [(aI_inj (hgr9.symm.trans hg9)).2]; have h7 := he9 _ (b99 (hkB i0 (by omega) hkd_42) (hkB j0 (by omega) hkd_70)); rw [Nat.zero_add] at h7; exact h7 : gr9 (u.2 10 i0 * 10 + u.2 10 j0).toNatClampNeg = u.2 20 (u.2 10 i0 * 10 + u.2 10 j0).toNatClampNeg).trans e9)⟩)).symm, ht⟩) (fun q h => absurd h List.not_mem_nil) dX11_mayNotMeet_76
      ·
        have hn_69 := ht9
        have hkd_70 : ¬ u.2 4 j0 = 3 := fun e9 => ht9 ⟨hit_24.1, by rw [hkt_38, e9]; rfl⟩
        refine w_then (F0 m 45 ls [.int 0]) (fun hgo => ?_) ?_
        ·
          rcases x_tag hit_24 with ht8 | ht8 | ht8 | ht8 | ht8 | ht8
          ·
            obtain ⟨nu_103, kd_104, cn_105, pa_106, fa_107, l_108, m_109, hs_110, hs_111, hs_112, hs_113⟩ := x_ifl hI ht8
            obtain ⟨kk_114, hk_115⟩ := pl_at ht8.1 hs_110
            exact va_instNo hx hb hown (hts (.classLink RX11 104 "PageOne$Paid") (zat q_wsX11_mayNotMeet k_wsX11_mayNotMeet 307 rfl (by decide +kernel))) hXN.n_X2_X6 (va_recv hK hP (ci := 2) (q0 := kk_114) rfl hk_115) dX11_mayNotMeet_42 hgo
          ·
            obtain ⟨nu_116, kd_117, cn_118, pa_119, fa_120, o_121, w_122, y_123, hs_124, hs_125, hs_126, hs_127, hq_128⟩ := x_ihd hI ht8
            obtain ⟨kk_129, hk_130⟩ := pl_at ht8.1 hs_124
            exact va_instNo hx hb hown (hts (.classLink RX11 104 "PageOne$Paid") (zat q_wsX11_mayNotMeet k_wsX11_mayNotMeet 307 rfl (by decide +kernel))) hXN.n_X3_X6 (va_recv hK hP (ci := 3) (q0 := kk_129) rfl hk_130) dX11_mayNotMeet_42 hgo
          ·
            obtain ⟨nu_131, kd_132, cn_133, pa_134, fa_135, o_136, y_137, hs_138, hs_139, hs_140, hs_141, hq_142⟩ := x_ino hI ht8
            obtain ⟨kk_143, hk_144⟩ := pl_at ht8.1 hs_138
            exact va_instNo hx hb hown (hts (.classLink RX11 104 "PageOne$Paid") (zat q_wsX11_mayNotMeet k_wsX11_mayNotMeet 307 rfl (by decide +kernel))) hXN.n_X5_X6 (va_recv hK hP (ci := 4) (q0 := kk_143) rfl hk_144) dX11_mayNotMeet_42 hgo
          ·
            exact absurd ht8 ht9
          ·
            obtain ⟨nu_145, kd_146, cn_147, pa_148, fa_149, ww_150, hh_151, sz_152, hs_153, hs_154, hs_155, hs_156, hq_157, hq_158, hq_159⟩ := x_ipi hI ht8
            obtain ⟨kk_160, hk_161⟩ := pl_at ht8.1 hs_153
            exact va_instNo hx hb hown (hts (.classLink RX11 104 "PageOne$Paid") (zat q_wsX11_mayNotMeet k_wsX11_mayNotMeet 307 rfl (by decide +kernel))) hXN.n_X7_X6 (va_recv hK hP (ci := 6) (q0 := kk_160) rfl hk_161) dX11_mayNotMeet_42 hgo
          ·
            obtain ⟨nu_162, kd_163, cn_164, pa_165, fa_166, l_167, co_168, wd_169, nm_170, hs_171, hs_172, hs_173, hs_174, hq_175, hq_176, hq_177⟩ := x_ist hI ht8
            obtain ⟨kk_178, hk_179⟩ := pl_at ht8.1 hs_171
            exact va_instNo hx hb hown (hts (.classLink RX11 104 "PageOne$Paid") (zat q_wsX11_mayNotMeet k_wsX11_mayNotMeet 307 rfl (by decide +kernel))) hXN.n_X10_X6 (va_recv hK hP (ci := 9) (q0 := kk_178) rfl hk_179) dX11_mayNotMeet_42 hgo
        ·
          refine lv_if_eq (tgt := 75) hx hb dX11_mayNotMeet_45 (by decide) (fun c_180 => ?_) (fun c_180 => absurd (by decide) c_180)
          refine lv_iconst (v := 0) hx hb dX11_mayNotMeet_75 (by decide) ?_
          exact W.zret (v := 0) hx hb hr (by decide) (fun t ht hW => ⟨_, rfl, (bP_f (fun h9 => mn_1 h9 (fun h8 => hkd_70 h8.2.1))).symm, ht⟩) (fun q h => absurd h List.not_mem_nil) dX11_mayNotMeet_76
    ·
      have hn_41 := ht9
      have hkd_42 : ¬ u.2 4 i0 = 3 := fun e9 => ht9 ⟨hit_5.1, by rw [hkt_19, e9]; rfl⟩
      refine w_then (F0 m 32 ls [.int 0]) (fun hgo => ?_) ?_
      ·
        rcases x_tag hit_5 with ht8 | ht8 | ht8 | ht8 | ht8 | ht8
        ·
          obtain ⟨nu_181, kd_182, cn_183, pa_184, fa_185, l_186, m_187, hs_188, hs_189, hs_190, hs_191⟩ := x_ifl hI ht8
          obtain ⟨kk_192, hk_193⟩ := pl_at ht8.1 hs_188
          exact va_instNo hx hb hown (hts (.classLink RX11 104 "PageOne$Paid") (zat q_wsX11_mayNotMeet k_wsX11_mayNotMeet 307 rfl (by decide +kernel))) hXN.n_X2_X6 (va_recv hK hP (ci := 2) (q0 := kk_192) rfl hk_193) dX11_mayNotMeet_29 hgo
        ·
          obtain ⟨nu_194, kd_195, cn_196, pa_197, fa_198, o_199, w_200, y_201, hs_202, hs_203, hs_204, hs_205, hq_206⟩ := x_ihd hI ht8
          obtain ⟨kk_207, hk_208⟩ := pl_at ht8.1 hs_202
          exact va_instNo hx hb hown (hts (.classLink RX11 104 "PageOne$Paid") (zat q_wsX11_mayNotMeet k_wsX11_mayNotMeet 307 rfl (by decide +kernel))) hXN.n_X3_X6 (va_recv hK hP (ci := 3) (q0 := kk_207) rfl hk_208) dX11_mayNotMeet_29 hgo
        ·
          obtain ⟨nu_209, kd_210, cn_211, pa_212, fa_213, o_214, y_215, hs_216, hs_217, hs_218, hs_219, hq_220⟩ := x_ino hI ht8
          obtain ⟨kk_221, hk_222⟩ := pl_at ht8.1 hs_216
          exact va_instNo hx hb hown (hts (.classLink RX11 104 "PageOne$Paid") (zat q_wsX11_mayNotMeet k_wsX11_mayNotMeet 307 rfl (by decide +kernel))) hXN.n_X5_X6 (va_recv hK hP (ci := 4) (q0 := kk_221) rfl hk_222) dX11_mayNotMeet_29 hgo
        ·
          exact absurd ht8 ht9
        ·
          obtain ⟨nu_223, kd_224, cn_225, pa_226, fa_227, ww_228, hh_229, sz_230, hs_231, hs_232, hs_233, hs_234, hq_235, hq_236, hq_237⟩ := x_ipi hI ht8
          obtain ⟨kk_238, hk_239⟩ := pl_at ht8.1 hs_231
          exact va_instNo hx hb hown (hts (.classLink RX11 104 "PageOne$Paid") (zat q_wsX11_mayNotMeet k_wsX11_mayNotMeet 307 rfl (by decide +kernel))) hXN.n_X7_X6 (va_recv hK hP (ci := 6) (q0 := kk_238) rfl hk_239) dX11_mayNotMeet_29 hgo
        ·
          obtain ⟨nu_240, kd_241, cn_242, pa_243, fa_244, l_245, co_246, wd_247, nm_248, hs_249, hs_250, hs_251, hs_252, hq_253, hq_254, hq_255⟩ := x_ist hI ht8
          obtain ⟨kk_256, hk_257⟩ := pl_at ht8.1 hs_249
          exact va_instNo hx hb hown (hts (.classLink RX11 104 "PageOne$Paid") (zat q_wsX11_mayNotMeet k_wsX11_mayNotMeet 307 rfl (by decide +kernel))) hXN.n_X10_X6 (va_recv hK hP (ci := 9) (q0 := kk_256) rfl hk_257) dX11_mayNotMeet_29 hgo
      ·
        refine lv_if_eq (tgt := 75) hx hb dX11_mayNotMeet_32 (by decide) (fun c_258 => ?_) (fun c_258 => absurd (by decide) c_258)
        refine lv_iconst (v := 0) hx hb dX11_mayNotMeet_75 (by decide) ?_
        exact W.zret (v := 0) hx hb hr (by decide) (fun t ht hW => ⟨_, rfl, (bP_f (fun h9 => mn_1 h9 (fun h8 => hkd_42 h8.1))).symm, ht⟩) (fun q h => absurd h List.not_mem_nil) dX11_mayNotMeet_76
  ·
    rcases Classical.em (p0 = 2) with s_259 | s_259
    ·
      subst s_259
      refine lv_tableIn (tgt := 77) (off := 76) hx hb dX11_mayNotMeet_1 (by decide) (by decide) (by decide) (by decide) ?_
      refine lv_aload_n hx hb dX11_mayNotMeet_77 rfl (lv_at hl 1 rfl) ?_
      refine lv_aload_n hx hb dX11_mayNotMeet_78 rfl (lv_at hl 2 rfl) ?_
      refine vp_callSi (va_runS (As := [.ref (d (2000 + i0)), .ref (d (2000 + j0))]) (rest := []) ⟨hx, hb, hml, hown, hts⟩ (y_isNamedIn l dC dI q h0 d k z f hI u hrp hk0 hk1 hk2 hk3 i0 j0 hi0 hj0 hkB) (va_cwS 2 hts gX11_mayNotMeet_X11_isNamedIn rfl rfl rfl zh_X11_isNamedIn_72 ⟨Nat.le_of_ble_eq_true rfl, Nat.le_of_ble_eq_true rfl⟩) ⟨px_fb, fun U hU hW => ⟨rfl, px_to hU hW hP hK hN hXN⟩⟩ rfl rfl hl.1 rfl (lv_room (Nat.le_of_ble_eq_true rfl)) dX11_mayNotMeet_79 ⟨Nat.le_of_ble_eq_true rfl, Nat.le_of_ble_eq_true rfl⟩).run (fun r hw => ?_)
      obtain rfl : r = (bP (nmP u i0 j0)) := hw
      refine lv_if_ne (tgt := 93) hx hb dX11_mayNotMeet_82 (by decide) (fun c_260 => ?_) (fun c_260 => ?_)
      ·
        refine lv_iconst (v := 1) hx hb dX11_mayNotMeet_93 (by decide) ?_
        refine lv_goto (tgt := 98) hx hb dX11_mayNotMeet_94 (by decide) ?_
        exact W.zret (v := 1) hx hb hr (by decide) (fun t ht hW => ⟨_, rfl, (bP_t (Or.inr (Or.inl ⟨rfl, Or.inl (bP_n c_260)⟩))).symm, ht⟩) (fun q h => absurd h List.not_mem_nil) dX11_mayNotMeet_98
      ·
        refine lv_aload_n hx hb dX11_mayNotMeet_85 rfl (lv_at hl 2 rfl) ?_
        refine lv_aload_n hx hb dX11_mayNotMeet_86 rfl (lv_at hl 1 rfl) ?_
        refine vp_callSi (va_runS (As := [.ref (d (2000 + j0)), .ref (d (2000 + i0))]) (rest := []) ⟨hx, hb, hml, hown, hts⟩ (y_isNamedIn l dC dI q h0 d k z f hI u hrp hk0 hk1 hk2 hk3 j0 i0 hj0 hi0 hkB) (va_cwS 2 hts gX11_mayNotMeet_X11_isNamedIn rfl rfl rfl zh_X11_isNamedIn_72 ⟨Nat.le_of_ble_eq_true rfl, Nat.le_of_ble_eq_true rfl⟩) ⟨px_fb, fun U hU hW => ⟨rfl, px_to hU hW hP hK hN hXN⟩⟩ rfl rfl hl.1 rfl (lv_room (Nat.le_of_ble_eq_true rfl)) dX11_mayNotMeet_87 ⟨Nat.le_of_ble_eq_true rfl, Nat.le_of_ble_eq_true rfl⟩).run (fun r hw => ?_)
        obtain rfl : r = (bP (nmP u j0 i0)) := hw
        refine lv_if_eq (tgt := 97) hx hb dX11_mayNotMeet_90 (by decide) (fun c_261 => ?_) (fun c_261 => ?_)
        ·
          refine lv_iconst (v := 0) hx hb dX11_mayNotMeet_97 (by decide) ?_
          exact W.zret (v := 0) hx hb hr (by decide) (fun t ht hW => ⟨_, rfl, (bP_f (fun h9 => mn_2 h9 (fun h8 => by rcases h8 with h8 | h8; exact bP_0 c_260 h8; exact bP_0 c_261 h8))).symm, ht⟩) (fun q h => absurd h List.not_mem_nil) dX11_mayNotMeet_98
        ·
          refine lv_iconst (v := 1) hx hb dX11_mayNotMeet_93 (by decide) ?_
          refine lv_goto (tgt := 98) hx hb dX11_mayNotMeet_94 (by decide) ?_
          exact W.zret (v := 1) hx hb hr (by decide) (fun t ht hW => ⟨_, rfl, (bP_t (Or.inr (Or.inl ⟨rfl, Or.inr (bP_n c_261)⟩))).symm, ht⟩) (fun q h => absurd h List.not_mem_nil) dX11_mayNotMeet_98
    ·
      rcases Classical.em (p0 = 3) with s_262 | s_262
      ·
        subst s_262
        refine lv_tableIn (tgt := 99) (off := 98) hx hb dX11_mayNotMeet_1 (by decide) (by decide) (by decide) (by decide) ?_
        refine lv_aload_n hx hb dX11_mayNotMeet_99 rfl (lv_at hl 1 rfl) ?_
        rcases Classical.em (tg z (d (2000 + i0)) 11) with ht9 | ht9
        ·
          have ht_263 := ht9
          have hkd_265 : u.2 4 i0 = 1 := (kT_k (kd_05 hrp.2.2.1 hi0).1 (kd_05 hrp.2.2.1 hi0).2).2.1 (hkt_19.symm.trans ht_263.2)
          obtain ⟨o_286, hx_276, hx_277, hx_278, hx_279⟩ := hrs_18.2.1 hkd_265
          have hs_285 : f (d (2000 + i0)) = .inr (3, [.int (nI i0), .int (u.2 4 i0), .ref (d (3000 + i0)), .int (u.2 22 i0), .ref (d (4000 + i0)), .ref (d (2000 + o_286)), .int (u.2 7 i0), .int (u.2 8 i0)]) := by rw [hs_6, ht_263.2, hx_279]; rfl
          have hit_287 := rI_itm hrp.2.2.1 hx_276
          obtain ⟨kk_288, hk_289⟩ := pl_at ht_263.1 hs_285
          refine va_instS hx hb hown (hts (.classLink RX11 83 "PageOne$Head") (zat q_wsX11_mayNotMeet k_wsX11_mayNotMeet 242 rfl (by decide +kernel))) (hK.1 3 (RX3, TX3, 8) rfl).2 (va_recv hK hP (ci := 3) (q0 := kk_288) rfl hk_289) dX11_mayNotMeet_100 ?_
          refine lv_if_eq (tgt := 117) hx hb dX11_mayNotMeet_103 (by decide) (fun c_290 => absurd c_290 (by decide)) (fun c_290 => ?_)
          refine lv_aload_n hx hb dX11_mayNotMeet_106 rfl (lv_at hl 2 rfl) ?_
          rcases Classical.em (tg z (d (2000 + j0)) 11) with ht9 | ht9
          ·
            have ht_291 := ht9
            have hkd_293 : u.2 4 j0 = 1 := (kT_k (kd_05 hrp.2.2.1 hj0).1 (kd_05 hrp.2.2.1 hj0).2).2.1 (hkt_38.symm.trans ht_291.2)
            obtain ⟨o_314, hx_304, hx_305, hx_306, hx_307⟩ := hrs_37.2.1 hkd_293
            have hs_313 : f (d (2000 + j0)) = .inr (3, [.int (nI j0), .int (u.2 4 j0), .ref (d (3000 + j0)), .int (u.2 22 j0), .ref (d (4000 + j0)), .ref (d (2000 + o_314)), .int (u.2 7 j0), .int (u.2 8 j0)]) := by rw [hs_25, ht_291.2, hx_307]; rfl
            have hit_315 := rI_itm hrp.2.2.1 hx_304
            obtain ⟨kk_316, hk_317⟩ := pl_at ht_291.1 hs_313
            refine va_instS hx hb hown (hts (.classLink RX11 83 "PageOne$Head") (zat q_wsX11_mayNotMeet k_wsX11_mayNotMeet 242 rfl (by decide +kernel))) (hK.1 3 (RX3, TX3, 8) rfl).2 (va_recv hK hP (ci := 3) (q0 := kk_316) rfl hk_317) dX11_mayNotMeet_107 ?_
            refine lv_if_eq (tgt := 117) hx hb dX11_mayNotMeet_110 (by decide) (fun c_318 => absurd c_318 (by decide)) (fun c_318 => ?_)
            refine lv_iconst (v := 1) hx hb dX11_mayNotMeet_113 (by decide) ?_
            refine lv_goto (tgt := 118) hx hb dX11_mayNotMeet_114 (by decide) ?_
            exact W.zret (v := 1) hx hb hr (by decide) (fun t ht hW => ⟨_, rfl, (bP_t (Or.inr (Or.inr ⟨rfl, hkd_265, hkd_293⟩))).symm, ht⟩) (fun q h => absurd h List.not_mem_nil) dX11_mayNotMeet_118
          ·
            have hn_292 := ht9
            have hkd_293 : ¬ u.2 4 j0 = 1 := fun e9 => ht9 ⟨hit_24.1, by rw [hkt_38, e9]; rfl⟩
            refine w_then (F0 m 110 ls [.int 0]) (fun hgo => ?_) ?_
            ·
              rcases x_tag hit_24 with ht8 | ht8 | ht8 | ht8 | ht8 | ht8
              ·
                obtain ⟨nu_319, kd_320, cn_321, pa_322, fa_323, l_324, m_325, hs_326, hs_327, hs_328, hs_329⟩ := x_ifl hI ht8
                obtain ⟨kk_330, hk_331⟩ := pl_at ht8.1 hs_326
                exact va_instNo hx hb hown (hts (.classLink RX11 83 "PageOne$Head") (zat q_wsX11_mayNotMeet k_wsX11_mayNotMeet 242 rfl (by decide +kernel))) hXN.n_X2_X3 (va_recv hK hP (ci := 2) (q0 := kk_330) rfl hk_331) dX11_mayNotMeet_107 hgo
              ·
                exact absurd ht8 ht9
              ·
                obtain ⟨nu_332, kd_333, cn_334, pa_335, fa_336, o_337, y_338, hs_339, hs_340, hs_341, hs_342, hq_343⟩ := x_ino hI ht8
                obtain ⟨kk_344, hk_345⟩ := pl_at ht8.1 hs_339
                exact va_instNo hx hb hown (hts (.classLink RX11 83 "PageOne$Head") (zat q_wsX11_mayNotMeet k_wsX11_mayNotMeet 242 rfl (by decide +kernel))) hXN.n_X5_X3 (va_recv hK hP (ci := 4) (q0 := kk_344) rfl hk_345) dX11_mayNotMeet_107 hgo
              ·
                obtain ⟨nu_346, kd_347, cn_348, pa_349, fa_350, b_351, pr_352, sp_353, dy_354, hs_355, hs_356, hs_357, hs_358, hq_359, hq_360, hq_361⟩ := x_ipd hI ht8
                obtain ⟨kk_362, hk_363⟩ := pl_at ht8.1 hs_355
                exact va_instNo hx hb hown (hts (.classLink RX11 83 "PageOne$Head") (zat q_wsX11_mayNotMeet k_wsX11_mayNotMeet 242 rfl (by decide +kernel))) hXN.n_X6_X3 (va_recv hK hP (ci := 5) (q0 := kk_362) rfl hk_363) dX11_mayNotMeet_107 hgo
              ·
                obtain ⟨nu_364, kd_365, cn_366, pa_367, fa_368, ww_369, hh_370, sz_371, hs_372, hs_373, hs_374, hs_375, hq_376, hq_377, hq_378⟩ := x_ipi hI ht8
                obtain ⟨kk_379, hk_380⟩ := pl_at ht8.1 hs_372
                exact va_instNo hx hb hown (hts (.classLink RX11 83 "PageOne$Head") (zat q_wsX11_mayNotMeet k_wsX11_mayNotMeet 242 rfl (by decide +kernel))) hXN.n_X7_X3 (va_recv hK hP (ci := 6) (q0 := kk_379) rfl hk_380) dX11_mayNotMeet_107 hgo
              ·
                obtain ⟨nu_381, kd_382, cn_383, pa_384, fa_385, l_386, co_387, wd_388, nm_389, hs_390, hs_391, hs_392, hs_393, hq_394, hq_395, hq_396⟩ := x_ist hI ht8
                obtain ⟨kk_397, hk_398⟩ := pl_at ht8.1 hs_390
                exact va_instNo hx hb hown (hts (.classLink RX11 83 "PageOne$Head") (zat q_wsX11_mayNotMeet k_wsX11_mayNotMeet 242 rfl (by decide +kernel))) hXN.n_X10_X3 (va_recv hK hP (ci := 9) (q0 := kk_397) rfl hk_398) dX11_mayNotMeet_107 hgo
            ·
              refine lv_if_eq (tgt := 117) hx hb dX11_mayNotMeet_110 (by decide) (fun c_399 => ?_) (fun c_399 => absurd (by decide) c_399)
              refine lv_iconst (v := 0) hx hb dX11_mayNotMeet_117 (by decide) ?_
              exact W.zret (v := 0) hx hb hr (by decide) (fun t ht hW => ⟨_, rfl, (bP_f (fun h9 => mn_3 h9 (fun h8 => hkd_293 h8.2))).symm, ht⟩) (fun q h => absurd h List.not_mem_nil) dX11_mayNotMeet_118
        ·
          have hn_264 := ht9
          have hkd_265 : ¬ u.2 4 i0 = 1 := fun e9 => ht9 ⟨hit_5.1, by rw [hkt_19, e9]; rfl⟩
          refine w_then (F0 m 103 ls [.int 0]) (fun hgo => ?_) ?_
          ·
            rcases x_tag hit_5 with ht8 | ht8 | ht8 | ht8 | ht8 | ht8
            ·
              obtain ⟨nu_400, kd_401, cn_402, pa_403, fa_404, l_405, m_406, hs_407, hs_408, hs_409, hs_410⟩ := x_ifl hI ht8
              obtain ⟨kk_411, hk_412⟩ := pl_at ht8.1 hs_407
              exact va_instNo hx hb hown (hts (.classLink RX11 83 "PageOne$Head") (zat q_wsX11_mayNotMeet k_wsX11_mayNotMeet 242 rfl (by decide +kernel))) hXN.n_X2_X3 (va_recv hK hP (ci := 2) (q0 := kk_411) rfl hk_412) dX11_mayNotMeet_100 hgo
            ·
              exact absurd ht8 ht9
            ·
              obtain ⟨nu_413, kd_414, cn_415, pa_416, fa_417, o_418, y_419, hs_420, hs_421, hs_422, hs_423, hq_424⟩ := x_ino hI ht8
              obtain ⟨kk_425, hk_426⟩ := pl_at ht8.1 hs_420
              exact va_instNo hx hb hown (hts (.classLink RX11 83 "PageOne$Head") (zat q_wsX11_mayNotMeet k_wsX11_mayNotMeet 242 rfl (by decide +kernel))) hXN.n_X5_X3 (va_recv hK hP (ci := 4) (q0 := kk_425) rfl hk_426) dX11_mayNotMeet_100 hgo
            ·
              obtain ⟨nu_427, kd_428, cn_429, pa_430, fa_431, b_432, pr_433, sp_434, dy_435, hs_436, hs_437, hs_438, hs_439, hq_440, hq_441, hq_442⟩ := x_ipd hI ht8
              obtain ⟨kk_443, hk_444⟩ := pl_at ht8.1 hs_436
              exact va_instNo hx hb hown (hts (.classLink RX11 83 "PageOne$Head") (zat q_wsX11_mayNotMeet k_wsX11_mayNotMeet 242 rfl (by decide +kernel))) hXN.n_X6_X3 (va_recv hK hP (ci := 5) (q0 := kk_443) rfl hk_444) dX11_mayNotMeet_100 hgo
            ·
              obtain ⟨nu_445, kd_446, cn_447, pa_448, fa_449, ww_450, hh_451, sz_452, hs_453, hs_454, hs_455, hs_456, hq_457, hq_458, hq_459⟩ := x_ipi hI ht8
              obtain ⟨kk_460, hk_461⟩ := pl_at ht8.1 hs_453
              exact va_instNo hx hb hown (hts (.classLink RX11 83 "PageOne$Head") (zat q_wsX11_mayNotMeet k_wsX11_mayNotMeet 242 rfl (by decide +kernel))) hXN.n_X7_X3 (va_recv hK hP (ci := 6) (q0 := kk_460) rfl hk_461) dX11_mayNotMeet_100 hgo
            ·
              obtain ⟨nu_462, kd_463, cn_464, pa_465, fa_466, l_467, co_468, wd_469, nm_470, hs_471, hs_472, hs_473, hs_474, hq_475, hq_476, hq_477⟩ := x_ist hI ht8
              obtain ⟨kk_478, hk_479⟩ := pl_at ht8.1 hs_471
              exact va_instNo hx hb hown (hts (.classLink RX11 83 "PageOne$Head") (zat q_wsX11_mayNotMeet k_wsX11_mayNotMeet 242 rfl (by decide +kernel))) hXN.n_X10_X3 (va_recv hK hP (ci := 9) (q0 := kk_478) rfl hk_479) dX11_mayNotMeet_100 hgo
          ·
            refine lv_if_eq (tgt := 117) hx hb dX11_mayNotMeet_103 (by decide) (fun c_480 => ?_) (fun c_480 => absurd (by decide) c_480)
            refine lv_iconst (v := 0) hx hb dX11_mayNotMeet_117 (by decide) ?_
            exact W.zret (v := 0) hx hb hr (by decide) (fun t ht hW => ⟨_, rfl, (bP_f (fun h9 => mn_3 h9 (fun h8 => hkd_265 h8.1))).symm, ht⟩) (fun q h => absurd h List.not_mem_nil) dX11_mayNotMeet_118
      ·
        refine lv_tableOut (tgt := 119) hx hb dX11_mayNotMeet_1 (sw_out3 s_39 s_259 s_262) (by decide) ?_
        refine lv_iconst (v := 0) hx hb dX11_mayNotMeet_119 (by decide) ?_
        exact W.zret (v := 0) hx hb hr (by decide) (fun t ht hW => ⟨_, rfl, (bP_f (fun h9 => by rcases h9 with ⟨q9, -⟩ | ⟨q9, -⟩ | ⟨q9, -⟩; exact s_39 q9; exact s_259 q9; exact s_262 q9)).symm, ht⟩) (fun q h => absurd h List.not_mem_nil) dX11_mayNotMeet_120
/-- a head that stands over its story -/
def soC (u : mS) (i P X Y N c : Nat) : Prop := mCellAt u (nI P) (nI (X + c)) (nI Y + nI N) = u.2 9 i
def soP (u : mS) (i : Nat) : Prop := ¬ u.2 22 i ≤ 0 ∧ ∃ P X Y D N, pR u i ((u.2 22 i).toNatClampNeg - 1) 0 = nI P ∧ pR u i ((u.2 22 i).toNatClampNeg - 1) 1 = nI X ∧ pR u i ((u.2 22 i).toNatClampNeg - 1) 2 = nI Y ∧ pR u i ((u.2 22 i).toNatClampNeg - 1) 3 = nI D ∧ pR u i ((u.2 22 i).toNatClampNeg - 1) 4 = nI N ∧ rIn u P X Y D N ∧ ∃ c, c < D ∧ soC u i P X Y N c
theorem so_n {u : mS} {i P X Y D N : Nat} (h : rIn u P X Y D N) (s0 : pR u i ((u.2 22 i).toNatClampNeg - 1) 0 = nI P) (s1 : pR u i ((u.2 22 i).toNatClampNeg - 1) 1 = nI X) (s2 : pR u i ((u.2 22 i).toNatClampNeg - 1) 2 = nI Y) (s3 : pR u i ((u.2 22 i).toNatClampNeg - 1) 3 = nI D) (s4 : pR u i ((u.2 22 i).toNatClampNeg - 1) 4 = nI N) (hn : ∀ c, c < D → ¬ soC u i P X Y N c) : ¬ soP u i := by
  rintro ⟨-, P2, X2, Y2, D2, N2, t0, t1, t2, t3, t4, h2, c, hc, hs⟩
  obtain ⟨a1, a2, a3, a4, a5, -⟩ := h
  obtain ⟨b1, b2, b3, b4, b5, -⟩ := h2
  have e0 := nI_inj2 (by omega) (by omega) (s0.symm.trans t0)
  have e1 := nI_inj2 (by omega) (by omega) (s1.symm.trans t1)
  have e2 := nI_inj2 (by omega) (by omega) (s2.symm.trans t2)
  have e3 := nI_inj2 (by omega) (by omega) (s3.symm.trans t3)
  have e4 := nI_inj2 (by omega) (by omega) (s4.symm.trans t4)
  subst e0 e1 e2 e3 e4
  exact hn c hc hs
def faP (u : mS) (i : Nat) (kd : Int32) : Prop := (kd = 4 ∧ u.2 4 i = 0 ∧ s_standing (u.2 22 i) (pR u i) < u.2 5 i) ∨ (¬ kd = 4 ∧ u.2 4 i = 1 ∧ ¬ soP u i)
set_option maxHeartbeats 4000000 in
set_option maxRecDepth 100000 in
theorem y_over_l {p : Program} {l : Launch} {e : Env} {R : Room} {s : State} {m : MethodId} {args : Array Value} {below : List Frame} {meth : Method} {c : Code} {Q : State → Prop} {cells slots : Nat} {dC : Nat → ClassId} {dI : Nat → Nat → Nat} {q : Nat → ClassId} {h0 : Nat} {d : Nat → Nat} {k : Nat → Int32} {z : gS} {f : xF} {H : Heap} {locs : List Loc} (hI : xI q h0 d k z f) (hx : p.tables.exec = Jvm.exec) (hb : c.code = cX11_standsOverStory) (hml : c.maxLocals = 4) (hts : ∀ w ∈ wsX11_standsOverStory, w.before args s = true) (hown : s.vm.findClass RX11 = some m.cls) (hN : NN s) (hXN : XN s) (hK : va_K (dC, dI) vwCl (xT q) s) (hRf : 3 ≤ R.frames) (hRl : 64 ≤ R.locals) (hRc : cells ≤ R.cells) (hRs : slots ≤ R.slots) (hP : va_P (dC, dI) vwCl (va_pl z.1 f) H) {u : mS} (hrp : rep q d u z f) (hk0 : k 0 = u.1 3) {i0 : Nat} (hi0 : i0 < (u.1 3).toNatClampNeg) (hkd : u.2 4 i0 = 1) {b9 P X Y D N : Nat} (hpcx : pcS z b9 (some (d (2000 + i0))) (nI P) (nI X) (nI Y) (nI D) (nI N)) (hP9 : P < 12) (hX : X + D ≤ 8) (hD1 : 1 ≤ D) (hY : Y + N ≤ 60) (kx69 : ∀ (ls : Array Slot), (∀ j, j < D → ¬ soC u i0 P X Y N j) → lv_has ls 4 [(0, .ref h0), (1, .ref (d (2000 + i0))), (2, .ref b9)] → W p l e R s m args below meth c H locs cells slots Q (F0 m 69 ls [])) (kx61 : ∀ (ls : Array Slot), (∃ j, j < D ∧ soC u i0 P X Y N j) → lv_has ls 4 [(0, .ref h0), (1, .ref (d (2000 + i0))), (2, .ref b9)] → W p l e R s m args below meth c H locs cells slots Q (F0 m 61 ls [])) : ∀ (kk i : Nat) (ls : Array Slot), i ≤ D → D - i < kk → (∀ j, j < i → ¬ soC u i0 P X Y N j) → lv_has ls 4 [(3, .int (nI (X + i))), (0, .ref h0), (1, .ref (d (2000 + i0))), (2, .ref b9)] → W p l e R s m args below meth c H locs cells slots Q (F0 m 16 ls []) := by
  intro kk
  induction kk with
  | zero => intro i ls h1 h2; exact absurd h2 (Nat.not_lt_zero _)
  | succ kk ih =>
    intro i ls hi hkk hg hl
    obtain ⟨rs_1, n_2, g_3, fg_4, hit_5, hs_6, hpa_7, hps_8, h1_9, h6_10, hcb_11, hpl_12, hlg_13, hnn_14, hfa_15, hfs_16, hfe_17, hrs_18, hkt_19⟩ := it_all hI hrp.2.2.1 hi0
    have ht_20 : tg z (d (2000 + i0)) 11 := ⟨hit_5.1, by rw [hkt_19, hkd]; rfl⟩
    obtain ⟨o9, hx_22, hx_23, hx_24, hx_25⟩ := hrs_18.2.1 hkd
    have hs_21 : f (d (2000 + i0)) = .inr (3, [.int (nI i0), .int (u.2 4 i0), .ref (d (3000 + i0)), .int (u.2 22 i0), .ref (d (4000 + i0)), .ref (d (2000 + o9)), .int (u.2 7 i0), .int (u.2 8 i0)]) := by rw [hs_6, ht_20.2, hx_25]; rfl
    obtain ⟨rs_31, n_32, g_33, fg_34, hit_35, hs_36, hpa_37, hps_38, h1_39, h6_40, hcb_41, hpl_42, hlg_43, hnn_44, hfa_45, hfs_46, hfe_47, hrs_48, hkt_49⟩ := it_all hI hrp.2.2.1 hx_22
    have hlgb := lg_of hpcx ⟨b7n (by omega), b60n (by omega), bwN (by have e8 : (8 : Int32).toInt = 8 := rfl; rw [e8]; omega) (by omega), b60n (by omega)⟩
    refine lv_iload_n hx hb dX11_standsOverStory_16 rfl (lv_at hl 0 rfl) ?_
    refine lv_aload_n hx hb dX11_standsOverStory_17 rfl (lv_at hl 3 rfl) ?_
    obtain ⟨kk_50, hk_51⟩ := pl_at hpcx.1.1 (x_pcF hI hpcx)
    refine va_get (D := (dC, dI)) (ci := 7) (v := .int (nI X)) (C := RX8) (T := TX8) (N := 6) hx hb hts zl_X11_standsOverStory_X8 hown hK hP kk_50 hk_51 rfl 2 (by decide) (hts (.fieldLink RX11 232 "PageOne$Piece" "column" "I") (zat q_wsX11_standsOverStory k_wsX11_standsOverStory 325 rfl (by decide +kernel))) (fun _ h9 => h9) rfl dX11_standsOverStory_18 ?_
    refine lv_aload_n hx hb dX11_standsOverStory_21 rfl (lv_at hl 3 rfl) ?_
    obtain ⟨kk_52, hk_53⟩ := pl_at hpcx.1.1 (x_pcF hI hpcx)
    refine va_get (D := (dC, dI)) (ci := 7) (v := .int (nI D)) (C := RX8) (T := TX8) (N := 6) hx hb hts zl_X11_standsOverStory_X8 hown hK hP kk_52 hk_53 rfl 4 (by decide) (hts (.fieldLink RX11 238 "PageOne$Piece" "w" "I") (zat q_wsX11_standsOverStory k_wsX11_standsOverStory 332 rfl (by decide +kernel))) (fun _ h9 => h9) rfl dX11_standsOverStory_22 ?_
    refine lv_iadd hx hb dX11_standsOverStory_25 ?_
    refine lv_icmp_ge (tgt := 69) hx hb dX11_standsOverStory_26 (by decide) (fun c_54 => ?_) (fun c_54 => ?_)
    ·
      have hie : i = D := by have := lp_eq (nI_add X D) (by omega) (by omega) c_54; omega
      exact kx69 ls (by rw [← hie]; exact hg) (lv_sub hl [1, 2, 3] rfl)
    ·
      have hlt : i < D := by have := lp_lt (nI_add X D) (by omega) (by omega) c_54; omega
      refine lv_aload_n hx hb dX11_standsOverStory_29 rfl (lv_at hl 1 rfl) ?_
      obtain ⟨kk_55, hk_56⟩ := pl_at hI.2.1.1.1 hI.2.2.2.1.1
      refine va_get (D := (dC, dI)) (ci := 10) (v := .ref (d 0)) (C := RX11) (T := TX11) (N := 9) hx hb hts zl_X11_standsOverStory_X11 hown hK hP kk_55 hk_56 rfl 0 (by decide) (hts (.fieldLink RX11 11 "PageOne" "pages" "[LPageOne$Sheet;") (zat q_wsX11_standsOverStory k_wsX11_standsOverStory 112 rfl (by decide +kernel))) (fun _ h9 => h9) rfl dX11_standsOverStory_30 ?_
      refine lv_aload_n hx hb dX11_standsOverStory_33 rfl (lv_at hl 3 rfl) ?_
      obtain ⟨kk_57, hk_58⟩ := pl_at hpcx.1.1 (x_pcF hI hpcx)
      refine va_get (D := (dC, dI)) (ci := 7) (v := .int (nI P)) (C := RX8) (T := TX8) (N := 6) hx hb hts zl_X11_standsOverStory_X8 hown hK hP kk_57 hk_58 rfl 1 (by decide) (hts (.fieldLink RX11 229 "PageOne$Piece" "page" "I") (zat q_wsX11_standsOverStory k_wsX11_standsOverStory 321 rfl (by decide +kernel))) (fun _ h9 => h9) rfl dX11_standsOverStory_34 ?_
      obtain ⟨g_59, hs_60, hg_61⟩ := x_pg hI hI.2.1.2.1
      obtain ⟨kk_62, hk_63⟩ := pl_at hI.2.1.2.1.1 hs_60
      refine va_aldq hx hb hK hP kk_62 2 hk_63 rfl (vp_in_nI hP9 (by decide)) dX11_standsOverStory_37 ?_
      obtain ⟨b_64, hg_65, ht_66⟩ := hg_61 _ (vlt (vp_in_nI hP9 (by decide)))
      rw [hg_65]
      refine W.eq (g2 := F0 m 38 ls [.ref b_64]) rfl ?_
      have hb_67 := pg_at hrp.1 hs_60 hP9 (by rw [nI_clamp (by omega)] at hg_65; exact hg_65)
      subst hb_67
      obtain ⟨dd_68, ii_69, gl_70, gc_71, ht_72, ht_73, ht_74, hs_75, hg_76, hgb_77, hc_78, el_79, ec_80⟩ := pg_all hI hrp.1 hP9
      refine lv_iload_n hx hb dX11_standsOverStory_38 rfl (lv_at hl 0 rfl) ?_
      refine lv_aload_n hx hb dX11_standsOverStory_39 rfl (lv_at hl 3 rfl) ?_
      obtain ⟨kk_81, hk_82⟩ := pl_at hpcx.1.1 (x_pcF hI hpcx)
      refine va_get (D := (dC, dI)) (ci := 7) (v := .int (nI Y)) (C := RX8) (T := TX8) (N := 6) hx hb hts zl_X11_standsOverStory_X8 hown hK hP kk_81 hk_82 rfl 3 (by decide) (hts (.fieldLink RX11 235 "PageOne$Piece" "line" "I") (zat q_wsX11_standsOverStory k_wsX11_standsOverStory 328 rfl (by decide +kernel))) (fun _ h9 => h9) rfl dX11_standsOverStory_40 ?_
      refine lv_aload_n hx hb dX11_standsOverStory_43 rfl (lv_at hl 3 rfl) ?_
      obtain ⟨kk_83, hk_84⟩ := pl_at hpcx.1.1 (x_pcF hI hpcx)
      refine va_get (D := (dC, dI)) (ci := 7) (v := .int (nI N)) (C := RX8) (T := TX8) (N := 6) hx hb hts zl_X11_standsOverStory_X8 hown hK hP kk_83 hk_84 rfl 5 (by decide) (hts (.fieldLink RX11 241 "PageOne$Piece" "h" "I") (zat q_wsX11_standsOverStory k_wsX11_standsOverStory 337 rfl (by decide +kernel))) (fun _ h9 => h9) rfl dX11_standsOverStory_44 ?_
      refine lv_iadd hx hb dX11_standsOverStory_47 ?_
      obtain ⟨kk_85, hk_86⟩ := pl_at ht_72.1 hs_75
      refine vp_callSi (va_runV (As := [.int (nI (X + i)), .int ((nI Y) + (nI N))]) (rest := []) ⟨hx, hb, hml, hown, hts⟩ (y_at l dC dI q h0 d k z f hI (d (10 + P)) (d (30 + P)) (d (50 + P)) (u.2 1 P) dd_68 ii_69 gl_70 gc_71 ht_72 hs_75 ht_73 ht_74 hg_76 hgb_77 hc_78 (nI (X + i)) ((nI Y) + (nI N))) (cwV 2 hts gX11_standsOverStory_X9_at rfl rfl rfl zh_X9_at_31 ⟨Nat.le_trans (Nat.le_of_ble_eq_true rfl) hRf, Nat.le_trans (Nat.le_of_ble_eq_true rfl) hRl⟩) ⟨px_fb, va_recv hK hP (ci := 8) (q0 := kk_85) rfl hk_86, fun U hU hW => ⟨rfl, px_to hU hW hP hK hN hXN⟩⟩ rfl rfl hl.1 rfl (lv_room (Nat.le_of_ble_eq_true rfl)) dX11_standsOverStory_48 ⟨hRc, hRs⟩).run (fun r hw => ?_)
      generalize r = zr_87 at hw ⊢
      have hzr_87 := hw
      refine lv_aload_n hx hb dX11_standsOverStory_51 rfl (lv_at hl 2 rfl) ?_
      obtain ⟨kk_88, hk_89⟩ := pl_at ht_20.1 hs_21
      refine va_get (D := (dC, dI)) (ci := 3) (v := .ref (d (2000 + o9))) (C := RX3) (T := TX3) (N := 8) hx hb hts zl_X11_standsOverStory_X3 hown hK hP kk_88 hk_89 rfl 5 (by decide) (hts (.fieldLink RX11 292 "PageOne$Head" "owner" "LPageOne$Story;") (zat q_wsX11_standsOverStory k_wsX11_standsOverStory 249 rfl (by decide +kernel))) (fun _ h9 => h9) rfl dX11_standsOverStory_52 ?_
      obtain ⟨kk_90, hk_91⟩ := pl_at hit_35.1 hs_36
      refine w_then (F0 m 58 ls [.int (nI o9), .int zr_87]) (fun hgo => ?_) ?_
      ·
        rcases x_tag hit_35 with ht9 | ht9 | ht9 | ht9 | ht9 | ht9
        ·
          rw [ht9.2] at hk_91
          exact va_get (D := (dC, dI)) (ci := 2) (v := .int (nI o9)) (C := RX2) (T := TX2) (N := 7) hx hb hts zl_X11_standsOverStory_X2 hown hK hP kk_90 hk_91 rfl 0 (by decide) (hts (.fieldLink RX11 296 "PageOne$Story" "number" "I") (zat q_wsX11_standsOverStory k_wsX11_standsOverStory 184 rfl (by decide +kernel))) (fun x9 h9 => u_same (hts (.sameField "PageOne$Story" "PageOne$Item" "number" "I") (zat q_wsX11_standsOverStory k_wsX11_standsOverStory 185 rfl (by decide +kernel))) x9 h9) rfl dX11_standsOverStory_55 hgo
        ·
          rw [ht9.2] at hk_91
          exact va_get (D := (dC, dI)) (ci := 3) (v := .int (nI o9)) (C := RX3) (T := TX3) (N := 8) hx hb hts zl_X11_standsOverStory_X3 hown hK hP kk_90 hk_91 rfl 0 (by decide) (hts (.fieldLink RX11 296 "PageOne$Story" "number" "I") (zat q_wsX11_standsOverStory k_wsX11_standsOverStory 184 rfl (by decide +kernel))) (fun x9 h9 => u_same (hts (.sameField "PageOne$Story" "PageOne$Item" "number" "I") (zat q_wsX11_standsOverStory k_wsX11_standsOverStory 185 rfl (by decide +kernel))) x9 h9) rfl dX11_standsOverStory_55 hgo
        ·
          rw [ht9.2] at hk_91
          exact va_get (D := (dC, dI)) (ci := 4) (v := .int (nI o9)) (C := RX5) (T := TX5) (N := 7) hx hb hts zl_X11_standsOverStory_X5 hown hK hP kk_90 hk_91 rfl 0 (by decide) (hts (.fieldLink RX11 296 "PageOne$Story" "number" "I") (zat q_wsX11_standsOverStory k_wsX11_standsOverStory 184 rfl (by decide +kernel))) (fun x9 h9 => u_same (hts (.sameField "PageOne$Story" "PageOne$Item" "number" "I") (zat q_wsX11_standsOverStory k_wsX11_standsOverStory 185 rfl (by decide +kernel))) x9 h9) rfl dX11_standsOverStory_55 hgo
        ·
          rw [ht9.2] at hk_91
          exact va_get (D := (dC, dI)) (ci := 5) (v := .int (nI o9)) (C := RX6) (T := TX6) (N := 9) hx hb hts zl_X11_standsOverStory_X6 hown hK hP kk_90 hk_91 rfl 0 (by decide) (hts (.fieldLink RX11 296 "PageOne$Story" "number" "I") (zat q_wsX11_standsOverStory k_wsX11_standsOverStory 184 rfl (by decide +kernel))) (fun x9 h9 => u_same (hts (.sameField "PageOne$Story" "PageOne$Item" "number" "I") (zat q_wsX11_standsOverStory k_wsX11_standsOverStory 185 rfl (by decide +kernel))) x9 h9) rfl dX11_standsOverStory_55 hgo
        ·
          rw [ht9.2] at hk_91
          exact va_get (D := (dC, dI)) (ci := 6) (v := .int (nI o9)) (C := RX7) (T := TX7) (N := 8) hx hb hts zl_X11_standsOverStory_X7 hown hK hP kk_90 hk_91 rfl 0 (by decide) (hts (.fieldLink RX11 296 "PageOne$Story" "number" "I") (zat q_wsX11_standsOverStory k_wsX11_standsOverStory 184 rfl (by decide +kernel))) (fun x9 h9 => u_same (hts (.sameField "PageOne$Story" "PageOne$Item" "number" "I") (zat q_wsX11_standsOverStory k_wsX11_standsOverStory 185 rfl (by decide +kernel))) x9 h9) rfl dX11_standsOverStory_55 hgo
        ·
          rw [ht9.2] at hk_91
          exact va_get (D := (dC, dI)) (ci := 9) (v := .int (nI o9)) (C := RX10) (T := TX10) (N := 9) hx hb hts zl_X11_standsOverStory_X10 hown hK hP kk_90 hk_91 rfl 0 (by decide) (hts (.fieldLink RX11 296 "PageOne$Story" "number" "I") (zat q_wsX11_standsOverStory k_wsX11_standsOverStory 184 rfl (by decide +kernel))) (fun x9 h9 => u_same (hts (.sameField "PageOne$Story" "PageOne$Item" "number" "I") (zat q_wsX11_standsOverStory k_wsX11_standsOverStory 185 rfl (by decide +kernel))) x9 h9) rfl dX11_standsOverStory_55 hgo
      ·
        refine lv_icmp_ne (tgt := 63) hx hb dX11_standsOverStory_58 (by decide) (fun c_92 => ?_) (fun c_92 => ?_)
        ·
          refine lv_iinc (v := (nI (X + i + 1))) (lv' := [(3, .int (nI (X + i + 1))), (0, .ref h0), (1, .ref (d (2000 + i0))), (2, .ref b9)]) hx hb dX11_standsOverStory_63 hl (k := 0) rfl (nI_1 _) (by decide) rfl (fun ls hl => ?_)
          refine lv_goto (tgt := 16) hx hb dX11_standsOverStory_66 (by decide) ?_
          exact ih (i + 1) ls (by omega) (by omega) (fun j hj => by rcases Nat.lt_succ_iff_lt_or_eq.mp hj with h9 | h9; exact hg j h9; rw [h9]; exact fun h8 => c_92 ((hzr_87.trans ((shAt_eq hP9 el_79 ec_80 hgb_77 _ _).trans h8)).trans hx_23)) (lv_sub hl [0, 1, 2, 3] rfl)
        ·
          exact kx61 ls ⟨i, hlt, ((shAt_eq hP9 el_79 ec_80 hgb_77 _ _).symm.trans (hzr_87.symm.trans c_92)).trans hx_23.symm⟩ (lv_sub hl [1, 2, 3] rfl)
set_option maxHeartbeats 4000000 in
set_option maxRecDepth 100000 in
theorem y_standsOverStory (l : Launch) (dC : Nat → ClassId) (dI : Nat → Nat → Nat) (q : Nat → ClassId) (h0 : Nat) (d : Nat → Nat) (k : Nat → Int32) (z : gS) (f : xF) (hI : xI q h0 d k z f) (u : mS) (hrp : rep q d u z f) (hk0 : k 0 = u.1 3) (hk1 : k 1 = u.1 28) (hk2 : k 2 = u.1 38) (hk3 : k 3 = u.1 39) (hpcI : pcI u) (i0 : Nat) (hi0 : i0 < (u.1 3).toNatClampNeg) (hkd : u.2 4 i0 = 1) : Met l yX11_standsOverStory wsX11_standsOverStory ({ frames := 3, cells := 0, slots := 0, locals := 64 }) (va_Pc [.ref h0, .ref (d (2000 + i0))] (PX dC dI (va_pl z.1 f) (xT q))) (vp_Si (fun r => r = bP (soP u i0))) 0 0 (fun _ => False) := by
  refine Met.ofW (cc := cX11_standsOverStory) (maxL := 4) (ret := (some .boolean)) (by decide) rfl ?_
  intro p e s m args below meth c s₁ B hml hv
  obtain ⟨rfl, ⟨hP, hK, hN⟩, hXN⟩ := hv
  have hx := B.exec
  have hb := B.bytes
  have hr := B.returns
  have hts := atoms_spec (ws := wsX11_standsOverStory) B.pre
  have hown : s.vm.findClass RX11 = some m.cls := findClass_of_methodNamed B.named
  have hlocks := B.notSynchronized
  have hl := lv_entry ([.ref h0, .ref (d (2000 + i0))]) (n := 4) (Nat.le_of_ble_eq_true rfl)
  rw [lg_entry_eq]
  generalize (lg_sl ([.ref h0, .ref (d (2000 + i0))]) ++ List.replicate (4 - (lg_sl ([.ref h0, .ref (d (2000 + i0))])).length) Slot.unset).toArray = ls at hl ⊢
  have hl : lv_has ls 4 [(0, .ref h0), (1, .ref (d (2000 + i0)))] := hl
  obtain ⟨rs_1, n_2, g_3, fg_4, hit_5, hs_6, hpa_7, hps_8, h1_9, h6_10, hcb_11, hpl_12, hlg_13, hnn_14, hfa_15, hfs_16, hfe_17, hrs_18, hkt_19⟩ := it_all hI hrp.2.2.1 hi0
  have ht_20 : tg z (d (2000 + i0)) 11 := ⟨hit_5.1, by rw [hkt_19, hkd]; rfl⟩
  obtain ⟨o9, hx_22, hx_23, hx_24, hx_25⟩ := hrs_18.2.1 hkd
  have hs_21 : f (d (2000 + i0)) = .inr (3, [.int (nI i0), .int (u.2 4 i0), .ref (d (3000 + i0)), .int (u.2 22 i0), .ref (d (4000 + i0)), .ref (d (2000 + o9)), .int (u.2 7 i0), .int (u.2 8 i0)]) := by rw [hs_6, ht_20.2, hx_25]; rfl
  refine lv_aload_n hx hb dX11_standsOverStory_0 rfl (lv_at hl 1 rfl) ?_
  obtain ⟨kk_31, hk_32⟩ := pl_at ht_20.1 hs_21
  refine va_csq (va_runU (As := []) (rest := []) ⟨hx, hb, hml, hown, hts⟩ (y_lastPiece l dC dI q h0 d k z f hI (d (2000 + i0)) hit_5 (nI i0) (u.2 4 i0) (u.2 22 i0) (d (3000 + i0)) (d (4000 + i0)) rs_1 hs_6 n_2 g_3 (pR u i0) hpa_7 hps_8 h1_9 h6_10 hcb_11 hpl_12) (va_cwU 0 hts gX11_standsOverStory_X4_lastPiece_u371X3 rfl rfl rfl rfl zu_77 ⟨Nat.le_of_ble_eq_true rfl, Nat.le_of_ble_eq_true rfl⟩) ⟨px_fb, va_recv hK hP (ci := 3) (q0 := kk_31) rfl hk_32, fun U hU hW => ⟨rfl, px_to hU hW hP hK hN hXN⟩⟩ rfl rfl hl.1 rfl (lv_room (Nat.le_of_ble_eq_true rfl)) dX11_standsOverStory_1 ⟨Nat.le_of_ble_eq_true rfl, Nat.le_of_ble_eq_true rfl⟩).run (fun r hw => ?_)
  rcases Classical.em (u.2 22 i0 ≤ 0) with hl0 | hl0
  ·
    obtain rfl : r = none := hw.trans (by unfold s_last; rw [if_pos hl0])
    refine W.eq (g2 := F0 m 4 ls [.null]) rfl ?_
    refine lv_astore_nN (lv' := [(2, .null), (0, .ref h0), (1, .ref (d (2000 + i0)))]) hx hb dX11_standsOverStory_4 rfl hl (by decide) rfl (fun ls hl => ?_)
    refine lv_aload_nN hx hb dX11_standsOverStory_5 rfl (lv_at hl 0 rfl) ?_
    refine lv_ifnonnullN hx hb dX11_standsOverStory_6 ?_
    refine lv_iconst (v := 0) hx hb dX11_standsOverStory_9 (by decide) ?_
    exact W.zret (v := 0) hx hb hr (by decide) (fun t ht hW => ⟨_, rfl, (bP_f (fun h9 => h9.1 hl0)).symm, ht⟩) (fun q h => absurd h List.not_mem_nil) dX11_standsOverStory_10
  ·
    obtain ⟨hpos, b9, P, X, Y, D, N, el9, hpcx, hrx, s0, s1, s2, s3, s4⟩ := last_all hI hrp hpcI hi0 hps_8 h6_10 hcb_11 hl0
    obtain rfl : r = some b9 := hw.trans el9
    refine W.eq (g2 := F0 m 4 ls [.ref b9]) rfl ?_
    have hrx9 := hrx
    obtain ⟨hP9, hX, hD1, hY, hN1, hin⟩ := hrx9
    have hlgb := lg_of hpcx ⟨b7n (by omega), b60n (by omega), bwN (by have e8 : (8 : Int32).toInt = 8 := rfl; rw [e8]; omega) (by omega), b60n (by omega)⟩
    refine lv_astore_n (lv' := [(2, .ref b9), (0, .ref h0), (1, .ref (d (2000 + i0)))]) hx hb dX11_standsOverStory_4 rfl hl (by decide) rfl (fun ls hl => ?_)
    refine lv_aload_n hx hb dX11_standsOverStory_5 rfl (lv_at hl 0 rfl) ?_
    refine lv_ifnonnull (tgt := 11) hx hb dX11_standsOverStory_6 (by decide) ?_
    refine lv_aload_n hx hb dX11_standsOverStory_11 rfl (lv_at hl 0 rfl) ?_
    obtain ⟨kk_33, hk_34⟩ := pl_at hpcx.1.1 (x_pcF hI hpcx)
    refine va_get (D := (dC, dI)) (ci := 7) (v := .int (nI X)) (C := RX8) (T := TX8) (N := 6) hx hb hts zl_X11_standsOverStory_X8 hown hK hP kk_33 hk_34 rfl 2 (by decide) (hts (.fieldLink RX11 232 "PageOne$Piece" "column" "I") (zat q_wsX11_standsOverStory k_wsX11_standsOverStory 325 rfl (by decide +kernel))) (fun _ h9 => h9) rfl dX11_standsOverStory_12 ?_
    refine lv_istore_n (lv' := [(3, .int (nI X)), (2, .ref b9), (0, .ref h0), (1, .ref (d (2000 + i0)))]) hx hb dX11_standsOverStory_15 rfl hl (by decide) rfl (fun ls hl => ?_)
    refine y_over_l hI hx hb hml hts hown hN hXN hK (Nat.le_of_ble_eq_true rfl) (Nat.le_of_ble_eq_true rfl) (Nat.le_of_ble_eq_true rfl) (Nat.le_of_ble_eq_true rfl) hP hrp hk0 hi0 hkd hpcx hP9 hX hD1 hY (fun ls hno hl => ?_) (fun ls hye hl => ?_) (D + 1) 0 ls (Nat.zero_le _) (by omega) (fun j hj => absurd hj (Nat.not_lt_zero _)) (lv_sub hl [0, 2, 3, 1] rfl)
    ·
      refine lv_iconst (v := 0) hx hb dX11_standsOverStory_69 (by decide) ?_
      exact W.zret (v := 0) hx hb hr (by decide) (fun t ht hW => ⟨_, rfl, (bP_f (so_n hrx s0 s1 s2 s3 s4 hno)).symm, ht⟩) (fun q h => absurd h List.not_mem_nil) dX11_standsOverStory_70
    ·
      refine lv_iconst (v := 1) hx hb dX11_standsOverStory_61 (by decide) ?_
      exact W.zret (v := 1) hx hb hr (by decide) (fun t ht hW => ⟨_, rfl, (bP_t ⟨hl0, P, X, Y, D, N, s0, s1, s2, s3, s4, hrx, hye⟩).symm, ht⟩) (fun q h => absurd h List.not_mem_nil) dX11_standsOverStory_62
set_option maxHeartbeats 4000000 in
set_option maxRecDepth 100000 in
theorem y_failsAlone (l : Launch) (dC : Nat → ClassId) (dI : Nat → Nat → Nat) (q : Nat → ClassId) (h0 : Nat) (d : Nat → Nat) (k : Nat → Int32) (z : gS) (f : xF) (hI : xI q h0 d k z f) (p0 : Int32) (u : mS) (hrp : rep q d u z f) (hk0 : k 0 = u.1 3) (hk1 : k 1 = u.1 28) (hk2 : k 2 = u.1 38) (hk3 : k 3 = u.1 39) (hpcI : pcI u) (i0 : Nat) (hi0 : i0 < (u.1 3).toNatClampNeg) : Met l yX11_failsAlone wsX11_failsAlone ({ frames := 4, cells := 0, slots := 0, locals := 87 }) (va_Pc [.ref h0, .ref (d (2000 + i0)), .int p0] (PX dC dI (va_pl z.1 f) (xT q))) (vp_Si (fun r => r = bP (faP u i0 p0))) 0 0 (fun _ => False) := by
  refine Met.ofW (cc := cX11_failsAlone) (maxL := 4) (ret := (some .boolean)) (by decide) rfl ?_
  intro p e s m args below meth c s₁ B hml hv
  obtain ⟨rfl, ⟨hP, hK, hN⟩, hXN⟩ := hv
  have hx := B.exec
  have hb := B.bytes
  have hr := B.returns
  have hts := atoms_spec (ws := wsX11_failsAlone) B.pre
  have hown : s.vm.findClass RX11 = some m.cls := findClass_of_methodNamed B.named
  have hlocks := B.notSynchronized
  have hl := lv_entry ([.ref h0, .ref (d (2000 + i0)), .int p0]) (n := 4) (Nat.le_of_ble_eq_true rfl)
  rw [lg_entry_eq]
  generalize (lg_sl ([.ref h0, .ref (d (2000 + i0)), .int p0]) ++ List.replicate (4 - (lg_sl ([.ref h0, .ref (d (2000 + i0)), .int p0])).length) Slot.unset).toArray = ls at hl ⊢
  have hl : lv_has ls 4 [(0, .ref h0), (1, .ref (d (2000 + i0))), (2, .int p0)] := hl
  obtain ⟨rs_1, n_2, g_3, fg_4, hit_5, hs_6, hpa_7, hps_8, h1_9, h6_10, hcb_11, hpl_12, hlg_13, hnn_14, hfa_15, hfs_16, hfe_17, hrs_18, hkt_19⟩ := it_all hI hrp.2.2.1 hi0
  refine lv_iload_n hx hb dX11_failsAlone_0 rfl (lv_at hl 2 rfl) ?_
  refine lv_iconst (v := 4) hx hb dX11_failsAlone_1 (by decide) ?_
  refine lv_icmp_ne (tgt := 34) hx hb dX11_failsAlone_2 (by decide) (fun c_20 => ?_) (fun c_20 => ?_)
  ·
    refine lv_aload_n hx hb dX11_failsAlone_34 rfl (lv_at hl 1 rfl) ?_
    rcases Classical.em (tg z (d (2000 + i0)) 11) with ht9 | ht9
    ·
      have ht_21 := ht9
      have hkd_23 : u.2 4 i0 = 1 := (kT_k (kd_05 hrp.2.2.1 hi0).1 (kd_05 hrp.2.2.1 hi0).2).2.1 (hkt_19.symm.trans ht_21.2)
      obtain ⟨o_44, hx_34, hx_35, hx_36, hx_37⟩ := hrs_18.2.1 hkd_23
      have hs_43 : f (d (2000 + i0)) = .inr (3, [.int (nI i0), .int (u.2 4 i0), .ref (d (3000 + i0)), .int (u.2 22 i0), .ref (d (4000 + i0)), .ref (d (2000 + o_44)), .int (u.2 7 i0), .int (u.2 8 i0)]) := by rw [hs_6, ht_21.2, hx_37]; rfl
      have hit_45 := rI_itm hrp.2.2.1 hx_34
      obtain ⟨kk_46, hk_47⟩ := pl_at ht_21.1 hs_43
      refine va_instS hx hb hown (hts (.classLink RX11 83 "PageOne$Head") (zat q_wsX11_failsAlone k_wsX11_failsAlone 242 rfl (by decide +kernel))) (hK.1 3 (RX3, TX3, 8) rfl).2 (va_recv hK hP (ci := 3) (q0 := kk_46) rfl hk_47) dX11_failsAlone_35 ?_
      refine lv_if_eq (tgt := 58) hx hb dX11_failsAlone_38 (by decide) (fun c_48 => absurd c_48 (by decide)) (fun c_48 => ?_)
      refine lv_aload_n hx hb dX11_failsAlone_41 rfl (lv_at hl 1 rfl) ?_
      obtain ⟨kk_49, hk_50⟩ := pl_at ht_21.1 hs_43
      refine va_castS hx hb hown (hts (.classLink RX11 83 "PageOne$Head") (zat q_wsX11_failsAlone k_wsX11_failsAlone 242 rfl (by decide +kernel))) (hK.1 3 (RX3, TX3, 8) rfl).2 (va_recv hK hP (ci := 3) (q0 := kk_49) rfl hk_50) dX11_failsAlone_42 ?_
      refine lv_astore_n (lv' := [(3, .ref (d (2000 + i0))), (0, .ref h0), (1, .ref (d (2000 + i0))), (2, .int p0)]) hx hb dX11_failsAlone_45 rfl hl (by decide) rfl (fun ls hl => ?_)
      refine lv_aload_n hx hb dX11_failsAlone_46 rfl (lv_at hl 1 rfl) ?_
      refine lv_aload_n hx hb dX11_failsAlone_47 rfl (lv_at hl 0 rfl) ?_
      obtain ⟨kk_51, hk_52⟩ := pl_at hI.2.1.1.1 hI.2.2.2.1.1
      refine vp_callSi (va_runV (As := [.ref (d (2000 + i0))]) (rest := []) ⟨hx, hb, hml, hown, hts⟩ (y_standsOverStory l dC dI q h0 d k z f hI u hrp hk0 hk1 hk2 hk3 hpcI i0 hi0 hkd_23) (cwV 1 hts gX11_failsAlone_X11_standsOverStory rfl rfl rfl zh_X11_standsOverStory_78 ⟨Nat.le_of_ble_eq_true rfl, Nat.le_of_ble_eq_true rfl⟩) ⟨px_fb, va_recv hK hP (ci := 10) (q0 := kk_51) rfl hk_52, fun U hU hW => ⟨rfl, px_to hU hW hP hK hN hXN⟩⟩ rfl rfl hl.1 rfl (lv_room (Nat.le_of_ble_eq_true rfl)) dX11_failsAlone_48 ⟨Nat.le_of_ble_eq_true rfl, Nat.le_of_ble_eq_true rfl⟩).run (fun r hw => ?_)
      obtain rfl : r = (bP (soP u i0)) := hw
      refine lv_if_ne (tgt := 58) hx hb dX11_failsAlone_51 (by decide) (fun c_53 => ?_) (fun c_53 => ?_)
      ·
        refine lv_iconst (v := 0) hx hb dX11_failsAlone_58 (by decide) ?_
        exact W.zret (v := 0) hx hb hr (by decide) (fun t ht hW => ⟨_, rfl, (bP_f (fun h9 => by rcases h9 with h9 | h9; exact c_20 h9.1; exact h9.2.2 (bP_n c_53))).symm, ht⟩) (fun q h => absurd h List.not_mem_nil) dX11_failsAlone_59
      ·
        refine lv_iconst (v := 1) hx hb dX11_failsAlone_54 (by decide) ?_
        refine lv_goto (tgt := 59) hx hb dX11_failsAlone_55 (by decide) ?_
        exact W.zret (v := 1) hx hb hr (by decide) (fun t ht hW => ⟨_, rfl, (bP_t (Or.inr ⟨c_20, hkd_23, bP_0 c_53⟩)).symm, ht⟩) (fun q h => absurd h List.not_mem_nil) dX11_failsAlone_59
    ·
      have hn_22 := ht9
      have hkd_23 : ¬ u.2 4 i0 = 1 := fun e9 => ht9 ⟨hit_5.1, by rw [hkt_19, e9]; rfl⟩
      refine w_then (F0 m 38 ls [.int 0]) (fun hgo => ?_) ?_
      ·
        rcases x_tag hit_5 with ht8 | ht8 | ht8 | ht8 | ht8 | ht8
        ·
          obtain ⟨nu_54, kd_55, cn_56, pa_57, fa_58, l_59, m_60, hs_61, hs_62, hs_63, hs_64⟩ := x_ifl hI ht8
          obtain ⟨kk_65, hk_66⟩ := pl_at ht8.1 hs_61
          exact va_instNo hx hb hown (hts (.classLink RX11 83 "PageOne$Head") (zat q_wsX11_failsAlone k_wsX11_failsAlone 242 rfl (by decide +kernel))) hXN.n_X2_X3 (va_recv hK hP (ci := 2) (q0 := kk_65) rfl hk_66) dX11_failsAlone_35 hgo
        ·
          exact absurd ht8 ht9
        ·
          obtain ⟨nu_67, kd_68, cn_69, pa_70, fa_71, o_72, y_73, hs_74, hs_75, hs_76, hs_77, hq_78⟩ := x_ino hI ht8
          obtain ⟨kk_79, hk_80⟩ := pl_at ht8.1 hs_74
          exact va_instNo hx hb hown (hts (.classLink RX11 83 "PageOne$Head") (zat q_wsX11_failsAlone k_wsX11_failsAlone 242 rfl (by decide +kernel))) hXN.n_X5_X3 (va_recv hK hP (ci := 4) (q0 := kk_79) rfl hk_80) dX11_failsAlone_35 hgo
        ·
          obtain ⟨nu_81, kd_82, cn_83, pa_84, fa_85, b_86, pr_87, sp_88, dy_89, hs_90, hs_91, hs_92, hs_93, hq_94, hq_95, hq_96⟩ := x_ipd hI ht8
          obtain ⟨kk_97, hk_98⟩ := pl_at ht8.1 hs_90
          exact va_instNo hx hb hown (hts (.classLink RX11 83 "PageOne$Head") (zat q_wsX11_failsAlone k_wsX11_failsAlone 242 rfl (by decide +kernel))) hXN.n_X6_X3 (va_recv hK hP (ci := 5) (q0 := kk_97) rfl hk_98) dX11_failsAlone_35 hgo
        ·
          obtain ⟨nu_99, kd_100, cn_101, pa_102, fa_103, ww_104, hh_105, sz_106, hs_107, hs_108, hs_109, hs_110, hq_111, hq_112, hq_113⟩ := x_ipi hI ht8
          obtain ⟨kk_114, hk_115⟩ := pl_at ht8.1 hs_107
          exact va_instNo hx hb hown (hts (.classLink RX11 83 "PageOne$Head") (zat q_wsX11_failsAlone k_wsX11_failsAlone 242 rfl (by decide +kernel))) hXN.n_X7_X3 (va_recv hK hP (ci := 6) (q0 := kk_114) rfl hk_115) dX11_failsAlone_35 hgo
        ·
          obtain ⟨nu_116, kd_117, cn_118, pa_119, fa_120, l_121, co_122, wd_123, nm_124, hs_125, hs_126, hs_127, hs_128, hq_129, hq_130, hq_131⟩ := x_ist hI ht8
          obtain ⟨kk_132, hk_133⟩ := pl_at ht8.1 hs_125
          exact va_instNo hx hb hown (hts (.classLink RX11 83 "PageOne$Head") (zat q_wsX11_failsAlone k_wsX11_failsAlone 242 rfl (by decide +kernel))) hXN.n_X10_X3 (va_recv hK hP (ci := 9) (q0 := kk_132) rfl hk_133) dX11_failsAlone_35 hgo
      ·
        refine lv_if_eq (tgt := 58) hx hb dX11_failsAlone_38 (by decide) (fun c_134 => ?_) (fun c_134 => absurd (by decide) c_134)
        refine lv_iconst (v := 0) hx hb dX11_failsAlone_58 (by decide) ?_
        exact W.zret (v := 0) hx hb hr (by decide) (fun t ht hW => ⟨_, rfl, (bP_f (fun h9 => by rcases h9 with h9 | h9; exact c_20 h9.1; exact hkd_23 h9.2.1)).symm, ht⟩) (fun q h => absurd h List.not_mem_nil) dX11_failsAlone_59
  ·
    refine lv_aload_n hx hb dX11_failsAlone_5 rfl (lv_at hl 1 rfl) ?_
    rcases Classical.em (tg z (d (2000 + i0)) 15) with ht9 | ht9
    ·
      have ht_135 := ht9
      have hkd_137 : u.2 4 i0 = 0 := (kT_k (kd_05 hrp.2.2.1 hi0).1 (kd_05 hrp.2.2.1 hi0).2).1 (hkt_19.symm.trans ht_135.2)
      obtain ⟨hx_138, hx_139, hx_140, ⟨hx_141, hx_142, hx_143⟩, hx_144, hx_145, hx_146⟩ := hrs_18.1 hkd_137
      have hs_147 : f (d (2000 + i0)) = .inr (9, [.int (nI i0), .int (u.2 4 i0), .ref (d (3000 + i0)), .int (u.2 22 i0), .ref (d (4000 + i0)), .int (u.2 5 i0), .ref (d (5000 + i0)), .int (u.2 15 i0), .ref (d (6000 + i0))]) := by rw [hs_6, ht_135.2, hx_138]; rfl
      obtain ⟨kk_158, hk_159⟩ := pl_at ht_135.1 hs_147
      refine va_instS hx hb hown (hts (.classLink RX11 66 "PageOne$Story") (zat q_wsX11_failsAlone k_wsX11_failsAlone 161 rfl (by decide +kernel))) (hK.1 9 (RX10, TX10, 9) rfl).2 (va_recv hK hP (ci := 9) (q0 := kk_158) rfl hk_159) dX11_failsAlone_6 ?_
      refine lv_if_eq (tgt := 32) hx hb dX11_failsAlone_9 (by decide) (fun c_160 => absurd c_160 (by decide)) (fun c_160 => ?_)
      refine lv_aload_n hx hb dX11_failsAlone_12 rfl (lv_at hl 1 rfl) ?_
      obtain ⟨kk_161, hk_162⟩ := pl_at ht_135.1 hs_147
      refine va_castS hx hb hown (hts (.classLink RX11 66 "PageOne$Story") (zat q_wsX11_failsAlone k_wsX11_failsAlone 161 rfl (by decide +kernel))) (hK.1 9 (RX10, TX10, 9) rfl).2 (va_recv hK hP (ci := 9) (q0 := kk_161) rfl hk_162) dX11_failsAlone_13 ?_
      refine lv_astore_n (lv' := [(3, .ref (d (2000 + i0))), (0, .ref h0), (1, .ref (d (2000 + i0))), (2, .int p0)]) hx hb dX11_failsAlone_16 rfl hl (by decide) rfl (fun ls hl => ?_)
      refine lv_aload_n hx hb dX11_failsAlone_17 rfl (lv_at hl 0 rfl) ?_
      obtain ⟨kk_163, hk_164⟩ := pl_at ht_135.1 hs_147
      refine vp_callSi (va_runV (As := []) (rest := []) ⟨hx, hb, hml, hown, hts⟩ (y_standing l dC dI q h0 d k z f hI (d (2000 + i0)) (d (3000 + i0)) (d (4000 + i0)) (d (5000 + i0)) (d (6000 + i0)) (nI i0) (u.2 4 i0) (u.2 22 i0) (u.2 5 i0) (u.2 15 i0) ht_135 hs_147 n_2 g_3 (pR u i0) hpa_7 hps_8 h1_9 h6_10 hcb_11 hpl_12) (cwV 0 hts gX11_failsAlone_X10_standing rfl rfl rfl zh_X10_standing_42 ⟨Nat.le_of_ble_eq_true rfl, Nat.le_of_ble_eq_true rfl⟩) ⟨px_fb, va_recv hK hP (ci := 9) (q0 := kk_163) rfl hk_164, fun U hU hW => ⟨rfl, px_to hU hW hP hK hN hXN⟩⟩ rfl rfl hl.1 rfl (lv_room (Nat.le_of_ble_eq_true rfl)) dX11_failsAlone_18 ⟨Nat.le_of_ble_eq_true rfl, Nat.le_of_ble_eq_true rfl⟩).run (fun r hw => ?_)
      obtain rfl : r = (s_standing (u.2 22 i0) (pR u i0)) := hw
      refine lv_aload_n hx hb dX11_failsAlone_21 rfl (lv_at hl 0 rfl) ?_
      obtain ⟨kk_165, hk_166⟩ := pl_at ht_135.1 hs_147
      refine va_get (D := (dC, dI)) (ci := 9) (v := .int (u.2 5 i0)) (C := RX10) (T := TX10) (N := 9) hx hb hts zl_X11_failsAlone_X10 hown hK hP kk_165 hk_166 rfl 5 (by decide) (hts (.fieldLink RX11 366 "PageOne$Story" "least" "I") (zat q_wsX11_failsAlone k_wsX11_failsAlone 175 rfl (by decide +kernel))) (fun _ h9 => h9) rfl dX11_failsAlone_22 ?_
      refine lv_icmp_ge (tgt := 32) hx hb dX11_failsAlone_25 (by decide) (fun c_167 => ?_) (fun c_167 => ?_)
      ·
        refine lv_iconst (v := 0) hx hb dX11_failsAlone_32 (by decide) ?_
        exact W.zret (v := 0) hx hb hr (by decide) (fun t ht hW => ⟨_, rfl, (bP_f (fun h9 => by rcases h9 with h9 | h9; have h8 := h9.2.2; have h7 := c_167; rw [i32_le] at h7; rw [i32_lt] at h8; omega; exact h9.1 c_20)).symm, ht⟩) (fun q h => absurd h List.not_mem_nil) dX11_failsAlone_33
      ·
        refine lv_iconst (v := 1) hx hb dX11_failsAlone_28 (by decide) ?_
        refine lv_goto (tgt := 33) hx hb dX11_failsAlone_29 (by decide) ?_
        exact W.zret (v := 1) hx hb hr (by decide) (fun t ht hW => ⟨_, rfl, (bP_t (Or.inl ⟨c_20, hkd_137, by have h9 := c_167; rw [i32_le] at h9; rw [i32_lt]; omega⟩)).symm, ht⟩) (fun q h => absurd h List.not_mem_nil) dX11_failsAlone_33
    ·
      have hn_136 := ht9
      have hkd_137 : ¬ u.2 4 i0 = 0 := fun e9 => ht9 ⟨hit_5.1, by rw [hkt_19, e9]; rfl⟩
      refine w_then (F0 m 9 ls [.int 0]) (fun hgo => ?_) ?_
      ·
        rcases x_tag hit_5 with ht8 | ht8 | ht8 | ht8 | ht8 | ht8
        ·
          obtain ⟨nu_168, kd_169, cn_170, pa_171, fa_172, l_173, m_174, hs_175, hs_176, hs_177, hs_178⟩ := x_ifl hI ht8
          obtain ⟨kk_179, hk_180⟩ := pl_at ht8.1 hs_175
          exact va_instNo hx hb hown (hts (.classLink RX11 66 "PageOne$Story") (zat q_wsX11_failsAlone k_wsX11_failsAlone 161 rfl (by decide +kernel))) hXN.n_X2_X10 (va_recv hK hP (ci := 2) (q0 := kk_179) rfl hk_180) dX11_failsAlone_6 hgo
        ·
          obtain ⟨nu_181, kd_182, cn_183, pa_184, fa_185, o_186, w_187, y_188, hs_189, hs_190, hs_191, hs_192, hq_193⟩ := x_ihd hI ht8
          obtain ⟨kk_194, hk_195⟩ := pl_at ht8.1 hs_189
          exact va_instNo hx hb hown (hts (.classLink RX11 66 "PageOne$Story") (zat q_wsX11_failsAlone k_wsX11_failsAlone 161 rfl (by decide +kernel))) hXN.n_X3_X10 (va_recv hK hP (ci := 3) (q0 := kk_194) rfl hk_195) dX11_failsAlone_6 hgo
        ·
          obtain ⟨nu_196, kd_197, cn_198, pa_199, fa_200, o_201, y_202, hs_203, hs_204, hs_205, hs_206, hq_207⟩ := x_ino hI ht8
          obtain ⟨kk_208, hk_209⟩ := pl_at ht8.1 hs_203
          exact va_instNo hx hb hown (hts (.classLink RX11 66 "PageOne$Story") (zat q_wsX11_failsAlone k_wsX11_failsAlone 161 rfl (by decide +kernel))) hXN.n_X5_X10 (va_recv hK hP (ci := 4) (q0 := kk_208) rfl hk_209) dX11_failsAlone_6 hgo
        ·
          obtain ⟨nu_210, kd_211, cn_212, pa_213, fa_214, b_215, pr_216, sp_217, dy_218, hs_219, hs_220, hs_221, hs_222, hq_223, hq_224, hq_225⟩ := x_ipd hI ht8
          obtain ⟨kk_226, hk_227⟩ := pl_at ht8.1 hs_219
          exact va_instNo hx hb hown (hts (.classLink RX11 66 "PageOne$Story") (zat q_wsX11_failsAlone k_wsX11_failsAlone 161 rfl (by decide +kernel))) hXN.n_X6_X10 (va_recv hK hP (ci := 5) (q0 := kk_226) rfl hk_227) dX11_failsAlone_6 hgo
        ·
          obtain ⟨nu_228, kd_229, cn_230, pa_231, fa_232, ww_233, hh_234, sz_235, hs_236, hs_237, hs_238, hs_239, hq_240, hq_241, hq_242⟩ := x_ipi hI ht8
          obtain ⟨kk_243, hk_244⟩ := pl_at ht8.1 hs_236
          exact va_instNo hx hb hown (hts (.classLink RX11 66 "PageOne$Story") (zat q_wsX11_failsAlone k_wsX11_failsAlone 161 rfl (by decide +kernel))) hXN.n_X7_X10 (va_recv hK hP (ci := 6) (q0 := kk_243) rfl hk_244) dX11_failsAlone_6 hgo
        ·
          exact absurd ht8 ht9
      ·
        refine lv_if_eq (tgt := 32) hx hb dX11_failsAlone_9 (by decide) (fun c_245 => ?_) (fun c_245 => absurd (by decide) c_245)
        refine lv_iconst (v := 0) hx hb dX11_failsAlone_32 (by decide) ?_
        exact W.zret (v := 0) hx hb hr (by decide) (fun t ht hW => ⟨_, rfl, (bP_f (fun h9 => by rcases h9 with h9 | h9; exact hkd_137 h9.2.1; exact h9.1 c_20)).symm, ht⟩) (fun q h => absurd h List.not_mem_nil) dX11_failsAlone_33
/-- an item on a page; two items that meet there -/
def onP (u : mS) (i : Nat) (p : Int32) : Prop := ∃ j, j < (u.2 22 i).toNatClampNeg ∧ pR u i j 0 = p
def mtP (u : mS) (i j : Nat) (p sw : Int32) : Prop := ∃ t, t < (u.2 22 i).toNatClampNeg ∧ s_mt (pR u i) (pR u j) (u.2 22 j) p sw t
def swA (kd : Int32) : Int32 := if kd = 3 then 1 else 0
def lpB (u : mS) (p kd : Int32) (a b : Nat) : Prop := mnP u a b kd ∧ mtP u a b p (swA kd)
def lpC (u : mS) (p kd : Int32) (a b : Nat) : Prop := onP u a p ∧ lpB u p kd a b
/-- the least pair -/
def lpM (u : mS) (p kd : Int32) (K a b : Nat) : Prop := a < b ∧ b < K ∧ lpC u p kd a b ∧ ∀ a' b', a' < b' → b' < K → (a' < a ∨ (a' = a ∧ b' < b)) → ¬ lpC u p kd a' b'
set_option maxHeartbeats 4000000 in
set_option maxRecDepth 100000 in
theorem y_lp_in {p : Program} {l : Launch} {e : Env} {R : Room} {s : State} {m : MethodId} {args : Array Value} {below : List Frame} {meth : Method} {c : Code} {Q : State → Prop} {cells slots : Nat} {dC : Nat → ClassId} {dI : Nat → Nat → Nat} {q : Nat → ClassId} {h0 : Nat} {d : Nat → Nat} {k : Nat → Int32} {z : gS} {f : xF} {H : Heap} {locs : List Loc} (hI : xI q h0 d k z f) (hx : p.tables.exec = Jvm.exec) (hb : c.code = cX11_leastPair) (hml : c.maxLocals = 5) (hts : ∀ w ∈ wsX11_leastPair, w.before args s = true) (hown : s.vm.findClass RX11 = some m.cls) (hN : NN s) (hXN : XN s) (hK : va_K (dC, dI) vwCl (xT q) s) (hRf : 3 ≤ R.frames) (hRl : 69 ≤ R.locals) (hRc : cells ≤ R.cells) (hRs : slots ≤ R.slots) (hP : va_P (dC, dI) vwCl (va_pl z.1 f) H) {u : mS} (hrp : rep q d u z f) (hk0 : k 0 = u.1 3) (hk1 : k 1 = u.1 28) (hk2 : k 2 = u.1 38) (hk3 : k 3 = u.1 39) {K : Nat} (hK8 : K ≤ 80) (eK : k 0 = nI K) (eKn : (u.1 3).toNatClampNeg = K) (hkB : kB u) {p0 p1 : Int32} {a9 : Nat} (ha9 : a9 < K) (kx109 : ∀ (ls : Array Slot), (∀ b, a9 < b → b < K → ¬ lpB u p0 p1 a9 b) → lv_has ls 5 [(3, .int (nI a9)), (0, .ref h0), (1, .int p0), (2, .int p1)] → W p l e R s m args below meth c H locs cells slots Q (F0 m 109 ls [])) (kx91 : ∀ (b9 : Nat) (ls : Array Slot), (a9 < b9 ∧ b9 < K ∧ lpB u p0 p1 a9 b9 ∧ (∀ b, a9 < b → b < b9 → ¬ lpB u p0 p1 a9 b)) → lv_has ls 5 [(4, .int (nI b9)), (3, .int (nI a9)), (0, .ref h0), (1, .int p0), (2, .int p1)] → W p l e R s m args below meth c H locs cells slots Q (F0 m 91 ls [])) : ∀ (kk i : Nat) (ls : Array Slot), i ≤ K → K - i < kk → (a9 < i ∧ (∀ b, a9 < b → b < i → ¬ lpB u p0 p1 a9 b)) → lv_has ls 5 [(4, .int (nI i)), (3, .int (nI a9)), (0, .ref h0), (1, .int p0), (2, .int p1)] → W p l e R s m args below meth c H locs cells slots Q (F0 m 31 ls []) := by
  intro kk
  induction kk with
  | zero => intro i ls h1 h2; exact absurd h2 (Nat.not_lt_zero _)
  | succ kk ih =>
    intro i ls hi hkk hg0 hl
    obtain ⟨hai, hg⟩ := hg0
    have hgl := hg
    refine lv_iload hx hb dX11_leastPair_31 (lv_at hl 0 rfl) ?_
    refine lv_aload_n hx hb dX11_leastPair_33 rfl (lv_at hl 2 rfl) ?_
    obtain ⟨kk_1, hk_2⟩ := pl_at hI.2.1.1.1 hI.2.2.2.1.1
    refine va_get (D := (dC, dI)) (ci := 10) (v := .int (k 0)) (C := RX11) (T := TX11) (N := 9) hx hb hts zl_X11_leastPair_X11 hown hK hP kk_1 hk_2 rfl 3 (by decide) (hts (.fieldLink RX11 24 "PageOne" "itemCount" "I") (zat q_wsX11_leastPair k_wsX11_leastPair 115 rfl (by decide +kernel))) (fun _ h9 => h9) rfl dX11_leastPair_34 ?_
    refine lv_topi (fun y_3 ey_3 => ?_)
    obtain rfl : y_3 = (nI K) := ey_3.trans (eK)
    refine lv_icmp_ge (tgt := 109) hx hb dX11_leastPair_37 (by decide) (fun c_4 => ?_) (fun c_4 => ?_)
    ·
      have hie : i = K := lp_eq rfl (by omega) hi c_4
      exact kx109 ls (by rw [hie] at hg; exact hg) (lv_sub hl [1, 2, 3, 4] rfl)
    ·
      have hlt : i < K := lp_lt rfl (by omega) hi c_4
      refine lv_aload_n hx hb dX11_leastPair_40 rfl (lv_at hl 2 rfl) ?_
      refine lv_aload_n hx hb dX11_leastPair_41 rfl (lv_at hl 2 rfl) ?_
      obtain ⟨kk_5, hk_6⟩ := pl_at hI.2.1.1.1 hI.2.2.2.1.1
      refine va_get (D := (dC, dI)) (ci := 10) (v := .ref (d 2)) (C := RX11) (T := TX11) (N := 9) hx hb hts zl_X11_leastPair_X11 hown hK hP kk_5 hk_6 rfl 2 (by decide) (hts (.fieldLink RX11 20 "PageOne" "items" "[LPageOne$Item;") (zat q_wsX11_leastPair k_wsX11_leastPair 114 rfl (by decide +kernel))) (fun _ h9 => h9) rfl dX11_leastPair_42 ?_
      refine lv_iload_n hx hb dX11_leastPair_45 rfl (lv_at hl 1 rfl) ?_
      obtain ⟨g_7, hs_8, hn_9, hg_10⟩ := x_itm hI
      obtain ⟨kk_11, hk_12⟩ := pl_at hI.2.1.2.2.2.1.1 hs_8
      refine va_aldq hx hb hK hP kk_11 3 hk_12 rfl (vp_in_nI (by omega) (by decide)) dX11_leastPair_46 ?_
      obtain ⟨b_13, hg_14⟩ := hn_9 ((nI a9) : Int32).toNatClampNeg (by rw [eK, nI_clamp (by omega), nI_clamp (by omega)]; exact ha9)
      have ht_15 := hg_10 ((nI a9) : Int32).toNatClampNeg (vlt (vp_in_nI (by omega) (by decide))) b_13 hg_14
      rw [hg_14]
      refine W.eq (g2 := F0 m 47 ls [.ref b_13, .ref h0]) rfl ?_
      have hb_16 := rI_at hrp.2.2.1 hs_8 (by rw [eKn]; exact ha9) (by rw [nI_clamp (by omega)] at hg_14; exact hg_14)
      subst hb_16
      obtain ⟨rs_17, n_18, g_19, fg_20, hit_21, hs_22, hpa_23, hps_24, h1_25, h6_26, hcb_27, hpl_28, hlg_29, hnn_30, hfa_31, hfs_32, hfe_33, hrs_34, hkt_35⟩ := it_all hI hrp.2.2.1 (by rw [eKn]; exact ha9)
      refine lv_aload_n hx hb dX11_leastPair_47 rfl (lv_at hl 2 rfl) ?_
      obtain ⟨kk_36, hk_37⟩ := pl_at hI.2.1.1.1 hI.2.2.2.1.1
      refine va_get (D := (dC, dI)) (ci := 10) (v := .ref (d 2)) (C := RX11) (T := TX11) (N := 9) hx hb hts zl_X11_leastPair_X11 hown hK hP kk_36 hk_37 rfl 2 (by decide) (hts (.fieldLink RX11 20 "PageOne" "items" "[LPageOne$Item;") (zat q_wsX11_leastPair k_wsX11_leastPair 114 rfl (by decide +kernel))) (fun _ h9 => h9) rfl dX11_leastPair_48 ?_
      refine lv_iload hx hb dX11_leastPair_51 (lv_at hl 0 rfl) ?_
      obtain ⟨kk_38, hk_39⟩ := pl_at hI.2.1.2.2.2.1.1 hs_8
      refine va_aldq hx hb hK hP kk_38 3 hk_39 rfl (vp_in_nI (by omega) (by decide)) dX11_leastPair_53 ?_
      obtain ⟨b_40, hg_41⟩ := hn_9 ((nI i) : Int32).toNatClampNeg (by rw [eK, nI_clamp (by omega), nI_clamp (by omega)]; exact hlt)
      have ht_42 := hg_10 ((nI i) : Int32).toNatClampNeg (vlt (vp_in_nI (by omega) (by decide))) b_40 hg_41
      rw [hg_41]
      refine W.eq (g2 := F0 m 54 ls [.ref b_40, .ref (d (2000 + a9)), .ref h0]) rfl ?_
      have hb_43 := rI_at hrp.2.2.1 hs_8 (by rw [eKn]; exact hlt) (by rw [nI_clamp (by omega)] at hg_41; exact hg_41)
      subst hb_43
      obtain ⟨rs_44, n_45, g_46, fg_47, hit_48, hs_49, hpa_50, hps_51, h1_52, h6_53, hcb_54, hpl_55, hlg_56, hnn_57, hfa_58, hfs_59, hfe_60, hrs_61, hkt_62⟩ := it_all hI hrp.2.2.1 (by rw [eKn]; exact hlt)
      refine lv_iload_n hx hb dX11_leastPair_54 rfl (lv_at hl 4 rfl) ?_
      obtain ⟨kk_63, hk_64⟩ := pl_at hI.2.1.1.1 hI.2.2.2.1.1
      refine vp_callSi (va_runV (As := [.ref (d (2000 + a9)), .ref (d (2000 + i)), .int p1]) (rest := []) ⟨hx, hb, hml, hown, hts⟩ (y_mayNotMeet l dC dI q h0 d k z f hI p1 u hrp hk0 hk1 hk2 hk3 a9 i (by rw [eKn]; exact ha9) (by rw [eKn]; exact hlt) hkB) (cwV 3 hts gX11_leastPair_X11_mayNotMeet rfl rfl rfl zh_X11_mayNotMeet_96 ⟨Nat.le_trans (Nat.le_of_ble_eq_true rfl) hRf, Nat.le_trans (Nat.le_of_ble_eq_true rfl) hRl⟩) ⟨px_fb, va_recv hK hP (ci := 10) (q0 := kk_63) rfl hk_64, fun U hU hW => ⟨rfl, px_to hU hW hP hK hN hXN⟩⟩ rfl rfl hl.1 rfl (lv_room (Nat.le_of_ble_eq_true rfl)) dX11_leastPair_55 ⟨hRc, hRs⟩).run (fun r hw => ?_)
      obtain rfl : r = (bP (mnP u a9 i p1)) := hw
      refine lv_if_eq (tgt := 103) hx hb dX11_leastPair_58 (by decide) (fun c_65 => ?_) (fun c_65 => ?_)
      ·
        refine lv_iinc (v := (nI (i + 1))) (lv' := [(4, .int (nI (i + 1))), (3, .int (nI a9)), (0, .ref h0), (1, .int p0), (2, .int p1)]) hx hb dX11_leastPair_103 hl (k := 0) rfl (nI_1 i) (by decide) rfl (fun ls hl => ?_)
        refine lv_goto (tgt := 31) hx hb dX11_leastPair_106 (by decide) ?_
        exact ih (i + 1) ls (by omega) (by omega) ⟨by omega, (fun b hb1 hb2 => by rcases Nat.lt_succ_iff_lt_or_eq.mp hb2 with h9 | h9; exact hgl b hb1 h9; rw [h9]; exact fun h8 => bP_0 c_65 h8.1)⟩ (lv_sub hl [0, 1, 2, 3, 4] rfl)
      ·
        refine lv_aload_n hx hb dX11_leastPair_61 rfl (lv_at hl 2 rfl) ?_
        obtain ⟨kk_66, hk_67⟩ := pl_at hI.2.1.1.1 hI.2.2.2.1.1
        refine va_get (D := (dC, dI)) (ci := 10) (v := .ref (d 2)) (C := RX11) (T := TX11) (N := 9) hx hb hts zl_X11_leastPair_X11 hown hK hP kk_66 hk_67 rfl 2 (by decide) (hts (.fieldLink RX11 20 "PageOne" "items" "[LPageOne$Item;") (zat q_wsX11_leastPair k_wsX11_leastPair 114 rfl (by decide +kernel))) (fun _ h9 => h9) rfl dX11_leastPair_62 ?_
        refine lv_iload_n hx hb dX11_leastPair_65 rfl (lv_at hl 1 rfl) ?_
        obtain ⟨kk_68, hk_69⟩ := pl_at hI.2.1.2.2.2.1.1 hs_8
        refine va_aldq hx hb hK hP kk_68 3 hk_69 rfl (vp_in_nI (by omega) (by decide)) dX11_leastPair_66 ?_
        obtain ⟨b_70, hg_71⟩ := hn_9 ((nI a9) : Int32).toNatClampNeg (by rw [eK, nI_clamp (by omega), nI_clamp (by omega)]; exact ha9)
        have ht_72 := hg_10 ((nI a9) : Int32).toNatClampNeg (vlt (vp_in_nI (by omega) (by decide))) b_70 hg_71
        rw [hg_71]
        refine W.eq (g2 := F0 m 67 ls [.ref b_70]) rfl ?_
        have hb_73 := rI_at hrp.2.2.1 hs_8 (by rw [eKn]; exact ha9) (by rw [nI_clamp (by omega)] at hg_71; exact hg_71)
        subst hb_73
        obtain ⟨rs_74, n_75, g_76, fg_77, hit_78, hs_79, hpa_80, hps_81, h1_82, h6_83, hcb_84, hpl_85, hlg_86, hnn_87, hfa_88, hfs_89, hfe_90, hrs_91, hkt_92⟩ := it_all hI hrp.2.2.1 (by rw [eKn]; exact ha9)
        refine lv_aload_n hx hb dX11_leastPair_67 rfl (lv_at hl 2 rfl) ?_
        obtain ⟨kk_93, hk_94⟩ := pl_at hI.2.1.1.1 hI.2.2.2.1.1
        refine va_get (D := (dC, dI)) (ci := 10) (v := .ref (d 2)) (C := RX11) (T := TX11) (N := 9) hx hb hts zl_X11_leastPair_X11 hown hK hP kk_93 hk_94 rfl 2 (by decide) (hts (.fieldLink RX11 20 "PageOne" "items" "[LPageOne$Item;") (zat q_wsX11_leastPair k_wsX11_leastPair 114 rfl (by decide +kernel))) (fun _ h9 => h9) rfl dX11_leastPair_68 ?_
        refine lv_iload hx hb dX11_leastPair_71 (lv_at hl 0 rfl) ?_
        obtain ⟨kk_95, hk_96⟩ := pl_at hI.2.1.2.2.2.1.1 hs_8
        refine va_aldq hx hb hK hP kk_95 3 hk_96 rfl (vp_in_nI (by omega) (by decide)) dX11_leastPair_73 ?_
        obtain ⟨b_97, hg_98⟩ := hn_9 ((nI i) : Int32).toNatClampNeg (by rw [eK, nI_clamp (by omega), nI_clamp (by omega)]; exact hlt)
        have ht_99 := hg_10 ((nI i) : Int32).toNatClampNeg (vlt (vp_in_nI (by omega) (by decide))) b_97 hg_98
        rw [hg_98]
        refine W.eq (g2 := F0 m 74 ls [.ref b_97, .ref (d (2000 + a9))]) rfl ?_
        have hb_100 := rI_at hrp.2.2.1 hs_8 (by rw [eKn]; exact hlt) (by rw [nI_clamp (by omega)] at hg_98; exact hg_98)
        subst hb_100
        obtain ⟨rs_101, n_102, g_103, fg_104, hit_105, hs_106, hpa_107, hps_108, h1_109, h6_110, hcb_111, hpl_112, hlg_113, hnn_114, hfa_115, hfs_116, hfe_117, hrs_118, hkt_119⟩ := it_all hI hrp.2.2.1 (by rw [eKn]; exact hlt)
        refine lv_iload_n hx hb dX11_leastPair_74 rfl (lv_at hl 3 rfl) ?_
        refine lv_iload_n hx hb dX11_leastPair_75 rfl (lv_at hl 4 rfl) ?_
        refine lv_iconst (v := 3) hx hb dX11_leastPair_76 (by decide) ?_
        refine lv_icmp_ne (tgt := 84) hx hb dX11_leastPair_77 (by decide) (fun c_120 => ?_) (fun c_120 => ?_)
        ·
          refine lv_iconst (v := 0) hx hb dX11_leastPair_84 (by decide) ?_
          refine w_cut (X := fun R cells slots Q args => ∀ r : Int32, (r = (bP (mtP u a9 i p0 0))) → W p l e R s m args below meth c H locs cells slots Q (F0 m 88 ls (.int r :: []))) ?_ (fun kC => ?_)
          ·
            intro r hw
            obtain rfl : r = (bP (mtP u a9 i p0 0)) := hw
            refine lv_if_eq (tgt := 103) hx hb dX11_leastPair_88 (by decide) (fun c_216 => ?_) (fun c_216 => ?_)
            ·
              refine lv_iinc (v := (nI (i + 1))) (lv' := [(4, .int (nI (i + 1))), (3, .int (nI a9)), (0, .ref h0), (1, .int p0), (2, .int p1)]) hx hb dX11_leastPair_103 hl (k := 0) rfl (nI_1 i) (by decide) rfl (fun ls hl => ?_)
              refine lv_goto (tgt := 31) hx hb dX11_leastPair_106 (by decide) ?_
              exact ih (i + 1) ls (by omega) (by omega) ⟨by omega, (fun b hb1 hb2 => by rcases Nat.lt_succ_iff_lt_or_eq.mp hb2 with h9 | h9; exact hgl b hb1 h9; rw [h9]; exact fun h8 => bP_0 c_216 (by have h7 := h8.2; rw [(show swA p1 = 0 from if_neg c_120)] at h7; exact h7))⟩ (lv_sub hl [0, 1, 2, 3, 4] rfl)
            ·
              exact kx91 _ ls ⟨hai, hlt, ⟨bP_n c_65, by rw [(show swA p1 = 0 from if_neg c_120)]; exact bP_n c_216⟩, hg⟩ (lv_sub hl [0, 1, 2, 3, 4] rfl)
          ·
            rcases x_tag hit_78 with ht9 | ht9 | ht9 | ht9 | ht9 | ht9
            ·
              obtain ⟨nu_121, kd_122, cn_123, pa_124, fa_125, l_126, m_127, hs_128, hs_129, hs_130, hs_131⟩ := x_ifl hI ht9
              obtain ⟨kk_132, hk_133⟩ := pl_at ht9.1 hs_128
              exact vp_callSi (va_runU (As := [.ref (d (2000 + i)), .int p0, .int 0]) (rest := []) ⟨hx, hb, hml, hown, hts⟩ (y_meets l dC dI q h0 d k z f hI (d (2000 + a9)) hit_78 (nI a9) (u.2 4 a9) (u.2 22 a9) (d (3000 + a9)) (d (4000 + a9)) rs_74 hs_79 n_75 g_76 (pR u a9) hpa_80 hps_81 h1_82 h6_83 hcb_84 hpl_85 (d (2000 + i)) hit_105 (nI i) (u.2 4 i) (u.2 22 i) (d (3000 + i)) (d (4000 + i)) rs_101 hs_106 n_102 g_103 (pR u i) hpa_107 hps_108 h1_109 h6_110 hcb_111 hpl_112 p0 0) (va_cwU 3 hts gX11_leastPair_X4_meets_u358X2 rfl rfl rfl rfl zu_97 ⟨Nat.le_trans (Nat.le_of_ble_eq_true rfl) hRf, Nat.le_trans (Nat.le_of_ble_eq_true rfl) hRl⟩) ⟨px_fb, va_recv hK hP (ci := 2) (q0 := kk_132) rfl hk_133, fun U hU hW => ⟨rfl, px_to hU hW hP hK hN hXN⟩⟩ rfl rfl hl.1 rfl (lv_room (Nat.le_of_ble_eq_true rfl)) dX11_leastPair_85 ⟨hRc, hRs⟩).run (fun r hw => kC r hw)
            ·
              obtain ⟨nu_134, kd_135, cn_136, pa_137, fa_138, o_139, w_140, y_141, hs_142, hs_143, hs_144, hs_145, hq_146⟩ := x_ihd hI ht9
              obtain ⟨kk_147, hk_148⟩ := pl_at ht9.1 hs_142
              exact vp_callSi (va_runU (As := [.ref (d (2000 + i)), .int p0, .int 0]) (rest := []) ⟨hx, hb, hml, hown, hts⟩ (y_meets l dC dI q h0 d k z f hI (d (2000 + a9)) hit_78 (nI a9) (u.2 4 a9) (u.2 22 a9) (d (3000 + a9)) (d (4000 + a9)) rs_74 hs_79 n_75 g_76 (pR u a9) hpa_80 hps_81 h1_82 h6_83 hcb_84 hpl_85 (d (2000 + i)) hit_105 (nI i) (u.2 4 i) (u.2 22 i) (d (3000 + i)) (d (4000 + i)) rs_101 hs_106 n_102 g_103 (pR u i) hpa_107 hps_108 h1_109 h6_110 hcb_111 hpl_112 p0 0) (va_cwU 3 hts gX11_leastPair_X4_meets_u358X3 rfl rfl rfl rfl zu_97 ⟨Nat.le_trans (Nat.le_of_ble_eq_true rfl) hRf, Nat.le_trans (Nat.le_of_ble_eq_true rfl) hRl⟩) ⟨px_fb, va_recv hK hP (ci := 3) (q0 := kk_147) rfl hk_148, fun U hU hW => ⟨rfl, px_to hU hW hP hK hN hXN⟩⟩ rfl rfl hl.1 rfl (lv_room (Nat.le_of_ble_eq_true rfl)) dX11_leastPair_85 ⟨hRc, hRs⟩).run (fun r hw => kC r hw)
            ·
              obtain ⟨nu_149, kd_150, cn_151, pa_152, fa_153, o_154, y_155, hs_156, hs_157, hs_158, hs_159, hq_160⟩ := x_ino hI ht9
              obtain ⟨kk_161, hk_162⟩ := pl_at ht9.1 hs_156
              exact vp_callSi (va_runU (As := [.ref (d (2000 + i)), .int p0, .int 0]) (rest := []) ⟨hx, hb, hml, hown, hts⟩ (y_meets l dC dI q h0 d k z f hI (d (2000 + a9)) hit_78 (nI a9) (u.2 4 a9) (u.2 22 a9) (d (3000 + a9)) (d (4000 + a9)) rs_74 hs_79 n_75 g_76 (pR u a9) hpa_80 hps_81 h1_82 h6_83 hcb_84 hpl_85 (d (2000 + i)) hit_105 (nI i) (u.2 4 i) (u.2 22 i) (d (3000 + i)) (d (4000 + i)) rs_101 hs_106 n_102 g_103 (pR u i) hpa_107 hps_108 h1_109 h6_110 hcb_111 hpl_112 p0 0) (va_cwU 3 hts gX11_leastPair_X4_meets_u358X5 rfl rfl rfl rfl zu_97 ⟨Nat.le_trans (Nat.le_of_ble_eq_true rfl) hRf, Nat.le_trans (Nat.le_of_ble_eq_true rfl) hRl⟩) ⟨px_fb, va_recv hK hP (ci := 4) (q0 := kk_161) rfl hk_162, fun U hU hW => ⟨rfl, px_to hU hW hP hK hN hXN⟩⟩ rfl rfl hl.1 rfl (lv_room (Nat.le_of_ble_eq_true rfl)) dX11_leastPair_85 ⟨hRc, hRs⟩).run (fun r hw => kC r hw)
            ·
              obtain ⟨nu_163, kd_164, cn_165, pa_166, fa_167, b_168, pr_169, sp_170, dy_171, hs_172, hs_173, hs_174, hs_175, hq_176, hq_177, hq_178⟩ := x_ipd hI ht9
              obtain ⟨kk_179, hk_180⟩ := pl_at ht9.1 hs_172
              exact vp_callSi (va_runU (As := [.ref (d (2000 + i)), .int p0, .int 0]) (rest := []) ⟨hx, hb, hml, hown, hts⟩ (y_meets l dC dI q h0 d k z f hI (d (2000 + a9)) hit_78 (nI a9) (u.2 4 a9) (u.2 22 a9) (d (3000 + a9)) (d (4000 + a9)) rs_74 hs_79 n_75 g_76 (pR u a9) hpa_80 hps_81 h1_82 h6_83 hcb_84 hpl_85 (d (2000 + i)) hit_105 (nI i) (u.2 4 i) (u.2 22 i) (d (3000 + i)) (d (4000 + i)) rs_101 hs_106 n_102 g_103 (pR u i) hpa_107 hps_108 h1_109 h6_110 hcb_111 hpl_112 p0 0) (va_cwU 3 hts gX11_leastPair_X4_meets_u358X6 rfl rfl rfl rfl zu_97 ⟨Nat.le_trans (Nat.le_of_ble_eq_true rfl) hRf, Nat.le_trans (Nat.le_of_ble_eq_true rfl) hRl⟩) ⟨px_fb, va_recv hK hP (ci := 5) (q0 := kk_179) rfl hk_180, fun U hU hW => ⟨rfl, px_to hU hW hP hK hN hXN⟩⟩ rfl rfl hl.1 rfl (lv_room (Nat.le_of_ble_eq_true rfl)) dX11_leastPair_85 ⟨hRc, hRs⟩).run (fun r hw => kC r hw)
            ·
              obtain ⟨nu_181, kd_182, cn_183, pa_184, fa_185, ww_186, hh_187, sz_188, hs_189, hs_190, hs_191, hs_192, hq_193, hq_194, hq_195⟩ := x_ipi hI ht9
              obtain ⟨kk_196, hk_197⟩ := pl_at ht9.1 hs_189
              exact vp_callSi (va_runU (As := [.ref (d (2000 + i)), .int p0, .int 0]) (rest := []) ⟨hx, hb, hml, hown, hts⟩ (y_meets l dC dI q h0 d k z f hI (d (2000 + a9)) hit_78 (nI a9) (u.2 4 a9) (u.2 22 a9) (d (3000 + a9)) (d (4000 + a9)) rs_74 hs_79 n_75 g_76 (pR u a9) hpa_80 hps_81 h1_82 h6_83 hcb_84 hpl_85 (d (2000 + i)) hit_105 (nI i) (u.2 4 i) (u.2 22 i) (d (3000 + i)) (d (4000 + i)) rs_101 hs_106 n_102 g_103 (pR u i) hpa_107 hps_108 h1_109 h6_110 hcb_111 hpl_112 p0 0) (va_cwU 3 hts gX11_leastPair_X4_meets_u358X7 rfl rfl rfl rfl zu_97 ⟨Nat.le_trans (Nat.le_of_ble_eq_true rfl) hRf, Nat.le_trans (Nat.le_of_ble_eq_true rfl) hRl⟩) ⟨px_fb, va_recv hK hP (ci := 6) (q0 := kk_196) rfl hk_197, fun U hU hW => ⟨rfl, px_to hU hW hP hK hN hXN⟩⟩ rfl rfl hl.1 rfl (lv_room (Nat.le_of_ble_eq_true rfl)) dX11_leastPair_85 ⟨hRc, hRs⟩).run (fun r hw => kC r hw)
            ·
              obtain ⟨nu_198, kd_199, cn_200, pa_201, fa_202, l_203, co_204, wd_205, nm_206, hs_207, hs_208, hs_209, hs_210, hq_211, hq_212, hq_213⟩ := x_ist hI ht9
              obtain ⟨kk_214, hk_215⟩ := pl_at ht9.1 hs_207
              exact vp_callSi (va_runU (As := [.ref (d (2000 + i)), .int p0, .int 0]) (rest := []) ⟨hx, hb, hml, hown, hts⟩ (y_meets l dC dI q h0 d k z f hI (d (2000 + a9)) hit_78 (nI a9) (u.2 4 a9) (u.2 22 a9) (d (3000 + a9)) (d (4000 + a9)) rs_74 hs_79 n_75 g_76 (pR u a9) hpa_80 hps_81 h1_82 h6_83 hcb_84 hpl_85 (d (2000 + i)) hit_105 (nI i) (u.2 4 i) (u.2 22 i) (d (3000 + i)) (d (4000 + i)) rs_101 hs_106 n_102 g_103 (pR u i) hpa_107 hps_108 h1_109 h6_110 hcb_111 hpl_112 p0 0) (va_cwU 3 hts gX11_leastPair_X4_meets_u358X10 rfl rfl rfl rfl zu_97 ⟨Nat.le_trans (Nat.le_of_ble_eq_true rfl) hRf, Nat.le_trans (Nat.le_of_ble_eq_true rfl) hRl⟩) ⟨px_fb, va_recv hK hP (ci := 9) (q0 := kk_214) rfl hk_215, fun U hU hW => ⟨rfl, px_to hU hW hP hK hN hXN⟩⟩ rfl rfl hl.1 rfl (lv_room (Nat.le_of_ble_eq_true rfl)) dX11_leastPair_85 ⟨hRc, hRs⟩).run (fun r hw => kC r hw)
        ·
          refine lv_iconst (v := 1) hx hb dX11_leastPair_80 (by decide) ?_
          refine lv_goto (tgt := 85) hx hb dX11_leastPair_81 (by decide) ?_
          refine w_cut (X := fun R cells slots Q args => ∀ r : Int32, (r = (bP (mtP u a9 i p0 1))) → W p l e R s m args below meth c H locs cells slots Q (F0 m 88 ls (.int r :: []))) ?_ (fun kC => ?_)
          ·
            intro r hw
            obtain rfl : r = (bP (mtP u a9 i p0 1)) := hw
            refine lv_if_eq (tgt := 103) hx hb dX11_leastPair_88 (by decide) (fun c_312 => ?_) (fun c_312 => ?_)
            ·
              refine lv_iinc (v := (nI (i + 1))) (lv' := [(4, .int (nI (i + 1))), (3, .int (nI a9)), (0, .ref h0), (1, .int p0), (2, .int p1)]) hx hb dX11_leastPair_103 hl (k := 0) rfl (nI_1 i) (by decide) rfl (fun ls hl => ?_)
              refine lv_goto (tgt := 31) hx hb dX11_leastPair_106 (by decide) ?_
              exact ih (i + 1) ls (by omega) (by omega) ⟨by omega, (fun b hb1 hb2 => by rcases Nat.lt_succ_iff_lt_or_eq.mp hb2 with h9 | h9; exact hgl b hb1 h9; rw [h9]; exact fun h8 => bP_0 c_312 (by have h7 := h8.2; rw [(show swA p1 = 1 from if_pos c_120)] at h7; exact h7))⟩ (lv_sub hl [0, 1, 2, 3, 4] rfl)
            ·
              exact kx91 _ ls ⟨hai, hlt, ⟨bP_n c_65, by rw [(show swA p1 = 1 from if_pos c_120)]; exact bP_n c_312⟩, hg⟩ (lv_sub hl [0, 1, 2, 3, 4] rfl)
          ·
            rcases x_tag hit_78 with ht9 | ht9 | ht9 | ht9 | ht9 | ht9
            ·
              obtain ⟨nu_217, kd_218, cn_219, pa_220, fa_221, l_222, m_223, hs_224, hs_225, hs_226, hs_227⟩ := x_ifl hI ht9
              obtain ⟨kk_228, hk_229⟩ := pl_at ht9.1 hs_224
              exact vp_callSi (va_runU (As := [.ref (d (2000 + i)), .int p0, .int 1]) (rest := []) ⟨hx, hb, hml, hown, hts⟩ (y_meets l dC dI q h0 d k z f hI (d (2000 + a9)) hit_78 (nI a9) (u.2 4 a9) (u.2 22 a9) (d (3000 + a9)) (d (4000 + a9)) rs_74 hs_79 n_75 g_76 (pR u a9) hpa_80 hps_81 h1_82 h6_83 hcb_84 hpl_85 (d (2000 + i)) hit_105 (nI i) (u.2 4 i) (u.2 22 i) (d (3000 + i)) (d (4000 + i)) rs_101 hs_106 n_102 g_103 (pR u i) hpa_107 hps_108 h1_109 h6_110 hcb_111 hpl_112 p0 1) (va_cwU 3 hts gX11_leastPair_X4_meets_u358X2 rfl rfl rfl rfl zu_97 ⟨Nat.le_trans (Nat.le_of_ble_eq_true rfl) hRf, Nat.le_trans (Nat.le_of_ble_eq_true rfl) hRl⟩) ⟨px_fb, va_recv hK hP (ci := 2) (q0 := kk_228) rfl hk_229, fun U hU hW => ⟨rfl, px_to hU hW hP hK hN hXN⟩⟩ rfl rfl hl.1 rfl (lv_room (Nat.le_of_ble_eq_true rfl)) dX11_leastPair_85 ⟨hRc, hRs⟩).run (fun r hw => kC r hw)
            ·
              obtain ⟨nu_230, kd_231, cn_232, pa_233, fa_234, o_235, w_236, y_237, hs_238, hs_239, hs_240, hs_241, hq_242⟩ := x_ihd hI ht9
              obtain ⟨kk_243, hk_244⟩ := pl_at ht9.1 hs_238
              exact vp_callSi (va_runU (As := [.ref (d (2000 + i)), .int p0, .int 1]) (rest := []) ⟨hx, hb, hml, hown, hts⟩ (y_meets l dC dI q h0 d k z f hI (d (2000 + a9)) hit_78 (nI a9) (u.2 4 a9) (u.2 22 a9) (d (3000 + a9)) (d (4000 + a9)) rs_74 hs_79 n_75 g_76 (pR u a9) hpa_80 hps_81 h1_82 h6_83 hcb_84 hpl_85 (d (2000 + i)) hit_105 (nI i) (u.2 4 i) (u.2 22 i) (d (3000 + i)) (d (4000 + i)) rs_101 hs_106 n_102 g_103 (pR u i) hpa_107 hps_108 h1_109 h6_110 hcb_111 hpl_112 p0 1) (va_cwU 3 hts gX11_leastPair_X4_meets_u358X3 rfl rfl rfl rfl zu_97 ⟨Nat.le_trans (Nat.le_of_ble_eq_true rfl) hRf, Nat.le_trans (Nat.le_of_ble_eq_true rfl) hRl⟩) ⟨px_fb, va_recv hK hP (ci := 3) (q0 := kk_243) rfl hk_244, fun U hU hW => ⟨rfl, px_to hU hW hP hK hN hXN⟩⟩ rfl rfl hl.1 rfl (lv_room (Nat.le_of_ble_eq_true rfl)) dX11_leastPair_85 ⟨hRc, hRs⟩).run (fun r hw => kC r hw)
            ·
              obtain ⟨nu_245, kd_246, cn_247, pa_248, fa_249, o_250, y_251, hs_252, hs_253, hs_254, hs_255, hq_256⟩ := x_ino hI ht9
              obtain ⟨kk_257, hk_258⟩ := pl_at ht9.1 hs_252
              exact vp_callSi (va_runU (As := [.ref (d (2000 + i)), .int p0, .int 1]) (rest := []) ⟨hx, hb, hml, hown, hts⟩ (y_meets l dC dI q h0 d k z f hI (d (2000 + a9)) hit_78 (nI a9) (u.2 4 a9) (u.2 22 a9) (d (3000 + a9)) (d (4000 + a9)) rs_74 hs_79 n_75 g_76 (pR u a9) hpa_80 hps_81 h1_82 h6_83 hcb_84 hpl_85 (d (2000 + i)) hit_105 (nI i) (u.2 4 i) (u.2 22 i) (d (3000 + i)) (d (4000 + i)) rs_101 hs_106 n_102 g_103 (pR u i) hpa_107 hps_108 h1_109 h6_110 hcb_111 hpl_112 p0 1) (va_cwU 3 hts gX11_leastPair_X4_meets_u358X5 rfl rfl rfl rfl zu_97 ⟨Nat.le_trans (Nat.le_of_ble_eq_true rfl) hRf, Nat.le_trans (Nat.le_of_ble_eq_true rfl) hRl⟩) ⟨px_fb, va_recv hK hP (ci := 4) (q0 := kk_257) rfl hk_258, fun U hU hW => ⟨rfl, px_to hU hW hP hK hN hXN⟩⟩ rfl rfl hl.1 rfl (lv_room (Nat.le_of_ble_eq_true rfl)) dX11_leastPair_85 ⟨hRc, hRs⟩).run (fun r hw => kC r hw)
            ·
              obtain ⟨nu_259, kd_260, cn_261, pa_262, fa_263, b_264, pr_265, sp_266, dy_267, hs_268, hs_269, hs_270, hs_271, hq_272, hq_273, hq_274⟩ := x_ipd hI ht9
              obtain ⟨kk_275, hk_276⟩ := pl_at ht9.1 hs_268
              exact vp_callSi (va_runU (As := [.ref (d (2000 + i)), .int p0, .int 1]) (rest := []) ⟨hx, hb, hml, hown, hts⟩ (y_meets l dC dI q h0 d k z f hI (d (2000 + a9)) hit_78 (nI a9) (u.2 4 a9) (u.2 22 a9) (d (3000 + a9)) (d (4000 + a9)) rs_74 hs_79 n_75 g_76 (pR u a9) hpa_80 hps_81 h1_82 h6_83 hcb_84 hpl_85 (d (2000 + i)) hit_105 (nI i) (u.2 4 i) (u.2 22 i) (d (3000 + i)) (d (4000 + i)) rs_101 hs_106 n_102 g_103 (pR u i) hpa_107 hps_108 h1_109 h6_110 hcb_111 hpl_112 p0 1) (va_cwU 3 hts gX11_leastPair_X4_meets_u358X6 rfl rfl rfl rfl zu_97 ⟨Nat.le_trans (Nat.le_of_ble_eq_true rfl) hRf, Nat.le_trans (Nat.le_of_ble_eq_true rfl) hRl⟩) ⟨px_fb, va_recv hK hP (ci := 5) (q0 := kk_275) rfl hk_276, fun U hU hW => ⟨rfl, px_to hU hW hP hK hN hXN⟩⟩ rfl rfl hl.1 rfl (lv_room (Nat.le_of_ble_eq_true rfl)) dX11_leastPair_85 ⟨hRc, hRs⟩).run (fun r hw => kC r hw)
            ·
              obtain ⟨nu_277, kd_278, cn_279, pa_280, fa_281, ww_282, hh_283, sz_284, hs_285, hs_286, hs_287, hs_288, hq_289, hq_290, hq_291⟩ := x_ipi hI ht9
              obtain ⟨kk_292, hk_293⟩ := pl_at ht9.1 hs_285
              exact vp_callSi (va_runU (As := [.ref (d (2000 + i)), .int p0, .int 1]) (rest := []) ⟨hx, hb, hml, hown, hts⟩ (y_meets l dC dI q h0 d k z f hI (d (2000 + a9)) hit_78 (nI a9) (u.2 4 a9) (u.2 22 a9) (d (3000 + a9)) (d (4000 + a9)) rs_74 hs_79 n_75 g_76 (pR u a9) hpa_80 hps_81 h1_82 h6_83 hcb_84 hpl_85 (d (2000 + i)) hit_105 (nI i) (u.2 4 i) (u.2 22 i) (d (3000 + i)) (d (4000 + i)) rs_101 hs_106 n_102 g_103 (pR u i) hpa_107 hps_108 h1_109 h6_110 hcb_111 hpl_112 p0 1) (va_cwU 3 hts gX11_leastPair_X4_meets_u358X7 rfl rfl rfl rfl zu_97 ⟨Nat.le_trans (Nat.le_of_ble_eq_true rfl) hRf, Nat.le_trans (Nat.le_of_ble_eq_true rfl) hRl⟩) ⟨px_fb, va_recv hK hP (ci := 6) (q0 := kk_292) rfl hk_293, fun U hU hW => ⟨rfl, px_to hU hW hP hK hN hXN⟩⟩ rfl rfl hl.1 rfl (lv_room (Nat.le_of_ble_eq_true rfl)) dX11_leastPair_85 ⟨hRc, hRs⟩).run (fun r hw => kC r hw)
            ·
              obtain ⟨nu_294, kd_295, cn_296, pa_297, fa_298, l_299, co_300, wd_301, nm_302, hs_303, hs_304, hs_305, hs_306, hq_307, hq_308, hq_309⟩ := x_ist hI ht9
              obtain ⟨kk_310, hk_311⟩ := pl_at ht9.1 hs_303
              exact vp_callSi (va_runU (As := [.ref (d (2000 + i)), .int p0, .int 1]) (rest := []) ⟨hx, hb, hml, hown, hts⟩ (y_meets l dC dI q h0 d k z f hI (d (2000 + a9)) hit_78 (nI a9) (u.2 4 a9) (u.2 22 a9) (d (3000 + a9)) (d (4000 + a9)) rs_74 hs_79 n_75 g_76 (pR u a9) hpa_80 hps_81 h1_82 h6_83 hcb_84 hpl_85 (d (2000 + i)) hit_105 (nI i) (u.2 4 i) (u.2 22 i) (d (3000 + i)) (d (4000 + i)) rs_101 hs_106 n_102 g_103 (pR u i) hpa_107 hps_108 h1_109 h6_110 hcb_111 hpl_112 p0 1) (va_cwU 3 hts gX11_leastPair_X4_meets_u358X10 rfl rfl rfl rfl zu_97 ⟨Nat.le_trans (Nat.le_of_ble_eq_true rfl) hRf, Nat.le_trans (Nat.le_of_ble_eq_true rfl) hRl⟩) ⟨px_fb, va_recv hK hP (ci := 9) (q0 := kk_310) rfl hk_311, fun U hU hW => ⟨rfl, px_to hU hW hP hK hN hXN⟩⟩ rfl rfl hl.1 rfl (lv_room (Nat.le_of_ble_eq_true rfl)) dX11_leastPair_85 ⟨hRc, hRs⟩).run (fun r hw => kC r hw)
set_option maxHeartbeats 4000000 in
set_option maxRecDepth 100000 in
theorem y_lp_out {p : Program} {l : Launch} {e : Env} {R : Room} {s : State} {m : MethodId} {args : Array Value} {below : List Frame} {meth : Method} {c : Code} {Q : State → Prop} {cells slots : Nat} {dC : Nat → ClassId} {dI : Nat → Nat → Nat} {q : Nat → ClassId} {h0 : Nat} {d : Nat → Nat} {k : Nat → Int32} {z : gS} {f : xF} {H : Heap} {locs : List Loc} (hI : xI q h0 d k z f) (hx : p.tables.exec = Jvm.exec) (hb : c.code = cX11_leastPair) (hml : c.maxLocals = 5) (hts : ∀ w ∈ wsX11_leastPair, w.before args s = true) (hown : s.vm.findClass RX11 = some m.cls) (hN : NN s) (hXN : XN s) (hK : va_K (dC, dI) vwCl (xT q) s) (hRf : 3 ≤ R.frames) (hRl : 69 ≤ R.locals) (hRc : cells ≤ R.cells) (hRs : slots ≤ R.slots) (hP : va_P (dC, dI) vwCl (va_pl z.1 f) H) {u : mS} (hrp : rep q d u z f) (hk0 : k 0 = u.1 3) (hk1 : k 1 = u.1 28) (hk2 : k 2 = u.1 38) (hk3 : k 3 = u.1 39) {K : Nat} (hK8 : K ≤ 80) (eK : k 0 = nI K) (eKn : (u.1 3).toNatClampNeg = K) (hkB : kB u) {p0 p1 : Int32} (kx115 : ∀ (ls : Array Slot), (∀ a b, a < K → a < b → b < K → ¬ lpC u p0 p1 a b) → lv_has ls 5 [(0, .ref h0), (1, .int p0), (2, .int p1)] → W p l e R s m args below meth c H locs cells slots Q (F0 m 115 ls [])) (kx91 : ∀ (a9 : Nat) (b9 : Nat) (ls : Array Slot), lpM u p0 p1 K a9 b9 → lv_has ls 5 [(4, .int (nI b9)), (3, .int (nI a9)), (0, .ref h0), (1, .int p0), (2, .int p1)] → W p l e R s m args below meth c H locs cells slots Q (F0 m 91 ls [])) : ∀ (kk i : Nat) (ls : Array Slot), i ≤ K → K - i < kk → (∀ a b, a < i → a < b → b < K → ¬ lpC u p0 p1 a b) → lv_has ls 5 [(3, .int (nI i)), (0, .ref h0), (1, .int p0), (2, .int p1)] → W p l e R s m args below meth c H locs cells slots Q (F0 m 2 ls []) := by
  intro kk
  induction kk with
  | zero => intro i ls h1 h2; exact absurd h2 (Nat.not_lt_zero _)
  | succ kk ih =>
    intro i ls hi hkk hg hl
    refine lv_iload_n hx hb dX11_leastPair_2 rfl (lv_at hl 0 rfl) ?_
    refine lv_aload_n hx hb dX11_leastPair_3 rfl (lv_at hl 1 rfl) ?_
    obtain ⟨kk_1, hk_2⟩ := pl_at hI.2.1.1.1 hI.2.2.2.1.1
    refine va_get (D := (dC, dI)) (ci := 10) (v := .int (k 0)) (C := RX11) (T := TX11) (N := 9) hx hb hts zl_X11_leastPair_X11 hown hK hP kk_1 hk_2 rfl 3 (by decide) (hts (.fieldLink RX11 24 "PageOne" "itemCount" "I") (zat q_wsX11_leastPair k_wsX11_leastPair 115 rfl (by decide +kernel))) (fun _ h9 => h9) rfl dX11_leastPair_4 ?_
    refine lv_topi (fun y_3 ey_3 => ?_)
    obtain rfl : y_3 = (nI K) := ey_3.trans (eK)
    refine lv_icmp_ge (tgt := 115) hx hb dX11_leastPair_7 (by decide) (fun c_4 => ?_) (fun c_4 => ?_)
    ·
      have hie : i = K := lp_eq rfl (by omega) hi c_4
      exact kx115 ls (by rw [hie] at hg; exact hg) (lv_sub hl [1, 2, 3] rfl)
    ·
      have hlt : i < K := lp_lt rfl (by omega) hi c_4
      refine lv_aload_n hx hb dX11_leastPair_10 rfl (lv_at hl 1 rfl) ?_
      obtain ⟨kk_5, hk_6⟩ := pl_at hI.2.1.1.1 hI.2.2.2.1.1
      refine va_get (D := (dC, dI)) (ci := 10) (v := .ref (d 2)) (C := RX11) (T := TX11) (N := 9) hx hb hts zl_X11_leastPair_X11 hown hK hP kk_5 hk_6 rfl 2 (by decide) (hts (.fieldLink RX11 20 "PageOne" "items" "[LPageOne$Item;") (zat q_wsX11_leastPair k_wsX11_leastPair 114 rfl (by decide +kernel))) (fun _ h9 => h9) rfl dX11_leastPair_11 ?_
      refine lv_iload_n hx hb dX11_leastPair_14 rfl (lv_at hl 0 rfl) ?_
      obtain ⟨g_7, hs_8, hn_9, hg_10⟩ := x_itm hI
      obtain ⟨kk_11, hk_12⟩ := pl_at hI.2.1.2.2.2.1.1 hs_8
      refine va_aldq hx hb hK hP kk_11 3 hk_12 rfl (vp_in_nI (by omega) (by decide)) dX11_leastPair_15 ?_
      obtain ⟨b_13, hg_14⟩ := hn_9 ((nI i) : Int32).toNatClampNeg (by rw [eK, nI_clamp (by omega), nI_clamp (by omega)]; exact hlt)
      have ht_15 := hg_10 ((nI i) : Int32).toNatClampNeg (vlt (vp_in_nI (by omega) (by decide))) b_13 hg_14
      rw [hg_14]
      refine W.eq (g2 := F0 m 16 ls [.ref b_13]) rfl ?_
      have hb_16 := rI_at hrp.2.2.1 hs_8 (by rw [eKn]; exact hlt) (by rw [nI_clamp (by omega)] at hg_14; exact hg_14)
      subst hb_16
      obtain ⟨rs_17, n_18, g_19, fg_20, hit_21, hs_22, hpa_23, hps_24, h1_25, h6_26, hcb_27, hpl_28, hlg_29, hnn_30, hfa_31, hfs_32, hfe_33, hrs_34, hkt_35⟩ := it_all hI hrp.2.2.1 (by rw [eKn]; exact hlt)
      refine lv_iload_n hx hb dX11_leastPair_16 rfl (lv_at hl 2 rfl) ?_
      refine w_cut (X := fun R cells slots Q args => ∀ r : Int32, (r = (bP (onP u i p0))) → W p l e R s m args below meth c H locs cells slots Q (F0 m 20 ls (.int r :: []))) ?_ (fun kC => ?_)
      ·
        intro r hw
        obtain rfl : r = (bP (onP u i p0)) := hw
        refine lv_if_ne (tgt := 26) hx hb dX11_leastPair_20 (by decide) (fun c_131 => ?_) (fun c_131 => ?_)
        ·
          refine lv_iload_n hx hb dX11_leastPair_26 rfl (lv_at hl 0 rfl) ?_
          refine lv_iconst (v := 1) hx hb dX11_leastPair_27 (by decide) ?_
          refine lv_iadd hx hb dX11_leastPair_28 ?_
          refine lv_topi (fun y_132 ey_132 => ?_)
          obtain rfl : y_132 = (nI (i + 1)) := ey_132.trans (nI_1 i)
          refine lv_istore (lv' := [(4, .int (nI (i + 1))), (3, .int (nI i)), (0, .ref h0), (1, .int p0), (2, .int p1)]) hx hb dX11_leastPair_29 hl (by decide) rfl (fun ls hl => ?_)
          refine y_lp_in (K := K) (a9 := i) hI hx hb hml hts hown hN hXN hK hRf hRl hRc hRs hP hrp hk0 hk1 hk2 hk3 hK8 eK eKn hkB hlt (fun ls hno hl => ?_) (fun b9 ls hye hl => ?_) (K + 1) (i + 1) ls (by omega) (by omega) ⟨by omega, fun b h1 h2 => by omega⟩ (lv_sub hl [0, 1, 2, 3, 4] rfl)
          ·
            refine lv_iinc (v := (nI (i + 1))) (lv' := [(3, .int (nI (i + 1))), (0, .ref h0), (1, .int p0), (2, .int p1)]) hx hb dX11_leastPair_109 hl (k := 0) rfl (nI_1 i) (by decide) rfl (fun ls hl => ?_)
            refine lv_goto (tgt := 2) hx hb dX11_leastPair_112 (by decide) ?_
            exact ih (i + 1) ls (by omega) (by omega) (fun a b h1 h2 h3 => by rcases Nat.lt_succ_iff_lt_or_eq.mp h1 with h9 | h9; exact hg a b h9 h2 h3; subst h9; exact fun h8 => hno b h2 h3 h8.2) (lv_sub hl [0, 1, 2, 3] rfl)
          ·
            exact kx91 _ _ ls ⟨hye.1, hye.2.1, ⟨bP_n c_131, hye.2.2.1⟩, fun a b h1 h2 h3 => by rcases h3 with h3 | ⟨h3, h4⟩; exact hg a b h3 h1 h2; subst h3; exact fun h8 => hye.2.2.2 b h1 h4 h8.2⟩ (lv_sub hl [0, 1, 2, 3, 4] rfl)
        ·
          refine lv_goto (tgt := 109) hx hb dX11_leastPair_23 (by decide) ?_
          refine lv_iinc (v := (nI (i + 1))) (lv' := [(3, .int (nI (i + 1))), (0, .ref h0), (1, .int p0), (2, .int p1)]) hx hb dX11_leastPair_109 hl (k := 0) rfl (nI_1 i) (by decide) rfl (fun ls hl => ?_)
          refine lv_goto (tgt := 2) hx hb dX11_leastPair_112 (by decide) ?_
          exact ih (i + 1) ls (by omega) (by omega) (fun a b h1 h2 h3 => by rcases Nat.lt_succ_iff_lt_or_eq.mp h1 with h9 | h9; exact hg a b h9 h2 h3; subst h9; exact fun h8 => bP_0 c_131 h8.1) (lv_sub hl [0, 1, 2, 3] rfl)
      ·
        rcases x_tag hit_21 with ht9 | ht9 | ht9 | ht9 | ht9 | ht9
        ·
          obtain ⟨nu_36, kd_37, cn_38, pa_39, fa_40, l_41, m_42, hs_43, hs_44, hs_45, hs_46⟩ := x_ifl hI ht9
          obtain ⟨kk_47, hk_48⟩ := pl_at ht9.1 hs_43
          exact vp_callSi (va_runU (As := [.int p0]) (rest := []) ⟨hx, hb, hml, hown, hts⟩ (y_isOn l dC dI q h0 d k z f hI (d (2000 + i)) hit_21 (nI i) (u.2 4 i) (u.2 22 i) (d (3000 + i)) (d (4000 + i)) rs_17 hs_22 n_18 g_19 (pR u i) hpa_23 hps_24 h1_25 h6_26 hcb_27 hpl_28 p0) (va_cwU 1 hts gX11_leastPair_X4_isOn_u346X2 rfl rfl rfl rfl zu_98 ⟨Nat.le_trans (Nat.le_of_ble_eq_true rfl) hRf, Nat.le_trans (Nat.le_of_ble_eq_true rfl) hRl⟩) ⟨px_fb, va_recv hK hP (ci := 2) (q0 := kk_47) rfl hk_48, fun U hU hW => ⟨rfl, px_to hU hW hP hK hN hXN⟩⟩ rfl rfl hl.1 rfl (lv_room (Nat.le_of_ble_eq_true rfl)) dX11_leastPair_17 ⟨hRc, hRs⟩).run (fun r hw => kC r hw)
        ·
          obtain ⟨nu_49, kd_50, cn_51, pa_52, fa_53, o_54, w_55, y_56, hs_57, hs_58, hs_59, hs_60, hq_61⟩ := x_ihd hI ht9
          obtain ⟨kk_62, hk_63⟩ := pl_at ht9.1 hs_57
          exact vp_callSi (va_runU (As := [.int p0]) (rest := []) ⟨hx, hb, hml, hown, hts⟩ (y_isOn l dC dI q h0 d k z f hI (d (2000 + i)) hit_21 (nI i) (u.2 4 i) (u.2 22 i) (d (3000 + i)) (d (4000 + i)) rs_17 hs_22 n_18 g_19 (pR u i) hpa_23 hps_24 h1_25 h6_26 hcb_27 hpl_28 p0) (va_cwU 1 hts gX11_leastPair_X4_isOn_u346X3 rfl rfl rfl rfl zu_98 ⟨Nat.le_trans (Nat.le_of_ble_eq_true rfl) hRf, Nat.le_trans (Nat.le_of_ble_eq_true rfl) hRl⟩) ⟨px_fb, va_recv hK hP (ci := 3) (q0 := kk_62) rfl hk_63, fun U hU hW => ⟨rfl, px_to hU hW hP hK hN hXN⟩⟩ rfl rfl hl.1 rfl (lv_room (Nat.le_of_ble_eq_true rfl)) dX11_leastPair_17 ⟨hRc, hRs⟩).run (fun r hw => kC r hw)
        ·
          obtain ⟨nu_64, kd_65, cn_66, pa_67, fa_68, o_69, y_70, hs_71, hs_72, hs_73, hs_74, hq_75⟩ := x_ino hI ht9
          obtain ⟨kk_76, hk_77⟩ := pl_at ht9.1 hs_71
          exact vp_callSi (va_runU (As := [.int p0]) (rest := []) ⟨hx, hb, hml, hown, hts⟩ (y_isOn l dC dI q h0 d k z f hI (d (2000 + i)) hit_21 (nI i) (u.2 4 i) (u.2 22 i) (d (3000 + i)) (d (4000 + i)) rs_17 hs_22 n_18 g_19 (pR u i) hpa_23 hps_24 h1_25 h6_26 hcb_27 hpl_28 p0) (va_cwU 1 hts gX11_leastPair_X4_isOn_u346X5 rfl rfl rfl rfl zu_98 ⟨Nat.le_trans (Nat.le_of_ble_eq_true rfl) hRf, Nat.le_trans (Nat.le_of_ble_eq_true rfl) hRl⟩) ⟨px_fb, va_recv hK hP (ci := 4) (q0 := kk_76) rfl hk_77, fun U hU hW => ⟨rfl, px_to hU hW hP hK hN hXN⟩⟩ rfl rfl hl.1 rfl (lv_room (Nat.le_of_ble_eq_true rfl)) dX11_leastPair_17 ⟨hRc, hRs⟩).run (fun r hw => kC r hw)
        ·
          obtain ⟨nu_78, kd_79, cn_80, pa_81, fa_82, b_83, pr_84, sp_85, dy_86, hs_87, hs_88, hs_89, hs_90, hq_91, hq_92, hq_93⟩ := x_ipd hI ht9
          obtain ⟨kk_94, hk_95⟩ := pl_at ht9.1 hs_87
          exact vp_callSi (va_runU (As := [.int p0]) (rest := []) ⟨hx, hb, hml, hown, hts⟩ (y_isOn l dC dI q h0 d k z f hI (d (2000 + i)) hit_21 (nI i) (u.2 4 i) (u.2 22 i) (d (3000 + i)) (d (4000 + i)) rs_17 hs_22 n_18 g_19 (pR u i) hpa_23 hps_24 h1_25 h6_26 hcb_27 hpl_28 p0) (va_cwU 1 hts gX11_leastPair_X4_isOn_u346X6 rfl rfl rfl rfl zu_98 ⟨Nat.le_trans (Nat.le_of_ble_eq_true rfl) hRf, Nat.le_trans (Nat.le_of_ble_eq_true rfl) hRl⟩) ⟨px_fb, va_recv hK hP (ci := 5) (q0 := kk_94) rfl hk_95, fun U hU hW => ⟨rfl, px_to hU hW hP hK hN hXN⟩⟩ rfl rfl hl.1 rfl (lv_room (Nat.le_of_ble_eq_true rfl)) dX11_leastPair_17 ⟨hRc, hRs⟩).run (fun r hw => kC r hw)
        ·
          obtain ⟨nu_96, kd_97, cn_98, pa_99, fa_100, ww_101, hh_102, sz_103, hs_104, hs_105, hs_106, hs_107, hq_108, hq_109, hq_110⟩ := x_ipi hI ht9
          obtain ⟨kk_111, hk_112⟩ := pl_at ht9.1 hs_104
          exact vp_callSi (va_runU (As := [.int p0]) (rest := []) ⟨hx, hb, hml, hown, hts⟩ (y_isOn l dC dI q h0 d k z f hI (d (2000 + i)) hit_21 (nI i) (u.2 4 i) (u.2 22 i) (d (3000 + i)) (d (4000 + i)) rs_17 hs_22 n_18 g_19 (pR u i) hpa_23 hps_24 h1_25 h6_26 hcb_27 hpl_28 p0) (va_cwU 1 hts gX11_leastPair_X4_isOn_u346X7 rfl rfl rfl rfl zu_98 ⟨Nat.le_trans (Nat.le_of_ble_eq_true rfl) hRf, Nat.le_trans (Nat.le_of_ble_eq_true rfl) hRl⟩) ⟨px_fb, va_recv hK hP (ci := 6) (q0 := kk_111) rfl hk_112, fun U hU hW => ⟨rfl, px_to hU hW hP hK hN hXN⟩⟩ rfl rfl hl.1 rfl (lv_room (Nat.le_of_ble_eq_true rfl)) dX11_leastPair_17 ⟨hRc, hRs⟩).run (fun r hw => kC r hw)
        ·
          obtain ⟨nu_113, kd_114, cn_115, pa_116, fa_117, l_118, co_119, wd_120, nm_121, hs_122, hs_123, hs_124, hs_125, hq_126, hq_127, hq_128⟩ := x_ist hI ht9
          obtain ⟨kk_129, hk_130⟩ := pl_at ht9.1 hs_122
          exact vp_callSi (va_runU (As := [.int p0]) (rest := []) ⟨hx, hb, hml, hown, hts⟩ (y_isOn l dC dI q h0 d k z f hI (d (2000 + i)) hit_21 (nI i) (u.2 4 i) (u.2 22 i) (d (3000 + i)) (d (4000 + i)) rs_17 hs_22 n_18 g_19 (pR u i) hpa_23 hps_24 h1_25 h6_26 hcb_27 hpl_28 p0) (va_cwU 1 hts gX11_leastPair_X4_isOn_u346X10 rfl rfl rfl rfl zu_98 ⟨Nat.le_trans (Nat.le_of_ble_eq_true rfl) hRf, Nat.le_trans (Nat.le_of_ble_eq_true rfl) hRl⟩) ⟨px_fb, va_recv hK hP (ci := 9) (q0 := kk_129) rfl hk_130, fun U hU hW => ⟨rfl, px_to hU hW hP hK hN hXN⟩⟩ rfl rfl hl.1 rfl (lv_room (Nat.le_of_ble_eq_true rfl)) dX11_leastPair_17 ⟨hRc, hRs⟩).run (fun r hw => kC r hw)
/-- what leastPair answers -/
def lpP (q : Nat → ClassId) (h0 : Nat) (d : Nat → Nat) (k : Nat → Int32) (z : gS) (f : xF) (u : mS) (p kd : Int32) (r : Option Nat) (w : xU) : Prop := (r = none ∧ w = (k, z, f) ∧ ∀ a b, a < b → b < (u.1 3).toNatClampNeg → ¬ lpC u p kd a b) ∨ (∃ c a b, r = some c ∧ w.1 = k ∧ zE z w.2.1 ∧ xI q h0 d k w.2.1 w.2.2 ∧ rep q d u w.2.1 w.2.2 ∧ w.2.2 (d 3) = f (d 3) ∧ tg w.2.1 c 24 ∧ w.2.2 c = .inr (1, [.int kd, .int (nI a), .int (nI b)]) ∧ lpM u p kd (u.1 3).toNatClampNeg a b)
set_option maxHeartbeats 4000000 in
set_option maxRecDepth 100000 in
theorem y_leastPair (l : Launch) (dC : Nat → ClassId) (dI : Nat → Nat → Nat) (q : Nat → ClassId) (h0 : Nat) (d : Nat → Nat) (k : Nat → Int32) (z : gS) (f : xF) (hI : xI q h0 d k z f) (p0 p1 : Int32) (u : mS) (hrp : rep q d u z f) (hk0 : k 0 = u.1 3) (hk1 : k 1 = u.1 28) (hk2 : k 2 = u.1 38) (hk3 : k 3 = u.1 39) (hkB : kB u) (sz : Nat) : Met l yX11_leastPair wsX11_leastPair ({ frames := 3, cells := 1, slots := 3, locals := 69 }) (va_Pc [.ref h0, .int p0, .int p1] (fun U => U.heap.size = sz ∧ PX dC dI (va_pl z.1 f) (xT q) U ∧ va_D (fun _ => True) (va_pl z.1 f))) (va_Qq (fun (r : Option Nat) (w : xU) => lpP q h0 d k z f u p0 p1 r w) (fun (w : xU) t => va_P (dC, dI) vwCl (va_pl w.2.1.1 w.2.2) t.heap ∧ va_D (va_A (va_pl z.1 f) sz) (va_pl w.2.1.1 w.2.2)) (va_A (va_pl z.1 f) sz)) 1 3 (va_A (va_pl z.1 f) sz) := by
  refine Met.ofW (cc := cX11_leastPair) (maxL := 5) (ret := (some (.object "PageOne$Breach"))) (by decide) rfl ?_
  intro p e s m args below meth c s₁ B hml hv
  obtain ⟨rfl, hsz, ⟨⟨hP, hK, hN⟩, hXN⟩, hD0⟩ := hv
  have hx := B.exec
  have hb := B.bytes
  have hr := B.returns
  have hts := atoms_spec (ws := wsX11_leastPair) B.pre
  have hown : s.vm.findClass RX11 = some m.cls := findClass_of_methodNamed B.named
  have hlocks := B.notSynchronized
  subst hsz
  have hD := hD0.self (sz := s.heap.size)
  generalize hAe : va_A (va_pl z.1 f) s.heap.size = A at hD ⊢
  have hA : ∀ q : Nat, s.heap.size ≤ q → A q := fun q h => by rw [← hAe]; exact Or.inr h
  have hS : va_S A s.heap s.heap [] := va_S.rf
  have hl := lv_entry ([.ref h0, .int p0, .int p1]) (n := 5) (Nat.le_of_ble_eq_true rfl)
  rw [lg_entry_eq]
  generalize (lg_sl ([.ref h0, .int p0, .int p1]) ++ List.replicate (5 - (lg_sl ([.ref h0, .int p0, .int p1])).length) Slot.unset).toArray = ls at hl ⊢
  have hl : lv_has ls 5 [(0, .ref h0), (1, .int p0), (2, .int p1)] := hl
  have h3m : f (d 3) = f (d 3) := rfl
  refine lv_iconst (v := 0) hx hb dX11_leastPair_0 (by decide) ?_
  refine lv_istore_n (lv' := [(3, .int 0), (0, .ref h0), (1, .int p0), (2, .int p1)]) hx hb dX11_leastPair_1 rfl hl (by decide) rfl (fun ls hl => ?_)
  obtain ⟨K, hK8, -, eK⟩ := exN hI.1.1 (by decide)
  have h80 : (80 : Int32).toInt = 80 := rfl
  have eKn : (u.1 3).toNatClampNeg = K := by rw [← hk0, eK, nI_clamp (by omega)]
  refine y_lp_out (K := K) hI hx hb hml hts hown hN hXN hK (Nat.le_of_ble_eq_true rfl) (Nat.le_of_ble_eq_true rfl) (Nat.le_of_ble_eq_true rfl) (Nat.le_of_ble_eq_true rfl) hP hrp hk0 hk1 hk2 hk3 (by omega) eK eKn hkB (fun ls hno hl => ?_) (fun a9 b9 ls hye hl => ?_) (K + 1) 0 ls (Nat.zero_le _) (by omega) (fun a b h1 => absurd h1 (Nat.not_lt_zero _)) (lv_sub hl [0, 1, 2, 3] rfl)
  ·
    refine lv_null hx hb dX11_leastPair_115 ?_
    refine W.widen (k := 1) (n := 3) (Nat.le_of_ble_eq_true rfl) (Nat.le_of_ble_eq_true rfl) ?_
    exact W.aret (v := .null) hx hb hr (Or.inl ⟨_, rfl⟩) (Or.inl rfl) (fun t ht hW => ⟨⟨none, (k, z, f), rfl, (Or.inl ⟨rfl, rfl, fun a b h1 h2 => hno a b (by omega) h1 (by omega)⟩), by rw [ht]; exact hP, hD⟩, hS.F ht⟩) hS.2.2 dX11_leastPair_116
  ·
    refine va_new (ci := 1) (fs := [.int 0, .int 0, .int 0]) (C := RX1) (T := TX1) (N := 3) hx hb hts zl_X11_leastPair_X1 tyX1 tyX1_ok hown (hts (.classLink RX11 202 RX1) (zat q_wsX11_leastPair k_wsX11_leastPair 741 rfl (by decide +kernel))) (hts (.instantiable RX1 3) (zat q_wsX11_leastPair k_wsX11_leastPair 742 rfl (by decide +kernel))) (hts (.initialized RX1) (zat q_wsX11_leastPair k_wsX11_leastPair 66 rfl (by decide +kernel))) hK hP hD hS hA rfl nwX1 (Nat.le_of_ble_eq_true rfl) (Nat.le_of_ble_eq_true rfl) dX11_leastPair_91 (fun q_1 H hPn hDn hS => ?_)
    have hP := vaP_l hPn
    refine W.widen (k := 1) (n := 3) (Nat.le_of_ble_eq_true rfl) (Nat.le_of_ble_eq_true rfl) ?_
    refine lv_dup hx hb dX11_leastPair_94 rfl ?_
    refine lv_iload_n hx hb dX11_leastPair_95 rfl (lv_at hl 4 rfl) ?_
    refine lv_iload_n hx hb dX11_leastPair_96 rfl (lv_at hl 1 rfl) ?_
    refine lv_iload hx hb dX11_leastPair_97 (lv_at hl 0 rfl) ?_
    have hPc := vaP_r hPn
    have hDc := vaD_r hDn
    have hFc := fr_part hDn hS hA
    refine va_callv (va_runI (As := [.int p1, .int (nI a9), .int (nI b9)]) (rest := [.ref q_1]) ⟨hx, hb, hml, hown, hts⟩ (x_Breach l dC dI q_1 p1 (nI a9) (nI b9) H.size) (cwI 3 hts gX11_leastPair_X1_init rfl rfl rfl (hts (.initialized RX1) (zat q_wsX11_leastPair k_wsX11_leastPair 66 rfl (by decide +kernel))) (hts (.methodLink RX11 353 yX1_init) (zat q_wsX11_leastPair k_wsX11_leastPair 743 rfl (by decide +kernel))) (hts (.instanceMethod yX1_init) (zat q_wsX11_leastPair k_wsX11_leastPair 744 rfl (by decide +kernel))) rfl zh_X1_init_99 ⟨Nat.le_of_ble_eq_true rfl, Nat.le_of_ble_eq_true rfl⟩) ⟨gw_fb, fun U hU hW => ⟨rfl, by rw [hU], pw_to hU hW hPc (hK.sub (tys' := []) [] rfl) hN, hDc.weaken (fun _ _ _ _ => trivial)⟩⟩ rfl rfl hl.1 rfl (lv_room (Nat.le_of_ble_eq_true rfl)) dX11_leastPair_99 ⟨Nat.le_of_ble_eq_true rfl, Nat.le_of_ble_eq_true rfl⟩) hS (fun q _ h => hFc q h) hFc (fun u9 t H1 locs ht hvm hw hB hz1 hk1 hS => ?_)
    obtain ⟨hP1, hD1⟩ := hB
    rw [ht] at hP1
    obtain ⟨hP, hD⟩ := va_joinQ (X := [(q_1, .inr (1, [.int 0, .int 0, .int 0]))]) (cx := [(q_1, .inr (1, [.int 0, .int 0, .int 0]))]) (wr := []) (w1 := [(q_1, .inr (1, [.int p1, .int (nI a9), .int (nI b9)]))]) (pl := va_pl z.1 f) (vaP_swap hPn) (vaD_rotR hDn) [0] [] rfl rfl rfl (fun i hi => absurd hi List.not_mem_nil) hk1 hFc hP1 hD1
    generalize H1 = H at hP hS ⊢
    obtain ⟨hnm_2, hP, hD⟩ := pushC hP hD
    obtain ⟨z_3, ez_3⟩ : ∃ y : gS, y = pz z q_1 (24, 0, []) := ⟨_, rfl⟩
    obtain ⟨f_4, ef_4⟩ : ∃ y : xF, y = va_up f q_1 (.inr (1, [.int p1, .int (nI a9), .int (nI b9)])) := ⟨_, rfl⟩
    have hE_5 : zE z z_3 := by rw [ez_3]; exact pz_E hnm_2 _
    have hI : xI q h0 d k z_3 f_4 := by rw [ez_3, ef_4]; exact x_push hI hnm_2 (Or.inr (by decide : (15 : Nat) < 24)) (cO_24 (by rw [pz_s]))
    rw [show z.1 ++ [q_1] = z_3.1 from by rw [ez_3]; rfl, ← ef_4] at hP hD
    have ht_6 : tg z_3 q_1 24 := by rw [ez_3]; exact pz_t _ _ _
    have hEz : zE z z_3 := zE_tr (zE_rf z) hE_5
    have h3m : f_4 (d 3) = f (d 3) := by rw [ef_4]; exact (up_o (fun e9 => hnm_2 (by rw [← e9]; exact hrp.2.2.2.2.2.2.2.1.1.1))).trans h3m
    have hrp_7 : rep q d u z_3 f_4 := by rw [ez_3, ef_4]; exact rep_grow hrp (pz_E hnm_2 _) (oK_push (fun _ _ => rfl) (zE_rf _) hnm_2)
    refine W.eq (g2 := F0 m 102 ls [.ref q_1]) rfl ?_
    have hbc_8 : f_4 q_1 = .inr (1, [.int p1, .int (nI a9), .int (nI b9)]) := by rw [ef_4]; exact up_s
    exact W.aret (v := .ref q_1) hx hb hr (Or.inl ⟨_, rfl⟩) (Or.inr ⟨_, rfl⟩) (fun t ht hW => ⟨⟨(some q_1), (k, z_3, f_4), rfl, (Or.inr ⟨q_1, a9, b9, rfl, rfl, hEz, hI, hrp_7, h3m, ht_6, hbc_8, by rw [eKn]; exact hye⟩), by rw [ht]; exact hP, hD⟩, hS.F ht⟩) hS.2.2 dX11_leastPair_102
