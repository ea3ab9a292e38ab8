set_option maxHeartbeats 4000000 in
set_option maxRecDepth 100000 in
theorem y_wdi_l {p : Program} {l : Launch} {e : Env} {R : Room} {s : State} {m : MethodId} {args : Array Value} {below : List Frame} {meth : Method} {c : Code} {Q : State → Prop} {cells slots : Nat} {dC : Nat → ClassId} {dI : Nat → Nat → Nat} {q : Nat → ClassId} {h0 : Nat} {d : Nat → Nat} {k : Nat → Int32} {z : gS} {f0 : xF} {u : mS} (hk0 : k 0 = u.1 3) {i0 : Nat} {p0 p1 : Int32} (hi0 : i0 < (u.1 3).toNatClampNeg) {A : Nat → Prop} {H0 : Heap} (hx : p.tables.exec = Jvm.exec) (hb : c.code = cX11_writeDownItem) (hml : c.maxLocals = 5) (hts : ∀ w ∈ wsX11_writeDownItem, w.before args s = true) (hown : s.vm.findClass RX11 = some m.cls) (hN : NN s) (hXN : XN s) (hK : va_K (dC, dI) vwCl (xT q) s) (hRf : 1 ≤ R.frames) (hRl : 23 ≤ R.locals) (hRc : cells ≤ R.cells) (hRs : slots ≤ R.slots) (hA : ∀ q : Nat, H0.size ≤ q → A q) (kx40 : ∀ (f : xF) (H : Heap) (locs : List Loc) (ls : Array Slot), (rep q d (wdF u i0 p0 p1 5) z f ∧ xPl q d z f p0 ∧ f (d 3) = f0 (d 3)) → xI q h0 d k z f → va_P (dC, dI) vwCl (va_pl z.1 f) H → va_D A (va_pl z.1 f) → va_S A H0 H locs → lv_has ls 5 [(0, .ref h0), (1, .ref (d (2000 + i0))), (2, .int p0), (3, .int p1)] → W p l e R s m args below meth c H locs cells slots Q (F0 m 40 ls [])) : ∀ (kk i : Nat) (f : xF) (H : Heap) (locs : List Loc) (ls : Array Slot), i ≤ 5 → 5 - i < kk → (rep q d (wdF u i0 p0 p1 i) z f ∧ xPl q d z f p0 ∧ f (d 3) = f0 (d 3)) → xI q h0 d k z f → va_P (dC, dI) vwCl (va_pl z.1 f) H → va_D A (va_pl z.1 f) → va_S A H0 H locs → lv_has ls 5 [(4, .int (nI i)), (0, .ref h0), (1, .ref (d (2000 + i0))), (2, .int p0), (3, .int p1)] → W p l e R s m args below meth c H locs cells slots Q (F0 m 13 ls []) := by
  intro kk
  induction kk with
  | zero => intro i f H locs ls h1 h2; exact absurd h2 (Nat.not_lt_zero _)
  | succ kk ih =>
    intro i f H locs ls hi hkk hg hI hP hD hS hl
    obtain ⟨ui, eui⟩ : ∃ y : mS, y = wdF u i0 p0 p1 i := ⟨_, rfl⟩
    have hrpi : rep q d ui z f := by rw [eui]; exact hg.1
    have hii : i0 < (ui.1 3).toNatClampNeg := by rw [eui, wdF_1]; exact hi0
    obtain ⟨rs_1, n_2, g_3, fg_4, hit_5, hs_6, hpa_7, hps_8, h1_9, h6_10, hcb_11, hpl_12, hlg_13, hnn_14, hfa_15, hfs_16, hfe_17, hrs_18, hkt_19⟩ := it_all hI hrpi.2.2.1 hii
    have hnb : bw (ui.1 3) 0 80 = true := by rw [eui, wdF_1, ← hk0]; exact hI.1.1
    refine lv_iload hx hb dX11_writeDownItem_13 (lv_at hl 0 rfl) ?_
    refine lv_iconst (v := 5) hx hb dX11_writeDownItem_15 (by decide) ?_
    refine lv_icmp_ge (tgt := 40) hx hb dX11_writeDownItem_16 (by decide) (fun c_20 => ?_) (fun c_20 => ?_)
    ·
      have hie : i = 5 := lp_eq rfl (by decide) hi c_20
      exact kx40 _ _ _ ls (by rw [hie] at hg; exact hg) hI hP hD hS (lv_sub hl [1, 2, 3, 4] rfl)
    ·
      have hlt : i < 5 := lp_lt rfl (by decide) hi c_20
      refine lv_aload_n hx hb dX11_writeDownItem_19 rfl (lv_at hl 2 rfl) ?_
      obtain ⟨kk_21, hk_22⟩ := pl_at hit_5.1 hs_6
      refine w_then (F0 m 23 ls [.ref (d (4000 + i0))]) (fun hgo => ?_) ?_
      ·
        rcases x_tag hit_5 with ht9 | ht9 | ht9 | ht9 | ht9 | ht9
        ·
          rw [ht9.2] at hk_22
          exact va_get (D := (dC, dI)) (ci := 2) (v := .ref (d (4000 + i0))) (C := RX2) (T := TX2) (N := 7) hx hb hts (by decide +kernel) hown hK hP kk_21 hk_22 rfl 4 (by decide) (hts (.fieldLink RX11 382 "PageOne$Item" "first" "[I") (by decide +kernel)) (fun _ h9 => h9) rfl dX11_writeDownItem_20 hgo
        ·
          rw [ht9.2] at hk_22
          exact va_get (D := (dC, dI)) (ci := 3) (v := .ref (d (4000 + i0))) (C := RX3) (T := TX3) (N := 8) hx hb hts (by decide +kernel) hown hK hP kk_21 hk_22 rfl 4 (by decide) (hts (.fieldLink RX11 382 "PageOne$Item" "first" "[I") (by decide +kernel)) (fun _ h9 => h9) rfl dX11_writeDownItem_20 hgo
        ·
          rw [ht9.2] at hk_22
          exact va_get (D := (dC, dI)) (ci := 4) (v := .ref (d (4000 + i0))) (C := RX5) (T := TX5) (N := 7) hx hb hts (by decide +kernel) hown hK hP kk_21 hk_22 rfl 4 (by decide) (hts (.fieldLink RX11 382 "PageOne$Item" "first" "[I") (by decide +kernel)) (fun _ h9 => h9) rfl dX11_writeDownItem_20 hgo
        ·
          rw [ht9.2] at hk_22
          exact va_get (D := (dC, dI)) (ci := 5) (v := .ref (d (4000 + i0))) (C := RX6) (T := TX6) (N := 9) hx hb hts (by decide +kernel) hown hK hP kk_21 hk_22 rfl 4 (by decide) (hts (.fieldLink RX11 382 "PageOne$Item" "first" "[I") (by decide +kernel)) (fun _ h9 => h9) rfl dX11_writeDownItem_20 hgo
        ·
          rw [ht9.2] at hk_22
          exact va_get (D := (dC, dI)) (ci := 6) (v := .ref (d (4000 + i0))) (C := RX7) (T := TX7) (N := 8) hx hb hts (by decide +kernel) hown hK hP kk_21 hk_22 rfl 4 (by decide) (hts (.fieldLink RX11 382 "PageOne$Item" "first" "[I") (by decide +kernel)) (fun _ h9 => h9) rfl dX11_writeDownItem_20 hgo
        ·
          rw [ht9.2] at hk_22
          exact va_get (D := (dC, dI)) (ci := 9) (v := .ref (d (4000 + i0))) (C := RX10) (T := TX10) (N := 9) hx hb hts (by decide +kernel) hown hK hP kk_21 hk_22 rfl 4 (by decide) (hts (.fieldLink RX11 382 "PageOne$Item" "first" "[I") (by decide +kernel)) (fun _ h9 => h9) rfl dX11_writeDownItem_20 hgo
      ·
        refine lv_iload hx hb dX11_writeDownItem_23 (lv_at hl 0 rfl) ?_
        refine lv_aload_n hx hb dX11_writeDownItem_25 rfl (lv_at hl 1 rfl) ?_
        refine lv_iload_n hx hb dX11_writeDownItem_26 rfl (lv_at hl 3 rfl) ?_
        refine lv_iload_n hx hb dX11_writeDownItem_27 rfl (lv_at hl 4 rfl) ?_
        refine lv_iload hx hb dX11_writeDownItem_28 (lv_at hl 0 rfl) ?_
        obtain ⟨kk_23, hk_24⟩ := pl_at hI.2.1.1.1 hI.2.2.2.1.1
        refine vp_callSi (va_runV (As := [.int p0, .int p1, .int (nI i)]) (rest := [.int (nI i), .ref (d (4000 + i0))]) ⟨hx, hb, hml, hown, hts⟩ (y_plateFact l dC dI q h0 d k z f hI p0 p1 (nI i) hg.2.1 ui hrpi) (cwV 3 hts gX11_writeDownItem_X11_plateFact rfl rfl rfl (by decide +kernel) ⟨Nat.le_trans (Nat.le_of_ble_eq_true rfl) hRf, Nat.le_trans (Nat.le_of_ble_eq_true rfl) hRl⟩) ⟨px_fb, va_recv hK hP (ci := 10) (q0 := kk_23) rfl hk_24, fun U hU hW => ⟨rfl, px_to hU hW hP hK hN hXN⟩⟩ rfl rfl hl.1 rfl (lv_room (Nat.le_of_ble_eq_true rfl)) dX11_writeDownItem_30 ⟨hRc, hRs⟩).run (fun r hw => ?_)
        generalize r = zr_25 at hw ⊢
        have hzr_25 := hw
        obtain ⟨kk_26, hk_27⟩ := pl_at hfa_15.1 hfs_16
        have hD0 := hD
        refine va_iast hx hb hK hP hD hS kk_26 0 hk_27 rfl (vp_in_nI hlt (by decide)) dX11_writeDownItem_33 (fun H locs hP hD hS => ?_)
        rw [pl_set hD0 hfa_15.1 hfs_16 hk_27] at hP hD
        obtain ⟨f_28, ef_28⟩ : ∃ y : xF, y = va_up f (d (4000 + i0)) (aI (q 0) 5 (upd fg_4 ((nI i) : Int32).toNatClampNeg zr_25)) := ⟨_, rfl⟩
        have hI : xI q h0 d k z f_28 := by rw [ef_28]; exact x_up hI hfa_15 (by decide) (cO_17 hfa_15.2 ⟨_, rfl⟩)
        have hP : va_P (dC, dI) vwCl (va_pl z.1 f_28) H := by rw [ef_28]; exact hP
        have hD : va_D A (va_pl z.1 f_28) := by rw [ef_28]; exact hD
        have hg2 : rep q d (wdF u i0 p0 p1 (i + 1)) z f_28 ∧ xPl q d z f_28 p0 ∧ f_28 (d 3) = f0 (d 3) := ⟨by have h9 := rep_first (t := i) hrpi hnb hii hlt (mPF u p0 p1 (nI i)) hfs_16; rw [eui] at h9; show rep q d (mst (wdF u i0 p0 p1 i) 47 (nI (5 * i0 + i)) (mPF u p0 p1 (nI i))) z f_28; rw [ef_28, nI_clamp (by omega), hzr_25, eui, mPF_wd]; exact h9, by rw [ef_28]; exact xPl_up hg.2.1 (tg_ne hI.2.1.2.2.1 hfa_15 (by decide)), by rw [ef_28]; exact (up_o (tg_ne hI.2.1.2.2.2.2.1 hfa_15 (by decide))).trans hg.2.2⟩
        refine lv_iinc (v := (nI (i + 1))) (lv' := [(4, .int (nI (i + 1))), (0, .ref h0), (1, .ref (d (2000 + i0))), (2, .int p0), (3, .int p1)]) hx hb dX11_writeDownItem_34 hl (k := 0) rfl (nI_1 i) (by decide) rfl (fun ls hl => ?_)
        refine lv_goto (tgt := 13) hx hb dX11_writeDownItem_37 (by decide) ?_
        exact ih (i + 1) _ _ _ ls (by omega) (by omega) hg2 hI hP hD hS (lv_sub hl [0, 1, 2, 3, 4] rfl)
set_option maxHeartbeats 4000000 in
set_option maxRecDepth 100000 in
theorem y_writeDownItem (l : Launch) (dC : Nat → ClassId) (dI : Nat → Nat → Nat) (q : Nat → ClassId) (h0 : Nat) (d : Nat → Nat) (k : Nat → Int32) (z : gS) (f : xF) (hI : xI q h0 d k z f) (p0 p1 : Int32) (u : mS) (hrp : rep q d u z f) (hk0 : k 0 = u.1 3) (hk1 : k 1 = u.1 28) (hk2 : k 2 = u.1 38) (hk3 : k 3 = u.1 39) (hpl : xPl q d z f p0) (i0 : Nat) (hi0 : i0 < (u.1 3).toNatClampNeg) (sz : Nat) : Met l yX11_writeDownItem wsX11_writeDownItem ({ frames := 1, cells := 0, slots := 0, locals := 23 }) (va_Pc [.ref h0, .ref (d (2000 + i0)), .int p0, .int p1] (fun U => U.heap.size = sz ∧ PX dC dI (va_pl z.1 f) (xT q) U ∧ va_D (fun _ => True) (va_pl z.1 f))) (va_Qv (fun (w : xU) => w.1 = k ∧ w.2.1 = z ∧ xI q h0 d k z w.2.2 ∧ rep q d (wdU u i0 p0 p1) z w.2.2 ∧ w.2.2 (d 3) = f (d 3)) (fun (w : xU) t => va_P (dC, dI) vwCl (va_pl w.2.1.1 w.2.2) t.heap ∧ va_D (va_A (va_pl z.1 f) sz) (va_pl w.2.1.1 w.2.2)) (va_A (va_pl z.1 f) sz)) 0 0 (va_A (va_pl z.1 f) sz) := by
  refine Met.ofW (cc := cX11_writeDownItem) (maxL := 5) (ret := none) (by decide) rfl ?_
  intro p e s m args below meth c s₁ B hml hv
  obtain ⟨rfl, hsz, ⟨⟨hP, hK, hN⟩, hXN⟩, hD0⟩ := hv
  have hx := B.exec
  have hb := B.bytes
  have hr := B.returns
  have hts := atoms_spec (ws := wsX11_writeDownItem) B.pre
  have hown : s.vm.findClass RX11 = some m.cls := findClass_of_methodNamed B.named
  have hlocks := B.notSynchronized
  subst hsz
  have hD := hD0.self (sz := s.heap.size)
  generalize hAe : va_A (va_pl z.1 f) s.heap.size = A at hD ⊢
  have hA : ∀ q : Nat, s.heap.size ≤ q → A q := fun q h => by rw [← hAe]; exact Or.inr h
  have hS : va_S A s.heap s.heap [] := va_S.rf
  have hl := lv_entry ([.ref h0, .ref (d (2000 + i0)), .int p0, .int p1]) (n := 5) (Nat.le_of_ble_eq_true rfl)
  rw [lg_entry_eq]
  generalize (lg_sl ([.ref h0, .ref (d (2000 + i0)), .int p0, .int p1]) ++ List.replicate (5 - (lg_sl ([.ref h0, .ref (d (2000 + i0)), .int p0, .int p1])).length) Slot.unset).toArray = ls at hl ⊢
  have hl : lv_has ls 5 [(0, .ref h0), (1, .ref (d (2000 + i0))), (2, .int p0), (3, .int p1)] := hl
  obtain ⟨rs_1, n_2, g_3, fg_4, hit_5, hs_6, hpa_7, hps_8, h1_9, h6_10, hcb_11, hpl_12, hlg_13, hnn_14, hfa_15, hfs_16, hfe_17, hrs_18, hkt_19⟩ := it_all hI hrp.2.2.1 hi0
  have hkk0 := hk0
  have hfe0 : fg_4 0 = u.2 47 (5 * i0) := hfe_17 0 (by decide)
  have hnb : bw (u.1 3) 0 80 = true := by rw [← hk0]; exact hI.1.1
  have h3m : f (d 3) = f (d 3) := rfl
  refine lv_aload_n hx hb dX11_writeDownItem_0 rfl (lv_at hl 1 rfl) ?_
  obtain ⟨kk_20, hk_21⟩ := pl_at hit_5.1 hs_6
  refine w_then (F0 m 4 ls [.ref (d (4000 + i0))]) (fun hgo => ?_) ?_
  ·
    rcases x_tag hit_5 with ht9 | ht9 | ht9 | ht9 | ht9 | ht9
    ·
      rw [ht9.2] at hk_21
      exact va_get (D := (dC, dI)) (ci := 2) (v := .ref (d (4000 + i0))) (C := RX2) (T := TX2) (N := 7) hx hb hts (by decide +kernel) hown hK hP kk_20 hk_21 rfl 4 (by decide) (hts (.fieldLink RX11 382 "PageOne$Item" "first" "[I") (by decide +kernel)) (fun _ h9 => h9) rfl dX11_writeDownItem_1 hgo
    ·
      rw [ht9.2] at hk_21
      exact va_get (D := (dC, dI)) (ci := 3) (v := .ref (d (4000 + i0))) (C := RX3) (T := TX3) (N := 8) hx hb hts (by decide +kernel) hown hK hP kk_20 hk_21 rfl 4 (by decide) (hts (.fieldLink RX11 382 "PageOne$Item" "first" "[I") (by decide +kernel)) (fun _ h9 => h9) rfl dX11_writeDownItem_1 hgo
    ·
      rw [ht9.2] at hk_21
      exact va_get (D := (dC, dI)) (ci := 4) (v := .ref (d (4000 + i0))) (C := RX5) (T := TX5) (N := 7) hx hb hts (by decide +kernel) hown hK hP kk_20 hk_21 rfl 4 (by decide) (hts (.fieldLink RX11 382 "PageOne$Item" "first" "[I") (by decide +kernel)) (fun _ h9 => h9) rfl dX11_writeDownItem_1 hgo
    ·
      rw [ht9.2] at hk_21
      exact va_get (D := (dC, dI)) (ci := 5) (v := .ref (d (4000 + i0))) (C := RX6) (T := TX6) (N := 9) hx hb hts (by decide +kernel) hown hK hP kk_20 hk_21 rfl 4 (by decide) (hts (.fieldLink RX11 382 "PageOne$Item" "first" "[I") (by decide +kernel)) (fun _ h9 => h9) rfl dX11_writeDownItem_1 hgo
    ·
      rw [ht9.2] at hk_21
      exact va_get (D := (dC, dI)) (ci := 6) (v := .ref (d (4000 + i0))) (C := RX7) (T := TX7) (N := 8) hx hb hts (by decide +kernel) hown hK hP kk_20 hk_21 rfl 4 (by decide) (hts (.fieldLink RX11 382 "PageOne$Item" "first" "[I") (by decide +kernel)) (fun _ h9 => h9) rfl dX11_writeDownItem_1 hgo
    ·
      rw [ht9.2] at hk_21
      exact va_get (D := (dC, dI)) (ci := 9) (v := .ref (d (4000 + i0))) (C := RX10) (T := TX10) (N := 9) hx hb hts (by decide +kernel) hown hK hP kk_20 hk_21 rfl 4 (by decide) (hts (.fieldLink RX11 382 "PageOne$Item" "first" "[I") (by decide +kernel)) (fun _ h9 => h9) rfl dX11_writeDownItem_1 hgo
  ·
    refine lv_iconst (v := 0) hx hb dX11_writeDownItem_4 (by decide) ?_
    obtain ⟨kk_22, hk_23⟩ := pl_at hfa_15.1 hfs_16
    refine va_iald hx hb hK hP kk_22 0 hk_23 rfl (by unfold vp_in; decide) dX11_writeDownItem_5 ?_
    refine lv_iconst (v := (-1)) hx hb dX11_writeDownItem_6 (by decide) ?_
    refine lv_icmp_ne (tgt := 40) hx hb dX11_writeDownItem_7 (by decide) (fun c_24 => ?_) (fun c_24 => ?_)
    ·
      rcases kd6 (kd_05 hrp.2.2.1 hi0).1 (kd_05 hrp.2.2.1 hi0).2 with hkd | hkd | hkd | hkd | hkd | hkd
      ·
        have ht_25 : tg z (d (2000 + i0)) 15 := ⟨hit_5.1, by rw [hkt_19, hkd]; rfl⟩
        obtain ⟨hx_27, hx_28, hx_29, ⟨hx_30, hx_31, hx_32⟩, hx_33, hx_34, hx_35⟩ := hrs_18.1 hkd
        have hs_26 : f (d (2000 + i0)) = .inr (9, [.int (nI i0), .int (u.2 4 i0), .ref (d (3000 + i0)), .int (u.2 22 i0), .ref (d (4000 + i0)), .int (u.2 5 i0), .ref (d (5000 + i0)), .int (u.2 15 i0), .ref (d (6000 + i0))]) := by rw [hs_6, ht_25.2, hx_27]; rfl
        refine lv_aload_n hx hb dX11_writeDownItem_40 rfl (lv_at hl 1 rfl) ?_
        obtain ⟨kk_36, hk_37⟩ := pl_at ht_25.1 hs_26
        refine va_instNo hx hb hown (hts (.classLink RX11 104 "PageOne$Paid") (by decide +kernel)) hXN.n_X10_X6 (va_recv hK hP (ci := 9) (q0 := kk_36) rfl hk_37) dX11_writeDownItem_41 ?_
        refine lv_if_eq (tgt := 64) hx hb dX11_writeDownItem_44 (by decide) (fun c_38 => ?_) (fun c_38 => absurd (by decide) c_38)
        exact W.vret hx hb hr (fun t ht hW => ⟨⟨(k, z, f), rfl, ⟨rfl, rfl, hI, by rw [show wdU u i0 p0 p1 = mst u 48 (nI (80 * (u.1 38).toNatClampNeg + i0)) (vp_nar .boolean 1) from by unfold wdU; rw [if_neg (fun e9 => c_24 (hfe0.trans e9))]]; exact rep_day hrp (by rw [← hkk0]; exact hI.1.1) hi0 (by have h9 := vTd hI.1.2.2; rw [hk2] at h9; exact vlt h9) (Or.inl ⟨by rw [hkd]; decide, rfl⟩), h3m⟩, by rw [ht]; exact hP, hD⟩, hS.F ht⟩) hS.2.2 dX11_writeDownItem_64
      ·
        have ht_39 : tg z (d (2000 + i0)) 11 := ⟨hit_5.1, by rw [hkt_19, hkd]; rfl⟩
        obtain ⟨o9, hx_41, hx_42, hx_43, hx_44⟩ := hrs_18.2.1 hkd
        have hs_40 : f (d (2000 + i0)) = .inr (3, [.int (nI i0), .int (u.2 4 i0), .ref (d (3000 + i0)), .int (u.2 22 i0), .ref (d (4000 + i0)), .ref (d (2000 + o9)), .int (u.2 7 i0), .int (u.2 8 i0)]) := by rw [hs_6, ht_39.2, hx_44]; rfl
        refine lv_aload_n hx hb dX11_writeDownItem_40 rfl (lv_at hl 1 rfl) ?_
        obtain ⟨kk_50, hk_51⟩ := pl_at ht_39.1 hs_40
        refine va_instNo hx hb hown (hts (.classLink RX11 104 "PageOne$Paid") (by decide +kernel)) hXN.n_X3_X6 (va_recv hK hP (ci := 3) (q0 := kk_50) rfl hk_51) dX11_writeDownItem_41 ?_
        refine lv_if_eq (tgt := 64) hx hb dX11_writeDownItem_44 (by decide) (fun c_52 => ?_) (fun c_52 => absurd (by decide) c_52)
        exact W.vret hx hb hr (fun t ht hW => ⟨⟨(k, z, f), rfl, ⟨rfl, rfl, hI, by rw [show wdU u i0 p0 p1 = mst u 48 (nI (80 * (u.1 38).toNatClampNeg + i0)) (vp_nar .boolean 1) from by unfold wdU; rw [if_neg (fun e9 => c_24 (hfe0.trans e9))]]; exact rep_day hrp (by rw [← hkk0]; exact hI.1.1) hi0 (by have h9 := vTd hI.1.2.2; rw [hk2] at h9; exact vlt h9) (Or.inl ⟨by rw [hkd]; decide, rfl⟩), h3m⟩, by rw [ht]; exact hP, hD⟩, hS.F ht⟩) hS.2.2 dX11_writeDownItem_64
      ·
        have ht_53 : tg z (d (2000 + i0)) 14 := ⟨hit_5.1, by rw [hkt_19, hkd]; rfl⟩
        obtain ⟨hx_55, hx_56, hx_57, ⟨hx_58, hx_59, hx_60⟩, hx_61, hx_62, hx_63⟩ := hrs_18.2.2.1 hkd
        have hs_54 : f (d (2000 + i0)) = .inr (6, [.int (nI i0), .int (u.2 4 i0), .ref (d (3000 + i0)), .int (u.2 22 i0), .ref (d (4000 + i0)), .ref (d (5000 + i0)), .ref (d (6000 + i0)), .int (u.2 17 i0)]) := by rw [hs_6, ht_53.2, hx_55]; rfl
        refine lv_aload_n hx hb dX11_writeDownItem_40 rfl (lv_at hl 1 rfl) ?_
        obtain ⟨kk_64, hk_65⟩ := pl_at ht_53.1 hs_54
        refine va_instNo hx hb hown (hts (.classLink RX11 104 "PageOne$Paid") (by decide +kernel)) hXN.n_X7_X6 (va_recv hK hP (ci := 6) (q0 := kk_64) rfl hk_65) dX11_writeDownItem_41 ?_
        refine lv_if_eq (tgt := 64) hx hb dX11_writeDownItem_44 (by decide) (fun c_66 => ?_) (fun c_66 => absurd (by decide) c_66)
        exact W.vret hx hb hr (fun t ht hW => ⟨⟨(k, z, f), rfl, ⟨rfl, rfl, hI, by rw [show wdU u i0 p0 p1 = mst u 48 (nI (80 * (u.1 38).toNatClampNeg + i0)) (vp_nar .boolean 1) from by unfold wdU; rw [if_neg (fun e9 => c_24 (hfe0.trans e9))]]; exact rep_day hrp (by rw [← hkk0]; exact hI.1.1) hi0 (by have h9 := vTd hI.1.2.2; rw [hk2] at h9; exact vlt h9) (Or.inl ⟨by rw [hkd]; decide, rfl⟩), h3m⟩, by rw [ht]; exact hP, hD⟩, hS.F ht⟩) hS.2.2 dX11_writeDownItem_64
      ·
        have ht_67 : tg z (d (2000 + i0)) 13 := ⟨hit_5.1, by rw [hkt_19, hkd]; rfl⟩
        obtain ⟨hx_69, hx_70, hx_71, hx_72, hx_73, hx_74⟩ := hrs_18.2.2.2.1 hkd
        have hs_68 : f (d (2000 + i0)) = .inr (5, [.int (nI i0), .int (u.2 4 i0), .ref (d (3000 + i0)), .int (u.2 22 i0), .ref (d (4000 + i0)), .int (u.2 10 i0), .int (u.2 14 i0), .ref (d (5000 + i0)), .ref (d (6000 + i0))]) := by rw [hs_6, ht_67.2, hx_69]; rfl
        refine lv_aload_n hx hb dX11_writeDownItem_40 rfl (lv_at hl 1 rfl) ?_
        obtain ⟨kk_78, hk_79⟩ := pl_at ht_67.1 hs_68
        refine va_instS hx hb hown (hts (.classLink RX11 104 "PageOne$Paid") (by decide +kernel)) (hK.1 5 (RX6, TX6, 9) rfl).2 (va_recv hK hP (ci := 5) (q0 := kk_78) rfl hk_79) dX11_writeDownItem_41 ?_
        refine lv_if_eq (tgt := 64) hx hb dX11_writeDownItem_44 (by decide) (fun c_80 => absurd c_80 (by decide)) (fun c_80 => ?_)
        refine lv_aload_n hx hb dX11_writeDownItem_47 rfl (lv_at hl 1 rfl) ?_
        obtain ⟨kk_81, hk_82⟩ := pl_at ht_67.1 hs_68
        refine va_castS hx hb hown (hts (.classLink RX11 104 "PageOne$Paid") (by decide +kernel)) (hK.1 5 (RX6, TX6, 9) rfl).2 (va_recv hK hP (ci := 5) (q0 := kk_81) rfl hk_82) dX11_writeDownItem_48 ?_
        refine lv_astore (lv' := [(4, .ref (d (2000 + i0))), (0, .ref h0), (1, .ref (d (2000 + i0))), (2, .int p0), (3, .int p1)]) hx hb dX11_writeDownItem_51 hl (by decide) rfl (fun ls hl => ?_)
        refine lv_aload hx hb dX11_writeDownItem_53 (lv_at hl 0 rfl) ?_
        obtain ⟨kk_83, hk_84⟩ := pl_at ht_67.1 hs_68
        refine va_get (D := (dC, dI)) (ci := 5) (v := .ref (d (6000 + i0))) (C := RX6) (T := TX6) (N := 9) hx hb hts (by decide +kernel) hown hK hP kk_83 hk_84 rfl 8 (by decide) (hts (.fieldLink RX11 388 "PageOne$Paid" "days" "[Z") (by decide +kernel)) (fun _ h9 => h9) rfl dX11_writeDownItem_55 ?_
        refine lv_aload_n hx hb dX11_writeDownItem_58 rfl (lv_at hl 1 rfl) ?_
        obtain ⟨kk_85, hk_86⟩ := pl_at hI.2.1.1.1 hI.2.2.2.1.1
        refine va_get (D := (dC, dI)) (ci := 10) (v := .int (k 2)) (C := RX11) (T := TX11) (N := 9) hx hb hts (by decide +kernel) hown hK hP kk_85 hk_86 rfl 7 (by decide) (hts (.fieldLink RX11 41 "PageOne" "today" "I") (by decide +kernel)) (fun _ h9 => h9) rfl dX11_writeDownItem_59 ?_
        refine lv_iconst (v := 1) hx hb dX11_writeDownItem_62 (by decide) ?_
        obtain ⟨kk_87, hk_88⟩ := pl_at hx_71.1.1 hx_73
        have hD0 := hD
        refine va_zast hx hb hK hP hD hS kk_87 1 hk_88 rfl (vTd hI.1.2.2) dX11_writeDownItem_63 (fun H locs hP hD hS => ?_)
        rw [pl_set hD0 hx_71.1.1 hx_73 hk_88] at hP hD
        obtain ⟨f_89, ef_89⟩ : ∃ y : xF, y = va_up f (d (6000 + i0)) (aI (q 1) 400 (upd hx_72 ((k 2) : Int32).toNatClampNeg (vp_nar .boolean 1))) := ⟨_, rfl⟩
        have hI : xI q h0 d k z f_89 := by rw [ef_89]; exact x_up hI hx_71.1 (by decide) (cO_21 hx_71.1.2 ⟨_, rfl⟩)
        have hP : va_P (dC, dI) vwCl (va_pl z.1 f_89) H := by rw [ef_89]; exact hP
        have hD : va_D A (va_pl z.1 f_89) := by rw [ef_89]; exact hD
        exact W.vret hx hb hr (fun t ht hW => ⟨⟨(k, z, f_89), rfl, ⟨rfl, rfl, hI, by rw [show wdU u i0 p0 p1 = mst u 48 (nI (80 * (u.1 38).toNatClampNeg + i0)) (vp_nar .boolean 1) from by unfold wdU; rw [if_neg (fun e9 => c_24 (hfe0.trans e9))]]; exact rep_day hrp (by rw [← hkk0]; exact hI.1.1) hi0 (by have h9 := vTd hI.1.2.2; rw [hk2] at h9; exact vlt h9) (Or.inr ⟨hkd, _, hx_73, by rw [ef_89, hk2]⟩), (by show f_89 (d 3) = f (d 3); rw [ef_89]; exact (up_o (tg_ne hI.2.1.2.2.2.2.1 hx_71.1 (by decide))).trans h3m)⟩, by rw [ht]; exact hP, hD⟩, hS.F ht⟩) hS.2.2 dX11_writeDownItem_64
      ·
        have ht_90 : tg z (d (2000 + i0)) 10 := ⟨hit_5.1, by rw [hkt_19, hkd]; rfl⟩
        have hs_91 : f (d (2000 + i0)) = .inr (2, [.int (nI i0), .int (u.2 4 i0), .ref (d (3000 + i0)), .int (u.2 22 i0), .ref (d (4000 + i0)), .int (u.2 5 i0), .int (u.2 6 i0)]) := by rw [hs_6, ht_90.2, hrs_18.2.2.2.2.1 hkd]; rfl
        refine lv_aload_n hx hb dX11_writeDownItem_40 rfl (lv_at hl 1 rfl) ?_
        obtain ⟨kk_101, hk_102⟩ := pl_at ht_90.1 hs_91
        refine va_instNo hx hb hown (hts (.classLink RX11 104 "PageOne$Paid") (by decide +kernel)) hXN.n_X2_X6 (va_recv hK hP (ci := 2) (q0 := kk_101) rfl hk_102) dX11_writeDownItem_41 ?_
        refine lv_if_eq (tgt := 64) hx hb dX11_writeDownItem_44 (by decide) (fun c_103 => ?_) (fun c_103 => absurd (by decide) c_103)
        exact W.vret hx hb hr (fun t ht hW => ⟨⟨(k, z, f), rfl, ⟨rfl, rfl, hI, by rw [show wdU u i0 p0 p1 = mst u 48 (nI (80 * (u.1 38).toNatClampNeg + i0)) (vp_nar .boolean 1) from by unfold wdU; rw [if_neg (fun e9 => c_24 (hfe0.trans e9))]]; exact rep_day hrp (by rw [← hkk0]; exact hI.1.1) hi0 (by have h9 := vTd hI.1.2.2; rw [hk2] at h9; exact vlt h9) (Or.inl ⟨by rw [hkd]; decide, rfl⟩), h3m⟩, by rw [ht]; exact hP, hD⟩, hS.F ht⟩) hS.2.2 dX11_writeDownItem_64
      ·
        have ht_104 : tg z (d (2000 + i0)) 12 := ⟨hit_5.1, by rw [hkt_19, hkd]; rfl⟩
        obtain ⟨o9, hx_106, hx_107, hx_108⟩ := hrs_18.2.2.2.2.2 hkd
        have hs_105 : f (d (2000 + i0)) = .inr (4, [.int (nI i0), .int (u.2 4 i0), .ref (d (3000 + i0)), .int (u.2 22 i0), .ref (d (4000 + i0)), .ref (d (2000 + o9)), .int (u.2 8 i0)]) := by rw [hs_6, ht_104.2, hx_108]; rfl
        refine lv_aload_n hx hb dX11_writeDownItem_40 rfl (lv_at hl 1 rfl) ?_
        obtain ⟨kk_115, hk_116⟩ := pl_at ht_104.1 hs_105
        refine va_instNo hx hb hown (hts (.classLink RX11 104 "PageOne$Paid") (by decide +kernel)) hXN.n_X5_X6 (va_recv hK hP (ci := 4) (q0 := kk_115) rfl hk_116) dX11_writeDownItem_41 ?_
        refine lv_if_eq (tgt := 64) hx hb dX11_writeDownItem_44 (by decide) (fun c_117 => ?_) (fun c_117 => absurd (by decide) c_117)
        exact W.vret hx hb hr (fun t ht hW => ⟨⟨(k, z, f), rfl, ⟨rfl, rfl, hI, by rw [show wdU u i0 p0 p1 = mst u 48 (nI (80 * (u.1 38).toNatClampNeg + i0)) (vp_nar .boolean 1) from by unfold wdU; rw [if_neg (fun e9 => c_24 (hfe0.trans e9))]]; exact rep_day hrp (by rw [← hkk0]; exact hI.1.1) hi0 (by have h9 := vTd hI.1.2.2; rw [hk2] at h9; exact vlt h9) (Or.inl ⟨by rw [hkd]; decide, rfl⟩), h3m⟩, by rw [ht]; exact hP, hD⟩, hS.F ht⟩) hS.2.2 dX11_writeDownItem_64
    ·
      refine lv_iconst (v := 0) hx hb dX11_writeDownItem_10 (by decide) ?_
      refine lv_istore (lv' := [(4, .int 0), (0, .ref h0), (1, .ref (d (2000 + i0))), (2, .int p0), (3, .int p1)]) hx hb dX11_writeDownItem_11 hl (by decide) rfl (fun ls hl => ?_)
      refine y_wdi_l (f0 := f) (u := u) hk0 hi0 hx hb hml hts hown hN hXN hK (Nat.le_of_ble_eq_true rfl) (Nat.le_of_ble_eq_true rfl) (Nat.le_of_ble_eq_true rfl) (Nat.le_of_ble_eq_true rfl) hA (fun f2 H locs ls hg hI hP hD hS hl => ?_) 6 0 _ _ _ ls (by decide) (by decide) ⟨hrp, hpl, rfl⟩ hI hP hD hS (lv_sub hl [0, 1, 2, 3, 4] rfl)
      obtain ⟨u5, eu5⟩ : ∃ y : mS, y = wdF u i0 p0 p1 5 := ⟨_, rfl⟩
      have hrp5 : rep q d u5 z f2 := by rw [eu5]; exact hg.1
      have hi5 : i0 < (u5.1 3).toNatClampNeg := by rw [eu5, wdF_1]; exact hi0
      have h3m := hg.2.2
      obtain ⟨rs_118, n_119, g_120, fg_121, hit_122, hs_123, hpa_124, hps_125, h1_126, h6_127, hcb_128, hpl_129, hlg_130, hnn_131, hfa_132, hfs_133, hfe_134, hrs_135, hkt_136⟩ := it_all hI hrp5.2.2.1 hi5
      rcases kd6 (kd_05 hrp5.2.2.1 hi5).1 (kd_05 hrp5.2.2.1 hi5).2 with hkd | hkd | hkd | hkd | hkd | hkd
      ·
        have ht_137 : tg z (d (2000 + i0)) 15 := ⟨hit_122.1, by rw [hkt_136, hkd]; rfl⟩
        obtain ⟨hx_139, hx_140, hx_141, ⟨hx_142, hx_143, hx_144⟩, hx_145, hx_146, hx_147⟩ := hrs_135.1 hkd
        have hs_138 : f2 (d (2000 + i0)) = .inr (9, [.int (nI i0), .int (u5.2 4 i0), .ref (d (3000 + i0)), .int (u5.2 22 i0), .ref (d (4000 + i0)), .int (u5.2 5 i0), .ref (d (5000 + i0)), .int (u5.2 15 i0), .ref (d (6000 + i0))]) := by rw [hs_123, ht_137.2, hx_139]; rfl
        refine lv_aload_n hx hb dX11_writeDownItem_40 rfl (lv_at hl 1 rfl) ?_
        obtain ⟨kk_148, hk_149⟩ := pl_at ht_137.1 hs_138
        refine va_instNo hx hb hown (hts (.classLink RX11 104 "PageOne$Paid") (by decide +kernel)) hXN.n_X10_X6 (va_recv hK hP (ci := 9) (q0 := kk_148) rfl hk_149) dX11_writeDownItem_41 ?_
        refine lv_if_eq (tgt := 64) hx hb dX11_writeDownItem_44 (by decide) (fun c_150 => ?_) (fun c_150 => absurd (by decide) c_150)
        exact W.vret hx hb hr (fun t ht hW => ⟨⟨(k, z, f2), rfl, ⟨rfl, rfl, hI, by rw [show wdU u i0 p0 p1 = mst u5 48 (nI (80 * (u5.1 38).toNatClampNeg + i0)) (vp_nar .boolean 1) from by unfold wdU; rw [if_pos (hfe0.symm.trans c_24), eu5, wdF_1]]; exact rep_day hrp5 (by rw [eu5, wdF_1, ← hkk0]; exact hI.1.1) hi5 (by have h9 := vTd hI.1.2.2; rw [hk2, show u.1 38 = u5.1 38 from by rw [eu5, wdF_1]] at h9; exact vlt h9) (Or.inl ⟨by rw [hkd]; decide, rfl⟩), h3m⟩, by rw [ht]; exact hP, hD⟩, hS.F ht⟩) hS.2.2 dX11_writeDownItem_64
      ·
        have ht_151 : tg z (d (2000 + i0)) 11 := ⟨hit_122.1, by rw [hkt_136, hkd]; rfl⟩
        obtain ⟨o9, hx_153, hx_154, hx_155, hx_156⟩ := hrs_135.2.1 hkd
        have hs_152 : f2 (d (2000 + i0)) = .inr (3, [.int (nI i0), .int (u5.2 4 i0), .ref (d (3000 + i0)), .int (u5.2 22 i0), .ref (d (4000 + i0)), .ref (d (2000 + o9)), .int (u5.2 7 i0), .int (u5.2 8 i0)]) := by rw [hs_123, ht_151.2, hx_156]; rfl
        refine lv_aload_n hx hb dX11_writeDownItem_40 rfl (lv_at hl 1 rfl) ?_
        obtain ⟨kk_162, hk_163⟩ := pl_at ht_151.1 hs_152
        refine va_instNo hx hb hown (hts (.classLink RX11 104 "PageOne$Paid") (by decide +kernel)) hXN.n_X3_X6 (va_recv hK hP (ci := 3) (q0 := kk_162) rfl hk_163) dX11_writeDownItem_41 ?_
        refine lv_if_eq (tgt := 64) hx hb dX11_writeDownItem_44 (by decide) (fun c_164 => ?_) (fun c_164 => absurd (by decide) c_164)
        exact W.vret hx hb hr (fun t ht hW => ⟨⟨(k, z, f2), rfl, ⟨rfl, rfl, hI, by rw [show wdU u i0 p0 p1 = mst u5 48 (nI (80 * (u5.1 38).toNatClampNeg + i0)) (vp_nar .boolean 1) from by unfold wdU; rw [if_pos (hfe0.symm.trans c_24), eu5, wdF_1]]; exact rep_day hrp5 (by rw [eu5, wdF_1, ← hkk0]; exact hI.1.1) hi5 (by have h9 := vTd hI.1.2.2; rw [hk2, show u.1 38 = u5.1 38 from by rw [eu5, wdF_1]] at h9; exact vlt h9) (Or.inl ⟨by rw [hkd]; decide, rfl⟩), h3m⟩, by rw [ht]; exact hP, hD⟩, hS.F ht⟩) hS.2.2 dX11_writeDownItem_64
      ·
        have ht_165 : tg z (d (2000 + i0)) 14 := ⟨hit_122.1, by rw [hkt_136, hkd]; rfl⟩
        obtain ⟨hx_167, hx_168, hx_169, ⟨hx_170, hx_171, hx_172⟩, hx_173, hx_174, hx_175⟩ := hrs_135.2.2.1 hkd
        have hs_166 : f2 (d (2000 + i0)) = .inr (6, [.int (nI i0), .int (u5.2 4 i0), .ref (d (3000 + i0)), .int (u5.2 22 i0), .ref (d (4000 + i0)), .ref (d (5000 + i0)), .ref (d (6000 + i0)), .int (u5.2 17 i0)]) := by rw [hs_123, ht_165.2, hx_167]; rfl
        refine lv_aload_n hx hb dX11_writeDownItem_40 rfl (lv_at hl 1 rfl) ?_
        obtain ⟨kk_176, hk_177⟩ := pl_at ht_165.1 hs_166
        refine va_instNo hx hb hown (hts (.classLink RX11 104 "PageOne$Paid") (by decide +kernel)) hXN.n_X7_X6 (va_recv hK hP (ci := 6) (q0 := kk_176) rfl hk_177) dX11_writeDownItem_41 ?_
        refine lv_if_eq (tgt := 64) hx hb dX11_writeDownItem_44 (by decide) (fun c_178 => ?_) (fun c_178 => absurd (by decide) c_178)
        exact W.vret hx hb hr (fun t ht hW => ⟨⟨(k, z, f2), rfl, ⟨rfl, rfl, hI, by rw [show wdU u i0 p0 p1 = mst u5 48 (nI (80 * (u5.1 38).toNatClampNeg + i0)) (vp_nar .boolean 1) from by unfold wdU; rw [if_pos (hfe0.symm.trans c_24), eu5, wdF_1]]; exact rep_day hrp5 (by rw [eu5, wdF_1, ← hkk0]; exact hI.1.1) hi5 (by have h9 := vTd hI.1.2.2; rw [hk2, show u.1 38 = u5.1 38 from by rw [eu5, wdF_1]] at h9; exact vlt h9) (Or.inl ⟨by rw [hkd]; decide, rfl⟩), h3m⟩, by rw [ht]; exact hP, hD⟩, hS.F ht⟩) hS.2.2 dX11_writeDownItem_64
      ·
        have ht_179 : tg z (d (2000 + i0)) 13 := ⟨hit_122.1, by rw [hkt_136, hkd]; rfl⟩
        obtain ⟨hx_181, hx_182, hx_183, hx_184, hx_185, hx_186⟩ := hrs_135.2.2.2.1 hkd
        have hs_180 : f2 (d (2000 + i0)) = .inr (5, [.int (nI i0), .int (u5.2 4 i0), .ref (d (3000 + i0)), .int (u5.2 22 i0), .ref (d (4000 + i0)), .int (u5.2 10 i0), .int (u5.2 14 i0), .ref (d (5000 + i0)), .ref (d (6000 + i0))]) := by rw [hs_123, ht_179.2, hx_181]; rfl
        refine lv_aload_n hx hb dX11_writeDownItem_40 rfl (lv_at hl 1 rfl) ?_
        obtain ⟨kk_190, hk_191⟩ := pl_at ht_179.1 hs_180
        refine va_instS hx hb hown (hts (.classLink RX11 104 "PageOne$Paid") (by decide +kernel)) (hK.1 5 (RX6, TX6, 9) rfl).2 (va_recv hK hP (ci := 5) (q0 := kk_190) rfl hk_191) dX11_writeDownItem_41 ?_
        refine lv_if_eq (tgt := 64) hx hb dX11_writeDownItem_44 (by decide) (fun c_192 => absurd c_192 (by decide)) (fun c_192 => ?_)
        refine lv_aload_n hx hb dX11_writeDownItem_47 rfl (lv_at hl 1 rfl) ?_
        obtain ⟨kk_193, hk_194⟩ := pl_at ht_179.1 hs_180
        refine va_castS hx hb hown (hts (.classLink RX11 104 "PageOne$Paid") (by decide +kernel)) (hK.1 5 (RX6, TX6, 9) rfl).2 (va_recv hK hP (ci := 5) (q0 := kk_193) rfl hk_194) dX11_writeDownItem_48 ?_
        refine lv_astore (lv' := [(4, .ref (d (2000 + i0))), (0, .ref h0), (1, .ref (d (2000 + i0))), (2, .int p0), (3, .int p1)]) hx hb dX11_writeDownItem_51 hl (by decide) rfl (fun ls hl => ?_)
        refine lv_aload hx hb dX11_writeDownItem_53 (lv_at hl 0 rfl) ?_
        obtain ⟨kk_195, hk_196⟩ := pl_at ht_179.1 hs_180
        refine va_get (D := (dC, dI)) (ci := 5) (v := .ref (d (6000 + i0))) (C := RX6) (T := TX6) (N := 9) hx hb hts (by decide +kernel) hown hK hP kk_195 hk_196 rfl 8 (by decide) (hts (.fieldLink RX11 388 "PageOne$Paid" "days" "[Z") (by decide +kernel)) (fun _ h9 => h9) rfl dX11_writeDownItem_55 ?_
        refine lv_aload_n hx hb dX11_writeDownItem_58 rfl (lv_at hl 1 rfl) ?_
        obtain ⟨kk_197, hk_198⟩ := pl_at hI.2.1.1.1 hI.2.2.2.1.1
        refine va_get (D := (dC, dI)) (ci := 10) (v := .int (k 2)) (C := RX11) (T := TX11) (N := 9) hx hb hts (by decide +kernel) hown hK hP kk_197 hk_198 rfl 7 (by decide) (hts (.fieldLink RX11 41 "PageOne" "today" "I") (by decide +kernel)) (fun _ h9 => h9) rfl dX11_writeDownItem_59 ?_
        refine lv_iconst (v := 1) hx hb dX11_writeDownItem_62 (by decide) ?_
        obtain ⟨kk_199, hk_200⟩ := pl_at hx_183.1.1 hx_185
        have hD0 := hD
        refine va_zast hx hb hK hP hD hS kk_199 1 hk_200 rfl (vTd hI.1.2.2) dX11_writeDownItem_63 (fun H locs hP hD hS => ?_)
        rw [pl_set hD0 hx_183.1.1 hx_185 hk_200] at hP hD
        obtain ⟨f_201, ef_201⟩ : ∃ y : xF, y = va_up f2 (d (6000 + i0)) (aI (q 1) 400 (upd hx_184 ((k 2) : Int32).toNatClampNeg (vp_nar .boolean 1))) := ⟨_, rfl⟩
        have hI : xI q h0 d k z f_201 := by rw [ef_201]; exact x_up hI hx_183.1 (by decide) (cO_21 hx_183.1.2 ⟨_, rfl⟩)
        have hP : va_P (dC, dI) vwCl (va_pl z.1 f_201) H := by rw [ef_201]; exact hP
        have hD : va_D A (va_pl z.1 f_201) := by rw [ef_201]; exact hD
        exact W.vret hx hb hr (fun t ht hW => ⟨⟨(k, z, f_201), rfl, ⟨rfl, rfl, hI, by rw [show wdU u i0 p0 p1 = mst u5 48 (nI (80 * (u5.1 38).toNatClampNeg + i0)) (vp_nar .boolean 1) from by unfold wdU; rw [if_pos (hfe0.symm.trans c_24), eu5, wdF_1]]; exact rep_day hrp5 (by rw [eu5, wdF_1, ← hkk0]; exact hI.1.1) hi5 (by have h9 := vTd hI.1.2.2; rw [hk2, show u.1 38 = u5.1 38 from by rw [eu5, wdF_1]] at h9; exact vlt h9) (Or.inr ⟨hkd, _, hx_185, by rw [ef_201, hk2, show u.1 38 = u5.1 38 from by rw [eu5, wdF_1]]⟩), (by show f_201 (d 3) = f (d 3); rw [ef_201]; exact (up_o (tg_ne hI.2.1.2.2.2.2.1 hx_183.1 (by decide))).trans h3m)⟩, by rw [ht]; exact hP, hD⟩, hS.F ht⟩) hS.2.2 dX11_writeDownItem_64
      ·
        have ht_202 : tg z (d (2000 + i0)) 10 := ⟨hit_122.1, by rw [hkt_136, hkd]; rfl⟩
        have hs_203 : f2 (d (2000 + i0)) = .inr (2, [.int (nI i0), .int (u5.2 4 i0), .ref (d (3000 + i0)), .int (u5.2 22 i0), .ref (d (4000 + i0)), .int (u5.2 5 i0), .int (u5.2 6 i0)]) := by rw [hs_123, ht_202.2, hrs_135.2.2.2.2.1 hkd]; rfl
        refine lv_aload_n hx hb dX11_writeDownItem_40 rfl (lv_at hl 1 rfl) ?_
        obtain ⟨kk_213, hk_214⟩ := pl_at ht_202.1 hs_203
        refine va_instNo hx hb hown (hts (.classLink RX11 104 "PageOne$Paid") (by decide +kernel)) hXN.n_X2_X6 (va_recv hK hP (ci := 2) (q0 := kk_213) rfl hk_214) dX11_writeDownItem_41 ?_
        refine lv_if_eq (tgt := 64) hx hb dX11_writeDownItem_44 (by decide) (fun c_215 => ?_) (fun c_215 => absurd (by decide) c_215)
        exact W.vret hx hb hr (fun t ht hW => ⟨⟨(k, z, f2), rfl, ⟨rfl, rfl, hI, by rw [show wdU u i0 p0 p1 = mst u5 48 (nI (80 * (u5.1 38).toNatClampNeg + i0)) (vp_nar .boolean 1) from by unfold wdU; rw [if_pos (hfe0.symm.trans c_24), eu5, wdF_1]]; exact rep_day hrp5 (by rw [eu5, wdF_1, ← hkk0]; exact hI.1.1) hi5 (by have h9 := vTd hI.1.2.2; rw [hk2, show u.1 38 = u5.1 38 from by rw [eu5, wdF_1]] at h9; exact vlt h9) (Or.inl ⟨by rw [hkd]; decide, rfl⟩), h3m⟩, by rw [ht]; exact hP, hD⟩, hS.F ht⟩) hS.2.2 dX11_writeDownItem_64
      ·
        have ht_216 : tg z (d (2000 + i0)) 12 := ⟨hit_122.1, by rw [hkt_136, hkd]; rfl⟩
        obtain ⟨o9, hx_218, hx_219, hx_220⟩ := hrs_135.2.2.2.2.2 hkd
        have hs_217 : f2 (d (2000 + i0)) = .inr (4, [.int (nI i0), .int (u5.2 4 i0), .ref (d (3000 + i0)), .int (u5.2 22 i0), .ref (d (4000 + i0)), .ref (d (2000 + o9)), .int (u5.2 8 i0)]) := by rw [hs_123, ht_216.2, hx_220]; rfl
        refine lv_aload_n hx hb dX11_writeDownItem_40 rfl (lv_at hl 1 rfl) ?_
        obtain ⟨kk_227, hk_228⟩ := pl_at ht_216.1 hs_217
        refine va_instNo hx hb hown (hts (.classLink RX11 104 "PageOne$Paid") (by decide +kernel)) hXN.n_X5_X6 (va_recv hK hP (ci := 4) (q0 := kk_227) rfl hk_228) dX11_writeDownItem_41 ?_
        refine lv_if_eq (tgt := 64) hx hb dX11_writeDownItem_44 (by decide) (fun c_229 => ?_) (fun c_229 => absurd (by decide) c_229)
        exact W.vret hx hb hr (fun t ht hW => ⟨⟨(k, z, f2), rfl, ⟨rfl, rfl, hI, by rw [show wdU u i0 p0 p1 = mst u5 48 (nI (80 * (u5.1 38).toNatClampNeg + i0)) (vp_nar .boolean 1) from by unfold wdU; rw [if_pos (hfe0.symm.trans c_24), eu5, wdF_1]]; exact rep_day hrp5 (by rw [eu5, wdF_1, ← hkk0]; exact hI.1.1) hi5 (by have h9 := vTd hI.1.2.2; rw [hk2, show u.1 38 = u5.1 38 from by rw [eu5, wdF_1]] at h9; exact vlt h9) (Or.inl ⟨by rw [hkd]; decide, rfl⟩), h3m⟩, by rw [ht]; exact hP, hD⟩, hS.F ht⟩) hS.2.2 dX11_writeDownItem_64
