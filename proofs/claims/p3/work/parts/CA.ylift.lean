theorem sl_e {u : mS} {i : Nat} (hi : i < 80) (hc : u.2 22 i = nI (u.2 22 i).toNatClampNeg) (h0 : 0 < (u.2 22 i).toNatClampNeg) (h6 : (u.2 22 i).toNatClampNeg ≤ 6) : (6 * nI i + (u.2 22 (nI i).toNatClampNeg - 1)).toNatClampNeg = 6 * i + ((u.2 22 i).toNatClampNeg - 1) := by
  rw [nI_clamp (n := i) (by omega)]
  generalize hcc : (u.2 22 i).toNatClampNeg = c at *
  rw [hc, show (1 : Int32) = nI 1 from rfl, nI_sb (i := c) (r := 1) (by omega) (by omega), show (6 : Int32) = nI 6 from rfl, pk_mul, nI_add, nI_clamp (by omega)]
/-- mUnstand and a kept act -/
theorem un_ac {u w : mS} {i : Int32} {P X Y D N : Nat} (h2 : w.2 2 = u.2 2) (h22 : w.2 22 = u.2 22) {r : Nat} (hr : w.2 r = u.2 r) : (mUnstand w i P X Y D N).2 r = (mUnstand u i P X Y D N).2 r := by
  by_cases e : r = 2
  · subst e; rw [mUnstand_2, mUnstand_2, h2]
  · by_cases e2 : r = 22
    · subst e2
      unfold mUnstand
      dsimp only
      rw [mput_other (by decide), mput_other (by decide)]
      funext j
      rw [mst_at, mst_at, h22]
    · rw [mUnstand_k _ _ _ _ _ _ _ (by omega) (by omega), mUnstand_k _ _ _ _ _ _ _ (by omega) (by omega), hr]
theorem st_ac {u w : mS} {i : Int32} {P X Y D N : Nat} (h2 : w.2 2 = u.2 2) (hw : ∀ r, 22 ≤ r → r ≤ 27 → w.2 r = u.2 r) {r : Nat} (hr : w.2 r = u.2 r) : (mStand w i P X Y D N).2 r = (mStand u i P X Y D N).2 r := by
  by_cases e : r = 2
  · subst e; rw [mStand_2, mStand_2, h2]
  · rw [mStand_gU, mStand_gU, mput_other e, mput_other e]
    by_cases h1 : r < 22 ∨ 27 < r
    · rw [gU_k _ _ _ _ _ _ _ h1, gU_k _ _ _ _ _ _ _ h1, hr]
    · funext j
      obtain ⟨p1, p2, p3, p4, p5⟩ := gU_p w i P X Y D N j
      obtain ⟨q1, q2, q3, q4, q5⟩ := gU_p u i P X Y D N j
      have h22 := hw 22 (by omega) (by omega)
      rcases (show r = 22 ∨ r = 23 ∨ r = 24 ∨ r = 25 ∨ r = 26 ∨ r = 27 by omega) with e | e | e | e | e | e <;> subst e
      · rw [gU_22, gU_22, h22]
      · rw [p1, q1, h22, hr]
      · rw [p2, q2, h22, hr]
      · rw [p3, q3, h22, hr]
      · rw [p4, q4, h22, hr]
      · rw [p5, q5, h22, hr]
def lfA (u : mS) (p0 : Int32) (P X Y D N : Nat) : Prop := bw p0 0 (u.1 3 - 1) = true → ¬ u.2 22 p0.toNatClampNeg = 0 → rIn u P X Y D N ∧ u.2 23 (6 * p0 + (u.2 22 p0.toNatClampNeg - 1)).toNatClampNeg = nI P ∧ u.2 24 (6 * p0 + (u.2 22 p0.toNatClampNeg - 1)).toNatClampNeg = nI X ∧ u.2 25 (6 * p0 + (u.2 22 p0.toNatClampNeg - 1)).toNatClampNeg = nI Y ∧ u.2 26 (6 * p0 + (u.2 22 p0.toNatClampNeg - 1)).toNatClampNeg = nI D ∧ u.2 27 (6 * p0 + (u.2 22 p0.toNatClampNeg - 1)).toNatClampNeg = nI N
theorem n300 {k : Nat → Int32} (h : bw (k 1) 0 300 = true) : (300 ≤ k 1 → k 1 = 300) ∧ (¬ 300 ≤ k 1 → ¬ k 1 = 300) := by
  have h1 := bw_iff.mp h
  have e3 : (300 : Int32).toInt = 300 := rfl
  refine ⟨fun x => ?_, fun x e => x (by rw [e]; decide)⟩
  rw [i32_le] at x; exact Int32.toInt_inj.mp (by omega)
theorem lf_i {u : mS} {i : Int32} {P X Y D N : Nat} (h : ¬ bw i 0 (u.1 3 - 1) = true) : mLift u i P X Y D N = (-1, u) := by unfold mLift; rw [if_neg h]
theorem lf_0 {u : mS} {i : Int32} {P X Y D N : Nat} (h : u.2 22 i.toNatClampNeg = 0) : mLift u i P X Y D N = (-1, u) := by
  unfold mLift; rw [if_pos h]; split <;> rfl
theorem lf_3 {u : mS} {i : Int32} {P X Y D N : Nat} (h : u.1 28 = 300) : mLift u i P X Y D N = (-1, u) := by
  unfold mLift; rw [if_pos h]; repeat' split
  all_goals rfl
theorem lift_fin {q h0 d k u z f z9 f9 k9} {i a b P X Y D N : Nat} {fc : xF} (hI : xI q h0 d k z f) (hrp : rep q d u z f) (hk0 : k 0 = u.1 3) (hk1 : k 1 = u.1 28) (hi : i < (u.1 3).toNatClampNeg) (hca : ¬ 300 ≤ k 1) (h0c : ¬ u.2 22 i ≤ 0) (hE : zE z z9) (hI9 : xI q h0 d k9 z9 f9) (hrp9 : rep q d (mUnstand u (nI i) P X Y D N) z9 f9) (h3m : fc (d 3) = f (d 3)) (hkc : k9 = kup k 1 (k 1 + 1)) (hk3 : ∃ g, fc (d 3) = aR (q 4) 300 g ∧ f9 (d 3) = aR (q 4) 300 (va_up g (k 1).toNatClampNeg (some a))) (hac : acS z9 a b 1 1 none) (hpc : pcS z9 b (some (d (2000 + i))) (nI P) (nI X) (nI Y) (nI D) (nI N)) : actP q h0 d k z f (mLift u (nI i) P X Y D N) (fun e => e = (1, (nI i).toNatClampNeg, (P, X, Y, D, N), [])) ((mUnstand u (nI i) P X Y D N).2 22 i) (k9, z9, f9) := by
  have hn : bw (u.1 3) 0 80 = true := by rw [← hk0]; exact hI.1.1
  have hb := bw_it hn hi
  have eI : (nI i).toNatClampNeg = i := nI_clamp (by omega)
  have n0 : ¬ u.2 22 (nI i).toNatClampNeg = 0 := fun e => h0c (by rw [eI] at e; rw [e]; decide)
  have n3 : ¬ u.1 28 = 300 := by rw [← hk1]; exact (n300 hI.1.2.1).2 hca
  obtain ⟨g, g1, g2⟩ := hk3
  rw [eI]
  unfold mLift
  rw [if_pos hb.1, if_neg n0, if_neg n3]
  dsimp only
  refine ⟨hE, hI9, ?_, rep_rows hrp9 rfl (fun r hr => un_ac (mActs_k _ _ _ _ _ _ _ _ (by omega)) (mActs_k _ _ _ _ _ _ _ _ (by omega)) (mActs_k _ _ _ _ _ _ _ _ (by omega))), fun j hj => by rw [hkc]; exact kup_o hj, ?_, Or.inr ⟨g, a, _, by rw [← h3m]; exact g1, g2, by show k9 1 = _; rw [hkc, kup_s], ?_, rfl⟩⟩
  · rw [eI, un_ac (mActs_k _ _ _ _ _ _ _ _ (by omega)) (mActs_k _ _ _ _ _ _ _ _ (by omega)) (mActs_k _ _ _ _ _ _ _ _ (by omega))]
  · show k9 1 = u.1 28 + 1
    rw [hkc, kup_s, hk1]
  · exact Or.inr (Or.inl ⟨rfl, b, hac, hpc⟩)
theorem le0z {c : Int32} {n : Nat} (h6 : n ≤ 6) (h : bw c 0 (nI n) = true) (hl : c ≤ 0) : c = 0 := by
  obtain ⟨e1, e2⟩ := cnN h6 h
  rw [i32_le, e1, nI_toInt (by omega), i0] at hl
  rw [e1, show c.toNatClampNeg = 0 by omega]; rfl
theorem lf_ca {q h0 d k u z f} {p0 : Int32} {i n : Nat} {g : Nat → Option Nat} {E : Nat → Nat → Nat → Nat → Nat → hE → Prop} (hI : xI q h0 d k z f) (h : rep q d u z f) (hk0 : k 0 = u.1 3) (hk1 : k 1 = u.1 28) (hpc : pcI u) (ep : p0 = nI i) (hi : i < (u.1 3).toNatClampNeg) (hps : f (d (3000 + i)) = aR (q 5) n g) (h6 : n ≤ 6) (hcb : bw (u.2 22 i) 0 (nI n) = true) (hca : 300 ≤ k 1) : ∃ P X Y D N, lfA u p0 P X Y D N ∧ actP q h0 d k z f (mLift u p0 P X Y D N) (E P X Y D N) (-1) (k, z, f) := by
  have e3 : u.1 28 = 300 := by rw [← hk1]; exact (n300 hI.1.2.1).1 hca
  have hi8 : i < 80 := by have := w80i hI.1.1 hk0; omega
  rcases Classical.em (u.2 22 i ≤ 0) with hl | hl
  · exact ⟨0, 0, 0, 0, 0, fun _ h2 => absurd (by rw [ep, nI_clamp (by omega)]; exact le0z h6 hcb hl) h2, actP_0 hI h hk1 (lf_3 e3)⟩
  · obtain ⟨hpos, b9, P, X, Y, D, N, el9, hpcx, hrx, s0, s1, s2, s3, s4⟩ := last_all hI h hpc hi hps h6 hcb hl
    refine ⟨P, X, Y, D, N, fun _ _ => ⟨hrx, ?_⟩, actP_0 hI h hk1 (lf_3 e3)⟩
    rw [ep, sl_e hi8 (cnN h6 hcb).1 hpos (by have := (cnN h6 hcb).2; omega)]
    exact ⟨s0, s1, s2, s3, s4⟩
set_option maxHeartbeats 4000000 in
set_option maxRecDepth 100000 in
theorem y_lift (l : Launch) (dC : Nat → ClassId) (dI : Nat → Nat → Nat) (q : Nat → ClassId) (h0 : Nat) (d : Nat → Nat) (k : Nat → Int32) (z : gS) (f : xF) (hI : xI q h0 d k z f) (p0 : Int32) (u : mS) (hrp : rep q d u z f) (hk0 : k 0 = u.1 3) (hk1 : k 1 = u.1 28) (hk2 : k 2 = u.1 38) (hk3 : k 3 = u.1 39) (hz0 : (z.2 h0).2.1 = 0) (hpcI : pcI u) (hne : ∀ j, j < 5760 → ¬ u.2 2 j = (-1)) (sz : Nat) : Met l yX11_lift wsX11_lift ({ frames := 5, cells := 1, slots := 4, locals := 109 }) (va_Pc [.ref h0, .int p0] (fun U => U.heap.size = sz ∧ PX dC dI (va_pl z.1 f) (xT q) U ∧ va_D (fun _ => True) (va_pl z.1 f))) (va_Qi (fun (r : Int32) (w : xU) => ∃ P X Y D N, lfA u p0 P X Y D N ∧ actP q h0 d k z f (mLift u p0 P X Y D N) (fun e => e = (1, p0.toNatClampNeg, (P, X, Y, D, N), [])) r w) (fun (w : xU) t => va_P (dC, dI) vwCl (va_pl w.2.1.1 w.2.2) t.heap ∧ va_D (va_A (va_pl z.1 f) sz) (va_pl w.2.1.1 w.2.2)) (va_A (va_pl z.1 f) sz)) 1 4 (va_A (va_pl z.1 f) sz) := by
  refine Met.ofW (cc := cX11_lift) (maxL := 4) (ret := (some .int)) (by decide) rfl ?_
  intro p e s m args below meth c s₁ B hml hv
  obtain ⟨rfl, hsz, ⟨⟨hP, hK, hN⟩, hXN⟩, hD0⟩ := hv
  have hx := B.exec
  have hb := B.bytes
  have hr := B.returns
  have hts := atoms_spec (ws := wsX11_lift) B.pre
  have hown : s.vm.findClass RX11 = some m.cls := findClass_of_methodNamed B.named
  have hlocks := B.notSynchronized
  subst hsz
  have hD := hD0.self (sz := s.heap.size)
  generalize hAe : va_A (va_pl z.1 f) s.heap.size = A at hD ⊢
  have hA : ∀ q : Nat, s.heap.size ≤ q → A q := fun q h => by rw [← hAe]; exact Or.inr h
  have hS : va_S A s.heap s.heap [] := va_S.rf
  have hl := lv_entry ([.ref h0, .int p0]) (n := 4) (Nat.le_of_ble_eq_true rfl)
  rw [lg_entry_eq]
  generalize (lg_sl ([.ref h0, .int p0]) ++ List.replicate (4 - (lg_sl ([.ref h0, .int p0])).length) Slot.unset).toArray = ls at hl ⊢
  have hl : lv_has ls 4 [(0, .ref h0), (1, .int p0)] := hl
  have hIo := hI
  have hk1o := hk1
  refine lv_aload_n hx hb dX11_lift_0 rfl (lv_at hl 0 rfl) ?_
  refine lv_iload_n hx hb dX11_lift_1 rfl (lv_at hl 1 rfl) ?_
  obtain ⟨kk_1, hk_2⟩ := pl_at hI.2.1.1.1 hI.2.2.2.1.1
  refine va_csq (va_runV (As := [.int p0]) (rest := []) ⟨hx, hb, hml, hown, hts⟩ (y_itemOf l dC dI q h0 d k z f hI p0 u hrp hk0 hk1 hk2 hk3) (cwV 1 hts gX11_lift_X11_itemOf rfl rfl rfl (by decide +kernel) ⟨Nat.le_of_ble_eq_true rfl, Nat.le_of_ble_eq_true rfl⟩) ⟨px_fb, va_recv hK hP (ci := 10) (q0 := kk_1) rfl hk_2, fun U hU hW => ⟨rfl, px_to hU hW hP hK hN hXN⟩⟩ rfl rfl hl.1 rfl (lv_room (Nat.le_of_ble_eq_true rfl)) dX11_lift_2 ⟨Nat.le_of_ble_eq_true rfl, Nat.le_of_ble_eq_true rfl⟩).run (fun r hw => ?_)
  rcases hw with ⟨hr9, hn9⟩ | ⟨i_3, hi_4, ep_5, hr9⟩
  ·
    subst hr9
    have hno_25 := hn9
    refine W.eq (g2 := F0 m 5 ls [.null]) rfl ?_
    refine lv_astore_nN (lv' := [(2, .null), (0, .ref h0), (1, .int p0)]) hx hb dX11_lift_5 rfl hl (by decide) rfl (fun ls hl => ?_)
    refine lv_aload_nN hx hb dX11_lift_6 rfl (lv_at hl 0 rfl) ?_
    refine lv_ifnullN (tgt := 17) hx hb dX11_lift_7 (by decide) ?_
    refine lv_iconst (v := (-1)) hx hb dX11_lift_17 (by decide) ?_
    refine W.widen (k := 1) (n := 4) (Nat.le_of_ble_eq_true rfl) (Nat.le_of_ble_eq_true rfl) ?_
    exact W.iret (v := (-1)) hx hb hr (fun t ht hW => ⟨⟨(-1), (k, z, f), rfl, ⟨0, 0, 0, 0, 0, fun h1 h2 => absurd h1 hno_25, actP_0 hI hrp hk1 (lf_i hno_25)⟩, by rw [ht]; exact hP, hD⟩, hS.F ht⟩) hS.2.2 dX11_lift_18
  ·
    subst hr9
    obtain ⟨rs_6, n_7, g_8, fg_9, hit_10, hs_11, hpa_12, hps_13, h1_14, h6_15, hcb_16, hpl_17, hlg_18, hnn_19, hfa_20, hfs_21, hfe_22, hrs_23, hkt_24⟩ := it_all hI hrp.2.2.1 hi_4
    refine W.eq (g2 := F0 m 5 ls [.ref (d (2000 + i_3))]) rfl ?_
    refine lv_astore_n (lv' := [(2, .ref (d (2000 + i_3))), (0, .ref h0), (1, .int p0)]) hx hb dX11_lift_5 rfl hl (by decide) rfl (fun ls hl => ?_)
    refine lv_aload_n hx hb dX11_lift_6 rfl (lv_at hl 0 rfl) ?_
    refine lv_ifnull hx hb dX11_lift_7 ?_
    refine lv_aload_n hx hb dX11_lift_10 rfl (lv_at hl 1 rfl) ?_
    obtain ⟨kk_26, hk_27⟩ := pl_at hI.2.1.1.1 hI.2.2.2.1.1
    refine vp_callSi (va_runV (As := []) (rest := []) ⟨hx, hb, hml, hown, hts⟩ (y_canAct l dC dI q h0 d k z f hI) (cwV 0 hts gX11_lift_X11_canAct rfl rfl rfl (by decide +kernel) ⟨Nat.le_of_ble_eq_true rfl, Nat.le_of_ble_eq_true rfl⟩) ⟨px_fb, va_recv hK hP (ci := 10) (q0 := kk_26) rfl hk_27, fun U hU hW => ⟨rfl, px_to hU hW hP hK hN hXN⟩⟩ rfl rfl hl.1 rfl (lv_room (Nat.le_of_ble_eq_true rfl)) dX11_lift_11 ⟨Nat.le_of_ble_eq_true rfl, Nat.le_of_ble_eq_true rfl⟩).run (fun r hw => ?_)
    rcases hw with ⟨hw, hca_28⟩ | ⟨hw, hca_28⟩
    ·
      subst hw
      refine lv_if_ne (tgt := 19) hx hb dX11_lift_14 (by decide) (fun c_29 => absurd (by decide) c_29) (fun c_29 => ?_)
      refine lv_iconst (v := (-1)) hx hb dX11_lift_17 (by decide) ?_
      refine W.widen (k := 1) (n := 4) (Nat.le_of_ble_eq_true rfl) (Nat.le_of_ble_eq_true rfl) ?_
      exact W.iret (v := (-1)) hx hb hr (fun t ht hW => ⟨⟨(-1), (k, z, f), rfl, (lf_ca hI hrp hk0 hk1 hpcI ep_5 hi_4 hps_13 h6_15 hcb_16 hca_28), by rw [ht]; exact hP, hD⟩, hS.F ht⟩) hS.2.2 dX11_lift_18
    ·
      subst hw
      refine lv_if_ne (tgt := 19) hx hb dX11_lift_14 (by decide) (fun c_30 => ?_) (fun c_30 => absurd c_30 (by decide))
      refine lv_aload_n hx hb dX11_lift_19 rfl (lv_at hl 0 rfl) ?_
      refine w_cut (X := fun R cells slots Q args => ∀ r : Option Nat, (r = s_last (u.2 22 i_3) g_8) → W p l e R s m args below meth c s.heap [] cells slots Q (F0 m 23 ls (va_rf r :: []))) ?_ (fun kC => ?_)
      ·
        intro r hw
        rcases Classical.em (u.2 22 i_3 ≤ 0) with hl0 | hl0
        ·
          obtain rfl : r = none := hw.trans (by unfold s_last; rw [if_pos hl0])
          refine W.eq (g2 := F0 m 23 ls [.null]) rfl ?_
          refine lv_astore_nN (lv' := [(3, .null), (2, .ref (d (2000 + i_3))), (0, .ref h0), (1, .int p0)]) hx hb dX11_lift_23 rfl hl (by decide) rfl (fun ls hl => ?_)
          refine lv_aload_nN hx hb dX11_lift_24 rfl (lv_at hl 0 rfl) ?_
          refine lv_ifnonnullN hx hb dX11_lift_25 ?_
          refine lv_iconst (v := (-1)) hx hb dX11_lift_28 (by decide) ?_
          refine W.widen (k := 1) (n := 4) (Nat.le_of_ble_eq_true rfl) (Nat.le_of_ble_eq_true rfl) ?_
          exact W.iret (v := (-1)) hx hb hr (fun t ht hW => ⟨⟨(-1), (k, z, f), rfl, ⟨0, 0, 0, 0, 0, fun h1 h2 => absurd (by rw [ep_5, nI_clamp (by have := w80i hIo.1.1 hk0; have := hi_4; omega)]; exact le0z h6_15 hcb_16 hl0) h2, actP_0 hI hrp hk1 (by rw [ep_5]; exact lf_0 (by rw [nI_clamp (by have := w80i hIo.1.1 hk0; have := hi_4; omega)]; exact le0z h6_15 hcb_16 hl0))⟩, by rw [ht]; exact hP, hD⟩, hS.F ht⟩) hS.2.2 dX11_lift_29
        ·
          obtain ⟨hpos, b9, P, X, Y, D, N, el9, hpcx, hrx, s0, s1, s2, s3, s4⟩ := last_all hI hrp hpcI hi_4 hps_13 h6_15 hcb_16 hl0
          obtain rfl : r = some b9 := hw.trans el9
          refine W.eq (g2 := F0 m 23 ls [.ref b9]) rfl ?_
          have hrx9 := hrx
          obtain ⟨hP9, hX, hD1, hY, hN1, hin⟩ := hrx9
          have hlgb := lg_of hpcx ⟨b7n (by omega), b60n (by omega), bwN (by have e8 : (8 : Int32).toInt = 8 := rfl; rw [e8]; omega) (by omega), b60n (by omega)⟩
          refine lv_astore_n (lv' := [(3, .ref b9), (2, .ref (d (2000 + i_3))), (0, .ref h0), (1, .int p0)]) hx hb dX11_lift_23 rfl hl (by decide) rfl (fun ls hl => ?_)
          refine lv_aload_n hx hb dX11_lift_24 rfl (lv_at hl 0 rfl) ?_
          refine lv_ifnonnull (tgt := 30) hx hb dX11_lift_25 (by decide) ?_
          refine lv_aload_n hx hb dX11_lift_30 rfl (lv_at hl 2 rfl) ?_
          refine lv_aload_n hx hb dX11_lift_31 rfl (lv_at hl 0 rfl) ?_
          obtain ⟨kk_126, hk_127⟩ := pl_at hI.2.1.1.1 hI.2.2.2.1.1
          have hFc := fr_all hD hS hA
          refine va_callv (va_runV (As := [.ref b9]) (rest := []) ⟨hx, hb, hml, hown, hts⟩ (y_offI l dC dI q h0 d k z f hI b9 P X Y D N u hrp hk0 hk1o hk2 hk3 hP9 hX hD1 hY hin hne i_3 hi_4 hpcx hpos s.heap.size) (cwV 1 hts gX11_lift_X11_takeOff rfl rfl rfl (by decide +kernel) ⟨Nat.le_of_ble_eq_true rfl, Nat.le_of_ble_eq_true rfl⟩) ⟨gx_fb, va_recv hK hP (ci := 10) (q0 := kk_126) rfl hk_127, fun U hU hW => ⟨rfl, by rw [hU], px_to hU hW hP hK hN hXN, hD.weaken (fun _ _ _ _ => trivial)⟩⟩ rfl rfl hl.1 rfl (lv_room (Nat.le_of_ble_eq_true rfl)) dX11_lift_32 ⟨Nat.le_of_ble_eq_true rfl, Nat.le_of_ble_eq_true rfl⟩) hS (fun q _ h => hFc q h) hFc (fun w_128 t H1 locs ht hvm hw hB hz1 hk1 hS => ?_)
          obtain ⟨hP, hD1⟩ := hB
          rw [ht] at hP
          rw [hw.2.1] at hP hD1
          have hD := hD1.weaken (fun _ q _ h => hFc q.1 h)
          have hI := hw.2.2.1
          have hw0 := hw
          generalize w_128.2.2 = f_129 at hP hD hI hw0
          generalize H1 = H at hP hS ⊢
          obtain ⟨u2, eu2⟩ : ∃ y : mS, y = mUnstand u (nI i_3) P X Y D N := ⟨_, rfl⟩
          have hrp2 : rep q d u2 z f_129 := by rw [eu2]; exact hw0.2.2.2.1
          have h3m : f_129 (d 3) = f (d 3) := hw0.2.2.2.2
          refine lv_aload_n hx hb dX11_lift_35 rfl (lv_at hl 2 rfl) ?_
          refine va_new (ci := 0) (fs := [.null, .int 0, .null, .int 0]) (C := RX0) (T := TX0) (N := 4) hx hb hts (by decide +kernel) tyX0 tyX0_ok hown (hts (.classLink RX11 28 RX0) (by decide +kernel)) (hts (.instantiable RX0 4) (by decide +kernel)) (hts (.initialized RX0) (by decide +kernel)) hK hP hD hS hA rfl nwX0 (Nat.le_of_ble_eq_true rfl) (Nat.le_of_ble_eq_true rfl) dX11_lift_36 (fun q_130 H hPn hDn hS => ?_)
          have hP := vaP_l hPn
          refine W.widen (k := 1) (n := 4) (Nat.le_of_ble_eq_true rfl) (Nat.le_of_ble_eq_true rfl) ?_
          refine lv_dup hx hb dX11_lift_39 rfl ?_
          refine lv_aload_n hx hb dX11_lift_40 rfl (lv_at hl 0 rfl) ?_
          refine lv_iconst (v := 1) hx hb dX11_lift_41 (by decide) ?_
          refine lv_null hx hb dX11_lift_42 ?_
          have hPc := vaP_r hPn
          have hDc := vaD_r hDn
          have hFc := fr_part hDn hS hA
          refine va_callv (va_runI (As := [.ref b9, .int 1, .null]) (rest := [.ref q_130, .ref h0]) ⟨hx, hb, hml, hown, hts⟩ (x_ActL l dC dI q_130 b9 H.size) (cwI 3 hts gX11_lift_X0_init rfl rfl rfl (hts (.initialized RX0) (by decide +kernel)) (hts (.methodLink RX11 163 yX0_init) (by decide +kernel)) (hts (.instanceMethod yX0_init) (by decide +kernel)) rfl (by decide +kernel) ⟨Nat.le_of_ble_eq_true rfl, Nat.le_of_ble_eq_true rfl⟩) ⟨gw_fb, fun U hU hW => ⟨rfl, by rw [hU], pw_to hU hW hPc (hK.sub (tys' := []) [] rfl) hN, hDc.weaken (fun _ _ _ _ => trivial)⟩⟩ rfl rfl hl.1 rfl (lv_room (Nat.le_of_ble_eq_true rfl)) dX11_lift_43 ⟨Nat.le_of_ble_eq_true rfl, Nat.le_of_ble_eq_true rfl⟩) hS (fun q _ h => hFc q h) hFc (fun u9 t H1 locs ht hvm hw hB hz1 hk1 hS => ?_)
          obtain ⟨hP1, hD1⟩ := hB
          rw [ht] at hP1
          obtain ⟨hP, hD⟩ := va_joinQ (X := [(q_130, .inr (0, [.null, .int 0, .null, .int 0]))]) (cx := [(q_130, .inr (0, [.null, .int 0, .null, .int 0]))]) (wr := []) (w1 := [(q_130, .inr (0, [.ref b9, .int 1, va_rf none, .int 1]))]) (pl := va_pl z.1 f_129) (vaP_swap hPn) (vaD_rotR hDn) [0] [] rfl rfl rfl (fun i hi => absurd hi List.not_mem_nil) hk1 hFc hP1 hD1
          generalize H1 = H at hP hS ⊢
          obtain ⟨hnm_131, hP, hD⟩ := pushC hP hD
          obtain ⟨z_132, ez_132⟩ : ∃ y : gS, y = pz z q_130 (23, 0, [.ref b9, .int 1, va_rf none, .int 1]) := ⟨_, rfl⟩
          obtain ⟨f_133, ef_133⟩ : ∃ y : xF, y = va_up f_129 q_130 (.inr (0, [.ref b9, .int 1, va_rf none, .int 1])) := ⟨_, rfl⟩
          have hE_134 : zE z z_132 := by rw [ez_132]; exact pz_E hnm_131 _
          have hI : xI q h0 d k z_132 f_133 := by rw [ez_132, ef_133]; exact x_push hI hnm_131 (Or.inr (by decide : (15 : Nat) < 23)) (cO_ac hlgb hnm_131)
          rw [show z.1 ++ [q_130] = z_132.1 from by rw [ez_132]; rfl, ← ef_133] at hP hD
          have hit_10 := zE_itm hE_134 hit_10
          have hpa_12 := zE_tg hE_134 hpa_12
          have hfa_20 := zE_tg hE_134 hfa_20
          have hlgb := zE_lg hE_134 hlgb
          have hpcx := zE_pc hE_134 hpcx
          have ht_135 : tg z_132 q_130 23 := by rw [ez_132]; exact pz_t _ _ _
          have hEz : zE z z_132 := zE_tr (zE_rf z) hE_134
          have h3m : f_133 (d 3) = f (d 3) := by rw [ef_133]; exact (up_o (fun e9 => hnm_131 (by rw [← e9]; exact hrp2.2.2.2.2.2.2.2.1.1.1))).trans h3m
          have hrp_136 : rep q d u2 z_132 f_133 := by rw [ez_132, ef_133]; exact rep_grow hrp2 (pz_E hnm_131 _) (oK_push (fun _ _ => rfl) (zE_rf _) hnm_131)
          refine W.eq (g2 := F0 m 46 ls [.ref q_130, .ref h0]) rfl ?_
          have hIb := hI
          have hcx : ¬ 300 ≤ k 1 := hca_28
          obtain ⟨kk_137, hk_138⟩ := pl_at hI.2.1.1.1 hI.2.2.2.1.1
          have hFc := fr_all hD hS hA
          refine va_callv (va_runV (As := [.ref q_130]) (rest := []) ⟨hx, hb, hml, hown, hts⟩ (y_keep l dC dI q h0 d k z_132 f_133 hI q_130 ht_135 hcx H.size) (cwV 1 hts gX11_lift_X11_keep rfl rfl rfl (by decide +kernel) ⟨Nat.le_of_ble_eq_true rfl, Nat.le_of_ble_eq_true rfl⟩) ⟨gx_fb, va_recv hK hP (ci := 10) (q0 := kk_137) rfl hk_138, fun U hU hW => ⟨rfl, by rw [hU], px_to hU hW hP hK hN hXN, hD.weaken (fun _ _ _ _ => trivial)⟩⟩ rfl rfl hl.1 rfl (lv_room (Nat.le_of_ble_eq_true rfl)) dX11_lift_46 ⟨Nat.le_of_ble_eq_true rfl, Nat.le_of_ble_eq_true rfl⟩) hS (fun q _ h => hFc q h) hFc (fun w_139 t H1 locs ht hvm hw hB hz1 hk1 hS => ?_)
          obtain ⟨hP, hD1⟩ := hB
          rw [ht] at hP
          rw [hw.1] at hP hD1
          have hD := hD1.weaken (fun _ q _ h => hFc q.1 h)
          have hI := hw.2.1
          have hw0 := hw
          generalize w_139.1 = k_141 at hI hw0
          generalize w_139.2.2 = f_140 at hP hD hI hw0
          generalize H1 = H at hP hS ⊢
          have hkp := hw0.2.2
          have hrp_142 : rep q d u2 z_132 f_140 := rep_kp hrp_136 hIb (by rw [zE_o hEz hIo.2.1.1.1]; exact hz0) hkp
          have hi3 : i_3 < (u2.1 3).toNatClampNeg := by rw [eu2]; exact hi_4
          obtain ⟨rs_143, n_144, g_145, fg_146, hit_147, hs_148, hpa_149, hps_150, h1_151, h6_152, hcb_153, hpl_154, hlg_155, hnn_156, hfa_157, hfs_158, hfe_159, hrs_160, hkt_161⟩ := it_all hI hrp_142.2.2.1 hi3
          refine lv_aload_n hx hb dX11_lift_49 rfl (lv_at hl 1 rfl) ?_
          obtain ⟨kk_162, hk_163⟩ := pl_at hit_147.1 hs_148
          refine w_then (F0 m 53 ls [.int (u2.2 22 i_3)]) (fun hgo => ?_) ?_
          ·
            rcases x_tag hit_147 with ht9 | ht9 | ht9 | ht9 | ht9 | ht9
            ·
              rw [ht9.2] at hk_163
              exact va_get (D := (dC, dI)) (ci := 2) (v := .int (u2.2 22 i_3)) (C := RX2) (T := TX2) (N := 7) hx hb hts (by decide +kernel) hown hK hP kk_162 hk_163 rfl 3 (by decide) (hts (.fieldLink RX11 170 "PageOne$Item" "count" "I") (by decide +kernel)) (fun _ h9 => h9) rfl dX11_lift_50 hgo
            ·
              rw [ht9.2] at hk_163
              exact va_get (D := (dC, dI)) (ci := 3) (v := .int (u2.2 22 i_3)) (C := RX3) (T := TX3) (N := 8) hx hb hts (by decide +kernel) hown hK hP kk_162 hk_163 rfl 3 (by decide) (hts (.fieldLink RX11 170 "PageOne$Item" "count" "I") (by decide +kernel)) (fun _ h9 => h9) rfl dX11_lift_50 hgo
            ·
              rw [ht9.2] at hk_163
              exact va_get (D := (dC, dI)) (ci := 4) (v := .int (u2.2 22 i_3)) (C := RX5) (T := TX5) (N := 7) hx hb hts (by decide +kernel) hown hK hP kk_162 hk_163 rfl 3 (by decide) (hts (.fieldLink RX11 170 "PageOne$Item" "count" "I") (by decide +kernel)) (fun _ h9 => h9) rfl dX11_lift_50 hgo
            ·
              rw [ht9.2] at hk_163
              exact va_get (D := (dC, dI)) (ci := 5) (v := .int (u2.2 22 i_3)) (C := RX6) (T := TX6) (N := 9) hx hb hts (by decide +kernel) hown hK hP kk_162 hk_163 rfl 3 (by decide) (hts (.fieldLink RX11 170 "PageOne$Item" "count" "I") (by decide +kernel)) (fun _ h9 => h9) rfl dX11_lift_50 hgo
            ·
              rw [ht9.2] at hk_163
              exact va_get (D := (dC, dI)) (ci := 6) (v := .int (u2.2 22 i_3)) (C := RX7) (T := TX7) (N := 8) hx hb hts (by decide +kernel) hown hK hP kk_162 hk_163 rfl 3 (by decide) (hts (.fieldLink RX11 170 "PageOne$Item" "count" "I") (by decide +kernel)) (fun _ h9 => h9) rfl dX11_lift_50 hgo
            ·
              rw [ht9.2] at hk_163
              exact va_get (D := (dC, dI)) (ci := 9) (v := .int (u2.2 22 i_3)) (C := RX10) (T := TX10) (N := 9) hx hb hts (by decide +kernel) hown hK hP kk_162 hk_163 rfl 3 (by decide) (hts (.fieldLink RX11 170 "PageOne$Item" "count" "I") (by decide +kernel)) (fun _ h9 => h9) rfl dX11_lift_50 hgo
          ·
            exact W.iret (v := (u2.2 22 i_3)) hx hb hr (fun t ht hW => ⟨⟨(u2.2 22 i_3), (k_141, z_132, f_140), rfl, ⟨P, X, Y, D, N, (fun _ _ => ⟨hrx, by rw [ep_5, sl_e (by have := w80i hIo.1.1 hk0; have := hi_4; omega) (cnN h6_15 hcb_16).1 hpos (by have := (cnN h6_15 hcb_16).2; have := h6_15; omega)]; exact ⟨s0, s1, s2, s3, s4⟩⟩), by rw [ep_5, show (u2.2 22 i_3) = (mUnstand u (nI i_3) P X Y D N).2 22 i_3 from by rw [eu2]]; exact lift_fin hIo hrp hk0 hk1o hi_4 hcx hl0 hEz hI (by rw [← eu2]; exact hrp_142) h3m hkp.1 (kp_3 hrp_136 hIb hkp) ⟨ht_135, by rw [ez_132, pz_s]⟩ hpcx⟩, by rw [ht]; exact hP, hD⟩, hS.F ht⟩) hS.2.2 dX11_lift_53
      ·
        rcases x_tag hit_10 with ht9 | ht9 | ht9 | ht9 | ht9 | ht9
        ·
          obtain ⟨nu_31, kd_32, cn_33, pa_34, fa_35, l_36, m_37, hs_38, hs_39, hs_40, hs_41⟩ := x_ifl hI ht9
          obtain ⟨kk_42, hk_43⟩ := pl_at ht9.1 hs_38
          exact va_csq (va_runU (As := []) (rest := []) ⟨hx, hb, hml, hown, hts⟩ (y_lastPiece l dC dI q h0 d k z f hI (d (2000 + i_3)) hit_10 (nI i_3) (u.2 4 i_3) (u.2 22 i_3) (d (3000 + i_3)) (d (4000 + i_3)) rs_6 hs_11 n_7 g_8 (pR u i_3) hpa_12 hps_13 h1_14 h6_15 hcb_16 hpl_17) (va_cwU 0 hts gX11_lift_X4_lastPiece_u173X2 rfl rfl rfl rfl (by decide +kernel) ⟨Nat.le_of_ble_eq_true rfl, Nat.le_of_ble_eq_true rfl⟩) ⟨px_fb, va_recv hK hP (ci := 2) (q0 := kk_42) rfl hk_43, fun U hU hW => ⟨rfl, px_to hU hW hP hK hN hXN⟩⟩ rfl rfl hl.1 rfl (lv_room (Nat.le_of_ble_eq_true rfl)) dX11_lift_20 ⟨Nat.le_of_ble_eq_true rfl, Nat.le_of_ble_eq_true rfl⟩).run (fun r hw => kC r hw)
        ·
          obtain ⟨nu_44, kd_45, cn_46, pa_47, fa_48, o_49, w_50, y_51, hs_52, hs_53, hs_54, hs_55, hq_56⟩ := x_ihd hI ht9
          obtain ⟨kk_57, hk_58⟩ := pl_at ht9.1 hs_52
          exact va_csq (va_runU (As := []) (rest := []) ⟨hx, hb, hml, hown, hts⟩ (y_lastPiece l dC dI q h0 d k z f hI (d (2000 + i_3)) hit_10 (nI i_3) (u.2 4 i_3) (u.2 22 i_3) (d (3000 + i_3)) (d (4000 + i_3)) rs_6 hs_11 n_7 g_8 (pR u i_3) hpa_12 hps_13 h1_14 h6_15 hcb_16 hpl_17) (va_cwU 0 hts gX11_lift_X4_lastPiece_u173X3 rfl rfl rfl rfl (by decide +kernel) ⟨Nat.le_of_ble_eq_true rfl, Nat.le_of_ble_eq_true rfl⟩) ⟨px_fb, va_recv hK hP (ci := 3) (q0 := kk_57) rfl hk_58, fun U hU hW => ⟨rfl, px_to hU hW hP hK hN hXN⟩⟩ rfl rfl hl.1 rfl (lv_room (Nat.le_of_ble_eq_true rfl)) dX11_lift_20 ⟨Nat.le_of_ble_eq_true rfl, Nat.le_of_ble_eq_true rfl⟩).run (fun r hw => kC r hw)
        ·
          obtain ⟨nu_59, kd_60, cn_61, pa_62, fa_63, o_64, y_65, hs_66, hs_67, hs_68, hs_69, hq_70⟩ := x_ino hI ht9
          obtain ⟨kk_71, hk_72⟩ := pl_at ht9.1 hs_66
          exact va_csq (va_runU (As := []) (rest := []) ⟨hx, hb, hml, hown, hts⟩ (y_lastPiece l dC dI q h0 d k z f hI (d (2000 + i_3)) hit_10 (nI i_3) (u.2 4 i_3) (u.2 22 i_3) (d (3000 + i_3)) (d (4000 + i_3)) rs_6 hs_11 n_7 g_8 (pR u i_3) hpa_12 hps_13 h1_14 h6_15 hcb_16 hpl_17) (va_cwU 0 hts gX11_lift_X4_lastPiece_u173X5 rfl rfl rfl rfl (by decide +kernel) ⟨Nat.le_of_ble_eq_true rfl, Nat.le_of_ble_eq_true rfl⟩) ⟨px_fb, va_recv hK hP (ci := 4) (q0 := kk_71) rfl hk_72, fun U hU hW => ⟨rfl, px_to hU hW hP hK hN hXN⟩⟩ rfl rfl hl.1 rfl (lv_room (Nat.le_of_ble_eq_true rfl)) dX11_lift_20 ⟨Nat.le_of_ble_eq_true rfl, Nat.le_of_ble_eq_true rfl⟩).run (fun r hw => kC r hw)
        ·
          obtain ⟨nu_73, kd_74, cn_75, pa_76, fa_77, b_78, pr_79, sp_80, dy_81, hs_82, hs_83, hs_84, hs_85, hq_86, hq_87, hq_88⟩ := x_ipd hI ht9
          obtain ⟨kk_89, hk_90⟩ := pl_at ht9.1 hs_82
          exact va_csq (va_runU (As := []) (rest := []) ⟨hx, hb, hml, hown, hts⟩ (y_lastPiece l dC dI q h0 d k z f hI (d (2000 + i_3)) hit_10 (nI i_3) (u.2 4 i_3) (u.2 22 i_3) (d (3000 + i_3)) (d (4000 + i_3)) rs_6 hs_11 n_7 g_8 (pR u i_3) hpa_12 hps_13 h1_14 h6_15 hcb_16 hpl_17) (va_cwU 0 hts gX11_lift_X4_lastPiece_u173X6 rfl rfl rfl rfl (by decide +kernel) ⟨Nat.le_of_ble_eq_true rfl, Nat.le_of_ble_eq_true rfl⟩) ⟨px_fb, va_recv hK hP (ci := 5) (q0 := kk_89) rfl hk_90, fun U hU hW => ⟨rfl, px_to hU hW hP hK hN hXN⟩⟩ rfl rfl hl.1 rfl (lv_room (Nat.le_of_ble_eq_true rfl)) dX11_lift_20 ⟨Nat.le_of_ble_eq_true rfl, Nat.le_of_ble_eq_true rfl⟩).run (fun r hw => kC r hw)
        ·
          obtain ⟨nu_91, kd_92, cn_93, pa_94, fa_95, ww_96, hh_97, sz_98, hs_99, hs_100, hs_101, hs_102, hq_103, hq_104, hq_105⟩ := x_ipi hI ht9
          obtain ⟨kk_106, hk_107⟩ := pl_at ht9.1 hs_99
          exact va_csq (va_runU (As := []) (rest := []) ⟨hx, hb, hml, hown, hts⟩ (y_lastPiece l dC dI q h0 d k z f hI (d (2000 + i_3)) hit_10 (nI i_3) (u.2 4 i_3) (u.2 22 i_3) (d (3000 + i_3)) (d (4000 + i_3)) rs_6 hs_11 n_7 g_8 (pR u i_3) hpa_12 hps_13 h1_14 h6_15 hcb_16 hpl_17) (va_cwU 0 hts gX11_lift_X4_lastPiece_u173X7 rfl rfl rfl rfl (by decide +kernel) ⟨Nat.le_of_ble_eq_true rfl, Nat.le_of_ble_eq_true rfl⟩) ⟨px_fb, va_recv hK hP (ci := 6) (q0 := kk_106) rfl hk_107, fun U hU hW => ⟨rfl, px_to hU hW hP hK hN hXN⟩⟩ rfl rfl hl.1 rfl (lv_room (Nat.le_of_ble_eq_true rfl)) dX11_lift_20 ⟨Nat.le_of_ble_eq_true rfl, Nat.le_of_ble_eq_true rfl⟩).run (fun r hw => kC r hw)
        ·
          obtain ⟨nu_108, kd_109, cn_110, pa_111, fa_112, l_113, co_114, wd_115, nm_116, hs_117, hs_118, hs_119, hs_120, hq_121, hq_122, hq_123⟩ := x_ist hI ht9
          obtain ⟨kk_124, hk_125⟩ := pl_at ht9.1 hs_117
          exact va_csq (va_runU (As := []) (rest := []) ⟨hx, hb, hml, hown, hts⟩ (y_lastPiece l dC dI q h0 d k z f hI (d (2000 + i_3)) hit_10 (nI i_3) (u.2 4 i_3) (u.2 22 i_3) (d (3000 + i_3)) (d (4000 + i_3)) rs_6 hs_11 n_7 g_8 (pR u i_3) hpa_12 hps_13 h1_14 h6_15 hcb_16 hpl_17) (va_cwU 0 hts gX11_lift_X4_lastPiece_u173X10 rfl rfl rfl rfl (by decide +kernel) ⟨Nat.le_of_ble_eq_true rfl, Nat.le_of_ble_eq_true rfl⟩) ⟨px_fb, va_recv hK hP (ci := 9) (q0 := kk_124) rfl hk_125, fun U hU hW => ⟨rfl, px_to hU hW hP hK hN hXN⟩⟩ rfl rfl hl.1 rfl (lv_room (Nat.le_of_ble_eq_true rfl)) dX11_lift_20 ⟨Nat.le_of_ble_eq_true rfl, Nat.le_of_ble_eq_true rfl⟩).run (fun r hw => kC r hw)
