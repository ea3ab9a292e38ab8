theorem mCA {u : mS} {p c l : Int32} (h : mCellAt u p c l = (-2)) : mCell u p c l = true ∧ u.2 2 (480 * p + 60 * c + l).toNatClampNeg = (-2) := by
  unfold mCellAt at h
  by_cases e : mCell u p c l = true
  · rw [if_pos e] at h; exact ⟨e, h⟩
  · rw [if_neg e] at h; exact absurd h (by decide)
theorem rule_fr {gl gc : Nat → Int32} {u : mS} {p0 p1 p2 : Int32} (b : bw p0 0 11 = true) (el : eqR 8 gl (u.2 0) (8 * p0.toNatClampNeg)) (ec : eqR 480 gc (u.2 2) (480 * p0.toNatClampNeg)) (hgb : ∀ j, j < 8 → bw (gl j) 0 60 = true) (h : shFr gl gc p1 p2 1 1) : ∃ P X Y, p0 = nI P ∧ p1 = nI X ∧ p2 = nI Y ∧ P < 12 ∧ X + 1 ≤ 8 ∧ Y + 1 ≤ 60 ∧ (∀ a, a < 1 → Y + 1 ≤ (u.2 0 (8 * P + (X + a))).toNatClampNeg) ∧ mCell u p0 p1 p2 = true ∧ u.2 2 (480 * p0 + 60 * p1 + p2).toNatClampNeg = (-2) := by
  obtain ⟨P, hP, -, eP⟩ := exN b (by decide)
  have h11 : (11 : Int32).toInt = 11 := rfl
  subst eP
  rw [nI_clamp (by omega)] at el ec
  have h1 := h.2.2.2 0 (by decide) 0 (by decide)
  rw [show nI 0 = (0 : Int32) from rfl, Int32.add_zero, Int32.add_zero, shAt_eq (by omega) el ec hgb] at h1
  obtain ⟨c1, c2⟩ := mCA h1
  obtain ⟨X, hX, -, eX⟩ := exN h.2.1 (by decide)
  have h7 : (7 : Int32).toInt = 7 := rfl
  subst eX
  have c3 := c1
  unfold mCell at c3
  rw [Bool.and_eq_true, Bool.and_eq_true] at c3
  have e0 : (8 * nI P + nI X).toNatClampNeg = 8 * P + X := by rw [show (8 : Int32) = nI 8 from rfl, pk_mul, nI_add, nI_clamp (by omega)]
  have hl := c3.2
  rw [e0] at hl
  have hb1 := hgb X (by omega)
  rw [el X (by omega)] at hb1
  obtain ⟨Y, hY, -, eY⟩ := exN (b59 hb1 hl) (by decide)
  have h59 : (59 : Int32).toInt = 59 := rfl
  subst eY
  refine ⟨P, X, Y, rfl, rfl, rfl, by omega, by omega, by omega, fun a ha => ?_, c1, c2⟩
  have ea : a = 0 := by omega
  subst ea
  obtain ⟨l1, l2, l3⟩ := nI_of_bw hb1
  have h4 := (bw_iff.mp hl).2
  have h60 : (60 : Int32).toInt = 60 := rfl
  show Y + 1 ≤ (u.2 0 (8 * P + X)).toNatClampNeg
  generalize (u.2 0 (8 * P + X)).toNatClampNeg = L at *
  rw [l1, show (1 : Int32) = nI 1 from rfl] at h4
  rcases Nat.lt_or_ge L 1 with q | q
  · have : L = 0 := by omega
    subst this
    rw [nI_toInt (by omega), show (nI 0 - nI 1 : Int32).toInt = -1 from rfl] at h4
    omega
  · rw [nI_sb (i := L) (r := 1) (by omega) (by omega), nI_toInt (by omega), nI_toInt (by omega)] at h4
    omega
theorem rl_n {gl gc : Nat → Int32} {u : mS} {p0 p1 p2 : Int32} (b : bw p0 0 11 = true) (el : eqR 8 gl (u.2 0) (8 * p0.toNatClampNeg)) (ec : eqR 480 gc (u.2 2) (480 * p0.toNatClampNeg)) (hgb : ∀ j, j < 8 → bw (gl j) 0 60 = true) (h : ¬ shFr gl gc p1 p2 1 1) : mRule u p0 p1 p2 = (0, u) := by
  unfold mRule
  by_cases c1 : mCell u p0 p1 p2 = true
  · rw [if_pos c1]
    by_cases c2 : u.2 2 (480 * p0 + 60 * p1 + p2).toNatClampNeg = (-2)
    · exfalso
      apply h
      obtain ⟨P, hP, -, eP⟩ := exN b (by decide)
      have h11 : (11 : Int32).toInt = 11 := rfl
      subst eP
      rw [nI_clamp (by omega)] at el ec
      have c3 := c1
      unfold mCell at c3
      rw [Bool.and_eq_true, Bool.and_eq_true] at c3
      obtain ⟨X, hX, -, eX⟩ := exN c3.1.2 (by decide)
      have h7 : (7 : Int32).toInt = 7 := rfl
      subst eX
      have e0 : (8 * nI P + nI X).toNatClampNeg = 8 * P + X := by rw [show (8 : Int32) = nI 8 from rfl, pk_mul, nI_add, nI_clamp (by omega)]
      have hl := c3.2
      rw [e0] at hl
      have hb1 := hgb X (by omega)
      rw [el X (by omega)] at hb1
      refine ⟨by decide, c3.1.2, b59 hb1 hl, fun a ha a2 ha2 => ?_⟩
      have ea : a = 0 := by have e1 : (1 : Int32).toNatClampNeg = 1 := rfl; rw [e1] at ha; omega
      have ea2 : a2 = 0 := by have e1 : (1 : Int32).toNatClampNeg = 1 := rfl; rw [e1] at ha2; omega
      subst ea ea2
      rw [show nI 0 = (0 : Int32) from rfl, Int32.add_zero, Int32.add_zero, shAt_eq (by omega) el ec hgb]
      unfold mCellAt
      rw [if_pos c1, c2]
    · rw [if_neg c2]
  · rw [if_neg c1]
theorem rl_p {u : mS} {p c l : Int32} (h : ¬ bw p 0 11 = true) : mRule u p c l = (0, u) := by
  unfold mRule
  rw [if_neg (fun e => h ?_)]
  unfold mCell at e
  rw [Bool.and_eq_true, Bool.and_eq_true] at e
  exact e.1.1
theorem rl_3 {u : mS} {p c l : Int32} (h : u.1 28 = 300) : mRule u p c l = (0, u) := by
  unfold mRule
  rw [if_pos h]; repeat' split
  all_goals rfl
theorem setR_11 (f : Nat → Int32) (P X Y : Nat) (x : Int32) : setR f P X Y 1 x 1 = upd f (480 * P + 60 * X + Y) x := by
  funext j
  show setC f P (X + 0) Y 1 x j = upd f (480 * P + 60 * X + Y) x j
  unfold setC upd
  by_cases e : j = 480 * P + 60 * X + Y
  · rw [if_pos e, if_pos (by omega)]
  · rw [if_neg e, if_neg (by omega)]
theorem rule_fin {q h0 d k u z f z9 f9 k9} {a b P X Y : Nat} {fc : xF} (hI : xI q h0 d k z f) (hk1 : k 1 = u.1 28) (hca : ¬ 300 ≤ k 1) (hP : P < 12) (hX : X + 1 ≤ 8) (hY : Y + 1 ≤ 60) (hc : mCell u (nI P) (nI X) (nI Y) = true) (hv : u.2 2 (480 * nI P + 60 * nI X + nI Y).toNatClampNeg = (-2)) (hE : zE z z9) (hI9 : xI q h0 d k9 z9 f9) (hrp9 : rep q d (mput u 2 (setR (u.2 2) P X Y 1 100 1)) z9 f9) (h3m : fc (d 3) = f (d 3)) (hkc : k9 = kup k 1 (k 1 + 1)) (hk3 : ∃ g, fc (d 3) = aR (q 4) 300 g ∧ f9 (d 3) = aR (q 4) 300 (va_up g (k 1).toNatClampNeg (some a))) (hac : acS z9 a b 0 1 none) (hpc : pcS z9 b none (nI P) (nI X) (nI Y) 1 1) : actP q h0 d k z f (mRule u (nI P) (nI X) (nI Y)) (fun e => ∃ P2 X2 Y2, e = (2, 0, (P2, X2, Y2, 1, 1), []) ∧ nI P = nI P2 ∧ nI X = nI X2 ∧ nI Y = nI Y2 ∧ P2 < 12 ∧ X2 < 8 ∧ Y2 < 60) 1 (k9, z9, f9) := by
  have n3 : ¬ u.1 28 = 300 := by rw [← hk1]; exact (n300 hI.1.2.1).2 hca
  obtain ⟨g, g1, g2⟩ := hk3
  unfold mRule
  rw [if_pos hc, if_pos hv, if_neg n3]
  refine ⟨hE, hI9, rfl, rep_rows hrp9 rfl (fun r hr => ?_), fun j hj => by rw [hkc]; exact kup_o hj, ?_, Or.inr ⟨g, a, (2, 0, (P, X, Y, 1, 1), []), by rw [← h3m]; exact g1, g2, by show k9 1 = _; rw [hkc, kup_s], ?_, P, X, Y, rfl, rfl, rfl, rfl, by omega, by omega, by omega⟩⟩
  · show (mActs _ _ _ _ _ _ _ _).2 r = _
    rw [mActs_k _ _ _ _ _ _ _ _ (by omega)]
    by_cases e : r = 2
    · subst e
      rw [mput_at, setR_11]
      funext j
      rw [mst_at, idxN hP (by omega) (by omega), nI_clamp (by omega)]; rfl
    · rw [mst_other e, mput_other e]
  · show k9 1 = u.1 28 + 1
    rw [hkc, kup_s, hk1]
  · exact Or.inr (Or.inr (Or.inl ⟨rfl, b, hac, hpc⟩))
set_option maxHeartbeats 4000000 in
set_option maxRecDepth 100000 in
theorem y_rule (l : Launch) (dC : Nat → ClassId) (dI : Nat → Nat → Nat) (q : Nat → ClassId) (h0 : Nat) (d : Nat → Nat) (k : Nat → Int32) (z : gS) (f : xF) (hI : xI q h0 d k z f) (p0 p1 p2 : Int32) (u : mS) (hrp : rep q d u z f) (hk0 : k 0 = u.1 3) (hk1 : k 1 = u.1 28) (hk2 : k 2 = u.1 38) (hk3 : k 3 = u.1 39) (hz0 : (z.2 h0).2.1 = 0) (hne : ∀ j, j < 5760 → ¬ u.2 2 j = (-1)) (sz : Nat) : Met l yX11_rule wsX11_rule ({ frames := 5, cells := 2, slots := 10, locals := 109 }) (va_Pc [.ref h0, .int p0, .int p1, .int p2] (fun U => U.heap.size = sz ∧ PX dC dI (va_pl z.1 f) (xT q) U ∧ va_D (fun _ => True) (va_pl z.1 f))) (va_Qi (fun (r : Int32) (w : xU) => actP q h0 d k z f (mRule u p0 p1 p2) (fun e => ∃ P2 X2 Y2, e = (2, 0, (P2, X2, Y2, 1, 1), []) ∧ p0 = nI P2 ∧ p1 = nI X2 ∧ p2 = nI Y2 ∧ P2 < 12 ∧ X2 < 8 ∧ Y2 < 60) r w) (fun (w : xU) t => va_P (dC, dI) vwCl (va_pl w.2.1.1 w.2.2) t.heap ∧ va_D (va_A (va_pl z.1 f) sz) (va_pl w.2.1.1 w.2.2)) (va_A (va_pl z.1 f) sz)) 2 10 (va_A (va_pl z.1 f) sz) := by
  refine Met.ofW (cc := cX11_rule) (maxL := 5) (ret := (some .boolean)) (by decide) rfl ?_
  intro p e s m args below meth c s₁ B hml hv
  obtain ⟨rfl, hsz, ⟨⟨hP, hK, hN⟩, hXN⟩, hD0⟩ := hv
  have hx := B.exec
  have hb := B.bytes
  have hr := B.returns
  have hts := atoms_spec (ws := wsX11_rule) B.pre
  have hown : s.vm.findClass RX11 = some m.cls := findClass_of_methodNamed B.named
  have hlocks := B.notSynchronized
  subst hsz
  have hD := hD0.self (sz := s.heap.size)
  generalize hAe : va_A (va_pl z.1 f) s.heap.size = A at hD ⊢
  have hA : ∀ q : Nat, s.heap.size ≤ q → A q := fun q h => by rw [← hAe]; exact Or.inr h
  have hS : va_S A s.heap s.heap [] := va_S.rf
  have hl := lv_entry ([.ref h0, .int p0, .int p1, .int p2]) (n := 5) (Nat.le_of_ble_eq_true rfl)
  rw [lg_entry_eq]
  generalize (lg_sl ([.ref h0, .int p0, .int p1, .int p2]) ++ List.replicate (5 - (lg_sl ([.ref h0, .int p0, .int p1, .int p2])).length) Slot.unset).toArray = ls at hl ⊢
  have hl : lv_has ls 5 [(0, .ref h0), (1, .int p0), (2, .int p1), (3, .int p2)] := hl
  have hIo := hI
  have hk1o := hk1
  have h3m : f (d 3) = f (d 3) := rfl
  refine lv_iload_n hx hb dX11_rule_0 rfl (lv_at hl 1 rfl) ?_
  refine vp_callSi (va_runS (As := [.int p0]) (rest := []) ⟨hx, hb, hml, hown, hts⟩ (x_isPage l dC dI p0) (va_cwS 1 hts gX11_rule_X11_isPage rfl rfl rfl (by decide +kernel) ⟨Nat.le_of_ble_eq_true rfl, Nat.le_of_ble_eq_true rfl⟩) ⟨pw_fb, fun U hU hW => ⟨rfl, pw_to hU hW (hP.sub (ws' := []) [] rfl) (hK.sub (tys' := []) [] rfl) hN⟩⟩ rfl rfl hl.1 rfl (lv_room (Nat.le_of_ble_eq_true rfl)) dX11_rule_1 ⟨Nat.le_of_ble_eq_true rfl, Nat.le_of_ble_eq_true rfl⟩).run (fun r hw => ?_)
  rcases Bool.eq_false_or_eq_true (bw p0 0 11) with b_1 | b_1
  ·
    obtain rfl : r = 1 := b_t hw b_1
    refine lv_if_eq (tgt := 14) hx hb dX11_rule_4 (by decide) (fun c_2 => absurd c_2 (by decide)) (fun c_2 => ?_)
    refine lv_aload_n hx hb dX11_rule_7 rfl (lv_at hl 0 rfl) ?_
    obtain ⟨kk_3, hk_4⟩ := pl_at hI.2.1.1.1 hI.2.2.2.1.1
    refine vp_callSi (va_runV (As := []) (rest := []) ⟨hx, hb, hml, hown, hts⟩ (y_canAct l dC dI q h0 d k z f hI) (cwV 0 hts gX11_rule_X11_canAct rfl rfl rfl (by decide +kernel) ⟨Nat.le_of_ble_eq_true rfl, Nat.le_of_ble_eq_true rfl⟩) ⟨px_fb, va_recv hK hP (ci := 10) (q0 := kk_3) rfl hk_4, fun U hU hW => ⟨rfl, px_to hU hW hP hK hN hXN⟩⟩ rfl rfl hl.1 rfl (lv_room (Nat.le_of_ble_eq_true rfl)) dX11_rule_8 ⟨Nat.le_of_ble_eq_true rfl, Nat.le_of_ble_eq_true rfl⟩).run (fun r hw => ?_)
    rcases hw with ⟨hw, hca_5⟩ | ⟨hw, hca_5⟩
    ·
      subst hw
      refine lv_if_ne (tgt := 16) hx hb dX11_rule_11 (by decide) (fun c_6 => absurd (by decide) c_6) (fun c_6 => ?_)
      refine lv_iconst (v := 0) hx hb dX11_rule_14 (by decide) ?_
      refine W.widen (k := 2) (n := 10) (Nat.le_of_ble_eq_true rfl) (Nat.le_of_ble_eq_true rfl) ?_
      exact W.zret (v := 0) hx hb hr (by decide) (fun t ht hW => ⟨⟨0, (k, z, f), rfl, (actP_0 hI hrp hk1o (rl_3 (by rw [← hk1o]; exact (n300 hI.1.2.1).1 hca_5))), by rw [ht]; exact hP, hD⟩, hS.F ht⟩) hS.2.2 dX11_rule_15
    ·
      subst hw
      refine lv_if_ne (tgt := 16) hx hb dX11_rule_11 (by decide) (fun c_7 => ?_) (fun c_7 => absurd c_7 (by decide))
      refine va_new (ci := 7) (fs := [.null, .int 0, .int 0, .int 0, .int 0, .int 0]) (C := RX8) (T := TX8) (N := 6) hx hb hts (by decide +kernel) tyX8 tyX8_ok hown (hts (.classLink RX11 106 RX8) (by decide +kernel)) (hts (.instantiable RX8 6) (by decide +kernel)) (hts (.initialized RX8) (by decide +kernel)) hK hP hD hS hA rfl nwX8 (Nat.le_of_ble_eq_true rfl) (Nat.le_of_ble_eq_true rfl) dX11_rule_16 (fun q_8 H hPn hDn hS => ?_)
      have hP := vaP_l hPn
      refine W.widen (k := 1) (n := 6) (Nat.le_of_ble_eq_true rfl) (Nat.le_of_ble_eq_true rfl) ?_
      refine lv_dup hx hb dX11_rule_19 rfl ?_
      refine lv_null hx hb dX11_rule_20 ?_
      refine lv_iload_n hx hb dX11_rule_21 rfl (lv_at hl 1 rfl) ?_
      refine lv_iload_n hx hb dX11_rule_22 rfl (lv_at hl 2 rfl) ?_
      refine lv_iload_n hx hb dX11_rule_23 rfl (lv_at hl 3 rfl) ?_
      refine lv_iconst (v := 1) hx hb dX11_rule_24 (by decide) ?_
      refine lv_iconst (v := 1) hx hb dX11_rule_25 (by decide) ?_
      have hPc := vaP_r hPn
      have hDc := vaD_r hDn
      have hFc := fr_part hDn hS hA
      refine va_callv (va_runI (As := [.null, .int p0, .int p1, .int p2, .int 1, .int 1]) (rest := [.ref q_8]) ⟨hx, hb, hml, hown, hts⟩ (x_PieceN l dC dI q_8 p0 p1 p2 1 1 H.size) (cwI 6 hts gX11_rule_X8_init rfl rfl rfl (hts (.initialized RX8) (by decide +kernel)) (hts (.methodLink RX11 108 yX8_init) (by decide +kernel)) (hts (.instanceMethod yX8_init) (by decide +kernel)) rfl (by decide +kernel) ⟨Nat.le_of_ble_eq_true rfl, Nat.le_of_ble_eq_true rfl⟩) ⟨gw_fb, fun U hU hW => ⟨rfl, by rw [hU], pw_to hU hW hPc (hK.sub (tys' := []) [] rfl) hN, hDc.weaken (fun _ _ _ _ => trivial)⟩⟩ rfl rfl hl.1 rfl (lv_room (Nat.le_of_ble_eq_true rfl)) dX11_rule_26 ⟨Nat.le_of_ble_eq_true rfl, Nat.le_of_ble_eq_true rfl⟩) hS (fun q _ h => hFc q h) hFc (fun u9 t H1 locs ht hvm hw hB hz1 hk1 hS => ?_)
      obtain ⟨hP1, hD1⟩ := hB
      rw [ht] at hP1
      obtain ⟨hP, hD⟩ := va_joinQ (X := [(q_8, .inr (7, [.null, .int 0, .int 0, .int 0, .int 0, .int 0]))]) (cx := [(q_8, .inr (7, [.null, .int 0, .int 0, .int 0, .int 0, .int 0]))]) (wr := []) (w1 := [(q_8, .inr (7, [va_rf none, .int p0, .int p1, .int p2, .int 1, .int 1]))]) (pl := va_pl z.1 f) (vaP_swap hPn) (vaD_rotR hDn) [0] [] rfl rfl rfl (fun i hi => absurd hi List.not_mem_nil) hk1 hFc hP1 hD1
      generalize H1 = H at hP hS ⊢
      obtain ⟨hnm_9, hP, hD⟩ := pushC hP hD
      obtain ⟨z_10, ez_10⟩ : ∃ y : gS, y = pz z q_8 (22, 0, [va_rf none, .int p0, .int p1, .int p2, .int 1, .int 1]) := ⟨_, rfl⟩
      obtain ⟨f_11, ef_11⟩ : ∃ y : xF, y = va_up f q_8 (.inr (7, [va_rf none, .int p0, .int p1, .int p2, .int 1, .int 1])) := ⟨_, rfl⟩
      have hE_12 : zE z z_10 := by rw [ez_10]; exact pz_E hnm_9 _
      have hI : xI q h0 d k z_10 f_11 := by rw [ez_10, ef_11]; exact x_push hI hnm_9 (Or.inr (by decide : (15 : Nat) < 22)) (cO_pc b_1 ty_n hnm_9)
      rw [show z.1 ++ [q_8] = z_10.1 from by rw [ez_10]; rfl, ← ef_11] at hP hD
      have ht_13 : tg z_10 q_8 22 := by rw [ez_10]; exact pz_t _ _ _
      have hEz : zE z z_10 := zE_tr (zE_rf z) hE_12
      have h3m : f_11 (d 3) = f (d 3) := by rw [ef_11]; exact (up_o (fun e9 => hnm_9 (by rw [← e9]; exact hrp.2.2.2.2.2.2.2.1.1.1))).trans h3m
      have hrp_14 : rep q d u z_10 f_11 := by rw [ez_10, ef_11]; exact rep_grow hrp (pz_E hnm_9 _) (oK_push (fun _ _ => rfl) (zE_rf _) hnm_9)
      refine W.eq (g2 := F0 m 29 ls [.ref q_8]) rfl ?_
      have hp_15 : pcS z_10 q_8 none p0 p1 p2 1 1 := ⟨ht_13, by rw [ez_10, pz_s]⟩
      refine lv_astore (lv' := [(4, .ref q_8), (0, .ref h0), (1, .int p0), (2, .int p1), (3, .int p2)]) hx hb dX11_rule_29 hl (by decide) rfl (fun ls hl => ?_)
      refine lv_aload_n hx hb dX11_rule_31 rfl (lv_at hl 1 rfl) ?_
      obtain ⟨kk_16, hk_17⟩ := pl_at hI.2.1.1.1 hI.2.2.2.1.1
      refine va_get (D := (dC, dI)) (ci := 10) (v := .ref (d 0)) (C := RX11) (T := TX11) (N := 9) hx hb hts (by decide +kernel) hown hK hP kk_16 hk_17 rfl 0 (by decide) (hts (.fieldLink RX11 11 "PageOne" "pages" "[LPageOne$Sheet;") (by decide +kernel)) (fun _ h9 => h9) rfl dX11_rule_32 ?_
      refine lv_iload_n hx hb dX11_rule_35 rfl (lv_at hl 2 rfl) ?_
      obtain ⟨g_18, hs_19, hg_20⟩ := x_pg hI hI.2.1.2.1
      obtain ⟨kk_21, hk_22⟩ := pl_at hI.2.1.2.1.1 hs_19
      refine va_aldq hx hb hK hP kk_21 2 hk_22 rfl (vin b_1 (by decide)) dX11_rule_36 ?_
      obtain ⟨b_23, hg_24, ht_25⟩ := hg_20 _ (vlt (vin b_1 (by decide)))
      rw [hg_24]
      refine W.eq (g2 := F0 m 37 ls [.ref b_23]) rfl ?_
      have hb_26 := pg_at hrp_14.1 hs_19 (clp b_1) hg_24
      subst hb_26
      obtain ⟨dd_27, ii_28, gl_29, gc_30, ht_31, ht_32, ht_33, hs_34, hg_35, hgb_36, hc_37, el_38, ec_39⟩ := pg_all hI hrp_14.1 (clp b_1)
      refine lv_aload hx hb dX11_rule_37 (lv_at hl 0 rfl) ?_
      obtain ⟨kk_40, hk_41⟩ := pl_at ht_31.1 hs_34
      refine vp_callSi (va_runV (As := [.ref q_8]) (rest := []) ⟨hx, hb, hml, hown, hts⟩ (y_isFree l dC dI q h0 d k z_10 f_11 hI (d (10 + p0.toNatClampNeg)) (d (30 + p0.toNatClampNeg)) (d (50 + p0.toNatClampNeg)) (u.2 1 p0.toNatClampNeg) dd_27 ii_28 gl_29 gc_30 ht_31 hs_34 ht_32 ht_33 hg_35 hgb_36 hc_37 q_8 none p0 p1 p2 1 1 hp_15) (cwV 1 hts gX11_rule_X9_isFree rfl rfl rfl (by decide +kernel) ⟨Nat.le_of_ble_eq_true rfl, Nat.le_of_ble_eq_true rfl⟩) ⟨px_fb, va_recv hK hP (ci := 8) (q0 := kk_40) rfl hk_41, fun U hU hW => ⟨rfl, px_to hU hW hP hK hN hXN⟩⟩ rfl rfl hl.1 rfl (lv_room (Nat.le_of_ble_eq_true rfl)) dX11_rule_39 ⟨Nat.le_of_ble_eq_true rfl, Nat.le_of_ble_eq_true rfl⟩).run (fun r hw => ?_)
      rcases hw with ⟨hw, hfr_42⟩ | ⟨hw, hfr_42⟩
      ·
        subst hw
        obtain ⟨P, X, Y, eP, eX, eY, hP9, hX, hY, hin, hc9, hv9⟩ := rule_fr b_1 el_38 ec_39 hgb_36 hfr_42
        have hpcx : pcS z_10 q_8 none (nI P) (nI X) (nI Y) (nI 1) (nI 1) := by rw [← eP, ← eX, ← eY]; exact hp_15
        have hlg_43 := lg_of hpcx ⟨b7n (by omega), b60n (by omega), by decide, by decide⟩
        refine lv_if_ne (tgt := 47) hx hb dX11_rule_42 (by decide) (fun c_44 => ?_) (fun c_44 => absurd c_44 (by decide))
        refine lv_aload_n hx hb dX11_rule_47 rfl (lv_at hl 1 rfl) ?_
        refine lv_aload hx hb dX11_rule_48 (lv_at hl 0 rfl) ?_
        obtain ⟨kk_45, hk_46⟩ := pl_at hI.2.1.1.1 hI.2.2.2.1.1
        have hFc := fr_all hD hS hA
        refine va_callv (va_runV (As := [.ref q_8]) (rest := []) ⟨hx, hb, hml, hown, hts⟩ (y_standR l dC dI q h0 d k z_10 f_11 hI q_8 P X Y 1 1 u hrp_14 hk0 hk1o hk2 hk3 hP9 hX (by decide) hY hin hne hpcx H.size) (cwV 1 hts gX11_rule_X11_stand rfl rfl rfl (by decide +kernel) ⟨Nat.le_of_ble_eq_true rfl, Nat.le_of_ble_eq_true rfl⟩) ⟨gx_fb, va_recv hK hP (ci := 10) (q0 := kk_45) rfl hk_46, fun U hU hW => ⟨rfl, by rw [hU], px_to hU hW hP hK hN hXN, hD.weaken (fun _ _ _ _ => trivial)⟩⟩ rfl rfl hl.1 rfl (lv_room (Nat.le_of_ble_eq_true rfl)) dX11_rule_50 ⟨Nat.le_of_ble_eq_true rfl, Nat.le_of_ble_eq_true rfl⟩) hS (fun q _ h => hFc q h) hFc (fun w_47 t H1 locs ht hvm hw hB hz1 hk1 hS => ?_)
        obtain ⟨hP, hD1⟩ := hB
        rw [ht] at hP
        rw [hw.2.1] at hP hD1
        have hD := hD1.weaken (fun _ q _ h => hFc q.1 h)
        have hI := hw.2.2.1
        have hw0 := hw
        generalize w_47.2.2 = f_48 at hP hD hI hw0
        generalize H1 = H at hP hS ⊢
        obtain ⟨u2, eu2⟩ : ∃ y : mS, y = mput u 2 (setR (u.2 2) P X Y 1 100 1) := ⟨_, rfl⟩
        have hrp2 : rep q d u2 z_10 f_48 := by rw [eu2]; exact hw0.2.2.2.1
        have h3m : f_48 (d 3) = f (d 3) := hw0.2.2.2.2.trans h3m
        refine lv_aload_n hx hb dX11_rule_53 rfl (lv_at hl 1 rfl) ?_
        refine va_new (ci := 0) (fs := [.null, .int 0, .null, .int 0]) (C := RX0) (T := TX0) (N := 4) hx hb hts (by decide +kernel) tyX0 tyX0_ok hown (hts (.classLink RX11 28 RX0) (by decide +kernel)) (hts (.instantiable RX0 4) (by decide +kernel)) (hts (.initialized RX0) (by decide +kernel)) hK hP hD hS hA rfl nwX0 (Nat.le_of_ble_eq_true rfl) (Nat.le_of_ble_eq_true rfl) dX11_rule_54 (fun q_49 H hPn hDn hS => ?_)
        have hP := vaP_l hPn
        refine W.widen (k := 2) (n := 10) (Nat.le_of_ble_eq_true rfl) (Nat.le_of_ble_eq_true rfl) ?_
        refine lv_dup hx hb dX11_rule_57 rfl ?_
        refine lv_aload hx hb dX11_rule_58 (lv_at hl 0 rfl) ?_
        refine lv_iconst (v := 0) hx hb dX11_rule_60 (by decide) ?_
        refine lv_null hx hb dX11_rule_61 ?_
        have hPc := vaP_r hPn
        have hDc := vaD_r hDn
        have hFc := fr_part hDn hS hA
        refine va_callv (va_runI (As := [.ref q_8, .int 0, .null]) (rest := [.ref q_49, .ref h0]) ⟨hx, hb, hml, hown, hts⟩ (x_ActP l dC dI q_49 q_8 H.size) (cwI 3 hts gX11_rule_X0_init rfl rfl rfl (hts (.initialized RX0) (by decide +kernel)) (hts (.methodLink RX11 163 yX0_init) (by decide +kernel)) (hts (.instanceMethod yX0_init) (by decide +kernel)) rfl (by decide +kernel) ⟨Nat.le_of_ble_eq_true rfl, Nat.le_of_ble_eq_true rfl⟩) ⟨gw_fb, fun U hU hW => ⟨rfl, by rw [hU], pw_to hU hW hPc (hK.sub (tys' := []) [] rfl) hN, hDc.weaken (fun _ _ _ _ => trivial)⟩⟩ rfl rfl hl.1 rfl (lv_room (Nat.le_of_ble_eq_true rfl)) dX11_rule_62 ⟨Nat.le_of_ble_eq_true rfl, Nat.le_of_ble_eq_true rfl⟩) hS (fun q _ h => hFc q h) hFc (fun u9 t H1 locs ht hvm hw hB hz1 hk1 hS => ?_)
        obtain ⟨hP1, hD1⟩ := hB
        rw [ht] at hP1
        obtain ⟨hP, hD⟩ := va_joinQ (X := [(q_49, .inr (0, [.null, .int 0, .null, .int 0]))]) (cx := [(q_49, .inr (0, [.null, .int 0, .null, .int 0]))]) (wr := []) (w1 := [(q_49, .inr (0, [.ref q_8, .int 0, va_rf none, .int 1]))]) (pl := va_pl z_10.1 f_48) (vaP_swap hPn) (vaD_rotR hDn) [0] [] rfl rfl rfl (fun i hi => absurd hi List.not_mem_nil) hk1 hFc hP1 hD1
        generalize H1 = H at hP hS ⊢
        obtain ⟨hnm_50, hP, hD⟩ := pushC hP hD
        obtain ⟨z_51, ez_51⟩ : ∃ y : gS, y = pz z_10 q_49 (23, 0, [.ref q_8, .int 0, va_rf none, .int 1]) := ⟨_, rfl⟩
        obtain ⟨f_52, ef_52⟩ : ∃ y : xF, y = va_up f_48 q_49 (.inr (0, [.ref q_8, .int 0, va_rf none, .int 1])) := ⟨_, rfl⟩
        have hE_53 : zE z_10 z_51 := by rw [ez_51]; exact pz_E hnm_50 _
        have hI : xI q h0 d k z_51 f_52 := by rw [ez_51, ef_52]; exact x_push hI hnm_50 (Or.inr (by decide : (15 : Nat) < 23)) (cO_ac hlg_43 hnm_50)
        rw [show z_10.1 ++ [q_49] = z_51.1 from by rw [ez_51]; rfl, ← ef_52] at hP hD
        have hlg_43 := zE_lg hE_53 hlg_43
        have ht_31 := zE_tg hE_53 ht_31
        have ht_32 := zE_tg hE_53 ht_32
        have ht_33 := zE_tg hE_53 ht_33
        have hp_15 := zE_pc hE_53 hp_15
        have hpcx := zE_pc hE_53 hpcx
        have ht_54 : tg z_51 q_49 23 := by rw [ez_51]; exact pz_t _ _ _
        have hEz : zE z z_51 := zE_tr hEz hE_53
        have h3m : f_52 (d 3) = f (d 3) := by rw [ef_52]; exact (up_o (fun e9 => hnm_50 (by rw [← e9]; exact hrp2.2.2.2.2.2.2.2.1.1.1))).trans h3m
        have hrp_55 : rep q d u2 z_51 f_52 := by rw [ez_51, ef_52]; exact rep_grow hrp2 (pz_E hnm_50 _) (oK_push (fun _ _ => rfl) (zE_rf _) hnm_50)
        refine W.eq (g2 := F0 m 65 ls [.ref q_49, .ref h0]) rfl ?_
        have hIb := hI
        have hcx : ¬ 300 ≤ k 1 := hca_5
        obtain ⟨kk_56, hk_57⟩ := pl_at hI.2.1.1.1 hI.2.2.2.1.1
        have hFc := fr_all hD hS hA
        refine va_callv (va_runV (As := [.ref q_49]) (rest := []) ⟨hx, hb, hml, hown, hts⟩ (y_keep l dC dI q h0 d k z_51 f_52 hI q_49 ht_54 hcx H.size) (cwV 1 hts gX11_rule_X11_keep rfl rfl rfl (by decide +kernel) ⟨Nat.le_of_ble_eq_true rfl, Nat.le_of_ble_eq_true rfl⟩) ⟨gx_fb, va_recv hK hP (ci := 10) (q0 := kk_56) rfl hk_57, fun U hU hW => ⟨rfl, by rw [hU], px_to hU hW hP hK hN hXN, hD.weaken (fun _ _ _ _ => trivial)⟩⟩ rfl rfl hl.1 rfl (lv_room (Nat.le_of_ble_eq_true rfl)) dX11_rule_65 ⟨Nat.le_of_ble_eq_true rfl, Nat.le_of_ble_eq_true rfl⟩) hS (fun q _ h => hFc q h) hFc (fun w_58 t H1 locs ht hvm hw hB hz1 hk1 hS => ?_)
        obtain ⟨hP, hD1⟩ := hB
        rw [ht] at hP
        rw [hw.1] at hP hD1
        have hD := hD1.weaken (fun _ q _ h => hFc q.1 h)
        have hI := hw.2.1
        have hw0 := hw
        generalize w_58.1 = k_60 at hI hw0
        generalize w_58.2.2 = f_59 at hP hD hI hw0
        generalize H1 = H at hP hS ⊢
        have hkp := hw0.2.2
        have hrp_61 : rep q d u2 z_51 f_59 := rep_kp hrp_55 hIb (by rw [zE_o hEz hIo.2.1.1.1]; exact hz0) hkp
        refine lv_iconst (v := 1) hx hb dX11_rule_68 (by decide) ?_
        exact W.zret (v := 1) hx hb hr (by decide) (fun t ht hW => ⟨⟨1, (k_60, z_51, f_59), rfl, (by rw [eP, eX, eY] at hc9 hv9 ⊢; exact rule_fin hIo hk1o hcx hP9 hX hY hc9 hv9 hEz hI (by rw [← eu2]; exact hrp_61) h3m hkp.1 (kp_3 hrp_55 hIb hkp) ⟨ht_54, by rw [ez_51, pz_s]⟩ hpcx), by rw [ht]; exact hP, hD⟩, hS.F ht⟩) hS.2.2 dX11_rule_69
      ·
        subst hw
        refine lv_if_ne (tgt := 47) hx hb dX11_rule_42 (by decide) (fun c_62 => absurd (by decide) c_62) (fun c_62 => ?_)
        refine lv_iconst (v := 0) hx hb dX11_rule_45 (by decide) ?_
        refine W.widen (k := 2) (n := 10) (Nat.le_of_ble_eq_true rfl) (Nat.le_of_ble_eq_true rfl) ?_
        exact W.zret (v := 0) hx hb hr (by decide) (fun t ht hW => ⟨⟨0, (k, z_10, f_11), rfl, ⟨hEz, hI, by rw [rl_n b_1 el_38 ec_39 hgb_36 hfr_42], by rw [rl_n b_1 el_38 ec_39 hgb_36 hfr_42]; exact hrp_14, fun _ _ => rfl, by rw [rl_n b_1 el_38 ec_39 hgb_36 hfr_42]; exact hk1o, Or.inl ⟨h3m, rfl⟩⟩, by rw [ht]; exact hP, hD⟩, hS.F ht⟩) hS.2.2 dX11_rule_46
  ·
    obtain rfl : r = 0 := b_f hw b_1
    refine lv_if_eq (tgt := 14) hx hb dX11_rule_4 (by decide) (fun c_63 => ?_) (fun c_63 => absurd (by decide) c_63)
    refine lv_iconst (v := 0) hx hb dX11_rule_14 (by decide) ?_
    refine W.widen (k := 2) (n := 10) (Nat.le_of_ble_eq_true rfl) (Nat.le_of_ble_eq_true rfl) ?_
    exact W.zret (v := 0) hx hb hr (by decide) (fun t ht hW => ⟨⟨0, (k, z, f), rfl, (actP_0 hI hrp hk1o (rl_p (bne b_1))), by rw [ht]; exact hP, hD⟩, hS.F ht⟩) hS.2.2 dX11_rule_15
