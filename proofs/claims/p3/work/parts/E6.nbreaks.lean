/-- what cell (c, l) of page p and its neighbours below and beside break -/
def vTa (u : mS) (p : Int32) (c l : Nat) (t : tr3) : Prop := mCell u p (nI c) (nI l + 1) = true ∧ bsT u (u.2 2 (480 * p + 60 * nI c + nI l).toNatClampNeg) (u.2 2 (480 * p + 60 * nI c + (nI l + 1)).toNatClampNeg) 0 t
def vTb (u : mS) (p : Int32) (c l : Nat) (t : tr3) : Prop := mCell u p (nI c + 1) (nI l) = true ∧ bsT u (u.2 2 (480 * p + 60 * nI c + nI l).toNatClampNeg) (u.2 2 (480 * p + 60 * (nI c + 1) + nI l).toNatClampNeg) 1 t
def lnN (u : mS) (p : Int32) (c : Nat) : Nat := (u.2 0 (8 * p + nI c).toNatClampNeg).toNatClampNeg
/-- the cells before (c, l) -/
def vTS (u : mS) (p : Int32) (c l : Nat) (t : tr3) : Prop := ∃ c' l', c' < 8 ∧ l' < lnN u p c' ∧ (c' < c ∨ (c' = c ∧ l' < l)) ∧ (vTa u p c' l' t ∨ vTb u p c' l' t)
theorem vTS_n {u : mS} {p : Int32} {c l : Nat} (hc : c < 8) (hl : l < lnN u p c) (t : tr3) : (vTS u p c l t ∨ vTa u p c l t ∨ vTb u p c l t) ↔ vTS u p c (l + 1) t := by
  constructor
  · rintro (⟨c', l', a1, a2, a3, a4⟩ | h)
    · exact ⟨c', l', a1, a2, by omega, a4⟩
    · exact ⟨c, l, hc, hl, Or.inr ⟨rfl, Nat.lt_succ_self _⟩, h⟩
  · rintro ⟨c', l', a1, a2, a3, a4⟩
    by_cases e : c' = c ∧ l' = l
    · rw [e.1, e.2] at a4; exact Or.inr a4
    · exact Or.inl ⟨c', l', a1, a2, by omega, a4⟩
theorem vTS_c {u : mS} {p : Int32} {c : Nat} (t : tr3) : vTS u p c (lnN u p c) t ↔ vTS u p (c + 1) 0 t := by
  constructor
  · rintro ⟨c', l', a1, a2, a3, a4⟩
    exact ⟨c', l', a1, a2, by omega, a4⟩
  · rintro ⟨c', l', a1, a2, a3, a4⟩
    refine ⟨c', l', a1, a2, ?_, a4⟩
    by_cases e : c' = c
    · exact Or.inr ⟨e, by rw [← e]; exact a2⟩
    · exact Or.inl (by omega)
theorem vTS_0 {u : mS} {p : Int32} (t : tr3) : ¬ vTS u p 0 0 t := by
  rintro ⟨c', l', a1, a2, a3, a4⟩
  omega
theorem bsT_E {u w : mS} (h : mE u w) (a b ac : Int32) (t : tr3) : bsT w a b ac t ↔ bsT u a b ac t := by
  unfold bsT bT1 bT2 bT3 bC1 bCa bC3
  rw [h.1]
theorem bst_E {u w w2 : mS} (h : mE u w) {a b ac : Int32} (h2 : bst w w2 (bsT w a b ac)) : bst w w2 (bsT u a b ac) := bst_c h2 (bsT_E h a b ac)
theorem best_bst {u w : mS} {S T S2 : tr3 → Prop} (h : best S (wr3 u)) (h2 : bst u w T) (e : ∀ t, (S t ∨ T t) ↔ S2 t) : best S2 (wr3 w) := best_c (h2 S h) e
/-- is item j on page p -/
def ptC (u : mS) (p0 : Int32) (j9 t : Nat) : Prop := u.2 23 (6 * nI j9 + nI t).toNatClampNeg = p0
def thP (u : mS) (p0 : Int32) (j9 n : Nat) : Prop := ∃ t, t < n ∧ ptC u p0 j9 t
theorem thP_1 {u : mS} {p0 : Int32} {j9 i : Nat} (h : ptC u p0 j9 i) : (1 : Int32) = bP (thP u p0 j9 (i + 1)) := (bP_t ⟨i, Nat.lt_succ_self _, h⟩).symm
theorem thP_o {u : mS} {p0 a : Int32} {j9 i : Nat} (hg : a = bP (thP u p0 j9 i)) (h : ¬ a = 0) : (1 : Int32) = bP (thP u p0 j9 (i + 1)) := by
  have h2 : thP u p0 j9 i := Classical.byContradiction (fun q => h (by rw [hg, bP_f q]))
  obtain ⟨t, h3, h4⟩ := h2
  exact (bP_t ⟨t, by omega, h4⟩).symm
theorem thP_z {u : mS} {p0 a : Int32} {j9 i : Nat} (hg : a = bP (thP u p0 j9 i)) (h9 : a = 0) (h2 : ¬ ptC u p0 j9 i) : (0 : Int32) = bP (thP u p0 j9 (i + 1)) := by
  refine (bP_f ?_).symm
  rintro ⟨t, h3, h4⟩
  by_cases e : t = i
  · rw [e] at h4; exact h2 h4
  · have h5 : thP u p0 j9 i := ⟨t, by omega, h4⟩
    rw [h9, bP_t h5] at hg; exact absurd hg (by decide)
set_option maxHeartbeats 4000000 in
set_option maxRecDepth 100000 in
theorem n_br_in {p : Program} {l : Launch} {e : Env} {R : Room} {s : State} {m : MethodId} {args : Array Value} {below : List Frame} {meth : Method} {c : Code} {Q : State → Prop} {cells slots : Nat} {dC : Nat → ClassId} {dI : Nat → Nat → Nat} {h0 : Nat} {v : Nat → Nat} {cI cZ : ClassId} {u0 : mS} {p0 : Int32} (hp : bw p0 0 11 = true) (hln0 : ∀ j, j < 96 → bw (u0.2 0 j) 0 60 = true) (hcl0 : ∀ j, j < 5760 → mThing (u0.2 2 j) = true → bw (u0.2 2 j) 0 79 = true) (hk0 : ∀ j, j < 80 → u0.2 4 j = 3 → bw (u0.2 10 j) 0 9 = true) {c9 K : Nat} (hc8 : c9 < 8) (eK : u0.2 0 (8 * p0 + nI c9).toNatClampNeg = nI K) (hK6 : K ≤ 60) {A : Nat → Prop} {H0 : Heap} (hx : p.tables.exec = Jvm.exec) (hb : c.code = cX12_breaks) (hml : c.maxLocals = 5) (hts : ∀ w ∈ wsX12_breaks, w.before args s = true) (hown : s.vm.findClass RX12 = some m.cls) (hN : NN s) (hK : va_K (dC, dI) vwCl [(cI, .int), (cZ, .boolean)] s) (hRf : 3 ≤ R.frames) (hRl : 65 ≤ R.locals) (hRc : cells ≤ R.cells) (hRs : slots ≤ R.slots) (hA : ∀ q : Nat, H0.size ≤ q → A q) (kx : ∀ (u : mS) (H : Heap) (locs : List Loc) (ls : Array Slot), (mE u0 u ∧ best (vTS u0 p0 c9 K) (wr3 u)) → va_P (dC, dI) vwCl (mW h0 v cI cZ u) H → va_D A (mW h0 v cI cZ u) → va_S A H0 H locs → lv_has ls 5 [(3, .int (nI K)), (2, .int (nI c9)), (0, .ref h0), (1, .int p0)] → W p l e R s m args below meth c H locs cells slots Q (F0 m 123 ls [])) : ∀ (k i : Nat) (u : mS) (H : Heap) (locs : List Loc) (ls : Array Slot), i ≤ K → K - i < k → (mE u0 u ∧ best (vTS u0 p0 c9 i) (wr3 u)) → va_P (dC, dI) vwCl (mW h0 v cI cZ u) H → va_D A (mW h0 v cI cZ u) → va_S A H0 H locs → lv_has ls 5 [(3, .int (nI i)), (2, .int (nI c9)), (0, .ref h0), (1, .int p0)] → W p l e R s m args below meth c H locs cells slots Q (F0 m 25 ls []) := by
  intro k
  induction k with
  | zero => intro i u H locs ls h1 h2; exact absurd h2 (Nat.not_lt_zero _)
  | succ k ih =>
    intro i u H locs ls hi hk hg hP hD hS hl
    refine lv_iload_n hx hb dX12_breaks_25 rfl (lv_at hl 0 rfl) ?_
    refine lv_aload_n hx hb dX12_breaks_26 rfl (lv_at hl 2 rfl) ?_
    refine va_get (D := (dC, dI)) (ci := 11) (v := .ref (v 0)) (C := RX12) (T := TX12) (N := 52) hx hb hts (by decide +kernel) hown hK hP 0 rfl rfl 0 (by decide) (hts (.fieldLink RX12 7 "PageOneModel" "lines" "[I") (by decide +kernel)) (fun _ h9 => h9) rfl dX12_breaks_27 ?_
    refine lv_bipush (v := 8) hx hb dX12_breaks_30 (by decide) ?_
    refine lv_iload_n hx hb dX12_breaks_32 rfl (lv_at hl 3 rfl) ?_
    refine lv_imul hx hb dX12_breaks_33 ?_
    refine lv_iload_n hx hb dX12_breaks_34 rfl (lv_at hl 1 rfl) ?_
    refine lv_iadd hx hb dX12_breaks_35 ?_
    refine va_iald hx hb hK hP 1 0 rfl rfl (vin8 hp (bw7 hc8)) dX12_breaks_36 ?_
    refine lv_topi (fun y_1 ey_1 => ?_)
    obtain rfl : y_1 = (nI K) := ey_1.trans ((by rw [hg.1.1]; exact eK))
    refine lv_icmp_ge (tgt := 123) hx hb dX12_breaks_37 (by decide) (fun c_2 => ?_) (fun c_2 => ?_)
    ·
      have hie : i = K := lp_eq rfl (by omega) hi c_2
      rw [hie] at hg hl
      exact kx _ _ _ ls hg hP hD hS (lv_sub hl [0, 1, 2, 3] rfl)
    ·
      have hlt : i < K := lp_lt rfl (by omega) hi c_2
      have hg0 := hg
      have hb0 := hg.2
      have hg := hg.1
      have hlnu : ∀ j, j < 96 → bw (u.2 0 j) 0 60 = true := fun j hj => by rw [hg.1]; exact hln0 j hj
      have hlK : i < lnN u0 p0 c9 := by unfold lnN; rw [eK, nI_clamp (by omega)]; exact hlt
      refine lv_aload_n hx hb dX12_breaks_40 rfl (lv_at hl 2 rfl) ?_
      refine va_get (D := (dC, dI)) (ci := 11) (v := .ref (v 2)) (C := RX12) (T := TX12) (N := 52) hx hb hts (by decide +kernel) hown hK hP 0 rfl rfl 2 (by decide) (hts (.fieldLink RX12 16 "PageOneModel" "cell" "[I") (by decide +kernel)) (fun _ h9 => h9) rfl dX12_breaks_41 ?_
      refine lv_iload_n hx hb dX12_breaks_44 rfl (lv_at hl 3 rfl) ?_
      refine lv_iload_n hx hb dX12_breaks_45 rfl (lv_at hl 1 rfl) ?_
      refine lv_iload_n hx hb dX12_breaks_46 rfl (lv_at hl 0 rfl) ?_
      refine vp_callSi (va_runS (As := [.int p0, .int (nI c9), .int (nI i)]) (rest := [.ref (v 2)]) ⟨hx, hb, hml, hown, hts⟩ (m_at l dC dI p0 (nI c9) (nI i)) (va_cwS 3 hts gX12_breaks_X12_at rfl rfl rfl (by decide +kernel) ⟨Nat.le_trans (Nat.le_of_ble_eq_true rfl) hRf, Nat.le_trans (Nat.le_of_ble_eq_true rfl) hRl⟩) ⟨pw_fb, fun U hU hW => ⟨rfl, pw_to hU hW (hP.sub (ws' := []) [] rfl) (hK.sub (tys' := []) [] rfl) hN⟩⟩ rfl rfl hl.1 rfl (lv_room (Nat.le_of_ble_eq_true rfl)) dX12_breaks_47 ⟨hRc, hRs⟩).run (fun r hw => ?_)
      obtain rfl : r = (480 * p0 + 60 * (nI c9) + (nI i)) := hw
      refine va_iald hx hb hK hP 3 0 rfl rfl (vinC hp (bw7 hc8) (by omega)) dX12_breaks_50 ?_
      refine lv_topi (fun x_3 ex_3 => ?_)
      refine lv_istore (lv' := [(4, .int x_3), (3, .int (nI i)), (2, .int (nI c9)), (0, .ref h0), (1, .int p0)]) hx hb dX12_breaks_51 hl (by decide) rfl (fun ls hl => ?_)
      refine lv_aload_n hx hb dX12_breaks_53 rfl (lv_at hl 3 rfl) ?_
      refine lv_iload_n hx hb dX12_breaks_54 rfl (lv_at hl 4 rfl) ?_
      refine lv_iload_n hx hb dX12_breaks_55 rfl (lv_at hl 2 rfl) ?_
      refine lv_iload_n hx hb dX12_breaks_56 rfl (lv_at hl 1 rfl) ?_
      refine lv_iconst (v := 1) hx hb dX12_breaks_57 (by decide) ?_
      refine lv_iadd hx hb dX12_breaks_58 ?_
      refine vp_callSi (va_runV (As := [.int p0, .int (nI c9), .int ((nI i) + 1)]) (rest := []) ⟨hx, hb, hml, hown, hts⟩ (m_isCell l dC dI h0 v cI cZ u p0 (nI c9) ((nI i) + 1)) (cwV 3 hts gX12_breaks_X12_isCell rfl rfl rfl (by decide +kernel) ⟨Nat.le_trans (Nat.le_of_ble_eq_true rfl) hRf, Nat.le_trans (Nat.le_of_ble_eq_true rfl) hRl⟩) ⟨pw_fb, va_recv hK hP (ci := 11) (q0 := 0) rfl rfl, fun U hU hW => ⟨rfl, pw_to hU hW hP hK hN⟩⟩ rfl rfl hl.1 rfl (lv_room (Nat.le_of_ble_eq_true rfl)) dX12_breaks_59 ⟨hRc, hRs⟩).run (fun r hw => ?_)
      rcases Bool.eq_false_or_eq_true (mCell u p0 (nI c9) ((nI i) + 1)) with b_4 | b_4
      ·
        obtain rfl : r = 1 := b_t hw b_4
        refine lv_if_eq (tgt := 85) hx hb dX12_breaks_62 (by decide) (fun c_5 => absurd c_5 (by decide)) (fun c_5 => ?_)
        refine lv_aload_n hx hb dX12_breaks_65 rfl (lv_at hl 3 rfl) ?_
        refine lv_iload hx hb dX12_breaks_66 (lv_at hl 0 rfl) ?_
        refine lv_aload_n hx hb dX12_breaks_68 rfl (lv_at hl 3 rfl) ?_
        refine va_get (D := (dC, dI)) (ci := 11) (v := .ref (v 2)) (C := RX12) (T := TX12) (N := 52) hx hb hts (by decide +kernel) hown hK hP 0 rfl rfl 2 (by decide) (hts (.fieldLink RX12 16 "PageOneModel" "cell" "[I") (by decide +kernel)) (fun _ h9 => h9) rfl dX12_breaks_69 ?_
        refine lv_iload_n hx hb dX12_breaks_72 rfl (lv_at hl 4 rfl) ?_
        refine lv_iload_n hx hb dX12_breaks_73 rfl (lv_at hl 2 rfl) ?_
        refine lv_iload_n hx hb dX12_breaks_74 rfl (lv_at hl 1 rfl) ?_
        refine lv_iconst (v := 1) hx hb dX12_breaks_75 (by decide) ?_
        refine lv_iadd hx hb dX12_breaks_76 ?_
        refine vp_callSi (va_runS (As := [.int p0, .int (nI c9), .int ((nI i) + 1)]) (rest := [.ref (v 2), .int x_3, .ref h0]) ⟨hx, hb, hml, hown, hts⟩ (m_at l dC dI p0 (nI c9) ((nI i) + 1)) (va_cwS 3 hts gX12_breaks_X12_at rfl rfl rfl (by decide +kernel) ⟨Nat.le_trans (Nat.le_of_ble_eq_true rfl) hRf, Nat.le_trans (Nat.le_of_ble_eq_true rfl) hRl⟩) ⟨pw_fb, fun U hU hW => ⟨rfl, pw_to hU hW (hP.sub (ws' := []) [] rfl) (hK.sub (tys' := []) [] rfl) hN⟩⟩ rfl rfl hl.1 rfl (lv_room (Nat.le_of_ble_eq_true rfl)) dX12_breaks_77 ⟨hRc, hRs⟩).run (fun r hw => ?_)
        obtain rfl : r = (480 * p0 + 60 * (nI c9) + ((nI i) + 1)) := hw
        refine va_iald hx hb hK hP 3 0 rfl rfl (vCell hlnu b_4) dX12_breaks_80 ?_
        refine lv_iconst (v := 0) hx hb dX12_breaks_81 (by decide) ?_
        have hFc := fr_all hD hS hA
        refine va_callv (va_runV (As := [.int x_3, .int (u.2 2 ((480 * p0 + 60 * (nI c9) + ((nI i) + 1)) : Int32).toNatClampNeg), .int 0]) (rest := []) ⟨hx, hb, hml, hown, hts⟩ (n_beside l dC dI h0 v cI cZ u x_3 (u.2 2 ((480 * p0 + 60 * (nI c9) + ((nI i) + 1)) : Int32).toNatClampNeg) 0 (fun h => by rw [ex_3, hg0.1.1] at h ⊢; exact hcl0 _ (vlt (vinC hp (bw7 hc8) (by omega))) h) (fun h => by rw [hg.1] at h ⊢; exact hcl0 _ (vlt (vCell hlnu b_4)) h) (fun j hj => by rw [hg.1]; exact hk0 j hj) H.size) (cwV 3 hts gX12_breaks_X12_beside rfl rfl rfl (by decide +kernel) ⟨Nat.le_trans (Nat.le_of_ble_eq_true rfl) hRf, Nat.le_trans (Nat.le_of_ble_eq_true rfl) hRl⟩) ⟨gw_fb, va_recv hK hP (ci := 11) (q0 := 0) rfl rfl, fun U hU hW => ⟨rfl, by rw [hU], pw_to hU hW hP hK hN, hD.weaken (fun _ _ _ _ => trivial)⟩⟩ rfl rfl hl.1 rfl (lv_room (Nat.le_of_ble_eq_true rfl)) dX12_breaks_82 ⟨hRc, hRs⟩) hS (fun q _ h => hFc q h) hFc (fun u_6 t H1 locs ht hvm hw hB hz1 hk1 hS => ?_)
        obtain ⟨hP, hD1⟩ := hB
        rw [ht] at hP
        have hD := hD1.weaken (fun _ q _ h => hFc q.1 h)
        generalize H1 = H at hP hS ⊢
        have hBvTa : bst u u_6 (vTa u0 p0 c9 i) := bst_c (bst_E hg hw.2) (fun t => by unfold vTa; rw [show x_3 = u0.2 2 (480 * p0 + 60 * nI c9 + nI i).toNatClampNeg from by rw [ex_3, hg0.1.1], hg.1]; exact ⟨fun q => ⟨by have z := b_4; unfold mCell at z ⊢; rw [← hg.1]; exact z, q⟩, fun q => q.2⟩)
        have hg := mE_tr hg hw.1
        refine lv_aload_n hx hb dX12_breaks_85 rfl (lv_at hl 3 rfl) ?_
        refine lv_iload_n hx hb dX12_breaks_86 rfl (lv_at hl 4 rfl) ?_
        refine lv_iload_n hx hb dX12_breaks_87 rfl (lv_at hl 2 rfl) ?_
        refine lv_iconst (v := 1) hx hb dX12_breaks_88 (by decide) ?_
        refine lv_iadd hx hb dX12_breaks_89 ?_
        refine lv_iload_n hx hb dX12_breaks_90 rfl (lv_at hl 1 rfl) ?_
        refine vp_callSi (va_runV (As := [.int p0, .int ((nI c9) + 1), .int (nI i)]) (rest := []) ⟨hx, hb, hml, hown, hts⟩ (m_isCell l dC dI h0 v cI cZ u_6 p0 ((nI c9) + 1) (nI i)) (cwV 3 hts gX12_breaks_X12_isCell rfl rfl rfl (by decide +kernel) ⟨Nat.le_trans (Nat.le_of_ble_eq_true rfl) hRf, Nat.le_trans (Nat.le_of_ble_eq_true rfl) hRl⟩) ⟨pw_fb, va_recv hK hP (ci := 11) (q0 := 0) rfl rfl, fun U hU hW => ⟨rfl, pw_to hU hW hP hK hN⟩⟩ rfl rfl hl.1 rfl (lv_room (Nat.le_of_ble_eq_true rfl)) dX12_breaks_91 ⟨hRc, hRs⟩).run (fun r hw => ?_)
        rcases Bool.eq_false_or_eq_true (mCell u_6 p0 ((nI c9) + 1) (nI i)) with b_7 | b_7
        ·
          obtain rfl : r = 1 := b_t hw b_7
          refine lv_if_eq (tgt := 117) hx hb dX12_breaks_94 (by decide) (fun c_8 => absurd c_8 (by decide)) (fun c_8 => ?_)
          refine lv_aload_n hx hb dX12_breaks_97 rfl (lv_at hl 3 rfl) ?_
          refine lv_iload hx hb dX12_breaks_98 (lv_at hl 0 rfl) ?_
          refine lv_aload_n hx hb dX12_breaks_100 rfl (lv_at hl 3 rfl) ?_
          refine va_get (D := (dC, dI)) (ci := 11) (v := .ref (v 2)) (C := RX12) (T := TX12) (N := 52) hx hb hts (by decide +kernel) hown hK hP 0 rfl rfl 2 (by decide) (hts (.fieldLink RX12 16 "PageOneModel" "cell" "[I") (by decide +kernel)) (fun _ h9 => h9) rfl dX12_breaks_101 ?_
          refine lv_iload_n hx hb dX12_breaks_104 rfl (lv_at hl 4 rfl) ?_
          refine lv_iload_n hx hb dX12_breaks_105 rfl (lv_at hl 2 rfl) ?_
          refine lv_iconst (v := 1) hx hb dX12_breaks_106 (by decide) ?_
          refine lv_iadd hx hb dX12_breaks_107 ?_
          refine lv_iload_n hx hb dX12_breaks_108 rfl (lv_at hl 1 rfl) ?_
          refine vp_callSi (va_runS (As := [.int p0, .int ((nI c9) + 1), .int (nI i)]) (rest := [.ref (v 2), .int x_3, .ref h0]) ⟨hx, hb, hml, hown, hts⟩ (m_at l dC dI p0 ((nI c9) + 1) (nI i)) (va_cwS 3 hts gX12_breaks_X12_at rfl rfl rfl (by decide +kernel) ⟨Nat.le_trans (Nat.le_of_ble_eq_true rfl) hRf, Nat.le_trans (Nat.le_of_ble_eq_true rfl) hRl⟩) ⟨pw_fb, fun U hU hW => ⟨rfl, pw_to hU hW (hP.sub (ws' := []) [] rfl) (hK.sub (tys' := []) [] rfl) hN⟩⟩ rfl rfl hl.1 rfl (lv_room (Nat.le_of_ble_eq_true rfl)) dX12_breaks_109 ⟨hRc, hRs⟩).run (fun r hw => ?_)
          obtain rfl : r = (480 * p0 + 60 * ((nI c9) + 1) + (nI i)) := hw
          refine va_iald hx hb hK hP 3 0 rfl rfl (vCell (fun j hj => by rw [hg.1]; exact hln0 j hj) b_7) dX12_breaks_112 ?_
          refine lv_iconst (v := 1) hx hb dX12_breaks_113 (by decide) ?_
          have hFc := fr_all hD hS hA
          refine va_callv (va_runV (As := [.int x_3, .int (u_6.2 2 ((480 * p0 + 60 * ((nI c9) + 1) + (nI i)) : Int32).toNatClampNeg), .int 1]) (rest := []) ⟨hx, hb, hml, hown, hts⟩ (n_beside l dC dI h0 v cI cZ u_6 x_3 (u_6.2 2 ((480 * p0 + 60 * ((nI c9) + 1) + (nI i)) : Int32).toNatClampNeg) 1 (fun h => by rw [ex_3, hg0.1.1] at h ⊢; exact hcl0 _ (vlt (vinC hp (bw7 hc8) (by omega))) h) (fun h => by rw [hg.1] at h ⊢; exact hcl0 _ (vlt (vCell (fun j hj => by rw [hg.1]; exact hln0 j hj) b_7)) h) (fun j hj => by rw [hg.1]; exact hk0 j hj) H.size) (cwV 3 hts gX12_breaks_X12_beside rfl rfl rfl (by decide +kernel) ⟨Nat.le_trans (Nat.le_of_ble_eq_true rfl) hRf, Nat.le_trans (Nat.le_of_ble_eq_true rfl) hRl⟩) ⟨gw_fb, va_recv hK hP (ci := 11) (q0 := 0) rfl rfl, fun U hU hW => ⟨rfl, by rw [hU], pw_to hU hW hP hK hN, hD.weaken (fun _ _ _ _ => trivial)⟩⟩ rfl rfl hl.1 rfl (lv_room (Nat.le_of_ble_eq_true rfl)) dX12_breaks_114 ⟨hRc, hRs⟩) hS (fun q _ h => hFc q h) hFc (fun u_9 t H1 locs ht hvm hw hB hz1 hk1 hS => ?_)
          obtain ⟨hP, hD1⟩ := hB
          rw [ht] at hP
          have hD := hD1.weaken (fun _ q _ h => hFc q.1 h)
          generalize H1 = H at hP hS ⊢
          have hBvTb : bst u_6 u_9 (vTb u0 p0 c9 i) := bst_c (bst_E hg hw.2) (fun t => by unfold vTb; rw [show x_3 = u0.2 2 (480 * p0 + 60 * nI c9 + nI i).toNatClampNeg from by rw [ex_3, hg0.1.1], hg.1]; exact ⟨fun q => ⟨by have z := b_7; unfold mCell at z ⊢; rw [← hg.1]; exact z, q⟩, fun q => q.2⟩)
          have hg := mE_tr hg hw.1
          refine lv_iinc (v := (nI (i + 1))) (lv' := [(3, .int (nI (i + 1))), (4, .int x_3), (2, .int (nI c9)), (0, .ref h0), (1, .int p0)]) hx hb dX12_breaks_117 hl (k := 1) rfl (nI_1 i) (by decide) rfl (fun ls hl => ?_)
          refine lv_goto (tgt := 25) hx hb dX12_breaks_120 (by decide) ?_
          have hb9 := best_bst hb0 (bst_tr hBvTa hBvTb) (vTS_n hc8 hlK)
          exact ih (i + 1) _ _ _ ls (by omega) (by omega) ⟨hg, hb9⟩ hP hD hS (lv_sub hl [0, 2, 3, 4] rfl)
        ·
          obtain rfl : r = 0 := b_f hw b_7
          refine lv_if_eq (tgt := 117) hx hb dX12_breaks_94 (by decide) (fun c_10 => ?_) (fun c_10 => absurd (by decide) c_10)
          refine lv_iinc (v := (nI (i + 1))) (lv' := [(3, .int (nI (i + 1))), (4, .int x_3), (2, .int (nI c9)), (0, .ref h0), (1, .int p0)]) hx hb dX12_breaks_117 hl (k := 1) rfl (nI_1 i) (by decide) rfl (fun ls hl => ?_)
          refine lv_goto (tgt := 25) hx hb dX12_breaks_120 (by decide) ?_
          have hb9 := best_bst hb0 (bst_no hBvTa (fun t q => bne b_7 (by have z := q.1; unfold mCell at z ⊢; rw [hg.1]; exact z))) (vTS_n hc8 hlK)
          exact ih (i + 1) _ _ _ ls (by omega) (by omega) ⟨hg, hb9⟩ hP hD hS (lv_sub hl [0, 2, 3, 4] rfl)
      ·
        obtain rfl : r = 0 := b_f hw b_4
        refine lv_if_eq (tgt := 85) hx hb dX12_breaks_62 (by decide) (fun c_11 => ?_) (fun c_11 => absurd (by decide) c_11)
        refine lv_aload_n hx hb dX12_breaks_85 rfl (lv_at hl 3 rfl) ?_
        refine lv_iload_n hx hb dX12_breaks_86 rfl (lv_at hl 4 rfl) ?_
        refine lv_iload_n hx hb dX12_breaks_87 rfl (lv_at hl 2 rfl) ?_
        refine lv_iconst (v := 1) hx hb dX12_breaks_88 (by decide) ?_
        refine lv_iadd hx hb dX12_breaks_89 ?_
        refine lv_iload_n hx hb dX12_breaks_90 rfl (lv_at hl 1 rfl) ?_
        refine vp_callSi (va_runV (As := [.int p0, .int ((nI c9) + 1), .int (nI i)]) (rest := []) ⟨hx, hb, hml, hown, hts⟩ (m_isCell l dC dI h0 v cI cZ u p0 ((nI c9) + 1) (nI i)) (cwV 3 hts gX12_breaks_X12_isCell rfl rfl rfl (by decide +kernel) ⟨Nat.le_trans (Nat.le_of_ble_eq_true rfl) hRf, Nat.le_trans (Nat.le_of_ble_eq_true rfl) hRl⟩) ⟨pw_fb, va_recv hK hP (ci := 11) (q0 := 0) rfl rfl, fun U hU hW => ⟨rfl, pw_to hU hW hP hK hN⟩⟩ rfl rfl hl.1 rfl (lv_room (Nat.le_of_ble_eq_true rfl)) dX12_breaks_91 ⟨hRc, hRs⟩).run (fun r hw => ?_)
        rcases Bool.eq_false_or_eq_true (mCell u p0 ((nI c9) + 1) (nI i)) with b_12 | b_12
        ·
          obtain rfl : r = 1 := b_t hw b_12
          refine lv_if_eq (tgt := 117) hx hb dX12_breaks_94 (by decide) (fun c_13 => absurd c_13 (by decide)) (fun c_13 => ?_)
          refine lv_aload_n hx hb dX12_breaks_97 rfl (lv_at hl 3 rfl) ?_
          refine lv_iload hx hb dX12_breaks_98 (lv_at hl 0 rfl) ?_
          refine lv_aload_n hx hb dX12_breaks_100 rfl (lv_at hl 3 rfl) ?_
          refine va_get (D := (dC, dI)) (ci := 11) (v := .ref (v 2)) (C := RX12) (T := TX12) (N := 52) hx hb hts (by decide +kernel) hown hK hP 0 rfl rfl 2 (by decide) (hts (.fieldLink RX12 16 "PageOneModel" "cell" "[I") (by decide +kernel)) (fun _ h9 => h9) rfl dX12_breaks_101 ?_
          refine lv_iload_n hx hb dX12_breaks_104 rfl (lv_at hl 4 rfl) ?_
          refine lv_iload_n hx hb dX12_breaks_105 rfl (lv_at hl 2 rfl) ?_
          refine lv_iconst (v := 1) hx hb dX12_breaks_106 (by decide) ?_
          refine lv_iadd hx hb dX12_breaks_107 ?_
          refine lv_iload_n hx hb dX12_breaks_108 rfl (lv_at hl 1 rfl) ?_
          refine vp_callSi (va_runS (As := [.int p0, .int ((nI c9) + 1), .int (nI i)]) (rest := [.ref (v 2), .int x_3, .ref h0]) ⟨hx, hb, hml, hown, hts⟩ (m_at l dC dI p0 ((nI c9) + 1) (nI i)) (va_cwS 3 hts gX12_breaks_X12_at rfl rfl rfl (by decide +kernel) ⟨Nat.le_trans (Nat.le_of_ble_eq_true rfl) hRf, Nat.le_trans (Nat.le_of_ble_eq_true rfl) hRl⟩) ⟨pw_fb, fun U hU hW => ⟨rfl, pw_to hU hW (hP.sub (ws' := []) [] rfl) (hK.sub (tys' := []) [] rfl) hN⟩⟩ rfl rfl hl.1 rfl (lv_room (Nat.le_of_ble_eq_true rfl)) dX12_breaks_109 ⟨hRc, hRs⟩).run (fun r hw => ?_)
          obtain rfl : r = (480 * p0 + 60 * ((nI c9) + 1) + (nI i)) := hw
          refine va_iald hx hb hK hP 3 0 rfl rfl (vCell hlnu b_12) dX12_breaks_112 ?_
          refine lv_iconst (v := 1) hx hb dX12_breaks_113 (by decide) ?_
          have hFc := fr_all hD hS hA
          refine va_callv (va_runV (As := [.int x_3, .int (u.2 2 ((480 * p0 + 60 * ((nI c9) + 1) + (nI i)) : Int32).toNatClampNeg), .int 1]) (rest := []) ⟨hx, hb, hml, hown, hts⟩ (n_beside l dC dI h0 v cI cZ u x_3 (u.2 2 ((480 * p0 + 60 * ((nI c9) + 1) + (nI i)) : Int32).toNatClampNeg) 1 (fun h => by rw [ex_3, hg0.1.1] at h ⊢; exact hcl0 _ (vlt (vinC hp (bw7 hc8) (by omega))) h) (fun h => by rw [hg.1] at h ⊢; exact hcl0 _ (vlt (vCell hlnu b_12)) h) (fun j hj => by rw [hg.1]; exact hk0 j hj) H.size) (cwV 3 hts gX12_breaks_X12_beside rfl rfl rfl (by decide +kernel) ⟨Nat.le_trans (Nat.le_of_ble_eq_true rfl) hRf, Nat.le_trans (Nat.le_of_ble_eq_true rfl) hRl⟩) ⟨gw_fb, va_recv hK hP (ci := 11) (q0 := 0) rfl rfl, fun U hU hW => ⟨rfl, by rw [hU], pw_to hU hW hP hK hN, hD.weaken (fun _ _ _ _ => trivial)⟩⟩ rfl rfl hl.1 rfl (lv_room (Nat.le_of_ble_eq_true rfl)) dX12_breaks_114 ⟨hRc, hRs⟩) hS (fun q _ h => hFc q h) hFc (fun u_14 t H1 locs ht hvm hw hB hz1 hk1 hS => ?_)
          obtain ⟨hP, hD1⟩ := hB
          rw [ht] at hP
          have hD := hD1.weaken (fun _ q _ h => hFc q.1 h)
          generalize H1 = H at hP hS ⊢
          have hBvTb : bst u u_14 (vTb u0 p0 c9 i) := bst_c (bst_E hg hw.2) (fun t => by unfold vTb; rw [show x_3 = u0.2 2 (480 * p0 + 60 * nI c9 + nI i).toNatClampNeg from by rw [ex_3, hg0.1.1], hg.1]; exact ⟨fun q => ⟨by have z := b_12; unfold mCell at z ⊢; rw [← hg.1]; exact z, q⟩, fun q => q.2⟩)
          have hg := mE_tr hg hw.1
          refine lv_iinc (v := (nI (i + 1))) (lv' := [(3, .int (nI (i + 1))), (4, .int x_3), (2, .int (nI c9)), (0, .ref h0), (1, .int p0)]) hx hb dX12_breaks_117 hl (k := 1) rfl (nI_1 i) (by decide) rfl (fun ls hl => ?_)
          refine lv_goto (tgt := 25) hx hb dX12_breaks_120 (by decide) ?_
          have hb9 := best_bst hb0 (bst_tr (bst_c (bst_0 u) (fun t => ⟨False.elim, fun q => bne b_4 (by have z := q.1; unfold mCell at z ⊢; rw [hg0.1.1]; exact z)⟩)) hBvTb) (vTS_n hc8 hlK)
          exact ih (i + 1) _ _ _ ls (by omega) (by omega) ⟨hg, hb9⟩ hP hD hS (lv_sub hl [0, 2, 3, 4] rfl)
        ·
          obtain rfl : r = 0 := b_f hw b_12
          refine lv_if_eq (tgt := 117) hx hb dX12_breaks_94 (by decide) (fun c_15 => ?_) (fun c_15 => absurd (by decide) c_15)
          refine lv_iinc (v := (nI (i + 1))) (lv' := [(3, .int (nI (i + 1))), (4, .int x_3), (2, .int (nI c9)), (0, .ref h0), (1, .int p0)]) hx hb dX12_breaks_117 hl (k := 1) rfl (nI_1 i) (by decide) rfl (fun ls hl => ?_)
          refine lv_goto (tgt := 25) hx hb dX12_breaks_120 (by decide) ?_
          have hb9 := best_bst hb0 (bst_no (bst_c (bst_0 u) (fun t => ⟨False.elim, fun q => bne b_4 (by have z := q.1; unfold mCell at z ⊢; rw [hg0.1.1]; exact z)⟩)) (fun t q => bne b_12 (by have z := q.1; unfold mCell at z ⊢; rw [hg.1]; exact z))) (vTS_n hc8 hlK)
          exact ih (i + 1) _ _ _ ls (by omega) (by omega) ⟨hg, hb9⟩ hP hD hS (lv_sub hl [0, 2, 3, 4] rfl)
set_option maxHeartbeats 4000000 in
set_option maxRecDepth 100000 in
theorem n_br_out {p : Program} {l : Launch} {e : Env} {R : Room} {s : State} {m : MethodId} {args : Array Value} {below : List Frame} {meth : Method} {c : Code} {Q : State → Prop} {cells slots : Nat} {dC : Nat → ClassId} {dI : Nat → Nat → Nat} {h0 : Nat} {v : Nat → Nat} {cI cZ : ClassId} {u0 : mS} {p0 : Int32} (hp : bw p0 0 11 = true) (hln0 : ∀ j, j < 96 → bw (u0.2 0 j) 0 60 = true) (hcl0 : ∀ j, j < 5760 → mThing (u0.2 2 j) = true → bw (u0.2 2 j) 0 79 = true) (hk0 : ∀ j, j < 80 → u0.2 4 j = 3 → bw (u0.2 10 j) 0 9 = true) {A : Nat → Prop} {H0 : Heap} (hx : p.tables.exec = Jvm.exec) (hb : c.code = cX12_breaks) (hml : c.maxLocals = 5) (hts : ∀ w ∈ wsX12_breaks, w.before args s = true) (hown : s.vm.findClass RX12 = some m.cls) (hN : NN s) (hK : va_K (dC, dI) vwCl [(cI, .int), (cZ, .boolean)] s) (hRf : 3 ≤ R.frames) (hRl : 65 ≤ R.locals) (hRc : cells ≤ R.cells) (hRs : slots ≤ R.slots) (hA : ∀ q : Nat, H0.size ≤ q → A q) (kx : ∀ (u : mS) (H : Heap) (locs : List Loc) (ls : Array Slot), (mE u0 u ∧ best (vTS u0 p0 8 0) (wr3 u)) → va_P (dC, dI) vwCl (mW h0 v cI cZ u) H → va_D A (mW h0 v cI cZ u) → va_S A H0 H locs → lv_has ls 5 [(2, .int (nI 8)), (0, .ref h0), (1, .int p0)] → W p l e R s m args below meth c H locs cells slots Q (F0 m 129 ls [])) : ∀ (k i : Nat) (u : mS) (H : Heap) (locs : List Loc) (ls : Array Slot), i ≤ 8 → 8 - i < k → (mE u0 u ∧ best (vTS u0 p0 i 0) (wr3 u)) → va_P (dC, dI) vwCl (mW h0 v cI cZ u) H → va_D A (mW h0 v cI cZ u) → va_S A H0 H locs → lv_has ls 5 [(2, .int (nI i)), (0, .ref h0), (1, .int p0)] → W p l e R s m args below meth c H locs cells slots Q (F0 m 17 ls []) := by
  intro k
  induction k with
  | zero => intro i u H locs ls h1 h2; exact absurd h2 (Nat.not_lt_zero _)
  | succ k ih =>
    intro i u H locs ls hi hk hg hP hD hS hl
    refine lv_iload_n hx hb dX12_breaks_17 rfl (lv_at hl 0 rfl) ?_
    refine lv_bipush (v := 8) hx hb dX12_breaks_18 (by decide) ?_
    refine lv_icmp_ge (tgt := 129) hx hb dX12_breaks_20 (by decide) (fun c_1 => ?_) (fun c_1 => ?_)
    ·
      have hie : i = 8 := lp_eq rfl (by decide) hi c_1
      subst hie
      exact kx _ _ _ ls hg hP hD hS (lv_sub hl [0, 1, 2] rfl)
    ·
      have hlt : i < 8 := lp_lt rfl (by decide) hi c_1
      have hlnu : ∀ j, j < 96 → bw (u.2 0 j) 0 60 = true := fun j hj => by rw [hg.1.1]; exact hln0 j hj
      refine lv_iconst (v := 0) hx hb dX12_breaks_23 (by decide) ?_
      refine lv_istore_n (lv' := [(3, .int 0), (2, .int (nI i)), (0, .ref h0), (1, .int p0)]) hx hb dX12_breaks_24 rfl hl (by decide) rfl (fun ls hl => ?_)
      obtain ⟨eK, eK2, eK3⟩ := nI_of_bw (hln0 _ (vlt (vin8 hp (bw7 hlt))))
      have h60 : (60 : Int32).toInt = 60 := rfl
      refine n_br_in (u0 := u0) (c9 := i) (K := (u0.2 0 (8 * p0 + nI i).toNatClampNeg).toNatClampNeg) hp hln0 hcl0 hk0 hlt eK (by omega) hx hb hml hts hown hN hK hRf hRl hRc hRs hA (fun u2 H locs ls hg hP hD hS hl => ?_) _ 0 u _ _ ls (Nat.zero_le _) (Nat.lt_succ_self _) hg hP hD hS (lv_sub hl [0, 1, 2, 3] rfl)
      have hb9 := best_c hg.2 (fun t => vTS_c (c := i) t)
      refine lv_iinc (v := (nI (i + 1))) (lv' := [(2, .int (nI (i + 1))), (3, .int (nI (u0.2 0 (8 * p0 + nI i).toNatClampNeg).toNatClampNeg)), (0, .ref h0), (1, .int p0)]) hx hb dX12_breaks_123 hl (k := 1) rfl (nI_1 i) (by decide) rfl (fun ls hl => ?_)
      refine lv_goto (tgt := 17) hx hb dX12_breaks_126 (by decide) ?_
      exact ih (i + 1) _ _ _ ls (by omega) (by omega) ⟨hg.1, hb9⟩ hP hD hS (lv_sub hl [0, 2, 3] rfl)
set_option maxHeartbeats 4000000 in
set_option maxRecDepth 100000 in
theorem n_br_k {p : Program} {l : Launch} {e : Env} {R : Room} {s : State} {m : MethodId} {args : Array Value} {below : List Frame} {meth : Method} {c : Code} {Q : State → Prop} {cells slots : Nat} {dC : Nat → ClassId} {dI : Nat → Nat → Nat} {h0 : Nat} {v : Nat → Nat} {cI cZ : ClassId} {H : Heap} {locs : List Loc} {u : mS} (hx : p.tables.exec = Jvm.exec) (hb : c.code = cX12_breaks) (hml : c.maxLocals = 5) (hts : ∀ w ∈ wsX12_breaks, w.before args s = true) (hown : s.vm.findClass RX12 = some m.cls) (hN : NN s) (hK : va_K (dC, dI) vwCl [(cI, .int), (cZ, .boolean)] s) (hP : va_P (dC, dI) vwCl (mW h0 v cI cZ u) H) {p0 : Int32} {j9 K : Nat} (hj9 : j9 < 80) (hK6 : K ≤ 6) (eK : u.2 22 (nI j9).toNatClampNeg = nI K) (kx : ∀ (a : Int32) (ls : Array Slot), a = bP (thP u p0 j9 K) → lv_has ls 5 [(4, .int (nI K)), (3, .int a), (2, .int (nI j9)), (0, .ref h0), (1, .int p0)] → W p l e R s m args below meth c H locs cells slots Q (F0 m 187 ls [])) : ∀ (k i : Nat) (a : Int32) (ls : Array Slot), i ≤ K → K - i < k → a = bP (thP u p0 j9 i) → lv_has ls 5 [(4, .int (nI i)), (3, .int a), (2, .int (nI j9)), (0, .ref h0), (1, .int p0)] → W p l e R s m args below meth c H locs cells slots Q (F0 m 144 ls []) := by
  intro k
  induction k with
  | zero => intro i a ls h1 h2; exact absurd h2 (Nat.not_lt_zero _)
  | succ k ih =>
    intro i a ls hi hk hg hl
    refine lv_iload hx hb dX12_breaks_144 (lv_at hl 0 rfl) ?_
    refine lv_aload_n hx hb dX12_breaks_146 rfl (lv_at hl 3 rfl) ?_
    refine va_get (D := (dC, dI)) (ci := 11) (v := .ref (v 22)) (C := RX12) (T := TX12) (N := 52) hx hb hts (by decide +kernel) hown hK hP 0 rfl rfl 22 (by decide) (hts (.fieldLink RX12 74 "PageOneModel" "pieces" "[I") (by decide +kernel)) (fun _ h9 => h9) rfl dX12_breaks_147 ?_
    refine lv_iload_n hx hb dX12_breaks_150 rfl (lv_at hl 2 rfl) ?_
    refine va_iald hx hb hK hP 22 0 rfl rfl (vp_in_nI hj9 (by decide)) dX12_breaks_151 ?_
    refine lv_topi (fun y_1 ey_1 => ?_)
    obtain rfl : y_1 = (nI K) := ey_1.trans (eK)
    refine lv_icmp_ge (tgt := 187) hx hb dX12_breaks_152 (by decide) (fun c_2 => ?_) (fun c_2 => ?_)
    ·
      have hie : i = K := lp_eq rfl (by omega) hi c_2
      rw [hie] at hg hl
      exact kx _ ls hg (lv_sub hl [0, 1, 2, 3, 4] rfl)
    ·
      have hlt : i < K := lp_lt rfl (by omega) hi c_2
      refine lv_iload_n hx hb dX12_breaks_155 rfl (lv_at hl 1 rfl) ?_
      refine lv_if_ne (tgt := 175) hx hb dX12_breaks_156 (by decide) (fun c_3 => ?_) (fun c_3 => ?_)
      ·
        refine lv_iconst (v := 1) hx hb dX12_breaks_175 (by decide) ?_
        refine lv_goto (tgt := 180) hx hb dX12_breaks_176 (by decide) ?_
        refine lv_istore_n (lv' := [(3, .int 1), (4, .int (nI i)), (2, .int (nI j9)), (0, .ref h0), (1, .int p0)]) hx hb dX12_breaks_180 rfl hl (by decide) rfl (fun ls hl => ?_)
        refine lv_iinc (v := (nI (i + 1))) (lv' := [(4, .int (nI (i + 1))), (3, .int 1), (2, .int (nI j9)), (0, .ref h0), (1, .int p0)]) hx hb dX12_breaks_181 hl (k := 1) rfl (nI_1 i) (by decide) rfl (fun ls hl => ?_)
        refine lv_goto (tgt := 144) hx hb dX12_breaks_184 (by decide) ?_
        exact ih (i + 1) _ ls (by omega) (by omega) (thP_o hg c_3) (lv_sub hl [0, 1, 2, 3, 4] rfl)
      ·
        refine lv_aload_n hx hb dX12_breaks_159 rfl (lv_at hl 3 rfl) ?_
        refine va_get (D := (dC, dI)) (ci := 11) (v := .ref (v 23)) (C := RX12) (T := TX12) (N := 52) hx hb hts (by decide +kernel) hown hK hP 0 rfl rfl 23 (by decide) (hts (.fieldLink RX12 77 "PageOneModel" "pPage" "[I") (by decide +kernel)) (fun _ h9 => h9) rfl dX12_breaks_160 ?_
        refine lv_bipush (v := 6) hx hb dX12_breaks_163 (by decide) ?_
        refine lv_iload_n hx hb dX12_breaks_165 rfl (lv_at hl 2 rfl) ?_
        refine lv_imul hx hb dX12_breaks_166 ?_
        refine lv_iload hx hb dX12_breaks_167 (lv_at hl 0 rfl) ?_
        refine lv_iadd hx hb dX12_breaks_169 ?_
        refine va_iald hx hb hK hP 23 0 rfl rfl (v6n hj9 (by omega)) dX12_breaks_170 ?_
        refine lv_iload_n hx hb dX12_breaks_171 rfl (lv_at hl 4 rfl) ?_
        refine lv_icmp_ne (tgt := 179) hx hb dX12_breaks_172 (by decide) (fun c_4 => ?_) (fun c_4 => ?_)
        ·
          refine lv_iconst (v := 0) hx hb dX12_breaks_179 (by decide) ?_
          refine lv_istore_n (lv' := [(3, .int 0), (4, .int (nI i)), (2, .int (nI j9)), (0, .ref h0), (1, .int p0)]) hx hb dX12_breaks_180 rfl hl (by decide) rfl (fun ls hl => ?_)
          refine lv_iinc (v := (nI (i + 1))) (lv' := [(4, .int (nI (i + 1))), (3, .int 0), (2, .int (nI j9)), (0, .ref h0), (1, .int p0)]) hx hb dX12_breaks_181 hl (k := 1) rfl (nI_1 i) (by decide) rfl (fun ls hl => ?_)
          refine lv_goto (tgt := 144) hx hb dX12_breaks_184 (by decide) ?_
          exact ih (i + 1) _ ls (by omega) (by omega) (thP_z hg c_3 c_4) (lv_sub hl [0, 1, 2, 3, 4] rfl)
        ·
          refine lv_iconst (v := 1) hx hb dX12_breaks_175 (by decide) ?_
          refine lv_goto (tgt := 180) hx hb dX12_breaks_176 (by decide) ?_
          refine lv_istore_n (lv' := [(3, .int 1), (4, .int (nI i)), (2, .int (nI j9)), (0, .ref h0), (1, .int p0)]) hx hb dX12_breaks_180 rfl hl (by decide) rfl (fun ls hl => ?_)
          refine lv_iinc (v := (nI (i + 1))) (lv' := [(4, .int (nI (i + 1))), (3, .int 1), (2, .int (nI j9)), (0, .ref h0), (1, .int p0)]) hx hb dX12_breaks_181 hl (k := 1) rfl (nI_1 i) (by decide) rfl (fun ls hl => ?_)
          refine lv_goto (tgt := 144) hx hb dX12_breaks_184 (by decide) ?_
          exact ih (i + 1) _ ls (by omega) (by omega) (thP_1 c_4) (lv_sub hl [0, 1, 2, 3, 4] rfl)
