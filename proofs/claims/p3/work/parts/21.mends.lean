/-- what the edition's end writes for one page and one item -/
def endI (u : mS) (p i : Int32) : mS := if 0 ≤ u.2 45 (80 * p + i).toNatClampNeg then
  let u1 := mst u 48 (80 * u.1 38 + i) (vp_nar .boolean 1)
  if 0 ≤ u1.2 47 (5 * i).toNatClampNeg then u1 else
    let u2 := mst u1 47 (5 * i) (u1.1 38)
    let u3 := mst u2 47 (5 * i + 1) (u2.1 39)
    let u4 := mst u3 47 (5 * i + 2) p
    let u5 := mst u4 47 (5 * i + 3) (u4.2 45 (80 * p + i).toNatClampNeg)
    mst u5 47 (5 * i + 4) (u5.2 46 (80 * p + i).toNatClampNeg)
  else u
def endL (u : mS) (p : Int32) : Nat → mS
  | 0 => u
  | n + 1 => endI (endL u p n) p (nI n)
def endP (u : mS) : Nat → mS
  | 0 => u
  | n + 1 => if mNow (endP u n) (nI n) = true then endL (endP u n) (nI n) ((u.1 3).toNatClampNeg) else endP u n
/-- ends writes the rows 47 and 48 alone -/
theorem endI_k (u : mS) (p i : Int32) : (endI u p i).1 = u.1 ∧ ∀ k, k ≠ 47 → k ≠ 48 → (endI u p i).2 k = u.2 k := by
  unfold endI
  split
  · dsimp only
    split
    · exact ⟨rfl, fun k h1 h2 => by rw [mst_other h2]⟩
    · exact ⟨rfl, fun k h1 h2 => by rw [mst_other h1, mst_other h1, mst_other h1, mst_other h1, mst_other h1, mst_other h2]⟩
  · exact ⟨rfl, fun k _ _ => rfl⟩
theorem endL_k (u : mS) (p : Int32) : ∀ n, (endL u p n).1 = u.1 ∧ ∀ k, k ≠ 47 → k ≠ 48 → (endL u p n).2 k = u.2 k
  | 0 => ⟨rfl, fun _ _ _ => rfl⟩
  | n + 1 => by
    have h1 := endL_k u p n
    have h2 := endI_k (endL u p n) p (nI n)
    exact ⟨h2.1.trans h1.1, fun k a b => (h2.2 k a b).trans (h1.2 k a b)⟩
theorem endP_k (u : mS) : ∀ n, (endP u n).1 = u.1 ∧ ∀ k, k ≠ 47 → k ≠ 48 → (endP u n).2 k = u.2 k
  | 0 => ⟨rfl, fun _ _ _ => rfl⟩
  | n + 1 => by
    have h1 := endP_k u n
    unfold endP
    split
    · have h2 := endL_k (endP u n) (nI n) ((u.1 3).toNatClampNeg)
      exact ⟨h2.1.trans h1.1, fun k a b => (h2.2 k a b).trans (h1.2 k a b)⟩
    · exact h1
theorem mNow_k {u u0 : mS} (h : u.1 = u0.1 ∧ ∀ k, k ≠ 47 → k ≠ 48 → u.2 k = u0.2 k) (p : Int32) : mNow u p = mNow u0 p := by
  unfold mNow
  rw [h.1, h.2 40 (by decide) (by decide), h.2 41 (by decide) (by decide), h.2 42 (by decide) (by decide)]
theorem vOn {i d : Int32} (hi : bw i 0 79 = true) (hd : bw d 0 399 = true) : vp_in (80 * d + i) 32000 := by
  obtain ⟨D, h1, -, e⟩ := exN hd (by decide)
  have h399 : (399 : Int32).toInt = 399 := rfl
  subst e
  exact vDay hi (by omega)
set_option maxHeartbeats 4000000 in
set_option maxRecDepth 100000 in
theorem m_ends_in {p : Program} {l : Launch} {e : Env} {R : Room} {s : State} {m : MethodId} {args : Array Value} {below : List Frame} {meth : Method} {c : Code} {Q : State → Prop} {cells slots : Nat} {dC : Nat → ClassId} {dI : Nat → Nat → Nat} {h0 : Nat} {v : Nat → Nat} {cI cZ : ClassId} {u0 : mS} {P K : Nat} (hPP : P < 12) (hK8 : K ≤ 80) (eK : u0.1 3 = nI K) (hd : bw (u0.1 38) 0 399 = true) (hnow : mNow u0 (nI P) = true) {A : Nat → Prop} {H0 : Heap} (hx : p.tables.exec = Jvm.exec) (hb : c.code = cX12_ends) (hml : c.maxLocals = 3) (hts : ∀ w ∈ wsX12_ends, w.before args s = true) (hown : s.vm.findClass RX12 = some m.cls) (hN : NN s) (hK : va_K (dC, dI) vwCl [(cI, .int), (cZ, .boolean)] s) (hRf : 1 ≤ R.frames) (hRl : 21 ≤ R.locals) (hRc : cells ≤ R.cells) (hRs : slots ≤ R.slots) (hA : ∀ q : Nat, H0.size ≤ q → A q) (kx : ∀ (u : mS) (H : Heap) (locs : List Loc) (ls : Array Slot), u = endL u0 (nI P) K → va_P (dC, dI) vwCl (mW h0 v cI cZ u) H → va_D A (mW h0 v cI cZ u) → va_S A H0 H locs → lv_has ls 3 [(2, .int (nI K)), (1, .int (nI P)), (0, .ref h0)] → W p l e R s m args below meth c H locs cells slots Q (F0 m 154 ls [])) : ∀ (k i : Nat) (u : mS) (H : Heap) (locs : List Loc) (ls : Array Slot), i ≤ K → K - i < k → u = endL u0 (nI P) i → va_P (dC, dI) vwCl (mW h0 v cI cZ u) H → va_D A (mW h0 v cI cZ u) → va_S A H0 H locs → lv_has ls 3 [(2, .int (nI i)), (1, .int (nI P)), (0, .ref h0)] → W p l e R s m args below meth c H locs cells slots Q (F0 m 10 ls []) := by
  intro k
  induction k with
  | zero => intro i u H locs ls h1 h2; exact absurd h2 (Nat.not_lt_zero _)
  | succ k ih =>
    intro i u H locs ls hi hk hg hP hD hS hl
    refine lv_iload_n hx hb dX12_ends_10 rfl (lv_at hl 0 rfl) ?_
    refine lv_aload_n hx hb dX12_ends_11 rfl (lv_at hl 2 rfl) ?_
    refine va_get (D := (dC, dI)) (ci := 11) (v := .int (u.1 3)) (C := RX12) (T := TX12) (N := 52) hx hb hts (by decide +kernel) hown hK hP 0 rfl rfl 3 (by decide) (hts (.fieldLink RX12 147 "PageOneModel" "items" "I") (by decide +kernel)) (fun _ h9 => h9) rfl dX12_ends_12 ?_
    refine lv_topi (fun y_1 ey_1 => ?_)
    obtain rfl : y_1 = (nI K) := ey_1.trans ((by rw [hg, (endL_k u0 (nI P) i).1]; exact eK))
    refine lv_icmp_ge (tgt := 154) hx hb dX12_ends_15 (by decide) (fun c_2 => ?_) (fun c_2 => ?_)
    ·
      have hie : i = K := lp_eq rfl (by omega) hi c_2
      rw [hie] at hg hl
      exact kx _ _ _ ls hg hP hD hS (lv_sub hl [0, 1, 2] rfl)
    ·
      have hlt : i < K := lp_lt rfl (by omega) hi c_2
      refine lv_aload_n hx hb dX12_ends_18 rfl (lv_at hl 2 rfl) ?_
      refine lv_iload_n hx hb dX12_ends_19 rfl (lv_at hl 1 rfl) ?_
      refine vp_callSi (va_runV (As := [.int (nI P)]) (rest := []) ⟨hx, hb, hml, hown, hts⟩ (m_isNow l dC dI h0 v cI cZ u (nI P) (bwN (by have h11 : (11 : Int32).toInt = 11 := rfl; rw [h11]; omega) (by omega))) (cwV 1 hts gX12_ends_X12_isNow rfl rfl rfl (by decide +kernel) ⟨hRf, hRl⟩) ⟨pw_fb, va_recv hK hP (ci := 11) (q0 := 0) rfl rfl, fun U hU hW => ⟨rfl, pw_to hU hW hP hK hN⟩⟩ rfl rfl hl.1 rfl (lv_room (Nat.le_of_ble_eq_true rfl)) dX12_ends_20 ⟨hRc, hRs⟩).run (fun r hw => ?_)
      obtain rfl : r = 1 := b_t hw ((by rw [hg]; exact mNow_k (endL_k u0 (nI P) i) _ : mNow u (nI P) = mNow u0 (nI P)).trans hnow)
      refine lv_if_eq (tgt := 154) hx hb dX12_ends_23 (by decide) (fun c_3 => absurd c_3 (by decide)) (fun c_3 => ?_)
      refine lv_aload_n hx hb dX12_ends_26 rfl (lv_at hl 2 rfl) ?_
      refine va_get (D := (dC, dI)) (ci := 11) (v := .ref (v 45)) (C := RX12) (T := TX12) (N := 52) hx hb hts (by decide +kernel) hown hK hP 0 rfl rfl 45 (by decide) (hts (.fieldLink RX12 131 "PageOneModel" "plateColumn" "[I") (by decide +kernel)) (fun _ h9 => h9) rfl dX12_ends_27 ?_
      refine lv_bipush (v := 80) hx hb dX12_ends_30 (by decide) ?_
      refine lv_iload_n hx hb dX12_ends_32 rfl (lv_at hl 1 rfl) ?_
      refine lv_imul hx hb dX12_ends_33 ?_
      refine lv_iload_n hx hb dX12_ends_34 rfl (lv_at hl 0 rfl) ?_
      refine lv_iadd hx hb dX12_ends_35 ?_
      refine va_iald hx hb hK hP 41 0 rfl rfl (vPl (bwN (by have h79 : (79 : Int32).toInt = 79 := rfl; rw [h79]; omega) (by omega)) hPP) dX12_ends_36 ?_
      refine lv_if_ge (tgt := 43) hx hb dX12_ends_37 (by decide) (fun c_4 => ?_) (fun c_4 => ?_)
      ·
        refine lv_aload_n hx hb dX12_ends_43 rfl (lv_at hl 2 rfl) ?_
        refine va_get (D := (dC, dI)) (ci := 11) (v := .ref (v 48)) (C := RX12) (T := TX12) (N := 52) hx hb hts (by decide +kernel) hown hK hP 0 rfl rfl 48 (by decide) (hts (.fieldLink RX12 140 "PageOneModel" "isOn" "[Z") (by decide +kernel)) (fun _ h9 => h9) rfl dX12_ends_44 ?_
        refine lv_bipush (v := 80) hx hb dX12_ends_47 (by decide) ?_
        refine lv_aload_n hx hb dX12_ends_49 rfl (lv_at hl 2 rfl) ?_
        refine va_get (D := (dC, dI)) (ci := 11) (v := .int (u.1 38)) (C := RX12) (T := TX12) (N := 52) hx hb hts (by decide +kernel) hown hK hP 0 rfl rfl 38 (by decide) (hts (.fieldLink RX12 206 "PageOneModel" "day" "I") (by decide +kernel)) (fun _ h9 => h9) rfl dX12_ends_50 ?_
        refine lv_imul hx hb dX12_ends_53 ?_
        refine lv_iload_n hx hb dX12_ends_54 rfl (lv_at hl 0 rfl) ?_
        refine lv_iadd hx hb dX12_ends_55 ?_
        refine lv_iconst (v := 1) hx hb dX12_ends_56 (by decide) ?_
        refine va_zast hx hb hK hP hD hS 44 1 rfl rfl (vOn (bwN (by have h79 : (79 : Int32).toInt = 79 := rfl; rw [h79]; omega) (by omega)) (by rw [hg, (endL_k u0 (nI P) i).1]; exact hd)) dX12_ends_57 (fun H locs hP hD hS => ?_)
        obtain ⟨u_5, eu_5⟩ : ∃ zz : mS, zz = mst u 48 ((80 * (u.1 38)) + (nI i)) (vp_nar .boolean 1) := ⟨_, rfl⟩
        have hP : va_P (dC, dI) vwCl (mW h0 v cI cZ u_5) H := by rw [eu_5]; exact hP
        have hD : va_D A (mW h0 v cI cZ u_5) := by rw [eu_5]; exact hD
        refine lv_aload_n hx hb dX12_ends_58 rfl (lv_at hl 2 rfl) ?_
        refine va_get (D := (dC, dI)) (ci := 11) (v := .ref (v 47)) (C := RX12) (T := TX12) (N := 52) hx hb hts (by decide +kernel) hown hK hP 0 rfl rfl 47 (by decide) (hts (.fieldLink RX12 137 "PageOneModel" "first" "[I") (by decide +kernel)) (fun _ h9 => h9) rfl dX12_ends_59 ?_
        refine lv_iconst (v := 5) hx hb dX12_ends_62 (by decide) ?_
        refine lv_iload_n hx hb dX12_ends_63 rfl (lv_at hl 0 rfl) ?_
        refine lv_imul hx hb dX12_ends_64 ?_
        refine va_iald hx hb hK hP 43 0 rfl rfl (v5 (bwN (by have h79 : (79 : Int32).toInt = 79 := rfl; rw [h79]; omega) (by omega))).1 dX12_ends_65 ?_
        refine lv_if_ge (tgt := 148) hx hb dX12_ends_66 (by decide) (fun c_6 => ?_) (fun c_6 => ?_)
        ·
          refine lv_iinc (v := (nI (i + 1))) (lv' := [(2, .int (nI (i + 1))), (1, .int (nI P)), (0, .ref h0)]) hx hb dX12_ends_148 hl (k := 0) rfl (nI_1 i) (by decide) rfl (fun ls hl => ?_)
          refine lv_goto (tgt := 10) hx hb dX12_ends_151 (by decide) ?_
          exact ih (i + 1) _ _ _ ls (by omega) (by omega) (by rw [endL, ← hg]; subst eu_5; unfold endI; simp only [if_pos c_4, if_pos c_6]) hP hD hS (lv_sub hl [0, 1, 2] rfl)
        ·
          refine lv_aload_n hx hb dX12_ends_69 rfl (lv_at hl 2 rfl) ?_
          refine va_get (D := (dC, dI)) (ci := 11) (v := .ref (v 47)) (C := RX12) (T := TX12) (N := 52) hx hb hts (by decide +kernel) hown hK hP 0 rfl rfl 47 (by decide) (hts (.fieldLink RX12 137 "PageOneModel" "first" "[I") (by decide +kernel)) (fun _ h9 => h9) rfl dX12_ends_70 ?_
          refine lv_iconst (v := 5) hx hb dX12_ends_73 (by decide) ?_
          refine lv_iload_n hx hb dX12_ends_74 rfl (lv_at hl 0 rfl) ?_
          refine lv_imul hx hb dX12_ends_75 ?_
          refine lv_aload_n hx hb dX12_ends_76 rfl (lv_at hl 2 rfl) ?_
          refine va_get (D := (dC, dI)) (ci := 11) (v := .int (u_5.1 38)) (C := RX12) (T := TX12) (N := 52) hx hb hts (by decide +kernel) hown hK hP 0 rfl rfl 38 (by decide) (hts (.fieldLink RX12 206 "PageOneModel" "day" "I") (by decide +kernel)) (fun _ h9 => h9) rfl dX12_ends_77 ?_
          refine va_iast hx hb hK hP hD hS 43 0 rfl rfl (v5 (bwN (by have h79 : (79 : Int32).toInt = 79 := rfl; rw [h79]; omega) (by omega))).1 dX12_ends_80 (fun H locs hP hD hS => ?_)
          obtain ⟨u_7, eu_7⟩ : ∃ zz : mS, zz = mst u_5 47 (5 * (nI i)) (u_5.1 38) := ⟨_, rfl⟩
          have hP : va_P (dC, dI) vwCl (mW h0 v cI cZ u_7) H := by rw [eu_7]; exact hP
          have hD : va_D A (mW h0 v cI cZ u_7) := by rw [eu_7]; exact hD
          refine lv_aload_n hx hb dX12_ends_81 rfl (lv_at hl 2 rfl) ?_
          refine va_get (D := (dC, dI)) (ci := 11) (v := .ref (v 47)) (C := RX12) (T := TX12) (N := 52) hx hb hts (by decide +kernel) hown hK hP 0 rfl rfl 47 (by decide) (hts (.fieldLink RX12 137 "PageOneModel" "first" "[I") (by decide +kernel)) (fun _ h9 => h9) rfl dX12_ends_82 ?_
          refine lv_iconst (v := 5) hx hb dX12_ends_85 (by decide) ?_
          refine lv_iload_n hx hb dX12_ends_86 rfl (lv_at hl 0 rfl) ?_
          refine lv_imul hx hb dX12_ends_87 ?_
          refine lv_iconst (v := 1) hx hb dX12_ends_88 (by decide) ?_
          refine lv_iadd hx hb dX12_ends_89 ?_
          refine lv_aload_n hx hb dX12_ends_90 rfl (lv_at hl 2 rfl) ?_
          refine va_get (D := (dC, dI)) (ci := 11) (v := .int (u_7.1 39)) (C := RX12) (T := TX12) (N := 52) hx hb hts (by decide +kernel) hown hK hP 0 rfl rfl 39 (by decide) (hts (.fieldLink RX12 257 "PageOneModel" "edition" "I") (by decide +kernel)) (fun _ h9 => h9) rfl dX12_ends_91 ?_
          refine va_iast hx hb hK hP hD hS 43 0 rfl rfl (v5w (bwN (by have h79 : (79 : Int32).toInt = 79 := rfl; rw [h79]; omega) (by omega)) (by decide)) dX12_ends_94 (fun H locs hP hD hS => ?_)
          obtain ⟨u_8, eu_8⟩ : ∃ zz : mS, zz = mst u_7 47 ((5 * (nI i)) + 1) (u_7.1 39) := ⟨_, rfl⟩
          have hP : va_P (dC, dI) vwCl (mW h0 v cI cZ u_8) H := by rw [eu_8]; exact hP
          have hD : va_D A (mW h0 v cI cZ u_8) := by rw [eu_8]; exact hD
          refine lv_aload_n hx hb dX12_ends_95 rfl (lv_at hl 2 rfl) ?_
          refine va_get (D := (dC, dI)) (ci := 11) (v := .ref (v 47)) (C := RX12) (T := TX12) (N := 52) hx hb hts (by decide +kernel) hown hK hP 0 rfl rfl 47 (by decide) (hts (.fieldLink RX12 137 "PageOneModel" "first" "[I") (by decide +kernel)) (fun _ h9 => h9) rfl dX12_ends_96 ?_
          refine lv_iconst (v := 5) hx hb dX12_ends_99 (by decide) ?_
          refine lv_iload_n hx hb dX12_ends_100 rfl (lv_at hl 0 rfl) ?_
          refine lv_imul hx hb dX12_ends_101 ?_
          refine lv_iconst (v := 2) hx hb dX12_ends_102 (by decide) ?_
          refine lv_iadd hx hb dX12_ends_103 ?_
          refine lv_iload_n hx hb dX12_ends_104 rfl (lv_at hl 1 rfl) ?_
          refine va_iast hx hb hK hP hD hS 43 0 rfl rfl (v5w (bwN (by have h79 : (79 : Int32).toInt = 79 := rfl; rw [h79]; omega) (by omega)) (by decide)) dX12_ends_105 (fun H locs hP hD hS => ?_)
          obtain ⟨u_9, eu_9⟩ : ∃ zz : mS, zz = mst u_8 47 ((5 * (nI i)) + 2) (nI P) := ⟨_, rfl⟩
          have hP : va_P (dC, dI) vwCl (mW h0 v cI cZ u_9) H := by rw [eu_9]; exact hP
          have hD : va_D A (mW h0 v cI cZ u_9) := by rw [eu_9]; exact hD
          refine lv_aload_n hx hb dX12_ends_106 rfl (lv_at hl 2 rfl) ?_
          refine va_get (D := (dC, dI)) (ci := 11) (v := .ref (v 47)) (C := RX12) (T := TX12) (N := 52) hx hb hts (by decide +kernel) hown hK hP 0 rfl rfl 47 (by decide) (hts (.fieldLink RX12 137 "PageOneModel" "first" "[I") (by decide +kernel)) (fun _ h9 => h9) rfl dX12_ends_107 ?_
          refine lv_iconst (v := 5) hx hb dX12_ends_110 (by decide) ?_
          refine lv_iload_n hx hb dX12_ends_111 rfl (lv_at hl 0 rfl) ?_
          refine lv_imul hx hb dX12_ends_112 ?_
          refine lv_iconst (v := 3) hx hb dX12_ends_113 (by decide) ?_
          refine lv_iadd hx hb dX12_ends_114 ?_
          refine lv_aload_n hx hb dX12_ends_115 rfl (lv_at hl 2 rfl) ?_
          refine va_get (D := (dC, dI)) (ci := 11) (v := .ref (v 45)) (C := RX12) (T := TX12) (N := 52) hx hb hts (by decide +kernel) hown hK hP 0 rfl rfl 45 (by decide) (hts (.fieldLink RX12 131 "PageOneModel" "plateColumn" "[I") (by decide +kernel)) (fun _ h9 => h9) rfl dX12_ends_116 ?_
          refine lv_bipush (v := 80) hx hb dX12_ends_119 (by decide) ?_
          refine lv_iload_n hx hb dX12_ends_121 rfl (lv_at hl 1 rfl) ?_
          refine lv_imul hx hb dX12_ends_122 ?_
          refine lv_iload_n hx hb dX12_ends_123 rfl (lv_at hl 0 rfl) ?_
          refine lv_iadd hx hb dX12_ends_124 ?_
          refine va_iald hx hb hK hP 41 0 rfl rfl (vPl (bwN (by have h79 : (79 : Int32).toInt = 79 := rfl; rw [h79]; omega) (by omega)) hPP) dX12_ends_125 ?_
          refine va_iast hx hb hK hP hD hS 43 0 rfl rfl (v5w (bwN (by have h79 : (79 : Int32).toInt = 79 := rfl; rw [h79]; omega) (by omega)) (by decide)) dX12_ends_126 (fun H locs hP hD hS => ?_)
          obtain ⟨u_10, eu_10⟩ : ∃ zz : mS, zz = mst u_9 47 ((5 * (nI i)) + 3) (u_9.2 45 (((80 * (nI P)) + (nI i)) : Int32).toNatClampNeg) := ⟨_, rfl⟩
          have hP : va_P (dC, dI) vwCl (mW h0 v cI cZ u_10) H := by rw [eu_10]; exact hP
          have hD : va_D A (mW h0 v cI cZ u_10) := by rw [eu_10]; exact hD
          refine lv_aload_n hx hb dX12_ends_127 rfl (lv_at hl 2 rfl) ?_
          refine va_get (D := (dC, dI)) (ci := 11) (v := .ref (v 47)) (C := RX12) (T := TX12) (N := 52) hx hb hts (by decide +kernel) hown hK hP 0 rfl rfl 47 (by decide) (hts (.fieldLink RX12 137 "PageOneModel" "first" "[I") (by decide +kernel)) (fun _ h9 => h9) rfl dX12_ends_128 ?_
          refine lv_iconst (v := 5) hx hb dX12_ends_131 (by decide) ?_
          refine lv_iload_n hx hb dX12_ends_132 rfl (lv_at hl 0 rfl) ?_
          refine lv_imul hx hb dX12_ends_133 ?_
          refine lv_iconst (v := 4) hx hb dX12_ends_134 (by decide) ?_
          refine lv_iadd hx hb dX12_ends_135 ?_
          refine lv_aload_n hx hb dX12_ends_136 rfl (lv_at hl 2 rfl) ?_
          refine va_get (D := (dC, dI)) (ci := 11) (v := .ref (v 46)) (C := RX12) (T := TX12) (N := 52) hx hb hts (by decide +kernel) hown hK hP 0 rfl rfl 46 (by decide) (hts (.fieldLink RX12 134 "PageOneModel" "plateLine" "[I") (by decide +kernel)) (fun _ h9 => h9) rfl dX12_ends_137 ?_
          refine lv_bipush (v := 80) hx hb dX12_ends_140 (by decide) ?_
          refine lv_iload_n hx hb dX12_ends_142 rfl (lv_at hl 1 rfl) ?_
          refine lv_imul hx hb dX12_ends_143 ?_
          refine lv_iload_n hx hb dX12_ends_144 rfl (lv_at hl 0 rfl) ?_
          refine lv_iadd hx hb dX12_ends_145 ?_
          refine va_iald hx hb hK hP 42 0 rfl rfl (vPl (bwN (by have h79 : (79 : Int32).toInt = 79 := rfl; rw [h79]; omega) (by omega)) hPP) dX12_ends_146 ?_
          refine va_iast hx hb hK hP hD hS 43 0 rfl rfl (v5w (bwN (by have h79 : (79 : Int32).toInt = 79 := rfl; rw [h79]; omega) (by omega)) (by decide)) dX12_ends_147 (fun H locs hP hD hS => ?_)
          obtain ⟨u_11, eu_11⟩ : ∃ zz : mS, zz = mst u_10 47 ((5 * (nI i)) + 4) (u_10.2 46 (((80 * (nI P)) + (nI i)) : Int32).toNatClampNeg) := ⟨_, rfl⟩
          have hP : va_P (dC, dI) vwCl (mW h0 v cI cZ u_11) H := by rw [eu_11]; exact hP
          have hD : va_D A (mW h0 v cI cZ u_11) := by rw [eu_11]; exact hD
          refine lv_iinc (v := (nI (i + 1))) (lv' := [(2, .int (nI (i + 1))), (1, .int (nI P)), (0, .ref h0)]) hx hb dX12_ends_148 hl (k := 0) rfl (nI_1 i) (by decide) rfl (fun ls hl => ?_)
          refine lv_goto (tgt := 10) hx hb dX12_ends_151 (by decide) ?_
          exact ih (i + 1) _ _ _ ls (by omega) (by omega) (by rw [endL, ← hg]; subst eu_5 eu_7 eu_8 eu_9 eu_10 eu_11; unfold endI; simp only [if_pos c_4, if_neg c_6]) hP hD hS (lv_sub hl [0, 1, 2] rfl)
      ·
        refine lv_goto (tgt := 148) hx hb dX12_ends_40 (by decide) ?_
        refine lv_iinc (v := (nI (i + 1))) (lv' := [(2, .int (nI (i + 1))), (1, .int (nI P)), (0, .ref h0)]) hx hb dX12_ends_148 hl (k := 0) rfl (nI_1 i) (by decide) rfl (fun ls hl => ?_)
        refine lv_goto (tgt := 10) hx hb dX12_ends_151 (by decide) ?_
        exact ih (i + 1) _ _ _ ls (by omega) (by omega) (by rw [endL, ← hg]; unfold endI; simp only [if_neg c_4]) hP hD hS (lv_sub hl [0, 1, 2] rfl)
