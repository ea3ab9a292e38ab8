/-- a filler's coming: item, page, column, line, lines -/
abbrev fX : Type := Nat × Nat × Nat × Nat × Nat
def fStep (w : mS) (n : Nat) (x : fX) : mS := mst (mStand w (nI x.1) x.2.1 x.2.2.1 x.2.2.2.1 1 x.2.2.2.2) 37 (w.1 36 + nI n) (nI x.1)
def fillR (u : mS) : List fX → mS
  | [] => u
  | x :: xs => fStep (fillR u xs) xs.length x
def fGood (u : mS) : List fX → Prop
  | [] => True
  | x :: xs => fGood u xs ∧ x.1 < (u.1 3).toNatClampNeg ∧ u.2 4 x.1 = 4 ∧ (fillR u xs).2 22 x.1 = 0 ∧ x.2.1 < 12 ∧ x.2.2.1 + 1 ≤ 8 ∧ x.2.2.2.1 + x.2.2.2.2 ≤ 60 ∧ 1 ≤ x.2.2.2.2
def mFillE (u : mS) (xs : List fX) : mS := mset (mActs (fillR u xs) 3 (nI xs.length) 0 0 0 0 0) 36 ((mActs (fillR u xs) 3 (nI xs.length) 0 0 0 0 0).1 36 + nI xs.length)
def stR (k : Nat) : Prop := k = 2 ∨ k = 22 ∨ k = 23 ∨ k = 24 ∨ k = 25 ∨ k = 26 ∨ k = 27 ∨ k = 37
theorem mStand_k (u : mS) (i : Int32) (P X Y D N : Nat) {k : Nat} (hk : ¬ stR k) : (mStand u i P X Y D N).2 k = u.2 k := by
  unfold stR at hk
  unfold mStand
  dsimp only
  rw [mput_other (by omega), mst_other (by omega), mst_other (by omega), mst_other (by omega), mst_other (by omega), mst_other (by omega), mst_other (by omega)]
theorem fillR_k (u : mS) : ∀ xs, (fillR u xs).1 = u.1 ∧ ∀ k, ¬ stR k → (fillR u xs).2 k = u.2 k
  | [] => ⟨rfl, fun _ _ => rfl⟩
  | x :: xs => by
    have h := fillR_k u xs
    refine ⟨h.1, fun k hk => ?_⟩
    show (mst _ 37 _ _).2 k = _
    rw [mst_other (by unfold stR at hk; omega), mStand_k _ _ _ _ _ _ _ hk]
    exact h.2 k hk
theorem ffr_spec (u : mS) (n : Int32) {M : Nat} (hM : M ≤ 80) : ∀ j, j ≤ M → mFFr u n M j = (-1) ∨ ∃ q, q < M ∧ mFFr u n M j = nI q ∧ u.2 4 q = 4 ∧ u.2 22 q = 0
  | 0, _ => Or.inl rfl
  | j + 1, h => by
    unfold mFFr
    split
    · rename_i h2
      obtain ⟨h3, -⟩ := band h2
      obtain ⟨h3, h4⟩ := band h3
      rw [nI_clamp (by omega)] at h3 h4
      exact Or.inr ⟨M - j - 1, by omega, rfl, of_decide_eq_true h3, of_decide_eq_true h4⟩
    · exact ffr_spec u n hM j (by omega)
theorem vFl {F : Int32} {n : Nat} (h0 : 0 ≤ F.toInt) (h : F.toInt + n < 700) : vp_in (F + nI n) 700 := by
  rw [vp_in_iff, addI (by rw [nI_toInt (by omega)]; omega) (by rw [nI_toInt (by omega)]; omega), nI_toInt (by omega)]; omega
theorem nIle {a b : Nat} (ha : a < 2 ^ 31) (hb : b < 2 ^ 31) (h : nI a ≤ nI b) : a ≤ b := by
  rw [i32_le, nI_toInt ha, nI_toInt hb] at h; omega
theorem nInle {a b : Nat} (ha : a < 2 ^ 31) (hb : b < 2 ^ 31) (h : ¬ nI a ≤ nI b) : b < a := by
  rw [i32_le, nI_toInt ha, nI_toInt hb] at h; omega
theorem nIpos {a : Nat} (ha : a < 2 ^ 31) : ¬ nI a < 0 := by
  rw [i32_lt, nI_toInt ha, i0]; omega
theorem nR {k : Nat} (h : (!(k == 2) && !(k == 22) && !(k == 23) && !(k == 24) && !(k == 25) && !(k == 26) && !(k == 27) && !(k == 37)) = true) : ¬ stR k := by
  unfold stR; simp at h; omega
set_option maxHeartbeats 4000000 in
set_option maxRecDepth 100000 in
theorem m_fl_in {p : Program} {l : Launch} {e : Env} {R : Room} {s : State} {m : MethodId} {args : Array Value} {below : List Frame} {meth : Method} {c : Code} {Q : State → Prop} {cells slots : Nat} {dC : Nat → ClassId} {dI : Nat → Nat → Nat} {h0 : Nat} {v : Nat → Nat} {cI cZ : ClassId} {H : Heap} {locs : List Loc} {u : mS} (hx : p.tables.exec = Jvm.exec) (hb : c.code = cX12_fill) (hml : c.maxLocals = 7) (hts : ∀ w ∈ wsX12_fill, w.before args s = true) (hown : s.vm.findClass RX12 = some m.cls) (hN : NN s) (hK : va_K (dC, dI) vwCl [(cI, .int), (cZ, .boolean)] s) (hRf : 1 ≤ R.frames) (hRl : 22 ≤ R.locals) (hRc : cells ≤ R.cells) (hRs : slots ≤ R.slots) (hP : va_P (dC, dI) vwCl (mW h0 v cI cZ u) H) {P c9 K L J : Nat} {b9 : Int32} (hPP : P < 12) (hc8 : c9 < 8) (hK6 : K ≤ 60) (hKJ : K = L + J) (eK : u.2 0 (8 * nI P + nI c9).toNatClampNeg = nI K) (kx91 : ∀ (e9 : Nat) (ls : Array Slot), L ≤ e9 → e9 ≤ K → lv_has ls 7 [(5, .int (nI e9)), (4, .int (nI L)), (3, .int (nI c9)), (2, .int b9), (0, .ref h0), (1, .int (nI P))] → W p l e R s m args below meth c H locs cells slots Q (F0 m 91 ls [])) : ∀ (k i : Nat) (ls : Array Slot), i ≤ J → J - i < k → lv_has ls 7 [(5, .int (nI (L + i))), (4, .int (nI L)), (3, .int (nI c9)), (2, .int b9), (0, .ref h0), (1, .int (nI P))] → W p l e R s m args below meth c H locs cells slots Q (F0 m 52 ls []) := by
  intro k
  induction k with
  | zero => intro i ls h1 h2; exact absurd h2 (Nat.not_lt_zero _)
  | succ k ih =>
    intro i ls hi hk hl
    refine lv_iload hx hb dX12_fill_52 (lv_at hl 0 rfl) ?_
    refine lv_aload_n hx hb dX12_fill_54 rfl (lv_at hl 4 rfl) ?_
    refine va_get (D := (dC, dI)) (ci := 11) (v := .ref (v 0)) (C := RX12) (T := TX12) (N := 52) hx hb hts (by decide +kernel) hown hK hP 0 rfl rfl 0 (by decide) (hts (.fieldLink RX12 7 "PageOneModel" "lines" "[I") (by decide +kernel)) (fun _ h9 => h9) rfl dX12_fill_55 ?_
    refine lv_bipush (v := 8) hx hb dX12_fill_58 (by decide) ?_
    refine lv_iload_n hx hb dX12_fill_60 rfl (lv_at hl 5 rfl) ?_
    refine lv_imul hx hb dX12_fill_61 ?_
    refine lv_iload_n hx hb dX12_fill_62 rfl (lv_at hl 2 rfl) ?_
    refine lv_iadd hx hb dX12_fill_63 ?_
    refine va_iald hx hb hK hP 1 0 rfl rfl (vin8 (bw11 hPP) (bw7 hc8)) dX12_fill_64 ?_
    refine lv_topi (fun y_1 ey_1 => ?_)
    obtain rfl : y_1 = (nI K) := ey_1.trans (eK)
    refine lv_icmp_ge (tgt := 91) hx hb dX12_fill_65 (by decide) (fun c_2 => ?_) (fun c_2 => ?_)
    ·
      have hie : L + i = K := lp_eq rfl (by omega) (by omega) c_2
      exact kx91 _ ls (Nat.le_add_right _ _) (by omega) (lv_sub hl [0, 1, 2, 3, 4, 5] rfl)
    ·
      have hlt : L + i < K := lp_lt rfl (by omega) (by omega) c_2
      refine lv_aload_n hx hb dX12_fill_68 rfl (lv_at hl 4 rfl) ?_
      refine va_get (D := (dC, dI)) (ci := 11) (v := .ref (v 2)) (C := RX12) (T := TX12) (N := 52) hx hb hts (by decide +kernel) hown hK hP 0 rfl rfl 2 (by decide) (hts (.fieldLink RX12 16 "PageOneModel" "cell" "[I") (by decide +kernel)) (fun _ h9 => h9) rfl dX12_fill_69 ?_
      refine lv_iload_n hx hb dX12_fill_72 rfl (lv_at hl 5 rfl) ?_
      refine lv_iload_n hx hb dX12_fill_73 rfl (lv_at hl 2 rfl) ?_
      refine lv_iload hx hb dX12_fill_74 (lv_at hl 0 rfl) ?_
      refine vp_callSi (va_runS (As := [.int (nI P), .int (nI c9), .int (nI (L + i))]) (rest := [.ref (v 2)]) ⟨hx, hb, hml, hown, hts⟩ (m_at l dC dI (nI P) (nI c9) (nI (L + i))) (va_cwS 3 hts gX12_fill_X12_at rfl rfl rfl (by decide +kernel) ⟨Nat.le_trans (Nat.le_of_ble_eq_true rfl) hRf, Nat.le_trans (Nat.le_of_ble_eq_true rfl) hRl⟩) ⟨pw_fb, fun U hU hW => ⟨rfl, pw_to hU hW (hP.sub (ws' := []) [] rfl) (hK.sub (tys' := []) [] rfl) hN⟩⟩ rfl rfl hl.1 rfl (lv_room (Nat.le_of_ble_eq_true rfl)) dX12_fill_76 ⟨hRc, hRs⟩).run (fun r hw => ?_)
      obtain rfl : r = (480 * (nI P) + 60 * (nI c9) + (nI (L + i))) := hw
      refine va_iald hx hb hK hP 3 0 rfl rfl (vinC (bw11 hPP) (bw7 hc8) (by omega)) dX12_fill_79 ?_
      refine lv_bipush (v := (-2)) hx hb dX12_fill_80 (by decide) ?_
      refine lv_icmp_ne (tgt := 91) hx hb dX12_fill_82 (by decide) (fun c_3 => ?_) (fun c_3 => ?_)
      ·
        exact kx91 _ ls (Nat.le_add_right _ _) (by omega) (lv_sub hl [0, 1, 2, 3, 4, 5] rfl)
      ·
        refine lv_iinc (v := (nI (L + i + 1))) (lv' := [(5, .int (nI (L + i + 1))), (4, .int (nI L)), (3, .int (nI c9)), (2, .int b9), (0, .ref h0), (1, .int (nI P))]) hx hb dX12_fill_85 hl (k := 0) rfl (nI_1 _) (by decide) rfl (fun ls hl => ?_)
        refine lv_goto (tgt := 52) hx hb dX12_fill_88 (by decide) ?_
        exact ih (i + 1) ls (by omega) (by omega) (lv_sub hl [0, 1, 2, 3, 4, 5] rfl)
set_option maxHeartbeats 4000000 in
set_option maxRecDepth 100000 in
theorem m_fl_mid {p : Program} {l : Launch} {e : Env} {R : Room} {s : State} {m : MethodId} {args : Array Value} {below : List Frame} {meth : Method} {c : Code} {Q : State → Prop} {cells slots : Nat} {dC : Nat → ClassId} {dI : Nat → Nat → Nat} {h0 : Nat} {v : Nat → Nat} {cI cZ : ClassId} {u0 : mS} {P M : Nat} (hPP : P < 12) (hM8 : M ≤ 80) (eM : u0.1 3 = nI M) (hfb : ∀ (x : fX) (xs : List fX), fGood u0 (x :: xs) → 0 ≤ (u0.1 36).toInt ∧ (u0.1 36).toInt + (xs.length : Int) < 700) {c9 K : Nat} (hc8 : c9 < 8) (hK6 : K ≤ 60) (eK : u0.2 0 (8 * nI P + nI c9).toNatClampNeg = nI K) {A : Nat → Prop} {H0 : Heap} (hx : p.tables.exec = Jvm.exec) (hb : c.code = cX12_fill) (hml : c.maxLocals = 7) (hts : ∀ w ∈ wsX12_fill, w.before args s = true) (hown : s.vm.findClass RX12 = some m.cls) (hN : NN s) (hK : va_K (dC, dI) vwCl [(cI, .int), (cZ, .boolean)] s) (hRf : 3 ≤ R.frames) (hRl : 77 ≤ R.locals) (hRc : cells ≤ R.cells) (hRs : slots ≤ R.slots) (hA : ∀ q : Nat, H0.size ≤ q → A q) (kx : ∀ (u : mS) (H : Heap) (locs : List Loc) (xs : List fX) (ls : Array Slot), (fGood u0 xs ∧ u = fillR u0 xs) → va_P (dC, dI) vwCl (mW h0 v cI cZ u) H → va_D A (mW h0 v cI cZ u) → va_S A H0 H locs → lv_has ls 7 [(4, .int (nI K)), (3, .int (nI c9)), (2, .int (nI xs.length)), (0, .ref h0), (1, .int (nI P))] → W p l e R s m args below meth c H locs cells slots Q (F0 m 171 ls [])) : ∀ (k i : Nat) (u : mS) (H : Heap) (locs : List Loc) (xs : List fX) (ls : Array Slot), i ≤ K → K - i < k → (fGood u0 xs ∧ u = fillR u0 xs) → va_P (dC, dI) vwCl (mW h0 v cI cZ u) H → va_D A (mW h0 v cI cZ u) → va_S A H0 H locs → lv_has ls 7 [(4, .int (nI i)), (3, .int (nI c9)), (2, .int (nI xs.length)), (0, .ref h0), (1, .int (nI P))] → W p l e R s m args below meth c H locs cells slots Q (F0 m 32 ls []) := by
  intro k
  induction k with
  | zero => intro i u H locs xs ls h1 h2; exact absurd h2 (Nat.not_lt_zero _)
  | succ k ih =>
    intro i u H locs xs ls hi hk hg hP hD hS hl
    refine lv_iload hx hb dX12_fill_32 (lv_at hl 0 rfl) ?_
    refine lv_aload_n hx hb dX12_fill_34 rfl (lv_at hl 3 rfl) ?_
    refine va_get (D := (dC, dI)) (ci := 11) (v := .ref (v 0)) (C := RX12) (T := TX12) (N := 52) hx hb hts (by decide +kernel) hown hK hP 0 rfl rfl 0 (by decide) (hts (.fieldLink RX12 7 "PageOneModel" "lines" "[I") (by decide +kernel)) (fun _ h9 => h9) rfl dX12_fill_35 ?_
    refine lv_bipush (v := 8) hx hb dX12_fill_38 (by decide) ?_
    refine lv_iload_n hx hb dX12_fill_40 rfl (lv_at hl 4 rfl) ?_
    refine lv_imul hx hb dX12_fill_41 ?_
    refine lv_iload_n hx hb dX12_fill_42 rfl (lv_at hl 1 rfl) ?_
    refine lv_iadd hx hb dX12_fill_43 ?_
    refine va_iald hx hb hK hP 1 0 rfl rfl (vin8 (bw11 hPP) (bw7 hc8)) dX12_fill_44 ?_
    refine lv_topi (fun y_1 ey_1 => ?_)
    obtain rfl : y_1 = (nI K) := ey_1.trans ((by rw [hg.2, (fillR_k u0 xs).2 0 (nR rfl)]; exact eK))
    refine lv_icmp_ge (tgt := 171) hx hb dX12_fill_45 (by decide) (fun c_2 => ?_) (fun c_2 => ?_)
    ·
      have hie : i = K := lp_eq rfl (by omega) hi c_2
      rw [hie] at hl
      exact kx _ _ _ _ ls hg hP hD hS (lv_sub hl [0, 1, 2, 3, 4] rfl)
    ·
      have hlt : i < K := lp_lt rfl (by omega) hi c_2
      refine lv_iload hx hb dX12_fill_48 (lv_at hl 0 rfl) ?_
      refine lv_istore (lv' := [(5, .int (nI i)), (4, .int (nI i)), (3, .int (nI c9)), (2, .int (nI xs.length)), (0, .ref h0), (1, .int (nI P))]) hx hb dX12_fill_50 hl (by decide) rfl (fun ls hl => ?_)
      refine m_fl_in (P := P) (c9 := c9) (K := K) (L := i) (J := K - i) hx hb hml hts hown hN hK (Nat.le_trans (Nat.le_of_ble_eq_true rfl) hRf) (Nat.le_trans (Nat.le_of_ble_eq_true rfl) hRl) hRc hRs hP hPP hc8 hK6 (by omega) (by rw [hg.2, (fillR_k u0 xs).2 0 (nR rfl)]; exact eK) (fun e9 ls hLe heK hl => ?_) (K - i + 1) 0 ls (Nat.zero_le _) (by omega) (lv_sub hl [0, 1, 2, 3, 4, 5] rfl)
      refine lv_iload hx hb dX12_fill_91 (lv_at hl 0 rfl) ?_
      refine lv_iload hx hb dX12_fill_93 (lv_at hl 1 rfl) ?_
      refine lv_icmp_le (tgt := 110) hx hb dX12_fill_95 (by decide) (fun c_3 => ?_) (fun c_3 => ?_)
      ·
        have hel := nIle (by omega) (by omega) c_3
        refine lv_iconst (v := (-1)) hx hb dX12_fill_110 (by decide) ?_
        refine lv_istore (lv' := [(6, .int (-1)), (5, .int (nI e9)), (4, .int (nI i)), (3, .int (nI c9)), (2, .int (nI xs.length)), (0, .ref h0), (1, .int (nI P))]) hx hb dX12_fill_111 hl (by decide) rfl (fun ls hl => ?_)
        refine lv_iload hx hb dX12_fill_113 (lv_at hl 0 rfl) ?_
        refine lv_if_lt (tgt := 150) hx hb dX12_fill_115 (by decide) (fun c_4 => ?_) (fun c_4 => absurd (by decide) c_4)
        refine lv_iload hx hb dX12_fill_150 (lv_at hl 1 rfl) ?_
        refine lv_iload hx hb dX12_fill_152 (lv_at hl 2 rfl) ?_
        refine lv_icmp_le (tgt := 162) hx hb dX12_fill_154 (by decide) (fun c_5 => ?_) (fun c_5 => absurd (c_3) c_5)
        refine lv_iload hx hb dX12_fill_162 (lv_at hl 2 rfl) ?_
        refine lv_iconst (v := 1) hx hb dX12_fill_164 (by decide) ?_
        refine lv_iadd hx hb dX12_fill_165 ?_
        refine lv_topi (fun y_6 ey_6 => ?_)
        obtain rfl : y_6 = (nI (i + 1)) := ey_6.trans ((nI_1 i))
        refine lv_istore (lv' := [(4, .int (nI (i + 1))), (6, .int (-1)), (5, .int (nI e9)), (3, .int (nI c9)), (2, .int (nI xs.length)), (0, .ref h0), (1, .int (nI P))]) hx hb dX12_fill_166 hl (by decide) rfl (fun ls hl => ?_)
        refine lv_goto (tgt := 32) hx hb dX12_fill_168 (by decide) ?_
        exact ih (i + 1) _ _ _ xs ls (by omega) (by omega) hg hP hD hS (lv_sub hl [0, 3, 4, 5, 6] rfl)
      ·
        have hel := nInle (by omega) (by omega) c_3
        refine lv_aload_n hx hb dX12_fill_98 rfl (lv_at hl 4 rfl) ?_
        refine lv_iload hx hb dX12_fill_99 (lv_at hl 0 rfl) ?_
        refine lv_iload hx hb dX12_fill_101 (lv_at hl 1 rfl) ?_
        refine lv_isub hx hb dX12_fill_103 ?_
        refine lv_topi (fun y_7 ey_7 => ?_)
        obtain rfl : y_7 = (nI (e9 - i)) := ey_7.trans ((pk_sub (by omega)))
        refine vp_callSi (va_runV (As := [.int (nI (e9 - i))]) (rest := []) ⟨hx, hb, hml, hown, hts⟩ (m_fillerFor l dC dI h0 v cI cZ u (nI (e9 - i)) (by rw [hg.2, (fillR_k u0 xs).1, eM]; exact bwN (by have h80 : (80 : Int32).toInt = 80 := rfl; rw [h80]; omega) (by omega))) (cwV 1 hts gX12_fill_X12_fillerFor rfl rfl rfl (by decide +kernel) ⟨Nat.le_trans (Nat.le_of_ble_eq_true rfl) hRf, Nat.le_trans (Nat.le_of_ble_eq_true rfl) hRl⟩) ⟨pw_fb, va_recv hK hP (ci := 11) (q0 := 0) rfl rfl, fun U hU hW => ⟨rfl, pw_to hU hW hP hK hN⟩⟩ rfl rfl hl.1 rfl (lv_room (Nat.le_of_ble_eq_true rfl)) dX12_fill_104 ⟨hRc, hRs⟩).run (fun r hw => ?_)
        have hff := ffr_spec u (nI (e9 - i)) (M := M) hM8 M (Nat.le_refl _)
        rw [show (u.1 3).toNatClampNeg = M from by rw [hg.2, (fillR_k u0 xs).1, eM, nI_clamp (by omega)]] at hw
        rw [← hw] at hff
        rcases hff with hff | ⟨q, hq1, hq2, hq3, hq4⟩
        ·
          subst hff
          refine lv_goto (tgt := 111) hx hb dX12_fill_107 (by decide) ?_
          refine lv_istore (lv' := [(6, .int (-1)), (5, .int (nI e9)), (4, .int (nI i)), (3, .int (nI c9)), (2, .int (nI xs.length)), (0, .ref h0), (1, .int (nI P))]) hx hb dX12_fill_111 hl (by decide) rfl (fun ls hl => ?_)
          refine lv_iload hx hb dX12_fill_113 (lv_at hl 0 rfl) ?_
          refine lv_if_lt (tgt := 150) hx hb dX12_fill_115 (by decide) (fun c_8 => ?_) (fun c_8 => absurd (by decide) c_8)
          refine lv_iload hx hb dX12_fill_150 (lv_at hl 1 rfl) ?_
          refine lv_iload hx hb dX12_fill_152 (lv_at hl 2 rfl) ?_
          refine lv_icmp_le (tgt := 162) hx hb dX12_fill_154 (by decide) (fun c_9 => absurd c_9 (c_3)) (fun c_9 => ?_)
          refine lv_iload hx hb dX12_fill_157 (lv_at hl 1 rfl) ?_
          refine lv_goto (tgt := 166) hx hb dX12_fill_159 (by decide) ?_
          refine lv_istore (lv' := [(4, .int (nI e9)), (6, .int (-1)), (5, .int (nI e9)), (3, .int (nI c9)), (2, .int (nI xs.length)), (0, .ref h0), (1, .int (nI P))]) hx hb dX12_fill_166 hl (by decide) rfl (fun ls hl => ?_)
          refine lv_goto (tgt := 32) hx hb dX12_fill_168 (by decide) ?_
          exact ih e9 _ _ _ xs ls (by omega) (by omega) hg hP hD hS (lv_sub hl [0, 3, 4, 5, 6] rfl)
        ·
          subst hq2
          have hnew : fGood u0 ((q, P, c9, i, e9 - i) :: xs) := ⟨hg.1, by rw [eM, nI_clamp (by omega)]; exact hq1, by rw [← (fillR_k u0 xs).2 4 (nR rfl), ← hg.2]; exact hq3, by rw [← hg.2]; exact hq4, hPP, by show c9 + 1 ≤ 8; omega, by show i + (e9 - i) ≤ 60; omega, by show 1 ≤ e9 - i; omega⟩
          refine lv_goto (tgt := 111) hx hb dX12_fill_107 (by decide) ?_
          refine lv_istore (lv' := [(6, .int (nI q)), (5, .int (nI e9)), (4, .int (nI i)), (3, .int (nI c9)), (2, .int (nI xs.length)), (0, .ref h0), (1, .int (nI P))]) hx hb dX12_fill_111 hl (by decide) rfl (fun ls hl => ?_)
          refine lv_iload hx hb dX12_fill_113 (lv_at hl 0 rfl) ?_
          refine lv_if_lt (tgt := 150) hx hb dX12_fill_115 (by decide) (fun c_10 => absurd c_10 (nIpos (by omega))) (fun c_10 => ?_)
          refine lv_aload_n hx hb dX12_fill_118 rfl (lv_at hl 5 rfl) ?_
          refine lv_iload hx hb dX12_fill_119 (lv_at hl 0 rfl) ?_
          refine lv_iload_n hx hb dX12_fill_121 rfl (lv_at hl 6 rfl) ?_
          refine lv_iload_n hx hb dX12_fill_122 rfl (lv_at hl 3 rfl) ?_
          refine lv_iload hx hb dX12_fill_123 (lv_at hl 2 rfl) ?_
          refine lv_iconst (v := 1) hx hb dX12_fill_125 (by decide) ?_
          refine lv_iload hx hb dX12_fill_126 (lv_at hl 1 rfl) ?_
          refine lv_iload hx hb dX12_fill_128 (lv_at hl 2 rfl) ?_
          refine lv_isub hx hb dX12_fill_130 ?_
          refine lv_topi (fun y_11 ey_11 => ?_)
          obtain rfl : y_11 = (nI (e9 - i)) := ey_11.trans ((pk_sub (by omega)))
          have hFc := fr_all hD hS hA
          refine va_callv (va_runV (As := [.int (nI q), .int (nI P), .int (nI c9), .int (nI i), .int 1, .int (nI (e9 - i))]) (rest := []) ⟨hx, hb, hml, hown, hts⟩ (m_stand l dC dI h0 v cI cZ u (nI q) P c9 i 1 (e9 - i) hPP (by omega) (by omega) (bw79 (by omega)) (z05 (by rw [nI_clamp (by omega)]; exact hq4)) H.size) (cwV 6 hts gX12_fill_X12_stand rfl rfl rfl (by decide +kernel) ⟨Nat.le_trans (Nat.le_of_ble_eq_true rfl) hRf, Nat.le_trans (Nat.le_of_ble_eq_true rfl) hRl⟩) ⟨gw_fb, va_recv hK hP (ci := 11) (q0 := 0) rfl rfl, fun U hU hW => ⟨rfl, by rw [hU], pw_to hU hW hP hK hN, hD.weaken (fun _ _ _ _ => trivial)⟩⟩ rfl rfl hl.1 rfl (lv_room (Nat.le_of_ble_eq_true rfl)) dX12_fill_131 ⟨hRc, hRs⟩) hS (fun q _ h => hFc q h) hFc (fun u_12 t H1 locs ht hvm hw hB hz1 hk1 hS => ?_)
          obtain ⟨hP, hD1⟩ := hB
          rw [ht] at hP
          have hD := hD1.weaken (fun _ q _ h => hFc q.1 h)
          generalize H1 = H at hP hS ⊢
          have eu_12 := hw
          refine lv_aload_n hx hb dX12_fill_134 rfl (lv_at hl 5 rfl) ?_
          refine va_get (D := (dC, dI)) (ci := 11) (v := .ref (v 37)) (C := RX12) (T := TX12) (N := 52) hx hb hts (by decide +kernel) hown hK hP 0 rfl rfl 37 (by decide) (hts (.fieldLink RX12 113 "PageOneModel" "filler" "[I") (by decide +kernel)) (fun _ h9 => h9) rfl dX12_fill_135 ?_
          refine lv_aload_n hx hb dX12_fill_138 rfl (lv_at hl 5 rfl) ?_
          refine va_get (D := (dC, dI)) (ci := 11) (v := .int (u_12.1 36)) (C := RX12) (T := TX12) (N := 52) hx hb hts (by decide +kernel) hown hK hP 0 rfl rfl 36 (by decide) (hts (.fieldLink RX12 168 "PageOneModel" "filled" "I") (by decide +kernel)) (fun _ h9 => h9) rfl dX12_fill_139 ?_
          refine lv_iload_n hx hb dX12_fill_142 rfl (lv_at hl 4 rfl) ?_
          refine lv_iadd hx hb dX12_fill_143 ?_
          refine lv_iload hx hb dX12_fill_144 (lv_at hl 0 rfl) ?_
          refine va_iast hx hb hK hP hD hS 35 0 rfl rfl (by rw [show u_12.1 36 = u0.1 36 from by rw [eu_12, hg.2]; exact congrFun (fillR_k u0 xs).1 36]; exact vFl (hfb _ xs hnew).1 (hfb _ xs hnew).2) dX12_fill_146 (fun H locs hP hD hS => ?_)
          obtain ⟨u_13, eu_13⟩ : ∃ zz : mS, zz = mst u_12 37 ((u_12.1 36) + (nI xs.length)) (nI q) := ⟨_, rfl⟩
          have hP : va_P (dC, dI) vwCl (mW h0 v cI cZ u_13) H := by rw [eu_13]; exact hP
          have hD : va_D A (mW h0 v cI cZ u_13) := by rw [eu_13]; exact hD
          refine lv_iinc (v := (nI (((q, P, c9, i, e9 - i) :: xs) : List fX).length)) (lv' := [(2, .int (nI (((q, P, c9, i, e9 - i) :: xs) : List fX).length)), (6, .int (nI q)), (5, .int (nI e9)), (4, .int (nI i)), (3, .int (nI c9)), (0, .ref h0), (1, .int (nI P))]) hx hb dX12_fill_147 hl (k := 4) rfl (nI_1 _) (by decide) rfl (fun ls hl => ?_)
          refine lv_iload hx hb dX12_fill_150 (lv_at hl 2 rfl) ?_
          refine lv_iload hx hb dX12_fill_152 (lv_at hl 3 rfl) ?_
          refine lv_icmp_le (tgt := 162) hx hb dX12_fill_154 (by decide) (fun c_14 => absurd c_14 (c_3)) (fun c_14 => ?_)
          refine lv_iload hx hb dX12_fill_157 (lv_at hl 2 rfl) ?_
          refine lv_goto (tgt := 166) hx hb dX12_fill_159 (by decide) ?_
          refine lv_istore (lv' := [(4, .int (nI e9)), (2, .int (nI (((q, P, c9, i, e9 - i) :: xs) : List fX).length)), (6, .int (nI q)), (5, .int (nI e9)), (3, .int (nI c9)), (0, .ref h0), (1, .int (nI P))]) hx hb dX12_fill_166 hl (by decide) rfl (fun ls hl => ?_)
          refine lv_goto (tgt := 32) hx hb dX12_fill_168 (by decide) ?_
          exact ih e9 _ _ _ ((q, P, c9, i, e9 - i) :: xs) ls (by omega) (by omega) ⟨hnew, by rw [eu_13, eu_12, hg.2]; rfl⟩ hP hD hS (lv_sub hl [0, 4, 1, 5, 6] rfl)
set_option maxHeartbeats 4000000 in
set_option maxRecDepth 100000 in
theorem m_fl_out {p : Program} {l : Launch} {e : Env} {R : Room} {s : State} {m : MethodId} {args : Array Value} {below : List Frame} {meth : Method} {c : Code} {Q : State → Prop} {cells slots : Nat} {dC : Nat → ClassId} {dI : Nat → Nat → Nat} {h0 : Nat} {v : Nat → Nat} {cI cZ : ClassId} {u0 : mS} {P M : Nat} (hPP : P < 12) (hM8 : M ≤ 80) (eM : u0.1 3 = nI M) (hfb : ∀ (x : fX) (xs : List fX), fGood u0 (x :: xs) → 0 ≤ (u0.1 36).toInt ∧ (u0.1 36).toInt + (xs.length : Int) < 700) (hln0 : ∀ j, j < 96 → bw (u0.2 0 j) 0 60 = true) {A : Nat → Prop} {H0 : Heap} (hx : p.tables.exec = Jvm.exec) (hb : c.code = cX12_fill) (hml : c.maxLocals = 7) (hts : ∀ w ∈ wsX12_fill, w.before args s = true) (hown : s.vm.findClass RX12 = some m.cls) (hN : NN s) (hK : va_K (dC, dI) vwCl [(cI, .int), (cZ, .boolean)] s) (hRf : 3 ≤ R.frames) (hRl : 77 ≤ R.locals) (hRc : cells ≤ R.cells) (hRs : slots ≤ R.slots) (hA : ∀ q : Nat, H0.size ≤ q → A q) (kx : ∀ (u : mS) (H : Heap) (locs : List Loc) (xs : List fX) (ls : Array Slot), (fGood u0 xs ∧ u = fillR u0 xs) → va_P (dC, dI) vwCl (mW h0 v cI cZ u) H → va_D A (mW h0 v cI cZ u) → va_S A H0 H locs → lv_has ls 7 [(3, .int (nI 8)), (2, .int (nI xs.length)), (0, .ref h0), (1, .int (nI P))] → W p l e R s m args below meth c H locs cells slots Q (F0 m 177 ls [])) : ∀ (k i : Nat) (u : mS) (H : Heap) (locs : List Loc) (xs : List fX) (ls : Array Slot), i ≤ 8 → 8 - i < k → (fGood u0 xs ∧ u = fillR u0 xs) → va_P (dC, dI) vwCl (mW h0 v cI cZ u) H → va_D A (mW h0 v cI cZ u) → va_S A H0 H locs → lv_has ls 7 [(3, .int (nI i)), (2, .int (nI xs.length)), (0, .ref h0), (1, .int (nI P))] → W p l e R s m args below meth c H locs cells slots Q (F0 m 23 ls []) := by
  intro k
  induction k with
  | zero => intro i u H locs xs ls h1 h2; exact absurd h2 (Nat.not_lt_zero _)
  | succ k ih =>
    intro i u H locs xs ls hi hk hg hP hD hS hl
    refine lv_iload_n hx hb dX12_fill_23 rfl (lv_at hl 0 rfl) ?_
    refine lv_bipush (v := 8) hx hb dX12_fill_24 (by decide) ?_
    refine lv_icmp_ge (tgt := 177) hx hb dX12_fill_26 (by decide) (fun c_1 => ?_) (fun c_1 => ?_)
    ·
      have hie : i = 8 := lp_eq rfl (by decide) hi c_1
      subst hie
      exact kx _ _ _ _ ls hg hP hD hS (lv_sub hl [0, 1, 2, 3] rfl)
    ·
      have hlt : i < 8 := lp_lt rfl (by decide) hi c_1
      refine lv_iconst (v := 0) hx hb dX12_fill_29 (by decide) ?_
      refine lv_istore (lv' := [(4, .int 0), (3, .int (nI i)), (2, .int (nI xs.length)), (0, .ref h0), (1, .int (nI P))]) hx hb dX12_fill_30 hl (by decide) rfl (fun ls hl => ?_)
      obtain ⟨eK, eK2, eK3⟩ := nI_of_bw (hln0 _ (vlt (vin8 (bw11 hPP) (bw7 hlt))))
      have h60 : (60 : Int32).toInt = 60 := rfl
      refine m_fl_mid (u0 := u0) (P := P) (M := M) (c9 := i) (K := (u0.2 0 (8 * nI P + nI i).toNatClampNeg).toNatClampNeg) hPP hM8 eM hfb hlt (by omega) eK hx hb hml hts hown hN hK hRf hRl hRc hRs hA (fun u2 H locs ys ls hg hP hD hS hl => ?_) _ 0 u _ _ xs ls (Nat.zero_le _) (Nat.lt_succ_self _) hg hP hD hS (lv_sub hl [0, 1, 2, 3, 4] rfl)
      refine lv_iinc (v := (nI (i + 1))) (lv' := [(3, .int (nI (i + 1))), (4, .int (nI (u0.2 0 (8 * nI P + nI i).toNatClampNeg).toNatClampNeg)), (2, .int (nI ys.length)), (0, .ref h0), (1, .int (nI P))]) hx hb dX12_fill_171 hl (k := 1) rfl (nI_1 i) (by decide) rfl (fun ls hl => ?_)
      refine lv_goto (tgt := 23) hx hb dX12_fill_174 (by decide) ?_
      exact ih (i + 1) _ _ _ _ ls (by omega) (by omega) hg hP hD hS (lv_sub hl [0, 2, 3, 4] rfl)
