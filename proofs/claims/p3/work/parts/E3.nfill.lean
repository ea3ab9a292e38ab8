/-- the reference's state and the class's: alike but for the fillers' row -/
def q37 (w u : mS) : Prop := w.1 = u.1 ∧ ∀ k, k ≠ 37 → w.2 k = u.2 k
theorem q37_rf (u : mS) : q37 u u := ⟨rfl, fun _ _ => rfl⟩
theorem q37_ca {w u : mS} (h : q37 w u) (p c l : Int32) : mCellAt w p c l = mCellAt u p c l := by
  unfold mCellAt mCell
  rw [h.2 0 (by decide), h.2 2 (by decide)]
theorem q37_ff {w u : mS} (h : q37 w u) (n : Int32) (j : Nat) : ffC w n j ↔ ffC u n j := by
  unfold ffC
  rw [h.2 4 (by decide), h.2 22 (by decide), h.2 5 (by decide), h.2 6 (by decide)]
theorem q_mst {w u : mS} (h : q37 w u) {k : Nat} (hk : k ≠ 37) (i : Int32) {x y : Int32} (e : x = y) : q37 (mst w k i x) (mst u k i y) := by
  refine ⟨h.1, fun j hj => ?_⟩
  by_cases q : j = k
  · subst q
    funext t
    rw [mst_at, mst_at, h.2 j hj, e]
  · rw [mst_other q, mst_other q]; exact h.2 j hj
theorem q_mput {w u : mS} (h : q37 w u) {f g : Nat → Int32} (e : f = g) : q37 (mput w 2 f) (mput u 2 g) := by
  refine ⟨h.1, fun j hj => ?_⟩
  by_cases q : j = 2
  · subst q
    rw [mput_at, mput_at, e]
  · rw [mput_other q, mput_other q]; exact h.2 j hj
theorem mStand_q {w u : mS} (h : q37 w u) (i : Int32) (P X Y D N : Nat) : q37 (mStand w i P X Y D N) (mStand u i P X Y D N) := by
  unfold mStand
  dsimp only
  rw [h.2 22 (by decide)]
  have h5 := q_mst (q_mst (q_mst (q_mst (q_mst h (k := 23) (by decide) (6 * i + u.2 22 i.toNatClampNeg) (x := nI P) rfl) (k := 24) (by decide) (6 * i + u.2 22 i.toNatClampNeg) (x := nI X) rfl) (k := 25) (by decide) (6 * i + u.2 22 i.toNatClampNeg) (x := nI Y) rfl) (k := 26) (by decide) (6 * i + u.2 22 i.toNatClampNeg) (x := nI D) rfl) (k := 27) (by decide) (6 * i + u.2 22 i.toNatClampNeg) (x := nI N) rfl
  have h6 := q_mst h5 (k := 22) (by decide) i (congrArg (fun z : Nat → Int32 => z i.toNatClampNeg + 1) (h5.2 22 (by decide)))
  exact q_mput h6 (by rw [h6.2 2 (by decide)])
theorem fStep_q {w u : mS} (h : q37 w u) (n : Nat) (x : fX) : q37 (fStep w n x) (mStand u (nI x.1) x.2.1 x.2.2.1 x.2.2.2.1 1 x.2.2.2.2) := by
  have q := mStand_q h (nI x.1) x.2.1 x.2.2.1 x.2.2.2.1 1 x.2.2.2.2
  unfold fStep
  generalize mStand w (nI x.1) x.2.1 x.2.2.1 x.2.2.2.1 1 x.2.2.2.2 = a at q ⊢
  refine ⟨(mst_1 _ _ _ _).trans q.1, fun k hk => ?_⟩
  rw [mst_other hk]
  exact q.2 k hk
/-- where the reference stands in column c, at line i -/
def fcI (u0 : mS) (x0 : List fX) (P c i : Nat) (w : mS) (xs : List fX) : Prop := ∃ uc, q37 w uc ∧ (fcN u0 x0 P c i = (uc, xs, 0) ∨ (¬ mCellAt uc (nI P) (nI c) (nI i) = (-2) ∧ fcN u0 x0 P c (i + 1) = (uc, xs, 0)))
theorem fcI_n {u0 : mS} {x0 : List fX} {P c i : Nat} {w : mS} {xs : List fX} (h : fcI u0 x0 P c i w xs) (hc : ¬ mCellAt w (nI P) (nI c) (nI i) = (-2)) (h80 : (w.1 3).toNatClampNeg ≤ 80) : fcI u0 x0 P c (i + 1) w xs := by
  obtain ⟨uc, q, h⟩ := h
  rcases h with h | h
  · exact ⟨uc, q, Or.inl (fc_0 h (by rw [← q37_ca q]; exact hc) (Or.inl rfl) (by rw [← q.1]; exact h80))⟩
  · exact ⟨uc, q, Or.inl h.2⟩
theorem fc_run {u0 u : mS} {x0 xs : List fX} {P c i : Nat} (h : fcN u0 x0 P c i = (u, xs, 0)) : ∀ n, (∀ t, i ≤ t → t < i + n → mCellAt u (nI P) (nI c) (nI t) = (-2)) → fcN u0 x0 P c (i + n) = (u, xs, n)
  | 0, _ => h
  | n + 1, hc => fc_e (fc_run h n (fun t h1 h2 => hc t h1 (by omega))) (hc (i + n) (by omega) (by omega))
/-- a row of empty cells that no filler takes -/
theorem fcI_0 {u0 : mS} {x0 : List fX} {P c i e : Nat} {w : mS} {xs : List fX} (h : fcI u0 x0 P c i w xs) (hie : i < e) (hrun : ∀ t, i ≤ t → t < e → mCellAt w (nI P) (nI c) (nI t) = (-2)) (hend : ¬ mCellAt w (nI P) (nI c) (nI e) = (-2)) (h80 : (w.1 3).toNatClampNeg ≤ 80) (hno : ∀ j, j < (w.1 3).toNatClampNeg → ¬ ffC w (nI (e - i)) j) : fcI u0 x0 P c e w xs := by
  obtain ⟨uc, q, h⟩ := h
  rcases h with h | h
  · have hr := fc_run h (e - i) (fun t h1 h2 => by rw [← q37_ca q]; exact hrun t h1 (by omega))
    rw [show i + (e - i) = e by omega] at hr
    have hend2 : ¬ mCellAt uc (nI P) (nI c) (nI e) = (-2) := by rw [← q37_ca q]; exact hend
    refine ⟨uc, q, Or.inr ⟨hend2, fc_0 hr hend2 (Or.inr (fun j hj => ?_)) (by rw [← q.1]; exact h80)⟩⟩
    rw [← q37_ff q]
    exact hno j (by rw [q.1]; exact hj)
  · exact absurd (by rw [← q37_ca q]; exact hrun i (Nat.le_refl _) hie) h.1
theorem ca_out {u : mS} {i : Int32} {P c Y N e : Nat} (hP : P < 12) (hc : c < 8) (he : e = Y + N) (he6 : e < 200) (hl : bw (u.2 0 (8 * P + c)) 0 60 = true) : mCellAt (mStand u i P c Y 1 N) (nI P) (nI c) (nI e) = mCellAt u (nI P) (nI c) (nI e) := by
  have e0 : (mStand u i P c Y 1 N).2 0 = u.2 0 := mStand_k2 _ _ _ _ _ _ _ (by decide) (by decide)
  have em : mCell (mStand u i P c Y 1 N) (nI P) (nI c) (nI e) = mCell u (nI P) (nI c) (nI e) := by unfold mCell; rw [e0]
  unfold mCellAt
  rw [em]
  by_cases h : mCell u (nI P) (nI c) (nI e) = true
  · rw [if_pos h, if_pos h, mStand_2]
    have h2 := (mC_iff hP (by omega) he6 (fun _ => hl)).mp h
    obtain ⟨l1, l2, l3⟩ := nI_of_bw hl
    have h60 : (60 : Int32).toInt = 60 := rfl
    rw [idxN hP hc (by omega), nI_clamp (by omega)]
    exact setR_out (fun a b ha hb => by omega)
  · rw [if_neg h, if_neg h]
/-- a row of empty cells that gets its filler -/
theorem fcI_1 {u0 : mS} {x0 : List fX} {P c i e q9 n : Nat} {w : mS} {xs : List fX} (h : fcI u0 x0 P c i w xs) (hP : P < 12) (hc8 : c < 8) (he6 : e ≤ 60) (hl : bw (w.2 0 (8 * P + c)) 0 60 = true) (hie : i < e) (hrun : ∀ t, i ≤ t → t < e → mCellAt w (nI P) (nI c) (nI t) = (-2)) (hend : ¬ mCellAt w (nI P) (nI c) (nI e) = (-2)) (h80 : (w.1 3).toNatClampNeg ≤ 80) (hq : q9 < (w.1 3).toNatClampNeg) (hf : ffC w (nI (e - i)) q9) (hno : ∀ j, j < q9 → ¬ ffC w (nI (e - i)) j) : fcI u0 x0 P c e (fStep w n (q9, P, c, i, e - i)) ((q9, P, c, i, e - i) :: xs) := by
  obtain ⟨uc, q, h⟩ := h
  rcases h with h | h
  · have hr := fc_run h (e - i) (fun t h1 h2 => by rw [← q37_ca q]; exact hrun t h1 (by omega))
    rw [show i + (e - i) = e by omega] at hr
    have hend2 : ¬ mCellAt uc (nI P) (nI c) (nI e) = (-2) := by rw [← q37_ca q]; exact hend
    have h1 := fc_1 hr hend2 (by omega) (by rw [← q.1]; exact hq) ((q37_ff q _ _).mp hf) (fun j hj => fun z => hno j hj ((q37_ff q _ _).mpr z)) (by rw [← q.1]; exact h80)
    rw [show e - (e - i) = i by omega] at h1
    refine ⟨_, fStep_q q n (q9, P, c, i, e - i), Or.inr ⟨?_, h1⟩⟩
    show ¬ mCellAt (mStand uc (nI q9) P c i 1 (e - i)) (nI P) (nI c) (nI e) = (-2)
    rw [ca_out hP hc8 (by omega) (by omega) (by rw [← q.2 0 (by decide)]; exact hl)]
    exact hend2
  · exact absurd (by rw [← q37_ca q]; exact hrun i (Nat.le_refl _) hie) h.1
/-- what fillerFor finds -/
theorem ffr_all (u : mS) (n : Int32) {M : Nat} (hM : M ≤ 80) : (mFFr u n M M = (-1) ∧ ∀ j, j < M → ¬ ffC u n j) ∨ ∃ q, q < M ∧ mFFr u n M M = nI q ∧ ffC u n q ∧ ∀ j, j < q → ¬ ffC u n j := by
  by_cases h : ∃ q, q < M ∧ ffC u n q
  · have key : ∀ k, (∃ q, q < k ∧ q < M ∧ ffC u n q) → ∃ q, q < M ∧ ffC u n q ∧ ∀ j, j < q → ¬ ffC u n j := by
      intro k
      induction k with
      | zero => rintro ⟨q, h1, -⟩; omega
      | succ k ih =>
        rintro ⟨q, h1, h2, h3⟩
        by_cases hk : ∃ q, q < k ∧ q < M ∧ ffC u n q
        · exact ih hk
        · exact ⟨q, h2, h3, fun j hj hc => hk ⟨j, by omega, by omega, hc⟩⟩
    obtain ⟨q0, h1, h2⟩ := h
    obtain ⟨q, a, b, c⟩ := key (q0 + 1) ⟨q0, by omega, h1, h2⟩
    exact Or.inr ⟨q, a, mFF_s hM a b c M (Nat.le_refl _) (by omega), b, c⟩
  · exact Or.inl ⟨mFF_n hM M (Nat.le_refl _) (fun i _ hi hc => h ⟨i, hi, hc⟩), fun j hj hc => h ⟨j, hj, hc⟩⟩
theorem caK {u : mS} {P c K t : Nat} (hP : P < 12) (hc : c < 8) (hK6 : K ≤ 60) (eK : u.2 0 (8 * nI P + nI c).toNatClampNeg = nI K) (ht : t < K) : mCellAt u (nI P) (nI c) (nI t) = u.2 2 (480 * nI P + 60 * nI c + nI t).toNatClampNeg := by
  have e0 : (8 * nI P + nI c).toNatClampNeg = 8 * P + c := by rw [show (8 : Int32) = nI 8 from rfl, pk_mul, nI_add, nI_clamp (by omega)]
  rw [e0] at eK
  unfold mCellAt
  rw [if_pos ((mC_iff hP (by omega) (by omega) (fun _ => by rw [eK]; exact bwN (by have h60 : (60 : Int32).toInt = 60 := rfl; rw [h60]; omega) (by omega))).mpr ⟨hc, by rw [eK, nI_clamp (by omega)]; exact ht⟩)]
theorem caX {u : mS} {P c K : Nat} (hP : P < 12) (hc : c < 8) (hK6 : K ≤ 60) (eK : u.2 0 (8 * nI P + nI c).toNatClampNeg = nI K) : ¬ mCellAt u (nI P) (nI c) (nI K) = (-2) := by
  have e0 : (8 * nI P + nI c).toNatClampNeg = 8 * P + c := by rw [show (8 : Int32) = nI 8 from rfl, pk_mul, nI_add, nI_clamp (by omega)]
  rw [e0] at eK
  unfold mCellAt
  rw [if_neg ?_]
  · decide
  · intro h
    have h2 := (mC_iff hP (by omega) (by omega) (fun _ => by rw [eK]; exact bwN (by have h60 : (60 : Int32).toInt = 60 := rfl; rw [h60]; omega) (by omega))).mp h
    rw [eK, nI_clamp (by omega)] at h2
    omega
set_option maxHeartbeats 4000000 in
set_option maxRecDepth 100000 in
theorem n_fl_in {p : Program} {l : Launch} {e : Env} {R : Room} {s : State} {m : MethodId} {args : Array Value} {below : List Frame} {meth : Method} {c : Code} {Q : State → Prop} {cells slots : Nat} {dC : Nat → ClassId} {dI : Nat → Nat → Nat} {h0 : Nat} {v : Nat → Nat} {cI cZ : ClassId} {H : Heap} {locs : List Loc} {u : mS} (hx : p.tables.exec = Jvm.exec) (hb : c.code = cX12_fill) (hml : c.maxLocals = 7) (hts : ∀ w ∈ wsX12_fill, w.before args s = true) (hown : s.vm.findClass RX12 = some m.cls) (hN : NN s) (hK : va_K (dC, dI) vwCl [(cI, .int), (cZ, .boolean)] s) (hRf : 1 ≤ R.frames) (hRl : 22 ≤ R.locals) (hRc : cells ≤ R.cells) (hRs : slots ≤ R.slots) (hP : va_P (dC, dI) vwCl (mW h0 v cI cZ u) H) {P c9 K L J : Nat} {b9 : Int32} (hPP : P < 12) (hc8 : c9 < 8) (hK6 : K ≤ 60) (hKJ : K = L + J) (eK : u.2 0 (8 * nI P + nI c9).toNatClampNeg = nI K) (kx91 : ∀ (e9 : Nat) (ls : Array Slot), L ≤ e9 → e9 ≤ K → (∀ t, L ≤ t → t < e9 → u.2 2 (480 * nI P + 60 * nI c9 + nI t).toNatClampNeg = (-2)) → (e9 = K ∨ ¬ u.2 2 (480 * nI P + 60 * nI c9 + nI e9).toNatClampNeg = (-2)) → lv_has ls 7 [(5, .int (nI e9)), (4, .int (nI L)), (3, .int (nI c9)), (2, .int b9), (0, .ref h0), (1, .int (nI P))] → W p l e R s m args below meth c H locs cells slots Q (F0 m 91 ls [])) : ∀ (k i : Nat) (ls : Array Slot), i ≤ J → J - i < k → (∀ t, L ≤ t → t < L + i → u.2 2 (480 * nI P + 60 * nI c9 + nI t).toNatClampNeg = (-2)) → lv_has ls 7 [(5, .int (nI (L + i))), (4, .int (nI L)), (3, .int (nI c9)), (2, .int b9), (0, .ref h0), (1, .int (nI P))] → W p l e R s m args below meth c H locs cells slots Q (F0 m 52 ls []) := by
  intro k
  induction k with
  | zero => intro i ls h1 h2; exact absurd h2 (Nat.not_lt_zero _)
  | succ k ih =>
    intro i ls hi hk hg hl
    refine lv_iload hx hb dX12_fill_52 (lv_at hl 0 rfl) ?_
    refine lv_aload_n hx hb dX12_fill_54 rfl (lv_at hl 4 rfl) ?_
    refine va_get (D := (dC, dI)) (ci := 11) (v := .ref (v 0)) (C := RX12) (T := TX12) (N := 52) hx hb hts (by decide +kernel) hown hK hP 0 rfl rfl 0 (by decide) (hts (.fieldLink RX12 7 "PageOneModel" "lines" "[I") (by decide +kernel)) (fun _ h9 => h9) rfl dX12_fill_55 ?_
    refine lv_bipush (v := 8) hx hb dX12_fill_58 (by decide) ?_
    refine lv_iload_n hx hb dX12_fill_60 rfl (lv_at hl 5 rfl) ?_
    refine lv_imul hx hb dX12_fill_61 ?_
    refine lv_iload_n hx hb dX12_fill_62 rfl (lv_at hl 2 rfl) ?_
    refine lv_iadd hx hb dX12_fill_63 ?_
    refine va_iald hx hb hK hP 1 0 rfl rfl (vin8 (bw11 hPP) (bw7 hc8)) dX12_fill_64 ?_
    refine lv_topi (fun y_1 ey_1 => ?_)
    obtain rfl : y_1 = (nI K) := ey_1.trans (eK)
    refine lv_icmp_ge (tgt := 91) hx hb dX12_fill_65 (by decide) (fun c_2 => ?_) (fun c_2 => ?_)
    ·
      have hie : L + i = K := lp_eq rfl (by omega) (by omega) c_2
      exact kx91 _ ls (Nat.le_add_right _ _) (by omega) hg (Or.inl hie) (lv_sub hl [0, 1, 2, 3, 4, 5] rfl)
    ·
      have hlt : L + i < K := lp_lt rfl (by omega) (by omega) c_2
      refine lv_aload_n hx hb dX12_fill_68 rfl (lv_at hl 4 rfl) ?_
      refine va_get (D := (dC, dI)) (ci := 11) (v := .ref (v 2)) (C := RX12) (T := TX12) (N := 52) hx hb hts (by decide +kernel) hown hK hP 0 rfl rfl 2 (by decide) (hts (.fieldLink RX12 16 "PageOneModel" "cell" "[I") (by decide +kernel)) (fun _ h9 => h9) rfl dX12_fill_69 ?_
      refine lv_iload_n hx hb dX12_fill_72 rfl (lv_at hl 5 rfl) ?_
      refine lv_iload_n hx hb dX12_fill_73 rfl (lv_at hl 2 rfl) ?_
      refine lv_iload hx hb dX12_fill_74 (lv_at hl 0 rfl) ?_
      refine vp_callSi (va_runS (As := [.int (nI P), .int (nI c9), .int (nI (L + i))]) (rest := [.ref (v 2)]) ⟨hx, hb, hml, hown, hts⟩ (m_at l dC dI (nI P) (nI c9) (nI (L + i))) (va_cwS 3 hts gX12_fill_X12_at rfl rfl rfl (by decide +kernel) ⟨Nat.le_trans (Nat.le_of_ble_eq_true rfl) hRf, Nat.le_trans (Nat.le_of_ble_eq_true rfl) hRl⟩) ⟨pw_fb, fun U hU hW => ⟨rfl, pw_to hU hW (hP.sub (ws' := []) [] rfl) (hK.sub (tys' := []) [] rfl) hN⟩⟩ rfl rfl hl.1 rfl (lv_room (Nat.le_of_ble_eq_true rfl)) dX12_fill_76 ⟨hRc, hRs⟩).run (fun r hw => ?_)
      obtain rfl : r = (480 * (nI P) + 60 * (nI c9) + (nI (L + i))) := hw
      refine va_iald hx hb hK hP 3 0 rfl rfl (vinC (bw11 hPP) (bw7 hc8) (by omega)) dX12_fill_79 ?_
      refine lv_bipush (v := (-2)) hx hb dX12_fill_80 (by decide) ?_
      refine lv_icmp_ne (tgt := 91) hx hb dX12_fill_82 (by decide) (fun c_3 => ?_) (fun c_3 => ?_)
      ·
        exact kx91 _ ls (Nat.le_add_right _ _) (by omega) hg (Or.inr c_3) (lv_sub hl [0, 1, 2, 3, 4, 5] rfl)
      ·
        refine lv_iinc (v := (nI (L + i + 1))) (lv' := [(5, .int (nI (L + i + 1))), (4, .int (nI L)), (3, .int (nI c9)), (2, .int b9), (0, .ref h0), (1, .int (nI P))]) hx hb dX12_fill_85 hl (k := 0) rfl (nI_1 _) (by decide) rfl (fun ls hl => ?_)
        refine lv_goto (tgt := 52) hx hb dX12_fill_88 (by decide) ?_
        exact ih (i + 1) ls (by omega) (by omega) (fun t h1 h2 => if h3 : t = L + i then by rw [h3]; exact c_3 else hg t h1 (by omega)) (lv_sub hl [0, 1, 2, 3, 4, 5] rfl)
theorem idx8 {P c : Nat} (hP : P < 12) (hc : c < 8) : (8 * nI P + nI c).toNatClampNeg = 8 * P + c := by rw [show (8 : Int32) = nI 8 from rfl, pk_mul, nI_add, nI_clamp (by omega)]
set_option maxHeartbeats 4000000 in
set_option maxRecDepth 100000 in
theorem n_fl_mid {p : Program} {l : Launch} {e : Env} {R : Room} {s : State} {m : MethodId} {args : Array Value} {below : List Frame} {meth : Method} {c : Code} {Q : State → Prop} {cells slots : Nat} {dC : Nat → ClassId} {dI : Nat → Nat → Nat} {h0 : Nat} {v : Nat → Nat} {cI cZ : ClassId} {u0 : mS} {P M : Nat} (hPP : P < 12) (hM8 : M ≤ 80) (eM : u0.1 3 = nI M) (hfb : ∀ (x : fX) (xs : List fX), fGood u0 (x :: xs) → 0 ≤ (u0.1 36).toInt ∧ (u0.1 36).toInt + (xs.length : Int) < 700) {c9 K : Nat} (hc8 : c9 < 8) (hK6 : K ≤ 60) (eK : u0.2 0 (8 * nI P + nI c9).toNatClampNeg = nI K) {uc0 : mS} {x0 : List fX} {A : Nat → Prop} {H0 : Heap} (hx : p.tables.exec = Jvm.exec) (hb : c.code = cX12_fill) (hml : c.maxLocals = 7) (hts : ∀ w ∈ wsX12_fill, w.before args s = true) (hown : s.vm.findClass RX12 = some m.cls) (hN : NN s) (hK : va_K (dC, dI) vwCl [(cI, .int), (cZ, .boolean)] s) (hRf : 3 ≤ R.frames) (hRl : 77 ≤ R.locals) (hRc : cells ≤ R.cells) (hRs : slots ≤ R.slots) (hA : ∀ q : Nat, H0.size ≤ q → A q) (kx : ∀ (u : mS) (H : Heap) (locs : List Loc) (xs : List fX) (ls : Array Slot), (fGood u0 xs ∧ u = fillR u0 xs ∧ fcI uc0 x0 P c9 K u xs) → va_P (dC, dI) vwCl (mW h0 v cI cZ u) H → va_D A (mW h0 v cI cZ u) → va_S A H0 H locs → lv_has ls 7 [(4, .int (nI K)), (3, .int (nI c9)), (2, .int (nI xs.length)), (0, .ref h0), (1, .int (nI P))] → W p l e R s m args below meth c H locs cells slots Q (F0 m 171 ls [])) : ∀ (k i : Nat) (u : mS) (H : Heap) (locs : List Loc) (xs : List fX) (ls : Array Slot), i ≤ K → K - i < k → (fGood u0 xs ∧ u = fillR u0 xs ∧ fcI uc0 x0 P c9 i u xs) → va_P (dC, dI) vwCl (mW h0 v cI cZ u) H → va_D A (mW h0 v cI cZ u) → va_S A H0 H locs → lv_has ls 7 [(4, .int (nI i)), (3, .int (nI c9)), (2, .int (nI xs.length)), (0, .ref h0), (1, .int (nI P))] → W p l e R s m args below meth c H locs cells slots Q (F0 m 32 ls []) := by
  intro k
  induction k with
  | zero => intro i u H locs xs ls h1 h2; exact absurd h2 (Nat.not_lt_zero _)
  | succ k ih =>
    intro i u H locs xs ls hi hk hg hP hD hS hl
    refine lv_iload hx hb dX12_fill_32 (lv_at hl 0 rfl) ?_
    refine lv_aload_n hx hb dX12_fill_34 rfl (lv_at hl 3 rfl) ?_
    refine va_get (D := (dC, dI)) (ci := 11) (v := .ref (v 0)) (C := RX12) (T := TX12) (N := 52) hx hb hts (by decide +kernel) hown hK hP 0 rfl rfl 0 (by decide) (hts (.fieldLink RX12 7 "PageOneModel" "lines" "[I") (by decide +kernel)) (fun _ h9 => h9) rfl dX12_fill_35 ?_
    refine lv_bipush (v := 8) hx hb dX12_fill_38 (by decide) ?_
    refine lv_iload_n hx hb dX12_fill_40 rfl (lv_at hl 4 rfl) ?_
    refine lv_imul hx hb dX12_fill_41 ?_
    refine lv_iload_n hx hb dX12_fill_42 rfl (lv_at hl 1 rfl) ?_
    refine lv_iadd hx hb dX12_fill_43 ?_
    refine va_iald hx hb hK hP 1 0 rfl rfl (vin8 (bw11 hPP) (bw7 hc8)) dX12_fill_44 ?_
    refine lv_topi (fun y_1 ey_1 => ?_)
    obtain rfl : y_1 = (nI K) := ey_1.trans ((by rw [hg.2.1, (fillR_k u0 xs).2 0 (nR rfl)]; exact eK))
    refine lv_icmp_ge (tgt := 171) hx hb dX12_fill_45 (by decide) (fun c_2 => ?_) (fun c_2 => ?_)
    ·
      have hie : i = K := lp_eq rfl (by omega) hi c_2
      rw [hie] at hg hl
      exact kx _ _ _ _ ls hg hP hD hS (lv_sub hl [0, 1, 2, 3, 4] rfl)
    ·
      have hlt : i < K := lp_lt rfl (by omega) hi c_2
      refine lv_iload hx hb dX12_fill_48 (lv_at hl 0 rfl) ?_
      refine lv_istore (lv' := [(5, .int (nI i)), (4, .int (nI i)), (3, .int (nI c9)), (2, .int (nI xs.length)), (0, .ref h0), (1, .int (nI P))]) hx hb dX12_fill_50 hl (by decide) rfl (fun ls hl => ?_)
      refine n_fl_in (P := P) (c9 := c9) (K := K) (L := i) (J := K - i) hx hb hml hts hown hN hK (Nat.le_trans (Nat.le_of_ble_eq_true rfl) hRf) (Nat.le_trans (Nat.le_of_ble_eq_true rfl) hRl) hRc hRs hP hPP hc8 hK6 (by omega) (by rw [hg.2.1, (fillR_k u0 xs).2 0 (nR rfl)]; exact eK) (fun e9 ls hLe heK hr9 he9 hl => ?_) (K - i + 1) 0 ls (Nat.zero_le _) (by omega) (fun t h1 h2 => absurd h1 (by omega)) (lv_sub hl [0, 1, 2, 3, 4, 5] rfl)
      refine lv_iload hx hb dX12_fill_91 (lv_at hl 0 rfl) ?_
      refine lv_iload hx hb dX12_fill_93 (lv_at hl 1 rfl) ?_
      refine lv_icmp_le (tgt := 110) hx hb dX12_fill_95 (by decide) (fun c_3 => ?_) (fun c_3 => ?_)
      ·
        have hel := nIle (by omega) (by omega) c_3
        refine lv_iconst (v := (-1)) hx hb dX12_fill_110 (by decide) ?_
        refine lv_istore (lv' := [(6, .int (-1)), (5, .int (nI e9)), (4, .int (nI i)), (3, .int (nI c9)), (2, .int (nI xs.length)), (0, .ref h0), (1, .int (nI P))]) hx hb dX12_fill_111 hl (by decide) rfl (fun ls hl => ?_)
        refine lv_iload hx hb dX12_fill_113 (lv_at hl 0 rfl) ?_
        refine lv_if_lt (tgt := 150) hx hb dX12_fill_115 (by decide) (fun c_4 => ?_) (fun c_4 => absurd (by decide) c_4)
        refine lv_iload hx hb dX12_fill_150 (lv_at hl 1 rfl) ?_
        refine lv_iload hx hb dX12_fill_152 (lv_at hl 2 rfl) ?_
        refine lv_icmp_le (tgt := 162) hx hb dX12_fill_154 (by decide) (fun c_5 => ?_) (fun c_5 => absurd (c_3) c_5)
        refine lv_iload hx hb dX12_fill_162 (lv_at hl 2 rfl) ?_
        refine lv_iconst (v := 1) hx hb dX12_fill_164 (by decide) ?_
        refine lv_iadd hx hb dX12_fill_165 ?_
        refine lv_topi (fun y_6 ey_6 => ?_)
        obtain rfl : y_6 = (nI (i + 1)) := ey_6.trans ((nI_1 i))
        refine lv_istore (lv' := [(4, .int (nI (i + 1))), (6, .int (-1)), (5, .int (nI e9)), (3, .int (nI c9)), (2, .int (nI xs.length)), (0, .ref h0), (1, .int (nI P))]) hx hb dX12_fill_166 hl (by decide) rfl (fun ls hl => ?_)
        refine lv_goto (tgt := 32) hx hb dX12_fill_168 (by decide) ?_
        have e99 : e9 = i := by omega
        exact ih (i + 1) _ _ _ xs ls (by omega) (by omega) ⟨hg.1, hg.2.1, fcI_n hg.2.2 (by rw [caK hPP hc8 hK6 (by rw [hg.2.1, (fillR_k u0 xs).2 0 (nR rfl)]; exact eK) hlt]; exact fun z => he9.resolve_left (by omega) (by rw [e99]; exact z)) (by rw [hg.2.1, (fillR_k u0 xs).1, eM, nI_clamp (by omega)]; omega)⟩ hP hD hS (lv_sub hl [0, 3, 4, 5, 6] rfl)
      ·
        have hel := nInle (by omega) (by omega) c_3
        refine lv_aload_n hx hb dX12_fill_98 rfl (lv_at hl 4 rfl) ?_
        refine lv_iload hx hb dX12_fill_99 (lv_at hl 0 rfl) ?_
        refine lv_iload hx hb dX12_fill_101 (lv_at hl 1 rfl) ?_
        refine lv_isub hx hb dX12_fill_103 ?_
        refine lv_topi (fun y_7 ey_7 => ?_)
        obtain rfl : y_7 = (nI (e9 - i)) := ey_7.trans ((pk_sub (by omega)))
        refine vp_callSi (va_runV (As := [.int (nI (e9 - i))]) (rest := []) ⟨hx, hb, hml, hown, hts⟩ (m_fillerFor l dC dI h0 v cI cZ u (nI (e9 - i)) (by rw [hg.2.1, (fillR_k u0 xs).1, eM]; exact bwN (by have h80 : (80 : Int32).toInt = 80 := rfl; rw [h80]; omega) (by omega))) (cwV 1 hts gX12_fill_X12_fillerFor rfl rfl rfl (by decide +kernel) ⟨Nat.le_trans (Nat.le_of_ble_eq_true rfl) hRf, Nat.le_trans (Nat.le_of_ble_eq_true rfl) hRl⟩) ⟨pw_fb, va_recv hK hP (ci := 11) (q0 := 0) rfl rfl, fun U hU hW => ⟨rfl, pw_to hU hW hP hK hN⟩⟩ rfl rfl hl.1 rfl (lv_room (Nat.le_of_ble_eq_true rfl)) dX12_fill_104 ⟨hRc, hRs⟩).run (fun r hw => ?_)
        have hff := ffr_all u (nI (e9 - i)) (M := M) hM8
        have hM3 : (u.1 3).toNatClampNeg = M := by rw [hg.2.1, (fillR_k u0 xs).1, eM, nI_clamp (by omega)]
        rw [hM3] at hw
        rw [← hw] at hff
        have hKu : u.2 0 (8 * nI P + nI c9).toNatClampNeg = nI K := by rw [hg.2.1, (fillR_k u0 xs).2 0 (nR rfl)]; exact eK
        have hrun9 : ∀ t, i ≤ t → t < e9 → mCellAt u (nI P) (nI c9) (nI t) = (-2) := fun t h1 h2 => by rw [caK hPP hc8 hK6 hKu (by omega)]; exact hr9 t h1 h2
        have hend9 : ¬ mCellAt u (nI P) (nI c9) (nI e9) = (-2) := by
          rcases Nat.lt_or_ge e9 K with h1 | h1
          · rw [caK hPP hc8 hK6 hKu h1]; exact he9.resolve_left (by omega)
          · rw [show e9 = K by omega]; exact caX hPP hc8 hK6 hKu
        rcases hff with ⟨hff, hno⟩ | ⟨q, hq1, hq2, hq3, hqn⟩
        ·
          subst hff
          refine lv_goto (tgt := 111) hx hb dX12_fill_107 (by decide) ?_
          refine lv_istore (lv' := [(6, .int (-1)), (5, .int (nI e9)), (4, .int (nI i)), (3, .int (nI c9)), (2, .int (nI xs.length)), (0, .ref h0), (1, .int (nI P))]) hx hb dX12_fill_111 hl (by decide) rfl (fun ls hl => ?_)
          refine lv_iload hx hb dX12_fill_113 (lv_at hl 0 rfl) ?_
          refine lv_if_lt (tgt := 150) hx hb dX12_fill_115 (by decide) (fun c_8 => ?_) (fun c_8 => absurd (by decide) c_8)
          refine lv_iload hx hb dX12_fill_150 (lv_at hl 1 rfl) ?_
          refine lv_iload hx hb dX12_fill_152 (lv_at hl 2 rfl) ?_
          refine lv_icmp_le (tgt := 162) hx hb dX12_fill_154 (by decide) (fun c_9 => absurd c_9 (c_3)) (fun c_9 => ?_)
          refine lv_iload hx hb dX12_fill_157 (lv_at hl 1 rfl) ?_
          refine lv_goto (tgt := 166) hx hb dX12_fill_159 (by decide) ?_
          refine lv_istore (lv' := [(4, .int (nI e9)), (6, .int (-1)), (5, .int (nI e9)), (3, .int (nI c9)), (2, .int (nI xs.length)), (0, .ref h0), (1, .int (nI P))]) hx hb dX12_fill_166 hl (by decide) rfl (fun ls hl => ?_)
          refine lv_goto (tgt := 32) hx hb dX12_fill_168 (by decide) ?_
          exact ih e9 _ _ _ xs ls (by omega) (by omega) ⟨hg.1, hg.2.1, fcI_0 hg.2.2 (by omega) hrun9 hend9 (by omega) (fun j hj => hno j (by omega))⟩ hP hD hS (lv_sub hl [0, 3, 4, 5, 6] rfl)
        ·
          subst hq2
          have hnew : fGood u0 ((q, P, c9, i, e9 - i) :: xs) := ⟨hg.1, by rw [eM, nI_clamp (by omega)]; exact hq1, by rw [← (fillR_k u0 xs).2 4 (nR rfl), ← hg.2.1]; exact hq3.1, by rw [← hg.2.1]; exact hq3.2.1, hPP, by show c9 + 1 ≤ 8; omega, by show i + (e9 - i) ≤ 60; omega, by show 1 ≤ e9 - i; omega⟩
          have hq4 := hq3.2.1
          refine lv_goto (tgt := 111) hx hb dX12_fill_107 (by decide) ?_
          refine lv_istore (lv' := [(6, .int (nI q)), (5, .int (nI e9)), (4, .int (nI i)), (3, .int (nI c9)), (2, .int (nI xs.length)), (0, .ref h0), (1, .int (nI P))]) hx hb dX12_fill_111 hl (by decide) rfl (fun ls hl => ?_)
          refine lv_iload hx hb dX12_fill_113 (lv_at hl 0 rfl) ?_
          refine lv_if_lt (tgt := 150) hx hb dX12_fill_115 (by decide) (fun c_10 => absurd c_10 (nIpos (by omega))) (fun c_10 => ?_)
          refine lv_aload_n hx hb dX12_fill_118 rfl (lv_at hl 5 rfl) ?_
          refine lv_iload hx hb dX12_fill_119 (lv_at hl 0 rfl) ?_
          refine lv_iload_n hx hb dX12_fill_121 rfl (lv_at hl 6 rfl) ?_
          refine lv_iload_n hx hb dX12_fill_122 rfl (lv_at hl 3 rfl) ?_
          refine lv_iload hx hb dX12_fill_123 (lv_at hl 2 rfl) ?_
          refine lv_iconst (v := 1) hx hb dX12_fill_125 (by decide) ?_
          refine lv_iload hx hb dX12_fill_126 (lv_at hl 1 rfl) ?_
          refine lv_iload hx hb dX12_fill_128 (lv_at hl 2 rfl) ?_
          refine lv_isub hx hb dX12_fill_130 ?_
          refine lv_topi (fun y_11 ey_11 => ?_)
          obtain rfl : y_11 = (nI (e9 - i)) := ey_11.trans ((pk_sub (by omega)))
          have hFc := fr_all hD hS hA
          refine va_callv (va_runV (As := [.int (nI q), .int (nI P), .int (nI c9), .int (nI i), .int 1, .int (nI (e9 - i))]) (rest := []) ⟨hx, hb, hml, hown, hts⟩ (m_stand l dC dI h0 v cI cZ u (nI q) P c9 i 1 (e9 - i) hPP (by omega) (by omega) (bw79 (by omega)) (z05 (by rw [nI_clamp (by omega)]; exact hq4)) H.size) (cwV 6 hts gX12_fill_X12_stand rfl rfl rfl (by decide +kernel) ⟨Nat.le_trans (Nat.le_of_ble_eq_true rfl) hRf, Nat.le_trans (Nat.le_of_ble_eq_true rfl) hRl⟩) ⟨gw_fb, va_recv hK hP (ci := 11) (q0 := 0) rfl rfl, fun U hU hW => ⟨rfl, by rw [hU], pw_to hU hW hP hK hN, hD.weaken (fun _ _ _ _ => trivial)⟩⟩ rfl rfl hl.1 rfl (lv_room (Nat.le_of_ble_eq_true rfl)) dX12_fill_131 ⟨hRc, hRs⟩) hS (fun q _ h => hFc q h) hFc (fun u_12 t H1 locs ht hvm hw hB hz1 hk1 hS => ?_)
          obtain ⟨hP, hD1⟩ := hB
          rw [ht] at hP
          have hD := hD1.weaken (fun _ q _ h => hFc q.1 h)
          generalize H1 = H at hP hS ⊢
          have eu_12 := hw
          refine lv_aload_n hx hb dX12_fill_134 rfl (lv_at hl 5 rfl) ?_
          refine va_get (D := (dC, dI)) (ci := 11) (v := .ref (v 37)) (C := RX12) (T := TX12) (N := 52) hx hb hts (by decide +kernel) hown hK hP 0 rfl rfl 37 (by decide) (hts (.fieldLink RX12 113 "PageOneModel" "filler" "[I") (by decide +kernel)) (fun _ h9 => h9) rfl dX12_fill_135 ?_
          refine lv_aload_n hx hb dX12_fill_138 rfl (lv_at hl 5 rfl) ?_
          refine va_get (D := (dC, dI)) (ci := 11) (v := .int (u_12.1 36)) (C := RX12) (T := TX12) (N := 52) hx hb hts (by decide +kernel) hown hK hP 0 rfl rfl 36 (by decide) (hts (.fieldLink RX12 168 "PageOneModel" "filled" "I") (by decide +kernel)) (fun _ h9 => h9) rfl dX12_fill_139 ?_
          refine lv_iload_n hx hb dX12_fill_142 rfl (lv_at hl 4 rfl) ?_
          refine lv_iadd hx hb dX12_fill_143 ?_
          refine lv_iload hx hb dX12_fill_144 (lv_at hl 0 rfl) ?_
          refine va_iast hx hb hK hP hD hS 35 0 rfl rfl (by rw [show u_12.1 36 = u0.1 36 from by rw [eu_12, hg.2.1]; exact congrFun (fillR_k u0 xs).1 36]; exact vFl (hfb _ xs hnew).1 (hfb _ xs hnew).2) dX12_fill_146 (fun H locs hP hD hS => ?_)
          obtain ⟨u_13, eu_13⟩ : ∃ zz : mS, zz = mst u_12 37 ((u_12.1 36) + (nI xs.length)) (nI q) := ⟨_, rfl⟩
          have hP : va_P (dC, dI) vwCl (mW h0 v cI cZ u_13) H := by rw [eu_13]; exact hP
          have hD : va_D A (mW h0 v cI cZ u_13) := by rw [eu_13]; exact hD
          refine lv_iinc (v := (nI (((q, P, c9, i, e9 - i) :: xs) : List fX).length)) (lv' := [(2, .int (nI (((q, P, c9, i, e9 - i) :: xs) : List fX).length)), (6, .int (nI q)), (5, .int (nI e9)), (4, .int (nI i)), (3, .int (nI c9)), (0, .ref h0), (1, .int (nI P))]) hx hb dX12_fill_147 hl (k := 4) rfl (nI_1 _) (by decide) rfl (fun ls hl => ?_)
          refine lv_iload hx hb dX12_fill_150 (lv_at hl 2 rfl) ?_
          refine lv_iload hx hb dX12_fill_152 (lv_at hl 3 rfl) ?_
          refine lv_icmp_le (tgt := 162) hx hb dX12_fill_154 (by decide) (fun c_14 => absurd c_14 (c_3)) (fun c_14 => ?_)
          refine lv_iload hx hb dX12_fill_157 (lv_at hl 2 rfl) ?_
          refine lv_goto (tgt := 166) hx hb dX12_fill_159 (by decide) ?_
          refine lv_istore (lv' := [(4, .int (nI e9)), (2, .int (nI (((q, P, c9, i, e9 - i) :: xs) : List fX).length)), (6, .int (nI q)), (5, .int (nI e9)), (3, .int (nI c9)), (0, .ref h0), (1, .int (nI P))]) hx hb dX12_fill_166 hl (by decide) rfl (fun ls hl => ?_)
          refine lv_goto (tgt := 32) hx hb dX12_fill_168 (by decide) ?_
          exact ih e9 _ _ _ ((q, P, c9, i, e9 - i) :: xs) ls (by omega) (by omega) ⟨hnew, by rw [eu_13, eu_12, hg.2.1]; rfl, by rw [eu_13, eu_12]; exact fcI_1 hg.2.2 hPP hc8 (by omega) (by have z := hKu; rw [idx8 hPP hc8] at z; rw [z]; exact bwN (by have h60 : (60 : Int32).toInt = 60 := rfl; rw [h60]; omega) (by omega)) (by omega) hrun9 hend9 (by omega) (by omega) hq3 hqn⟩ hP hD hS (lv_sub hl [0, 4, 1, 5, 6] rfl)
/-- a column is done -/
theorem fcI_end {u0 : mS} {x0 : List fX} {P c K : Nat} {w : mS} {xs : List fX} (h : fcI u0 x0 P c K w xs) (hP : P < 12) (hc : c < 8) (hK6 : K ≤ 60) (eK : w.2 0 (8 * nI P + nI c).toNatClampNeg = nI K) (h80 : (w.1 3).toNatClampNeg ≤ 80) : ∃ uc, q37 w uc ∧ fcN u0 x0 P c (K + 1) = (uc, xs, 0) := by
  obtain ⟨uc, q, h⟩ := h
  rcases h with h | h
  · exact ⟨uc, q, fc_0 h (by rw [← q37_ca q]; exact caX hP hc hK6 eK) (Or.inl rfl) (by rw [← q.1]; exact h80)⟩
  · exact ⟨uc, q, h.2⟩
theorem flN_t {u uc vc : mS} {P c K : Nat} {xs ys : List fX} (h : flN u P c = (uc, xs)) (hK : (uc.2 0 (8 * P + c)).toNatClampNeg = K) (h2 : fcN uc xs P c (K + 1) = (vc, ys, 0)) : flN u P (c + 1) = (vc, ys) := by
  show ((fcN (flN u P c).1 (flN u P c).2 P c (((flN u P c).1.2 0 (8 * P + c)).toNatClampNeg + 1)).1, (fcN (flN u P c).1 (flN u P c).2 P c (((flN u P c).1.2 0 (8 * P + c)).toNatClampNeg + 1)).2.1) = (vc, ys)
  rw [h]
  dsimp only
  rw [hK, h2]
set_option maxHeartbeats 4000000 in
set_option maxRecDepth 100000 in
theorem n_fl_out {p : Program} {l : Launch} {e : Env} {R : Room} {s : State} {m : MethodId} {args : Array Value} {below : List Frame} {meth : Method} {c : Code} {Q : State → Prop} {cells slots : Nat} {dC : Nat → ClassId} {dI : Nat → Nat → Nat} {h0 : Nat} {v : Nat → Nat} {cI cZ : ClassId} {u0 : mS} {P M : Nat} (hPP : P < 12) (hM8 : M ≤ 80) (eM : u0.1 3 = nI M) (hfb : ∀ (x : fX) (xs : List fX), fGood u0 (x :: xs) → 0 ≤ (u0.1 36).toInt ∧ (u0.1 36).toInt + (xs.length : Int) < 700) (hln0 : ∀ j, j < 96 → bw (u0.2 0 j) 0 60 = true) {A : Nat → Prop} {H0 : Heap} (hx : p.tables.exec = Jvm.exec) (hb : c.code = cX12_fill) (hml : c.maxLocals = 7) (hts : ∀ w ∈ wsX12_fill, w.before args s = true) (hown : s.vm.findClass RX12 = some m.cls) (hN : NN s) (hK : va_K (dC, dI) vwCl [(cI, .int), (cZ, .boolean)] s) (hRf : 3 ≤ R.frames) (hRl : 77 ≤ R.locals) (hRc : cells ≤ R.cells) (hRs : slots ≤ R.slots) (hA : ∀ q : Nat, H0.size ≤ q → A q) (kx : ∀ (u : mS) (H : Heap) (locs : List Loc) (xs : List fX) (ls : Array Slot), (fGood u0 xs ∧ u = fillR u0 xs ∧ ∃ uc, q37 u uc ∧ flN u0 P 8 = (uc, xs)) → va_P (dC, dI) vwCl (mW h0 v cI cZ u) H → va_D A (mW h0 v cI cZ u) → va_S A H0 H locs → lv_has ls 7 [(3, .int (nI 8)), (2, .int (nI xs.length)), (0, .ref h0), (1, .int (nI P))] → W p l e R s m args below meth c H locs cells slots Q (F0 m 177 ls [])) : ∀ (k i : Nat) (u : mS) (H : Heap) (locs : List Loc) (xs : List fX) (ls : Array Slot), i ≤ 8 → 8 - i < k → (fGood u0 xs ∧ u = fillR u0 xs ∧ ∃ uc, q37 u uc ∧ flN u0 P i = (uc, xs)) → va_P (dC, dI) vwCl (mW h0 v cI cZ u) H → va_D A (mW h0 v cI cZ u) → va_S A H0 H locs → lv_has ls 7 [(3, .int (nI i)), (2, .int (nI xs.length)), (0, .ref h0), (1, .int (nI P))] → W p l e R s m args below meth c H locs cells slots Q (F0 m 23 ls []) := by
  intro k
  induction k with
  | zero => intro i u H locs xs ls h1 h2; exact absurd h2 (Nat.not_lt_zero _)
  | succ k ih =>
    intro i u H locs xs ls hi hk hg hP hD hS hl
    refine lv_iload_n hx hb dX12_fill_23 rfl (lv_at hl 0 rfl) ?_
    refine lv_bipush (v := 8) hx hb dX12_fill_24 (by decide) ?_
    refine lv_icmp_ge (tgt := 177) hx hb dX12_fill_26 (by decide) (fun c_1 => ?_) (fun c_1 => ?_)
    ·
      have hie : i = 8 := lp_eq rfl (by decide) hi c_1
      subst hie
      exact kx _ _ _ _ ls hg hP hD hS (lv_sub hl [0, 1, 2, 3] rfl)
    ·
      have hlt : i < 8 := lp_lt rfl (by decide) hi c_1
      refine lv_iconst (v := 0) hx hb dX12_fill_29 (by decide) ?_
      refine lv_istore (lv' := [(4, .int 0), (3, .int (nI i)), (2, .int (nI xs.length)), (0, .ref h0), (1, .int (nI P))]) hx hb dX12_fill_30 hl (by decide) rfl (fun ls hl => ?_)
      obtain ⟨eK, eK2, eK3⟩ := nI_of_bw (hln0 _ (vlt (vin8 (bw11 hPP) (bw7 hlt))))
      have h60 : (60 : Int32).toInt = 60 := rfl
      obtain ⟨hg1, hg2, uc, hg3, hg4⟩ := hg
      refine n_fl_mid (u0 := u0) (P := P) (M := M) (c9 := i) (K := (u0.2 0 (8 * nI P + nI i).toNatClampNeg).toNatClampNeg) hPP hM8 eM hfb hlt (by omega) eK (uc0 := uc) (x0 := xs) hx hb hml hts hown hN hK hRf hRl hRc hRs hA (fun u2 H locs ys ls hg hP hD hS hl => ?_) _ 0 u _ _ xs ls (Nat.zero_le _) (Nat.lt_succ_self _) ⟨hg1, hg2, uc, hg3, Or.inl rfl⟩ hP hD hS (lv_sub hl [0, 1, 2, 3, 4] rfl)
      have h20 : u2.2 0 = u0.2 0 := by rw [hg.2.1, (fillR_k u0 ys).2 0 (nR rfl)]
      have h21 : (u2.1 3).toNatClampNeg ≤ 80 := by rw [hg.2.1, (fillR_k u0 ys).1, eM, nI_clamp (by omega)]; omega
      obtain ⟨vc, hv1, hv2⟩ := fcI_end hg.2.2 hPP hlt (by omega) (by rw [h20]; exact eK) h21
      have huc0 : uc.2 0 = u0.2 0 := by rw [← hg3.2 0 (by decide), hg2, (fillR_k u0 xs).2 0 (nR rfl)]
      have hnx := flN_t hg4 (by rw [huc0, ← idx8 hPP hlt]) hv2
      refine lv_iinc (v := (nI (i + 1))) (lv' := [(3, .int (nI (i + 1))), (4, .int (nI (u0.2 0 (8 * nI P + nI i).toNatClampNeg).toNatClampNeg)), (2, .int (nI ys.length)), (0, .ref h0), (1, .int (nI P))]) hx hb dX12_fill_171 hl (k := 1) rfl (nI_1 i) (by decide) rfl (fun ls hl => ?_)
      refine lv_goto (tgt := 23) hx hb dX12_fill_174 (by decide) ?_
      exact ih (i + 1) _ _ _ _ ls (by omega) (by omega) ⟨hg.1, hg.2.1, vc, hv1, hnx⟩ hP hD hS (lv_sub hl [0, 2, 3, 4] rfl)
