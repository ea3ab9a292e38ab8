/-- the reference's state and the class's: alike but for the fillers' row -/
def q37 (w u : mS) : Prop := w.1 = u.1 ∧ ∀ k, k ≠ 37 → w.2 k = u.2 k
theorem q37_rf (u : mS) : q37 u u := ⟨rfl, fun _ _ => rfl⟩
theorem q37_ca {w u : mS} (h : q37 w u) (p c l : Int32) : mCellAt w p c l = mCellAt u p c l := by
  unfold mCellAt mCell
  rw [h.2 0 (by decide), h.2 2 (by decide)]
theorem q37_ff {w u : mS} (h : q37 w u) (n : Int32) (j : Nat) : ffC w n j ↔ ffC u n j := by
  unfold ffC
  rw [h.2 4 (by decide), h.2 22 (by decide), h.2 5 (by decide), h.2 6 (by decide)]
theorem q_mst {w u : mS} (h : q37 w u) {k : Nat} (hk : k ≠ 37) (i : Int32) {x y : Int32} (e : x = y) : q37 (mst w k i x) (mst u k i y) := by
  refine ⟨h.1, fun j hj => ?_⟩
  by_cases q : j = k
  · subst q
    funext t
    rw [mst_at, mst_at, h.2 j hj, e]
  · rw [mst_other q, mst_other q]; exact h.2 j hj
theorem q_mput {w u : mS} (h : q37 w u) {f g : Nat → Int32} (e : f = g) : q37 (mput w 2 f) (mput u 2 g) := by
  refine ⟨h.1, fun j hj => ?_⟩
  by_cases q : j = 2
  · subst q
    rw [mput_at, mput_at, e]
  · rw [mput_other q, mput_other q]; exact h.2 j hj
theorem mStand_q {w u : mS} (h : q37 w u) (i : Int32) (P X Y D N : Nat) : q37 (mStand w i P X Y D N) (mStand u i P X Y D N) := by
  unfold mStand
  dsimp only
  rw [h.2 22 (by decide)]
  have h5 := q_mst (q_mst (q_mst (q_mst (q_mst h (k := 23) (by decide) (6 * i + u.2 22 i.toNatClampNeg) (x := nI P) rfl) (k := 24) (by decide) (6 * i + u.2 22 i.toNatClampNeg) (x := nI X) rfl) (k := 25) (by decide) (6 * i + u.2 22 i.toNatClampNeg) (x := nI Y) rfl) (k := 26) (by decide) (6 * i + u.2 22 i.toNatClampNeg) (x := nI D) rfl) (k := 27) (by decide) (6 * i + u.2 22 i.toNatClampNeg) (x := nI N) rfl
  have h6 := q_mst h5 (k := 22) (by decide) i (congrArg (fun z : Nat → Int32 => z i.toNatClampNeg + 1) (h5.2 22 (by decide)))
  exact q_mput h6 (by rw [h6.2 2 (by decide)])
theorem fStep_q {w u : mS} (h : q37 w u) (n : Nat) (x : fX) : q37 (fStep w n x) (mStand u (nI x.1) x.2.1 x.2.2.1 x.2.2.2.1 1 x.2.2.2.2) := by
  have q := mStand_q h (nI x.1) x.2.1 x.2.2.1 x.2.2.2.1 1 x.2.2.2.2
  unfold fStep
  generalize mStand w (nI x.1) x.2.1 x.2.2.1 x.2.2.2.1 1 x.2.2.2.2 = a at q ⊢
  refine ⟨(mst_1 _ _ _ _).trans q.1, fun k hk => ?_⟩
  rw [mst_other hk]
  exact q.2 k hk
/-- where the reference stands in column c, at line i -/
def fcI (u0 : mS) (x0 : List fX) (P c i : Nat) (w : mS) (xs : List fX) : Prop := ∃ uc, q37 w uc ∧ (fcN u0 x0 P c i = (uc, xs, 0) ∨ (¬ mCellAt uc (nI P) (nI c) (nI i) = (-2) ∧ fcN u0 x0 P c (i + 1) = (uc, xs, 0)))
theorem fcI_n {u0 : mS} {x0 : List fX} {P c i : Nat} {w : mS} {xs : List fX} (h : fcI u0 x0 P c i w xs) (hc : ¬ mCellAt w (nI P) (nI c) (nI i) = (-2)) (h80 : (w.1 3).toNatClampNeg ≤ 80) : fcI u0 x0 P c (i + 1) w xs := by
  obtain ⟨uc, q, h⟩ := h
  rcases h with h | h
  · exact ⟨uc, q, Or.inl (fc_0 h (by rw [← q37_ca q]; exact hc) (Or.inl rfl) (by rw [← q.1]; exact h80))⟩
  · exact ⟨uc, q, Or.inl h.2⟩
theorem fc_run {u0 u : mS} {x0 xs : List fX} {P c i : Nat} (h : fcN u0 x0 P c i = (u, xs, 0)) : ∀ n, (∀ t, i ≤ t → t < i + n → mCellAt u (nI P) (nI c) (nI t) = (-2)) → fcN u0 x0 P c (i + n) = (u, xs, n)
  | 0, _ => h
  | n + 1, hc => fc_e (fc_run h n (fun t h1 h2 => hc t h1 (by omega))) (hc (i + n) (by omega) (by omega))
/-- a row of empty cells that no filler takes -/
theorem fcI_0 {u0 : mS} {x0 : List fX} {P c i e : Nat} {w : mS} {xs : List fX} (h : fcI u0 x0 P c i w xs) (hie : i < e) (hrun : ∀ t, i ≤ t → t < e → mCellAt w (nI P) (nI c) (nI t) = (-2)) (hend : ¬ mCellAt w (nI P) (nI c) (nI e) = (-2)) (h80 : (w.1 3).toNatClampNeg ≤ 80) (hno : ∀ j, j < (w.1 3).toNatClampNeg → ¬ ffC w (nI (e - i)) j) : fcI u0 x0 P c e w xs := by
  obtain ⟨uc, q, h⟩ := h
  rcases h with h | h
  · have hr := fc_run h (e - i) (fun t h1 h2 => by rw [← q37_ca q]; exact hrun t h1 (by omega))
    rw [show i + (e - i) = e by omega] at hr
    have hend2 : ¬ mCellAt uc (nI P) (nI c) (nI e) = (-2) := by rw [← q37_ca q]; exact hend
    refine ⟨uc, q, Or.inr ⟨hend2, fc_0 hr hend2 (Or.inr (fun j hj => ?_)) (by rw [← q.1]; exact h80)⟩⟩
    rw [← q37_ff q]
    exact hno j (by rw [q.1]; exact hj)
  · exact absurd (by rw [← q37_ca q]; exact hrun i (Nat.le_refl _) hie) h.1
theorem ca_out {u : mS} {i : Int32} {P c Y N e : Nat} (hP : P < 12) (hc : c < 8) (he : e = Y + N) (he6 : e < 200) (hl : bw (u.2 0 (8 * P + c)) 0 60 = true) : mCellAt (mStand u i P c Y 1 N) (nI P) (nI c) (nI e) = mCellAt u (nI P) (nI c) (nI e) := by
  have e0 : (mStand u i P c Y 1 N).2 0 = u.2 0 := mStand_k2 _ _ _ _ _ _ _ (by decide) (by decide)
  have em : mCell (mStand u i P c Y 1 N) (nI P) (nI c) (nI e) = mCell u (nI P) (nI c) (nI e) := by unfold mCell; rw [e0]
  unfold mCellAt
  rw [em]
  by_cases h : mCell u (nI P) (nI c) (nI e) = true
  · rw [if_pos h, if_pos h, mStand_2]
    have h2 := (mC_iff hP (by omega) he6 (fun _ => hl)).mp h
    obtain ⟨l1, l2, l3⟩ := nI_of_bw hl
    have h60 : (60 : Int32).toInt = 60 := rfl
    rw [idxN hP hc (by omega), nI_clamp (by omega)]
    exact setR_out (fun a b ha hb => by omega)
  · rw [if_neg h, if_neg h]
/-- a row of empty cells that gets its filler -/
theorem fcI_1 {u0 : mS} {x0 : List fX} {P c i e q9 n : Nat} {w : mS} {xs : List fX} (h : fcI u0 x0 P c i w xs) (hP : P < 12) (hc8 : c < 8) (he6 : e ≤ 60) (hl : bw (w.2 0 (8 * P + c)) 0 60 = true) (hie : i < e) (hrun : ∀ t, i ≤ t → t < e → mCellAt w (nI P) (nI c) (nI t) = (-2)) (hend : ¬ mCellAt w (nI P) (nI c) (nI e) = (-2)) (h80 : (w.1 3).toNatClampNeg ≤ 80) (hq : q9 < (w.1 3).toNatClampNeg) (hf : ffC w (nI (e - i)) q9) (hno : ∀ j, j < q9 → ¬ ffC w (nI (e - i)) j) : fcI u0 x0 P c e (fStep w n (q9, P, c, i, e - i)) ((q9, P, c, i, e - i) :: xs) := by
  obtain ⟨uc, q, h⟩ := h
  rcases h with h | h
  · have hr := fc_run h (e - i) (fun t h1 h2 => by rw [← q37_ca q]; exact hrun t h1 (by omega))
    rw [show i + (e - i) = e by omega] at hr
    have hend2 : ¬ mCellAt uc (nI P) (nI c) (nI e) = (-2) := by rw [← q37_ca q]; exact hend
    have h1 := fc_1 hr hend2 (by omega) (by rw [← q.1]; exact hq) ((q37_ff q _ _).mp hf) (fun j hj => fun z => hno j hj ((q37_ff q _ _).mpr z)) (by rw [← q.1]; exact h80)
    rw [show e - (e - i) = i by omega] at h1
    refine ⟨_, fStep_q q n (q9, P, c, i, e - i), Or.inr ⟨?_, h1⟩⟩
    show ¬ mCellAt (mStand uc (nI q9) P c i 1 (e - i)) (nI P) (nI c) (nI e) = (-2)
    rw [ca_out hP hc8 (by omega) (by omega) (by rw [← q.2 0 (by decide)]; exact hl)]
    exact hend2
  · exact absurd (by rw [← q37_ca q]; exact hrun i (Nat.le_refl _) hie) h.1
/-- what fillerFor finds -/
theorem ffr_all (u : mS) (n : Int32) {M : Nat} (hM : M ≤ 80) : (mFFr u n M M = (-1) ∧ ∀ j, j < M → ¬ ffC u n j) ∨ ∃ q, q < M ∧ mFFr u n M M = nI q ∧ ffC u n q ∧ ∀ j, j < q → ¬ ffC u n j := by
  by_cases h : ∃ q, q < M ∧ ffC u n q
  · have key : ∀ k, (∃ q, q < k ∧ q < M ∧ ffC u n q) → ∃ q, q < M ∧ ffC u n q ∧ ∀ j, j < q → ¬ ffC u n j := by
      intro k
      induction k with
      | zero => rintro ⟨q, h1, -⟩; omega
      | succ k ih =>
        rintro ⟨q, h1, h2, h3⟩
        by_cases hk : ∃ q, q < k ∧ q < M ∧ ffC u n q
        · exact ih hk
        · exact ⟨q, h2, h3, fun j hj hc => hk ⟨j, by omega, by omega, hc⟩⟩
    obtain ⟨q0, h1, h2⟩ := h
    obtain ⟨q, a, b, c⟩ := key (q0 + 1) ⟨q0, by omega, h1, h2⟩
    exact Or.inr ⟨q, a, mFF_s hM a b c M (Nat.le_refl _) (by omega), b, c⟩
  · exact Or.inl ⟨mFF_n hM M (Nat.le_refl _) (fun i _ hi hc => h ⟨i, hi, hc⟩), fun j hj hc => h ⟨j, hj, hc⟩⟩
theorem caK {u : mS} {P c K t : Nat} (hP : P < 12) (hc : c < 8) (hK6 : K ≤ 60) (eK : u.2 0 (8 * nI P + nI c).toNatClampNeg = nI K) (ht : t < K) : mCellAt u (nI P) (nI c) (nI t) = u.2 2 (480 * nI P + 60 * nI c + nI t).toNatClampNeg := by
  have e0 : (8 * nI P + nI c).toNatClampNeg = 8 * P + c := by rw [show (8 : Int32) = nI 8 from rfl, pk_mul, nI_add, nI_clamp (by omega)]
  rw [e0] at eK
  unfold mCellAt
  rw [if_pos ((mC_iff hP (by omega) (by omega) (fun _ => by rw [eK]; exact bwN (by have h60 : (60 : Int32).toInt = 60 := rfl; rw [h60]; omega) (by omega))).mpr ⟨hc, by rw [eK, nI_clamp (by omega)]; exact ht⟩)]
theorem caX {u : mS} {P c K : Nat} (hP : P < 12) (hc : c < 8) (hK6 : K ≤ 60) (eK : u.2 0 (8 * nI P + nI c).toNatClampNeg = nI K) : ¬ mCellAt u (nI P) (nI c) (nI K) = (-2) := by
  have e0 : (8 * nI P + nI c).toNatClampNeg = 8 * P + c := by rw [show (8 : Int32) = nI 8 from rfl, pk_mul, nI_add, nI_clamp (by omega)]
  rw [e0] at eK
  unfold mCellAt
  rw [if_neg ?_]
  · decide
  · intro h
    have h2 := (mC_iff hP (by omega) (by omega) (fun _ => by rw [eK]; exact bwN (by have h60 : (60 : Int32).toInt = 60 := rfl; rw [h60]; omega) (by omega))).mp h
    rw [eK, nI_clamp (by omega)] at h2
    omega
set_option maxHeartbeats 4000000 in
set_option maxRecDepth 100000 in
theorem n_fl_in {p : Program} {l : Launch} {e : Env} {R : Room} {s : State} {m : MethodId} {args : Array Value} {below : List Frame} {meth : Method} {c : Code} {Q : State → Prop} {cells slots : Nat} {dC : Nat → ClassId} {dI : Nat → Nat → Nat} {h0 : Nat} {v : Nat → Nat} {cI cZ : ClassId} {H : Heap} {locs : List Loc} {u : mS} (hx : p.tables.exec = Jvm.exec) (hb : c.code = cX12_fill) (hml : c.maxLocals = 7) (hts : ∀ w ∈ wsX12_fill, w.before args s = true) (hown : s.vm.findClass RX12 = some m.cls) (hN : NN s) (hK : va_K (dC, dI) vwCl [(cI, .int), (cZ, .boolean)] s) (hRf : 1 ≤ R.frames) (hRl : 22 ≤ R.locals) (hRc : cells ≤ R.cells) (hRs : slots ≤ R.slots) (hP : va_P (dC, dI) vwCl (mW h0 v cI cZ u) H) {P c9 K L J : Nat} {b9 : Int32} (hPP : P < 12) (hc8 : c9 < 8) (hK6 : K ≤ 60) (hKJ : K = L + J) (eK : u.2 0 (8 * nI P + nI c9).toNatClampNeg = nI K) (kx91 : ∀ (e9 : Nat) (ls : Array Slot), L ≤ e9 → e9 ≤ K → (∀ t, L ≤ t → t < e9 → u.2 2 (480 * nI P + 60 * nI c9 + nI t).toNatClampNeg = (-2)) → (e9 = K ∨ ¬ u.2 2 (480 * nI P + 60 * nI c9 + nI e9).toNatClampNeg = (-2)) → lv_has ls 7 [(5, .int (nI e9)), (4, .int (nI L)), (3, .int (nI c9)), (2, .int b9), (0, .ref h0), (1, .int (nI P))] → W p l e R s m args below meth c H locs cells slots Q (F0 m 91 ls [])) : ∀ (k i : Nat) (ls : Array Slot), i ≤ J → J - i < k → (∀ t, L ≤ t → t < L + i → u.2 2 (480 * nI P + 60 * nI c9 + nI t).toNatClampNeg = (-2)) → lv_has ls 7 [(5, .int (nI (L + i))), (4, .int (nI L)), (3, .int (nI c9)), (2, .int b9), (0, .ref h0), (1, .int (nI P))] → W p l e R s m args below meth c H locs cells slots Q (F0 m 52 ls []) := by
  intro k
  induction k with
  | zero => intro i ls h1 h2; exact absurd h2 (Nat.not_lt_zero _)
  | succ k ih =>
    intro i ls hi hk hg hl
    refine lv_iload hx hb dX12_fill_52 (lv_at hl 0 rfl) ?_
    refine lv_aload_n hx hb dX12_fill_54 rfl (lv_at hl 4 rfl) ?_
    refine va_get (D := (dC, dI)) (ci := 11) (v := .ref (v 0)) (C := RX12) (T := TX12) (N := 52) hx hb hts (by decide +kernel) hown hK hP 0 rfl rfl 0 (by decide) (hts (.fieldLink RX12 7 "PageOneModel" "lines" "[I") (by decide +kernel)) (fun _ h9 => h9) rfl dX12_fill_55 ?_
    refine lv_bipush (v := 8) hx hb dX12_fill_58 (by decide) ?_
    refine lv_iload_n hx hb dX12_fill_60 rfl (lv_at hl 5 rfl) ?_
    refine lv_imul hx hb dX12_fill_61 ?_
    refine lv_iload_n hx hb dX12_fill_62 rfl (lv_at hl 2 rfl) ?_
    refine lv_iadd hx hb dX12_fill_63 ?_
    refine va_iald hx hb hK hP 1 0 rfl rfl (vin8 (bw11 hPP) (bw7 hc8)) dX12_fill_64 ?_
    refine lv_topi (fun y_1 ey_1 => ?_)
    obtain rfl : y_1 = (nI K) := ey_1.trans (eK)
    refine lv_icmp_ge (tgt := 91) hx hb dX12_fill_65 (by decide) (fun c_2 => ?_) (fun c_2 => ?_)
    ·
      have hie : L + i = K := lp_eq rfl (by omega) (by omega) c_2
      exact kx91 _ ls (Nat.le_add_right _ _) (by omega) hg (Or.inl hie) (lv_sub hl [0, 1, 2, 3, 4, 5] rfl)
    ·
      have hlt : L + i < K := lp_lt rfl (by omega) (by omega) c_2
      refine lv_aload_n hx hb dX12_fill_68 rfl (lv_at hl 4 rfl) ?_
      refine va_get (D := (dC, dI)) (ci := 11) (v := .ref (v 2)) (C := RX12) (T := TX12) (N := 52) hx hb hts (by decide +kernel) hown hK hP 0 rfl rfl 2 (by decide) (hts (.fieldLink RX12 16 "PageOneModel" "cell" "[I") (by decide +kernel)) (fun _ h9 => h9) rfl dX12_fill_69 ?_
      refine lv_iload_n hx hb dX12_fill_72 rfl (lv_at hl 5 rfl) ?_
      refine lv_iload_n hx hb dX12_fill_73 rfl (lv_at hl 2 rfl) ?_
      refine lv_iload hx hb dX12_fill_74 (lv_at hl 0 rfl) ?_
      refine vp_callSi (va_runS (As := [.int (nI P), .int (nI c9), .int (nI (L + i))]) (rest := [.ref (v 2)]) ⟨hx, hb, hml, hown, hts⟩ (m_at l dC dI (nI P) (nI c9) (nI (L + i))) (va_cwS 3 hts gX12_fill_X12_at rfl rfl rfl (by decide +kernel) ⟨Nat.le_trans (Nat.le_of_ble_eq_true rfl) hRf, Nat.le_trans (Nat.le_of_ble_eq_true rfl) hRl⟩) ⟨pw_fb, fun U hU hW => ⟨rfl, pw_to hU hW (hP.sub (ws' := []) [] rfl) (hK.sub (tys' := []) [] rfl) hN⟩⟩ rfl rfl hl.1 rfl (lv_room (Nat.le_of_ble_eq_true rfl)) dX12_fill_76 ⟨hRc, hRs⟩).run (fun r hw => ?_)
      obtain rfl : r = (480 * (nI P) + 60 * (nI c9) + (nI (L + i))) := hw
      refine va_iald hx hb hK hP 3 0 rfl rfl (vinC (bw11 hPP) (bw7 hc8) (by omega)) dX12_fill_79 ?_
      refine lv_bipush (v := (-2)) hx hb dX12_fill_80 (by decide) ?_
      refine lv_icmp_ne (tgt := 91) hx hb dX12_fill_82 (by decide) (fun c_3 => ?_) (fun c_3 => ?_)
      ·
        exact kx91 _ ls (Nat.le_add_right _ _) (by omega) hg (Or.inr c_3) (lv_sub hl [0, 1, 2, 3, 4, 5] rfl)
      ·
        refine lv_iinc (v := (nI (L + i + 1))) (lv' := [(5, .int (nI (L + i + 1))), (4, .int (nI L)), (3, .int (nI c9)), (2, .int b9), (0, .ref h0), (1, .int (nI P))]) hx hb dX12_fill_85 hl (k := 0) rfl (nI_1 _) (by decide) rfl (fun ls hl => ?_)
        refine lv_goto (tgt := 52) hx hb dX12_fill_88 (by decide) ?_
        exact ih (i + 1) ls (by omega) (by omega) (fun t h1 h2 => if h3 : t = L + i then by rw [h3]; exact c_3 else hg t h1 (by omega)) (lv_sub hl [0, 1, 2, 3, 4, 5] rfl)
theorem idx8 {P c : Nat} (hP : P < 12) (hc : c < 8) : (8 * nI P + nI c).toNatClampNeg = 8 * P + c := by rw [show (8 : Int32) = nI 8 from rfl, pk_mul, nI_add, nI_clamp (by omega)]
set_option maxHeartbeats 4000000 in
set_option maxRecDepth 100000 in
theorem n_fl_mid {p : Program} {l : Launch} {e : Env} {R : Room} {s : State} {m : MethodId} {args : Array Value} {below : List Frame} {meth : Method} {c : Code} {Q : State → Prop} {cells slots : Nat} {dC : Nat → ClassId} {dI : Nat → Nat → Nat} {h0 : Nat} {v : Nat → Nat} {cI cZ : ClassId} {u0 : mS} {P M : Nat} (hPP : P < 12) (hM8 : M ≤ 80) (eM : u0.1 3 = nI M) (hfb : ∀ (x : fX) (xs : List fX), fGood u0 (x :: xs) → 0 ≤ (u0.1 36).toInt ∧ (u0.1 36).toInt + (xs.length : Int) < 700) {c9 K : Nat} (hc8 : c9 < 8) (hK6 : K ≤ 60) (eK : u0.2 0 (8 * nI P + nI c9).toNatClampNeg = nI K) {uc0 : mS} {x0 : List fX} {A : Nat → Prop} {H0 : Heap} (hx : p.tables.exec = Jvm.exec) (hb : c.code = cX12_fill) (hml : c.maxLocals = 7) (hts : ∀ w ∈ wsX12_fill, w.before args s = true) (hown : s.vm.findClass RX12 = some m.cls) (hN : NN s) (hK : va_K (dC, dI) vwCl [(cI, .int), (cZ, .boolean)] s) (hRf : 3 ≤ R.frames) (hRl : 77 ≤ R.locals) (hRc : cells ≤ R.cells) (hRs : slots ≤ R.slots) (hA : ∀ q : Nat, H0.size ≤ q → A q) (kx : ∀ (u : mS) (H : Heap) (locs : List Loc) (xs : List fX) (ls : Array Slot), (fGood u0 xs ∧ u = fillR u0 xs ∧ fcI uc0 x0 P c9 K u xs) → va_P (dC, dI) vwCl (mW h0 v cI cZ u) H → va_D A (mW h0 v cI cZ u) → va_S A H0 H locs → lv_has ls 7 [(4, .int (nI K)), (3, .int (nI c9)), (2, .int (nI xs.length)), (0, .ref h0), (1, .int (nI P))] → W p l e R s m args below meth c H locs cells slots Q (F0 m 171 ls [])) : ∀ (k i : Nat) (u : mS) (H : Heap) (locs : List Loc) (xs : List fX) (ls : Array Slot), i ≤ K → K - i < k → (fGood u0 xs ∧ u = fillR u0 xs ∧ fcI uc0 x0 P c9 i u xs) → va_P (dC, dI) vwCl (mW h0 v cI cZ u) H → va_D A (mW h0 v cI cZ u) → va_S A H0 H locs → lv_has ls 7 [(4, .int (nI i)), (3, .int (nI c9)), (2, .int (nI xs.length)), (0, .ref h0), (1, .int (nI P))] → W p l e R s m args below meth c H locs cells slots Q (F0 m 32 ls []) := by
  intro k
  induction k with
  | zero => intro i u H locs xs ls h1 h2; exact absurd h2 (Nat.not_lt_zero _)
  | succ k ih =>
    intro i u H locs xs ls hi hk hg hP hD hS hl
    refine lv_iload hx hb dX12_fill_32 (lv_at hl 0 rfl) ?_
    refine lv_aload_n hx hb dX12_fill_34 rfl (lv_at hl 3 rfl) ?_
    refine va_get (D := (dC, dI)) (ci := 11) (v := .ref (v 0)) (C := RX12) (T := TX12) (N := 52) hx hb hts (by decide +kernel) hown hK hP 0 rfl rfl 0 (by decide) (hts (.fieldLink RX12 7 "PageOneModel" "lines" "[I") (by decide +kernel)) (fun _ h9 => h9) rfl dX12_fill_35 ?_
    refine lv_bipush (v := 8) hx hb dX12_fill_38 (by decide) ?_
    refine lv_iload_n hx hb dX12_fill_40 rfl (lv_at hl 4 rfl) ?_
    refine lv_imul hx hb dX12_fill_41 ?_
    refine lv_iload_n hx hb dX12_fill_42 rfl (lv_at hl 1 rfl) ?_
    refine lv_iadd hx hb dX12_fill_43 ?_
    refine va_iald hx hb hK hP 1 0 rfl rfl (vin8 (bw11 hPP) (bw7 hc8)) dX12_fill_44 ?_
    refine lv_topi (fun y_1 ey_1 => ?_)
    obtain rfl : y_1 = (nI K) := ey_1.trans ((by rw [hg.2.1, (fillR_k u0 xs).2 0 (nR rfl)]; exact eK))
    refine lv_icmp_ge (tgt := 171) hx hb dX12_fill_45 (by decide) (fun c_2 => ?_) (fun c_2 => ?_)
    ·
      have hie : i = K := lp_eq rfl (by omega) hi c_2
      rw [hie] at hg hl
      exact kx _ _ _ _ ls hg hP hD hS (lv_sub hl [0, 1, 2, 3, 4] rfl)
    ·
      have hlt : i < K := lp_lt rfl (by omega) hi c_2
      refine lv_iload hx hb dX12_fill_48 (lv_at hl 0 rfl) ?_
      refine lv_istore (lv' := [(5, .int (nI i)), (4, .int (nI i)), (3, .int (nI c9)), (2, .int (nI xs.length)), (0, .ref h0), (1, .int (nI P))]) hx hb dX12_fill_50 hl (by decide) rfl (fun ls hl => ?_)
      refine n_fl_in (P := P) (c9 := c9) (K := K) (L := i) (J := K - i) hx hb hml hts hown hN hK (Nat.le_trans (Nat.le_of_ble_eq_true rfl) hRf) (Nat.le_trans (Nat.le_of_ble_eq_true rfl) hRl) hRc hRs hP hPP hc8 hK6 (by omega) (by rw [hg.2.1, (fillR_k u0 xs).2 0 (nR rfl)]; exact eK) (fun e9 ls hLe heK hr9 he9 hl => ?_) (K - i + 1) 0 ls (Nat.zero_le _) (by omega) (fun t h1 h2 => absurd h1 (by omega)) (lv_sub hl [0, 1, 2, 3, 4, 5] rfl)
      refine lv_iload hx hb dX12_fill_91 (lv_at hl 0 rfl) ?_
      refine lv_iload hx hb dX12_fill_93 (lv_at hl 1 rfl) ?_
      refine lv_icmp_le (tgt := 110) hx hb dX12_fill_95 (by decide) (fun c_3 => ?_) (fun c_3 => ?_)
      ·
        have hel := nIle (by omega) (by omega) c_3
        refine lv_iconst (v := (-1)) hx hb dX12_fill_110 (by decide) ?_
        refine lv_istore (lv' := [(6, .int (-1)), (5, .int (nI e9)), (4, .int (nI i)), (3, .int (nI c9)), (2, .int (nI xs.length)), (0, .ref h0), (1, .int (nI P))]) hx hb dX12_fill_111 hl (by decide) rfl (fun ls hl => ?_)
        refine lv_iload hx hb dX12_fill_113 (lv_at hl 0 rfl) ?_
        refine lv_if_lt (tgt := 150) hx hb dX12_fill_115 (by decide) (fun c_4 => ?_) (fun c_4 => absurd (by decide) c_4)
        refine lv_iload hx hb dX12_fill_150 (lv_at hl 1 rfl) ?_
        refine lv_iload hx hb dX12_fill_152 (lv_at hl 2 rfl) ?_
        refine lv_icmp_le (tgt := 162) hx hb dX12_fill_154 (by decide) (fun c_5 => ?_) (fun c_5 => absurd (c_3) c_5)
        refine lv_iload hx hb dX12_fill_162 (lv_at hl 2 rfl) ?_
        refine lv_iconst (v := 1) hx hb dX12_fill_164 (by decide) ?_
        refine lv_iadd hx hb dX12_fill_165 ?_
        refine lv_topi (fun y_6 ey_6 => ?_)
        obtain rfl : y_6 = (nI (i + 1)) := ey_6.trans ((nI_1 i))
        refine lv_istore (lv' := [(4, .int (nI (i + 1))), (6, .int (-1)), (5, .int (nI e9)), (3, .int (nI c9)), (2, .int (nI xs.length)), (0, .ref h0), (1, .int (nI P))]) hx hb dX12_fill_166 hl (by decide) rfl (fun ls hl => ?_)
        refine lv_goto (tgt := 32) hx hb dX12_fill_168 (by decide) ?_
        have e99 : e9 = i := by omega
        exact ih (i + 1) _ _ _ xs ls (by omega) (by omega) ⟨hg.1, hg.2.1, fcI_n hg.2.2 (by rw [caK hPP hc8 hK6 (by rw [hg.2.1, (fillR_k u0 xs).2 0 (nR rfl)]; exact eK) hlt]; exact fun z => he9.resolve_left (by omega) (by rw [e99]; exact z)) (by rw [hg.2.1, (fillR_k u0 xs).1, eM, nI_clamp (by omega)]; omega)⟩ hP hD hS (lv_sub hl [0, 3, 4, 5, 6] rfl)
      ·
        have hel := nInle (by omega) (by omega) c_3
        refine lv_aload_n hx hb dX12_fill_98 rfl (lv_at hl 4 rfl) ?_
        refine lv_iload hx hb dX12_fill_99 (lv_at hl 0 rfl) ?_
        refine lv_iload hx hb dX12_fill_101 (lv_at hl 1 rfl) ?_
        refine lv_isub hx hb dX12_fill_103 ?_
        refine lv_topi (fun y_7 ey_7 => ?_)
        obtain rfl : y_7 = (nI (e9 - i)) := ey_7.trans ((pk_sub (by omega)))
        refine vp_callSi (va_runV (As := [.int (nI (e9 - i))]) (rest := []) ⟨hx, hb, hml, hown, hts⟩ (m_fillerFor l dC dI h0 v cI cZ u (nI (e9 - i)) (by rw [hg.2.1, (fillR_k u0 xs).1, eM]; exact bwN (by have h80 : (80 : Int32).toInt = 80 := rfl; rw [h80]; omega) (by omega))) (cwV 1 hts gX12_fill_X12_fillerFor rfl rfl rfl (by decide +kernel) ⟨Nat.le_trans (Nat.le_of_ble_eq_true rfl) hRf, Nat.le_trans (Nat.le_of_ble_eq_true rfl) hRl⟩) ⟨pw_fb, va_recv hK hP (ci := 11) (q0 := 0) rfl rfl, fun U hU hW => ⟨rfl, pw_to hU hW hP hK hN⟩⟩ rfl rfl hl.1 rfl (lv_room (Nat.le_of_ble_eq_true rfl)) dX12_fill_104 ⟨hRc, hRs⟩).run (fun r hw => ?_)
        have hff := ffr_all u (nI (e9 - i)) (M := M) hM8
        have hM3 : (u.1 3).toNatClampNeg = M := by rw [hg.2.1, (fillR_k u0 xs).1, eM, nI_clamp (by omega)]
        rw [hM3] at hw
        rw [← hw] at hff
        have hKu : u.2 0 (8 * nI P + nI c9).toNatClampNeg = nI K := by rw [hg.2.1, (fillR_k u0 xs).2 0 (nR rfl)]; exact eK
        have hrun9 : ∀ t, i ≤ t → t < e9 → mCellAt u (nI P) (nI c9) (nI t) = (-2) := fun t h1 h2 => by rw [caK hPP hc8 hK6 hKu (by omega)]; exact hr9 t h1 h2
        have hend9 : ¬ mCellAt u (nI P) (nI c9) (nI e9) = (-2) := by
          rcases Nat.lt_or_ge e9 K with h1 | h1
          · rw [caK hPP hc8 hK6 hKu h1]; exact he9.resolve_left (by omega)
          · rw [show e9 = K by omega]; exact caX hPP hc8 hK6 hKu
        rcases hff with ⟨hff, hno⟩ | ⟨q, hq1, hq2, hq3, hqn⟩
        ·
          subst hff
          refine lv_goto (tgt := 111) hx hb dX12_fill_107 (by decide) ?_
          refine lv_istore (lv' := [(6, .int (-1)), (5, .int (nI e9)), (4, .int (nI i)), (3, .int (nI c9)), (2, .int (nI xs.length)), (0, .ref h0), (1, .int (nI P))]) hx hb dX12_fill_111 hl (by decide) rfl (fun ls hl => ?_)
          refine lv_iload hx hb dX12_fill_113 (lv_at hl 0 rfl) ?_
          refine lv_if_lt (tgt := 150) hx hb dX12_fill_115 (by decide) (fun c_8 => ?_) (fun c_8 => absurd (by decide) c_8)
          refine lv_iload hx hb dX12_fill_150 (lv_at hl 1 rfl) ?_
          refine lv_iload hx hb dX12_fill_152 (lv_at hl 2 rfl) ?_
          refine lv_icmp_le (tgt := 162) hx hb dX12_fill_154 (by decide) (fun c_9 => absurd c_9 (c_3)) (fun c_9 => ?_)
          refine lv_iload hx hb dX12_fill_157 (lv_at hl 1 rfl) ?_
          refine lv_goto (tgt := 166) hx hb dX12_fill_159 (by decide) ?_
          refine lv_istore (lv' := [(4, .int (nI e9)), (6, .int (-1)), (5, .int (nI e9)), (3, .int (nI c9)), (2, .int (nI xs.length)), (0, .ref h0), (1, .int (nI P))]) hx hb dX12_fill_166 hl (by decide) rfl (fun ls hl => ?_)
          refine lv_goto (tgt := 32) hx hb dX12_fill_168 (by decide) ?_
          exact ih e9 _ _ _ xs ls (by omega) (by omega) ⟨hg.1, hg.2.1, fcI_0 hg.2.2 (by omega) hrun9 hend9 (by omega) (fun j hj => hno j (by omega))⟩ hP hD hS (lv_sub hl [0, 3, 4, 5, 6] rfl)
        ·
          subst hq2
          have hnew : fGood u0 ((q, P, c9, i, e9 - i) :: xs) := ⟨hg.1, by rw [eM, nI_clamp (by omega)]; exact hq1, by rw [← (fillR_k u0 xs).2 4 (nR rfl), ← hg.2.1]; exact hq3.1, by rw [← hg.2.1]; exact hq3.2.1, hPP, by show c9 + 1 ≤ 8; omega, by show i + (e9 - i) ≤ 60; omega, by show 1 ≤ e9 - i; omega⟩
          have hq4 := hq3.2.1
          refine lv_goto (tgt := 111) hx hb dX12_fill_107 (by decide) ?_
          refine lv_istore (lv' := [(6, .int (nI q)), (5, .int (nI e9)), (4, .int (nI i)), (3, .int (nI c9)), (2, .int (nI xs.length)), (0, .ref h0), (1, .int (nI P))]) hx hb dX12_fill_111 hl (by decide) rfl (fun ls hl => ?_)
          refine lv_iload hx hb dX12_fill_113 (lv_at hl 0 rfl) ?_
          refine lv_if_lt (tgt := 150) hx hb dX12_fill_115 (by decide) (fun c_10 => absurd c_10 (nIpos (by omega))) (fun c_10 => ?_)
          refine lv_aload_n hx hb dX12_fill_118 rfl (lv_at hl 5 rfl) ?_
          refine lv_iload hx hb dX12_fill_119 (lv_at hl 0 rfl) ?_
          refine lv_iload_n hx hb dX12_fill_121 rfl (lv_at hl 6 rfl) ?_
          refine lv_iload_n hx hb dX12_fill_122 rfl (lv_at hl 3 rfl) ?_
          refine lv_iload hx hb dX12_fill_123 (lv_at hl 2 rfl) ?_
          refine lv_iconst (v := 1) hx hb dX12_fill_125 (by decide) ?_
          refine lv_iload hx hb dX12_fill_126 (lv_at hl 1 rfl) ?_
          refine lv_iload hx hb dX12_fill_128 (lv_at hl 2 rfl) ?_
          refine lv_isub hx hb dX12_fill_130 ?_
          refine lv_topi (fun y_11 ey_11 => ?_)
          obtain rfl : y_11 = (nI (e9 - i)) := ey_11.trans ((pk_sub (by omega)))
          have hFc := fr_all hD hS hA
          refine va_callv (va_runV (As := [.int (nI q), .int (nI P), .int (nI c9), .int (nI i), .int 1, .int (nI (e9 - i))]) (rest := []) ⟨hx, hb, hml, hown, hts⟩ (m_stand l dC dI h0 v cI cZ u (nI q) P c9 i 1 (e9 - i) hPP (by omega) (by omega) (bw79 (by omega)) (z05 (by rw [nI_clamp (by omega)]; exact hq4)) H.size) (cwV 6 hts gX12_fill_X12_stand rfl rfl rfl (by decide +kernel) ⟨Nat.le_trans (Nat.le_of_ble_eq_true rfl) hRf, Nat.le_trans (Nat.le_of_ble_eq_true rfl) hRl⟩) ⟨gw_fb, va_recv hK hP (ci := 11) (q0 := 0) rfl rfl, fun U hU hW => ⟨rfl, by rw [hU], pw_to hU hW hP hK hN, hD.weaken (fun _ _ _ _ => trivial)⟩⟩ rfl rfl hl.1 rfl (lv_room (Nat.le_of_ble_eq_true rfl)) dX12_fill_131 ⟨hRc, hRs⟩) hS (fun q _ h => hFc q h) hFc (fun u_12 t H1 locs ht hvm hw hB hz1 hk1 hS => ?_)
          obtain ⟨hP, hD1⟩ := hB
          rw [ht] at hP
          have hD := hD1.weaken (fun _ q _ h => hFc q.1 h)
          generalize H1 = H at hP hS ⊢
          have eu_12 := hw
          refine lv_aload_n hx hb dX12_fill_134 rfl (lv_at hl 5 rfl) ?_
          refine va_get (D := (dC, dI)) (ci := 11) (v := .ref (v 37)) (C := RX12) (T := TX12) (N := 52) hx hb hts (by decide +kernel) hown hK hP 0 rfl rfl 37 (by decide) (hts (.fieldLink RX12 113 "PageOneModel" "filler" "[I") (by decide +kernel)) (fun _ h9 => h9) rfl dX12_fill_135 ?_
          refine lv_aload_n hx hb dX12_fill_138 rfl (lv_at hl 5 rfl) ?_
          refine va_get (D := (dC, dI)) (ci := 11) (v := .int (u_12.1 36)) (C := RX12) (T := TX12) (N := 52) hx hb hts (by decide +kernel) hown hK hP 0 rfl rfl 36 (by decide) (hts (.fieldLink RX12 168 "PageOneModel" "filled" "I") (by decide +kernel)) (fun _ h9 => h9) rfl dX12_fill_139 ?_
          refine lv_iload_n hx hb dX12_fill_142 rfl (lv_at hl 4 rfl) ?_
          refine lv_iadd hx hb dX12_fill_143 ?_
          refine lv_iload hx hb dX12_fill_144 (lv_at hl 0 rfl) ?_
          refine va_iast hx hb hK hP hD hS 35 0 rfl rfl (by rw [show u_12.1 36 = u0.1 36 from by rw [eu_12, hg.2.1]; exact congrFun (fillR_k u0 xs).1 36]; exact vFl (hfb _ xs hnew).1 (hfb _ xs hnew).2) dX12_fill_146 (fun H locs hP hD hS => ?_)
          obtain ⟨u_13, eu_13⟩ : ∃ zz : mS, zz = mst u_12 37 ((u_12.1 36) + (nI xs.length)) (nI q) := ⟨_, rfl⟩
          have hP : va_P (dC, dI) vwCl (mW h0 v cI cZ u_13) H := by rw [eu_13]; exact hP
          have hD : va_D A (mW h0 v cI cZ u_13) := by rw [eu_13]; exact hD
          refine lv_iinc (v := (nI (((q, P, c9, i, e9 - i) :: xs) : List fX).length)) (lv' := [(2, .int (nI (((q, P, c9, i, e9 - i) :: xs) : List fX).length)), (6, .int (nI q)), (5, .int (nI e9)), (4, .int (nI i)), (3, .int (nI c9)), (0, .ref h0), (1, .int (nI P))]) hx hb dX12_fill_147 hl (k := 4) rfl (nI_1 _) (by decide) rfl (fun ls hl => ?_)
          refine lv_iload hx hb dX12_fill_150 (lv_at hl 2 rfl) ?_
          refine lv_iload hx hb dX12_fill_152 (lv_at hl 3 rfl) ?_
          refine lv_icmp_le (tgt := 162) hx hb dX12_fill_154 (by decide) (fun c_14 => absurd c_14 (c_3)) (fun c_14 => ?_)
          refine lv_iload hx hb dX12_fill_157 (lv_at hl 2 rfl) ?_
          refine lv_goto (tgt := 166) hx hb dX12_fill_159 (by decide) ?_
          refine lv_istore (lv' := [(4, .int (nI e9)), (2, .int (nI (((q, P, c9, i, e9 - i) :: xs) : List fX).length)), (6, .int (nI q)), (5, .int (nI e9)), (3, .int (nI c9)), (0, .ref h0), (1, .int (nI P))]) hx hb dX12_fill_166 hl (by decide) rfl (fun ls hl => ?_)
          refine lv_goto (tgt := 32) hx hb dX12_fill_168 (by decide) ?_
          exact ih e9 _ _ _ ((q, P, c9, i, e9 - i) :: xs) ls (by omega) (by omega) ⟨hnew, by rw [eu_13, eu_12, hg.2.1]; rfl, by rw [eu_13, eu_12]; exact fcI_1 hg.2.2 hPP hc8 (by omega) (by have z := hKu; rw [idx8 hPP hc8] at z; rw [z]; exact bwN (by have h60 : (60 : Int32).toInt = 60 := rfl; rw [h60]; omega) (by omega)) (by omega) hrun9 hend9 (by omega) (by omega) hq3 hqn⟩ hP hD hS (lv_sub hl [0, 4, 1, 5, 6] rfl)
/-- a column is done -/
theorem fcI_end {u0 : mS} {x0 : List fX} {P c K : Nat} {w : mS} {xs : List fX} (h : fcI u0 x0 P c K w xs) (hP : P < 12) (hc : c < 8) (hK6 : K ≤ 60) (eK : w.2 0 (8 * nI P + nI c).toNatClampNeg = nI K) (h80 : (w.1 3).toNatClampNeg ≤ 80) : ∃ uc, q37 w uc ∧ fcN u0 x0 P c (K + 1) = (uc, xs, 0) := by
  obtain ⟨uc, q, h⟩ := h
  rcases h with h | h
  · exact ⟨uc, q, fc_0 h (by rw [← q37_ca q]; exact caX hP hc hK6 eK) (Or.inl rfl) (by rw [← q.1]; exact h80)⟩
  · exact ⟨uc, q, h.2⟩
theorem flN_t {u uc vc : mS} {P c K : Nat} {xs ys : List fX} (h : flN u P c = (uc, xs)) (hK : (uc.2 0 (8 * P + c)).toNatClampNeg = K) (h2 : fcN uc xs P c (K + 1) = (vc, ys, 0)) : flN u P (c + 1) = (vc, ys) := by
  show ((fcN (flN u P c).1 (flN u P c).2 P c (((flN u P c).1.2 0 (8 * P + c)).toNatClampNeg + 1)).1, (fcN (flN u P c).1 (flN u P c).2 P c (((flN u P c).1.2 0 (8 * P + c)).toNatClampNeg + 1)).2.1) = (vc, ys)
  rw [h]
  dsimp only
  rw [hK, h2]
set_option maxHeartbeats 4000000 in
set_option maxRecDepth 100000 in
theorem n_fl_out {p : Program} {l : Launch} {e : Env} {R : Room} {s : State} {m : MethodId} {args : Array Value} {below : List Frame} {meth : Method} {c : Code} {Q : State → Prop} {cells slots : Nat} {dC : Nat → ClassId} {dI : Nat → Nat → Nat} {h0 : Nat} {v : Nat → Nat} {cI cZ : ClassId} {u0 : mS} {P M : Nat} (hPP : P < 12) (hM8 : M ≤ 80) (eM : u0.1 3 = nI M) (hfb : ∀ (x : fX) (xs : List fX), fGood u0 (x :: xs) → 0 ≤ (u0.1 36).toInt ∧ (u0.1 36).toInt + (xs.length : Int) < 700) (hln0 : ∀ j, j < 96 → bw (u0.2 0 j) 0 60 = true) {A : Nat → Prop} {H0 : Heap} (hx : p.tables.exec = Jvm.exec) (hb : c.code = cX12_fill) (hml : c.maxLocals = 7) (hts : ∀ w ∈ wsX12_fill, w.before args s = true) (hown : s.vm.findClass RX12 = some m.cls) (hN : NN s) (hK : va_K (dC, dI) vwCl [(cI, .int), (cZ, .boolean)] s) (hRf : 3 ≤ R.frames) (hRl : 77 ≤ R.locals) (hRc : cells ≤ R.cells) (hRs : slots ≤ R.slots) (hA : ∀ q : Nat, H0.size ≤ q → A q) (kx : ∀ (u : mS) (H : Heap) (locs : List Loc) (xs : List fX) (ls : Array Slot), (fGood u0 xs ∧ u = fillR u0 xs ∧ ∃ uc, q37 u uc ∧ flN u0 P 8 = (uc, xs)) → va_P (dC, dI) vwCl (mW h0 v cI cZ u) H → va_D A (mW h0 v cI cZ u) → va_S A H0 H locs → lv_has ls 7 [(3, .int (nI 8)), (2, .int (nI xs.length)), (0, .ref h0), (1, .int (nI P))] → W p l e R s m args below meth c H locs cells slots Q (F0 m 177 ls [])) : ∀ (k i : Nat) (u : mS) (H : Heap) (locs : List Loc) (xs : List fX) (ls : Array Slot), i ≤ 8 → 8 - i < k → (fGood u0 xs ∧ u = fillR u0 xs ∧ ∃ uc, q37 u uc ∧ flN u0 P i = (uc, xs)) → va_P (dC, dI) vwCl (mW h0 v cI cZ u) H → va_D A (mW h0 v cI cZ u) → va_S A H0 H locs → lv_has ls 7 [(3, .int (nI i)), (2, .int (nI xs.length)), (0, .ref h0), (1, .int (nI P))] → W p l e R s m args below meth c H locs cells slots Q (F0 m 23 ls []) := by
  intro k
  induction k with
  | zero => intro i u H locs xs ls h1 h2; exact absurd h2 (Nat.not_lt_zero _)
  | succ k ih =>
    intro i u H locs xs ls hi hk hg hP hD hS hl
    refine lv_iload_n hx hb dX12_fill_23 rfl (lv_at hl 0 rfl) ?_
    refine lv_bipush (v := 8) hx hb dX12_fill_24 (by decide) ?_
    refine lv_icmp_ge (tgt := 177) hx hb dX12_fill_26 (by decide) (fun c_1 => ?_) (fun c_1 => ?_)
    ·
      have hie : i = 8 := lp_eq rfl (by decide) hi c_1
      subst hie
      exact kx _ _ _ _ ls hg hP hD hS (lv_sub hl [0, 1, 2, 3] rfl)
    ·
      have hlt : i < 8 := lp_lt rfl (by decide) hi c_1
      refine lv_iconst (v := 0) hx hb dX12_fill_29 (by decide) ?_
      refine lv_istore (lv' := [(4, .int 0), (3, .int (nI i)), (2, .int (nI xs.length)), (0, .ref h0), (1, .int (nI P))]) hx hb dX12_fill_30 hl (by decide) rfl (fun ls hl => ?_)
      obtain ⟨eK, eK2, eK3⟩ := nI_of_bw (hln0 _ (vlt (vin8 (bw11 hPP) (bw7 hlt))))
      have h60 : (60 : Int32).toInt = 60 := rfl
      obtain ⟨hg1, hg2, uc, hg3, hg4⟩ := hg
      refine n_fl_mid (u0 := u0) (P := P) (M := M) (c9 := i) (K := (u0.2 0 (8 * nI P + nI i).toNatClampNeg).toNatClampNeg) hPP hM8 eM hfb hlt (by omega) eK (uc0 := uc) (x0 := xs) hx hb hml hts hown hN hK hRf hRl hRc hRs hA (fun u2 H locs ys ls hg hP hD hS hl => ?_) _ 0 u _ _ xs ls (Nat.zero_le _) (Nat.lt_succ_self _) ⟨hg1, hg2, uc, hg3, Or.inl rfl⟩ hP hD hS (lv_sub hl [0, 1, 2, 3, 4] rfl)
      have h20 : u2.2 0 = u0.2 0 := by rw [hg.2.1, (fillR_k u0 ys).2 0 (nR rfl)]
      have h21 : (u2.1 3).toNatClampNeg ≤ 80 := by rw [hg.2.1, (fillR_k u0 ys).1, eM, nI_clamp (by omega)]; omega
      obtain ⟨vc, hv1, hv2⟩ := fcI_end hg.2.2 hPP hlt (by omega) (by rw [h20]; exact eK) h21
      have huc0 : uc.2 0 = u0.2 0 := by rw [← hg3.2 0 (by decide), hg2, (fillR_k u0 xs).2 0 (nR rfl)]
      have hnx := flN_t hg4 (by rw [huc0, ← idx8 hPP hlt]) hv2
      refine lv_iinc (v := (nI (i + 1))) (lv' := [(3, .int (nI (i + 1))), (4, .int (nI (u0.2 0 (8 * nI P + nI i).toNatClampNeg).toNatClampNeg)), (2, .int (nI ys.length)), (0, .ref h0), (1, .int (nI P))]) hx hb dX12_fill_171 hl (k := 1) rfl (nI_1 i) (by decide) rfl (fun ls hl => ?_)
      refine lv_goto (tgt := 23) hx hb dX12_fill_174 (by decide) ?_
      exact ih (i + 1) _ _ _ _ ls (by omega) (by omega) ⟨hg.1, hg.2.1, vc, hv1, hnx⟩ hP hD hS (lv_sub hl [0, 2, 3, 4] rfl)
/-- what fill answers and leaves -/
def flX (u : mS) (p0 r : Int32) (u9 : mS) : Prop := ((¬ bw p0 0 11 = true ∨ u.1 28 = 300) ∧ r = (-1) ∧ u9 = u) ∨ (bw p0 0 11 = true ∧ ¬ u.1 28 = 300 ∧ ∃ uc xs, flN u p0.toNatClampNeg 8 = (uc, xs) ∧ q37 (fillR u xs) uc ∧ fGood u xs ∧ ((xs = [] ∧ r = 0 ∧ u9 = u) ∨ (¬ xs = [] ∧ r = nI xs.length ∧ u9 = mFillE u xs)))
set_option maxHeartbeats 4000000 in
set_option maxRecDepth 100000 in
theorem n_fill (l : Launch) (dC : Nat → ClassId) (dI : Nat → Nat → Nat) (h0 : Nat) (v : Nat → Nat) (cI cZ : ClassId) (u : mS) (p0 : Int32) (hn : bw (u.1 3) 0 80 = true) (hln : ∀ j, j < 96 → bw (u.2 0 j) 0 60 = true) (ha : bw (u.1 28) 0 300 = true) (hfb : ∀ (x : fX) (xs : List fX), fGood u (x :: xs) → 0 ≤ (u.1 36).toInt ∧ (u.1 36).toInt + (xs.length : Int) < 700) (sz : Nat) : Met l yX12_fill wsX12_fill ({ frames := 3, cells := 0, slots := 0, locals := 77 }) (va_Pc [.ref h0, .int p0] (fun U => U.heap.size = sz ∧ PW dC dI (mW h0 v cI cZ u) [(cI, .int), (cZ, .boolean)] U ∧ va_D (fun _ => True) (mW h0 v cI cZ u))) (va_Qi (fun (r : Int32) (u9 : mS) => flX u p0 r u9) (fun u9 t => va_P (dC, dI) vwCl (mW h0 v cI cZ u9) t.heap ∧ va_D (va_A (mW h0 v cI cZ u) sz) (mW h0 v cI cZ u9)) (va_A (mW h0 v cI cZ u) sz)) 0 0 (va_A (mW h0 v cI cZ u) sz) := by
  refine Met.ofW (cc := cX12_fill) (maxL := 7) (ret := (some .int)) (by decide) rfl ?_
  intro p e s m args below meth c s₁ B hml hv
  obtain ⟨rfl, hsz, ⟨hP, hK, hN⟩, hD0⟩ := hv
  have hx := B.exec
  have hb := B.bytes
  have hr := B.returns
  have hts := atoms_spec (ws := wsX12_fill) B.pre
  have hown : s.vm.findClass RX12 = some m.cls := findClass_of_methodNamed B.named
  have hlocks := B.notSynchronized
  subst hsz
  have hD := hD0.self (sz := s.heap.size)
  generalize hAe : va_A (mW h0 v cI cZ u) s.heap.size = A at hD ⊢
  have hA : ∀ q : Nat, s.heap.size ≤ q → A q := fun q h => by rw [← hAe]; exact Or.inr h
  have hS : va_S A s.heap s.heap [] := va_S.rf
  have hl := lv_entry ([.ref h0, .int p0]) (n := 7) (Nat.le_of_ble_eq_true rfl)
  rw [lg_entry_eq]
  generalize (lg_sl ([.ref h0, .int p0]) ++ List.replicate (7 - (lg_sl ([.ref h0, .int p0])).length) Slot.unset).toArray = ls at hl ⊢
  have hl : lv_has ls 7 [(0, .ref h0), (1, .int p0)] := hl
  refine lv_iload_n hx hb dX12_fill_0 rfl (lv_at hl 1 rfl) ?_
  refine vp_callSi (va_runS (As := [.int p0]) (rest := []) ⟨hx, hb, hml, hown, hts⟩ (m_isPage l dC dI p0) (va_cwS 1 hts gX12_fill_X12_isPage rfl rfl rfl (by decide +kernel) ⟨Nat.le_of_ble_eq_true rfl, Nat.le_of_ble_eq_true rfl⟩) ⟨pw_fb, fun U hU hW => ⟨rfl, pw_to hU hW (hP.sub (ws' := []) [] rfl) (hK.sub (tys' := []) [] rfl) hN⟩⟩ rfl rfl hl.1 rfl (lv_room (Nat.le_of_ble_eq_true rfl)) dX12_fill_1 ⟨Nat.le_of_ble_eq_true rfl, Nat.le_of_ble_eq_true rfl⟩).run (fun r hw => ?_)
  rcases Bool.eq_false_or_eq_true (bw p0 0 11) with b_1 | b_1
  ·
    obtain rfl : r = 1 := b_t hw b_1
    refine lv_if_eq (tgt := 17) hx hb dX12_fill_4 (by decide) (fun c_2 => absurd c_2 (by decide)) (fun c_2 => ?_)
    refine lv_aload_n hx hb dX12_fill_7 rfl (lv_at hl 0 rfl) ?_
    refine va_get (D := (dC, dI)) (ci := 11) (v := .int (u.1 28)) (C := RX12) (T := TX12) (N := 52) hx hb hts (by decide +kernel) hown hK hP 0 rfl rfl 28 (by decide) (hts (.fieldLink RX12 158 "PageOneModel" "acts" "I") (by decide +kernel)) (fun _ h9 => h9) rfl dX12_fill_8 ?_
    refine lv_sipush (v := 300) hx hb dX12_fill_11 (by decide) ?_
    refine lv_icmp_ne (tgt := 19) hx hb dX12_fill_14 (by decide) (fun c_3 => ?_) (fun c_3 => ?_)
    ·
      refine lv_iconst (v := 0) hx hb dX12_fill_19 (by decide) ?_
      refine lv_istore_n (lv' := [(2, .int 0), (0, .ref h0), (1, .int p0)]) hx hb dX12_fill_20 rfl hl (by decide) rfl (fun ls hl => ?_)
      refine lv_iconst (v := 0) hx hb dX12_fill_21 (by decide) ?_
      refine lv_istore_n (lv' := [(3, .int 0), (2, .int 0), (0, .ref h0), (1, .int p0)]) hx hb dX12_fill_22 rfl hl (by decide) rfl (fun ls hl => ?_)
      have hb11 := b_1
      obtain ⟨P, hP12, -, eP⟩ := exN b_1 (by decide)
      have h11 : (11 : Int32).toInt = 11 := rfl
      subst eP
      obtain ⟨eK, eK2, eK3⟩ := nI_of_bw hn
      have h80 : (80 : Int32).toInt = 80 := rfl
      refine n_fl_out (u0 := u) (P := P) (M := (u.1 3).toNatClampNeg) (by omega) (by omega) eK hfb hln hx hb hml hts hown hN hK (Nat.le_of_ble_eq_true rfl) (Nat.le_of_ble_eq_true rfl) (Nat.le_of_ble_eq_true rfl) (Nat.le_of_ble_eq_true rfl) hA (fun u2 H locs xs ls hg hP hD hS hl => ?_) 9 0 u _ _ [] ls (by decide) (by decide) ⟨trivial, rfl, u, q37_rf u, rfl⟩ hP hD hS (lv_sub hl [0, 1, 2, 3] rfl)
      obtain ⟨hgf, hgu, uc, hg3, hg4⟩ := id hg
      refine lv_iload_n hx hb dX12_fill_177 rfl (lv_at hl 1 rfl) ?_
      refine lv_if_ne (tgt := 183) hx hb dX12_fill_178 (by decide) (fun c_4 => ?_) (fun c_4 => ?_)
      ·
        refine lv_aload_n hx hb dX12_fill_183 rfl (lv_at hl 2 rfl) ?_
        refine lv_iconst (v := 3) hx hb dX12_fill_184 (by decide) ?_
        refine lv_iload_n hx hb dX12_fill_185 rfl (lv_at hl 1 rfl) ?_
        refine lv_iconst (v := 0) hx hb dX12_fill_186 (by decide) ?_
        refine lv_iconst (v := 0) hx hb dX12_fill_187 (by decide) ?_
        refine lv_iconst (v := 0) hx hb dX12_fill_188 (by decide) ?_
        refine lv_iconst (v := 0) hx hb dX12_fill_189 (by decide) ?_
        refine lv_iconst (v := 0) hx hb dX12_fill_190 (by decide) ?_
        have hFc := fr_all hD hS hA
        refine va_callv (va_runV (As := [.int 3, .int (nI xs.length), .int 0, .int 0, .int 0, .int 0, .int 0]) (rest := []) ⟨hx, hb, hml, hown, hts⟩ (m_acts l dC dI h0 v cI cZ u2 3 (nI xs.length) 0 0 0 0 0 (by rw [hg.2.1, (fillR_k u xs).1]; exact v300 ha c_3) H.size) (cwV 7 hts gX12_fill_X12_acts rfl rfl rfl (by decide +kernel) ⟨Nat.le_of_ble_eq_true rfl, Nat.le_of_ble_eq_true rfl⟩) ⟨gw_fb, va_recv hK hP (ci := 11) (q0 := 0) rfl rfl, fun U hU hW => ⟨rfl, by rw [hU], pw_to hU hW hP hK hN, hD.weaken (fun _ _ _ _ => trivial)⟩⟩ rfl rfl hl.1 rfl (lv_room (Nat.le_of_ble_eq_true rfl)) dX12_fill_191 ⟨Nat.le_of_ble_eq_true rfl, Nat.le_of_ble_eq_true rfl⟩) hS (fun q _ h => hFc q h) hFc (fun u_5 t H1 locs ht hvm hw hB hz1 hk1 hS => ?_)
        obtain ⟨hP, hD1⟩ := hB
        rw [ht] at hP
        have hD := hD1.weaken (fun _ q _ h => hFc q.1 h)
        generalize H1 = H at hP hS ⊢
        have eu_5 := hw
        refine lv_aload_n hx hb dX12_fill_194 rfl (lv_at hl 2 rfl) ?_
        refine lv_dup hx hb dX12_fill_195 rfl ?_
        refine va_get (D := (dC, dI)) (ci := 11) (v := .int (u_5.1 36)) (C := RX12) (T := TX12) (N := 52) hx hb hts (by decide +kernel) hown hK hP 0 rfl rfl 36 (by decide) (hts (.fieldLink RX12 168 "PageOneModel" "filled" "I") (by decide +kernel)) (fun _ h9 => h9) rfl dX12_fill_196 ?_
        refine lv_iload_n hx hb dX12_fill_199 rfl (lv_at hl 1 rfl) ?_
        refine lv_iadd hx hb dX12_fill_200 ?_
        refine va_put (D := (dC, dI)) (ci := 11) (v := .int ((u_5.1 36) + (nI xs.length))) (ty := .int) (C := RX12) (T := TX12) (N := 52) hx hb hts (by decide +kernel) tyX12 tyX12_ok nmX12 hown hK hP hD hS 0 rfl rfl 36 (by decide) (hts (.fieldLink RX12 168 "PageOneModel" "filled" "I") (by decide +kernel)) (fun _ h9 => h9) rfl (by decide +kernel) rfl rfl (Nat.le_of_ble_eq_true rfl) dX12_fill_201 (fun H locs hP hD hS => ?_)
        obtain ⟨u_6, eu_6⟩ : ∃ zz : mS, zz = mset u_5 36 ((u_5.1 36) + (nI xs.length)) := ⟨_, rfl⟩
        have hP : va_P (dC, dI) vwCl (mW h0 v cI cZ u_6) H := by rw [eu_6]; exact hP
        have hD : va_D A (mW h0 v cI cZ u_6) := by rw [eu_6]; exact hD
        refine lv_iload_n hx hb dX12_fill_204 rfl (lv_at hl 1 rfl) ?_
        exact W.iret (v := (nI xs.length)) hx hb hr (fun t ht hW => ⟨⟨(nI xs.length), u_6, rfl, (Or.inr ⟨hb11, c_3, uc, xs, by rw [nI_clamp (by omega)]; exact hg4, by rw [← hgu]; exact hg3, hgf, Or.inr ⟨fun h => c_4 (by rw [h]; rfl), rfl, by rw [eu_6, eu_5, hg.2.1]; rfl⟩⟩), by rw [ht]; exact hP, hD⟩, hS.F ht⟩) hS.2.2 dX12_fill_205
      ·
        refine lv_iconst (v := 0) hx hb dX12_fill_181 (by decide) ?_
        exact W.iret (v := 0) hx hb hr (fun t ht hW => ⟨⟨0, u2, rfl, (Or.inr ⟨hb11, c_3, uc, xs, by rw [nI_clamp (by omega)]; exact hg4, by rw [← hgu]; exact hg3, hgf, Or.inl ⟨fl_nil hfb hg.1 c_4, rfl, by rw [hg.2.1, fl_nil hfb hg.1 c_4]; rfl⟩⟩), by rw [ht]; exact hP, hD⟩, hS.F ht⟩) hS.2.2 dX12_fill_182
    ·
      refine lv_iconst (v := (-1)) hx hb dX12_fill_17 (by decide) ?_
      exact W.iret (v := (-1)) hx hb hr (fun t ht hW => ⟨⟨(-1), u, rfl, (Or.inl ⟨Or.inr c_3, rfl, rfl⟩), by rw [ht]; exact hP, hD⟩, hS.F ht⟩) hS.2.2 dX12_fill_18
  ·
    obtain rfl : r = 0 := b_f hw b_1
    refine lv_if_eq (tgt := 17) hx hb dX12_fill_4 (by decide) (fun c_7 => ?_) (fun c_7 => absurd (by decide) c_7)
    refine lv_iconst (v := (-1)) hx hb dX12_fill_17 (by decide) ?_
    exact W.iret (v := (-1)) hx hb hr (fun t ht hW => ⟨⟨(-1), u, rfl, (Or.inl ⟨Or.inl (bne b_1), rfl, rfl⟩), by rw [ht]; exact hP, hD⟩, hS.F ht⟩) hS.2.2 dX12_fill_18
/-- w tells the least of what u told and of T -/
def bst (u w : mS) (T : tr3 → Prop) : Prop := ∀ S, best S (wr3 u) → best (fun t => S t ∨ T t) (wr3 w)
theorem bst_0 (u : mS) : bst u u (fun _ => False) := fun S h => best_c h (fun t => ⟨Or.inl, fun q => q.elim id False.elim⟩)
theorem bst_no {u w : mS} {T T2 : tr3 → Prop} (h : bst u w T) (h2 : ∀ t, ¬ T2 t) : bst u w (fun t => T t ∨ T2 t) := fun S hS => best_c (h S hS) (fun t => ⟨fun q => q.elim Or.inl (fun z => Or.inr (Or.inl z)), fun q => q.elim Or.inl (fun z => z.elim Or.inr (fun y => absurd y (h2 t)))⟩)
theorem bst_add {u w w2 : mS} {T T2 : tr3 → Prop} {k a b : Int32} (h : bst u w T) (hw : w2 = mWrongs w k a b) (hk : ¬ k = 0) (h2 : ∀ t, T2 t ↔ t = trN k a b) : bst u w2 (fun t => T t ∨ T2 t) := fun S hS => by
  rw [hw]
  exact best_c (best_wr (h S hS) hk) (fun t => ⟨fun q => q.elim (fun z => z.elim Or.inl (fun y => Or.inr (Or.inl y))) (fun z => Or.inr (Or.inr ((h2 t).mpr z))), fun q => q.elim (fun z => Or.inl (Or.inl z)) (fun z => z.elim (fun y => Or.inl (Or.inr y)) (fun y => Or.inr ((h2 t).mp y)))⟩)
theorem bst_c {u w : mS} {T T2 : tr3 → Prop} (h : bst u w T) (e : ∀ t, T t ↔ T2 t) : bst u w T2 := fun S hS => best_c (h S hS) (fun t => ⟨fun q => q.elim Or.inl (fun z => Or.inr ((e t).mp z)), fun q => q.elim Or.inl (fun z => Or.inr ((e t).mpr z))⟩)
theorem bst_tr {u v w : mS} {T T2 : tr3 → Prop} (h : bst u v T) (h2 : bst v w T2) : bst u w (fun t => T t ∨ T2 t) := fun S hS => best_c (h2 _ (h S hS)) (fun t => ⟨fun q => q.elim (fun z => z.elim Or.inl (fun y => Or.inr (Or.inl y))) (fun z => Or.inr (Or.inr z)), fun q => q.elim (fun z => Or.inl (Or.inl z)) (fun z => z.elim (fun y => Or.inl (Or.inr y)) Or.inr)⟩)
/-- what may not stand beside one another -/
def bC1 (u : mS) (a b : Int32) : Prop := u.2 4 a.toNatClampNeg = 3 ∧ u.2 4 b.toNatClampNeg = 3 ∧ ¬ u.2 20 (10 * u.2 10 a.toNatClampNeg + u.2 10 b.toNatClampNeg).toNatClampNeg = 0
def bCa (u : mS) (a b : Int32) : Prop := u.2 4 a.toNatClampNeg = 3 ∧ u.2 4 b.toNatClampNeg = 0 ∧ ¬ u.2 21 (10 * b + u.2 10 a.toNatClampNeg).toNatClampNeg = 0
def bC3 (u : mS) (a b ac : Int32) : Prop := ¬ ac = 0 ∧ u.2 4 a.toNatClampNeg = 1 ∧ u.2 4 b.toNatClampNeg = 1
def bT1 (u : mS) (a b : Int32) (t : tr3) : Prop := bC1 u a b ∧ t = trN 1 a b
def bT2 (u : mS) (a b : Int32) (t : tr3) : Prop := (bCa u a b ∨ bCa u b a) ∧ t = trN 2 a b
def bT3 (u : mS) (a b ac : Int32) (t : tr3) : Prop := bC3 u a b ac ∧ t = trN 3 a b
def bsT (u : mS) (a b ac : Int32) (t : tr3) : Prop := (mThing a = true ∧ mThing b = true ∧ ¬ a = b) ∧ (bT1 u a b t ∨ bT2 u a b t ∨ bT3 u a b ac t)
theorem bst_3 {u w : mS} {a b ac : Int32} (ha : mThing a = true) (hb : mThing b = true) (hab : ¬ a = b) (h : bst u w (fun t => ((False ∨ bT1 u a b t) ∨ bT2 u a b t) ∨ bT3 u a b ac t)) : bst u w (bsT u a b ac) := bst_c h (fun t => ⟨fun q => ⟨⟨ha, hb, hab⟩, q.elim (fun z => z.elim (fun y => Or.inl (y.elim False.elim id)) (fun y => Or.inr (Or.inl y))) (fun z => Or.inr (Or.inr z))⟩, fun q => q.2.elim (fun z => Or.inl (Or.inl (Or.inr z))) (fun z => z.elim (fun y => Or.inl (Or.inr y)) Or.inr)⟩)
theorem bst_n {u : mS} {a b ac : Int32} (h : ¬ (mThing a = true ∧ mThing b = true ∧ ¬ a = b)) : bst u u (bsT u a b ac) := bst_c (bst_0 u) (fun t => ⟨False.elim, fun q => h q.1⟩)
set_option maxHeartbeats 4000000 in
set_option maxRecDepth 100000 in
theorem n_beside (l : Launch) (dC : Nat → ClassId) (dI : Nat → Nat → Nat) (h0 : Nat) (v : Nat → Nat) (cI cZ : ClassId) (u : mS) (p0 p1 p2 : Int32) (ha9 : mThing p0 = true → bw p0 0 79 = true) (hb9 : mThing p1 = true → bw p1 0 79 = true) (hk : ∀ j, j < 80 → u.2 4 j = 3 → bw (u.2 10 j) 0 9 = true) (sz : Nat) : Met l yX12_beside wsX12_beside ({ frames := 1, cells := 0, slots := 0, locals := 25 }) (va_Pc [.ref h0, .int p0, .int p1, .int p2] (fun U => U.heap.size = sz ∧ PW dC dI (mW h0 v cI cZ u) [(cI, .int), (cZ, .boolean)] U ∧ va_D (fun _ => True) (mW h0 v cI cZ u))) (va_Qv (fun u9 : mS => mE u u9 ∧ bst u u9 (bsT u p0 p1 p2)) (fun u9 t => va_P (dC, dI) vwCl (mW h0 v cI cZ u9) t.heap ∧ va_D (va_A (mW h0 v cI cZ u) sz) (mW h0 v cI cZ u9)) (va_A (mW h0 v cI cZ u) sz)) 0 0 (va_A (mW h0 v cI cZ u) sz) := by
  refine Met.ofW (cc := cX12_beside) (maxL := 4) (ret := none) (by decide) rfl ?_
  intro p e s m args below meth c s₁ B hml hv
  obtain ⟨rfl, hsz, ⟨hP, hK, hN⟩, hD0⟩ := hv
  have hx := B.exec
  have hb := B.bytes
  have hr := B.returns
  have hts := atoms_spec (ws := wsX12_beside) B.pre
  have hown : s.vm.findClass RX12 = some m.cls := findClass_of_methodNamed B.named
  have hlocks := B.notSynchronized
  subst hsz
  have hD := hD0.self (sz := s.heap.size)
  generalize hAe : va_A (mW h0 v cI cZ u) s.heap.size = A at hD ⊢
  have hA : ∀ q : Nat, s.heap.size ≤ q → A q := fun q h => by rw [← hAe]; exact Or.inr h
  have hS : va_S A s.heap s.heap [] := va_S.rf
  have hl := lv_entry ([.ref h0, .int p0, .int p1, .int p2]) (n := 4) (Nat.le_of_ble_eq_true rfl)
  rw [lg_entry_eq]
  generalize (lg_sl ([.ref h0, .int p0, .int p1, .int p2]) ++ List.replicate (4 - (lg_sl ([.ref h0, .int p0, .int p1, .int p2])).length) Slot.unset).toArray = ls at hl ⊢
  have hl : lv_has ls 4 [(0, .ref h0), (1, .int p0), (2, .int p1), (3, .int p2)] := hl
  refine lv_aload_n hx hb dX12_beside_0 rfl (lv_at hl 0 rfl) ?_
  refine lv_iload_n hx hb dX12_beside_1 rfl (lv_at hl 1 rfl) ?_
  refine vp_callSi (va_runV (As := [.int p0]) (rest := []) ⟨hx, hb, hml, hown, hts⟩ (m_isThing l dC dI h0 v cI cZ u p0) (cwV 1 hts gX12_beside_X12_isThing rfl rfl rfl (by decide +kernel) ⟨Nat.le_of_ble_eq_true rfl, Nat.le_of_ble_eq_true rfl⟩) ⟨pw_fb, va_recv hK hP (ci := 11) (q0 := 0) rfl rfl, fun U hU hW => ⟨rfl, pw_to hU hW hP hK hN⟩⟩ rfl rfl hl.1 rfl (lv_room (Nat.le_of_ble_eq_true rfl)) dX12_beside_2 ⟨Nat.le_of_ble_eq_true rfl, Nat.le_of_ble_eq_true rfl⟩).run (fun r hw => ?_)
  rcases Bool.eq_false_or_eq_true (mThing p0) with b_1 | b_1
  ·
    obtain rfl : r = 1 := b_t hw b_1
    refine lv_if_eq (tgt := 21) hx hb dX12_beside_5 (by decide) (fun c_2 => absurd c_2 (by decide)) (fun c_2 => ?_)
    refine lv_aload_n hx hb dX12_beside_8 rfl (lv_at hl 0 rfl) ?_
    refine lv_iload_n hx hb dX12_beside_9 rfl (lv_at hl 2 rfl) ?_
    refine vp_callSi (va_runV (As := [.int p1]) (rest := []) ⟨hx, hb, hml, hown, hts⟩ (m_isThing l dC dI h0 v cI cZ u p1) (cwV 1 hts gX12_beside_X12_isThing rfl rfl rfl (by decide +kernel) ⟨Nat.le_of_ble_eq_true rfl, Nat.le_of_ble_eq_true rfl⟩) ⟨pw_fb, va_recv hK hP (ci := 11) (q0 := 0) rfl rfl, fun U hU hW => ⟨rfl, pw_to hU hW hP hK hN⟩⟩ rfl rfl hl.1 rfl (lv_room (Nat.le_of_ble_eq_true rfl)) dX12_beside_10 ⟨Nat.le_of_ble_eq_true rfl, Nat.le_of_ble_eq_true rfl⟩).run (fun r hw => ?_)
    rcases Bool.eq_false_or_eq_true (mThing p1) with b_3 | b_3
    ·
      obtain rfl : r = 1 := b_t hw b_3
      refine lv_if_eq (tgt := 21) hx hb dX12_beside_13 (by decide) (fun c_4 => absurd c_4 (by decide)) (fun c_4 => ?_)
      refine lv_iload_n hx hb dX12_beside_16 rfl (lv_at hl 1 rfl) ?_
      refine lv_iload_n hx hb dX12_beside_17 rfl (lv_at hl 2 rfl) ?_
      refine lv_icmp_ne (tgt := 22) hx hb dX12_beside_18 (by decide) (fun c_5 => ?_) (fun c_5 => ?_)
      ·
        have hA9 := ha9 b_1
        have hB9 := hb9 b_3
        have hg : mE u u := mE_rf u
        refine w_cut (X := fun R cells slots Q args => ∀ (uJ156 : mS) (H : Heap) (locs : List Loc) (ls : Array Slot), mE u uJ156 → bst u uJ156 (fun t => (False ∨ bT1 u p0 p1 t) ∨ bT2 u p0 p1 t) → va_P (dC, dI) vwCl (mW h0 v cI cZ uJ156) H → va_D A (mW h0 v cI cZ uJ156) → va_S A s.heap H locs → lv_has ls 4 [(0, .ref h0), (1, .int p0), (2, .int p1), (3, .int p2)] → W p l e R s m args below meth c H locs cells slots Q (F0 m 156 ls [])) ?_ (fun kJ156 => ?_)
        ·
          intro uJ156 H locs ls hg hB156 hP hD hS hl
          refine lv_iload_n hx hb dX12_beside_156 rfl (lv_at hl 3 rfl) ?_
          refine lv_if_eq (tgt := 187) hx hb dX12_beside_157 (by decide) (fun c_6 => ?_) (fun c_6 => ?_)
          ·
            exact W.vret hx hb hr (fun t ht hW => ⟨⟨uJ156, rfl, ⟨hg, bst_3 b_1 b_3 c_5 (bst_no hB156 (fun t q => (fun h => h.1 c_6) q.1))⟩, by rw [ht]; exact hP, hD⟩, hS.F ht⟩) hS.2.2 dX12_beside_187
          ·
            refine lv_aload_n hx hb dX12_beside_160 rfl (lv_at hl 0 rfl) ?_
            refine va_get (D := (dC, dI)) (ci := 11) (v := .ref (v 4)) (C := RX12) (T := TX12) (N := 52) hx hb hts (by decide +kernel) hown hK hP 0 rfl rfl 4 (by decide) (hts (.fieldLink RX12 19 "PageOneModel" "kind" "[I") (by decide +kernel)) (fun _ h9 => h9) rfl dX12_beside_161 ?_
            refine lv_iload_n hx hb dX12_beside_164 rfl (lv_at hl 1 rfl) ?_
            refine va_iald hx hb hK hP 4 0 rfl rfl (vin hA9 (by decide)) dX12_beside_165 ?_
            refine lv_iconst (v := 1) hx hb dX12_beside_166 (by decide) ?_
            refine lv_icmp_ne (tgt := 187) hx hb dX12_beside_167 (by decide) (fun c_7 => ?_) (fun c_7 => ?_)
            ·
              exact W.vret hx hb hr (fun t ht hW => ⟨⟨uJ156, rfl, ⟨hg, bst_3 b_1 b_3 c_5 (bst_no hB156 (fun t q => (fun h => by unfold bC3 at h; rw [← hg.1] at h; first | exact c_7 h.2.1 | exact h.2.1 c_7) q.1))⟩, by rw [ht]; exact hP, hD⟩, hS.F ht⟩) hS.2.2 dX12_beside_187
            ·
              refine lv_aload_n hx hb dX12_beside_170 rfl (lv_at hl 0 rfl) ?_
              refine va_get (D := (dC, dI)) (ci := 11) (v := .ref (v 4)) (C := RX12) (T := TX12) (N := 52) hx hb hts (by decide +kernel) hown hK hP 0 rfl rfl 4 (by decide) (hts (.fieldLink RX12 19 "PageOneModel" "kind" "[I") (by decide +kernel)) (fun _ h9 => h9) rfl dX12_beside_171 ?_
              refine lv_iload_n hx hb dX12_beside_174 rfl (lv_at hl 2 rfl) ?_
              refine va_iald hx hb hK hP 4 0 rfl rfl (vin hB9 (by decide)) dX12_beside_175 ?_
              refine lv_iconst (v := 1) hx hb dX12_beside_176 (by decide) ?_
              refine lv_icmp_ne (tgt := 187) hx hb dX12_beside_177 (by decide) (fun c_8 => ?_) (fun c_8 => ?_)
              ·
                exact W.vret hx hb hr (fun t ht hW => ⟨⟨uJ156, rfl, ⟨hg, bst_3 b_1 b_3 c_5 (bst_no hB156 (fun t q => (fun h => by unfold bC3 at h; rw [← hg.1] at h; first | exact c_8 h.2.2 | exact h.2.2 c_8) q.1))⟩, by rw [ht]; exact hP, hD⟩, hS.F ht⟩) hS.2.2 dX12_beside_187
              ·
                refine lv_aload_n hx hb dX12_beside_180 rfl (lv_at hl 0 rfl) ?_
                refine lv_iconst (v := 3) hx hb dX12_beside_181 (by decide) ?_
                refine lv_iload_n hx hb dX12_beside_182 rfl (lv_at hl 1 rfl) ?_
                refine lv_iload_n hx hb dX12_beside_183 rfl (lv_at hl 2 rfl) ?_
                have hg8 := hg
                have hFc := fr_all hD hS hA
                refine va_callv (va_runV (As := [.int 3, .int p0, .int p1]) (rest := []) ⟨hx, hb, hml, hown, hts⟩ (m_wrongs l dC dI h0 v cI cZ uJ156 3 p0 p1 H.size) (cwV 3 hts gX12_beside_X12_wrongs rfl rfl rfl (by decide +kernel) ⟨Nat.le_of_ble_eq_true rfl, Nat.le_of_ble_eq_true rfl⟩) ⟨gw_fb, va_recv hK hP (ci := 11) (q0 := 0) rfl rfl, fun U hU hW => ⟨rfl, by rw [hU], pw_to hU hW hP hK hN, hD.weaken (fun _ _ _ _ => trivial)⟩⟩ rfl rfl hl.1 rfl (lv_room (Nat.le_of_ble_eq_true rfl)) dX12_beside_184 ⟨Nat.le_of_ble_eq_true rfl, Nat.le_of_ble_eq_true rfl⟩) hS (fun q _ h => hFc q h) hFc (fun u_9 t H1 locs ht hvm hw hB hz1 hk1 hS => ?_)
                obtain ⟨hP, hD1⟩ := hB
                rw [ht] at hP
                have hD := hD1.weaken (fun _ q _ h => hFc q.1 h)
                generalize H1 = H at hP hS ⊢
                have hg := mE_wr hg hw
                have hwr := hw
                exact W.vret hx hb hr (fun t ht hW => ⟨⟨u_9, rfl, ⟨hg, bst_3 b_1 b_3 c_5 (bst_add hB156 hwr (by decide) (fun t => ⟨fun h => h.2, fun h => ⟨(by unfold bC3; rw [← hg8.1]; exact ⟨c_6, c_7, c_8⟩), h⟩⟩))⟩, by rw [ht]; exact hP, hD⟩, hS.F ht⟩) hS.2.2 dX12_beside_187
        ·
          refine w_cut (X := fun R cells slots Q args => ∀ (uJ149 : mS) (H : Heap) (locs : List Loc) (ls : Array Slot), mE u uJ149 → bst u uJ149 (fun t => False ∨ bT1 u p0 p1 t) → (bCa u p0 p1 ∨ bCa u p1 p0) → va_P (dC, dI) vwCl (mW h0 v cI cZ uJ149) H → va_D A (mW h0 v cI cZ uJ149) → va_S A s.heap H locs → lv_has ls 4 [(0, .ref h0), (1, .int p0), (2, .int p1), (3, .int p2)] → W p l e R s m args below meth c H locs cells slots Q (F0 m 149 ls [])) ?_ (fun kJ149 => ?_)
          ·
            intro uJ149 H locs ls hg hB149 hY149 hP hD hS hl
            refine lv_aload_n hx hb dX12_beside_149 rfl (lv_at hl 0 rfl) ?_
            refine lv_iconst (v := 2) hx hb dX12_beside_150 (by decide) ?_
            refine lv_iload_n hx hb dX12_beside_151 rfl (lv_at hl 1 rfl) ?_
            refine lv_iload_n hx hb dX12_beside_152 rfl (lv_at hl 2 rfl) ?_
            have hg8 := hg
            have hFc := fr_all hD hS hA
            refine va_callv (va_runV (As := [.int 2, .int p0, .int p1]) (rest := []) ⟨hx, hb, hml, hown, hts⟩ (m_wrongs l dC dI h0 v cI cZ uJ149 2 p0 p1 H.size) (cwV 3 hts gX12_beside_X12_wrongs rfl rfl rfl (by decide +kernel) ⟨Nat.le_of_ble_eq_true rfl, Nat.le_of_ble_eq_true rfl⟩) ⟨gw_fb, va_recv hK hP (ci := 11) (q0 := 0) rfl rfl, fun U hU hW => ⟨rfl, by rw [hU], pw_to hU hW hP hK hN, hD.weaken (fun _ _ _ _ => trivial)⟩⟩ rfl rfl hl.1 rfl (lv_room (Nat.le_of_ble_eq_true rfl)) dX12_beside_153 ⟨Nat.le_of_ble_eq_true rfl, Nat.le_of_ble_eq_true rfl⟩) hS (fun q _ h => hFc q h) hFc (fun u_10 t H1 locs ht hvm hw hB hz1 hk1 hS => ?_)
            obtain ⟨hP, hD1⟩ := hB
            rw [ht] at hP
            have hD := hD1.weaken (fun _ q _ h => hFc q.1 h)
            generalize H1 = H at hP hS ⊢
            have hg := mE_wr hg hw
            have hwr := hw
            exact kJ156 _ _ _ ls hg (bst_add hB149 hwr (by decide) (fun t => ⟨fun h => h.2, fun h => ⟨hY149, h⟩⟩)) hP hD hS (lv_sub hl [0, 1, 2, 3] rfl)
          ·
            refine w_cut (X := fun R cells slots Q args => ∀ (uJ111 : mS) (H : Heap) (locs : List Loc) (ls : Array Slot), mE u uJ111 → bst u uJ111 (fun t => False ∨ bT1 u p0 p1 t) → ¬ bCa u p0 p1 → va_P (dC, dI) vwCl (mW h0 v cI cZ uJ111) H → va_D A (mW h0 v cI cZ uJ111) → va_S A s.heap H locs → lv_has ls 4 [(0, .ref h0), (1, .int p0), (2, .int p1), (3, .int p2)] → W p l e R s m args below meth c H locs cells slots Q (F0 m 111 ls [])) ?_ (fun kJ111 => ?_)
            ·
              intro uJ111 H locs ls hg hB111 hN111 hP hD hS hl
              refine lv_aload_n hx hb dX12_beside_111 rfl (lv_at hl 0 rfl) ?_
              refine va_get (D := (dC, dI)) (ci := 11) (v := .ref (v 4)) (C := RX12) (T := TX12) (N := 52) hx hb hts (by decide +kernel) hown hK hP 0 rfl rfl 4 (by decide) (hts (.fieldLink RX12 19 "PageOneModel" "kind" "[I") (by decide +kernel)) (fun _ h9 => h9) rfl dX12_beside_112 ?_
              refine lv_iload_n hx hb dX12_beside_115 rfl (lv_at hl 2 rfl) ?_
              refine va_iald hx hb hK hP 4 0 rfl rfl (vin hB9 (by decide)) dX12_beside_116 ?_
              refine lv_iconst (v := 3) hx hb dX12_beside_117 (by decide) ?_
              refine lv_icmp_ne (tgt := 156) hx hb dX12_beside_118 (by decide) (fun c_11 => ?_) (fun c_11 => ?_)
              ·
                exact kJ156 _ _ _ ls hg (bst_no hB111 (fun t q => q.1.elim hN111 (fun h => by unfold bCa at h; rw [← hg.1] at h; first | exact c_11 h.1 | exact h.1 c_11))) hP hD hS (lv_sub hl [0, 1, 2, 3] rfl)
              ·
                refine lv_aload_n hx hb dX12_beside_121 rfl (lv_at hl 0 rfl) ?_
                refine va_get (D := (dC, dI)) (ci := 11) (v := .ref (v 4)) (C := RX12) (T := TX12) (N := 52) hx hb hts (by decide +kernel) hown hK hP 0 rfl rfl 4 (by decide) (hts (.fieldLink RX12 19 "PageOneModel" "kind" "[I") (by decide +kernel)) (fun _ h9 => h9) rfl dX12_beside_122 ?_
                refine lv_iload_n hx hb dX12_beside_125 rfl (lv_at hl 1 rfl) ?_
                refine va_iald hx hb hK hP 4 0 rfl rfl (vin hA9 (by decide)) dX12_beside_126 ?_
                refine lv_if_ne (tgt := 156) hx hb dX12_beside_127 (by decide) (fun c_12 => ?_) (fun c_12 => ?_)
                ·
                  exact kJ156 _ _ _ ls hg (bst_no hB111 (fun t q => q.1.elim hN111 (fun h => by unfold bCa at h; rw [← hg.1] at h; first | exact c_12 h.2.1 | exact h.2.1 c_12))) hP hD hS (lv_sub hl [0, 1, 2, 3] rfl)
                ·
                  refine lv_aload_n hx hb dX12_beside_130 rfl (lv_at hl 0 rfl) ?_
                  refine va_get (D := (dC, dI)) (ci := 11) (v := .ref (v 21)) (C := RX12) (T := TX12) (N := 52) hx hb hts (by decide +kernel) hown hK hP 0 rfl rfl 21 (by decide) (hts (.fieldLink RX12 71 "PageOneModel" "isNamed" "[Z") (by decide +kernel)) (fun _ h9 => h9) rfl dX12_beside_131 ?_
                  refine lv_bipush (v := 10) hx hb dX12_beside_134 (by decide) ?_
                  refine lv_iload_n hx hb dX12_beside_136 rfl (lv_at hl 1 rfl) ?_
                  refine lv_imul hx hb dX12_beside_137 ?_
                  refine lv_aload_n hx hb dX12_beside_138 rfl (lv_at hl 0 rfl) ?_
                  refine va_get (D := (dC, dI)) (ci := 11) (v := .ref (v 10)) (C := RX12) (T := TX12) (N := 52) hx hb hts (by decide +kernel) hown hK hP 0 rfl rfl 10 (by decide) (hts (.fieldLink RX12 37 "PageOneModel" "buyer" "[I") (by decide +kernel)) (fun _ h9 => h9) rfl dX12_beside_139 ?_
                  refine lv_iload_n hx hb dX12_beside_142 rfl (lv_at hl 2 rfl) ?_
                  refine va_iald hx hb hK hP 10 0 rfl rfl (vin hB9 (by decide)) dX12_beside_143 ?_
                  refine lv_iadd hx hb dX12_beside_144 ?_
                  refine va_zald hx hb hK hP 21 1 rfl rfl (vNm hA9 (mE_b hg hk hB9 c_11)) dX12_beside_145 ?_
                  refine lv_if_eq (tgt := 156) hx hb dX12_beside_146 (by decide) (fun c_13 => ?_) (fun c_13 => ?_)
                  ·
                    exact kJ156 _ _ _ ls hg (bst_no hB111 (fun t q => q.1.elim hN111 (fun h => by unfold bCa at h; rw [← hg.1] at h; first | exact c_13 h.2.2 | exact h.2.2 c_13))) hP hD hS (lv_sub hl [0, 1, 2, 3] rfl)
                  ·
                    exact kJ149 _ _ _ ls hg hB111 (Or.inr (by unfold bCa; rw [← hg.1]; exact ⟨c_11, c_12, c_13⟩)) hP hD hS (lv_sub hl [0, 1, 2, 3] rfl)
            ·
              refine w_cut (X := fun R cells slots Q args => ∀ (uJ73 : mS) (H : Heap) (locs : List Loc) (ls : Array Slot), mE u uJ73 → bst u uJ73 (fun t => False ∨ bT1 u p0 p1 t) → va_P (dC, dI) vwCl (mW h0 v cI cZ uJ73) H → va_D A (mW h0 v cI cZ uJ73) → va_S A s.heap H locs → lv_has ls 4 [(0, .ref h0), (1, .int p0), (2, .int p1), (3, .int p2)] → W p l e R s m args below meth c H locs cells slots Q (F0 m 73 ls [])) ?_ (fun kJ73 => ?_)
              ·
                intro uJ73 H locs ls hg hB73 hP hD hS hl
                refine lv_aload_n hx hb dX12_beside_73 rfl (lv_at hl 0 rfl) ?_
                refine va_get (D := (dC, dI)) (ci := 11) (v := .ref (v 4)) (C := RX12) (T := TX12) (N := 52) hx hb hts (by decide +kernel) hown hK hP 0 rfl rfl 4 (by decide) (hts (.fieldLink RX12 19 "PageOneModel" "kind" "[I") (by decide +kernel)) (fun _ h9 => h9) rfl dX12_beside_74 ?_
                refine lv_iload_n hx hb dX12_beside_77 rfl (lv_at hl 1 rfl) ?_
                refine va_iald hx hb hK hP 4 0 rfl rfl (vin hA9 (by decide)) dX12_beside_78 ?_
                refine lv_iconst (v := 3) hx hb dX12_beside_79 (by decide) ?_
                refine lv_icmp_ne (tgt := 111) hx hb dX12_beside_80 (by decide) (fun c_14 => ?_) (fun c_14 => ?_)
                ·
                  exact kJ111 _ _ _ ls hg hB73 (fun h => by unfold bCa at h; rw [← hg.1] at h; first | exact c_14 h.1 | exact h.1 c_14) hP hD hS (lv_sub hl [0, 1, 2, 3] rfl)
                ·
                  refine lv_aload_n hx hb dX12_beside_83 rfl (lv_at hl 0 rfl) ?_
                  refine va_get (D := (dC, dI)) (ci := 11) (v := .ref (v 4)) (C := RX12) (T := TX12) (N := 52) hx hb hts (by decide +kernel) hown hK hP 0 rfl rfl 4 (by decide) (hts (.fieldLink RX12 19 "PageOneModel" "kind" "[I") (by decide +kernel)) (fun _ h9 => h9) rfl dX12_beside_84 ?_
                  refine lv_iload_n hx hb dX12_beside_87 rfl (lv_at hl 2 rfl) ?_
                  refine va_iald hx hb hK hP 4 0 rfl rfl (vin hB9 (by decide)) dX12_beside_88 ?_
                  refine lv_if_ne (tgt := 111) hx hb dX12_beside_89 (by decide) (fun c_15 => ?_) (fun c_15 => ?_)
                  ·
                    exact kJ111 _ _ _ ls hg hB73 (fun h => by unfold bCa at h; rw [← hg.1] at h; first | exact c_15 h.2.1 | exact h.2.1 c_15) hP hD hS (lv_sub hl [0, 1, 2, 3] rfl)
                  ·
                    refine lv_aload_n hx hb dX12_beside_92 rfl (lv_at hl 0 rfl) ?_
                    refine va_get (D := (dC, dI)) (ci := 11) (v := .ref (v 21)) (C := RX12) (T := TX12) (N := 52) hx hb hts (by decide +kernel) hown hK hP 0 rfl rfl 21 (by decide) (hts (.fieldLink RX12 71 "PageOneModel" "isNamed" "[Z") (by decide +kernel)) (fun _ h9 => h9) rfl dX12_beside_93 ?_
                    refine lv_bipush (v := 10) hx hb dX12_beside_96 (by decide) ?_
                    refine lv_iload_n hx hb dX12_beside_98 rfl (lv_at hl 2 rfl) ?_
                    refine lv_imul hx hb dX12_beside_99 ?_
                    refine lv_aload_n hx hb dX12_beside_100 rfl (lv_at hl 0 rfl) ?_
                    refine va_get (D := (dC, dI)) (ci := 11) (v := .ref (v 10)) (C := RX12) (T := TX12) (N := 52) hx hb hts (by decide +kernel) hown hK hP 0 rfl rfl 10 (by decide) (hts (.fieldLink RX12 37 "PageOneModel" "buyer" "[I") (by decide +kernel)) (fun _ h9 => h9) rfl dX12_beside_101 ?_
                    refine lv_iload_n hx hb dX12_beside_104 rfl (lv_at hl 1 rfl) ?_
                    refine va_iald hx hb hK hP 10 0 rfl rfl (vin hA9 (by decide)) dX12_beside_105 ?_
                    refine lv_iadd hx hb dX12_beside_106 ?_
                    refine va_zald hx hb hK hP 21 1 rfl rfl (vNm hB9 (mE_b hg hk hA9 c_14)) dX12_beside_107 ?_
                    refine lv_if_ne (tgt := 149) hx hb dX12_beside_108 (by decide) (fun c_16 => ?_) (fun c_16 => ?_)
                    ·
                      exact kJ149 _ _ _ ls hg hB73 (Or.inl (by unfold bCa; rw [← hg.1]; exact ⟨c_14, c_15, c_16⟩)) hP hD hS (lv_sub hl [0, 1, 2, 3] rfl)
                    ·
                      exact kJ111 _ _ _ ls hg hB73 (fun h => by unfold bCa at h; rw [← hg.1] at h; first | exact c_16 h.2.2 | exact h.2.2 c_16) hP hD hS (lv_sub hl [0, 1, 2, 3] rfl)
              ·
                refine lv_aload_n hx hb dX12_beside_22 rfl (lv_at hl 0 rfl) ?_
                refine va_get (D := (dC, dI)) (ci := 11) (v := .ref (v 4)) (C := RX12) (T := TX12) (N := 52) hx hb hts (by decide +kernel) hown hK hP 0 rfl rfl 4 (by decide) (hts (.fieldLink RX12 19 "PageOneModel" "kind" "[I") (by decide +kernel)) (fun _ h9 => h9) rfl dX12_beside_23 ?_
                refine lv_iload_n hx hb dX12_beside_26 rfl (lv_at hl 1 rfl) ?_
                refine va_iald hx hb hK hP 4 0 rfl rfl (vin hA9 (by decide)) dX12_beside_27 ?_
                refine lv_iconst (v := 3) hx hb dX12_beside_28 (by decide) ?_
                refine lv_icmp_ne (tgt := 73) hx hb dX12_beside_29 (by decide) (fun c_17 => ?_) (fun c_17 => ?_)
                ·
                  exact kJ73 _ _ _ ls hg (bst_no (bst_0 u) (fun t q => (fun h => by unfold bC1 at h; rw [← hg.1] at h; first | exact c_17 h.1 | exact h.1 c_17) q.1)) hP hD hS (lv_sub hl [0, 1, 2, 3] rfl)
                ·
                  refine lv_aload_n hx hb dX12_beside_32 rfl (lv_at hl 0 rfl) ?_
                  refine va_get (D := (dC, dI)) (ci := 11) (v := .ref (v 4)) (C := RX12) (T := TX12) (N := 52) hx hb hts (by decide +kernel) hown hK hP 0 rfl rfl 4 (by decide) (hts (.fieldLink RX12 19 "PageOneModel" "kind" "[I") (by decide +kernel)) (fun _ h9 => h9) rfl dX12_beside_33 ?_
                  refine lv_iload_n hx hb dX12_beside_36 rfl (lv_at hl 2 rfl) ?_
                  refine va_iald hx hb hK hP 4 0 rfl rfl (vin hB9 (by decide)) dX12_beside_37 ?_
                  refine lv_iconst (v := 3) hx hb dX12_beside_38 (by decide) ?_
                  refine lv_icmp_ne (tgt := 73) hx hb dX12_beside_39 (by decide) (fun c_18 => ?_) (fun c_18 => ?_)
                  ·
                    exact kJ73 _ _ _ ls hg (bst_no (bst_0 u) (fun t q => (fun h => by unfold bC1 at h; rw [← hg.1] at h; first | exact c_18 h.2.1 | exact h.2.1 c_18) q.1)) hP hD hS (lv_sub hl [0, 1, 2, 3] rfl)
                  ·
                    refine lv_aload_n hx hb dX12_beside_42 rfl (lv_at hl 0 rfl) ?_
                    refine va_get (D := (dC, dI)) (ci := 11) (v := .ref (v 20)) (C := RX12) (T := TX12) (N := 52) hx hb hts (by decide +kernel) hown hK hP 0 rfl rfl 20 (by decide) (hts (.fieldLink RX12 67 "PageOneModel" "isRival" "[Z") (by decide +kernel)) (fun _ h9 => h9) rfl dX12_beside_43 ?_
                    refine lv_bipush (v := 10) hx hb dX12_beside_46 (by decide) ?_
                    refine lv_aload_n hx hb dX12_beside_48 rfl (lv_at hl 0 rfl) ?_
                    refine va_get (D := (dC, dI)) (ci := 11) (v := .ref (v 10)) (C := RX12) (T := TX12) (N := 52) hx hb hts (by decide +kernel) hown hK hP 0 rfl rfl 10 (by decide) (hts (.fieldLink RX12 37 "PageOneModel" "buyer" "[I") (by decide +kernel)) (fun _ h9 => h9) rfl dX12_beside_49 ?_
                    refine lv_iload_n hx hb dX12_beside_52 rfl (lv_at hl 1 rfl) ?_
                    refine va_iald hx hb hK hP 10 0 rfl rfl (vin hA9 (by decide)) dX12_beside_53 ?_
                    refine lv_imul hx hb dX12_beside_54 ?_
                    refine lv_aload_n hx hb dX12_beside_55 rfl (lv_at hl 0 rfl) ?_
                    refine va_get (D := (dC, dI)) (ci := 11) (v := .ref (v 10)) (C := RX12) (T := TX12) (N := 52) hx hb hts (by decide +kernel) hown hK hP 0 rfl rfl 10 (by decide) (hts (.fieldLink RX12 37 "PageOneModel" "buyer" "[I") (by decide +kernel)) (fun _ h9 => h9) rfl dX12_beside_56 ?_
                    refine lv_iload_n hx hb dX12_beside_59 rfl (lv_at hl 2 rfl) ?_
                    refine va_iald hx hb hK hP 10 0 rfl rfl (vin hB9 (by decide)) dX12_beside_60 ?_
                    refine lv_iadd hx hb dX12_beside_61 ?_
                    refine va_zald hx hb hK hP 20 1 rfl rfl (vin10 (mE_b hg hk hA9 c_17) (mE_b hg hk hB9 c_18)) dX12_beside_62 ?_
                    refine lv_if_eq (tgt := 73) hx hb dX12_beside_63 (by decide) (fun c_19 => ?_) (fun c_19 => ?_)
                    ·
                      exact kJ73 _ _ _ ls hg (bst_no (bst_0 u) (fun t q => (fun h => by unfold bC1 at h; rw [← hg.1] at h; first | exact c_19 h.2.2 | exact h.2.2 c_19) q.1)) hP hD hS (lv_sub hl [0, 1, 2, 3] rfl)
                    ·
                      refine lv_aload_n hx hb dX12_beside_66 rfl (lv_at hl 0 rfl) ?_
                      refine lv_iconst (v := 1) hx hb dX12_beside_67 (by decide) ?_
                      refine lv_iload_n hx hb dX12_beside_68 rfl (lv_at hl 1 rfl) ?_
                      refine lv_iload_n hx hb dX12_beside_69 rfl (lv_at hl 2 rfl) ?_
                      have hg8 := hg
                      have hFc := fr_all hD hS hA
                      refine va_callv (va_runV (As := [.int 1, .int p0, .int p1]) (rest := []) ⟨hx, hb, hml, hown, hts⟩ (m_wrongs l dC dI h0 v cI cZ u 1 p0 p1 s.heap.size) (cwV 3 hts gX12_beside_X12_wrongs rfl rfl rfl (by decide +kernel) ⟨Nat.le_of_ble_eq_true rfl, Nat.le_of_ble_eq_true rfl⟩) ⟨gw_fb, va_recv hK hP (ci := 11) (q0 := 0) rfl rfl, fun U hU hW => ⟨rfl, by rw [hU], pw_to hU hW hP hK hN, hD.weaken (fun _ _ _ _ => trivial)⟩⟩ rfl rfl hl.1 rfl (lv_room (Nat.le_of_ble_eq_true rfl)) dX12_beside_70 ⟨Nat.le_of_ble_eq_true rfl, Nat.le_of_ble_eq_true rfl⟩) hS (fun q _ h => hFc q h) hFc (fun u_20 t H1 locs ht hvm hw hB hz1 hk1 hS => ?_)
                      obtain ⟨hP, hD1⟩ := hB
                      rw [ht] at hP
                      have hD := hD1.weaken (fun _ q _ h => hFc q.1 h)
                      generalize H1 = H at hP hS ⊢
                      have hg := mE_wr hg hw
                      have hwr := hw
                      exact kJ73 _ _ _ ls hg (bst_add (bst_0 u) hwr (by decide) (fun t => ⟨fun h => h.2, fun h => ⟨(by unfold bC1; rw [← hg8.1]; exact ⟨c_17, c_18, c_19⟩), h⟩⟩)) hP hD hS (lv_sub hl [0, 1, 2, 3] rfl)
      ·
        exact W.vret hx hb hr (fun t ht hW => ⟨⟨u, rfl, ⟨mE_rf u, bst_n (fun h => h.2.2 c_5)⟩, by rw [ht]; exact hP, hD⟩, hS.F ht⟩) hS.2.2 dX12_beside_21
    ·
      obtain rfl : r = 0 := b_f hw b_3
      refine lv_if_eq (tgt := 21) hx hb dX12_beside_13 (by decide) (fun c_21 => ?_) (fun c_21 => absurd (by decide) c_21)
      exact W.vret hx hb hr (fun t ht hW => ⟨⟨u, rfl, ⟨mE_rf u, bst_n (fun h => bne b_3 h.2.1)⟩, by rw [ht]; exact hP, hD⟩, hS.F ht⟩) hS.2.2 dX12_beside_21
  ·
    obtain rfl : r = 0 := b_f hw b_1
    refine lv_if_eq (tgt := 21) hx hb dX12_beside_5 (by decide) (fun c_22 => ?_) (fun c_22 => absurd (by decide) c_22)
    exact W.vret hx hb hr (fun t ht hW => ⟨⟨u, rfl, ⟨mE_rf u, bst_n (fun h => bne b_1 h.1)⟩, by rw [ht]; exact hP, hD⟩, hS.F ht⟩) hS.2.2 dX12_beside_21
/-- what cell (c, l) of page p and its neighbours below and beside break -/
def vTa (u : mS) (p : Int32) (c l : Nat) (t : tr3) : Prop := mCell u p (nI c) (nI l + 1) = true ∧ bsT u (u.2 2 (480 * p + 60 * nI c + nI l).toNatClampNeg) (u.2 2 (480 * p + 60 * nI c + (nI l + 1)).toNatClampNeg) 0 t
def vTb (u : mS) (p : Int32) (c l : Nat) (t : tr3) : Prop := mCell u p (nI c + 1) (nI l) = true ∧ bsT u (u.2 2 (480 * p + 60 * nI c + nI l).toNatClampNeg) (u.2 2 (480 * p + 60 * (nI c + 1) + nI l).toNatClampNeg) 1 t
def lnN (u : mS) (p : Int32) (c : Nat) : Nat := (u.2 0 (8 * p + nI c).toNatClampNeg).toNatClampNeg
/-- the cells before (c, l) -/
def vTS (u : mS) (p : Int32) (c l : Nat) (t : tr3) : Prop := ∃ c' l', c' < 8 ∧ l' < lnN u p c' ∧ (c' < c ∨ (c' = c ∧ l' < l)) ∧ (vTa u p c' l' t ∨ vTb u p c' l' t)
theorem vTS_n {u : mS} {p : Int32} {c l : Nat} (hc : c < 8) (hl : l < lnN u p c) (t : tr3) : (vTS u p c l t ∨ vTa u p c l t ∨ vTb u p c l t) ↔ vTS u p c (l + 1) t := by
  constructor
  · rintro (⟨c', l', a1, a2, a3, a4⟩ | h)
    · exact ⟨c', l', a1, a2, by omega, a4⟩
    · exact ⟨c, l, hc, hl, Or.inr ⟨rfl, Nat.lt_succ_self _⟩, h⟩
  · rintro ⟨c', l', a1, a2, a3, a4⟩
    by_cases e : c' = c ∧ l' = l
    · rw [e.1, e.2] at a4; exact Or.inr a4
    · exact Or.inl ⟨c', l', a1, a2, by omega, a4⟩
theorem vTS_c {u : mS} {p : Int32} {c : Nat} (t : tr3) : vTS u p c (lnN u p c) t ↔ vTS u p (c + 1) 0 t := by
  constructor
  · rintro ⟨c', l', a1, a2, a3, a4⟩
    exact ⟨c', l', a1, a2, by omega, a4⟩
  · rintro ⟨c', l', a1, a2, a3, a4⟩
    refine ⟨c', l', a1, a2, ?_, a4⟩
    by_cases e : c' = c
    · exact Or.inr ⟨e, by rw [← e]; exact a2⟩
    · exact Or.inl (by omega)
theorem vTS_0 {u : mS} {p : Int32} (t : tr3) : ¬ vTS u p 0 0 t := by
  rintro ⟨c', l', a1, a2, a3, a4⟩
  omega
theorem bsT_E {u w : mS} (h : mE u w) (a b ac : Int32) (t : tr3) : bsT w a b ac t ↔ bsT u a b ac t := by
  unfold bsT bT1 bT2 bT3 bC1 bCa bC3
  rw [h.1]
theorem bst_E {u w w2 : mS} (h : mE u w) {a b ac : Int32} (h2 : bst w w2 (bsT w a b ac)) : bst w w2 (bsT u a b ac) := bst_c h2 (bsT_E h a b ac)
theorem best_bst {u w : mS} {S T S2 : tr3 → Prop} (h : best S (wr3 u)) (h2 : bst u w T) (e : ∀ t, (S t ∨ T t) ↔ S2 t) : best S2 (wr3 w) := best_c (h2 S h) e
/-- is item j on page p -/
def ptC (u : mS) (p0 : Int32) (j9 t : Nat) : Prop := u.2 23 (6 * nI j9 + nI t).toNatClampNeg = p0
def thP (u : mS) (p0 : Int32) (j9 n : Nat) : Prop := ∃ t, t < n ∧ ptC u p0 j9 t
theorem thP_1 {u : mS} {p0 : Int32} {j9 i : Nat} (h : ptC u p0 j9 i) : (1 : Int32) = bP (thP u p0 j9 (i + 1)) := (bP_t ⟨i, Nat.lt_succ_self _, h⟩).symm
theorem thP_o {u : mS} {p0 a : Int32} {j9 i : Nat} (hg : a = bP (thP u p0 j9 i)) (h : ¬ a = 0) : (1 : Int32) = bP (thP u p0 j9 (i + 1)) := by
  have h2 : thP u p0 j9 i := Classical.byContradiction (fun q => h (by rw [hg, bP_f q]))
  obtain ⟨t, h3, h4⟩ := h2
  exact (bP_t ⟨t, by omega, h4⟩).symm
theorem thP_z {u : mS} {p0 a : Int32} {j9 i : Nat} (hg : a = bP (thP u p0 j9 i)) (h9 : a = 0) (h2 : ¬ ptC u p0 j9 i) : (0 : Int32) = bP (thP u p0 j9 (i + 1)) := by
  refine (bP_f ?_).symm
  rintro ⟨t, h3, h4⟩
  by_cases e : t = i
  · rw [e] at h4; exact h2 h4
  · have h5 : thP u p0 j9 i := ⟨t, by omega, h4⟩
    rw [h9, bP_t h5] at hg; exact absurd hg (by decide)
set_option maxHeartbeats 4000000 in
set_option maxRecDepth 100000 in
theorem n_br_in {p : Program} {l : Launch} {e : Env} {R : Room} {s : State} {m : MethodId} {args : Array Value} {below : List Frame} {meth : Method} {c : Code} {Q : State → Prop} {cells slots : Nat} {dC : Nat → ClassId} {dI : Nat → Nat → Nat} {h0 : Nat} {v : Nat → Nat} {cI cZ : ClassId} {u0 : mS} {p0 : Int32} (hp : bw p0 0 11 = true) (hln0 : ∀ j, j < 96 → bw (u0.2 0 j) 0 60 = true) (hcl0 : ∀ j, j < 5760 → mThing (u0.2 2 j) = true → bw (u0.2 2 j) 0 79 = true) (hk0 : ∀ j, j < 80 → u0.2 4 j = 3 → bw (u0.2 10 j) 0 9 = true) {c9 K : Nat} (hc8 : c9 < 8) (eK : u0.2 0 (8 * p0 + nI c9).toNatClampNeg = nI K) (hK6 : K ≤ 60) {A : Nat → Prop} {H0 : Heap} (hx : p.tables.exec = Jvm.exec) (hb : c.code = cX12_breaks) (hml : c.maxLocals = 5) (hts : ∀ w ∈ wsX12_breaks, w.before args s = true) (hown : s.vm.findClass RX12 = some m.cls) (hN : NN s) (hK : va_K (dC, dI) vwCl [(cI, .int), (cZ, .boolean)] s) (hRf : 3 ≤ R.frames) (hRl : 65 ≤ R.locals) (hRc : cells ≤ R.cells) (hRs : slots ≤ R.slots) (hA : ∀ q : Nat, H0.size ≤ q → A q) (kx : ∀ (u : mS) (H : Heap) (locs : List Loc) (ls : Array Slot), (mE u0 u ∧ best (vTS u0 p0 c9 K) (wr3 u)) → va_P (dC, dI) vwCl (mW h0 v cI cZ u) H → va_D A (mW h0 v cI cZ u) → va_S A H0 H locs → lv_has ls 5 [(3, .int (nI K)), (2, .int (nI c9)), (0, .ref h0), (1, .int p0)] → W p l e R s m args below meth c H locs cells slots Q (F0 m 123 ls [])) : ∀ (k i : Nat) (u : mS) (H : Heap) (locs : List Loc) (ls : Array Slot), i ≤ K → K - i < k → (mE u0 u ∧ best (vTS u0 p0 c9 i) (wr3 u)) → va_P (dC, dI) vwCl (mW h0 v cI cZ u) H → va_D A (mW h0 v cI cZ u) → va_S A H0 H locs → lv_has ls 5 [(3, .int (nI i)), (2, .int (nI c9)), (0, .ref h0), (1, .int p0)] → W p l e R s m args below meth c H locs cells slots Q (F0 m 25 ls []) := by
  intro k
  induction k with
  | zero => intro i u H locs ls h1 h2; exact absurd h2 (Nat.not_lt_zero _)
  | succ k ih =>
    intro i u H locs ls hi hk hg hP hD hS hl
    refine lv_iload_n hx hb dX12_breaks_25 rfl (lv_at hl 0 rfl) ?_
    refine lv_aload_n hx hb dX12_breaks_26 rfl (lv_at hl 2 rfl) ?_
    refine va_get (D := (dC, dI)) (ci := 11) (v := .ref (v 0)) (C := RX12) (T := TX12) (N := 52) hx hb hts (by decide +kernel) hown hK hP 0 rfl rfl 0 (by decide) (hts (.fieldLink RX12 7 "PageOneModel" "lines" "[I") (by decide +kernel)) (fun _ h9 => h9) rfl dX12_breaks_27 ?_
    refine lv_bipush (v := 8) hx hb dX12_breaks_30 (by decide) ?_
    refine lv_iload_n hx hb dX12_breaks_32 rfl (lv_at hl 3 rfl) ?_
    refine lv_imul hx hb dX12_breaks_33 ?_
    refine lv_iload_n hx hb dX12_breaks_34 rfl (lv_at hl 1 rfl) ?_
    refine lv_iadd hx hb dX12_breaks_35 ?_
    refine va_iald hx hb hK hP 1 0 rfl rfl (vin8 hp (bw7 hc8)) dX12_breaks_36 ?_
    refine lv_topi (fun y_1 ey_1 => ?_)
    obtain rfl : y_1 = (nI K) := ey_1.trans ((by rw [hg.1.1]; exact eK))
    refine lv_icmp_ge (tgt := 123) hx hb dX12_breaks_37 (by decide) (fun c_2 => ?_) (fun c_2 => ?_)
    ·
      have hie : i = K := lp_eq rfl (by omega) hi c_2
      rw [hie] at hg hl
      exact kx _ _ _ ls hg hP hD hS (lv_sub hl [0, 1, 2, 3] rfl)
    ·
      have hlt : i < K := lp_lt rfl (by omega) hi c_2
      have hg0 := hg
      have hb0 := hg.2
      have hg := hg.1
      have hlnu : ∀ j, j < 96 → bw (u.2 0 j) 0 60 = true := fun j hj => by rw [hg.1]; exact hln0 j hj
      have hlK : i < lnN u0 p0 c9 := by unfold lnN; rw [eK, nI_clamp (by omega)]; exact hlt
      refine lv_aload_n hx hb dX12_breaks_40 rfl (lv_at hl 2 rfl) ?_
      refine va_get (D := (dC, dI)) (ci := 11) (v := .ref (v 2)) (C := RX12) (T := TX12) (N := 52) hx hb hts (by decide +kernel) hown hK hP 0 rfl rfl 2 (by decide) (hts (.fieldLink RX12 16 "PageOneModel" "cell" "[I") (by decide +kernel)) (fun _ h9 => h9) rfl dX12_breaks_41 ?_
      refine lv_iload_n hx hb dX12_breaks_44 rfl (lv_at hl 3 rfl) ?_
      refine lv_iload_n hx hb dX12_breaks_45 rfl (lv_at hl 1 rfl) ?_
      refine lv_iload_n hx hb dX12_breaks_46 rfl (lv_at hl 0 rfl) ?_
      refine vp_callSi (va_runS (As := [.int p0, .int (nI c9), .int (nI i)]) (rest := [.ref (v 2)]) ⟨hx, hb, hml, hown, hts⟩ (m_at l dC dI p0 (nI c9) (nI i)) (va_cwS 3 hts gX12_breaks_X12_at rfl rfl rfl (by decide +kernel) ⟨Nat.le_trans (Nat.le_of_ble_eq_true rfl) hRf, Nat.le_trans (Nat.le_of_ble_eq_true rfl) hRl⟩) ⟨pw_fb, fun U hU hW => ⟨rfl, pw_to hU hW (hP.sub (ws' := []) [] rfl) (hK.sub (tys' := []) [] rfl) hN⟩⟩ rfl rfl hl.1 rfl (lv_room (Nat.le_of_ble_eq_true rfl)) dX12_breaks_47 ⟨hRc, hRs⟩).run (fun r hw => ?_)
      obtain rfl : r = (480 * p0 + 60 * (nI c9) + (nI i)) := hw
      refine va_iald hx hb hK hP 3 0 rfl rfl (vinC hp (bw7 hc8) (by omega)) dX12_breaks_50 ?_
      refine lv_topi (fun x_3 ex_3 => ?_)
      refine lv_istore (lv' := [(4, .int x_3), (3, .int (nI i)), (2, .int (nI c9)), (0, .ref h0), (1, .int p0)]) hx hb dX12_breaks_51 hl (by decide) rfl (fun ls hl => ?_)
      refine lv_aload_n hx hb dX12_breaks_53 rfl (lv_at hl 3 rfl) ?_
      refine lv_iload_n hx hb dX12_breaks_54 rfl (lv_at hl 4 rfl) ?_
      refine lv_iload_n hx hb dX12_breaks_55 rfl (lv_at hl 2 rfl) ?_
      refine lv_iload_n hx hb dX12_breaks_56 rfl (lv_at hl 1 rfl) ?_
      refine lv_iconst (v := 1) hx hb dX12_breaks_57 (by decide) ?_
      refine lv_iadd hx hb dX12_breaks_58 ?_
      refine vp_callSi (va_runV (As := [.int p0, .int (nI c9), .int ((nI i) + 1)]) (rest := []) ⟨hx, hb, hml, hown, hts⟩ (m_isCell l dC dI h0 v cI cZ u p0 (nI c9) ((nI i) + 1)) (cwV 3 hts gX12_breaks_X12_isCell rfl rfl rfl (by decide +kernel) ⟨Nat.le_trans (Nat.le_of_ble_eq_true rfl) hRf, Nat.le_trans (Nat.le_of_ble_eq_true rfl) hRl⟩) ⟨pw_fb, va_recv hK hP (ci := 11) (q0 := 0) rfl rfl, fun U hU hW => ⟨rfl, pw_to hU hW hP hK hN⟩⟩ rfl rfl hl.1 rfl (lv_room (Nat.le_of_ble_eq_true rfl)) dX12_breaks_59 ⟨hRc, hRs⟩).run (fun r hw => ?_)
      rcases Bool.eq_false_or_eq_true (mCell u p0 (nI c9) ((nI i) + 1)) with b_4 | b_4
      ·
        obtain rfl : r = 1 := b_t hw b_4
        refine lv_if_eq (tgt := 85) hx hb dX12_breaks_62 (by decide) (fun c_5 => absurd c_5 (by decide)) (fun c_5 => ?_)
        refine lv_aload_n hx hb dX12_breaks_65 rfl (lv_at hl 3 rfl) ?_
        refine lv_iload hx hb dX12_breaks_66 (lv_at hl 0 rfl) ?_
        refine lv_aload_n hx hb dX12_breaks_68 rfl (lv_at hl 3 rfl) ?_
        refine va_get (D := (dC, dI)) (ci := 11) (v := .ref (v 2)) (C := RX12) (T := TX12) (N := 52) hx hb hts (by decide +kernel) hown hK hP 0 rfl rfl 2 (by decide) (hts (.fieldLink RX12 16 "PageOneModel" "cell" "[I") (by decide +kernel)) (fun _ h9 => h9) rfl dX12_breaks_69 ?_
        refine lv_iload_n hx hb dX12_breaks_72 rfl (lv_at hl 4 rfl) ?_
        refine lv_iload_n hx hb dX12_breaks_73 rfl (lv_at hl 2 rfl) ?_
        refine lv_iload_n hx hb dX12_breaks_74 rfl (lv_at hl 1 rfl) ?_
        refine lv_iconst (v := 1) hx hb dX12_breaks_75 (by decide) ?_
        refine lv_iadd hx hb dX12_breaks_76 ?_
        refine vp_callSi (va_runS (As := [.int p0, .int (nI c9), .int ((nI i) + 1)]) (rest := [.ref (v 2), .int x_3, .ref h0]) ⟨hx, hb, hml, hown, hts⟩ (m_at l dC dI p0 (nI c9) ((nI i) + 1)) (va_cwS 3 hts gX12_breaks_X12_at rfl rfl rfl (by decide +kernel) ⟨Nat.le_trans (Nat.le_of_ble_eq_true rfl) hRf, Nat.le_trans (Nat.le_of_ble_eq_true rfl) hRl⟩) ⟨pw_fb, fun U hU hW => ⟨rfl, pw_to hU hW (hP.sub (ws' := []) [] rfl) (hK.sub (tys' := []) [] rfl) hN⟩⟩ rfl rfl hl.1 rfl (lv_room (Nat.le_of_ble_eq_true rfl)) dX12_breaks_77 ⟨hRc, hRs⟩).run (fun r hw => ?_)
        obtain rfl : r = (480 * p0 + 60 * (nI c9) + ((nI i) + 1)) := hw
        refine va_iald hx hb hK hP 3 0 rfl rfl (vCell hlnu b_4) dX12_breaks_80 ?_
        refine lv_iconst (v := 0) hx hb dX12_breaks_81 (by decide) ?_
        have hFc := fr_all hD hS hA
        refine va_callv (va_runV (As := [.int x_3, .int (u.2 2 ((480 * p0 + 60 * (nI c9) + ((nI i) + 1)) : Int32).toNatClampNeg), .int 0]) (rest := []) ⟨hx, hb, hml, hown, hts⟩ (n_beside l dC dI h0 v cI cZ u x_3 (u.2 2 ((480 * p0 + 60 * (nI c9) + ((nI i) + 1)) : Int32).toNatClampNeg) 0 (fun h => by rw [ex_3, hg0.1.1] at h ⊢; exact hcl0 _ (vlt (vinC hp (bw7 hc8) (by omega))) h) (fun h => by rw [hg.1] at h ⊢; exact hcl0 _ (vlt (vCell hlnu b_4)) h) (fun j hj => by rw [hg.1]; exact hk0 j hj) H.size) (cwV 3 hts gX12_breaks_X12_beside rfl rfl rfl (by decide +kernel) ⟨Nat.le_trans (Nat.le_of_ble_eq_true rfl) hRf, Nat.le_trans (Nat.le_of_ble_eq_true rfl) hRl⟩) ⟨gw_fb, va_recv hK hP (ci := 11) (q0 := 0) rfl rfl, fun U hU hW => ⟨rfl, by rw [hU], pw_to hU hW hP hK hN, hD.weaken (fun _ _ _ _ => trivial)⟩⟩ rfl rfl hl.1 rfl (lv_room (Nat.le_of_ble_eq_true rfl)) dX12_breaks_82 ⟨hRc, hRs⟩) hS (fun q _ h => hFc q h) hFc (fun u_6 t H1 locs ht hvm hw hB hz1 hk1 hS => ?_)
        obtain ⟨hP, hD1⟩ := hB
        rw [ht] at hP
        have hD := hD1.weaken (fun _ q _ h => hFc q.1 h)
        generalize H1 = H at hP hS ⊢
        have hBvTa : bst u u_6 (vTa u0 p0 c9 i) := bst_c (bst_E hg hw.2) (fun t => by unfold vTa; rw [show x_3 = u0.2 2 (480 * p0 + 60 * nI c9 + nI i).toNatClampNeg from by rw [ex_3, hg0.1.1], hg.1]; exact ⟨fun q => ⟨by have z := b_4; unfold mCell at z ⊢; rw [← hg.1]; exact z, q⟩, fun q => q.2⟩)
        have hg := mE_tr hg hw.1
        refine lv_aload_n hx hb dX12_breaks_85 rfl (lv_at hl 3 rfl) ?_
        refine lv_iload_n hx hb dX12_breaks_86 rfl (lv_at hl 4 rfl) ?_
        refine lv_iload_n hx hb dX12_breaks_87 rfl (lv_at hl 2 rfl) ?_
        refine lv_iconst (v := 1) hx hb dX12_breaks_88 (by decide) ?_
        refine lv_iadd hx hb dX12_breaks_89 ?_
        refine lv_iload_n hx hb dX12_breaks_90 rfl (lv_at hl 1 rfl) ?_
        refine vp_callSi (va_runV (As := [.int p0, .int ((nI c9) + 1), .int (nI i)]) (rest := []) ⟨hx, hb, hml, hown, hts⟩ (m_isCell l dC dI h0 v cI cZ u_6 p0 ((nI c9) + 1) (nI i)) (cwV 3 hts gX12_breaks_X12_isCell rfl rfl rfl (by decide +kernel) ⟨Nat.le_trans (Nat.le_of_ble_eq_true rfl) hRf, Nat.le_trans (Nat.le_of_ble_eq_true rfl) hRl⟩) ⟨pw_fb, va_recv hK hP (ci := 11) (q0 := 0) rfl rfl, fun U hU hW => ⟨rfl, pw_to hU hW hP hK hN⟩⟩ rfl rfl hl.1 rfl (lv_room (Nat.le_of_ble_eq_true rfl)) dX12_breaks_91 ⟨hRc, hRs⟩).run (fun r hw => ?_)
        rcases Bool.eq_false_or_eq_true (mCell u_6 p0 ((nI c9) + 1) (nI i)) with b_7 | b_7
        ·
          obtain rfl : r = 1 := b_t hw b_7
          refine lv_if_eq (tgt := 117) hx hb dX12_breaks_94 (by decide) (fun c_8 => absurd c_8 (by decide)) (fun c_8 => ?_)
          refine lv_aload_n hx hb dX12_breaks_97 rfl (lv_at hl 3 rfl) ?_
          refine lv_iload hx hb dX12_breaks_98 (lv_at hl 0 rfl) ?_
          refine lv_aload_n hx hb dX12_breaks_100 rfl (lv_at hl 3 rfl) ?_
          refine va_get (D := (dC, dI)) (ci := 11) (v := .ref (v 2)) (C := RX12) (T := TX12) (N := 52) hx hb hts (by decide +kernel) hown hK hP 0 rfl rfl 2 (by decide) (hts (.fieldLink RX12 16 "PageOneModel" "cell" "[I") (by decide +kernel)) (fun _ h9 => h9) rfl dX12_breaks_101 ?_
          refine lv_iload_n hx hb dX12_breaks_104 rfl (lv_at hl 4 rfl) ?_
          refine lv_iload_n hx hb dX12_breaks_105 rfl (lv_at hl 2 rfl) ?_
          refine lv_iconst (v := 1) hx hb dX12_breaks_106 (by decide) ?_
          refine lv_iadd hx hb dX12_breaks_107 ?_
          refine lv_iload_n hx hb dX12_breaks_108 rfl (lv_at hl 1 rfl) ?_
          refine vp_callSi (va_runS (As := [.int p0, .int ((nI c9) + 1), .int (nI i)]) (rest := [.ref (v 2), .int x_3, .ref h0]) ⟨hx, hb, hml, hown, hts⟩ (m_at l dC dI p0 ((nI c9) + 1) (nI i)) (va_cwS 3 hts gX12_breaks_X12_at rfl rfl rfl (by decide +kernel) ⟨Nat.le_trans (Nat.le_of_ble_eq_true rfl) hRf, Nat.le_trans (Nat.le_of_ble_eq_true rfl) hRl⟩) ⟨pw_fb, fun U hU hW => ⟨rfl, pw_to hU hW (hP.sub (ws' := []) [] rfl) (hK.sub (tys' := []) [] rfl) hN⟩⟩ rfl rfl hl.1 rfl (lv_room (Nat.le_of_ble_eq_true rfl)) dX12_breaks_109 ⟨hRc, hRs⟩).run (fun r hw => ?_)
          obtain rfl : r = (480 * p0 + 60 * ((nI c9) + 1) + (nI i)) := hw
          refine va_iald hx hb hK hP 3 0 rfl rfl (vCell (fun j hj => by rw [hg.1]; exact hln0 j hj) b_7) dX12_breaks_112 ?_
          refine lv_iconst (v := 1) hx hb dX12_breaks_113 (by decide) ?_
          have hFc := fr_all hD hS hA
          refine va_callv (va_runV (As := [.int x_3, .int (u_6.2 2 ((480 * p0 + 60 * ((nI c9) + 1) + (nI i)) : Int32).toNatClampNeg), .int 1]) (rest := []) ⟨hx, hb, hml, hown, hts⟩ (n_beside l dC dI h0 v cI cZ u_6 x_3 (u_6.2 2 ((480 * p0 + 60 * ((nI c9) + 1) + (nI i)) : Int32).toNatClampNeg) 1 (fun h => by rw [ex_3, hg0.1.1] at h ⊢; exact hcl0 _ (vlt (vinC hp (bw7 hc8) (by omega))) h) (fun h => by rw [hg.1] at h ⊢; exact hcl0 _ (vlt (vCell (fun j hj => by rw [hg.1]; exact hln0 j hj) b_7)) h) (fun j hj => by rw [hg.1]; exact hk0 j hj) H.size) (cwV 3 hts gX12_breaks_X12_beside rfl rfl rfl (by decide +kernel) ⟨Nat.le_trans (Nat.le_of_ble_eq_true rfl) hRf, Nat.le_trans (Nat.le_of_ble_eq_true rfl) hRl⟩) ⟨gw_fb, va_recv hK hP (ci := 11) (q0 := 0) rfl rfl, fun U hU hW => ⟨rfl, by rw [hU], pw_to hU hW hP hK hN, hD.weaken (fun _ _ _ _ => trivial)⟩⟩ rfl rfl hl.1 rfl (lv_room (Nat.le_of_ble_eq_true rfl)) dX12_breaks_114 ⟨hRc, hRs⟩) hS (fun q _ h => hFc q h) hFc (fun u_9 t H1 locs ht hvm hw hB hz1 hk1 hS => ?_)
          obtain ⟨hP, hD1⟩ := hB
          rw [ht] at hP
          have hD := hD1.weaken (fun _ q _ h => hFc q.1 h)
          generalize H1 = H at hP hS ⊢
          have hBvTb : bst u_6 u_9 (vTb u0 p0 c9 i) := bst_c (bst_E hg hw.2) (fun t => by unfold vTb; rw [show x_3 = u0.2 2 (480 * p0 + 60 * nI c9 + nI i).toNatClampNeg from by rw [ex_3, hg0.1.1], hg.1]; exact ⟨fun q => ⟨by have z := b_7; unfold mCell at z ⊢; rw [← hg.1]; exact z, q⟩, fun q => q.2⟩)
          have hg := mE_tr hg hw.1
          refine lv_iinc (v := (nI (i + 1))) (lv' := [(3, .int (nI (i + 1))), (4, .int x_3), (2, .int (nI c9)), (0, .ref h0), (1, .int p0)]) hx hb dX12_breaks_117 hl (k := 1) rfl (nI_1 i) (by decide) rfl (fun ls hl => ?_)
          refine lv_goto (tgt := 25) hx hb dX12_breaks_120 (by decide) ?_
          have hb9 := best_bst hb0 (bst_tr hBvTa hBvTb) (vTS_n hc8 hlK)
          exact ih (i + 1) _ _ _ ls (by omega) (by omega) ⟨hg, hb9⟩ hP hD hS (lv_sub hl [0, 2, 3, 4] rfl)
        ·
          obtain rfl : r = 0 := b_f hw b_7
          refine lv_if_eq (tgt := 117) hx hb dX12_breaks_94 (by decide) (fun c_10 => ?_) (fun c_10 => absurd (by decide) c_10)
          refine lv_iinc (v := (nI (i + 1))) (lv' := [(3, .int (nI (i + 1))), (4, .int x_3), (2, .int (nI c9)), (0, .ref h0), (1, .int p0)]) hx hb dX12_breaks_117 hl (k := 1) rfl (nI_1 i) (by decide) rfl (fun ls hl => ?_)
          refine lv_goto (tgt := 25) hx hb dX12_breaks_120 (by decide) ?_
          have hb9 := best_bst hb0 (bst_no hBvTa (fun t q => bne b_7 (by have z := q.1; unfold mCell at z ⊢; rw [hg.1]; exact z))) (vTS_n hc8 hlK)
          exact ih (i + 1) _ _ _ ls (by omega) (by omega) ⟨hg, hb9⟩ hP hD hS (lv_sub hl [0, 2, 3, 4] rfl)
      ·
        obtain rfl : r = 0 := b_f hw b_4
        refine lv_if_eq (tgt := 85) hx hb dX12_breaks_62 (by decide) (fun c_11 => ?_) (fun c_11 => absurd (by decide) c_11)
        refine lv_aload_n hx hb dX12_breaks_85 rfl (lv_at hl 3 rfl) ?_
        refine lv_iload_n hx hb dX12_breaks_86 rfl (lv_at hl 4 rfl) ?_
        refine lv_iload_n hx hb dX12_breaks_87 rfl (lv_at hl 2 rfl) ?_
        refine lv_iconst (v := 1) hx hb dX12_breaks_88 (by decide) ?_
        refine lv_iadd hx hb dX12_breaks_89 ?_
        refine lv_iload_n hx hb dX12_breaks_90 rfl (lv_at hl 1 rfl) ?_
        refine vp_callSi (va_runV (As := [.int p0, .int ((nI c9) + 1), .int (nI i)]) (rest := []) ⟨hx, hb, hml, hown, hts⟩ (m_isCell l dC dI h0 v cI cZ u p0 ((nI c9) + 1) (nI i)) (cwV 3 hts gX12_breaks_X12_isCell rfl rfl rfl (by decide +kernel) ⟨Nat.le_trans (Nat.le_of_ble_eq_true rfl) hRf, Nat.le_trans (Nat.le_of_ble_eq_true rfl) hRl⟩) ⟨pw_fb, va_recv hK hP (ci := 11) (q0 := 0) rfl rfl, fun U hU hW => ⟨rfl, pw_to hU hW hP hK hN⟩⟩ rfl rfl hl.1 rfl (lv_room (Nat.le_of_ble_eq_true rfl)) dX12_breaks_91 ⟨hRc, hRs⟩).run (fun r hw => ?_)
        rcases Bool.eq_false_or_eq_true (mCell u p0 ((nI c9) + 1) (nI i)) with b_12 | b_12
        ·
          obtain rfl : r = 1 := b_t hw b_12
          refine lv_if_eq (tgt := 117) hx hb dX12_breaks_94 (by decide) (fun c_13 => absurd c_13 (by decide)) (fun c_13 => ?_)
          refine lv_aload_n hx hb dX12_breaks_97 rfl (lv_at hl 3 rfl) ?_
          refine lv_iload hx hb dX12_breaks_98 (lv_at hl 0 rfl) ?_
          refine lv_aload_n hx hb dX12_breaks_100 rfl (lv_at hl 3 rfl) ?_
          refine va_get (D := (dC, dI)) (ci := 11) (v := .ref (v 2)) (C := RX12) (T := TX12) (N := 52) hx hb hts (by decide +kernel) hown hK hP 0 rfl rfl 2 (by decide) (hts (.fieldLink RX12 16 "PageOneModel" "cell" "[I") (by decide +kernel)) (fun _ h9 => h9) rfl dX12_breaks_101 ?_
          refine lv_iload_n hx hb dX12_breaks_104 rfl (lv_at hl 4 rfl) ?_
          refine lv_iload_n hx hb dX12_breaks_105 rfl (lv_at hl 2 rfl) ?_
          refine lv_iconst (v := 1) hx hb dX12_breaks_106 (by decide) ?_
          refine lv_iadd hx hb dX12_breaks_107 ?_
          refine lv_iload_n hx hb dX12_breaks_108 rfl (lv_at hl 1 rfl) ?_
          refine vp_callSi (va_runS (As := [.int p0, .int ((nI c9) + 1), .int (nI i)]) (rest := [.ref (v 2), .int x_3, .ref h0]) ⟨hx, hb, hml, hown, hts⟩ (m_at l dC dI p0 ((nI c9) + 1) (nI i)) (va_cwS 3 hts gX12_breaks_X12_at rfl rfl rfl (by decide +kernel) ⟨Nat.le_trans (Nat.le_of_ble_eq_true rfl) hRf, Nat.le_trans (Nat.le_of_ble_eq_true rfl) hRl⟩) ⟨pw_fb, fun U hU hW => ⟨rfl, pw_to hU hW (hP.sub (ws' := []) [] rfl) (hK.sub (tys' := []) [] rfl) hN⟩⟩ rfl rfl hl.1 rfl (lv_room (Nat.le_of_ble_eq_true rfl)) dX12_breaks_109 ⟨hRc, hRs⟩).run (fun r hw => ?_)
          obtain rfl : r = (480 * p0 + 60 * ((nI c9) + 1) + (nI i)) := hw
          refine va_iald hx hb hK hP 3 0 rfl rfl (vCell hlnu b_12) dX12_breaks_112 ?_
          refine lv_iconst (v := 1) hx hb dX12_breaks_113 (by decide) ?_
          have hFc := fr_all hD hS hA
          refine va_callv (va_runV (As := [.int x_3, .int (u.2 2 ((480 * p0 + 60 * ((nI c9) + 1) + (nI i)) : Int32).toNatClampNeg), .int 1]) (rest := []) ⟨hx, hb, hml, hown, hts⟩ (n_beside l dC dI h0 v cI cZ u x_3 (u.2 2 ((480 * p0 + 60 * ((nI c9) + 1) + (nI i)) : Int32).toNatClampNeg) 1 (fun h => by rw [ex_3, hg0.1.1] at h ⊢; exact hcl0 _ (vlt (vinC hp (bw7 hc8) (by omega))) h) (fun h => by rw [hg.1] at h ⊢; exact hcl0 _ (vlt (vCell hlnu b_12)) h) (fun j hj => by rw [hg.1]; exact hk0 j hj) H.size) (cwV 3 hts gX12_breaks_X12_beside rfl rfl rfl (by decide +kernel) ⟨Nat.le_trans (Nat.le_of_ble_eq_true rfl) hRf, Nat.le_trans (Nat.le_of_ble_eq_true rfl) hRl⟩) ⟨gw_fb, va_recv hK hP (ci := 11) (q0 := 0) rfl rfl, fun U hU hW => ⟨rfl, by rw [hU], pw_to hU hW hP hK hN, hD.weaken (fun _ _ _ _ => trivial)⟩⟩ rfl rfl hl.1 rfl (lv_room (Nat.le_of_ble_eq_true rfl)) dX12_breaks_114 ⟨hRc, hRs⟩) hS (fun q _ h => hFc q h) hFc (fun u_14 t H1 locs ht hvm hw hB hz1 hk1 hS => ?_)
          obtain ⟨hP, hD1⟩ := hB
          rw [ht] at hP
          have hD := hD1.weaken (fun _ q _ h => hFc q.1 h)
          generalize H1 = H at hP hS ⊢
          have hBvTb : bst u u_14 (vTb u0 p0 c9 i) := bst_c (bst_E hg hw.2) (fun t => by unfold vTb; rw [show x_3 = u0.2 2 (480 * p0 + 60 * nI c9 + nI i).toNatClampNeg from by rw [ex_3, hg0.1.1], hg.1]; exact ⟨fun q => ⟨by have z := b_12; unfold mCell at z ⊢; rw [← hg.1]; exact z, q⟩, fun q => q.2⟩)
          have hg := mE_tr hg hw.1
          refine lv_iinc (v := (nI (i + 1))) (lv' := [(3, .int (nI (i + 1))), (4, .int x_3), (2, .int (nI c9)), (0, .ref h0), (1, .int p0)]) hx hb dX12_breaks_117 hl (k := 1) rfl (nI_1 i) (by decide) rfl (fun ls hl => ?_)
          refine lv_goto (tgt := 25) hx hb dX12_breaks_120 (by decide) ?_
          have hb9 := best_bst hb0 (bst_tr (bst_c (bst_0 u) (fun t => ⟨False.elim, fun q => bne b_4 (by have z := q.1; unfold mCell at z ⊢; rw [hg0.1.1]; exact z)⟩)) hBvTb) (vTS_n hc8 hlK)
          exact ih (i + 1) _ _ _ ls (by omega) (by omega) ⟨hg, hb9⟩ hP hD hS (lv_sub hl [0, 2, 3, 4] rfl)
        ·
          obtain rfl : r = 0 := b_f hw b_12
          refine lv_if_eq (tgt := 117) hx hb dX12_breaks_94 (by decide) (fun c_15 => ?_) (fun c_15 => absurd (by decide) c_15)
          refine lv_iinc (v := (nI (i + 1))) (lv' := [(3, .int (nI (i + 1))), (4, .int x_3), (2, .int (nI c9)), (0, .ref h0), (1, .int p0)]) hx hb dX12_breaks_117 hl (k := 1) rfl (nI_1 i) (by decide) rfl (fun ls hl => ?_)
          refine lv_goto (tgt := 25) hx hb dX12_breaks_120 (by decide) ?_
          have hb9 := best_bst hb0 (bst_no (bst_c (bst_0 u) (fun t => ⟨False.elim, fun q => bne b_4 (by have z := q.1; unfold mCell at z ⊢; rw [hg0.1.1]; exact z)⟩)) (fun t q => bne b_12 (by have z := q.1; unfold mCell at z ⊢; rw [hg.1]; exact z))) (vTS_n hc8 hlK)
          exact ih (i + 1) _ _ _ ls (by omega) (by omega) ⟨hg, hb9⟩ hP hD hS (lv_sub hl [0, 2, 3, 4] rfl)
set_option maxHeartbeats 4000000 in
set_option maxRecDepth 100000 in
theorem n_br_out {p : Program} {l : Launch} {e : Env} {R : Room} {s : State} {m : MethodId} {args : Array Value} {below : List Frame} {meth : Method} {c : Code} {Q : State → Prop} {cells slots : Nat} {dC : Nat → ClassId} {dI : Nat → Nat → Nat} {h0 : Nat} {v : Nat → Nat} {cI cZ : ClassId} {u0 : mS} {p0 : Int32} (hp : bw p0 0 11 = true) (hln0 : ∀ j, j < 96 → bw (u0.2 0 j) 0 60 = true) (hcl0 : ∀ j, j < 5760 → mThing (u0.2 2 j) = true → bw (u0.2 2 j) 0 79 = true) (hk0 : ∀ j, j < 80 → u0.2 4 j = 3 → bw (u0.2 10 j) 0 9 = true) {A : Nat → Prop} {H0 : Heap} (hx : p.tables.exec = Jvm.exec) (hb : c.code = cX12_breaks) (hml : c.maxLocals = 5) (hts : ∀ w ∈ wsX12_breaks, w.before args s = true) (hown : s.vm.findClass RX12 = some m.cls) (hN : NN s) (hK : va_K (dC, dI) vwCl [(cI, .int), (cZ, .boolean)] s) (hRf : 3 ≤ R.frames) (hRl : 65 ≤ R.locals) (hRc : cells ≤ R.cells) (hRs : slots ≤ R.slots) (hA : ∀ q : Nat, H0.size ≤ q → A q) (kx : ∀ (u : mS) (H : Heap) (locs : List Loc) (ls : Array Slot), (mE u0 u ∧ best (vTS u0 p0 8 0) (wr3 u)) → va_P (dC, dI) vwCl (mW h0 v cI cZ u) H → va_D A (mW h0 v cI cZ u) → va_S A H0 H locs → lv_has ls 5 [(2, .int (nI 8)), (0, .ref h0), (1, .int p0)] → W p l e R s m args below meth c H locs cells slots Q (F0 m 129 ls [])) : ∀ (k i : Nat) (u : mS) (H : Heap) (locs : List Loc) (ls : Array Slot), i ≤ 8 → 8 - i < k → (mE u0 u ∧ best (vTS u0 p0 i 0) (wr3 u)) → va_P (dC, dI) vwCl (mW h0 v cI cZ u) H → va_D A (mW h0 v cI cZ u) → va_S A H0 H locs → lv_has ls 5 [(2, .int (nI i)), (0, .ref h0), (1, .int p0)] → W p l e R s m args below meth c H locs cells slots Q (F0 m 17 ls []) := by
  intro k
  induction k with
  | zero => intro i u H locs ls h1 h2; exact absurd h2 (Nat.not_lt_zero _)
  | succ k ih =>
    intro i u H locs ls hi hk hg hP hD hS hl
    refine lv_iload_n hx hb dX12_breaks_17 rfl (lv_at hl 0 rfl) ?_
    refine lv_bipush (v := 8) hx hb dX12_breaks_18 (by decide) ?_
    refine lv_icmp_ge (tgt := 129) hx hb dX12_breaks_20 (by decide) (fun c_1 => ?_) (fun c_1 => ?_)
    ·
      have hie : i = 8 := lp_eq rfl (by decide) hi c_1
      subst hie
      exact kx _ _ _ ls hg hP hD hS (lv_sub hl [0, 1, 2] rfl)
    ·
      have hlt : i < 8 := lp_lt rfl (by decide) hi c_1
      have hlnu : ∀ j, j < 96 → bw (u.2 0 j) 0 60 = true := fun j hj => by rw [hg.1.1]; exact hln0 j hj
      refine lv_iconst (v := 0) hx hb dX12_breaks_23 (by decide) ?_
      refine lv_istore_n (lv' := [(3, .int 0), (2, .int (nI i)), (0, .ref h0), (1, .int p0)]) hx hb dX12_breaks_24 rfl hl (by decide) rfl (fun ls hl => ?_)
      obtain ⟨eK, eK2, eK3⟩ := nI_of_bw (hln0 _ (vlt (vin8 hp (bw7 hlt))))
      have h60 : (60 : Int32).toInt = 60 := rfl
      refine n_br_in (u0 := u0) (c9 := i) (K := (u0.2 0 (8 * p0 + nI i).toNatClampNeg).toNatClampNeg) hp hln0 hcl0 hk0 hlt eK (by omega) hx hb hml hts hown hN hK hRf hRl hRc hRs hA (fun u2 H locs ls hg hP hD hS hl => ?_) _ 0 u _ _ ls (Nat.zero_le _) (Nat.lt_succ_self _) hg hP hD hS (lv_sub hl [0, 1, 2, 3] rfl)
      have hb9 := best_c hg.2 (fun t => vTS_c (c := i) t)
      refine lv_iinc (v := (nI (i + 1))) (lv' := [(2, .int (nI (i + 1))), (3, .int (nI (u0.2 0 (8 * p0 + nI i).toNatClampNeg).toNatClampNeg)), (0, .ref h0), (1, .int p0)]) hx hb dX12_breaks_123 hl (k := 1) rfl (nI_1 i) (by decide) rfl (fun ls hl => ?_)
      refine lv_goto (tgt := 17) hx hb dX12_breaks_126 (by decide) ?_
      exact ih (i + 1) _ _ _ ls (by omega) (by omega) ⟨hg.1, hb9⟩ hP hD hS (lv_sub hl [0, 2, 3] rfl)
set_option maxHeartbeats 4000000 in
set_option maxRecDepth 100000 in
theorem n_br_k {p : Program} {l : Launch} {e : Env} {R : Room} {s : State} {m : MethodId} {args : Array Value} {below : List Frame} {meth : Method} {c : Code} {Q : State → Prop} {cells slots : Nat} {dC : Nat → ClassId} {dI : Nat → Nat → Nat} {h0 : Nat} {v : Nat → Nat} {cI cZ : ClassId} {H : Heap} {locs : List Loc} {u : mS} (hx : p.tables.exec = Jvm.exec) (hb : c.code = cX12_breaks) (hml : c.maxLocals = 5) (hts : ∀ w ∈ wsX12_breaks, w.before args s = true) (hown : s.vm.findClass RX12 = some m.cls) (hN : NN s) (hK : va_K (dC, dI) vwCl [(cI, .int), (cZ, .boolean)] s) (hP : va_P (dC, dI) vwCl (mW h0 v cI cZ u) H) {p0 : Int32} {j9 K : Nat} (hj9 : j9 < 80) (hK6 : K ≤ 6) (eK : u.2 22 (nI j9).toNatClampNeg = nI K) (kx : ∀ (a : Int32) (ls : Array Slot), a = bP (thP u p0 j9 K) → lv_has ls 5 [(4, .int (nI K)), (3, .int a), (2, .int (nI j9)), (0, .ref h0), (1, .int p0)] → W p l e R s m args below meth c H locs cells slots Q (F0 m 187 ls [])) : ∀ (k i : Nat) (a : Int32) (ls : Array Slot), i ≤ K → K - i < k → a = bP (thP u p0 j9 i) → lv_has ls 5 [(4, .int (nI i)), (3, .int a), (2, .int (nI j9)), (0, .ref h0), (1, .int p0)] → W p l e R s m args below meth c H locs cells slots Q (F0 m 144 ls []) := by
  intro k
  induction k with
  | zero => intro i a ls h1 h2; exact absurd h2 (Nat.not_lt_zero _)
  | succ k ih =>
    intro i a ls hi hk hg hl
    refine lv_iload hx hb dX12_breaks_144 (lv_at hl 0 rfl) ?_
    refine lv_aload_n hx hb dX12_breaks_146 rfl (lv_at hl 3 rfl) ?_
    refine va_get (D := (dC, dI)) (ci := 11) (v := .ref (v 22)) (C := RX12) (T := TX12) (N := 52) hx hb hts (by decide +kernel) hown hK hP 0 rfl rfl 22 (by decide) (hts (.fieldLink RX12 74 "PageOneModel" "pieces" "[I") (by decide +kernel)) (fun _ h9 => h9) rfl dX12_breaks_147 ?_
    refine lv_iload_n hx hb dX12_breaks_150 rfl (lv_at hl 2 rfl) ?_
    refine va_iald hx hb hK hP 22 0 rfl rfl (vp_in_nI hj9 (by decide)) dX12_breaks_151 ?_
    refine lv_topi (fun y_1 ey_1 => ?_)
    obtain rfl : y_1 = (nI K) := ey_1.trans (eK)
    refine lv_icmp_ge (tgt := 187) hx hb dX12_breaks_152 (by decide) (fun c_2 => ?_) (fun c_2 => ?_)
    ·
      have hie : i = K := lp_eq rfl (by omega) hi c_2
      rw [hie] at hg hl
      exact kx _ ls hg (lv_sub hl [0, 1, 2, 3, 4] rfl)
    ·
      have hlt : i < K := lp_lt rfl (by omega) hi c_2
      refine lv_iload_n hx hb dX12_breaks_155 rfl (lv_at hl 1 rfl) ?_
      refine lv_if_ne (tgt := 175) hx hb dX12_breaks_156 (by decide) (fun c_3 => ?_) (fun c_3 => ?_)
      ·
        refine lv_iconst (v := 1) hx hb dX12_breaks_175 (by decide) ?_
        refine lv_goto (tgt := 180) hx hb dX12_breaks_176 (by decide) ?_
        refine lv_istore_n (lv' := [(3, .int 1), (4, .int (nI i)), (2, .int (nI j9)), (0, .ref h0), (1, .int p0)]) hx hb dX12_breaks_180 rfl hl (by decide) rfl (fun ls hl => ?_)
        refine lv_iinc (v := (nI (i + 1))) (lv' := [(4, .int (nI (i + 1))), (3, .int 1), (2, .int (nI j9)), (0, .ref h0), (1, .int p0)]) hx hb dX12_breaks_181 hl (k := 1) rfl (nI_1 i) (by decide) rfl (fun ls hl => ?_)
        refine lv_goto (tgt := 144) hx hb dX12_breaks_184 (by decide) ?_
        exact ih (i + 1) _ ls (by omega) (by omega) (thP_o hg c_3) (lv_sub hl [0, 1, 2, 3, 4] rfl)
      ·
        refine lv_aload_n hx hb dX12_breaks_159 rfl (lv_at hl 3 rfl) ?_
        refine va_get (D := (dC, dI)) (ci := 11) (v := .ref (v 23)) (C := RX12) (T := TX12) (N := 52) hx hb hts (by decide +kernel) hown hK hP 0 rfl rfl 23 (by decide) (hts (.fieldLink RX12 77 "PageOneModel" "pPage" "[I") (by decide +kernel)) (fun _ h9 => h9) rfl dX12_breaks_160 ?_
        refine lv_bipush (v := 6) hx hb dX12_breaks_163 (by decide) ?_
        refine lv_iload_n hx hb dX12_breaks_165 rfl (lv_at hl 2 rfl) ?_
        refine lv_imul hx hb dX12_breaks_166 ?_
        refine lv_iload hx hb dX12_breaks_167 (lv_at hl 0 rfl) ?_
        refine lv_iadd hx hb dX12_breaks_169 ?_
        refine va_iald hx hb hK hP 23 0 rfl rfl (v6n hj9 (by omega)) dX12_breaks_170 ?_
        refine lv_iload_n hx hb dX12_breaks_171 rfl (lv_at hl 4 rfl) ?_
        refine lv_icmp_ne (tgt := 179) hx hb dX12_breaks_172 (by decide) (fun c_4 => ?_) (fun c_4 => ?_)
        ·
          refine lv_iconst (v := 0) hx hb dX12_breaks_179 (by decide) ?_
          refine lv_istore_n (lv' := [(3, .int 0), (4, .int (nI i)), (2, .int (nI j9)), (0, .ref h0), (1, .int p0)]) hx hb dX12_breaks_180 rfl hl (by decide) rfl (fun ls hl => ?_)
          refine lv_iinc (v := (nI (i + 1))) (lv' := [(4, .int (nI (i + 1))), (3, .int 0), (2, .int (nI j9)), (0, .ref h0), (1, .int p0)]) hx hb dX12_breaks_181 hl (k := 1) rfl (nI_1 i) (by decide) rfl (fun ls hl => ?_)
          refine lv_goto (tgt := 144) hx hb dX12_breaks_184 (by decide) ?_
          exact ih (i + 1) _ ls (by omega) (by omega) (thP_z hg c_3 c_4) (lv_sub hl [0, 1, 2, 3, 4] rfl)
        ·
          refine lv_iconst (v := 1) hx hb dX12_breaks_175 (by decide) ?_
          refine lv_goto (tgt := 180) hx hb dX12_breaks_176 (by decide) ?_
          refine lv_istore_n (lv' := [(3, .int 1), (4, .int (nI i)), (2, .int (nI j9)), (0, .ref h0), (1, .int p0)]) hx hb dX12_breaks_180 rfl hl (by decide) rfl (fun ls hl => ?_)
          refine lv_iinc (v := (nI (i + 1))) (lv' := [(4, .int (nI (i + 1))), (3, .int 1), (2, .int (nI j9)), (0, .ref h0), (1, .int p0)]) hx hb dX12_breaks_181 hl (k := 1) rfl (nI_1 i) (by decide) rfl (fun ls hl => ?_)
          refine lv_goto (tgt := 144) hx hb dX12_breaks_184 (by decide) ?_
          exact ih (i + 1) _ ls (by omega) (by omega) (thP_1 c_4) (lv_sub hl [0, 1, 2, 3, 4] rfl)
theorem best_no {S T : tr3 → Prop} {u : mS} (h : best S (wr3 u)) (hn : ∀ t, ¬ T t) : best (fun t => S t ∨ T t) (wr3 u) := best_c h (fun t => ⟨Or.inl, fun q => q.elim id (fun z => absurd z (hn t))⟩)
theorem best_ad {S T : tr3 → Prop} {w w2 : mS} {k a b : Int32} (h : best S (wr3 w)) (hw : w2 = mWrongs w k a b) (hk : ¬ k = 0) (h2 : ∀ t, T t ↔ t = trN k a b) : best (fun t => S t ∨ T t) (wr3 w2) := by
  rw [hw]
  exact best_c (best_wr h hk) (fun t => ⟨fun q => q.elim Or.inl (fun z => Or.inr ((h2 t).mpr z)), fun q => q.elim Or.inl (fun z => Or.inr ((h2 t).mp z))⟩)
theorem mFrom_E {u w : mS} (h : w.2 = u.2) (i : Int32) : ∀ n, mFrom w i n = mFrom u i n
  | 0 => rfl
  | n + 1 => by
    show mFrom w i n + mTakes w i (nI n) = mFrom u i n + mTakes u i (nI n)
    rw [mFrom_E h i n]
    unfold mTakes
    rw [h]
theorem mStanding_E {u w : mS} (h : w.2 = u.2) (i : Int32) : mStanding w i = mStanding u i := by
  unfold mStanding
  rw [mFrom_E h, h]
/-- an item of a page: short, or a head without its story -/
def thN (u : mS) (p0 : Int32) (j : Nat) : Prop := thP u p0 j (u.2 22 (nI j).toNatClampNeg).toNatClampNeg
def hsP (u : mS) (j : Nat) : Prop := ∃ X D, u.2 24 (6 * nI j).toNatClampNeg = nI X ∧ u.2 26 (6 * nI j).toNatClampNeg = nI D ∧ X + D ≤ 8 ∧ ∃ c, c < D ∧ hsC u (nI j) (6 * nI j) (u.2 25 (6 * nI j).toNatClampNeg + u.2 27 (6 * nI j).toNatClampNeg) (X + c)
def iC4 (u : mS) (p0 : Int32) (j : Nat) : Prop := thN u p0 j ∧ u.2 4 (nI j).toNatClampNeg = 0 ∧ ¬ u.2 5 (nI j).toNatClampNeg ≤ mStanding u (nI j)
def iC5 (u : mS) (p0 : Int32) (j : Nat) : Prop := thN u p0 j ∧ u.2 4 (nI j).toNatClampNeg = 1 ∧ ¬ hsP u j
def iT4 (u : mS) (p0 : Int32) (j : Nat) (t : tr3) : Prop := iC4 u p0 j ∧ t = trN 4 (nI j) (-1)
def iT5 (u : mS) (p0 : Int32) (j : Nat) (t : tr3) : Prop := iC5 u p0 j ∧ t = trN 5 (nI j) (-1)
def itS (u : mS) (p0 : Int32) (n : Nat) (t : tr3) : Prop := ∃ j, j < n ∧ (iT4 u p0 j t ∨ iT5 u p0 j t)
def brS (u : mS) (p0 : Int32) (n : Nat) (t : tr3) : Prop := vTS u p0 8 0 t ∨ itS u p0 n t
theorem brS_n {u : mS} {p0 : Int32} {n : Nat} (t : tr3) : ((brS u p0 n t ∨ iT4 u p0 n t) ∨ iT5 u p0 n t) ↔ brS u p0 (n + 1) t := by
  constructor
  · rintro (((h | ⟨j, h1, h2⟩) | h) | h)
    · exact Or.inl h
    · exact Or.inr ⟨j, by omega, h2⟩
    · exact Or.inr ⟨n, Nat.lt_succ_self _, Or.inl h⟩
    · exact Or.inr ⟨n, Nat.lt_succ_self _, Or.inr h⟩
  · rintro (h | ⟨j, h1, h2⟩)
    · exact Or.inl (Or.inl (Or.inl h))
    · by_cases e : j = n
      · rw [e] at h2
        exact h2.elim (fun z => Or.inl (Or.inr z)) Or.inr
      · exact Or.inl (Or.inl (Or.inr ⟨j, by omega, h2⟩))
theorem thP_E {u w : mS} (h : w.2 = u.2) (p0 : Int32) (j n : Nat) : thP w p0 j n = thP u p0 j n := by
  unfold thP ptC
  rw [h]
theorem bP_nz {P : Prop} {a : Int32} (h : a = bP P) (h2 : ¬ a = 0) : P := Classical.byContradiction (fun q => h2 (by rw [h, bP_f q]))
theorem bP_no {P : Prop} {a : Int32} (h : a = bP P) (h2 : a = 0) : ¬ P := fun q => by rw [h2, bP_t q] at h; exact absurd h (by decide)
theorem hs_P {u w : mS} (h : w.2 = u.2) {j X D : Nat} {z : Int32} (hX3 : X + D ≤ 8) (e24 : u.2 24 (6 * nI j).toNatClampNeg = nI X) (e26 : u.2 26 (6 * nI j).toNatClampNeg = nI D) (hz : z = bP (∃ c, c < D ∧ hsC w (nI j) (6 * nI j) (w.2 25 (6 * nI j).toNatClampNeg + w.2 27 (6 * nI j).toNatClampNeg) (X + c))) : z = bP (hsP u j) := by
  have e : (∃ c, c < D ∧ hsC w (nI j) (6 * nI j) (w.2 25 (6 * nI j).toNatClampNeg + w.2 27 (6 * nI j).toNatClampNeg) (X + c)) ↔ hsP u j := by
    have e2 : ∀ c, hsC w (nI j) (6 * nI j) (w.2 25 (6 * nI j).toNatClampNeg + w.2 27 (6 * nI j).toNatClampNeg) c ↔ hsC u (nI j) (6 * nI j) (u.2 25 (6 * nI j).toNatClampNeg + u.2 27 (6 * nI j).toNatClampNeg) c := fun c => by
      unfold hsC mCell
      rw [h]
    constructor
    · rintro ⟨c, h1, h2⟩
      exact ⟨X, D, e24, e26, hX3, c, h1, (e2 _).mp h2⟩
    · rintro ⟨X2, D2, f1, f2, f3, c, h1, h2⟩
      have eX : X2 = X := (nI_inj (by omega) (by omega)).mp (f1.symm.trans e24)
      have eD : D2 = D := (nI_inj (by omega) (by omega)).mp (f2.symm.trans e26)
      rw [eX] at h2
      exact ⟨c, by omega, (e2 _).mpr h2⟩
  rw [hz]
  by_cases q : hsP u j
  · rw [bP_t q, bP_t (e.mpr q)]
  · rw [bP_f q, bP_f (fun z => q (e.mp z))]
set_option maxHeartbeats 4000000 in
set_option maxRecDepth 100000 in
theorem n_br_it {p : Program} {l : Launch} {e : Env} {R : Room} {s : State} {m : MethodId} {args : Array Value} {below : List Frame} {meth : Method} {c : Code} {Q : State → Prop} {cells slots : Nat} {dC : Nat → ClassId} {dI : Nat → Nat → Nat} {h0 : Nat} {v : Nat → Nat} {cI cZ : ClassId} {u0 : mS} {p0 : Int32} (hp : bw p0 0 11 = true) (hln0 : ∀ j, j < 96 → bw (u0.2 0 j) 0 60 = true) (hcl0 : ∀ j, j < 5760 → mThing (u0.2 2 j) = true → bw (u0.2 2 j) 0 79 = true) (hk0 : ∀ j, j < 80 → u0.2 4 j = 3 → bw (u0.2 10 j) 0 9 = true) {M : Nat} (hM8 : M ≤ 80) (eM : u0.1 3 = nI M) (hpc0 : ∀ j, j < 80 → bw (u0.2 22 j) 0 6 = true) (hsl0 : ∀ j, j < 480 → ∃ X D : Nat, u0.2 24 j = nI X ∧ u0.2 26 j = nI D ∧ X + D ≤ 8) {A : Nat → Prop} {H0 : Heap} (hx : p.tables.exec = Jvm.exec) (hb : c.code = cX12_breaks) (hml : c.maxLocals = 5) (hts : ∀ w ∈ wsX12_breaks, w.before args s = true) (hown : s.vm.findClass RX12 = some m.cls) (hN : NN s) (hK : va_K (dC, dI) vwCl [(cI, .int), (cZ, .boolean)] s) (hRf : 4 ≤ R.frames) (hRl : 90 ≤ R.locals) (hRc : cells ≤ R.cells) (hRs : slots ≤ R.slots) (hA : ∀ q : Nat, H0.size ≤ q → A q) (kx : ∀ (u : mS) (H : Heap) (locs : List Loc) (ls : Array Slot), (mE u0 u ∧ best (brS u0 p0 M) (wr3 u)) → va_P (dC, dI) vwCl (mW h0 v cI cZ u) H → va_D A (mW h0 v cI cZ u) → va_S A H0 H locs → lv_has ls 5 [(2, .int (nI M)), (0, .ref h0), (1, .int p0)] → W p l e R s m args below meth c H locs cells slots Q (F0 m 256 ls [])) : ∀ (k i : Nat) (u : mS) (H : Heap) (locs : List Loc) (ls : Array Slot), i ≤ M → M - i < k → (mE u0 u ∧ best (brS u0 p0 i) (wr3 u)) → va_P (dC, dI) vwCl (mW h0 v cI cZ u) H → va_D A (mW h0 v cI cZ u) → va_S A H0 H locs → lv_has ls 5 [(2, .int (nI i)), (0, .ref h0), (1, .int p0)] → W p l e R s m args below meth c H locs cells slots Q (F0 m 131 ls []) := by
  intro k
  induction k with
  | zero => intro i u H locs ls h1 h2; exact absurd h2 (Nat.not_lt_zero _)
  | succ k ih =>
    intro i u H locs ls hi hk hg hP hD hS hl
    refine lv_iload_n hx hb dX12_breaks_131 rfl (lv_at hl 0 rfl) ?_
    refine lv_aload_n hx hb dX12_breaks_132 rfl (lv_at hl 1 rfl) ?_
    refine va_get (D := (dC, dI)) (ci := 11) (v := .int (u.1 3)) (C := RX12) (T := TX12) (N := 52) hx hb hts (by decide +kernel) hown hK hP 0 rfl rfl 3 (by decide) (hts (.fieldLink RX12 147 "PageOneModel" "items" "I") (by decide +kernel)) (fun _ h9 => h9) rfl dX12_breaks_133 ?_
    refine lv_topi (fun y_1 ey_1 => ?_)
    obtain rfl : y_1 = (nI M) := ey_1.trans ((by rw [hg.1.2 3 (by decide) (by decide) (by decide)]; exact eM))
    refine lv_icmp_ge (tgt := 256) hx hb dX12_breaks_136 (by decide) (fun c_2 => ?_) (fun c_2 => ?_)
    ·
      have hie : i = M := lp_eq rfl (by omega) hi c_2
      rw [hie] at hg hl
      exact kx _ _ _ ls hg hP hD hS (lv_sub hl [0, 1, 2] rfl)
    ·
      have hlt : i < M := lp_lt rfl (by omega) hi c_2
      have hb0 := hg.2
      have hg := hg.1
      have hlnu : ∀ j, j < 96 → bw (u.2 0 j) 0 60 = true := fun j hj => by rw [hg.1]; exact hln0 j hj
      refine lv_iconst (v := 0) hx hb dX12_breaks_139 (by decide) ?_
      refine lv_istore_n (lv' := [(3, .int 0), (2, .int (nI i)), (0, .ref h0), (1, .int p0)]) hx hb dX12_breaks_140 rfl hl (by decide) rfl (fun ls hl => ?_)
      refine lv_iconst (v := 0) hx hb dX12_breaks_141 (by decide) ?_
      refine lv_istore (lv' := [(4, .int 0), (3, .int 0), (2, .int (nI i)), (0, .ref h0), (1, .int p0)]) hx hb dX12_breaks_142 hl (by decide) rfl (fun ls hl => ?_)
      obtain ⟨eK, eK2, eK3⟩ := nI_of_bw (hpc0 (nI i).toNatClampNeg (by rw [nI_clamp (by omega)]; omega))
      have h6 : (6 : Int32).toInt = 6 := rfl
      refine w_cut (X := fun R cells slots Q args => ∀ (uJ221 : mS) (H : Heap) (locs : List Loc) (a : Int32) (ls : Array Slot), mE u0 uJ221 → best (fun t => brS u0 p0 i t ∨ iT4 u0 p0 i t) (wr3 uJ221) → a = bP (thN u0 p0 i) → va_P (dC, dI) vwCl (mW h0 v cI cZ uJ221) H → va_D A (mW h0 v cI cZ uJ221) → va_S A H0 H locs → lv_has ls 5 [(3, .int a), (2, .int (nI i)), (0, .ref h0), (1, .int p0)] → W p l e R s m args below meth c H locs cells slots Q (F0 m 221 ls [])) ?_ (fun kJ221 => ?_)
      ·
        intro uJ221 H locs a ls hg hBa hAa hP hD hS hl
        refine lv_iload_n hx hb dX12_breaks_221 rfl (lv_at hl 0 rfl) ?_
        refine lv_if_eq (tgt := 250) hx hb dX12_breaks_222 (by decide) (fun c_3 => ?_) (fun c_3 => ?_)
        ·
          refine lv_iinc (v := (nI (i + 1))) (lv' := [(2, .int (nI (i + 1))), (3, .int a), (0, .ref h0), (1, .int p0)]) hx hb dX12_breaks_250 hl (k := 1) rfl (nI_1 i) (by decide) rfl (fun ls hl => ?_)
          refine lv_goto (tgt := 131) hx hb dX12_breaks_253 (by decide) ?_
          exact ih (i + 1) _ _ _ ls (by omega) (by omega) ⟨hg, best_c (best_no hBa (fun t q => bP_no hAa c_3 q.1.1)) (fun t => brS_n t)⟩ hP hD hS (lv_sub hl [0, 2, 3] rfl)
        ·
          refine lv_aload_n hx hb dX12_breaks_225 rfl (lv_at hl 2 rfl) ?_
          refine va_get (D := (dC, dI)) (ci := 11) (v := .ref (v 4)) (C := RX12) (T := TX12) (N := 52) hx hb hts (by decide +kernel) hown hK hP 0 rfl rfl 4 (by decide) (hts (.fieldLink RX12 19 "PageOneModel" "kind" "[I") (by decide +kernel)) (fun _ h9 => h9) rfl dX12_breaks_226 ?_
          refine lv_iload_n hx hb dX12_breaks_229 rfl (lv_at hl 1 rfl) ?_
          refine va_iald hx hb hK hP 4 0 rfl rfl (vp_in_nI (by omega) (by decide)) dX12_breaks_230 ?_
          refine lv_iconst (v := 1) hx hb dX12_breaks_231 (by decide) ?_
          refine lv_icmp_ne (tgt := 250) hx hb dX12_breaks_232 (by decide) (fun c_4 => ?_) (fun c_4 => ?_)
          ·
            refine lv_iinc (v := (nI (i + 1))) (lv' := [(2, .int (nI (i + 1))), (3, .int a), (0, .ref h0), (1, .int p0)]) hx hb dX12_breaks_250 hl (k := 1) rfl (nI_1 i) (by decide) rfl (fun ls hl => ?_)
            refine lv_goto (tgt := 131) hx hb dX12_breaks_253 (by decide) ?_
            exact ih (i + 1) _ _ _ ls (by omega) (by omega) ⟨hg, best_c (best_no hBa (fun t q => c_4 (by rw [hg.1]; exact q.1.2.1))) (fun t => brS_n t)⟩ hP hD hS (lv_sub hl [0, 2, 3] rfl)
          ·
            refine lv_aload_n hx hb dX12_breaks_235 rfl (lv_at hl 2 rfl) ?_
            refine lv_iload_n hx hb dX12_breaks_236 rfl (lv_at hl 1 rfl) ?_
            obtain ⟨X, D, hX1, hX2, hX3⟩ := hsl0 (6 * nI i).toNatClampNeg (vlt (v60 (bw79 (by omega)) rfl))
            refine vp_callSi (va_runV (As := [.int (nI i)]) (rest := []) ⟨hx, hb, hml, hown, hts⟩ (n_hasStory l dC dI h0 v cI cZ uJ221 (nI i) X D (bw79 (by omega)) hX3 (fun j hj => by rw [hg.1]; exact hln0 j hj) (by rw [hg.1]; exact hX1) (by rw [hg.1]; exact hX2)) (cwV 1 hts gX12_breaks_X12_hasStory rfl rfl rfl (by decide +kernel) ⟨Nat.le_trans (Nat.le_of_ble_eq_true rfl) hRf, Nat.le_trans (Nat.le_of_ble_eq_true rfl) hRl⟩) ⟨pw_fb, va_recv hK hP (ci := 11) (q0 := 0) rfl rfl, fun U hU hW => ⟨rfl, pw_to hU hW hP hK hN⟩⟩ rfl rfl hl.1 rfl (lv_room (Nat.le_of_ble_eq_true rfl)) dX12_breaks_237 ⟨hRc, hRs⟩).run (fun r hw => ?_)
            generalize r = z_5 at hw ⊢
            have hz5 := hs_P hg.1 hX3 hX1 hX2 hw
            refine lv_if_ne (tgt := 250) hx hb dX12_breaks_240 (by decide) (fun c_6 => ?_) (fun c_6 => ?_)
            ·
              refine lv_iinc (v := (nI (i + 1))) (lv' := [(2, .int (nI (i + 1))), (3, .int a), (0, .ref h0), (1, .int p0)]) hx hb dX12_breaks_250 hl (k := 1) rfl (nI_1 i) (by decide) rfl (fun ls hl => ?_)
              refine lv_goto (tgt := 131) hx hb dX12_breaks_253 (by decide) ?_
              exact ih (i + 1) _ _ _ ls (by omega) (by omega) ⟨hg, best_c (best_no hBa (fun t q => q.1.2.2 (bP_nz hz5 c_6))) (fun t => brS_n t)⟩ hP hD hS (lv_sub hl [0, 2, 3] rfl)
            ·
              refine lv_aload_n hx hb dX12_breaks_243 rfl (lv_at hl 2 rfl) ?_
              refine lv_iconst (v := 5) hx hb dX12_breaks_244 (by decide) ?_
              refine lv_iload_n hx hb dX12_breaks_245 rfl (lv_at hl 1 rfl) ?_
              refine lv_iconst (v := (-1)) hx hb dX12_breaks_246 (by decide) ?_
              have hg8 := hg
              have hFc := fr_all hD hS hA
              refine va_callv (va_runV (As := [.int 5, .int (nI i), .int (-1)]) (rest := []) ⟨hx, hb, hml, hown, hts⟩ (m_wrongs l dC dI h0 v cI cZ uJ221 5 (nI i) (-1) H.size) (cwV 3 hts gX12_breaks_X12_wrongs rfl rfl rfl (by decide +kernel) ⟨Nat.le_trans (Nat.le_of_ble_eq_true rfl) hRf, Nat.le_trans (Nat.le_of_ble_eq_true rfl) hRl⟩) ⟨gw_fb, va_recv hK hP (ci := 11) (q0 := 0) rfl rfl, fun U hU hW => ⟨rfl, by rw [hU], pw_to hU hW hP hK hN, hD.weaken (fun _ _ _ _ => trivial)⟩⟩ rfl rfl hl.1 rfl (lv_room (Nat.le_of_ble_eq_true rfl)) dX12_breaks_247 ⟨hRc, hRs⟩) hS (fun q _ h => hFc q h) hFc (fun u_7 t H1 locs ht hvm hw hB hz1 hk1 hS => ?_)
              obtain ⟨hP, hD1⟩ := hB
              rw [ht] at hP
              have hD := hD1.weaken (fun _ q _ h => hFc q.1 h)
              generalize H1 = H at hP hS ⊢
              have hg := mE_wr hg hw
              have hwr := hw
              refine lv_iinc (v := (nI (i + 1))) (lv' := [(2, .int (nI (i + 1))), (3, .int a), (0, .ref h0), (1, .int p0)]) hx hb dX12_breaks_250 hl (k := 1) rfl (nI_1 i) (by decide) rfl (fun ls hl => ?_)
              refine lv_goto (tgt := 131) hx hb dX12_breaks_253 (by decide) ?_
              exact ih (i + 1) _ _ _ ls (by omega) (by omega) ⟨hg, best_c (best_ad hBa hwr (by decide) (fun t => ⟨fun q => q.2, fun q => ⟨⟨bP_nz hAa c_3, by rw [← hg8.1]; exact c_4, bP_no hz5 (by first | exact c_6 | exact Classical.byContradiction c_6)⟩, q⟩⟩)) (fun t => brS_n t)⟩ hP hD hS (lv_sub hl [0, 2, 3] rfl)
      ·
        refine n_br_k (j9 := i) (K := (u0.2 22 (nI i).toNatClampNeg).toNatClampNeg) hx hb hml hts hown hN hK hP (by omega) (by omega) (by rw [hg.1]; exact eK) (fun a ls hg2 hl => ?_) _ 0 0 ls (Nat.zero_le _) (Nat.lt_succ_self _) (bP_f (fun ⟨t, q, _⟩ => absurd q (Nat.not_lt_zero _))).symm (lv_sub hl [0, 1, 2, 3, 4] rfl)
        have hA9 : a = bP (thN u0 p0 i) := by rw [hg2, thP_E hg.1]; rfl
        refine lv_iload_n hx hb dX12_breaks_187 rfl (lv_at hl 1 rfl) ?_
        refine lv_if_eq (tgt := 221) hx hb dX12_breaks_188 (by decide) (fun c_8 => ?_) (fun c_8 => ?_)
        ·
          exact kJ221 _ _ _ _ ls hg (best_no hb0 (fun t q => bP_no hA9 c_8 q.1.1)) hA9 hP hD hS (lv_sub hl [1, 2, 3, 4] rfl)
        ·
          refine lv_aload_n hx hb dX12_breaks_191 rfl (lv_at hl 3 rfl) ?_
          refine va_get (D := (dC, dI)) (ci := 11) (v := .ref (v 4)) (C := RX12) (T := TX12) (N := 52) hx hb hts (by decide +kernel) hown hK hP 0 rfl rfl 4 (by decide) (hts (.fieldLink RX12 19 "PageOneModel" "kind" "[I") (by decide +kernel)) (fun _ h9 => h9) rfl dX12_breaks_192 ?_
          refine lv_iload_n hx hb dX12_breaks_195 rfl (lv_at hl 2 rfl) ?_
          refine va_iald hx hb hK hP 4 0 rfl rfl (vp_in_nI (by omega) (by decide)) dX12_breaks_196 ?_
          refine lv_if_ne (tgt := 221) hx hb dX12_breaks_197 (by decide) (fun c_9 => ?_) (fun c_9 => ?_)
          ·
            exact kJ221 _ _ _ _ ls hg (best_no hb0 (fun t q => c_9 (by rw [hg.1]; exact q.1.2.1))) hA9 hP hD hS (lv_sub hl [1, 2, 3, 4] rfl)
          ·
            refine lv_aload_n hx hb dX12_breaks_200 rfl (lv_at hl 3 rfl) ?_
            refine lv_iload_n hx hb dX12_breaks_201 rfl (lv_at hl 2 rfl) ?_
            refine vp_callSi (va_runV (As := [.int (nI i)]) (rest := []) ⟨hx, hb, hml, hown, hts⟩ (m_standing l dC dI h0 v cI cZ u (nI i) (bw79 (by omega)) (by rw [hg.1]; exact hpc0 _ (by rw [nI_clamp (by omega)]; omega))) (cwV 1 hts gX12_breaks_X12_standing rfl rfl rfl (by decide +kernel) ⟨Nat.le_trans (Nat.le_of_ble_eq_true rfl) hRf, Nat.le_trans (Nat.le_of_ble_eq_true rfl) hRl⟩) ⟨pw_fb, va_recv hK hP (ci := 11) (q0 := 0) rfl rfl, fun U hU hW => ⟨rfl, pw_to hU hW hP hK hN⟩⟩ rfl rfl hl.1 rfl (lv_room (Nat.le_of_ble_eq_true rfl)) dX12_breaks_202 ⟨hRc, hRs⟩).run (fun r hw => ?_)
            obtain rfl : r = (mStanding u (nI i)) := hw
            refine lv_aload_n hx hb dX12_breaks_205 rfl (lv_at hl 3 rfl) ?_
            refine va_get (D := (dC, dI)) (ci := 11) (v := .ref (v 5)) (C := RX12) (T := TX12) (N := 52) hx hb hts (by decide +kernel) hown hK hP 0 rfl rfl 5 (by decide) (hts (.fieldLink RX12 22 "PageOneModel" "least" "[I") (by decide +kernel)) (fun _ h9 => h9) rfl dX12_breaks_206 ?_
            refine lv_iload_n hx hb dX12_breaks_209 rfl (lv_at hl 2 rfl) ?_
            refine va_iald hx hb hK hP 5 0 rfl rfl (vp_in_nI (by omega) (by decide)) dX12_breaks_210 ?_
            refine lv_icmp_ge (tgt := 221) hx hb dX12_breaks_211 (by decide) (fun c_10 => ?_) (fun c_10 => ?_)
            ·
              exact kJ221 _ _ _ _ ls hg (best_no hb0 (fun t q => q.1.2.2 (by rw [← hg.1, ← mStanding_E hg.1]; exact c_10))) hA9 hP hD hS (lv_sub hl [1, 2, 3, 4] rfl)
            ·
              refine lv_aload_n hx hb dX12_breaks_214 rfl (lv_at hl 3 rfl) ?_
              refine lv_iconst (v := 4) hx hb dX12_breaks_215 (by decide) ?_
              refine lv_iload_n hx hb dX12_breaks_216 rfl (lv_at hl 2 rfl) ?_
              refine lv_iconst (v := (-1)) hx hb dX12_breaks_217 (by decide) ?_
              have hg8 := hg
              have hFc := fr_all hD hS hA
              refine va_callv (va_runV (As := [.int 4, .int (nI i), .int (-1)]) (rest := []) ⟨hx, hb, hml, hown, hts⟩ (m_wrongs l dC dI h0 v cI cZ u 4 (nI i) (-1) H.size) (cwV 3 hts gX12_breaks_X12_wrongs rfl rfl rfl (by decide +kernel) ⟨Nat.le_trans (Nat.le_of_ble_eq_true rfl) hRf, Nat.le_trans (Nat.le_of_ble_eq_true rfl) hRl⟩) ⟨gw_fb, va_recv hK hP (ci := 11) (q0 := 0) rfl rfl, fun U hU hW => ⟨rfl, by rw [hU], pw_to hU hW hP hK hN, hD.weaken (fun _ _ _ _ => trivial)⟩⟩ rfl rfl hl.1 rfl (lv_room (Nat.le_of_ble_eq_true rfl)) dX12_breaks_218 ⟨hRc, hRs⟩) hS (fun q _ h => hFc q h) hFc (fun u_11 t H1 locs ht hvm hw hB hz1 hk1 hS => ?_)
              obtain ⟨hP, hD1⟩ := hB
              rw [ht] at hP
              have hD := hD1.weaken (fun _ q _ h => hFc q.1 h)
              generalize H1 = H at hP hS ⊢
              have hg := mE_wr hg hw
              have hwr := hw
              exact kJ221 _ _ _ _ ls hg (best_ad hb0 hwr (by decide) (fun t => ⟨fun q => q.2, fun q => ⟨⟨bP_nz hA9 c_8, by rw [← hg8.1]; exact c_9, by rw [← hg8.1, ← mStanding_E hg8.1]; exact c_10⟩, q⟩⟩)) hA9 hP hD hS (lv_sub hl [1, 2, 3, 4] rfl)
theorem wr3_0 (u : mS) : wr3 (mset (mset (mset u 49 0) 50 (-1)) 51 (-1)) = (0, -1, -1) := by
  unfold wr3 mset
  dsimp only
  rw [if_neg (by decide), if_neg (by decide), if_pos rfl, if_neg (by decide), if_pos rfl, if_pos rfl]
set_option maxHeartbeats 4000000 in
set_option maxRecDepth 100000 in
theorem n_breaks (l : Launch) (dC : Nat → ClassId) (dI : Nat → Nat → Nat) (h0 : Nat) (v : Nat → Nat) (cI cZ : ClassId) (u : mS) (p0 : Int32) (hp : bw p0 0 11 = true) (hn : bw (u.1 3) 0 80 = true) (hln : ∀ j, j < 96 → bw (u.2 0 j) 0 60 = true) (hcl : ∀ j, j < 5760 → mThing (u.2 2 j) = true → bw (u.2 2 j) 0 79 = true) (hk : ∀ j, j < 80 → u.2 4 j = 3 → bw (u.2 10 j) 0 9 = true) (hpc : ∀ j, j < 80 → bw (u.2 22 j) 0 6 = true) (hsl : ∀ j, j < 480 → ∃ X D : Nat, u.2 24 j = nI X ∧ u.2 26 j = nI D ∧ X + D ≤ 8) (sz : Nat) : Met l yX12_breaks wsX12_breaks ({ frames := 4, cells := 0, slots := 0, locals := 90 }) (va_Pc [.ref h0, .int p0] (fun U => U.heap.size = sz ∧ PW dC dI (mW h0 v cI cZ u) [(cI, .int), (cZ, .boolean)] U ∧ va_D (fun _ => True) (mW h0 v cI cZ u))) (va_Qv (fun u9 : mS => mE u u9 ∧ best (brS u p0 (u.1 3).toNatClampNeg) (wr3 u9)) (fun u9 t => va_P (dC, dI) vwCl (mW h0 v cI cZ u9) t.heap ∧ va_D (va_A (mW h0 v cI cZ u) sz) (mW h0 v cI cZ u9)) (va_A (mW h0 v cI cZ u) sz)) 0 0 (va_A (mW h0 v cI cZ u) sz) := by
  refine Met.ofW (cc := cX12_breaks) (maxL := 5) (ret := none) (by decide) rfl ?_
  intro p e s m args below meth c s₁ B hml hv
  obtain ⟨rfl, hsz, ⟨hP, hK, hN⟩, hD0⟩ := hv
  have hx := B.exec
  have hb := B.bytes
  have hr := B.returns
  have hts := atoms_spec (ws := wsX12_breaks) B.pre
  have hown : s.vm.findClass RX12 = some m.cls := findClass_of_methodNamed B.named
  have hlocks := B.notSynchronized
  subst hsz
  have hD := hD0.self (sz := s.heap.size)
  generalize hAe : va_A (mW h0 v cI cZ u) s.heap.size = A at hD ⊢
  have hA : ∀ q : Nat, s.heap.size ≤ q → A q := fun q h => by rw [← hAe]; exact Or.inr h
  have hS : va_S A s.heap s.heap [] := va_S.rf
  have hl := lv_entry ([.ref h0, .int p0]) (n := 5) (Nat.le_of_ble_eq_true rfl)
  rw [lg_entry_eq]
  generalize (lg_sl ([.ref h0, .int p0]) ++ List.replicate (5 - (lg_sl ([.ref h0, .int p0])).length) Slot.unset).toArray = ls at hl ⊢
  have hl : lv_has ls 5 [(0, .ref h0), (1, .int p0)] := hl
  refine lv_aload_n hx hb dX12_breaks_0 rfl (lv_at hl 0 rfl) ?_
  refine lv_iconst (v := 0) hx hb dX12_breaks_1 (by decide) ?_
  refine va_put (D := (dC, dI)) (ci := 11) (v := .int 0) (ty := .int) (C := RX12) (T := TX12) (N := 52) hx hb hts (by decide +kernel) tyX12 tyX12_ok nmX12 hown hK hP hD hS 0 rfl rfl 49 (by decide) (hts (.fieldLink RX12 228 "PageOneModel" "wrong" "I") (by decide +kernel)) (fun _ h9 => h9) rfl (by decide +kernel) rfl rfl (Nat.le_of_ble_eq_true rfl) dX12_breaks_2 (fun H locs hP hD hS => ?_)
  obtain ⟨u_1, eu_1⟩ : ∃ zz : mS, zz = mset u 49 0 := ⟨_, rfl⟩
  have hP : va_P (dC, dI) vwCl (mW h0 v cI cZ u_1) H := by rw [eu_1]; exact hP
  have hD : va_D A (mW h0 v cI cZ u_1) := by rw [eu_1]; exact hD
  refine lv_aload_n hx hb dX12_breaks_5 rfl (lv_at hl 0 rfl) ?_
  refine lv_iconst (v := (-1)) hx hb dX12_breaks_6 (by decide) ?_
  refine va_put (D := (dC, dI)) (ci := 11) (v := .int (-1)) (ty := .int) (C := RX12) (T := TX12) (N := 52) hx hb hts (by decide +kernel) tyX12 tyX12_ok nmX12 hown hK hP hD hS 0 rfl rfl 50 (by decide) (hts (.fieldLink RX12 231 "PageOneModel" "wrongOne" "I") (by decide +kernel)) (fun _ h9 => h9) rfl (by decide +kernel) rfl rfl (Nat.le_of_ble_eq_true rfl) dX12_breaks_7 (fun H locs hP hD hS => ?_)
  obtain ⟨u_2, eu_2⟩ : ∃ zz : mS, zz = mset u_1 50 (-1) := ⟨_, rfl⟩
  have hP : va_P (dC, dI) vwCl (mW h0 v cI cZ u_2) H := by rw [eu_2]; exact hP
  have hD : va_D A (mW h0 v cI cZ u_2) := by rw [eu_2]; exact hD
  refine lv_aload_n hx hb dX12_breaks_10 rfl (lv_at hl 0 rfl) ?_
  refine lv_iconst (v := (-1)) hx hb dX12_breaks_11 (by decide) ?_
  refine va_put (D := (dC, dI)) (ci := 11) (v := .int (-1)) (ty := .int) (C := RX12) (T := TX12) (N := 52) hx hb hts (by decide +kernel) tyX12 tyX12_ok nmX12 hown hK hP hD hS 0 rfl rfl 51 (by decide) (hts (.fieldLink RX12 234 "PageOneModel" "wrongTwo" "I") (by decide +kernel)) (fun _ h9 => h9) rfl (by decide +kernel) rfl rfl (Nat.le_of_ble_eq_true rfl) dX12_breaks_12 (fun H locs hP hD hS => ?_)
  obtain ⟨u_3, eu_3⟩ : ∃ zz : mS, zz = mset u_2 51 (-1) := ⟨_, rfl⟩
  have hP : va_P (dC, dI) vwCl (mW h0 v cI cZ u_3) H := by rw [eu_3]; exact hP
  have hD : va_D A (mW h0 v cI cZ u_3) := by rw [eu_3]; exact hD
  refine lv_iconst (v := 0) hx hb dX12_breaks_15 (by decide) ?_
  refine lv_istore_n (lv' := [(2, .int 0), (0, .ref h0), (1, .int p0)]) hx hb dX12_breaks_16 rfl hl (by decide) rfl (fun ls hl => ?_)
  have hg : mE u u_3 ∧ best (vTS u p0 0 0) (wr3 u_3) := ⟨by rw [eu_3, eu_2, eu_1]; exact mE_set (mE_set (mE_set (mE_rf u) (Or.inl rfl) _) (Or.inr (Or.inl rfl)) _) (Or.inr (Or.inr rfl)) _, Or.inl ⟨by rw [eu_3, eu_2, eu_1]; exact wr3_0 u, fun t => vTS_0 t⟩⟩
  refine n_br_out (u0 := u) hp hln hcl hk hx hb hml hts hown hN hK (Nat.le_of_ble_eq_true rfl) (Nat.le_of_ble_eq_true rfl) (Nat.le_of_ble_eq_true rfl) (Nat.le_of_ble_eq_true rfl) hA (fun u4 H locs ls hg hP hD hS hl => ?_) 9 0 u_3 _ _ ls (by decide) (by decide) hg hP hD hS (lv_sub hl [0, 1, 2] rfl)
  refine lv_iconst (v := 0) hx hb dX12_breaks_129 (by decide) ?_
  refine lv_istore_n (lv' := [(2, .int 0), (0, .ref h0), (1, .int p0)]) hx hb dX12_breaks_130 rfl hl (by decide) rfl (fun ls hl => ?_)
  obtain ⟨eK, eK2, eK3⟩ := nI_of_bw hn
  have h80 : (80 : Int32).toInt = 80 := rfl
  refine n_br_it (u0 := u) (M := (u.1 3).toNatClampNeg) hp hln hcl hk (by omega) eK hpc hsl hx hb hml hts hown hN hK (Nat.le_of_ble_eq_true rfl) (Nat.le_of_ble_eq_true rfl) (Nat.le_of_ble_eq_true rfl) (Nat.le_of_ble_eq_true rfl) hA (fun u5 H locs ls hg hP hD hS hl => ?_) _ 0 u4 _ _ ls (Nat.zero_le _) (Nat.lt_succ_self _) ⟨hg.1, best_c hg.2 (fun t => ⟨Or.inl, fun q => q.elim id (fun ⟨j, z, _⟩ => absurd z (Nat.not_lt_zero _))⟩)⟩ hP hD hS (lv_sub hl [0, 1, 2] rfl)
  exact W.vret hx hb hr (fun t ht hW => ⟨⟨u5, rfl, hg, by rw [ht]; exact hP, hD⟩, hS.F ht⟩) hS.2.2 dX12_breaks_256
/-- what broken answers -/
def bkX (u : mS) (p wh r : Int32) (u9 : mS) : Prop := mE u u9 ∧ (((¬ bw p 0 11 = true ∨ ¬ bw wh 0 2 = true) ∧ r = (-1)) ∨ (bw p 0 11 = true ∧ bw wh 0 2 = true ∧ ∃ b, best (brS u p (u.1 3).toNatClampNeg) b ∧ r = (if wh = 0 then b.1 else if wh = 1 then b.2.1 else b.2.2)))
set_option maxHeartbeats 4000000 in
set_option maxRecDepth 100000 in
theorem n_broken (l : Launch) (dC : Nat → ClassId) (dI : Nat → Nat → Nat) (h0 : Nat) (v : Nat → Nat) (cI cZ : ClassId) (u : mS) (p0 p1 : Int32) (hn : bw (u.1 3) 0 80 = true) (hln : ∀ j, j < 96 → bw (u.2 0 j) 0 60 = true) (hcl : ∀ j, j < 5760 → mThing (u.2 2 j) = true → bw (u.2 2 j) 0 79 = true) (hk : ∀ j, j < 80 → u.2 4 j = 3 → bw (u.2 10 j) 0 9 = true) (hpc : ∀ j, j < 80 → bw (u.2 22 j) 0 6 = true) (hsl : ∀ j, j < 480 → ∃ X D : Nat, u.2 24 j = nI X ∧ u.2 26 j = nI D ∧ X + D ≤ 8) (sz : Nat) : Met l yX12_broken wsX12_broken ({ frames := 5, cells := 0, slots := 0, locals := 114 }) (va_Pc [.ref h0, .int p0, .int p1] (fun U => U.heap.size = sz ∧ PW dC dI (mW h0 v cI cZ u) [(cI, .int), (cZ, .boolean)] U ∧ va_D (fun _ => True) (mW h0 v cI cZ u))) (va_Qi (fun (r : Int32) (u9 : mS) => bkX u p0 p1 r u9) (fun u9 t => va_P (dC, dI) vwCl (mW h0 v cI cZ u9) t.heap ∧ va_D (va_A (mW h0 v cI cZ u) sz) (mW h0 v cI cZ u9)) (va_A (mW h0 v cI cZ u) sz)) 0 0 (va_A (mW h0 v cI cZ u) sz) := by
  refine Met.ofW (cc := cX12_broken) (maxL := 3) (ret := (some .int)) (by decide) rfl ?_
  intro p e s m args below meth c s₁ B hml hv
  obtain ⟨rfl, hsz, ⟨hP, hK, hN⟩, hD0⟩ := hv
  have hx := B.exec
  have hb := B.bytes
  have hr := B.returns
  have hts := atoms_spec (ws := wsX12_broken) B.pre
  have hown : s.vm.findClass RX12 = some m.cls := findClass_of_methodNamed B.named
  have hlocks := B.notSynchronized
  subst hsz
  have hD := hD0.self (sz := s.heap.size)
  generalize hAe : va_A (mW h0 v cI cZ u) s.heap.size = A at hD ⊢
  have hA : ∀ q : Nat, s.heap.size ≤ q → A q := fun q h => by rw [← hAe]; exact Or.inr h
  have hS : va_S A s.heap s.heap [] := va_S.rf
  have hl := lv_entry ([.ref h0, .int p0, .int p1]) (n := 3) (Nat.le_of_ble_eq_true rfl)
  rw [lg_entry_eq]
  generalize (lg_sl ([.ref h0, .int p0, .int p1]) ++ List.replicate (3 - (lg_sl ([.ref h0, .int p0, .int p1])).length) Slot.unset).toArray = ls at hl ⊢
  have hl : lv_has ls 3 [(0, .ref h0), (1, .int p0), (2, .int p1)] := hl
  refine lv_iload_n hx hb dX12_broken_0 rfl (lv_at hl 1 rfl) ?_
  refine vp_callSi (va_runS (As := [.int p0]) (rest := []) ⟨hx, hb, hml, hown, hts⟩ (m_isPage l dC dI p0) (va_cwS 1 hts gX12_broken_X12_isPage rfl rfl rfl (by decide +kernel) ⟨Nat.le_of_ble_eq_true rfl, Nat.le_of_ble_eq_true rfl⟩) ⟨pw_fb, fun U hU hW => ⟨rfl, pw_to hU hW (hP.sub (ws' := []) [] rfl) (hK.sub (tys' := []) [] rfl) hN⟩⟩ rfl rfl hl.1 rfl (lv_room (Nat.le_of_ble_eq_true rfl)) dX12_broken_1 ⟨Nat.le_of_ble_eq_true rfl, Nat.le_of_ble_eq_true rfl⟩).run (fun r hw => ?_)
  rcases Bool.eq_false_or_eq_true (bw p0 0 11) with b_1 | b_1
  ·
    obtain rfl : r = 1 := b_t hw b_1
    refine lv_if_eq (tgt := 16) hx hb dX12_broken_4 (by decide) (fun c_2 => absurd c_2 (by decide)) (fun c_2 => ?_)
    refine lv_iload_n hx hb dX12_broken_7 rfl (lv_at hl 2 rfl) ?_
    refine lv_iconst (v := 0) hx hb dX12_broken_8 (by decide) ?_
    refine lv_iconst (v := 2) hx hb dX12_broken_9 (by decide) ?_
    refine vp_callSi (va_runS (As := [.int p1, .int 0, .int 2]) (rest := []) ⟨hx, hb, hml, hown, hts⟩ (m_in l dC dI p1 0 2) (va_cwS 3 hts gX12_broken_X12_in rfl rfl rfl (by decide +kernel) ⟨Nat.le_of_ble_eq_true rfl, Nat.le_of_ble_eq_true rfl⟩) ⟨pw_fb, fun U hU hW => ⟨rfl, pw_to hU hW (hP.sub (ws' := []) [] rfl) (hK.sub (tys' := []) [] rfl) hN⟩⟩ rfl rfl hl.1 rfl (lv_room (Nat.le_of_ble_eq_true rfl)) dX12_broken_10 ⟨Nat.le_of_ble_eq_true rfl, Nat.le_of_ble_eq_true rfl⟩).run (fun r hw => ?_)
    rcases Bool.eq_false_or_eq_true (bw p1 0 2) with b_3 | b_3
    ·
      obtain rfl : r = 1 := b_t hw b_3
      refine lv_if_ne (tgt := 18) hx hb dX12_broken_13 (by decide) (fun c_4 => ?_) (fun c_4 => absurd c_4 (by decide))
      refine lv_aload_n hx hb dX12_broken_18 rfl (lv_at hl 0 rfl) ?_
      refine lv_iload_n hx hb dX12_broken_19 rfl (lv_at hl 1 rfl) ?_
      have hFc := fr_all hD hS hA
      refine va_callv (va_runV (As := [.int p0]) (rest := []) ⟨hx, hb, hml, hown, hts⟩ (n_breaks l dC dI h0 v cI cZ u p0 b_1 hn hln hcl hk hpc hsl s.heap.size) (cwV 1 hts gX12_broken_X12_breaks rfl rfl rfl (by decide +kernel) ⟨Nat.le_of_ble_eq_true rfl, Nat.le_of_ble_eq_true rfl⟩) ⟨gw_fb, va_recv hK hP (ci := 11) (q0 := 0) rfl rfl, fun U hU hW => ⟨rfl, by rw [hU], pw_to hU hW hP hK hN, hD.weaken (fun _ _ _ _ => trivial)⟩⟩ rfl rfl hl.1 rfl (lv_room (Nat.le_of_ble_eq_true rfl)) dX12_broken_20 ⟨Nat.le_of_ble_eq_true rfl, Nat.le_of_ble_eq_true rfl⟩) hS (fun q _ h => hFc q h) hFc (fun u_5 t H1 locs ht hvm hw hB hz1 hk1 hS => ?_)
      obtain ⟨hP, hD1⟩ := hB
      rw [ht] at hP
      have hD := hD1.weaken (fun _ q _ h => hFc q.1 h)
      generalize H1 = H at hP hS ⊢
      have hg : mE u u_5 := hw.1
      have hbr9 := hw.2
      refine lv_iload_n hx hb dX12_broken_23 rfl (lv_at hl 2 rfl) ?_
      refine lv_if_ne (tgt := 34) hx hb dX12_broken_24 (by decide) (fun c_6 => ?_) (fun c_6 => ?_)
      ·
        refine lv_iload_n hx hb dX12_broken_34 rfl (lv_at hl 2 rfl) ?_
        refine lv_iconst (v := 1) hx hb dX12_broken_35 (by decide) ?_
        refine lv_icmp_ne (tgt := 46) hx hb dX12_broken_36 (by decide) (fun c_7 => ?_) (fun c_7 => ?_)
        ·
          refine lv_aload_n hx hb dX12_broken_46 rfl (lv_at hl 0 rfl) ?_
          refine va_get (D := (dC, dI)) (ci := 11) (v := .int (u_5.1 51)) (C := RX12) (T := TX12) (N := 52) hx hb hts (by decide +kernel) hown hK hP 0 rfl rfl 51 (by decide) (hts (.fieldLink RX12 234 "PageOneModel" "wrongTwo" "I") (by decide +kernel)) (fun _ h9 => h9) rfl dX12_broken_47 ?_
          exact W.iret (v := (u_5.1 51)) hx hb hr (fun t ht hW => ⟨⟨(u_5.1 51), u_5, rfl, ⟨hg, Or.inr ⟨b_1, b_3, _, hbr9, by first | (rw [if_neg c_6, if_pos c_7]; rfl) | (rw [if_neg c_6, if_neg c_7]; rfl)⟩⟩, by rw [ht]; exact hP, hD⟩, hS.F ht⟩) hS.2.2 dX12_broken_50
        ·
          refine lv_aload_n hx hb dX12_broken_39 rfl (lv_at hl 0 rfl) ?_
          refine va_get (D := (dC, dI)) (ci := 11) (v := .int (u_5.1 50)) (C := RX12) (T := TX12) (N := 52) hx hb hts (by decide +kernel) hown hK hP 0 rfl rfl 50 (by decide) (hts (.fieldLink RX12 231 "PageOneModel" "wrongOne" "I") (by decide +kernel)) (fun _ h9 => h9) rfl dX12_broken_40 ?_
          refine lv_goto (tgt := 50) hx hb dX12_broken_43 (by decide) ?_
          exact W.iret (v := (u_5.1 50)) hx hb hr (fun t ht hW => ⟨⟨(u_5.1 50), u_5, rfl, ⟨hg, Or.inr ⟨b_1, b_3, _, hbr9, by first | (rw [if_neg c_6, if_pos c_7]; rfl) | (rw [if_neg c_6, if_neg c_7]; rfl)⟩⟩, by rw [ht]; exact hP, hD⟩, hS.F ht⟩) hS.2.2 dX12_broken_50
      ·
        refine lv_aload_n hx hb dX12_broken_27 rfl (lv_at hl 0 rfl) ?_
        refine va_get (D := (dC, dI)) (ci := 11) (v := .int (u_5.1 49)) (C := RX12) (T := TX12) (N := 52) hx hb hts (by decide +kernel) hown hK hP 0 rfl rfl 49 (by decide) (hts (.fieldLink RX12 228 "PageOneModel" "wrong" "I") (by decide +kernel)) (fun _ h9 => h9) rfl dX12_broken_28 ?_
        refine lv_goto (tgt := 50) hx hb dX12_broken_31 (by decide) ?_
        exact W.iret (v := (u_5.1 49)) hx hb hr (fun t ht hW => ⟨⟨(u_5.1 49), u_5, rfl, ⟨hg, Or.inr ⟨b_1, b_3, _, hbr9, by rw [if_pos c_6]; rfl⟩⟩, by rw [ht]; exact hP, hD⟩, hS.F ht⟩) hS.2.2 dX12_broken_50
    ·
      obtain rfl : r = 0 := b_f hw b_3
      refine lv_if_ne (tgt := 18) hx hb dX12_broken_13 (by decide) (fun c_8 => absurd (by decide) c_8) (fun c_8 => ?_)
      refine lv_iconst (v := (-1)) hx hb dX12_broken_16 (by decide) ?_
      exact W.iret (v := (-1)) hx hb hr (fun t ht hW => ⟨⟨(-1), u, rfl, ⟨mE_rf u, Or.inl ⟨Or.inr (bne b_3), rfl⟩⟩, by rw [ht]; exact hP, hD⟩, hS.F ht⟩) hS.2.2 dX12_broken_17
  ·
    obtain rfl : r = 0 := b_f hw b_1
    refine lv_if_eq (tgt := 16) hx hb dX12_broken_4 (by decide) (fun c_9 => ?_) (fun c_9 => absurd (by decide) c_9)
    refine lv_iconst (v := (-1)) hx hb dX12_broken_16 (by decide) ?_
    exact W.iret (v := (-1)) hx hb hr (fun t ht hW => ⟨⟨(-1), u, rfl, ⟨mE_rf u, Or.inl ⟨Or.inl (bne b_1), rfl⟩⟩, by rw [ht]; exact hP, hD⟩, hS.F ht⟩) hS.2.2 dX12_broken_17
